theorem dX11_init_0 : decode cX11_init 0 = .ok (.aload_n 0, 1) := by decide +kernel
theorem dX11_init_1 : decode cX11_init 1 = .ok (.invokespecial 1, 3) := by decide +kernel
theorem dX11_init_4 : decode cX11_init 4 = .ok (.aload_n 0, 1) := by decide +kernel
theorem dX11_init_5 : decode cX11_init 5 = .ok (.sipush 381, 3) := by decide +kernel
theorem dX11_init_8 : decode cX11_init 8 = .ok (.newarray .int, 2) := by decide +kernel
theorem dX11_init_10 : decode cX11_init 10 = .ok (.putfield 7, 3) := by decide +kernel
theorem dX11_init_13 : decode cX11_init 13 = .ok (.aload_n 0, 1) := by decide +kernel
theorem dX11_init_14 : decode cX11_init 14 = .ok (.iconst 2, 1) := by decide +kernel
theorem dX11_init_15 : decode cX11_init 15 = .ok (.newarray .boolean, 2) := by decide +kernel
theorem dX11_init_17 : decode cX11_init 17 = .ok (.putfield 13, 3) := by decide +kernel
theorem dX11_init_20 : decode cX11_init 20 = .ok (.aload_n 0, 1) := by decide +kernel
theorem dX11_init_21 : decode cX11_init 21 = .ok (.iconst 4, 1) := by decide +kernel
theorem dX11_init_22 : decode cX11_init 22 = .ok (.newarray .int, 2) := by decide +kernel
theorem dX11_init_24 : decode cX11_init 24 = .ok (.putfield 17, 3) := by decide +kernel
theorem dX11_init_27 : decode cX11_init 27 = .ok (.aload_n 0, 1) := by decide +kernel
theorem dX11_init_28 : decode cX11_init 28 = .ok (.bipush 12, 2) := by decide +kernel
theorem dX11_init_30 : decode cX11_init 30 = .ok (.newarray .int, 2) := by decide +kernel
theorem dX11_init_32 : decode cX11_init 32 = .ok (.putfield 20, 3) := by decide +kernel
theorem dX11_init_35 : decode cX11_init 35 = .ok (.aload_n 0, 1) := by decide +kernel
theorem dX11_init_36 : decode cX11_init 36 = .ok (.bipush 12, 2) := by decide +kernel
theorem dX11_init_38 : decode cX11_init 38 = .ok (.newarray .int, 2) := by decide +kernel
theorem dX11_init_40 : decode cX11_init 40 = .ok (.putfield 23, 3) := by decide +kernel
theorem dX11_init_43 : decode cX11_init 43 = .ok (.aload_n 0, 1) := by decide +kernel
theorem dX11_init_44 : decode cX11_init 44 = .ok (.iconst 2, 1) := by decide +kernel
theorem dX11_init_45 : decode cX11_init 45 = .ok (.newarray .int, 2) := by decide +kernel
theorem dX11_init_47 : decode cX11_init 47 = .ok (.putfield 26, 3) := by decide +kernel
theorem dX11_init_50 : decode cX11_init 50 = .ok (.aload_n 0, 1) := by decide +kernel
theorem dX11_init_51 : decode cX11_init 51 = .ok (.bipush 6, 2) := by decide +kernel
theorem dX11_init_53 : decode cX11_init 53 = .ok (.newarray .int, 2) := by decide +kernel
theorem dX11_init_55 : decode cX11_init 55 = .ok (.putfield 29, 3) := by decide +kernel
theorem dX11_init_58 : decode cX11_init 58 = .ok (.aload_n 0, 1) := by decide +kernel
theorem dX11_init_59 : decode cX11_init 59 = .ok (.iconst 4, 1) := by decide +kernel
theorem dX11_init_60 : decode cX11_init 60 = .ok (.newarray .int, 2) := by decide +kernel
theorem dX11_init_62 : decode cX11_init 62 = .ok (.putfield 32, 3) := by decide +kernel
theorem dX11_init_65 : decode cX11_init 65 = .ok (.aload_n 0, 1) := by decide +kernel
theorem dX11_init_66 : decode cX11_init 66 = .ok (.bipush 127, 2) := by decide +kernel
theorem dX11_init_68 : decode cX11_init 68 = .ok (.newarray .int, 2) := by decide +kernel
theorem dX11_init_70 : decode cX11_init 70 = .ok (.putfield 35, 3) := by decide +kernel
theorem dX11_init_73 : decode cX11_init 73 = .ok (.aload_n 0, 1) := by decide +kernel
theorem dX11_init_74 : decode cX11_init 74 = .ok (.iconst 4, 1) := by decide +kernel
theorem dX11_init_75 : decode cX11_init 75 = .ok (.newarray .int, 2) := by decide +kernel
theorem dX11_init_77 : decode cX11_init 77 = .ok (.putfield 38, 3) := by decide +kernel
theorem dX11_init_80 : decode cX11_init 80 = .ok (.aload_n 0, 1) := by decide +kernel
theorem dX11_init_81 : decode cX11_init 81 = .ok (.bipush 12, 2) := by decide +kernel
theorem dX11_init_83 : decode cX11_init 83 = .ok (.newarray .int, 2) := by decide +kernel
theorem dX11_init_85 : decode cX11_init 85 = .ok (.putfield 41, 3) := by decide +kernel
theorem dX11_init_88 : decode cX11_init 88 = .ok (.aload_n 0, 1) := by decide +kernel
theorem dX11_init_89 : decode cX11_init 89 = .ok (.bipush 12, 2) := by decide +kernel
theorem dX11_init_91 : decode cX11_init 91 = .ok (.newarray .int, 2) := by decide +kernel
theorem dX11_init_93 : decode cX11_init 93 = .ok (.putfield 44, 3) := by decide +kernel
theorem dX11_init_96 : decode cX11_init 96 = .ok (.aload_n 0, 1) := by decide +kernel
theorem dX11_init_97 : decode cX11_init 97 = .ok (.iconst 2, 1) := by decide +kernel
theorem dX11_init_98 : decode cX11_init 98 = .ok (.newarray .int, 2) := by decide +kernel
theorem dX11_init_100 : decode cX11_init 100 = .ok (.putfield 47, 3) := by decide +kernel
theorem dX11_init_103 : decode cX11_init 103 = .ok (.aload_n 0, 1) := by decide +kernel
theorem dX11_init_104 : decode cX11_init 104 = .ok (.bipush 6, 2) := by decide +kernel
theorem dX11_init_106 : decode cX11_init 106 = .ok (.newarray .int, 2) := by decide +kernel
theorem dX11_init_108 : decode cX11_init 108 = .ok (.putfield 50, 3) := by decide +kernel
theorem dX11_init_111 : decode cX11_init 111 = .ok (.aload_n 0, 1) := by decide +kernel
theorem dX11_init_112 : decode cX11_init 112 = .ok (.iconst 4, 1) := by decide +kernel
theorem dX11_init_113 : decode cX11_init 113 = .ok (.newarray .int, 2) := by decide +kernel
theorem dX11_init_115 : decode cX11_init 115 = .ok (.putfield 53, 3) := by decide +kernel
theorem dX11_init_118 : decode cX11_init 118 = .ok (.aload_n 0, 1) := by decide +kernel
theorem dX11_init_119 : decode cX11_init 119 = .ok (.sipush 400, 3) := by decide +kernel
theorem dX11_init_122 : decode cX11_init 122 = .ok (.newarray .int, 2) := by decide +kernel
theorem dX11_init_124 : decode cX11_init 124 = .ok (.putfield 56, 3) := by decide +kernel
theorem dX11_init_127 : decode cX11_init 127 = .ok (.aload_n 0, 1) := by decide +kernel
theorem dX11_init_128 : decode cX11_init 128 = .ok (.bipush 16, 2) := by decide +kernel
theorem dX11_init_130 : decode cX11_init 130 = .ok (.newarray .int, 2) := by decide +kernel
theorem dX11_init_132 : decode cX11_init 132 = .ok (.putfield 59, 3) := by decide +kernel
theorem dX11_init_135 : decode cX11_init 135 = .ok (.aload_n 0, 1) := by decide +kernel
theorem dX11_init_136 : decode cX11_init 136 = .ok (.bipush 8, 2) := by decide +kernel
theorem dX11_init_138 : decode cX11_init 138 = .ok (.newarray .int, 2) := by decide +kernel
theorem dX11_init_140 : decode cX11_init 140 = .ok (.putfield 62, 3) := by decide +kernel
theorem dX11_init_143 : decode cX11_init 143 = .ok (.aload_n 0, 1) := by decide +kernel
theorem dX11_init_144 : decode cX11_init 144 = .ok (.bipush 16, 2) := by decide +kernel
theorem dX11_init_146 : decode cX11_init 146 = .ok (.newarray .boolean, 2) := by decide +kernel
theorem dX11_init_148 : decode cX11_init 148 = .ok (.putfield 65, 3) := by decide +kernel
theorem dX11_init_151 : decode cX11_init 151 = .ok (.aload_n 0, 1) := by decide +kernel
theorem dX11_init_152 : decode cX11_init 152 = .ok (.bipush 8, 2) := by decide +kernel
theorem dX11_init_154 : decode cX11_init 154 = .ok (.newarray .boolean, 2) := by decide +kernel
theorem dX11_init_156 : decode cX11_init 156 = .ok (.putfield 68, 3) := by decide +kernel
theorem dX11_init_159 : decode cX11_init 159 = .ok (.aload_n 0, 1) := by decide +kernel
theorem dX11_init_160 : decode cX11_init 160 = .ok (.iconst 2, 1) := by decide +kernel
theorem dX11_init_161 : decode cX11_init 161 = .ok (.newarray .int, 2) := by decide +kernel
theorem dX11_init_163 : decode cX11_init 163 = .ok (.putfield 71, 3) := by decide +kernel
theorem dX11_init_166 : decode cX11_init 166 = .ok (.aload_n 0, 1) := by decide +kernel
theorem dX11_init_167 : decode cX11_init 167 = .ok (.bipush 12, 2) := by decide +kernel
theorem dX11_init_169 : decode cX11_init 169 = .ok (.newarray .int, 2) := by decide +kernel
theorem dX11_init_171 : decode cX11_init 171 = .ok (.putfield 74, 3) := by decide +kernel
theorem dX11_init_174 : decode cX11_init 174 = .ok (.aload_n 0, 1) := by decide +kernel
theorem dX11_init_175 : decode cX11_init 175 = .ok (.sipush 4096, 3) := by decide +kernel
theorem dX11_init_178 : decode cX11_init 178 = .ok (.newarray .int, 2) := by decide +kernel
theorem dX11_init_180 : decode cX11_init 180 = .ok (.putfield 77, 3) := by decide +kernel
theorem dX11_init_183 : decode cX11_init 183 = .ok (.aload_n 0, 1) := by decide +kernel
theorem dX11_init_184 : decode cX11_init 184 = .ok (.iconst 4, 1) := by decide +kernel
theorem dX11_init_185 : decode cX11_init 185 = .ok (.newarray .int, 2) := by decide +kernel
theorem dX11_init_187 : decode cX11_init 187 = .ok (.putfield 80, 3) := by decide +kernel
theorem dX11_init_190 : decode cX11_init 190 = .ok (.aload_n 0, 1) := by decide +kernel
theorem dX11_init_191 : decode cX11_init 191 = .ok (.iconst 4, 1) := by decide +kernel
theorem dX11_init_192 : decode cX11_init 192 = .ok (.newarray .int, 2) := by decide +kernel
theorem dX11_init_194 : decode cX11_init 194 = .ok (.putfield 83, 3) := by decide +kernel
theorem dX11_init_197 : decode cX11_init 197 = .ok (.aload_n 0, 1) := by decide +kernel
theorem dX11_init_198 : decode cX11_init 198 = .ok (.sipush 160, 3) := by decide +kernel
theorem dX11_init_201 : decode cX11_init 201 = .ok (.newarray .int, 2) := by decide +kernel
theorem dX11_init_203 : decode cX11_init 203 = .ok (.putfield 86, 3) := by decide +kernel
theorem dX11_init_206 : decode cX11_init 206 = .ok (.iconst 0, 1) := by decide +kernel
theorem dX11_init_207 : decode cX11_init 207 = .ok (.istore_n 1, 1) := by decide +kernel
theorem dX11_init_208 : decode cX11_init 208 = .ok (.iload_n 1, 1) := by decide +kernel
theorem dX11_init_209 : decode cX11_init 209 = .ok (.iconst 4, 1) := by decide +kernel
theorem dX11_init_210 : decode cX11_init 210 = .ok (.if_icmp .ge 17, 3) := by decide +kernel
theorem dX11_init_213 : decode cX11_init 213 = .ok (.aload_n 0, 1) := by decide +kernel
theorem dX11_init_214 : decode cX11_init 214 = .ok (.getfield 80, 3) := by decide +kernel
theorem dX11_init_217 : decode cX11_init 217 = .ok (.iload_n 1, 1) := by decide +kernel
theorem dX11_init_218 : decode cX11_init 218 = .ok (.bipush (-4), 2) := by decide +kernel
theorem dX11_init_220 : decode cX11_init 220 = .ok (.iastore, 1) := by decide +kernel
theorem dX11_init_221 : decode cX11_init 221 = .ok (.iinc 1 1, 3) := by decide +kernel
theorem dX11_init_224 : decode cX11_init 224 = .ok (.goto (-16), 3) := by decide +kernel
theorem dX11_init_227 : decode cX11_init 227 = .ok (.aload_n 0, 1) := by decide +kernel
theorem dX11_init_228 : decode cX11_init 228 = .ok (.invokevirtual 89, 3) := by decide +kernel
theorem dX11_init_231 : decode cX11_init 231 = .ok (.aload_n 0, 1) := by decide +kernel
theorem dX11_init_232 : decode cX11_init 232 = .ok (.invokevirtual 92, 3) := by decide +kernel
theorem dX11_init_235 : decode cX11_init 235 = .ok (.return_, 1) := by decide +kernel
theorem dX11_in_0 : decode cX11_in 0 = .ok (.lload_n 0, 1) := by decide +kernel
theorem dX11_in_1 : decode cX11_in 1 = .ok (.lload_n 2, 1) := by decide +kernel
theorem dX11_in_2 : decode cX11_in 2 = .ok (.lcmp, 1) := by decide +kernel
theorem dX11_in_3 : decode cX11_in 3 = .ok (.ifCond .lt 14, 3) := by decide +kernel
theorem dX11_in_6 : decode cX11_in 6 = .ok (.lload_n 0, 1) := by decide +kernel
theorem dX11_in_7 : decode cX11_in 7 = .ok (.lload 4, 2) := by decide +kernel
theorem dX11_in_9 : decode cX11_in 9 = .ok (.lcmp, 1) := by decide +kernel
theorem dX11_in_10 : decode cX11_in 10 = .ok (.ifCond .gt 7, 3) := by decide +kernel
theorem dX11_in_13 : decode cX11_in 13 = .ok (.iconst 1, 1) := by decide +kernel
theorem dX11_in_14 : decode cX11_in 14 = .ok (.goto 4, 3) := by decide +kernel
theorem dX11_in_17 : decode cX11_in 17 = .ok (.iconst 0, 1) := by decide +kernel
theorem dX11_in_18 : decode cX11_in 18 = .ok (.ireturn, 1) := by decide +kernel
theorem dX11_flag_0 : decode cX11_flag 0 = .ok (.iload_n 0, 1) := by decide +kernel
theorem dX11_flag_1 : decode cX11_flag 1 = .ok (.ifCond .eq 7, 3) := by decide +kernel
theorem dX11_flag_4 : decode cX11_flag 4 = .ok (.iconst 1, 1) := by decide +kernel
theorem dX11_flag_5 : decode cX11_flag 5 = .ok (.goto 4, 3) := by decide +kernel
theorem dX11_flag_8 : decode cX11_flag 8 = .ok (.iconst 0, 1) := by decide +kernel
theorem dX11_flag_9 : decode cX11_flag 9 = .ok (.ireturn, 1) := by decide +kernel
theorem dX11_firstDraft_0 : decode cX11_firstDraft 0 = .ok (.iconst 0, 1) := by decide +kernel
theorem dX11_firstDraft_1 : decode cX11_firstDraft 1 = .ok (.istore_n 1, 1) := by decide +kernel
theorem dX11_firstDraft_2 : decode cX11_firstDraft 2 = .ok (.iload_n 1, 1) := by decide +kernel
theorem dX11_firstDraft_3 : decode cX11_firstDraft 3 = .ok (.bipush 127, 2) := by decide +kernel
theorem dX11_firstDraft_5 : decode cX11_firstDraft 5 = .ok (.if_icmp .ge 16, 3) := by decide +kernel
theorem dX11_firstDraft_8 : decode cX11_firstDraft 8 = .ok (.aload_n 0, 1) := by decide +kernel
theorem dX11_firstDraft_9 : decode cX11_firstDraft 9 = .ok (.getfield 35, 3) := by decide +kernel
theorem dX11_firstDraft_12 : decode cX11_firstDraft 12 = .ok (.iload_n 1, 1) := by decide +kernel
theorem dX11_firstDraft_13 : decode cX11_firstDraft 13 = .ok (.iconst 0, 1) := by decide +kernel
theorem dX11_firstDraft_14 : decode cX11_firstDraft 14 = .ok (.iastore, 1) := by decide +kernel
theorem dX11_firstDraft_15 : decode cX11_firstDraft 15 = .ok (.iinc 1 1, 3) := by decide +kernel
theorem dX11_firstDraft_18 : decode cX11_firstDraft 18 = .ok (.goto (-16), 3) := by decide +kernel
theorem dX11_firstDraft_21 : decode cX11_firstDraft 21 = .ok (.aload_n 0, 1) := by decide +kernel
theorem dX11_firstDraft_22 : decode cX11_firstDraft 22 = .ok (.iconst 5, 1) := by decide +kernel
theorem dX11_firstDraft_23 : decode cX11_firstDraft 23 = .ok (.putfield 95, 3) := by decide +kernel
theorem dX11_firstDraft_26 : decode cX11_firstDraft 26 = .ok (.aload_n 0, 1) := by decide +kernel
theorem dX11_firstDraft_27 : decode cX11_firstDraft 27 = .ok (.iconst 3, 1) := by decide +kernel
theorem dX11_firstDraft_28 : decode cX11_firstDraft 28 = .ok (.putfield 99, 3) := by decide +kernel
theorem dX11_firstDraft_31 : decode cX11_firstDraft 31 = .ok (.aload_n 0, 1) := by decide +kernel
theorem dX11_firstDraft_32 : decode cX11_firstDraft 32 = .ok (.iconst 1, 1) := by decide +kernel
theorem dX11_firstDraft_33 : decode cX11_firstDraft 33 = .ok (.putfield 102, 3) := by decide +kernel
theorem dX11_firstDraft_36 : decode cX11_firstDraft 36 = .ok (.iconst 0, 1) := by decide +kernel
theorem dX11_firstDraft_37 : decode cX11_firstDraft 37 = .ok (.istore_n 1, 1) := by decide +kernel
theorem dX11_firstDraft_38 : decode cX11_firstDraft 38 = .ok (.iload_n 1, 1) := by decide +kernel
theorem dX11_firstDraft_39 : decode cX11_firstDraft 39 = .ok (.iconst 4, 1) := by decide +kernel
theorem dX11_firstDraft_40 : decode cX11_firstDraft 40 = .ok (.if_icmp .ge 23, 3) := by decide +kernel
theorem dX11_firstDraft_43 : decode cX11_firstDraft 43 = .ok (.aload_n 0, 1) := by decide +kernel
theorem dX11_firstDraft_44 : decode cX11_firstDraft 44 = .ok (.getfield 38, 3) := by decide +kernel
theorem dX11_firstDraft_47 : decode cX11_firstDraft 47 = .ok (.iload_n 1, 1) := by decide +kernel
theorem dX11_firstDraft_48 : decode cX11_firstDraft 48 = .ok (.iconst 1, 1) := by decide +kernel
theorem dX11_firstDraft_49 : decode cX11_firstDraft 49 = .ok (.iastore, 1) := by decide +kernel
theorem dX11_firstDraft_50 : decode cX11_firstDraft 50 = .ok (.aload_n 0, 1) := by decide +kernel
theorem dX11_firstDraft_51 : decode cX11_firstDraft 51 = .ok (.getfield 53, 3) := by decide +kernel
theorem dX11_firstDraft_54 : decode cX11_firstDraft 54 = .ok (.iload_n 1, 1) := by decide +kernel
theorem dX11_firstDraft_55 : decode cX11_firstDraft 55 = .ok (.iload_n 1, 1) := by decide +kernel
theorem dX11_firstDraft_56 : decode cX11_firstDraft 56 = .ok (.iastore, 1) := by decide +kernel
theorem dX11_firstDraft_57 : decode cX11_firstDraft 57 = .ok (.iinc 1 1, 3) := by decide +kernel
theorem dX11_firstDraft_60 : decode cX11_firstDraft 60 = .ok (.goto (-22), 3) := by decide +kernel
theorem dX11_firstDraft_63 : decode cX11_firstDraft 63 = .ok (.iconst 0, 1) := by decide +kernel
theorem dX11_firstDraft_64 : decode cX11_firstDraft 64 = .ok (.istore_n 1, 1) := by decide +kernel
theorem dX11_firstDraft_65 : decode cX11_firstDraft 65 = .ok (.iload_n 1, 1) := by decide +kernel
theorem dX11_firstDraft_66 : decode cX11_firstDraft 66 = .ok (.bipush 12, 2) := by decide +kernel
theorem dX11_firstDraft_68 : decode cX11_firstDraft 68 = .ok (.if_icmp .ge 34, 3) := by decide +kernel
theorem dX11_firstDraft_71 : decode cX11_firstDraft 71 = .ok (.aload_n 0, 1) := by decide +kernel
theorem dX11_firstDraft_72 : decode cX11_firstDraft 72 = .ok (.getfield 41, 3) := by decide +kernel
theorem dX11_firstDraft_75 : decode cX11_firstDraft 75 = .ok (.iload_n 1, 1) := by decide +kernel
theorem dX11_firstDraft_76 : decode cX11_firstDraft 76 = .ok (.iconst 5, 1) := by decide +kernel
theorem dX11_firstDraft_77 : decode cX11_firstDraft 77 = .ok (.iastore, 1) := by decide +kernel
theorem dX11_firstDraft_78 : decode cX11_firstDraft 78 = .ok (.aload_n 0, 1) := by decide +kernel
theorem dX11_firstDraft_79 : decode cX11_firstDraft 79 = .ok (.getfield 44, 3) := by decide +kernel
theorem dX11_firstDraft_82 : decode cX11_firstDraft 82 = .ok (.iload_n 1, 1) := by decide +kernel
theorem dX11_firstDraft_83 : decode cX11_firstDraft 83 = .ok (.iload_n 1, 1) := by decide +kernel
theorem dX11_firstDraft_84 : decode cX11_firstDraft 84 = .ok (.bipush 6, 2) := by decide +kernel
theorem dX11_firstDraft_86 : decode cX11_firstDraft 86 = .ok (.irem, 1) := by decide +kernel
theorem dX11_firstDraft_87 : decode cX11_firstDraft 87 = .ok (.ifCond .ne 7, 3) := by decide +kernel
theorem dX11_firstDraft_90 : decode cX11_firstDraft 90 = .ok (.iconst 0, 1) := by decide +kernel
theorem dX11_firstDraft_91 : decode cX11_firstDraft 91 = .ok (.goto 4, 3) := by decide +kernel
theorem dX11_firstDraft_94 : decode cX11_firstDraft 94 = .ok (.iconst 3, 1) := by decide +kernel
theorem dX11_firstDraft_95 : decode cX11_firstDraft 95 = .ok (.iastore, 1) := by decide +kernel
theorem dX11_firstDraft_96 : decode cX11_firstDraft 96 = .ok (.iinc 1 1, 3) := by decide +kernel
theorem dX11_firstDraft_99 : decode cX11_firstDraft 99 = .ok (.goto (-34), 3) := by decide +kernel
theorem dX11_firstDraft_102 : decode cX11_firstDraft 102 = .ok (.aload_n 0, 1) := by decide +kernel
theorem dX11_firstDraft_103 : decode cX11_firstDraft 103 = .ok (.getfield 47, 3) := by decide +kernel
theorem dX11_firstDraft_106 : decode cX11_firstDraft 106 = .ok (.iconst 0, 1) := by decide +kernel
theorem dX11_firstDraft_107 : decode cX11_firstDraft 107 = .ok (.iconst 0, 1) := by decide +kernel
theorem dX11_firstDraft_108 : decode cX11_firstDraft 108 = .ok (.iastore, 1) := by decide +kernel
theorem dX11_firstDraft_109 : decode cX11_firstDraft 109 = .ok (.aload_n 0, 1) := by decide +kernel
theorem dX11_firstDraft_110 : decode cX11_firstDraft 110 = .ok (.getfield 47, 3) := by decide +kernel
theorem dX11_firstDraft_113 : decode cX11_firstDraft 113 = .ok (.iconst 1, 1) := by decide +kernel
theorem dX11_firstDraft_114 : decode cX11_firstDraft 114 = .ok (.iconst 0, 1) := by decide +kernel
theorem dX11_firstDraft_115 : decode cX11_firstDraft 115 = .ok (.iastore, 1) := by decide +kernel
theorem dX11_firstDraft_116 : decode cX11_firstDraft 116 = .ok (.iconst 0, 1) := by decide +kernel
theorem dX11_firstDraft_117 : decode cX11_firstDraft 117 = .ok (.istore_n 1, 1) := by decide +kernel
theorem dX11_firstDraft_118 : decode cX11_firstDraft 118 = .ok (.iload_n 1, 1) := by decide +kernel
theorem dX11_firstDraft_119 : decode cX11_firstDraft 119 = .ok (.bipush 6, 2) := by decide +kernel
theorem dX11_firstDraft_121 : decode cX11_firstDraft 121 = .ok (.if_icmp .ge 16, 3) := by decide +kernel
theorem dX11_firstDraft_124 : decode cX11_firstDraft 124 = .ok (.aload_n 0, 1) := by decide +kernel
theorem dX11_firstDraft_125 : decode cX11_firstDraft 125 = .ok (.getfield 50, 3) := by decide +kernel
theorem dX11_firstDraft_128 : decode cX11_firstDraft 128 = .ok (.iload_n 1, 1) := by decide +kernel
theorem dX11_firstDraft_129 : decode cX11_firstDraft 129 = .ok (.iload_n 1, 1) := by decide +kernel
theorem dX11_firstDraft_130 : decode cX11_firstDraft 130 = .ok (.iastore, 1) := by decide +kernel
theorem dX11_firstDraft_131 : decode cX11_firstDraft 131 = .ok (.iinc 1 1, 3) := by decide +kernel
theorem dX11_firstDraft_134 : decode cX11_firstDraft 134 = .ok (.goto (-16), 3) := by decide +kernel
theorem dX11_firstDraft_137 : decode cX11_firstDraft 137 = .ok (.aload_n 0, 1) := by decide +kernel
theorem dX11_firstDraft_138 : decode cX11_firstDraft 138 = .ok (.iconst 0, 1) := by decide +kernel
theorem dX11_firstDraft_139 : decode cX11_firstDraft 139 = .ok (.putfield 105, 3) := by decide +kernel
theorem dX11_firstDraft_142 : decode cX11_firstDraft 142 = .ok (.aload_n 0, 1) := by decide +kernel
theorem dX11_firstDraft_143 : decode cX11_firstDraft 143 = .ok (.iconst 0, 1) := by decide +kernel
theorem dX11_firstDraft_144 : decode cX11_firstDraft 144 = .ok (.putfield 108, 3) := by decide +kernel
theorem dX11_firstDraft_147 : decode cX11_firstDraft 147 = .ok (.aload_n 0, 1) := by decide +kernel
theorem dX11_firstDraft_148 : decode cX11_firstDraft 148 = .ok (.iconst 0, 1) := by decide +kernel
theorem dX11_firstDraft_149 : decode cX11_firstDraft 149 = .ok (.putfield 111, 3) := by decide +kernel
theorem dX11_firstDraft_152 : decode cX11_firstDraft 152 = .ok (.aload_n 0, 1) := by decide +kernel
theorem dX11_firstDraft_153 : decode cX11_firstDraft 153 = .ok (.iconst 0, 1) := by decide +kernel
theorem dX11_firstDraft_154 : decode cX11_firstDraft 154 = .ok (.putfield 114, 3) := by decide +kernel
theorem dX11_firstDraft_157 : decode cX11_firstDraft 157 = .ok (.aload_n 0, 1) := by decide +kernel
theorem dX11_firstDraft_158 : decode cX11_firstDraft 158 = .ok (.iconst 0, 1) := by decide +kernel
theorem dX11_firstDraft_159 : decode cX11_firstDraft 159 = .ok (.putfield 117, 3) := by decide +kernel
theorem dX11_firstDraft_162 : decode cX11_firstDraft 162 = .ok (.aload_n 0, 1) := by decide +kernel
theorem dX11_firstDraft_163 : decode cX11_firstDraft 163 = .ok (.iconst 0, 1) := by decide +kernel
theorem dX11_firstDraft_164 : decode cX11_firstDraft 164 = .ok (.putfield 120, 3) := by decide +kernel
theorem dX11_firstDraft_167 : decode cX11_firstDraft 167 = .ok (.aload_n 0, 1) := by decide +kernel
theorem dX11_firstDraft_168 : decode cX11_firstDraft 168 = .ok (.iconst 0, 1) := by decide +kernel
theorem dX11_firstDraft_169 : decode cX11_firstDraft 169 = .ok (.putfield 123, 3) := by decide +kernel
theorem dX11_firstDraft_172 : decode cX11_firstDraft 172 = .ok (.aload_n 0, 1) := by decide +kernel
theorem dX11_firstDraft_173 : decode cX11_firstDraft 173 = .ok (.bipush (-4), 2) := by decide +kernel
theorem dX11_firstDraft_175 : decode cX11_firstDraft 175 = .ok (.putfield 126, 3) := by decide +kernel
theorem dX11_firstDraft_178 : decode cX11_firstDraft 178 = .ok (.return_, 1) := by decide +kernel
theorem dX11_keepDraft_0 : decode cX11_keepDraft 0 = .ok (.iconst 0, 1) := by decide +kernel
theorem dX11_keepDraft_1 : decode cX11_keepDraft 1 = .ok (.istore_n 1, 1) := by decide +kernel
theorem dX11_keepDraft_2 : decode cX11_keepDraft 2 = .ok (.iload_n 1, 1) := by decide +kernel
theorem dX11_keepDraft_3 : decode cX11_keepDraft 3 = .ok (.bipush 127, 2) := by decide +kernel
theorem dX11_keepDraft_5 : decode cX11_keepDraft 5 = .ok (.if_icmp .ge 21, 3) := by decide +kernel
theorem dX11_keepDraft_8 : decode cX11_keepDraft 8 = .ok (.aload_n 0, 1) := by decide +kernel
theorem dX11_keepDraft_9 : decode cX11_keepDraft 9 = .ok (.getfield 7, 3) := by decide +kernel
theorem dX11_keepDraft_12 : decode cX11_keepDraft 12 = .ok (.iload_n 1, 1) := by decide +kernel
theorem dX11_keepDraft_13 : decode cX11_keepDraft 13 = .ok (.aload_n 0, 1) := by decide +kernel
theorem dX11_keepDraft_14 : decode cX11_keepDraft 14 = .ok (.getfield 35, 3) := by decide +kernel
theorem dX11_keepDraft_17 : decode cX11_keepDraft 17 = .ok (.iload_n 1, 1) := by decide +kernel
theorem dX11_keepDraft_18 : decode cX11_keepDraft 18 = .ok (.iaload, 1) := by decide +kernel
theorem dX11_keepDraft_19 : decode cX11_keepDraft 19 = .ok (.iastore, 1) := by decide +kernel
theorem dX11_keepDraft_20 : decode cX11_keepDraft 20 = .ok (.iinc 1 1, 3) := by decide +kernel
theorem dX11_keepDraft_23 : decode cX11_keepDraft 23 = .ok (.goto (-21), 3) := by decide +kernel
theorem dX11_keepDraft_26 : decode cX11_keepDraft 26 = .ok (.aload_n 0, 1) := by decide +kernel
theorem dX11_keepDraft_27 : decode cX11_keepDraft 27 = .ok (.aload_n 0, 1) := by decide +kernel
theorem dX11_keepDraft_28 : decode cX11_keepDraft 28 = .ok (.getfield 95, 3) := by decide +kernel
theorem dX11_keepDraft_31 : decode cX11_keepDraft 31 = .ok (.putfield 129, 3) := by decide +kernel
theorem dX11_keepDraft_34 : decode cX11_keepDraft 34 = .ok (.aload_n 0, 1) := by decide +kernel
theorem dX11_keepDraft_35 : decode cX11_keepDraft 35 = .ok (.aload_n 0, 1) := by decide +kernel
theorem dX11_keepDraft_36 : decode cX11_keepDraft 36 = .ok (.getfield 99, 3) := by decide +kernel
theorem dX11_keepDraft_39 : decode cX11_keepDraft 39 = .ok (.putfield 132, 3) := by decide +kernel
theorem dX11_keepDraft_42 : decode cX11_keepDraft 42 = .ok (.aload_n 0, 1) := by decide +kernel
theorem dX11_keepDraft_43 : decode cX11_keepDraft 43 = .ok (.aload_n 0, 1) := by decide +kernel
theorem dX11_keepDraft_44 : decode cX11_keepDraft 44 = .ok (.getfield 102, 3) := by decide +kernel
theorem dX11_keepDraft_47 : decode cX11_keepDraft 47 = .ok (.putfield 135, 3) := by decide +kernel
theorem dX11_keepDraft_50 : decode cX11_keepDraft 50 = .ok (.iconst 0, 1) := by decide +kernel
theorem dX11_keepDraft_51 : decode cX11_keepDraft 51 = .ok (.istore_n 1, 1) := by decide +kernel
theorem dX11_keepDraft_52 : decode cX11_keepDraft 52 = .ok (.iload_n 1, 1) := by decide +kernel
theorem dX11_keepDraft_53 : decode cX11_keepDraft 53 = .ok (.iconst 4, 1) := by decide +kernel
theorem dX11_keepDraft_54 : decode cX11_keepDraft 54 = .ok (.if_icmp .ge 33, 3) := by decide +kernel
theorem dX11_keepDraft_57 : decode cX11_keepDraft 57 = .ok (.aload_n 0, 1) := by decide +kernel
theorem dX11_keepDraft_58 : decode cX11_keepDraft 58 = .ok (.getfield 17, 3) := by decide +kernel
theorem dX11_keepDraft_61 : decode cX11_keepDraft 61 = .ok (.iload_n 1, 1) := by decide +kernel
theorem dX11_keepDraft_62 : decode cX11_keepDraft 62 = .ok (.aload_n 0, 1) := by decide +kernel
theorem dX11_keepDraft_63 : decode cX11_keepDraft 63 = .ok (.getfield 38, 3) := by decide +kernel
theorem dX11_keepDraft_66 : decode cX11_keepDraft 66 = .ok (.iload_n 1, 1) := by decide +kernel
theorem dX11_keepDraft_67 : decode cX11_keepDraft 67 = .ok (.iaload, 1) := by decide +kernel
theorem dX11_keepDraft_68 : decode cX11_keepDraft 68 = .ok (.iastore, 1) := by decide +kernel
theorem dX11_keepDraft_69 : decode cX11_keepDraft 69 = .ok (.aload_n 0, 1) := by decide +kernel
theorem dX11_keepDraft_70 : decode cX11_keepDraft 70 = .ok (.getfield 32, 3) := by decide +kernel
theorem dX11_keepDraft_73 : decode cX11_keepDraft 73 = .ok (.iload_n 1, 1) := by decide +kernel
theorem dX11_keepDraft_74 : decode cX11_keepDraft 74 = .ok (.aload_n 0, 1) := by decide +kernel
theorem dX11_keepDraft_75 : decode cX11_keepDraft 75 = .ok (.getfield 53, 3) := by decide +kernel
theorem dX11_keepDraft_78 : decode cX11_keepDraft 78 = .ok (.iload_n 1, 1) := by decide +kernel
theorem dX11_keepDraft_79 : decode cX11_keepDraft 79 = .ok (.iaload, 1) := by decide +kernel
theorem dX11_keepDraft_80 : decode cX11_keepDraft 80 = .ok (.iastore, 1) := by decide +kernel
theorem dX11_keepDraft_81 : decode cX11_keepDraft 81 = .ok (.iinc 1 1, 3) := by decide +kernel
theorem dX11_keepDraft_84 : decode cX11_keepDraft 84 = .ok (.goto (-32), 3) := by decide +kernel
theorem dX11_keepDraft_87 : decode cX11_keepDraft 87 = .ok (.iconst 0, 1) := by decide +kernel
theorem dX11_keepDraft_88 : decode cX11_keepDraft 88 = .ok (.istore_n 1, 1) := by decide +kernel
theorem dX11_keepDraft_89 : decode cX11_keepDraft 89 = .ok (.iload_n 1, 1) := by decide +kernel
theorem dX11_keepDraft_90 : decode cX11_keepDraft 90 = .ok (.bipush 12, 2) := by decide +kernel
theorem dX11_keepDraft_92 : decode cX11_keepDraft 92 = .ok (.if_icmp .ge 47, 3) := by decide +kernel
theorem dX11_keepDraft_95 : decode cX11_keepDraft 95 = .ok (.aload_n 0, 1) := by decide +kernel
theorem dX11_keepDraft_96 : decode cX11_keepDraft 96 = .ok (.getfield 20, 3) := by decide +kernel
theorem dX11_keepDraft_99 : decode cX11_keepDraft 99 = .ok (.iload_n 1, 1) := by decide +kernel
theorem dX11_keepDraft_100 : decode cX11_keepDraft 100 = .ok (.iload_n 1, 1) := by decide +kernel
theorem dX11_keepDraft_101 : decode cX11_keepDraft 101 = .ok (.bipush 6, 2) := by decide +kernel
theorem dX11_keepDraft_103 : decode cX11_keepDraft 103 = .ok (.irem, 1) := by decide +kernel
theorem dX11_keepDraft_104 : decode cX11_keepDraft 104 = .ok (.ifCond .ne 10, 3) := by decide +kernel
theorem dX11_keepDraft_107 : decode cX11_keepDraft 107 = .ok (.aload_n 0, 1) := by decide +kernel
theorem dX11_keepDraft_108 : decode cX11_keepDraft 108 = .ok (.getfield 102, 3) := by decide +kernel
theorem dX11_keepDraft_111 : decode cX11_keepDraft 111 = .ok (.goto 9, 3) := by decide +kernel
theorem dX11_keepDraft_114 : decode cX11_keepDraft 114 = .ok (.aload_n 0, 1) := by decide +kernel
theorem dX11_keepDraft_115 : decode cX11_keepDraft 115 = .ok (.getfield 41, 3) := by decide +kernel
theorem dX11_keepDraft_118 : decode cX11_keepDraft 118 = .ok (.iload_n 1, 1) := by decide +kernel
theorem dX11_keepDraft_119 : decode cX11_keepDraft 119 = .ok (.iaload, 1) := by decide +kernel
theorem dX11_keepDraft_120 : decode cX11_keepDraft 120 = .ok (.iastore, 1) := by decide +kernel
theorem dX11_keepDraft_121 : decode cX11_keepDraft 121 = .ok (.aload_n 0, 1) := by decide +kernel
theorem dX11_keepDraft_122 : decode cX11_keepDraft 122 = .ok (.getfield 23, 3) := by decide +kernel
theorem dX11_keepDraft_125 : decode cX11_keepDraft 125 = .ok (.iload_n 1, 1) := by decide +kernel
theorem dX11_keepDraft_126 : decode cX11_keepDraft 126 = .ok (.aload_n 0, 1) := by decide +kernel
theorem dX11_keepDraft_127 : decode cX11_keepDraft 127 = .ok (.getfield 44, 3) := by decide +kernel
theorem dX11_keepDraft_130 : decode cX11_keepDraft 130 = .ok (.iload_n 1, 1) := by decide +kernel
theorem dX11_keepDraft_131 : decode cX11_keepDraft 131 = .ok (.iaload, 1) := by decide +kernel
theorem dX11_keepDraft_132 : decode cX11_keepDraft 132 = .ok (.iastore, 1) := by decide +kernel
theorem dX11_keepDraft_133 : decode cX11_keepDraft 133 = .ok (.iinc 1 1, 3) := by decide +kernel
theorem dX11_keepDraft_136 : decode cX11_keepDraft 136 = .ok (.goto (-47), 3) := by decide +kernel
theorem dX11_keepDraft_139 : decode cX11_keepDraft 139 = .ok (.aload_n 0, 1) := by decide +kernel
theorem dX11_keepDraft_140 : decode cX11_keepDraft 140 = .ok (.getfield 26, 3) := by decide +kernel
theorem dX11_keepDraft_143 : decode cX11_keepDraft 143 = .ok (.iconst 0, 1) := by decide +kernel
theorem dX11_keepDraft_144 : decode cX11_keepDraft 144 = .ok (.aload_n 0, 1) := by decide +kernel
theorem dX11_keepDraft_145 : decode cX11_keepDraft 145 = .ok (.getfield 47, 3) := by decide +kernel
theorem dX11_keepDraft_148 : decode cX11_keepDraft 148 = .ok (.iconst 0, 1) := by decide +kernel
theorem dX11_keepDraft_149 : decode cX11_keepDraft 149 = .ok (.iaload, 1) := by decide +kernel
theorem dX11_keepDraft_150 : decode cX11_keepDraft 150 = .ok (.iastore, 1) := by decide +kernel
theorem dX11_keepDraft_151 : decode cX11_keepDraft 151 = .ok (.aload_n 0, 1) := by decide +kernel
theorem dX11_keepDraft_152 : decode cX11_keepDraft 152 = .ok (.getfield 26, 3) := by decide +kernel
theorem dX11_keepDraft_155 : decode cX11_keepDraft 155 = .ok (.iconst 1, 1) := by decide +kernel
theorem dX11_keepDraft_156 : decode cX11_keepDraft 156 = .ok (.aload_n 0, 1) := by decide +kernel
theorem dX11_keepDraft_157 : decode cX11_keepDraft 157 = .ok (.getfield 47, 3) := by decide +kernel
theorem dX11_keepDraft_160 : decode cX11_keepDraft 160 = .ok (.iconst 1, 1) := by decide +kernel
theorem dX11_keepDraft_161 : decode cX11_keepDraft 161 = .ok (.iaload, 1) := by decide +kernel
theorem dX11_keepDraft_162 : decode cX11_keepDraft 162 = .ok (.iastore, 1) := by decide +kernel
theorem dX11_keepDraft_163 : decode cX11_keepDraft 163 = .ok (.aload_n 0, 1) := by decide +kernel
theorem dX11_keepDraft_164 : decode cX11_keepDraft 164 = .ok (.aload_n 0, 1) := by decide +kernel
theorem dX11_keepDraft_165 : decode cX11_keepDraft 165 = .ok (.getfield 105, 3) := by decide +kernel
theorem dX11_keepDraft_168 : decode cX11_keepDraft 168 = .ok (.putfield 138, 3) := by decide +kernel
theorem dX11_keepDraft_171 : decode cX11_keepDraft 171 = .ok (.iconst 0, 1) := by decide +kernel
theorem dX11_keepDraft_172 : decode cX11_keepDraft 172 = .ok (.istore_n 1, 1) := by decide +kernel
theorem dX11_keepDraft_173 : decode cX11_keepDraft 173 = .ok (.iload_n 1, 1) := by decide +kernel
theorem dX11_keepDraft_174 : decode cX11_keepDraft 174 = .ok (.bipush 6, 2) := by decide +kernel
theorem dX11_keepDraft_176 : decode cX11_keepDraft 176 = .ok (.if_icmp .ge 45, 3) := by decide +kernel
theorem dX11_keepDraft_179 : decode cX11_keepDraft 179 = .ok (.aload_n 0, 1) := by decide +kernel
theorem dX11_keepDraft_180 : decode cX11_keepDraft 180 = .ok (.getfield 29, 3) := by decide +kernel
theorem dX11_keepDraft_183 : decode cX11_keepDraft 183 = .ok (.iload_n 1, 1) := by decide +kernel
theorem dX11_keepDraft_184 : decode cX11_keepDraft 184 = .ok (.aload_n 0, 1) := by decide +kernel
theorem dX11_keepDraft_185 : decode cX11_keepDraft 185 = .ok (.getfield 50, 3) := by decide +kernel
theorem dX11_keepDraft_188 : decode cX11_keepDraft 188 = .ok (.iload_n 1, 1) := by decide +kernel
theorem dX11_keepDraft_189 : decode cX11_keepDraft 189 = .ok (.iaload, 1) := by decide +kernel
theorem dX11_keepDraft_190 : decode cX11_keepDraft 190 = .ok (.iastore, 1) := by decide +kernel
theorem dX11_keepDraft_191 : decode cX11_keepDraft 191 = .ok (.aload_n 0, 1) := by decide +kernel
theorem dX11_keepDraft_192 : decode cX11_keepDraft 192 = .ok (.dup, 1) := by decide +kernel
theorem dX11_keepDraft_193 : decode cX11_keepDraft 193 = .ok (.getfield 138, 3) := by decide +kernel
theorem dX11_keepDraft_196 : decode cX11_keepDraft 196 = .ok (.aload_n 0, 1) := by decide +kernel
theorem dX11_keepDraft_197 : decode cX11_keepDraft 197 = .ok (.getfield 105, 3) := by decide +kernel
theorem dX11_keepDraft_200 : decode cX11_keepDraft 200 = .ok (.iload_n 1, 1) := by decide +kernel
theorem dX11_keepDraft_201 : decode cX11_keepDraft 201 = .ok (.ishr, 1) := by decide +kernel
theorem dX11_keepDraft_202 : decode cX11_keepDraft 202 = .ok (.iconst 1, 1) := by decide +kernel
theorem dX11_keepDraft_203 : decode cX11_keepDraft 203 = .ok (.iand, 1) := by decide +kernel
theorem dX11_keepDraft_204 : decode cX11_keepDraft 204 = .ok (.aload_n 0, 1) := by decide +kernel
theorem dX11_keepDraft_205 : decode cX11_keepDraft 205 = .ok (.getfield 50, 3) := by decide +kernel
theorem dX11_keepDraft_208 : decode cX11_keepDraft 208 = .ok (.iload_n 1, 1) := by decide +kernel
theorem dX11_keepDraft_209 : decode cX11_keepDraft 209 = .ok (.iaload, 1) := by decide +kernel
theorem dX11_keepDraft_210 : decode cX11_keepDraft 210 = .ok (.ishl, 1) := by decide +kernel
theorem dX11_keepDraft_211 : decode cX11_keepDraft 211 = .ok (.ior, 1) := by decide +kernel
theorem dX11_keepDraft_212 : decode cX11_keepDraft 212 = .ok (.putfield 138, 3) := by decide +kernel
theorem dX11_keepDraft_215 : decode cX11_keepDraft 215 = .ok (.iinc 1 1, 3) := by decide +kernel
theorem dX11_keepDraft_218 : decode cX11_keepDraft 218 = .ok (.goto (-45), 3) := by decide +kernel
theorem dX11_keepDraft_221 : decode cX11_keepDraft 221 = .ok (.aload_n 0, 1) := by decide +kernel
theorem dX11_keepDraft_222 : decode cX11_keepDraft 222 = .ok (.getfield 13, 3) := by decide +kernel
theorem dX11_keepDraft_225 : decode cX11_keepDraft 225 = .ok (.iconst 0, 1) := by decide +kernel
theorem dX11_keepDraft_226 : decode cX11_keepDraft 226 = .ok (.iconst 0, 1) := by decide +kernel
theorem dX11_keepDraft_227 : decode cX11_keepDraft 227 = .ok (.bastore, 1) := by decide +kernel
theorem dX11_keepDraft_228 : decode cX11_keepDraft 228 = .ok (.aload_n 0, 1) := by decide +kernel
theorem dX11_keepDraft_229 : decode cX11_keepDraft 229 = .ok (.getfield 13, 3) := by decide +kernel
theorem dX11_keepDraft_232 : decode cX11_keepDraft 232 = .ok (.iconst 1, 1) := by decide +kernel
theorem dX11_keepDraft_233 : decode cX11_keepDraft 233 = .ok (.iconst 0, 1) := by decide +kernel
theorem dX11_keepDraft_234 : decode cX11_keepDraft 234 = .ok (.bastore, 1) := by decide +kernel
theorem dX11_keepDraft_235 : decode cX11_keepDraft 235 = .ok (.return_, 1) := by decide +kernel
theorem dX11_feed_0 : decode cX11_feed 0 = .ok (.aload_n 0, 1) := by decide +kernel
theorem dX11_feed_1 : decode cX11_feed 1 = .ok (.getfield 141, 3) := by decide +kernel
theorem dX11_feed_4 : decode cX11_feed 4 = .ok (.bipush 8, 2) := by decide +kernel
theorem dX11_feed_6 : decode cX11_feed 6 = .ok (.iadd, 1) := by decide +kernel
theorem dX11_feed_7 : decode cX11_feed 7 = .ok (.sipush 400, 3) := by decide +kernel
theorem dX11_feed_10 : decode cX11_feed 10 = .ok (.if_icmp .le 6, 3) := by decide +kernel
theorem dX11_feed_13 : decode cX11_feed 13 = .ok (.bipush (-3), 2) := by decide +kernel
theorem dX11_feed_15 : decode cX11_feed 15 = .ok (.ireturn, 1) := by decide +kernel
theorem dX11_feed_16 : decode cX11_feed 16 = .ok (.bipush 56, 2) := by decide +kernel
theorem dX11_feed_18 : decode cX11_feed 18 = .ok (.istore_n 3, 1) := by decide +kernel
theorem dX11_feed_19 : decode cX11_feed 19 = .ok (.iload_n 3, 1) := by decide +kernel
theorem dX11_feed_20 : decode cX11_feed 20 = .ok (.ifCond .lt 36, 3) := by decide +kernel
theorem dX11_feed_23 : decode cX11_feed 23 = .ok (.aload_n 0, 1) := by decide +kernel
theorem dX11_feed_24 : decode cX11_feed 24 = .ok (.getfield 56, 3) := by decide +kernel
theorem dX11_feed_27 : decode cX11_feed 27 = .ok (.aload_n 0, 1) := by decide +kernel
theorem dX11_feed_28 : decode cX11_feed 28 = .ok (.getfield 141, 3) := by decide +kernel
theorem dX11_feed_31 : decode cX11_feed 31 = .ok (.lload_n 1, 1) := by decide +kernel
theorem dX11_feed_32 : decode cX11_feed 32 = .ok (.iload_n 3, 1) := by decide +kernel
theorem dX11_feed_33 : decode cX11_feed 33 = .ok (.lshr, 1) := by decide +kernel
theorem dX11_feed_34 : decode cX11_feed 34 = .ok (.ldc2_w 144, 3) := by decide +kernel
theorem dX11_feed_37 : decode cX11_feed 37 = .ok (.land, 1) := by decide +kernel
theorem dX11_feed_38 : decode cX11_feed 38 = .ok (.l2i, 1) := by decide +kernel
theorem dX11_feed_39 : decode cX11_feed 39 = .ok (.iastore, 1) := by decide +kernel
theorem dX11_feed_40 : decode cX11_feed 40 = .ok (.aload_n 0, 1) := by decide +kernel
theorem dX11_feed_41 : decode cX11_feed 41 = .ok (.dup, 1) := by decide +kernel
theorem dX11_feed_42 : decode cX11_feed 42 = .ok (.getfield 141, 3) := by decide +kernel
theorem dX11_feed_45 : decode cX11_feed 45 = .ok (.iconst 1, 1) := by decide +kernel
theorem dX11_feed_46 : decode cX11_feed 46 = .ok (.iadd, 1) := by decide +kernel
theorem dX11_feed_47 : decode cX11_feed 47 = .ok (.putfield 141, 3) := by decide +kernel
theorem dX11_feed_50 : decode cX11_feed 50 = .ok (.iinc 3 (-8), 3) := by decide +kernel
theorem dX11_feed_53 : decode cX11_feed 53 = .ok (.goto (-34), 3) := by decide +kernel
theorem dX11_feed_56 : decode cX11_feed 56 = .ok (.aload_n 0, 1) := by decide +kernel
theorem dX11_feed_57 : decode cX11_feed 57 = .ok (.getfield 141, 3) := by decide +kernel
theorem dX11_feed_60 : decode cX11_feed 60 = .ok (.ireturn, 1) := by decide +kernel
theorem dX11_end_0 : decode cX11_end 0 = .ok (.iload_n 1, 1) := by decide +kernel
theorem dX11_end_1 : decode cX11_end 1 = .ok (.i2l, 1) := by decide +kernel
theorem dX11_end_2 : decode cX11_end 2 = .ok (.lconst 0, 1) := by decide +kernel
theorem dX11_end_3 : decode cX11_end 3 = .ok (.aload_n 0, 1) := by decide +kernel
theorem dX11_end_4 : decode cX11_end 4 = .ok (.getfield 141, 3) := by decide +kernel
theorem dX11_end_7 : decode cX11_end 7 = .ok (.i2l, 1) := by decide +kernel
theorem dX11_end_8 : decode cX11_end 8 = .ok (.invokestatic 146, 3) := by decide +kernel
theorem dX11_end_11 : decode cX11_end 11 = .ok (.ifCond .ne 5, 3) := by decide +kernel
theorem dX11_end_14 : decode cX11_end 14 = .ok (.iconst (-1), 1) := by decide +kernel
theorem dX11_end_15 : decode cX11_end 15 = .ok (.ireturn, 1) := by decide +kernel
theorem dX11_end_16 : decode cX11_end 16 = .ok (.aload_n 0, 1) := by decide +kernel
theorem dX11_end_17 : decode cX11_end 17 = .ok (.getfield 141, 3) := by decide +kernel
theorem dX11_end_20 : decode cX11_end 20 = .ok (.istore_n 2, 1) := by decide +kernel
theorem dX11_end_21 : decode cX11_end 21 = .ok (.aload_n 0, 1) := by decide +kernel
theorem dX11_end_22 : decode cX11_end 22 = .ok (.iload_n 1, 1) := by decide +kernel
theorem dX11_end_23 : decode cX11_end 23 = .ok (.putfield 141, 3) := by decide +kernel
theorem dX11_end_26 : decode cX11_end 26 = .ok (.iload_n 2, 1) := by decide +kernel
theorem dX11_end_27 : decode cX11_end 27 = .ok (.ireturn, 1) := by decide +kernel
theorem dX11_needs_0 : decode cX11_needs 0 = .ok (.iload_n 1, 1) := by decide +kernel
theorem dX11_needs_1 : decode cX11_needs 1 = .ok (.ifCond .ne 23, 3) := by decide +kernel
theorem dX11_needs_4 : decode cX11_needs 4 = .ok (.aload_n 0, 1) := by decide +kernel
theorem dX11_needs_5 : decode cX11_needs 5 = .ok (.getfield 150, 3) := by decide +kernel
theorem dX11_needs_8 : decode cX11_needs 8 = .ok (.ifCond .ne 16, 3) := by decide +kernel
theorem dX11_needs_11 : decode cX11_needs 11 = .ok (.aload_n 0, 1) := by decide +kernel
theorem dX11_needs_12 : decode cX11_needs 12 = .ok (.iload_n 2, 1) := by decide +kernel
theorem dX11_needs_13 : decode cX11_needs 13 = .ok (.putfield 150, 3) := by decide +kernel
theorem dX11_needs_16 : decode cX11_needs 16 = .ok (.aload_n 0, 1) := by decide +kernel
theorem dX11_needs_17 : decode cX11_needs 17 = .ok (.aload_n 0, 1) := by decide +kernel
theorem dX11_needs_18 : decode cX11_needs 18 = .ok (.getfield 153, 3) := by decide +kernel
theorem dX11_needs_21 : decode cX11_needs 21 = .ok (.putfield 156, 3) := by decide +kernel
theorem dX11_needs_24 : decode cX11_needs 24 = .ok (.return_, 1) := by decide +kernel
theorem dX11_look_0 : decode cX11_look 0 = .ok (.iload_n 1, 1) := by decide +kernel
theorem dX11_look_1 : decode cX11_look 1 = .ok (.aload_n 0, 1) := by decide +kernel
theorem dX11_look_2 : decode cX11_look 2 = .ok (.getfield 141, 3) := by decide +kernel
theorem dX11_look_5 : decode cX11_look 5 = .ok (.if_icmp .ge 12, 3) := by decide +kernel
theorem dX11_look_8 : decode cX11_look 8 = .ok (.aload_n 0, 1) := by decide +kernel
theorem dX11_look_9 : decode cX11_look 9 = .ok (.getfield 56, 3) := by decide +kernel
theorem dX11_look_12 : decode cX11_look 12 = .ok (.iload_n 1, 1) := by decide +kernel
theorem dX11_look_13 : decode cX11_look 13 = .ok (.iaload, 1) := by decide +kernel
theorem dX11_look_14 : decode cX11_look 14 = .ok (.goto 4, 3) := by decide +kernel
theorem dX11_look_17 : decode cX11_look 17 = .ok (.iconst (-1), 1) := by decide +kernel
theorem dX11_look_18 : decode cX11_look 18 = .ok (.ireturn, 1) := by decide +kernel
theorem dX11_is_0 : decode cX11_is 0 = .ok (.aload_n 0, 1) := by decide +kernel
theorem dX11_is_1 : decode cX11_is 1 = .ok (.getfield 159, 3) := by decide +kernel
theorem dX11_is_4 : decode cX11_is 4 = .ok (.aload_n 0, 1) := by decide +kernel
theorem dX11_is_5 : decode cX11_is 5 = .ok (.getfield 153, 3) := by decide +kernel
theorem dX11_is_8 : decode cX11_is 8 = .ok (.isub, 1) := by decide +kernel
theorem dX11_is_9 : decode cX11_is 9 = .ok (.iload_n 1, 1) := by decide +kernel
theorem dX11_is_10 : decode cX11_is 10 = .ok (.if_icmp .ne 63, 3) := by decide +kernel
theorem dX11_is_13 : decode cX11_is 13 = .ok (.aload_n 0, 1) := by decide +kernel
theorem dX11_is_14 : decode cX11_is 14 = .ok (.aload_n 0, 1) := by decide +kernel
theorem dX11_is_15 : decode cX11_is 15 = .ok (.getfield 153, 3) := by decide +kernel
theorem dX11_is_18 : decode cX11_is 18 = .ok (.invokevirtual 162, 3) := by decide +kernel
theorem dX11_is_21 : decode cX11_is 21 = .ok (.iload_n 2, 1) := by decide +kernel
theorem dX11_is_22 : decode cX11_is 22 = .ok (.if_icmp .ne 51, 3) := by decide +kernel
theorem dX11_is_25 : decode cX11_is 25 = .ok (.aload_n 0, 1) := by decide +kernel
theorem dX11_is_26 : decode cX11_is 26 = .ok (.aload_n 0, 1) := by decide +kernel
theorem dX11_is_27 : decode cX11_is 27 = .ok (.getfield 153, 3) := by decide +kernel
theorem dX11_is_30 : decode cX11_is 30 = .ok (.iconst 1, 1) := by decide +kernel
theorem dX11_is_31 : decode cX11_is 31 = .ok (.iadd, 1) := by decide +kernel
theorem dX11_is_32 : decode cX11_is 32 = .ok (.invokevirtual 162, 3) := by decide +kernel
theorem dX11_is_35 : decode cX11_is 35 = .ok (.iload_n 3, 1) := by decide +kernel
theorem dX11_is_36 : decode cX11_is 36 = .ok (.if_icmp .ne 37, 3) := by decide +kernel
theorem dX11_is_39 : decode cX11_is 39 = .ok (.aload_n 0, 1) := by decide +kernel
theorem dX11_is_40 : decode cX11_is 40 = .ok (.aload_n 0, 1) := by decide +kernel
theorem dX11_is_41 : decode cX11_is 41 = .ok (.getfield 153, 3) := by decide +kernel
theorem dX11_is_44 : decode cX11_is 44 = .ok (.iconst 2, 1) := by decide +kernel
theorem dX11_is_45 : decode cX11_is 45 = .ok (.iadd, 1) := by decide +kernel
theorem dX11_is_46 : decode cX11_is 46 = .ok (.invokevirtual 162, 3) := by decide +kernel
theorem dX11_is_49 : decode cX11_is 49 = .ok (.iload 4, 2) := by decide +kernel
theorem dX11_is_51 : decode cX11_is 51 = .ok (.if_icmp .ne 22, 3) := by decide +kernel
theorem dX11_is_54 : decode cX11_is 54 = .ok (.aload_n 0, 1) := by decide +kernel
theorem dX11_is_55 : decode cX11_is 55 = .ok (.aload_n 0, 1) := by decide +kernel
theorem dX11_is_56 : decode cX11_is 56 = .ok (.getfield 153, 3) := by decide +kernel
theorem dX11_is_59 : decode cX11_is 59 = .ok (.iconst 3, 1) := by decide +kernel
theorem dX11_is_60 : decode cX11_is 60 = .ok (.iadd, 1) := by decide +kernel
theorem dX11_is_61 : decode cX11_is 61 = .ok (.invokevirtual 162, 3) := by decide +kernel
theorem dX11_is_64 : decode cX11_is 64 = .ok (.iload 5, 2) := by decide +kernel
theorem dX11_is_66 : decode cX11_is 66 = .ok (.if_icmp .ne 7, 3) := by decide +kernel
theorem dX11_is_69 : decode cX11_is 69 = .ok (.iconst 1, 1) := by decide +kernel
theorem dX11_is_70 : decode cX11_is 70 = .ok (.goto 4, 3) := by decide +kernel
theorem dX11_is_73 : decode cX11_is 73 = .ok (.iconst 0, 1) := by decide +kernel
theorem dX11_is_74 : decode cX11_is 74 = .ok (.ireturn, 1) := by decide +kernel
theorem dX11_ends_0 : decode cX11_ends 0 = .ok (.aload_n 0, 1) := by decide +kernel
theorem dX11_ends_1 : decode cX11_ends 1 = .ok (.aload_n 0, 1) := by decide +kernel
theorem dX11_ends_2 : decode cX11_ends 2 = .ok (.getfield 153, 3) := by decide +kernel
theorem dX11_ends_5 : decode cX11_ends 5 = .ok (.iconst 4, 1) := by decide +kernel
theorem dX11_ends_6 : decode cX11_ends 6 = .ok (.iadd, 1) := by decide +kernel
theorem dX11_ends_7 : decode cX11_ends 7 = .ok (.invokevirtual 162, 3) := by decide +kernel
theorem dX11_ends_10 : decode cX11_ends 10 = .ok (.iload_n 1, 1) := by decide +kernel
theorem dX11_ends_11 : decode cX11_ends 11 = .ok (.if_icmp .ne 44, 3) := by decide +kernel
theorem dX11_ends_14 : decode cX11_ends 14 = .ok (.iload_n 2, 1) := by decide +kernel
theorem dX11_ends_15 : decode cX11_ends 15 = .ok (.ifCond .eq 17, 3) := by decide +kernel
theorem dX11_ends_18 : decode cX11_ends 18 = .ok (.aload_n 0, 1) := by decide +kernel
theorem dX11_ends_19 : decode cX11_ends 19 = .ok (.aload_n 0, 1) := by decide +kernel
theorem dX11_ends_20 : decode cX11_ends 20 = .ok (.getfield 153, 3) := by decide +kernel
theorem dX11_ends_23 : decode cX11_ends 23 = .ok (.iconst 5, 1) := by decide +kernel
theorem dX11_ends_24 : decode cX11_ends 24 = .ok (.iadd, 1) := by decide +kernel
theorem dX11_ends_25 : decode cX11_ends 25 = .ok (.invokevirtual 162, 3) := by decide +kernel
theorem dX11_ends_28 : decode cX11_ends 28 = .ok (.iload_n 2, 1) := by decide +kernel
theorem dX11_ends_29 : decode cX11_ends 29 = .ok (.if_icmp .ne 26, 3) := by decide +kernel
theorem dX11_ends_32 : decode cX11_ends 32 = .ok (.iload_n 3, 1) := by decide +kernel
theorem dX11_ends_33 : decode cX11_ends 33 = .ok (.ifCond .eq 18, 3) := by decide +kernel
theorem dX11_ends_36 : decode cX11_ends 36 = .ok (.aload_n 0, 1) := by decide +kernel
theorem dX11_ends_37 : decode cX11_ends 37 = .ok (.aload_n 0, 1) := by decide +kernel
theorem dX11_ends_38 : decode cX11_ends 38 = .ok (.getfield 153, 3) := by decide +kernel
theorem dX11_ends_41 : decode cX11_ends 41 = .ok (.bipush 6, 2) := by decide +kernel
theorem dX11_ends_43 : decode cX11_ends 43 = .ok (.iadd, 1) := by decide +kernel
theorem dX11_ends_44 : decode cX11_ends 44 = .ok (.invokevirtual 162, 3) := by decide +kernel
theorem dX11_ends_47 : decode cX11_ends 47 = .ok (.iload_n 3, 1) := by decide +kernel
theorem dX11_ends_48 : decode cX11_ends 48 = .ok (.if_icmp .ne 7, 3) := by decide +kernel
theorem dX11_ends_51 : decode cX11_ends 51 = .ok (.iconst 1, 1) := by decide +kernel
theorem dX11_ends_52 : decode cX11_ends 52 = .ok (.goto 4, 3) := by decide +kernel
theorem dX11_ends_55 : decode cX11_ends 55 = .ok (.iconst 0, 1) := by decide +kernel
theorem dX11_ends_56 : decode cX11_ends 56 = .ok (.ireturn, 1) := by decide +kernel
theorem dX11_ruleNow_0 : decode cX11_ruleNow 0 = .ok (.aload_n 0, 1) := by decide +kernel
theorem dX11_ruleNow_1 : decode cX11_ruleNow 1 = .ok (.iconst 4, 1) := by decide +kernel
theorem dX11_ruleNow_2 : decode cX11_ruleNow 2 = .ok (.bipush 108, 2) := by decide +kernel
theorem dX11_ruleNow_4 : decode cX11_ruleNow 4 = .ok (.bipush 111, 2) := by decide +kernel
theorem dX11_ruleNow_6 : decode cX11_ruleNow 6 = .ok (.bipush 116, 2) := by decide +kernel
theorem dX11_ruleNow_8 : decode cX11_ruleNow 8 = .ok (.bipush 115, 2) := by decide +kernel
theorem dX11_ruleNow_10 : decode cX11_ruleNow 10 = .ok (.invokevirtual 166, 3) := by decide +kernel
theorem dX11_ruleNow_13 : decode cX11_ruleNow 13 = .ok (.ifCond .eq 6, 3) := by decide +kernel
theorem dX11_ruleNow_16 : decode cX11_ruleNow 16 = .ok (.bipush 10, 2) := by decide +kernel
theorem dX11_ruleNow_18 : decode cX11_ruleNow 18 = .ok (.ireturn, 1) := by decide +kernel
theorem dX11_ruleNow_19 : decode cX11_ruleNow 19 = .ok (.aload_n 0, 1) := by decide +kernel
theorem dX11_ruleNow_20 : decode cX11_ruleNow 20 = .ok (.iconst 4, 1) := by decide +kernel
theorem dX11_ruleNow_21 : decode cX11_ruleNow 21 = .ok (.bipush 98, 2) := by decide +kernel
theorem dX11_ruleNow_23 : decode cX11_ruleNow 23 = .ok (.bipush 101, 2) := by decide +kernel
theorem dX11_ruleNow_25 : decode cX11_ruleNow 25 = .ok (.bipush 110, 2) := by decide +kernel
theorem dX11_ruleNow_27 : decode cX11_ruleNow 27 = .ok (.bipush 100, 2) := by decide +kernel
theorem dX11_ruleNow_29 : decode cX11_ruleNow 29 = .ok (.invokevirtual 166, 3) := by decide +kernel
theorem dX11_ruleNow_32 : decode cX11_ruleNow 32 = .ok (.ifCond .eq 6, 3) := by decide +kernel
theorem dX11_ruleNow_35 : decode cX11_ruleNow 35 = .ok (.bipush 11, 2) := by decide +kernel
theorem dX11_ruleNow_37 : decode cX11_ruleNow 37 = .ok (.ireturn, 1) := by decide +kernel
theorem dX11_ruleNow_38 : decode cX11_ruleNow 38 = .ok (.aload_n 0, 1) := by decide +kernel
theorem dX11_ruleNow_39 : decode cX11_ruleNow 39 = .ok (.iconst 4, 1) := by decide +kernel
theorem dX11_ruleNow_40 : decode cX11_ruleNow 40 = .ok (.bipush 112, 2) := by decide +kernel
theorem dX11_ruleNow_42 : decode cX11_ruleNow 42 = .ok (.bipush 117, 2) := by decide +kernel
theorem dX11_ruleNow_44 : decode cX11_ruleNow 44 = .ok (.bipush 108, 2) := by decide +kernel
theorem dX11_ruleNow_46 : decode cX11_ruleNow 46 = .ok (.bipush 108, 2) := by decide +kernel
theorem dX11_ruleNow_48 : decode cX11_ruleNow 48 = .ok (.invokevirtual 166, 3) := by decide +kernel
theorem dX11_ruleNow_51 : decode cX11_ruleNow 51 = .ok (.ifCond .eq 6, 3) := by decide +kernel
theorem dX11_ruleNow_54 : decode cX11_ruleNow 54 = .ok (.bipush 12, 2) := by decide +kernel
theorem dX11_ruleNow_56 : decode cX11_ruleNow 56 = .ok (.ireturn, 1) := by decide +kernel
theorem dX11_ruleNow_57 : decode cX11_ruleNow 57 = .ok (.aload_n 0, 1) := by decide +kernel
theorem dX11_ruleNow_58 : decode cX11_ruleNow 58 = .ok (.iconst 5, 1) := by decide +kernel
theorem dX11_ruleNow_59 : decode cX11_ruleNow 59 = .ok (.bipush 112, 2) := by decide +kernel
theorem dX11_ruleNow_61 : decode cX11_ruleNow 61 = .ok (.bipush 114, 2) := by decide +kernel
theorem dX11_ruleNow_63 : decode cX11_ruleNow 63 = .ok (.bipush 105, 2) := by decide +kernel
theorem dX11_ruleNow_65 : decode cX11_ruleNow 65 = .ok (.bipush 99, 2) := by decide +kernel
theorem dX11_ruleNow_67 : decode cX11_ruleNow 67 = .ok (.invokevirtual 166, 3) := by decide +kernel
theorem dX11_ruleNow_70 : decode cX11_ruleNow 70 = .ok (.ifCond .eq 17, 3) := by decide +kernel
theorem dX11_ruleNow_73 : decode cX11_ruleNow 73 = .ok (.aload_n 0, 1) := by decide +kernel
theorem dX11_ruleNow_74 : decode cX11_ruleNow 74 = .ok (.bipush 101, 2) := by decide +kernel
theorem dX11_ruleNow_76 : decode cX11_ruleNow 76 = .ok (.iconst 0, 1) := by decide +kernel
theorem dX11_ruleNow_77 : decode cX11_ruleNow 77 = .ok (.iconst 0, 1) := by decide +kernel
theorem dX11_ruleNow_78 : decode cX11_ruleNow 78 = .ok (.invokevirtual 170, 3) := by decide +kernel
theorem dX11_ruleNow_81 : decode cX11_ruleNow 81 = .ok (.ifCond .eq 6, 3) := by decide +kernel
theorem dX11_ruleNow_84 : decode cX11_ruleNow 84 = .ok (.bipush 13, 2) := by decide +kernel
theorem dX11_ruleNow_86 : decode cX11_ruleNow 86 = .ok (.ireturn, 1) := by decide +kernel
theorem dX11_ruleNow_87 : decode cX11_ruleNow 87 = .ok (.aload_n 0, 1) := by decide +kernel
theorem dX11_ruleNow_88 : decode cX11_ruleNow 88 = .ok (.iconst 4, 1) := by decide +kernel
theorem dX11_ruleNow_89 : decode cX11_ruleNow 89 = .ok (.bipush 99, 2) := by decide +kernel
theorem dX11_ruleNow_91 : decode cX11_ruleNow 91 = .ok (.bipush 111, 2) := by decide +kernel
theorem dX11_ruleNow_93 : decode cX11_ruleNow 93 = .ok (.bipush 115, 2) := by decide +kernel
theorem dX11_ruleNow_95 : decode cX11_ruleNow 95 = .ok (.bipush 116, 2) := by decide +kernel
theorem dX11_ruleNow_97 : decode cX11_ruleNow 97 = .ok (.invokevirtual 166, 3) := by decide +kernel
theorem dX11_ruleNow_100 : decode cX11_ruleNow 100 = .ok (.ifCond .eq 6, 3) := by decide +kernel
theorem dX11_ruleNow_103 : decode cX11_ruleNow 103 = .ok (.bipush 14, 2) := by decide +kernel
theorem dX11_ruleNow_105 : decode cX11_ruleNow 105 = .ok (.ireturn, 1) := by decide +kernel
theorem dX11_ruleNow_106 : decode cX11_ruleNow 106 = .ok (.aload_n 0, 1) := by decide +kernel
theorem dX11_ruleNow_107 : decode cX11_ruleNow 107 = .ok (.iconst 5, 1) := by decide +kernel
theorem dX11_ruleNow_108 : decode cX11_ruleNow 108 = .ok (.bipush 116, 2) := by decide +kernel
theorem dX11_ruleNow_110 : decode cX11_ruleNow 110 = .ok (.bipush 97, 2) := by decide +kernel
theorem dX11_ruleNow_112 : decode cX11_ruleNow 112 = .ok (.bipush 115, 2) := by decide +kernel
theorem dX11_ruleNow_114 : decode cX11_ruleNow 114 = .ok (.bipush 116, 2) := by decide +kernel
theorem dX11_ruleNow_116 : decode cX11_ruleNow 116 = .ok (.invokevirtual 166, 3) := by decide +kernel
theorem dX11_ruleNow_119 : decode cX11_ruleNow 119 = .ok (.ifCond .eq 19, 3) := by decide +kernel
theorem dX11_ruleNow_122 : decode cX11_ruleNow 122 = .ok (.aload_n 0, 1) := by decide +kernel
theorem dX11_ruleNow_123 : decode cX11_ruleNow 123 = .ok (.bipush 101, 2) := by decide +kernel
theorem dX11_ruleNow_125 : decode cX11_ruleNow 125 = .ok (.iconst 0, 1) := by decide +kernel
theorem dX11_ruleNow_126 : decode cX11_ruleNow 126 = .ok (.iconst 0, 1) := by decide +kernel
theorem dX11_ruleNow_127 : decode cX11_ruleNow 127 = .ok (.invokevirtual 170, 3) := by decide +kernel
theorem dX11_ruleNow_130 : decode cX11_ruleNow 130 = .ok (.ifCond .eq 8, 3) := by decide +kernel
theorem dX11_ruleNow_133 : decode cX11_ruleNow 133 = .ok (.bipush 15, 2) := by decide +kernel
theorem dX11_ruleNow_135 : decode cX11_ruleNow 135 = .ok (.goto 5, 3) := by decide +kernel
theorem dX11_ruleNow_138 : decode cX11_ruleNow 138 = .ok (.bipush (-4), 2) := by decide +kernel
theorem dX11_ruleNow_140 : decode cX11_ruleNow 140 = .ok (.ireturn, 1) := by decide +kernel
theorem dX11_lineNow_0 : decode cX11_lineNow 0 = .ok (.aload_n 0, 1) := by decide +kernel
theorem dX11_lineNow_1 : decode cX11_lineNow 1 = .ok (.iconst 4, 1) := by decide +kernel
theorem dX11_lineNow_2 : decode cX11_lineNow 2 = .ok (.bipush 108, 2) := by decide +kernel
theorem dX11_lineNow_4 : decode cX11_lineNow 4 = .ok (.bipush 97, 2) := by decide +kernel
theorem dX11_lineNow_6 : decode cX11_lineNow 6 = .ok (.bipush 99, 2) := by decide +kernel
theorem dX11_lineNow_8 : decode cX11_lineNow 8 = .ok (.bipush 107, 2) := by decide +kernel
theorem dX11_lineNow_10 : decode cX11_lineNow 10 = .ok (.invokevirtual 166, 3) := by decide +kernel
theorem dX11_lineNow_13 : decode cX11_lineNow 13 = .ok (.ifCond .eq 6, 3) := by decide +kernel
theorem dX11_lineNow_16 : decode cX11_lineNow 16 = .ok (.bipush 16, 2) := by decide +kernel
theorem dX11_lineNow_18 : decode cX11_lineNow 18 = .ok (.ireturn, 1) := by decide +kernel
theorem dX11_lineNow_19 : decode cX11_lineNow 19 = .ok (.aload_n 0, 1) := by decide +kernel
theorem dX11_lineNow_20 : decode cX11_lineNow 20 = .ok (.iconst 4, 1) := by decide +kernel
theorem dX11_lineNow_21 : decode cX11_lineNow 21 = .ok (.bipush 116, 2) := by decide +kernel
theorem dX11_lineNow_23 : decode cX11_lineNow 23 = .ok (.bipush 119, 2) := by decide +kernel
theorem dX11_lineNow_25 : decode cX11_lineNow 25 = .ok (.bipush 105, 2) := by decide +kernel
theorem dX11_lineNow_27 : decode cX11_lineNow 27 = .ok (.bipush 110, 2) := by decide +kernel
theorem dX11_lineNow_29 : decode cX11_lineNow 29 = .ok (.invokevirtual 166, 3) := by decide +kernel
theorem dX11_lineNow_32 : decode cX11_lineNow 32 = .ok (.ifCond .eq 6, 3) := by decide +kernel
theorem dX11_lineNow_35 : decode cX11_lineNow 35 = .ok (.bipush 17, 2) := by decide +kernel
theorem dX11_lineNow_37 : decode cX11_lineNow 37 = .ok (.ireturn, 1) := by decide +kernel
theorem dX11_lineNow_38 : decode cX11_lineNow 38 = .ok (.aload_n 0, 1) := by decide +kernel
theorem dX11_lineNow_39 : decode cX11_lineNow 39 = .ok (.iconst 5, 1) := by decide +kernel
theorem dX11_lineNow_40 : decode cX11_lineNow 40 = .ok (.bipush 112, 2) := by decide +kernel
theorem dX11_lineNow_42 : decode cX11_lineNow 42 = .ok (.bipush 97, 2) := by decide +kernel
theorem dX11_lineNow_44 : decode cX11_lineNow 44 = .ok (.bipush 105, 2) := by decide +kernel
theorem dX11_lineNow_46 : decode cX11_lineNow 46 = .ok (.bipush 110, 2) := by decide +kernel
theorem dX11_lineNow_48 : decode cX11_lineNow 48 = .ok (.invokevirtual 166, 3) := by decide +kernel
theorem dX11_lineNow_51 : decode cX11_lineNow 51 = .ok (.ifCond .eq 17, 3) := by decide +kernel
theorem dX11_lineNow_54 : decode cX11_lineNow 54 = .ok (.aload_n 0, 1) := by decide +kernel
theorem dX11_lineNow_55 : decode cX11_lineNow 55 = .ok (.bipush 116, 2) := by decide +kernel
theorem dX11_lineNow_57 : decode cX11_lineNow 57 = .ok (.iconst 0, 1) := by decide +kernel
theorem dX11_lineNow_58 : decode cX11_lineNow 58 = .ok (.iconst 0, 1) := by decide +kernel
theorem dX11_lineNow_59 : decode cX11_lineNow 59 = .ok (.invokevirtual 170, 3) := by decide +kernel
theorem dX11_lineNow_62 : decode cX11_lineNow 62 = .ok (.ifCond .eq 6, 3) := by decide +kernel
theorem dX11_lineNow_65 : decode cX11_lineNow 65 = .ok (.bipush 18, 2) := by decide +kernel
theorem dX11_lineNow_67 : decode cX11_lineNow 67 = .ok (.ireturn, 1) := by decide +kernel
theorem dX11_lineNow_68 : decode cX11_lineNow 68 = .ok (.aload_n 0, 1) := by decide +kernel
theorem dX11_lineNow_69 : decode cX11_lineNow 69 = .ok (.iconst 5, 1) := by decide +kernel
theorem dX11_lineNow_70 : decode cX11_lineNow 70 = .ok (.bipush 114, 2) := by decide +kernel
theorem dX11_lineNow_72 : decode cX11_lineNow 72 = .ok (.bipush 105, 2) := by decide +kernel
theorem dX11_lineNow_74 : decode cX11_lineNow 74 = .ok (.bipush 103, 2) := by decide +kernel
theorem dX11_lineNow_76 : decode cX11_lineNow 76 = .ok (.bipush 104, 2) := by decide +kernel
theorem dX11_lineNow_78 : decode cX11_lineNow 78 = .ok (.invokevirtual 166, 3) := by decide +kernel
theorem dX11_lineNow_81 : decode cX11_lineNow 81 = .ok (.ifCond .eq 17, 3) := by decide +kernel
theorem dX11_lineNow_84 : decode cX11_lineNow 84 = .ok (.aload_n 0, 1) := by decide +kernel
theorem dX11_lineNow_85 : decode cX11_lineNow 85 = .ok (.bipush 116, 2) := by decide +kernel
theorem dX11_lineNow_87 : decode cX11_lineNow 87 = .ok (.iconst 0, 1) := by decide +kernel
theorem dX11_lineNow_88 : decode cX11_lineNow 88 = .ok (.iconst 0, 1) := by decide +kernel
theorem dX11_lineNow_89 : decode cX11_lineNow 89 = .ok (.invokevirtual 170, 3) := by decide +kernel
theorem dX11_lineNow_92 : decode cX11_lineNow 92 = .ok (.ifCond .eq 6, 3) := by decide +kernel
theorem dX11_lineNow_95 : decode cX11_lineNow 95 = .ok (.bipush 19, 2) := by decide +kernel
theorem dX11_lineNow_97 : decode cX11_lineNow 97 = .ok (.ireturn, 1) := by decide +kernel
theorem dX11_lineNow_98 : decode cX11_lineNow 98 = .ok (.aload_n 0, 1) := by decide +kernel
theorem dX11_lineNow_99 : decode cX11_lineNow 99 = .ok (.iconst 5, 1) := by decide +kernel
theorem dX11_lineNow_100 : decode cX11_lineNow 100 = .ok (.bipush 116, 2) := by decide +kernel
theorem dX11_lineNow_102 : decode cX11_lineNow 102 = .ok (.bipush 104, 2) := by decide +kernel
theorem dX11_lineNow_104 : decode cX11_lineNow 104 = .ok (.bipush 105, 2) := by decide +kernel
theorem dX11_lineNow_106 : decode cX11_lineNow 106 = .ok (.bipush 110, 2) := by decide +kernel
theorem dX11_lineNow_108 : decode cX11_lineNow 108 = .ok (.invokevirtual 166, 3) := by decide +kernel
theorem dX11_lineNow_111 : decode cX11_lineNow 111 = .ok (.ifCond .eq 17, 3) := by decide +kernel
theorem dX11_lineNow_114 : decode cX11_lineNow 114 = .ok (.aload_n 0, 1) := by decide +kernel
theorem dX11_lineNow_115 : decode cX11_lineNow 115 = .ok (.bipush 103, 2) := by decide +kernel
theorem dX11_lineNow_117 : decode cX11_lineNow 117 = .ok (.iconst 0, 1) := by decide +kernel
theorem dX11_lineNow_118 : decode cX11_lineNow 118 = .ok (.iconst 0, 1) := by decide +kernel
theorem dX11_lineNow_119 : decode cX11_lineNow 119 = .ok (.invokevirtual 170, 3) := by decide +kernel
theorem dX11_lineNow_122 : decode cX11_lineNow 122 = .ok (.ifCond .eq 6, 3) := by decide +kernel
theorem dX11_lineNow_125 : decode cX11_lineNow 125 = .ok (.bipush 20, 2) := by decide +kernel
theorem dX11_lineNow_127 : decode cX11_lineNow 127 = .ok (.ireturn, 1) := by decide +kernel
theorem dX11_lineNow_128 : decode cX11_lineNow 128 = .ok (.aload_n 0, 1) := by decide +kernel
theorem dX11_lineNow_129 : decode cX11_lineNow 129 = .ok (.iconst 4, 1) := by decide +kernel
theorem dX11_lineNow_130 : decode cX11_lineNow 130 = .ok (.bipush 119, 2) := by decide +kernel
theorem dX11_lineNow_132 : decode cX11_lineNow 132 = .ok (.bipush 111, 2) := by decide +kernel
theorem dX11_lineNow_134 : decode cX11_lineNow 134 = .ok (.bipush 114, 2) := by decide +kernel
theorem dX11_lineNow_136 : decode cX11_lineNow 136 = .ok (.bipush 107, 2) := by decide +kernel
theorem dX11_lineNow_138 : decode cX11_lineNow 138 = .ok (.invokevirtual 166, 3) := by decide +kernel
theorem dX11_lineNow_141 : decode cX11_lineNow 141 = .ok (.ifCond .eq 8, 3) := by decide +kernel
theorem dX11_lineNow_144 : decode cX11_lineNow 144 = .ok (.bipush 21, 2) := by decide +kernel
theorem dX11_lineNow_146 : decode cX11_lineNow 146 = .ok (.goto 7, 3) := by decide +kernel
theorem dX11_lineNow_149 : decode cX11_lineNow 149 = .ok (.aload_n 0, 1) := by decide +kernel
theorem dX11_lineNow_150 : decode cX11_lineNow 150 = .ok (.invokevirtual 174, 3) := by decide +kernel
theorem dX11_lineNow_153 : decode cX11_lineNow 153 = .ok (.ireturn, 1) := by decide +kernel
theorem dX11_kindNow_0 : decode cX11_kindNow 0 = .ok (.aload_n 0, 1) := by decide +kernel
theorem dX11_kindNow_1 : decode cX11_kindNow 1 = .ok (.iconst 5, 1) := by decide +kernel
theorem dX11_kindNow_2 : decode cX11_kindNow 2 = .ok (.bipush 104, 2) := by decide +kernel
theorem dX11_kindNow_4 : decode cX11_kindNow 4 = .ok (.bipush 111, 2) := by decide +kernel
theorem dX11_kindNow_6 : decode cX11_kindNow 6 = .ok (.bipush 117, 2) := by decide +kernel
theorem dX11_kindNow_8 : decode cX11_kindNow 8 = .ok (.bipush 115, 2) := by decide +kernel
theorem dX11_kindNow_10 : decode cX11_kindNow 10 = .ok (.invokevirtual 166, 3) := by decide +kernel
theorem dX11_kindNow_13 : decode cX11_kindNow 13 = .ok (.ifCond .eq 16, 3) := by decide +kernel
theorem dX11_kindNow_16 : decode cX11_kindNow 16 = .ok (.aload_n 0, 1) := by decide +kernel
theorem dX11_kindNow_17 : decode cX11_kindNow 17 = .ok (.bipush 101, 2) := by decide +kernel
theorem dX11_kindNow_19 : decode cX11_kindNow 19 = .ok (.iconst 0, 1) := by decide +kernel
theorem dX11_kindNow_20 : decode cX11_kindNow 20 = .ok (.iconst 0, 1) := by decide +kernel
theorem dX11_kindNow_21 : decode cX11_kindNow 21 = .ok (.invokevirtual 170, 3) := by decide +kernel
theorem dX11_kindNow_24 : decode cX11_kindNow 24 = .ok (.ifCond .eq 5, 3) := by decide +kernel
theorem dX11_kindNow_27 : decode cX11_kindNow 27 = .ok (.iconst 1, 1) := by decide +kernel
theorem dX11_kindNow_28 : decode cX11_kindNow 28 = .ok (.ireturn, 1) := by decide +kernel
theorem dX11_kindNow_29 : decode cX11_kindNow 29 = .ok (.aload_n 0, 1) := by decide +kernel
theorem dX11_kindNow_30 : decode cX11_kindNow 30 = .ok (.bipush 6, 2) := by decide +kernel
theorem dX11_kindNow_32 : decode cX11_kindNow 32 = .ok (.bipush 103, 2) := by decide +kernel
theorem dX11_kindNow_34 : decode cX11_kindNow 34 = .ok (.bipush 97, 2) := by decide +kernel
theorem dX11_kindNow_36 : decode cX11_kindNow 36 = .ok (.bipush 114, 2) := by decide +kernel
theorem dX11_kindNow_38 : decode cX11_kindNow 38 = .ok (.bipush 100, 2) := by decide +kernel
theorem dX11_kindNow_40 : decode cX11_kindNow 40 = .ok (.invokevirtual 166, 3) := by decide +kernel
theorem dX11_kindNow_43 : decode cX11_kindNow 43 = .ok (.ifCond .eq 17, 3) := by decide +kernel
theorem dX11_kindNow_46 : decode cX11_kindNow 46 = .ok (.aload_n 0, 1) := by decide +kernel
theorem dX11_kindNow_47 : decode cX11_kindNow 47 = .ok (.bipush 101, 2) := by decide +kernel
theorem dX11_kindNow_49 : decode cX11_kindNow 49 = .ok (.bipush 110, 2) := by decide +kernel
theorem dX11_kindNow_51 : decode cX11_kindNow 51 = .ok (.iconst 0, 1) := by decide +kernel
theorem dX11_kindNow_52 : decode cX11_kindNow 52 = .ok (.invokevirtual 170, 3) := by decide +kernel
theorem dX11_kindNow_55 : decode cX11_kindNow 55 = .ok (.ifCond .eq 5, 3) := by decide +kernel
theorem dX11_kindNow_58 : decode cX11_kindNow 58 = .ok (.iconst 2, 1) := by decide +kernel
theorem dX11_kindNow_59 : decode cX11_kindNow 59 = .ok (.ireturn, 1) := by decide +kernel
theorem dX11_kindNow_60 : decode cX11_kindNow 60 = .ok (.aload_n 0, 1) := by decide +kernel
theorem dX11_kindNow_61 : decode cX11_kindNow 61 = .ok (.iconst 4, 1) := by decide +kernel
theorem dX11_kindNow_62 : decode cX11_kindNow 62 = .ok (.bipush 115, 2) := by decide +kernel
theorem dX11_kindNow_64 : decode cX11_kindNow 64 = .ok (.bipush 104, 2) := by decide +kernel
theorem dX11_kindNow_66 : decode cX11_kindNow 66 = .ok (.bipush 111, 2) := by decide +kernel
theorem dX11_kindNow_68 : decode cX11_kindNow 68 = .ok (.bipush 112, 2) := by decide +kernel
theorem dX11_kindNow_70 : decode cX11_kindNow 70 = .ok (.invokevirtual 166, 3) := by decide +kernel
theorem dX11_kindNow_73 : decode cX11_kindNow 73 = .ok (.ifCond .eq 5, 3) := by decide +kernel
theorem dX11_kindNow_76 : decode cX11_kindNow 76 = .ok (.iconst 3, 1) := by decide +kernel
theorem dX11_kindNow_77 : decode cX11_kindNow 77 = .ok (.ireturn, 1) := by decide +kernel
theorem dX11_kindNow_78 : decode cX11_kindNow 78 = .ok (.aload_n 0, 1) := by decide +kernel
theorem dX11_kindNow_79 : decode cX11_kindNow 79 = .ok (.iconst 5, 1) := by decide +kernel
theorem dX11_kindNow_80 : decode cX11_kindNow 80 = .ok (.bipush 116, 2) := by decide +kernel
theorem dX11_kindNow_82 : decode cX11_kindNow 82 = .ok (.bipush 111, 2) := by decide +kernel
theorem dX11_kindNow_84 : decode cX11_kindNow 84 = .ok (.bipush 119, 2) := by decide +kernel
theorem dX11_kindNow_86 : decode cX11_kindNow 86 = .ok (.bipush 101, 2) := by decide +kernel
theorem dX11_kindNow_88 : decode cX11_kindNow 88 = .ok (.invokevirtual 166, 3) := by decide +kernel
theorem dX11_kindNow_91 : decode cX11_kindNow 91 = .ok (.ifCond .eq 16, 3) := by decide +kernel
theorem dX11_kindNow_94 : decode cX11_kindNow 94 = .ok (.aload_n 0, 1) := by decide +kernel
theorem dX11_kindNow_95 : decode cX11_kindNow 95 = .ok (.bipush 114, 2) := by decide +kernel
theorem dX11_kindNow_97 : decode cX11_kindNow 97 = .ok (.iconst 0, 1) := by decide +kernel
theorem dX11_kindNow_98 : decode cX11_kindNow 98 = .ok (.iconst 0, 1) := by decide +kernel
theorem dX11_kindNow_99 : decode cX11_kindNow 99 = .ok (.invokevirtual 170, 3) := by decide +kernel
theorem dX11_kindNow_102 : decode cX11_kindNow 102 = .ok (.ifCond .eq 5, 3) := by decide +kernel
theorem dX11_kindNow_105 : decode cX11_kindNow 105 = .ok (.iconst 4, 1) := by decide +kernel
theorem dX11_kindNow_106 : decode cX11_kindNow 106 = .ok (.ireturn, 1) := by decide +kernel
theorem dX11_kindNow_107 : decode cX11_kindNow 107 = .ok (.aload_n 0, 1) := by decide +kernel
theorem dX11_kindNow_108 : decode cX11_kindNow 108 = .ok (.bipush 6, 2) := by decide +kernel
theorem dX11_kindNow_110 : decode cX11_kindNow 110 = .ok (.bipush 115, 2) := by decide +kernel
theorem dX11_kindNow_112 : decode cX11_kindNow 112 = .ok (.bipush 104, 2) := by decide +kernel
theorem dX11_kindNow_114 : decode cX11_kindNow 114 = .ok (.bipush 114, 2) := by decide +kernel
theorem dX11_kindNow_116 : decode cX11_kindNow 116 = .ok (.bipush 105, 2) := by decide +kernel
theorem dX11_kindNow_118 : decode cX11_kindNow 118 = .ok (.invokevirtual 166, 3) := by decide +kernel
theorem dX11_kindNow_121 : decode cX11_kindNow 121 = .ok (.ifCond .eq 19, 3) := by decide +kernel
theorem dX11_kindNow_124 : decode cX11_kindNow 124 = .ok (.aload_n 0, 1) := by decide +kernel
theorem dX11_kindNow_125 : decode cX11_kindNow 125 = .ok (.bipush 110, 2) := by decide +kernel
theorem dX11_kindNow_127 : decode cX11_kindNow 127 = .ok (.bipush 101, 2) := by decide +kernel
theorem dX11_kindNow_129 : decode cX11_kindNow 129 = .ok (.iconst 0, 1) := by decide +kernel
theorem dX11_kindNow_130 : decode cX11_kindNow 130 = .ok (.invokevirtual 170, 3) := by decide +kernel
theorem dX11_kindNow_133 : decode cX11_kindNow 133 = .ok (.ifCond .eq 7, 3) := by decide +kernel
theorem dX11_kindNow_136 : decode cX11_kindNow 136 = .ok (.iconst 5, 1) := by decide +kernel
theorem dX11_kindNow_137 : decode cX11_kindNow 137 = .ok (.goto 5, 3) := by decide +kernel
theorem dX11_kindNow_140 : decode cX11_kindNow 140 = .ok (.bipush (-4), 2) := by decide +kernel
theorem dX11_kindNow_142 : decode cX11_kindNow 142 = .ok (.ireturn, 1) := by decide +kernel
theorem dX11_isNothing_0 : decode cX11_isNothing 0 = .ok (.aload_n 0, 1) := by decide +kernel
theorem dX11_isNothing_1 : decode cX11_isNothing 1 = .ok (.bipush 7, 2) := by decide +kernel
theorem dX11_isNothing_3 : decode cX11_isNothing 3 = .ok (.bipush 110, 2) := by decide +kernel
theorem dX11_isNothing_5 : decode cX11_isNothing 5 = .ok (.bipush 111, 2) := by decide +kernel
theorem dX11_isNothing_7 : decode cX11_isNothing 7 = .ok (.bipush 116, 2) := by decide +kernel
theorem dX11_isNothing_9 : decode cX11_isNothing 9 = .ok (.bipush 104, 2) := by decide +kernel
theorem dX11_isNothing_11 : decode cX11_isNothing 11 = .ok (.invokevirtual 166, 3) := by decide +kernel
theorem dX11_isNothing_14 : decode cX11_isNothing 14 = .ok (.ifCond .eq 20, 3) := by decide +kernel
theorem dX11_isNothing_17 : decode cX11_isNothing 17 = .ok (.aload_n 0, 1) := by decide +kernel
theorem dX11_isNothing_18 : decode cX11_isNothing 18 = .ok (.bipush 105, 2) := by decide +kernel
theorem dX11_isNothing_20 : decode cX11_isNothing 20 = .ok (.bipush 110, 2) := by decide +kernel
theorem dX11_isNothing_22 : decode cX11_isNothing 22 = .ok (.bipush 103, 2) := by decide +kernel
theorem dX11_isNothing_24 : decode cX11_isNothing 24 = .ok (.invokevirtual 170, 3) := by decide +kernel
theorem dX11_isNothing_27 : decode cX11_isNothing 27 = .ok (.ifCond .eq 7, 3) := by decide +kernel
theorem dX11_isNothing_30 : decode cX11_isNothing 30 = .ok (.iconst 1, 1) := by decide +kernel
theorem dX11_isNothing_31 : decode cX11_isNothing 31 = .ok (.goto 4, 3) := by decide +kernel
theorem dX11_isNothing_34 : decode cX11_isNothing 34 = .ok (.iconst 0, 1) := by decide +kernel
theorem dX11_isNothing_35 : decode cX11_isNothing 35 = .ok (.ireturn, 1) := by decide +kernel
theorem dX11_sideNow_0 : decode cX11_sideNow 0 = .ok (.aload_n 0, 1) := by decide +kernel
theorem dX11_sideNow_1 : decode cX11_sideNow 1 = .ok (.iconst 4, 1) := by decide +kernel
theorem dX11_sideNow_2 : decode cX11_sideNow 2 = .ok (.bipush 108, 2) := by decide +kernel
theorem dX11_sideNow_4 : decode cX11_sideNow 4 = .ok (.bipush 101, 2) := by decide +kernel
theorem dX11_sideNow_6 : decode cX11_sideNow 6 = .ok (.bipush 102, 2) := by decide +kernel
theorem dX11_sideNow_8 : decode cX11_sideNow 8 = .ok (.bipush 116, 2) := by decide +kernel
theorem dX11_sideNow_10 : decode cX11_sideNow 10 = .ok (.invokevirtual 166, 3) := by decide +kernel
theorem dX11_sideNow_13 : decode cX11_sideNow 13 = .ok (.ifCond .eq 7, 3) := by decide +kernel
theorem dX11_sideNow_16 : decode cX11_sideNow 16 = .ok (.iconst 0, 1) := by decide +kernel
theorem dX11_sideNow_17 : decode cX11_sideNow 17 = .ok (.goto 36, 3) := by decide +kernel
theorem dX11_sideNow_20 : decode cX11_sideNow 20 = .ok (.aload_n 0, 1) := by decide +kernel
theorem dX11_sideNow_21 : decode cX11_sideNow 21 = .ok (.iconst 5, 1) := by decide +kernel
theorem dX11_sideNow_22 : decode cX11_sideNow 22 = .ok (.bipush 114, 2) := by decide +kernel
theorem dX11_sideNow_24 : decode cX11_sideNow 24 = .ok (.bipush 105, 2) := by decide +kernel
theorem dX11_sideNow_26 : decode cX11_sideNow 26 = .ok (.bipush 103, 2) := by decide +kernel
theorem dX11_sideNow_28 : decode cX11_sideNow 28 = .ok (.bipush 104, 2) := by decide +kernel
theorem dX11_sideNow_30 : decode cX11_sideNow 30 = .ok (.invokevirtual 166, 3) := by decide +kernel
theorem dX11_sideNow_33 : decode cX11_sideNow 33 = .ok (.ifCond .eq 18, 3) := by decide +kernel
theorem dX11_sideNow_36 : decode cX11_sideNow 36 = .ok (.aload_n 0, 1) := by decide +kernel
theorem dX11_sideNow_37 : decode cX11_sideNow 37 = .ok (.bipush 116, 2) := by decide +kernel
theorem dX11_sideNow_39 : decode cX11_sideNow 39 = .ok (.iconst 0, 1) := by decide +kernel
theorem dX11_sideNow_40 : decode cX11_sideNow 40 = .ok (.iconst 0, 1) := by decide +kernel
theorem dX11_sideNow_41 : decode cX11_sideNow 41 = .ok (.invokevirtual 170, 3) := by decide +kernel
theorem dX11_sideNow_44 : decode cX11_sideNow 44 = .ok (.ifCond .eq 7, 3) := by decide +kernel
theorem dX11_sideNow_47 : decode cX11_sideNow 47 = .ok (.iconst 1, 1) := by decide +kernel
theorem dX11_sideNow_48 : decode cX11_sideNow 48 = .ok (.goto 5, 3) := by decide +kernel
theorem dX11_sideNow_51 : decode cX11_sideNow 51 = .ok (.bipush (-4), 2) := by decide +kernel
theorem dX11_sideNow_53 : decode cX11_sideNow 53 = .ok (.ireturn, 1) := by decide +kernel
theorem dX11_next_0 : decode cX11_next 0 = .ok (.aload_n 0, 1) := by decide +kernel
theorem dX11_next_1 : decode cX11_next 1 = .ok (.getfield 150, 3) := by decide +kernel
theorem dX11_next_4 : decode cX11_next 4 = .ok (.ifCond .le 4, 3) := by decide +kernel
theorem dX11_next_7 : decode cX11_next 7 = .ok (.return_, 1) := by decide +kernel
theorem dX11_next_8 : decode cX11_next 8 = .ok (.aload_n 0, 1) := by decide +kernel
theorem dX11_next_9 : decode cX11_next 9 = .ok (.aload_n 0, 1) := by decide +kernel
theorem dX11_next_10 : decode cX11_next 10 = .ok (.getfield 159, 3) := by decide +kernel
theorem dX11_next_13 : decode cX11_next 13 = .ok (.invokevirtual 162, 3) := by decide +kernel
theorem dX11_next_16 : decode cX11_next 16 = .ok (.bipush 32, 2) := by decide +kernel
theorem dX11_next_18 : decode cX11_next 18 = .ok (.if_icmp .ne 16, 3) := by decide +kernel
theorem dX11_next_21 : decode cX11_next 21 = .ok (.aload_n 0, 1) := by decide +kernel
theorem dX11_next_22 : decode cX11_next 22 = .ok (.dup, 1) := by decide +kernel
theorem dX11_next_23 : decode cX11_next 23 = .ok (.getfield 159, 3) := by decide +kernel
theorem dX11_next_26 : decode cX11_next 26 = .ok (.iconst 1, 1) := by decide +kernel
theorem dX11_next_27 : decode cX11_next 27 = .ok (.iadd, 1) := by decide +kernel
theorem dX11_next_28 : decode cX11_next 28 = .ok (.putfield 159, 3) := by decide +kernel
theorem dX11_next_31 : decode cX11_next 31 = .ok (.goto (-23), 3) := by decide +kernel
theorem dX11_next_34 : decode cX11_next 34 = .ok (.aload_n 0, 1) := by decide +kernel
theorem dX11_next_35 : decode cX11_next 35 = .ok (.aload_n 0, 1) := by decide +kernel
theorem dX11_next_36 : decode cX11_next 36 = .ok (.getfield 159, 3) := by decide +kernel
theorem dX11_next_39 : decode cX11_next 39 = .ok (.putfield 153, 3) := by decide +kernel
theorem dX11_next_42 : decode cX11_next 42 = .ok (.aload_n 0, 1) := by decide +kernel
theorem dX11_next_43 : decode cX11_next 43 = .ok (.aload_n 0, 1) := by decide +kernel
theorem dX11_next_44 : decode cX11_next 44 = .ok (.getfield 159, 3) := by decide +kernel
theorem dX11_next_47 : decode cX11_next 47 = .ok (.invokevirtual 162, 3) := by decide +kernel
theorem dX11_next_50 : decode cX11_next 50 = .ok (.istore_n 1, 1) := by decide +kernel
theorem dX11_next_51 : decode cX11_next 51 = .ok (.iload_n 1, 1) := by decide +kernel
theorem dX11_next_52 : decode cX11_next 52 = .ok (.ifCond .ge 11, 3) := by decide +kernel
theorem dX11_next_55 : decode cX11_next 55 = .ok (.aload_n 0, 1) := by decide +kernel
theorem dX11_next_56 : decode cX11_next 56 = .ok (.iconst 0, 1) := by decide +kernel
theorem dX11_next_57 : decode cX11_next 57 = .ok (.putfield 178, 3) := by decide +kernel
theorem dX11_next_60 : decode cX11_next 60 = .ok (.goto 214, 3) := by decide +kernel
theorem dX11_next_63 : decode cX11_next 63 = .ok (.iload_n 1, 1) := by decide +kernel
theorem dX11_next_64 : decode cX11_next 64 = .ok (.i2l, 1) := by decide +kernel
theorem dX11_next_65 : decode cX11_next 65 = .ok (.ldc2_w 181, 3) := by decide +kernel
theorem dX11_next_68 : decode cX11_next 68 = .ok (.ldc2_w 183, 3) := by decide +kernel
theorem dX11_next_71 : decode cX11_next 71 = .ok (.invokestatic 146, 3) := by decide +kernel
theorem dX11_next_74 : decode cX11_next 74 = .ok (.ifCond .eq 42, 3) := by decide +kernel
theorem dX11_next_77 : decode cX11_next 77 = .ok (.aload_n 0, 1) := by decide +kernel
theorem dX11_next_78 : decode cX11_next 78 = .ok (.iconst 1, 1) := by decide +kernel
theorem dX11_next_79 : decode cX11_next 79 = .ok (.putfield 178, 3) := by decide +kernel
theorem dX11_next_82 : decode cX11_next 82 = .ok (.aload_n 0, 1) := by decide +kernel
theorem dX11_next_83 : decode cX11_next 83 = .ok (.aload_n 0, 1) := by decide +kernel
theorem dX11_next_84 : decode cX11_next 84 = .ok (.getfield 159, 3) := by decide +kernel
theorem dX11_next_87 : decode cX11_next 87 = .ok (.invokevirtual 162, 3) := by decide +kernel
theorem dX11_next_90 : decode cX11_next 90 = .ok (.i2l, 1) := by decide +kernel
theorem dX11_next_91 : decode cX11_next 91 = .ok (.ldc2_w 181, 3) := by decide +kernel
theorem dX11_next_94 : decode cX11_next 94 = .ok (.ldc2_w 183, 3) := by decide +kernel
theorem dX11_next_97 : decode cX11_next 97 = .ok (.invokestatic 146, 3) := by decide +kernel
theorem dX11_next_100 : decode cX11_next 100 = .ok (.ifCond .eq 174, 3) := by decide +kernel
theorem dX11_next_103 : decode cX11_next 103 = .ok (.aload_n 0, 1) := by decide +kernel
theorem dX11_next_104 : decode cX11_next 104 = .ok (.dup, 1) := by decide +kernel
theorem dX11_next_105 : decode cX11_next 105 = .ok (.getfield 159, 3) := by decide +kernel
theorem dX11_next_108 : decode cX11_next 108 = .ok (.iconst 1, 1) := by decide +kernel
theorem dX11_next_109 : decode cX11_next 109 = .ok (.iadd, 1) := by decide +kernel
theorem dX11_next_110 : decode cX11_next 110 = .ok (.putfield 159, 3) := by decide +kernel
theorem dX11_next_113 : decode cX11_next 113 = .ok (.goto (-31), 3) := by decide +kernel
theorem dX11_next_116 : decode cX11_next 116 = .ok (.iload_n 1, 1) := by decide +kernel
theorem dX11_next_117 : decode cX11_next 117 = .ok (.i2l, 1) := by decide +kernel
theorem dX11_next_118 : decode cX11_next 118 = .ok (.ldc2_w 185, 3) := by decide +kernel
theorem dX11_next_121 : decode cX11_next 121 = .ok (.ldc2_w 187, 3) := by decide +kernel
theorem dX11_next_124 : decode cX11_next 124 = .ok (.invokestatic 146, 3) := by decide +kernel
theorem dX11_next_127 : decode cX11_next 127 = .ok (.ifCond .eq 116, 3) := by decide +kernel
theorem dX11_next_130 : decode cX11_next 130 = .ok (.aload_n 0, 1) := by decide +kernel
theorem dX11_next_131 : decode cX11_next 131 = .ok (.iconst 2, 1) := by decide +kernel
theorem dX11_next_132 : decode cX11_next 132 = .ok (.putfield 178, 3) := by decide +kernel
theorem dX11_next_135 : decode cX11_next 135 = .ok (.aload_n 0, 1) := by decide +kernel
theorem dX11_next_136 : decode cX11_next 136 = .ok (.iconst 0, 1) := by decide +kernel
theorem dX11_next_137 : decode cX11_next 137 = .ok (.putfield 189, 3) := by decide +kernel
theorem dX11_next_140 : decode cX11_next 140 = .ok (.aload_n 0, 1) := by decide +kernel
theorem dX11_next_141 : decode cX11_next 141 = .ok (.aload_n 0, 1) := by decide +kernel
theorem dX11_next_142 : decode cX11_next 142 = .ok (.getfield 159, 3) := by decide +kernel
theorem dX11_next_145 : decode cX11_next 145 = .ok (.invokevirtual 162, 3) := by decide +kernel
theorem dX11_next_148 : decode cX11_next 148 = .ok (.i2l, 1) := by decide +kernel
theorem dX11_next_149 : decode cX11_next 149 = .ok (.ldc2_w 185, 3) := by decide +kernel
theorem dX11_next_152 : decode cX11_next 152 = .ok (.ldc2_w 187, 3) := by decide +kernel
theorem dX11_next_155 : decode cX11_next 155 = .ok (.invokestatic 146, 3) := by decide +kernel
theorem dX11_next_158 : decode cX11_next 158 = .ok (.ifCond .eq 59, 3) := by decide +kernel
theorem dX11_next_161 : decode cX11_next 161 = .ok (.aload_n 0, 1) := by decide +kernel
theorem dX11_next_162 : decode cX11_next 162 = .ok (.aload_n 0, 1) := by decide +kernel
theorem dX11_next_163 : decode cX11_next 163 = .ok (.getfield 159, 3) := by decide +kernel
theorem dX11_next_166 : decode cX11_next 166 = .ok (.aload_n 0, 1) := by decide +kernel
theorem dX11_next_167 : decode cX11_next 167 = .ok (.getfield 153, 3) := by decide +kernel
theorem dX11_next_170 : decode cX11_next 170 = .ok (.isub, 1) := by decide +kernel
theorem dX11_next_171 : decode cX11_next 171 = .ok (.iconst 2, 1) := by decide +kernel
theorem dX11_next_172 : decode cX11_next 172 = .ok (.if_icmp .ge 25, 3) := by decide +kernel
theorem dX11_next_175 : decode cX11_next 175 = .ok (.bipush 10, 2) := by decide +kernel
theorem dX11_next_177 : decode cX11_next 177 = .ok (.aload_n 0, 1) := by decide +kernel
theorem dX11_next_178 : decode cX11_next 178 = .ok (.getfield 189, 3) := by decide +kernel
theorem dX11_next_181 : decode cX11_next 181 = .ok (.imul, 1) := by decide +kernel
theorem dX11_next_182 : decode cX11_next 182 = .ok (.aload_n 0, 1) := by decide +kernel
theorem dX11_next_183 : decode cX11_next 183 = .ok (.aload_n 0, 1) := by decide +kernel
theorem dX11_next_184 : decode cX11_next 184 = .ok (.getfield 159, 3) := by decide +kernel
theorem dX11_next_187 : decode cX11_next 187 = .ok (.invokevirtual 162, 3) := by decide +kernel
theorem dX11_next_190 : decode cX11_next 190 = .ok (.iadd, 1) := by decide +kernel
theorem dX11_next_191 : decode cX11_next 191 = .ok (.bipush 48, 2) := by decide +kernel
theorem dX11_next_193 : decode cX11_next 193 = .ok (.isub, 1) := by decide +kernel
theorem dX11_next_194 : decode cX11_next 194 = .ok (.goto 7, 3) := by decide +kernel
theorem dX11_next_197 : decode cX11_next 197 = .ok (.aload_n 0, 1) := by decide +kernel
theorem dX11_next_198 : decode cX11_next 198 = .ok (.getfield 189, 3) := by decide +kernel
theorem dX11_next_201 : decode cX11_next 201 = .ok (.putfield 189, 3) := by decide +kernel
theorem dX11_next_204 : decode cX11_next 204 = .ok (.aload_n 0, 1) := by decide +kernel
theorem dX11_next_205 : decode cX11_next 205 = .ok (.dup, 1) := by decide +kernel
theorem dX11_next_206 : decode cX11_next 206 = .ok (.getfield 159, 3) := by decide +kernel
theorem dX11_next_209 : decode cX11_next 209 = .ok (.iconst 1, 1) := by decide +kernel
theorem dX11_next_210 : decode cX11_next 210 = .ok (.iadd, 1) := by decide +kernel
theorem dX11_next_211 : decode cX11_next 211 = .ok (.putfield 159, 3) := by decide +kernel
theorem dX11_next_214 : decode cX11_next 214 = .ok (.goto (-74), 3) := by decide +kernel
theorem dX11_next_217 : decode cX11_next 217 = .ok (.aload_n 0, 1) := by decide +kernel
theorem dX11_next_218 : decode cX11_next 218 = .ok (.aload_n 0, 1) := by decide +kernel
theorem dX11_next_219 : decode cX11_next 219 = .ok (.getfield 159, 3) := by decide +kernel
theorem dX11_next_222 : decode cX11_next 222 = .ok (.aload_n 0, 1) := by decide +kernel
theorem dX11_next_223 : decode cX11_next 223 = .ok (.getfield 153, 3) := by decide +kernel
theorem dX11_next_226 : decode cX11_next 226 = .ok (.isub, 1) := by decide +kernel
theorem dX11_next_227 : decode cX11_next 227 = .ok (.iconst 2, 1) := by decide +kernel
theorem dX11_next_228 : decode cX11_next 228 = .ok (.if_icmp .gt 7, 3) := by decide +kernel
theorem dX11_next_231 : decode cX11_next 231 = .ok (.iconst 1, 1) := by decide +kernel
theorem dX11_next_232 : decode cX11_next 232 = .ok (.goto 4, 3) := by decide +kernel
theorem dX11_next_235 : decode cX11_next 235 = .ok (.iconst 0, 1) := by decide +kernel
theorem dX11_next_236 : decode cX11_next 236 = .ok (.iconst 1, 1) := by decide +kernel
theorem dX11_next_237 : decode cX11_next 237 = .ok (.invokevirtual 192, 3) := by decide +kernel
theorem dX11_next_240 : decode cX11_next 240 = .ok (.goto 34, 3) := by decide +kernel
theorem dX11_next_243 : decode cX11_next 243 = .ok (.aload_n 0, 1) := by decide +kernel
theorem dX11_next_244 : decode cX11_next 244 = .ok (.iconst 3, 1) := by decide +kernel
theorem dX11_next_245 : decode cX11_next 245 = .ok (.putfield 178, 3) := by decide +kernel
theorem dX11_next_248 : decode cX11_next 248 = .ok (.aload_n 0, 1) := by decide +kernel
theorem dX11_next_249 : decode cX11_next 249 = .ok (.iload_n 1, 1) := by decide +kernel
theorem dX11_next_250 : decode cX11_next 250 = .ok (.bipush 59, 2) := by decide +kernel
theorem dX11_next_252 : decode cX11_next 252 = .ok (.if_icmp .ne 7, 3) := by decide +kernel
theorem dX11_next_255 : decode cX11_next 255 = .ok (.iconst 1, 1) := by decide +kernel
theorem dX11_next_256 : decode cX11_next 256 = .ok (.goto 4, 3) := by decide +kernel
theorem dX11_next_259 : decode cX11_next 259 = .ok (.iconst 0, 1) := by decide +kernel
theorem dX11_next_260 : decode cX11_next 260 = .ok (.iconst 1, 1) := by decide +kernel
theorem dX11_next_261 : decode cX11_next 261 = .ok (.invokevirtual 192, 3) := by decide +kernel
theorem dX11_next_264 : decode cX11_next 264 = .ok (.aload_n 0, 1) := by decide +kernel
theorem dX11_next_265 : decode cX11_next 265 = .ok (.dup, 1) := by decide +kernel
theorem dX11_next_266 : decode cX11_next 266 = .ok (.getfield 159, 3) := by decide +kernel
theorem dX11_next_269 : decode cX11_next 269 = .ok (.iconst 1, 1) := by decide +kernel
theorem dX11_next_270 : decode cX11_next 270 = .ok (.iadd, 1) := by decide +kernel
theorem dX11_next_271 : decode cX11_next 271 = .ok (.putfield 159, 3) := by decide +kernel
theorem dX11_next_274 : decode cX11_next 274 = .ok (.return_, 1) := by decide +kernel
theorem dX11_looked_0 : decode cX11_looked 0 = .ok (.aload_n 0, 1) := by decide +kernel
theorem dX11_looked_1 : decode cX11_looked 1 = .ok (.getfield 150, 3) := by decide +kernel
theorem dX11_looked_4 : decode cX11_looked 4 = .ok (.ifCond .ne 21, 3) := by decide +kernel
theorem dX11_looked_7 : decode cX11_looked 7 = .ok (.aload_n 0, 1) := by decide +kernel
theorem dX11_looked_8 : decode cX11_looked 8 = .ok (.aload_n 0, 1) := by decide +kernel
theorem dX11_looked_9 : decode cX11_looked 9 = .ok (.getfield 178, 3) := by decide +kernel
theorem dX11_looked_12 : decode cX11_looked 12 = .ok (.iconst 2, 1) := by decide +kernel
theorem dX11_looked_13 : decode cX11_looked 13 = .ok (.if_icmp .ne 7, 3) := by decide +kernel
theorem dX11_looked_16 : decode cX11_looked 16 = .ok (.iconst 1, 1) := by decide +kernel
theorem dX11_looked_17 : decode cX11_looked 17 = .ok (.goto 4, 3) := by decide +kernel
theorem dX11_looked_20 : decode cX11_looked 20 = .ok (.iconst 0, 1) := by decide +kernel
theorem dX11_looked_21 : decode cX11_looked 21 = .ok (.iconst 2, 1) := by decide +kernel
theorem dX11_looked_22 : decode cX11_looked 22 = .ok (.invokevirtual 192, 3) := by decide +kernel
theorem dX11_looked_25 : decode cX11_looked 25 = .ok (.aload_n 0, 1) := by decide +kernel
theorem dX11_looked_26 : decode cX11_looked 26 = .ok (.getfield 150, 3) := by decide +kernel
theorem dX11_looked_29 : decode cX11_looked 29 = .ok (.ifCond .ne 20, 3) := by decide +kernel
theorem dX11_looked_32 : decode cX11_looked 32 = .ok (.aload_n 0, 1) := by decide +kernel
theorem dX11_looked_33 : decode cX11_looked 33 = .ok (.aload_n 0, 1) := by decide +kernel
theorem dX11_looked_34 : decode cX11_looked 34 = .ok (.getfield 189, 3) := by decide +kernel
theorem dX11_looked_37 : decode cX11_looked 37 = .ok (.i2l, 1) := by decide +kernel
theorem dX11_looked_38 : decode cX11_looked 38 = .ok (.iload_n 1, 1) := by decide +kernel
theorem dX11_looked_39 : decode cX11_looked 39 = .ok (.i2l, 1) := by decide +kernel
theorem dX11_looked_40 : decode cX11_looked 40 = .ok (.iload_n 2, 1) := by decide +kernel
theorem dX11_looked_41 : decode cX11_looked 41 = .ok (.i2l, 1) := by decide +kernel
theorem dX11_looked_42 : decode cX11_looked 42 = .ok (.invokestatic 146, 3) := by decide +kernel
theorem dX11_looked_45 : decode cX11_looked 45 = .ok (.iconst 3, 1) := by decide +kernel
theorem dX11_looked_46 : decode cX11_looked 46 = .ok (.invokevirtual 192, 3) := by decide +kernel
theorem dX11_looked_49 : decode cX11_looked 49 = .ok (.aload_n 0, 1) := by decide +kernel
theorem dX11_looked_50 : decode cX11_looked 50 = .ok (.getfield 150, 3) := by decide +kernel
theorem dX11_looked_53 : decode cX11_looked 53 = .ok (.ifCond .ne 10, 3) := by decide +kernel
theorem dX11_looked_56 : decode cX11_looked 56 = .ok (.aload_n 0, 1) := by decide +kernel
theorem dX11_looked_57 : decode cX11_looked 57 = .ok (.getfield 189, 3) := by decide +kernel
theorem dX11_looked_60 : decode cX11_looked 60 = .ok (.goto 4, 3) := by decide +kernel
theorem dX11_looked_63 : decode cX11_looked 63 = .ok (.iconst 0, 1) := by decide +kernel
theorem dX11_looked_64 : decode cX11_looked 64 = .ok (.ireturn, 1) := by decide +kernel
theorem dX11_readNumber_0 : decode cX11_readNumber 0 = .ok (.aload_n 0, 1) := by decide +kernel
theorem dX11_readNumber_1 : decode cX11_readNumber 1 = .ok (.iload_n 1, 1) := by decide +kernel
theorem dX11_readNumber_2 : decode cX11_readNumber 2 = .ok (.iload_n 2, 1) := by decide +kernel
theorem dX11_readNumber_3 : decode cX11_readNumber 3 = .ok (.invokevirtual 196, 3) := by decide +kernel
theorem dX11_readNumber_6 : decode cX11_readNumber 6 = .ok (.istore_n 3, 1) := by decide +kernel
theorem dX11_readNumber_7 : decode cX11_readNumber 7 = .ok (.aload_n 0, 1) := by decide +kernel
theorem dX11_readNumber_8 : decode cX11_readNumber 8 = .ok (.invokevirtual 200, 3) := by decide +kernel
theorem dX11_readNumber_11 : decode cX11_readNumber 11 = .ok (.iload_n 3, 1) := by decide +kernel
theorem dX11_readNumber_12 : decode cX11_readNumber 12 = .ok (.ireturn, 1) := by decide +kernel
theorem dX11_readLot_0 : decode cX11_readLot 0 = .ok (.aload_n 0, 1) := by decide +kernel
theorem dX11_readLot_1 : decode cX11_readLot 1 = .ok (.iconst 0, 1) := by decide +kernel
theorem dX11_readLot_2 : decode cX11_readLot 2 = .ok (.bipush 7, 2) := by decide +kernel
theorem dX11_readLot_4 : decode cX11_readLot 4 = .ok (.invokevirtual 203, 3) := by decide +kernel
theorem dX11_readLot_7 : decode cX11_readLot 7 = .ok (.istore_n 1, 1) := by decide +kernel
theorem dX11_readLot_8 : decode cX11_readLot 8 = .ok (.aload_n 0, 1) := by decide +kernel
theorem dX11_readLot_9 : decode cX11_readLot 9 = .ok (.iload_n 1, 1) := by decide +kernel
theorem dX11_readLot_10 : decode cX11_readLot 10 = .ok (.aload_n 0, 1) := by decide +kernel
theorem dX11_readLot_11 : decode cX11_readLot 11 = .ok (.getfield 126, 3) := by decide +kernel
theorem dX11_readLot_14 : decode cX11_readLot 14 = .ok (.if_icmp .le 7, 3) := by decide +kernel
theorem dX11_readLot_17 : decode cX11_readLot 17 = .ok (.iload_n 1, 1) := by decide +kernel
theorem dX11_readLot_18 : decode cX11_readLot 18 = .ok (.goto 7, 3) := by decide +kernel
theorem dX11_readLot_21 : decode cX11_readLot 21 = .ok (.aload_n 0, 1) := by decide +kernel
theorem dX11_readLot_22 : decode cX11_readLot 22 = .ok (.getfield 126, 3) := by decide +kernel
theorem dX11_readLot_25 : decode cX11_readLot 25 = .ok (.putfield 126, 3) := by decide +kernel
theorem dX11_readLot_28 : decode cX11_readLot 28 = .ok (.iload_n 1, 1) := by decide +kernel
theorem dX11_readLot_29 : decode cX11_readLot 29 = .ok (.ireturn, 1) := by decide +kernel
theorem dX11_readKind_0 : decode cX11_readKind 0 = .ok (.aload_n 0, 1) := by decide +kernel
theorem dX11_readKind_1 : decode cX11_readKind 1 = .ok (.getfield 150, 3) := by decide +kernel
theorem dX11_readKind_4 : decode cX11_readKind 4 = .ok (.ifCond .ne 18, 3) := by decide +kernel
theorem dX11_readKind_7 : decode cX11_readKind 7 = .ok (.aload_n 0, 1) := by decide +kernel
theorem dX11_readKind_8 : decode cX11_readKind 8 = .ok (.getfield 178, 3) := by decide +kernel
theorem dX11_readKind_11 : decode cX11_readKind 11 = .ok (.iconst 1, 1) := by decide +kernel
theorem dX11_readKind_12 : decode cX11_readKind 12 = .ok (.if_icmp .ne 10, 3) := by decide +kernel
theorem dX11_readKind_15 : decode cX11_readKind 15 = .ok (.aload_n 0, 1) := by decide +kernel
theorem dX11_readKind_16 : decode cX11_readKind 16 = .ok (.invokevirtual 206, 3) := by decide +kernel
theorem dX11_readKind_19 : decode cX11_readKind 19 = .ok (.goto 5, 3) := by decide +kernel
theorem dX11_readKind_22 : decode cX11_readKind 22 = .ok (.bipush (-4), 2) := by decide +kernel
theorem dX11_readKind_24 : decode cX11_readKind 24 = .ok (.istore_n 2, 1) := by decide +kernel
theorem dX11_readKind_25 : decode cX11_readKind 25 = .ok (.aload_n 0, 1) := by decide +kernel
theorem dX11_readKind_26 : decode cX11_readKind 26 = .ok (.iload_n 2, 1) := by decide +kernel
theorem dX11_readKind_27 : decode cX11_readKind 27 = .ok (.bipush (-4), 2) := by decide +kernel
theorem dX11_readKind_29 : decode cX11_readKind 29 = .ok (.if_icmp .eq 7, 3) := by decide +kernel
theorem dX11_readKind_32 : decode cX11_readKind 32 = .ok (.iconst 1, 1) := by decide +kernel
theorem dX11_readKind_33 : decode cX11_readKind 33 = .ok (.goto 4, 3) := by decide +kernel
theorem dX11_readKind_36 : decode cX11_readKind 36 = .ok (.iconst 0, 1) := by decide +kernel
theorem dX11_readKind_37 : decode cX11_readKind 37 = .ok (.iconst 2, 1) := by decide +kernel
theorem dX11_readKind_38 : decode cX11_readKind 38 = .ok (.invokevirtual 192, 3) := by decide +kernel
theorem dX11_readKind_41 : decode cX11_readKind 41 = .ok (.aload_n 0, 1) := by decide +kernel
theorem dX11_readKind_42 : decode cX11_readKind 42 = .ok (.iload_n 2, 1) := by decide +kernel
theorem dX11_readKind_43 : decode cX11_readKind 43 = .ok (.bipush (-4), 2) := by decide +kernel
theorem dX11_readKind_45 : decode cX11_readKind 45 = .ok (.if_icmp .eq 11, 3) := by decide +kernel
theorem dX11_readKind_48 : decode cX11_readKind 48 = .ok (.iload_n 1, 1) := by decide +kernel
theorem dX11_readKind_49 : decode cX11_readKind 49 = .ok (.iload_n 2, 1) := by decide +kernel
theorem dX11_readKind_50 : decode cX11_readKind 50 = .ok (.ishr, 1) := by decide +kernel
theorem dX11_readKind_51 : decode cX11_readKind 51 = .ok (.iconst 1, 1) := by decide +kernel
theorem dX11_readKind_52 : decode cX11_readKind 52 = .ok (.iand, 1) := by decide +kernel
theorem dX11_readKind_53 : decode cX11_readKind 53 = .ok (.ifCond .ne 7, 3) := by decide +kernel
theorem dX11_readKind_56 : decode cX11_readKind 56 = .ok (.iconst 1, 1) := by decide +kernel
theorem dX11_readKind_57 : decode cX11_readKind 57 = .ok (.goto 4, 3) := by decide +kernel
theorem dX11_readKind_60 : decode cX11_readKind 60 = .ok (.iconst 0, 1) := by decide +kernel
theorem dX11_readKind_61 : decode cX11_readKind 61 = .ok (.iconst 4, 1) := by decide +kernel
theorem dX11_readKind_62 : decode cX11_readKind 62 = .ok (.invokevirtual 192, 3) := by decide +kernel
theorem dX11_readKind_65 : decode cX11_readKind 65 = .ok (.aload_n 0, 1) := by decide +kernel
theorem dX11_readKind_66 : decode cX11_readKind 66 = .ok (.invokevirtual 200, 3) := by decide +kernel
theorem dX11_readKind_69 : decode cX11_readKind 69 = .ok (.iload_n 2, 1) := by decide +kernel
theorem dX11_readKind_70 : decode cX11_readKind 70 = .ok (.bipush (-4), 2) := by decide +kernel
theorem dX11_readKind_72 : decode cX11_readKind 72 = .ok (.if_icmp .ne 7, 3) := by decide +kernel
theorem dX11_readKind_75 : decode cX11_readKind 75 = .ok (.iconst 0, 1) := by decide +kernel
theorem dX11_readKind_76 : decode cX11_readKind 76 = .ok (.goto 4, 3) := by decide +kernel
theorem dX11_readKind_79 : decode cX11_readKind 79 = .ok (.iload_n 2, 1) := by decide +kernel
theorem dX11_readKind_80 : decode cX11_readKind 80 = .ok (.ireturn, 1) := by decide +kernel
theorem dX11_readColour_0 : decode cX11_readColour 0 = .ok (.aload_n 0, 1) := by decide +kernel
theorem dX11_readColour_1 : decode cX11_readColour 1 = .ok (.iconst 0, 1) := by decide +kernel
theorem dX11_readColour_2 : decode cX11_readColour 2 = .ok (.iconst 3, 1) := by decide +kernel
theorem dX11_readColour_3 : decode cX11_readColour 3 = .ok (.invokevirtual 196, 3) := by decide +kernel
theorem dX11_readColour_6 : decode cX11_readColour 6 = .ok (.istore_n 2, 1) := by decide +kernel
theorem dX11_readColour_7 : decode cX11_readColour 7 = .ok (.aload_n 0, 1) := by decide +kernel
theorem dX11_readColour_8 : decode cX11_readColour 8 = .ok (.getfield 150, 3) := by decide +kernel
theorem dX11_readColour_11 : decode cX11_readColour 11 = .ok (.ifCond .ne 21, 3) := by decide +kernel
theorem dX11_readColour_14 : decode cX11_readColour 14 = .ok (.aload_n 0, 1) := by decide +kernel
theorem dX11_readColour_15 : decode cX11_readColour 15 = .ok (.iload_n 1, 1) := by decide +kernel
theorem dX11_readColour_16 : decode cX11_readColour 16 = .ok (.iload_n 2, 1) := by decide +kernel
theorem dX11_readColour_17 : decode cX11_readColour 17 = .ok (.ishr, 1) := by decide +kernel
theorem dX11_readColour_18 : decode cX11_readColour 18 = .ok (.iconst 1, 1) := by decide +kernel
theorem dX11_readColour_19 : decode cX11_readColour 19 = .ok (.iand, 1) := by decide +kernel
theorem dX11_readColour_20 : decode cX11_readColour 20 = .ok (.ifCond .ne 7, 3) := by decide +kernel
theorem dX11_readColour_23 : decode cX11_readColour 23 = .ok (.iconst 1, 1) := by decide +kernel
theorem dX11_readColour_24 : decode cX11_readColour 24 = .ok (.goto 4, 3) := by decide +kernel
theorem dX11_readColour_27 : decode cX11_readColour 27 = .ok (.iconst 0, 1) := by decide +kernel
theorem dX11_readColour_28 : decode cX11_readColour 28 = .ok (.iconst 4, 1) := by decide +kernel
theorem dX11_readColour_29 : decode cX11_readColour 29 = .ok (.invokevirtual 192, 3) := by decide +kernel
theorem dX11_readColour_32 : decode cX11_readColour 32 = .ok (.aload_n 0, 1) := by decide +kernel
theorem dX11_readColour_33 : decode cX11_readColour 33 = .ok (.invokevirtual 200, 3) := by decide +kernel
theorem dX11_readColour_36 : decode cX11_readColour 36 = .ok (.iload_n 2, 1) := by decide +kernel
theorem dX11_readColour_37 : decode cX11_readColour 37 = .ok (.ireturn, 1) := by decide +kernel
theorem dX11_readWhat_0 : decode cX11_readWhat 0 = .ok (.aload_n 0, 1) := by decide +kernel
theorem dX11_readWhat_1 : decode cX11_readWhat 1 = .ok (.getfield 150, 3) := by decide +kernel
theorem dX11_readWhat_4 : decode cX11_readWhat 4 = .ok (.ifCond .ne 24, 3) := by decide +kernel
theorem dX11_readWhat_7 : decode cX11_readWhat 7 = .ok (.aload_n 0, 1) := by decide +kernel
theorem dX11_readWhat_8 : decode cX11_readWhat 8 = .ok (.getfield 178, 3) := by decide +kernel
theorem dX11_readWhat_11 : decode cX11_readWhat 11 = .ok (.iconst 1, 1) := by decide +kernel
theorem dX11_readWhat_12 : decode cX11_readWhat 12 = .ok (.if_icmp .ne 16, 3) := by decide +kernel
theorem dX11_readWhat_15 : decode cX11_readWhat 15 = .ok (.aload_n 0, 1) := by decide +kernel
theorem dX11_readWhat_16 : decode cX11_readWhat 16 = .ok (.invokevirtual 209, 3) := by decide +kernel
theorem dX11_readWhat_19 : decode cX11_readWhat 19 = .ok (.ifCond .eq 9, 3) := by decide +kernel
theorem dX11_readWhat_22 : decode cX11_readWhat 22 = .ok (.aload_n 0, 1) := by decide +kernel
theorem dX11_readWhat_23 : decode cX11_readWhat 23 = .ok (.invokevirtual 200, 3) := by decide +kernel
theorem dX11_readWhat_26 : decode cX11_readWhat 26 = .ok (.iconst 0, 1) := by decide +kernel
theorem dX11_readWhat_27 : decode cX11_readWhat 27 = .ok (.ireturn, 1) := by decide +kernel
theorem dX11_readWhat_28 : decode cX11_readWhat 28 = .ok (.aload_n 0, 1) := by decide +kernel
theorem dX11_readWhat_29 : decode cX11_readWhat 29 = .ok (.iconst 0, 1) := by decide +kernel
theorem dX11_readWhat_30 : decode cX11_readWhat 30 = .ok (.invokevirtual 213, 3) := by decide +kernel
theorem dX11_readWhat_33 : decode cX11_readWhat 33 = .ok (.istore_n 1, 1) := by decide +kernel
theorem dX11_readWhat_34 : decode cX11_readWhat 34 = .ok (.aload_n 0, 1) := by decide +kernel
theorem dX11_readWhat_35 : decode cX11_readWhat 35 = .ok (.iconst 0, 1) := by decide +kernel
theorem dX11_readWhat_36 : decode cX11_readWhat 36 = .ok (.iconst 3, 1) := by decide +kernel
theorem dX11_readWhat_37 : decode cX11_readWhat 37 = .ok (.invokevirtual 203, 3) := by decide +kernel
theorem dX11_readWhat_40 : decode cX11_readWhat 40 = .ok (.istore_n 2, 1) := by decide +kernel
theorem dX11_readWhat_41 : decode cX11_readWhat 41 = .ok (.aload_n 0, 1) := by decide +kernel
theorem dX11_readWhat_42 : decode cX11_readWhat 42 = .ok (.getfield 150, 3) := by decide +kernel
theorem dX11_readWhat_45 : decode cX11_readWhat 45 = .ok (.ifCond .ne 18, 3) := by decide +kernel
theorem dX11_readWhat_48 : decode cX11_readWhat 48 = .ok (.aload_n 0, 1) := by decide +kernel
theorem dX11_readWhat_49 : decode cX11_readWhat 49 = .ok (.getfield 178, 3) := by decide +kernel
theorem dX11_readWhat_52 : decode cX11_readWhat 52 = .ok (.iconst 1, 1) := by decide +kernel
theorem dX11_readWhat_53 : decode cX11_readWhat 53 = .ok (.if_icmp .ne 10, 3) := by decide +kernel
theorem dX11_readWhat_56 : decode cX11_readWhat 56 = .ok (.aload_n 0, 1) := by decide +kernel
theorem dX11_readWhat_57 : decode cX11_readWhat 57 = .ok (.invokevirtual 216, 3) := by decide +kernel
theorem dX11_readWhat_60 : decode cX11_readWhat 60 = .ok (.goto 5, 3) := by decide +kernel
theorem dX11_readWhat_63 : decode cX11_readWhat 63 = .ok (.bipush (-4), 2) := by decide +kernel
theorem dX11_readWhat_65 : decode cX11_readWhat 65 = .ok (.istore_n 3, 1) := by decide +kernel
theorem dX11_readWhat_66 : decode cX11_readWhat 66 = .ok (.aload_n 0, 1) := by decide +kernel
theorem dX11_readWhat_67 : decode cX11_readWhat 67 = .ok (.iload_n 3, 1) := by decide +kernel
theorem dX11_readWhat_68 : decode cX11_readWhat 68 = .ok (.bipush (-4), 2) := by decide +kernel
theorem dX11_readWhat_70 : decode cX11_readWhat 70 = .ok (.if_icmp .eq 7, 3) := by decide +kernel
theorem dX11_readWhat_73 : decode cX11_readWhat 73 = .ok (.iconst 1, 1) := by decide +kernel
theorem dX11_readWhat_74 : decode cX11_readWhat 74 = .ok (.goto 4, 3) := by decide +kernel
theorem dX11_readWhat_77 : decode cX11_readWhat 77 = .ok (.iconst 0, 1) := by decide +kernel
theorem dX11_readWhat_78 : decode cX11_readWhat 78 = .ok (.iconst 2, 1) := by decide +kernel
theorem dX11_readWhat_79 : decode cX11_readWhat 79 = .ok (.invokevirtual 192, 3) := by decide +kernel
theorem dX11_readWhat_82 : decode cX11_readWhat 82 = .ok (.aload_n 0, 1) := by decide +kernel
theorem dX11_readWhat_83 : decode cX11_readWhat 83 = .ok (.invokevirtual 200, 3) := by decide +kernel
theorem dX11_readWhat_86 : decode cX11_readWhat 86 = .ok (.aload_n 0, 1) := by decide +kernel
theorem dX11_readWhat_87 : decode cX11_readWhat 87 = .ok (.getfield 150, 3) := by decide +kernel
theorem dX11_readWhat_90 : decode cX11_readWhat 90 = .ok (.ifCond .le 7, 3) := by decide +kernel
theorem dX11_readWhat_93 : decode cX11_readWhat 93 = .ok (.iconst 0, 1) := by decide +kernel
theorem dX11_readWhat_94 : decode cX11_readWhat 94 = .ok (.goto 14, 3) := by decide +kernel
theorem dX11_readWhat_97 : decode cX11_readWhat 97 = .ok (.iload_n 1, 1) := by decide +kernel
theorem dX11_readWhat_98 : decode cX11_readWhat 98 = .ok (.bipush 8, 2) := by decide +kernel
theorem dX11_readWhat_100 : decode cX11_readWhat 100 = .ok (.iload_n 2, 1) := by decide +kernel
theorem dX11_readWhat_101 : decode cX11_readWhat 101 = .ok (.imul, 1) := by decide +kernel
theorem dX11_readWhat_102 : decode cX11_readWhat 102 = .ok (.iadd, 1) := by decide +kernel
theorem dX11_readWhat_103 : decode cX11_readWhat 103 = .ok (.bipush 32, 2) := by decide +kernel
theorem dX11_readWhat_105 : decode cX11_readWhat 105 = .ok (.iload_n 3, 1) := by decide +kernel
theorem dX11_readWhat_106 : decode cX11_readWhat 106 = .ok (.imul, 1) := by decide +kernel
theorem dX11_readWhat_107 : decode cX11_readWhat 107 = .ok (.iadd, 1) := by decide +kernel
theorem dX11_readWhat_108 : decode cX11_readWhat 108 = .ok (.ireturn, 1) := by decide +kernel
theorem dX11_readCosts_0 : decode cX11_readCosts 0 = .ok (.aload_n 0, 1) := by decide +kernel
theorem dX11_readCosts_1 : decode cX11_readCosts 1 = .ok (.iconst 0, 1) := by decide +kernel
theorem dX11_readCosts_2 : decode cX11_readCosts 2 = .ok (.iconst 1, 1) := by decide +kernel
theorem dX11_readCosts_3 : decode cX11_readCosts 3 = .ok (.invokevirtual 196, 3) := by decide +kernel
theorem dX11_readCosts_6 : decode cX11_readCosts 6 = .ok (.istore_n 2, 1) := by decide +kernel
theorem dX11_readCosts_7 : decode cX11_readCosts 7 = .ok (.aload_n 0, 1) := by decide +kernel
theorem dX11_readCosts_8 : decode cX11_readCosts 8 = .ok (.getfield 150, 3) := by decide +kernel
theorem dX11_readCosts_11 : decode cX11_readCosts 11 = .ok (.ifCond .ne 35, 3) := by decide +kernel
theorem dX11_readCosts_14 : decode cX11_readCosts 14 = .ok (.aload_n 0, 1) := by decide +kernel
theorem dX11_readCosts_15 : decode cX11_readCosts 15 = .ok (.iload_n 1, 1) := by decide +kernel
theorem dX11_readCosts_16 : decode cX11_readCosts 16 = .ok (.ifCond .eq 10, 3) := by decide +kernel
theorem dX11_readCosts_19 : decode cX11_readCosts 19 = .ok (.aload_n 0, 1) := by decide +kernel
theorem dX11_readCosts_20 : decode cX11_readCosts 20 = .ok (.getfield 114, 3) := by decide +kernel
theorem dX11_readCosts_23 : decode cX11_readCosts 23 = .ok (.goto 7, 3) := by decide +kernel
theorem dX11_readCosts_26 : decode cX11_readCosts 26 = .ok (.aload_n 0, 1) := by decide +kernel
theorem dX11_readCosts_27 : decode cX11_readCosts 27 = .ok (.getfield 117, 3) := by decide +kernel
theorem dX11_readCosts_30 : decode cX11_readCosts 30 = .ok (.iload_n 2, 1) := by decide +kernel
theorem dX11_readCosts_31 : decode cX11_readCosts 31 = .ok (.ishr, 1) := by decide +kernel
theorem dX11_readCosts_32 : decode cX11_readCosts 32 = .ok (.iconst 1, 1) := by decide +kernel
theorem dX11_readCosts_33 : decode cX11_readCosts 33 = .ok (.iand, 1) := by decide +kernel
theorem dX11_readCosts_34 : decode cX11_readCosts 34 = .ok (.ifCond .ne 7, 3) := by decide +kernel
theorem dX11_readCosts_37 : decode cX11_readCosts 37 = .ok (.iconst 1, 1) := by decide +kernel
theorem dX11_readCosts_38 : decode cX11_readCosts 38 = .ok (.goto 4, 3) := by decide +kernel
theorem dX11_readCosts_41 : decode cX11_readCosts 41 = .ok (.iconst 0, 1) := by decide +kernel
theorem dX11_readCosts_42 : decode cX11_readCosts 42 = .ok (.iconst 4, 1) := by decide +kernel
theorem dX11_readCosts_43 : decode cX11_readCosts 43 = .ok (.invokevirtual 192, 3) := by decide +kernel
theorem dX11_readCosts_46 : decode cX11_readCosts 46 = .ok (.aload_n 0, 1) := by decide +kernel
theorem dX11_readCosts_47 : decode cX11_readCosts 47 = .ok (.dup, 1) := by decide +kernel
theorem dX11_readCosts_48 : decode cX11_readCosts 48 = .ok (.getfield 114, 3) := by decide +kernel
theorem dX11_readCosts_51 : decode cX11_readCosts 51 = .ok (.iload_n 1, 1) := by decide +kernel
theorem dX11_readCosts_52 : decode cX11_readCosts 52 = .ok (.ifCond .eq 9, 3) := by decide +kernel
theorem dX11_readCosts_55 : decode cX11_readCosts 55 = .ok (.iconst 1, 1) := by decide +kernel
theorem dX11_readCosts_56 : decode cX11_readCosts 56 = .ok (.iload_n 2, 1) := by decide +kernel
theorem dX11_readCosts_57 : decode cX11_readCosts 57 = .ok (.ishl, 1) := by decide +kernel
theorem dX11_readCosts_58 : decode cX11_readCosts 58 = .ok (.goto 4, 3) := by decide +kernel
theorem dX11_readCosts_61 : decode cX11_readCosts 61 = .ok (.iconst 0, 1) := by decide +kernel
theorem dX11_readCosts_62 : decode cX11_readCosts 62 = .ok (.ior, 1) := by decide +kernel
theorem dX11_readCosts_63 : decode cX11_readCosts 63 = .ok (.putfield 114, 3) := by decide +kernel
theorem dX11_readCosts_66 : decode cX11_readCosts 66 = .ok (.aload_n 0, 1) := by decide +kernel
theorem dX11_readCosts_67 : decode cX11_readCosts 67 = .ok (.dup, 1) := by decide +kernel
theorem dX11_readCosts_68 : decode cX11_readCosts 68 = .ok (.getfield 117, 3) := by decide +kernel
theorem dX11_readCosts_71 : decode cX11_readCosts 71 = .ok (.iload_n 1, 1) := by decide +kernel
theorem dX11_readCosts_72 : decode cX11_readCosts 72 = .ok (.ifCond .eq 7, 3) := by decide +kernel
theorem dX11_readCosts_75 : decode cX11_readCosts 75 = .ok (.iconst 0, 1) := by decide +kernel
theorem dX11_readCosts_76 : decode cX11_readCosts 76 = .ok (.goto 6, 3) := by decide +kernel
theorem dX11_readCosts_79 : decode cX11_readCosts 79 = .ok (.iconst 1, 1) := by decide +kernel
theorem dX11_readCosts_80 : decode cX11_readCosts 80 = .ok (.iload_n 2, 1) := by decide +kernel
theorem dX11_readCosts_81 : decode cX11_readCosts 81 = .ok (.ishl, 1) := by decide +kernel
theorem dX11_readCosts_82 : decode cX11_readCosts 82 = .ok (.ior, 1) := by decide +kernel
theorem dX11_readCosts_83 : decode cX11_readCosts 83 = .ok (.putfield 117, 3) := by decide +kernel
theorem dX11_readCosts_86 : decode cX11_readCosts 86 = .ok (.aload_n 0, 1) := by decide +kernel
