theorem dX4_init_0 : decode cX4_init 0 = .ok (.aload_n 0, 1) := by decide +kernel
theorem dX4_init_1 : decode cX4_init 1 = .ok (.invokespecial 3, 3) := by decide +kernel
theorem dX4_init_4 : decode cX4_init 4 = .ok (.aload_n 0, 1) := by decide +kernel
theorem dX4_init_5 : decode cX4_init 5 = .ok (.new 9, 3) := by decide +kernel
theorem dX4_init_8 : decode cX4_init 8 = .ok (.dup, 1) := by decide +kernel
theorem dX4_init_9 : decode cX4_init 9 = .ok (.invokespecial 11, 3) := by decide +kernel
theorem dX4_init_12 : decode cX4_init 12 = .ok (.putfield 12, 3) := by decide +kernel
theorem dX4_init_15 : decode cX4_init 15 = .ok (.aload_n 0, 1) := by decide +kernel
theorem dX4_init_16 : decode cX4_init 16 = .ok (.new 18, 3) := by decide +kernel
theorem dX4_init_19 : decode cX4_init 19 = .ok (.dup, 1) := by decide +kernel
theorem dX4_init_20 : decode cX4_init 20 = .ok (.invokespecial 20, 3) := by decide +kernel
theorem dX4_init_23 : decode cX4_init 23 = .ok (.putfield 21, 3) := by decide +kernel
theorem dX4_init_26 : decode cX4_init 26 = .ok (.aload_n 0, 1) := by decide +kernel
theorem dX4_init_27 : decode cX4_init 27 = .ok (.aload_n 1, 1) := by decide +kernel
theorem dX4_init_28 : decode cX4_init 28 = .ok (.putfield 25, 3) := by decide +kernel
theorem dX4_init_31 : decode cX4_init 31 = .ok (.return_, 1) := by decide +kernel
theorem dX4_readAll_0 : decode cX4_readAll 0 = .ok (.aload_n 0, 1) := by decide +kernel
theorem dX4_readAll_1 : decode cX4_readAll 1 = .ok (.invokevirtual 29, 3) := by decide +kernel
theorem dX4_readAll_4 : decode cX4_readAll 4 = .ok (.aload_n 0, 1) := by decide +kernel
theorem dX4_readAll_5 : decode cX4_readAll 5 = .ok (.invokevirtual 32, 3) := by decide +kernel
theorem dX4_readAll_8 : decode cX4_readAll 8 = .ok (.iconst 0, 1) := by decide +kernel
theorem dX4_readAll_9 : decode cX4_readAll 9 = .ok (.istore_n 1, 1) := by decide +kernel
theorem dX4_readAll_10 : decode cX4_readAll 10 = .ok (.iload_n 1, 1) := by decide +kernel
theorem dX4_readAll_11 : decode cX4_readAll 11 = .ok (.sipush 400, 3) := by decide +kernel
theorem dX4_readAll_14 : decode cX4_readAll 14 = .ok (.if_icmp .ge 45, 3) := by decide +kernel
theorem dX4_readAll_17 : decode cX4_readAll 17 = .ok (.aload_n 0, 1) := by decide +kernel
theorem dX4_readAll_18 : decode cX4_readAll 18 = .ok (.getfield 35, 3) := by decide +kernel
theorem dX4_readAll_21 : decode cX4_readAll 21 = .ok (.ifCond .ne 38, 3) := by decide +kernel
theorem dX4_readAll_24 : decode cX4_readAll 24 = .ok (.aload_n 0, 1) := by decide +kernel
theorem dX4_readAll_25 : decode cX4_readAll 25 = .ok (.getfield 39, 3) := by decide +kernel
theorem dX4_readAll_28 : decode cX4_readAll 28 = .ok (.ifCond .eq 31, 3) := by decide +kernel
theorem dX4_readAll_31 : decode cX4_readAll 31 = .ok (.aload_n 0, 1) := by decide +kernel
theorem dX4_readAll_32 : decode cX4_readAll 32 = .ok (.invokevirtual 42, 3) := by decide +kernel
theorem dX4_readAll_35 : decode cX4_readAll 35 = .ok (.aload_n 0, 1) := by decide +kernel
theorem dX4_readAll_36 : decode cX4_readAll 36 = .ok (.invokevirtual 45, 3) := by decide +kernel
theorem dX4_readAll_39 : decode cX4_readAll 39 = .ok (.aload_n 0, 1) := by decide +kernel
theorem dX4_readAll_40 : decode cX4_readAll 40 = .ok (.invokevirtual 32, 3) := by decide +kernel
theorem dX4_readAll_43 : decode cX4_readAll 43 = .ok (.aload_n 0, 1) := by decide +kernel
theorem dX4_readAll_44 : decode cX4_readAll 44 = .ok (.dup, 1) := by decide +kernel
theorem dX4_readAll_45 : decode cX4_readAll 45 = .ok (.getfield 48, 3) := by decide +kernel
theorem dX4_readAll_48 : decode cX4_readAll 48 = .ok (.iconst 1, 1) := by decide +kernel
theorem dX4_readAll_49 : decode cX4_readAll 49 = .ok (.iadd, 1) := by decide +kernel
theorem dX4_readAll_50 : decode cX4_readAll 50 = .ok (.putfield 48, 3) := by decide +kernel
theorem dX4_readAll_53 : decode cX4_readAll 53 = .ok (.iinc 1 1, 3) := by decide +kernel
theorem dX4_readAll_56 : decode cX4_readAll 56 = .ok (.goto (-46), 3) := by decide +kernel
theorem dX4_readAll_59 : decode cX4_readAll 59 = .ok (.aload_n 0, 1) := by decide +kernel
theorem dX4_readAll_60 : decode cX4_readAll 60 = .ok (.getfield 35, 3) := by decide +kernel
theorem dX4_readAll_63 : decode cX4_readAll 63 = .ok (.ifCond .ne 24, 3) := by decide +kernel
theorem dX4_readAll_66 : decode cX4_readAll 66 = .ok (.aload_n 0, 1) := by decide +kernel
theorem dX4_readAll_67 : decode cX4_readAll 67 = .ok (.invokevirtual 51, 3) := by decide +kernel
theorem dX4_readAll_70 : decode cX4_readAll 70 = .ok (.ifCond .ne 17, 3) := by decide +kernel
theorem dX4_readAll_73 : decode cX4_readAll 73 = .ok (.aload_n 0, 1) := by decide +kernel
theorem dX4_readAll_74 : decode cX4_readAll 74 = .ok (.bipush 6, 2) := by decide +kernel
theorem dX4_readAll_76 : decode cX4_readAll 76 = .ok (.aload_n 0, 1) := by decide +kernel
theorem dX4_readAll_77 : decode cX4_readAll 77 = .ok (.getfield 25, 3) := by decide +kernel
theorem dX4_readAll_80 : decode cX4_readAll 80 = .ok (.getfield 55, 3) := by decide +kernel
theorem dX4_readAll_83 : decode cX4_readAll 83 = .ok (.invokevirtual 60, 3) := by decide +kernel
theorem dX4_readAll_86 : decode cX4_readAll 86 = .ok (.pop, 1) := by decide +kernel
theorem dX4_readAll_87 : decode cX4_readAll 87 = .ok (.return_, 1) := by decide +kernel
theorem dX4_restart_0 : decode cX4_restart 0 = .ok (.aload_n 0, 1) := by decide +kernel
theorem dX4_restart_1 : decode cX4_restart 1 = .ok (.getfield 12, 3) := by decide +kernel
theorem dX4_restart_4 : decode cX4_restart 4 = .ok (.invokevirtual 64, 3) := by decide +kernel
theorem dX4_restart_7 : decode cX4_restart 7 = .ok (.aload_n 0, 1) := by decide +kernel
theorem dX4_restart_8 : decode cX4_restart 8 = .ok (.getfield 21, 3) := by decide +kernel
theorem dX4_restart_11 : decode cX4_restart 11 = .ok (.invokevirtual 67, 3) := by decide +kernel
theorem dX4_restart_14 : decode cX4_restart 14 = .ok (.aload_n 0, 1) := by decide +kernel
theorem dX4_restart_15 : decode cX4_restart 15 = .ok (.iconst 0, 1) := by decide +kernel
theorem dX4_restart_16 : decode cX4_restart 16 = .ok (.putfield 35, 3) := by decide +kernel
theorem dX4_restart_19 : decode cX4_restart 19 = .ok (.aload_n 0, 1) := by decide +kernel
theorem dX4_restart_20 : decode cX4_restart 20 = .ok (.iconst 0, 1) := by decide +kernel
theorem dX4_restart_21 : decode cX4_restart 21 = .ok (.putfield 70, 3) := by decide +kernel
theorem dX4_restart_24 : decode cX4_restart 24 = .ok (.aload_n 0, 1) := by decide +kernel
theorem dX4_restart_25 : decode cX4_restart 25 = .ok (.iconst 0, 1) := by decide +kernel
theorem dX4_restart_26 : decode cX4_restart 26 = .ok (.putfield 48, 3) := by decide +kernel
theorem dX4_restart_29 : decode cX4_restart 29 = .ok (.aload_n 0, 1) := by decide +kernel
theorem dX4_restart_30 : decode cX4_restart 30 = .ok (.iconst 0, 1) := by decide +kernel
theorem dX4_restart_31 : decode cX4_restart 31 = .ok (.putfield 73, 3) := by decide +kernel
theorem dX4_restart_34 : decode cX4_restart 34 = .ok (.aload_n 0, 1) := by decide +kernel
theorem dX4_restart_35 : decode cX4_restart 35 = .ok (.lconst 0, 1) := by decide +kernel
theorem dX4_restart_36 : decode cX4_restart 36 = .ok (.putfield 76, 3) := by decide +kernel
theorem dX4_restart_39 : decode cX4_restart 39 = .ok (.return_, 1) := by decide +kernel
theorem dX4_fail_0 : decode cX4_fail 0 = .ok (.aload_n 0, 1) := by decide +kernel
theorem dX4_fail_1 : decode cX4_fail 1 = .ok (.iload_n 1, 1) := by decide +kernel
theorem dX4_fail_2 : decode cX4_fail 2 = .ok (.putfield 35, 3) := by decide +kernel
theorem dX4_fail_5 : decode cX4_fail 5 = .ok (.aload_n 0, 1) := by decide +kernel
theorem dX4_fail_6 : decode cX4_fail 6 = .ok (.iload_n 2, 1) := by decide +kernel
theorem dX4_fail_7 : decode cX4_fail 7 = .ok (.putfield 70, 3) := by decide +kernel
theorem dX4_fail_10 : decode cX4_fail 10 = .ok (.iconst (-1), 1) := by decide +kernel
theorem dX4_fail_11 : decode cX4_fail 11 = .ok (.ireturn, 1) := by decide +kernel
theorem dX4_takeToken_0 : decode cX4_takeToken 0 = .ok (.aload_n 0, 1) := by decide +kernel
theorem dX4_takeToken_1 : decode cX4_takeToken 1 = .ok (.getfield 35, 3) := by decide +kernel
theorem dX4_takeToken_4 : decode cX4_takeToken 4 = .ok (.ifCond .eq 4, 3) := by decide +kernel
theorem dX4_takeToken_7 : decode cX4_takeToken 7 = .ok (.return_, 1) := by decide +kernel
theorem dX4_takeToken_8 : decode cX4_takeToken 8 = .ok (.aload_n 0, 1) := by decide +kernel
theorem dX4_takeToken_9 : decode cX4_takeToken 9 = .ok (.getfield 73, 3) := by decide +kernel
theorem dX4_takeToken_12 : decode cX4_takeToken 12 = .ok (.aload_n 0, 1) := by decide +kernel
theorem dX4_takeToken_13 : decode cX4_takeToken 13 = .ok (.getfield 25, 3) := by decide +kernel
theorem dX4_takeToken_16 : decode cX4_takeToken 16 = .ok (.getfield 55, 3) := by decide +kernel
theorem dX4_takeToken_19 : decode cX4_takeToken 19 = .ok (.if_icmp .ge 32, 3) := by decide +kernel
theorem dX4_takeToken_22 : decode cX4_takeToken 22 = .ok (.aload_n 0, 1) := by decide +kernel
theorem dX4_takeToken_23 : decode cX4_takeToken 23 = .ok (.getfield 25, 3) := by decide +kernel
theorem dX4_takeToken_26 : decode cX4_takeToken 26 = .ok (.aload_n 0, 1) := by decide +kernel
theorem dX4_takeToken_27 : decode cX4_takeToken 27 = .ok (.getfield 73, 3) := by decide +kernel
theorem dX4_takeToken_30 : decode cX4_takeToken 30 = .ok (.invokevirtual 80, 3) := by decide +kernel
theorem dX4_takeToken_33 : decode cX4_takeToken 33 = .ok (.bipush 32, 2) := by decide +kernel
theorem dX4_takeToken_35 : decode cX4_takeToken 35 = .ok (.if_icmp .ne 16, 3) := by decide +kernel
theorem dX4_takeToken_38 : decode cX4_takeToken 38 = .ok (.aload_n 0, 1) := by decide +kernel
theorem dX4_takeToken_39 : decode cX4_takeToken 39 = .ok (.dup, 1) := by decide +kernel
theorem dX4_takeToken_40 : decode cX4_takeToken 40 = .ok (.getfield 73, 3) := by decide +kernel
theorem dX4_takeToken_43 : decode cX4_takeToken 43 = .ok (.iconst 1, 1) := by decide +kernel
theorem dX4_takeToken_44 : decode cX4_takeToken 44 = .ok (.iadd, 1) := by decide +kernel
theorem dX4_takeToken_45 : decode cX4_takeToken 45 = .ok (.putfield 73, 3) := by decide +kernel
theorem dX4_takeToken_48 : decode cX4_takeToken 48 = .ok (.goto (-40), 3) := by decide +kernel
theorem dX4_takeToken_51 : decode cX4_takeToken 51 = .ok (.aload_n 0, 1) := by decide +kernel
theorem dX4_takeToken_52 : decode cX4_takeToken 52 = .ok (.aload_n 0, 1) := by decide +kernel
theorem dX4_takeToken_53 : decode cX4_takeToken 53 = .ok (.getfield 73, 3) := by decide +kernel
theorem dX4_takeToken_56 : decode cX4_takeToken 56 = .ok (.putfield 84, 3) := by decide +kernel
theorem dX4_takeToken_59 : decode cX4_takeToken 59 = .ok (.aload_n 0, 1) := by decide +kernel
theorem dX4_takeToken_60 : decode cX4_takeToken 60 = .ok (.aload_n 0, 1) := by decide +kernel
theorem dX4_takeToken_61 : decode cX4_takeToken 61 = .ok (.getfield 25, 3) := by decide +kernel
theorem dX4_takeToken_64 : decode cX4_takeToken 64 = .ok (.aload_n 0, 1) := by decide +kernel
theorem dX4_takeToken_65 : decode cX4_takeToken 65 = .ok (.getfield 73, 3) := by decide +kernel
theorem dX4_takeToken_68 : decode cX4_takeToken 68 = .ok (.invokevirtual 80, 3) := by decide +kernel
theorem dX4_takeToken_71 : decode cX4_takeToken 71 = .ok (.invokestatic 87, 3) := by decide +kernel
theorem dX4_takeToken_74 : decode cX4_takeToken 74 = .ok (.putfield 39, 3) := by decide +kernel
theorem dX4_takeToken_77 : decode cX4_takeToken 77 = .ok (.aload_n 0, 1) := by decide +kernel
theorem dX4_takeToken_78 : decode cX4_takeToken 78 = .ok (.iconst 0, 1) := by decide +kernel
theorem dX4_takeToken_79 : decode cX4_takeToken 79 = .ok (.putfield 90, 3) := by decide +kernel
theorem dX4_takeToken_82 : decode cX4_takeToken 82 = .ok (.aload_n 0, 1) := by decide +kernel
theorem dX4_takeToken_83 : decode cX4_takeToken 83 = .ok (.getfield 39, 3) := by decide +kernel
theorem dX4_takeToken_86 : decode cX4_takeToken 86 = .ok (.iconst 3, 1) := by decide +kernel
theorem dX4_takeToken_87 : decode cX4_takeToken 87 = .ok (.if_icmp .ne 13, 3) := by decide +kernel
theorem dX4_takeToken_90 : decode cX4_takeToken 90 = .ok (.aload_n 0, 1) := by decide +kernel
theorem dX4_takeToken_91 : decode cX4_takeToken 91 = .ok (.dup, 1) := by decide +kernel
theorem dX4_takeToken_92 : decode cX4_takeToken 92 = .ok (.getfield 73, 3) := by decide +kernel
theorem dX4_takeToken_95 : decode cX4_takeToken 95 = .ok (.iconst 1, 1) := by decide +kernel
theorem dX4_takeToken_96 : decode cX4_takeToken 96 = .ok (.iadd, 1) := by decide +kernel
theorem dX4_takeToken_97 : decode cX4_takeToken 97 = .ok (.putfield 73, 3) := by decide +kernel
theorem dX4_takeToken_100 : decode cX4_takeToken 100 = .ok (.aload_n 0, 1) := by decide +kernel
theorem dX4_takeToken_101 : decode cX4_takeToken 101 = .ok (.getfield 73, 3) := by decide +kernel
theorem dX4_takeToken_104 : decode cX4_takeToken 104 = .ok (.aload_n 0, 1) := by decide +kernel
theorem dX4_takeToken_105 : decode cX4_takeToken 105 = .ok (.getfield 25, 3) := by decide +kernel
theorem dX4_takeToken_108 : decode cX4_takeToken 108 = .ok (.getfield 55, 3) := by decide +kernel
theorem dX4_takeToken_111 : decode cX4_takeToken 111 = .ok (.if_icmp .ge 91, 3) := by decide +kernel
theorem dX4_takeToken_114 : decode cX4_takeToken 114 = .ok (.aload_n 0, 1) := by decide +kernel
theorem dX4_takeToken_115 : decode cX4_takeToken 115 = .ok (.getfield 39, 3) := by decide +kernel
theorem dX4_takeToken_118 : decode cX4_takeToken 118 = .ok (.iconst 1, 1) := by decide +kernel
theorem dX4_takeToken_119 : decode cX4_takeToken 119 = .ok (.if_icmp .eq 11, 3) := by decide +kernel
theorem dX4_takeToken_122 : decode cX4_takeToken 122 = .ok (.aload_n 0, 1) := by decide +kernel
theorem dX4_takeToken_123 : decode cX4_takeToken 123 = .ok (.getfield 39, 3) := by decide +kernel
theorem dX4_takeToken_126 : decode cX4_takeToken 126 = .ok (.iconst 2, 1) := by decide +kernel
theorem dX4_takeToken_127 : decode cX4_takeToken 127 = .ok (.if_icmp .ne 75, 3) := by decide +kernel
theorem dX4_takeToken_130 : decode cX4_takeToken 130 = .ok (.aload_n 0, 1) := by decide +kernel
theorem dX4_takeToken_131 : decode cX4_takeToken 131 = .ok (.getfield 25, 3) := by decide +kernel
theorem dX4_takeToken_134 : decode cX4_takeToken 134 = .ok (.aload_n 0, 1) := by decide +kernel
theorem dX4_takeToken_135 : decode cX4_takeToken 135 = .ok (.getfield 73, 3) := by decide +kernel
theorem dX4_takeToken_138 : decode cX4_takeToken 138 = .ok (.invokevirtual 80, 3) := by decide +kernel
theorem dX4_takeToken_141 : decode cX4_takeToken 141 = .ok (.invokestatic 87, 3) := by decide +kernel
theorem dX4_takeToken_144 : decode cX4_takeToken 144 = .ok (.aload_n 0, 1) := by decide +kernel
theorem dX4_takeToken_145 : decode cX4_takeToken 145 = .ok (.getfield 39, 3) := by decide +kernel
theorem dX4_takeToken_148 : decode cX4_takeToken 148 = .ok (.if_icmp .ne 54, 3) := by decide +kernel
theorem dX4_takeToken_151 : decode cX4_takeToken 151 = .ok (.aload_n 0, 1) := by decide +kernel
theorem dX4_takeToken_152 : decode cX4_takeToken 152 = .ok (.aload_n 0, 1) := by decide +kernel
theorem dX4_takeToken_153 : decode cX4_takeToken 153 = .ok (.getfield 39, 3) := by decide +kernel
theorem dX4_takeToken_156 : decode cX4_takeToken 156 = .ok (.iconst 2, 1) := by decide +kernel
theorem dX4_takeToken_157 : decode cX4_takeToken 157 = .ok (.if_icmp .ne 28, 3) := by decide +kernel
theorem dX4_takeToken_160 : decode cX4_takeToken 160 = .ok (.bipush 10, 2) := by decide +kernel
theorem dX4_takeToken_162 : decode cX4_takeToken 162 = .ok (.aload_n 0, 1) := by decide +kernel
theorem dX4_takeToken_163 : decode cX4_takeToken 163 = .ok (.getfield 90, 3) := by decide +kernel
theorem dX4_takeToken_166 : decode cX4_takeToken 166 = .ok (.imul, 1) := by decide +kernel
theorem dX4_takeToken_167 : decode cX4_takeToken 167 = .ok (.aload_n 0, 1) := by decide +kernel
theorem dX4_takeToken_168 : decode cX4_takeToken 168 = .ok (.getfield 25, 3) := by decide +kernel
theorem dX4_takeToken_171 : decode cX4_takeToken 171 = .ok (.aload_n 0, 1) := by decide +kernel
theorem dX4_takeToken_172 : decode cX4_takeToken 172 = .ok (.getfield 73, 3) := by decide +kernel
theorem dX4_takeToken_175 : decode cX4_takeToken 175 = .ok (.invokevirtual 80, 3) := by decide +kernel
theorem dX4_takeToken_178 : decode cX4_takeToken 178 = .ok (.iadd, 1) := by decide +kernel
theorem dX4_takeToken_179 : decode cX4_takeToken 179 = .ok (.bipush 48, 2) := by decide +kernel
theorem dX4_takeToken_181 : decode cX4_takeToken 181 = .ok (.isub, 1) := by decide +kernel
theorem dX4_takeToken_182 : decode cX4_takeToken 182 = .ok (.goto 4, 3) := by decide +kernel
theorem dX4_takeToken_185 : decode cX4_takeToken 185 = .ok (.iconst 0, 1) := by decide +kernel
theorem dX4_takeToken_186 : decode cX4_takeToken 186 = .ok (.putfield 90, 3) := by decide +kernel
theorem dX4_takeToken_189 : decode cX4_takeToken 189 = .ok (.aload_n 0, 1) := by decide +kernel
theorem dX4_takeToken_190 : decode cX4_takeToken 190 = .ok (.dup, 1) := by decide +kernel
theorem dX4_takeToken_191 : decode cX4_takeToken 191 = .ok (.getfield 73, 3) := by decide +kernel
theorem dX4_takeToken_194 : decode cX4_takeToken 194 = .ok (.iconst 1, 1) := by decide +kernel
theorem dX4_takeToken_195 : decode cX4_takeToken 195 = .ok (.iadd, 1) := by decide +kernel
theorem dX4_takeToken_196 : decode cX4_takeToken 196 = .ok (.putfield 73, 3) := by decide +kernel
theorem dX4_takeToken_199 : decode cX4_takeToken 199 = .ok (.goto (-99), 3) := by decide +kernel
theorem dX4_takeToken_202 : decode cX4_takeToken 202 = .ok (.aload_n 0, 1) := by decide +kernel
theorem dX4_takeToken_203 : decode cX4_takeToken 203 = .ok (.getfield 39, 3) := by decide +kernel
theorem dX4_takeToken_206 : decode cX4_takeToken 206 = .ok (.iconst 4, 1) := by decide +kernel
theorem dX4_takeToken_207 : decode cX4_takeToken 207 = .ok (.if_icmp .eq 24, 3) := by decide +kernel
theorem dX4_takeToken_210 : decode cX4_takeToken 210 = .ok (.aload_n 0, 1) := by decide +kernel
theorem dX4_takeToken_211 : decode cX4_takeToken 211 = .ok (.getfield 39, 3) := by decide +kernel
theorem dX4_takeToken_214 : decode cX4_takeToken 214 = .ok (.iconst 2, 1) := by decide +kernel
theorem dX4_takeToken_215 : decode cX4_takeToken 215 = .ok (.if_icmp .ne 26, 3) := by decide +kernel
theorem dX4_takeToken_218 : decode cX4_takeToken 218 = .ok (.aload_n 0, 1) := by decide +kernel
theorem dX4_takeToken_219 : decode cX4_takeToken 219 = .ok (.getfield 73, 3) := by decide +kernel
theorem dX4_takeToken_222 : decode cX4_takeToken 222 = .ok (.aload_n 0, 1) := by decide +kernel
theorem dX4_takeToken_223 : decode cX4_takeToken 223 = .ok (.getfield 84, 3) := by decide +kernel
theorem dX4_takeToken_226 : decode cX4_takeToken 226 = .ok (.isub, 1) := by decide +kernel
theorem dX4_takeToken_227 : decode cX4_takeToken 227 = .ok (.iconst 2, 1) := by decide +kernel
theorem dX4_takeToken_228 : decode cX4_takeToken 228 = .ok (.if_icmp .le 13, 3) := by decide +kernel
theorem dX4_takeToken_231 : decode cX4_takeToken 231 = .ok (.aload_n 0, 1) := by decide +kernel
theorem dX4_takeToken_232 : decode cX4_takeToken 232 = .ok (.iconst 1, 1) := by decide +kernel
theorem dX4_takeToken_233 : decode cX4_takeToken 233 = .ok (.aload_n 0, 1) := by decide +kernel
theorem dX4_takeToken_234 : decode cX4_takeToken 234 = .ok (.getfield 84, 3) := by decide +kernel
theorem dX4_takeToken_237 : decode cX4_takeToken 237 = .ok (.invokevirtual 60, 3) := by decide +kernel
theorem dX4_takeToken_240 : decode cX4_takeToken 240 = .ok (.pop, 1) := by decide +kernel
theorem dX4_takeToken_241 : decode cX4_takeToken 241 = .ok (.return_, 1) := by decide +kernel
theorem dX4_typeOf_0 : decode cX4_typeOf 0 = .ok (.iload_n 0, 1) := by decide +kernel
theorem dX4_typeOf_1 : decode cX4_typeOf 1 = .ok (.ifCond .ge 5, 3) := by decide +kernel
theorem dX4_typeOf_4 : decode cX4_typeOf 4 = .ok (.iconst 0, 1) := by decide +kernel
theorem dX4_typeOf_5 : decode cX4_typeOf 5 = .ok (.ireturn, 1) := by decide +kernel
theorem dX4_typeOf_6 : decode cX4_typeOf 6 = .ok (.iload_n 0, 1) := by decide +kernel
theorem dX4_typeOf_7 : decode cX4_typeOf 7 = .ok (.bipush 97, 2) := by decide +kernel
theorem dX4_typeOf_9 : decode cX4_typeOf 9 = .ok (.if_icmp .lt 11, 3) := by decide +kernel
theorem dX4_typeOf_12 : decode cX4_typeOf 12 = .ok (.iload_n 0, 1) := by decide +kernel
theorem dX4_typeOf_13 : decode cX4_typeOf 13 = .ok (.bipush 122, 2) := by decide +kernel
theorem dX4_typeOf_15 : decode cX4_typeOf 15 = .ok (.if_icmp .gt 5, 3) := by decide +kernel
theorem dX4_typeOf_18 : decode cX4_typeOf 18 = .ok (.iconst 1, 1) := by decide +kernel
theorem dX4_typeOf_19 : decode cX4_typeOf 19 = .ok (.ireturn, 1) := by decide +kernel
theorem dX4_typeOf_20 : decode cX4_typeOf 20 = .ok (.iload_n 0, 1) := by decide +kernel
theorem dX4_typeOf_21 : decode cX4_typeOf 21 = .ok (.bipush 48, 2) := by decide +kernel
theorem dX4_typeOf_23 : decode cX4_typeOf 23 = .ok (.if_icmp .lt 11, 3) := by decide +kernel
theorem dX4_typeOf_26 : decode cX4_typeOf 26 = .ok (.iload_n 0, 1) := by decide +kernel
theorem dX4_typeOf_27 : decode cX4_typeOf 27 = .ok (.bipush 57, 2) := by decide +kernel
theorem dX4_typeOf_29 : decode cX4_typeOf 29 = .ok (.if_icmp .gt 5, 3) := by decide +kernel
theorem dX4_typeOf_32 : decode cX4_typeOf 32 = .ok (.iconst 2, 1) := by decide +kernel
theorem dX4_typeOf_33 : decode cX4_typeOf 33 = .ok (.ireturn, 1) := by decide +kernel
theorem dX4_typeOf_34 : decode cX4_typeOf 34 = .ok (.iload_n 0, 1) := by decide +kernel
theorem dX4_typeOf_35 : decode cX4_typeOf 35 = .ok (.bipush 59, 2) := by decide +kernel
theorem dX4_typeOf_37 : decode cX4_typeOf 37 = .ok (.if_icmp .ne 7, 3) := by decide +kernel
theorem dX4_typeOf_40 : decode cX4_typeOf 40 = .ok (.iconst 3, 1) := by decide +kernel
theorem dX4_typeOf_41 : decode cX4_typeOf 41 = .ok (.goto 4, 3) := by decide +kernel
theorem dX4_typeOf_44 : decode cX4_typeOf 44 = .ok (.iconst 4, 1) := by decide +kernel
theorem dX4_typeOf_45 : decode cX4_typeOf 45 = .ok (.ireturn, 1) := by decide +kernel
theorem dX4_nameAmong_0 : decode cX4_nameAmong 0 = .ok (.iconst 0, 1) := by decide +kernel
theorem dX4_nameAmong_1 : decode cX4_nameAmong 1 = .ok (.istore_n 2, 1) := by decide +kernel
theorem dX4_nameAmong_2 : decode cX4_nameAmong 2 = .ok (.aload_n 0, 1) := by decide +kernel
theorem dX4_nameAmong_3 : decode cX4_nameAmong 3 = .ok (.getfield 84, 3) := by decide +kernel
theorem dX4_nameAmong_6 : decode cX4_nameAmong 6 = .ok (.istore_n 3, 1) := by decide +kernel
theorem dX4_nameAmong_7 : decode cX4_nameAmong 7 = .ok (.aload_n 0, 1) := by decide +kernel
theorem dX4_nameAmong_8 : decode cX4_nameAmong 8 = .ok (.getfield 39, 3) := by decide +kernel
theorem dX4_nameAmong_11 : decode cX4_nameAmong 11 = .ok (.iconst 1, 1) := by decide +kernel
theorem dX4_nameAmong_12 : decode cX4_nameAmong 12 = .ok (.if_icmp .ne 7, 3) := by decide +kernel
theorem dX4_nameAmong_15 : decode cX4_nameAmong 15 = .ok (.iconst 1, 1) := by decide +kernel
theorem dX4_nameAmong_16 : decode cX4_nameAmong 16 = .ok (.goto 4, 3) := by decide +kernel
theorem dX4_nameAmong_19 : decode cX4_nameAmong 19 = .ok (.iconst 0, 1) := by decide +kernel
theorem dX4_nameAmong_20 : decode cX4_nameAmong 20 = .ok (.istore 4, 2) := by decide +kernel
theorem dX4_nameAmong_22 : decode cX4_nameAmong 22 = .ok (.iconst 0, 1) := by decide +kernel
theorem dX4_nameAmong_23 : decode cX4_nameAmong 23 = .ok (.istore 5, 2) := by decide +kernel
theorem dX4_nameAmong_25 : decode cX4_nameAmong 25 = .ok (.iload 5, 2) := by decide +kernel
theorem dX4_nameAmong_27 : decode cX4_nameAmong 27 = .ok (.aload_n 1, 1) := by decide +kernel
theorem dX4_nameAmong_28 : decode cX4_nameAmong 28 = .ok (.invokevirtual 93, 3) := by decide +kernel
theorem dX4_nameAmong_31 : decode cX4_nameAmong 31 = .ok (.if_icmp .gt 110, 3) := by decide +kernel
theorem dX4_nameAmong_34 : decode cX4_nameAmong 34 = .ok (.iload 5, 2) := by decide +kernel
theorem dX4_nameAmong_36 : decode cX4_nameAmong 36 = .ok (.aload_n 1, 1) := by decide +kernel
theorem dX4_nameAmong_37 : decode cX4_nameAmong 37 = .ok (.invokevirtual 93, 3) := by decide +kernel
theorem dX4_nameAmong_40 : decode cX4_nameAmong 40 = .ok (.if_icmp .eq 14, 3) := by decide +kernel
theorem dX4_nameAmong_43 : decode cX4_nameAmong 43 = .ok (.aload_n 1, 1) := by decide +kernel
theorem dX4_nameAmong_44 : decode cX4_nameAmong 44 = .ok (.iload 5, 2) := by decide +kernel
theorem dX4_nameAmong_46 : decode cX4_nameAmong 46 = .ok (.invokevirtual 99, 3) := by decide +kernel
theorem dX4_nameAmong_49 : decode cX4_nameAmong 49 = .ok (.bipush 32, 2) := by decide +kernel
theorem dX4_nameAmong_51 : decode cX4_nameAmong 51 = .ok (.if_icmp .ne 44, 3) := by decide +kernel
theorem dX4_nameAmong_54 : decode cX4_nameAmong 54 = .ok (.iload 4, 2) := by decide +kernel
theorem dX4_nameAmong_56 : decode cX4_nameAmong 56 = .ok (.ifCond .eq 13, 3) := by decide +kernel
theorem dX4_nameAmong_59 : decode cX4_nameAmong 59 = .ok (.iload_n 3, 1) := by decide +kernel
theorem dX4_nameAmong_60 : decode cX4_nameAmong 60 = .ok (.aload_n 0, 1) := by decide +kernel
theorem dX4_nameAmong_61 : decode cX4_nameAmong 61 = .ok (.getfield 73, 3) := by decide +kernel
theorem dX4_nameAmong_64 : decode cX4_nameAmong 64 = .ok (.if_icmp .ne 5, 3) := by decide +kernel
theorem dX4_nameAmong_67 : decode cX4_nameAmong 67 = .ok (.iload_n 2, 1) := by decide +kernel
theorem dX4_nameAmong_68 : decode cX4_nameAmong 68 = .ok (.ireturn, 1) := by decide +kernel
theorem dX4_nameAmong_69 : decode cX4_nameAmong 69 = .ok (.iinc 2 1, 3) := by decide +kernel
theorem dX4_nameAmong_72 : decode cX4_nameAmong 72 = .ok (.aload_n 0, 1) := by decide +kernel
theorem dX4_nameAmong_73 : decode cX4_nameAmong 73 = .ok (.getfield 84, 3) := by decide +kernel
theorem dX4_nameAmong_76 : decode cX4_nameAmong 76 = .ok (.istore_n 3, 1) := by decide +kernel
theorem dX4_nameAmong_77 : decode cX4_nameAmong 77 = .ok (.aload_n 0, 1) := by decide +kernel
theorem dX4_nameAmong_78 : decode cX4_nameAmong 78 = .ok (.getfield 39, 3) := by decide +kernel
theorem dX4_nameAmong_81 : decode cX4_nameAmong 81 = .ok (.iconst 1, 1) := by decide +kernel
theorem dX4_nameAmong_82 : decode cX4_nameAmong 82 = .ok (.if_icmp .ne 7, 3) := by decide +kernel
theorem dX4_nameAmong_85 : decode cX4_nameAmong 85 = .ok (.iconst 1, 1) := by decide +kernel
theorem dX4_nameAmong_86 : decode cX4_nameAmong 86 = .ok (.goto 4, 3) := by decide +kernel
theorem dX4_nameAmong_89 : decode cX4_nameAmong 89 = .ok (.iconst 0, 1) := by decide +kernel
theorem dX4_nameAmong_90 : decode cX4_nameAmong 90 = .ok (.istore 4, 2) := by decide +kernel
theorem dX4_nameAmong_92 : decode cX4_nameAmong 92 = .ok (.goto 43, 3) := by decide +kernel
theorem dX4_nameAmong_95 : decode cX4_nameAmong 95 = .ok (.iload 4, 2) := by decide +kernel
theorem dX4_nameAmong_97 : decode cX4_nameAmong 97 = .ok (.ifCond .eq 32, 3) := by decide +kernel
theorem dX4_nameAmong_100 : decode cX4_nameAmong 100 = .ok (.iload_n 3, 1) := by decide +kernel
theorem dX4_nameAmong_101 : decode cX4_nameAmong 101 = .ok (.aload_n 0, 1) := by decide +kernel
theorem dX4_nameAmong_102 : decode cX4_nameAmong 102 = .ok (.getfield 73, 3) := by decide +kernel
theorem dX4_nameAmong_105 : decode cX4_nameAmong 105 = .ok (.if_icmp .ge 24, 3) := by decide +kernel
theorem dX4_nameAmong_108 : decode cX4_nameAmong 108 = .ok (.aload_n 1, 1) := by decide +kernel
theorem dX4_nameAmong_109 : decode cX4_nameAmong 109 = .ok (.iload 5, 2) := by decide +kernel
theorem dX4_nameAmong_111 : decode cX4_nameAmong 111 = .ok (.invokevirtual 99, 3) := by decide +kernel
theorem dX4_nameAmong_114 : decode cX4_nameAmong 114 = .ok (.aload_n 0, 1) := by decide +kernel
theorem dX4_nameAmong_115 : decode cX4_nameAmong 115 = .ok (.getfield 25, 3) := by decide +kernel
theorem dX4_nameAmong_118 : decode cX4_nameAmong 118 = .ok (.iload_n 3, 1) := by decide +kernel
theorem dX4_nameAmong_119 : decode cX4_nameAmong 119 = .ok (.invokevirtual 80, 3) := by decide +kernel
theorem dX4_nameAmong_122 : decode cX4_nameAmong 122 = .ok (.if_icmp .ne 7, 3) := by decide +kernel
theorem dX4_nameAmong_125 : decode cX4_nameAmong 125 = .ok (.iconst 1, 1) := by decide +kernel
theorem dX4_nameAmong_126 : decode cX4_nameAmong 126 = .ok (.goto 4, 3) := by decide +kernel
theorem dX4_nameAmong_129 : decode cX4_nameAmong 129 = .ok (.iconst 0, 1) := by decide +kernel
theorem dX4_nameAmong_130 : decode cX4_nameAmong 130 = .ok (.istore 4, 2) := by decide +kernel
theorem dX4_nameAmong_132 : decode cX4_nameAmong 132 = .ok (.iinc 3 1, 3) := by decide +kernel
theorem dX4_nameAmong_135 : decode cX4_nameAmong 135 = .ok (.iinc 5 1, 3) := by decide +kernel
theorem dX4_nameAmong_138 : decode cX4_nameAmong 138 = .ok (.goto (-113), 3) := by decide +kernel
theorem dX4_nameAmong_141 : decode cX4_nameAmong 141 = .ok (.iconst (-1), 1) := by decide +kernel
theorem dX4_nameAmong_142 : decode cX4_nameAmong 142 = .ok (.ireturn, 1) := by decide +kernel
theorem dX4_takeNumber_0 : decode cX4_takeNumber 0 = .ok (.aload_n 0, 1) := by decide +kernel
theorem dX4_takeNumber_1 : decode cX4_takeNumber 1 = .ok (.invokevirtual 32, 3) := by decide +kernel
theorem dX4_takeNumber_4 : decode cX4_takeNumber 4 = .ok (.aload_n 0, 1) := by decide +kernel
theorem dX4_takeNumber_5 : decode cX4_takeNumber 5 = .ok (.getfield 35, 3) := by decide +kernel
theorem dX4_takeNumber_8 : decode cX4_takeNumber 8 = .ok (.ifCond .eq 5, 3) := by decide +kernel
theorem dX4_takeNumber_11 : decode cX4_takeNumber 11 = .ok (.iconst (-1), 1) := by decide +kernel
theorem dX4_takeNumber_12 : decode cX4_takeNumber 12 = .ok (.ireturn, 1) := by decide +kernel
theorem dX4_takeNumber_13 : decode cX4_takeNumber 13 = .ok (.aload_n 0, 1) := by decide +kernel
theorem dX4_takeNumber_14 : decode cX4_takeNumber 14 = .ok (.getfield 39, 3) := by decide +kernel
theorem dX4_takeNumber_17 : decode cX4_takeNumber 17 = .ok (.iconst 2, 1) := by decide +kernel
theorem dX4_takeNumber_18 : decode cX4_takeNumber 18 = .ok (.if_icmp .eq 13, 3) := by decide +kernel
theorem dX4_takeNumber_21 : decode cX4_takeNumber 21 = .ok (.aload_n 0, 1) := by decide +kernel
theorem dX4_takeNumber_22 : decode cX4_takeNumber 22 = .ok (.iconst 2, 1) := by decide +kernel
theorem dX4_takeNumber_23 : decode cX4_takeNumber 23 = .ok (.aload_n 0, 1) := by decide +kernel
theorem dX4_takeNumber_24 : decode cX4_takeNumber 24 = .ok (.getfield 84, 3) := by decide +kernel
theorem dX4_takeNumber_27 : decode cX4_takeNumber 27 = .ok (.invokevirtual 60, 3) := by decide +kernel
theorem dX4_takeNumber_30 : decode cX4_takeNumber 30 = .ok (.ireturn, 1) := by decide +kernel
theorem dX4_takeNumber_31 : decode cX4_takeNumber 31 = .ok (.aload_n 0, 1) := by decide +kernel
theorem dX4_takeNumber_32 : decode cX4_takeNumber 32 = .ok (.getfield 90, 3) := by decide +kernel
theorem dX4_takeNumber_35 : decode cX4_takeNumber 35 = .ok (.iload_n 1, 1) := by decide +kernel
theorem dX4_takeNumber_36 : decode cX4_takeNumber 36 = .ok (.if_icmp .lt 11, 3) := by decide +kernel
theorem dX4_takeNumber_39 : decode cX4_takeNumber 39 = .ok (.aload_n 0, 1) := by decide +kernel
theorem dX4_takeNumber_40 : decode cX4_takeNumber 40 = .ok (.getfield 90, 3) := by decide +kernel
theorem dX4_takeNumber_43 : decode cX4_takeNumber 43 = .ok (.iload_n 2, 1) := by decide +kernel
theorem dX4_takeNumber_44 : decode cX4_takeNumber 44 = .ok (.if_icmp .le 15, 3) := by decide +kernel
theorem dX4_takeNumber_47 : decode cX4_takeNumber 47 = .ok (.aload_n 0, 1) := by decide +kernel
theorem dX4_takeNumber_48 : decode cX4_takeNumber 48 = .ok (.iconst 3, 1) := by decide +kernel
theorem dX4_takeNumber_49 : decode cX4_takeNumber 49 = .ok (.aload_n 0, 1) := by decide +kernel
theorem dX4_takeNumber_50 : decode cX4_takeNumber 50 = .ok (.getfield 84, 3) := by decide +kernel
theorem dX4_takeNumber_53 : decode cX4_takeNumber 53 = .ok (.invokevirtual 60, 3) := by decide +kernel
theorem dX4_takeNumber_56 : decode cX4_takeNumber 56 = .ok (.goto 7, 3) := by decide +kernel
theorem dX4_takeNumber_59 : decode cX4_takeNumber 59 = .ok (.aload_n 0, 1) := by decide +kernel
theorem dX4_takeNumber_60 : decode cX4_takeNumber 60 = .ok (.getfield 90, 3) := by decide +kernel
theorem dX4_takeNumber_63 : decode cX4_takeNumber 63 = .ok (.ireturn, 1) := by decide +kernel
theorem dX4_takeBank_0 : decode cX4_takeBank 0 = .ok (.aload_n 0, 1) := by decide +kernel
theorem dX4_takeBank_1 : decode cX4_takeBank 1 = .ok (.iconst 0, 1) := by decide +kernel
theorem dX4_takeBank_2 : decode cX4_takeBank 2 = .ok (.iconst 1, 1) := by decide +kernel
theorem dX4_takeBank_3 : decode cX4_takeBank 3 = .ok (.invokevirtual 103, 3) := by decide +kernel
theorem dX4_takeBank_6 : decode cX4_takeBank 6 = .ok (.ireturn, 1) := by decide +kernel
theorem dX4_takeNameOf_0 : decode cX4_takeNameOf 0 = .ok (.aload_n 0, 1) := by decide +kernel
theorem dX4_takeNameOf_1 : decode cX4_takeNameOf 1 = .ok (.invokevirtual 32, 3) := by decide +kernel
theorem dX4_takeNameOf_4 : decode cX4_takeNameOf 4 = .ok (.aload_n 0, 1) := by decide +kernel
theorem dX4_takeNameOf_5 : decode cX4_takeNameOf 5 = .ok (.getfield 35, 3) := by decide +kernel
theorem dX4_takeNameOf_8 : decode cX4_takeNameOf 8 = .ok (.ifCond .eq 5, 3) := by decide +kernel
theorem dX4_takeNameOf_11 : decode cX4_takeNameOf 11 = .ok (.iconst (-1), 1) := by decide +kernel
theorem dX4_takeNameOf_12 : decode cX4_takeNameOf 12 = .ok (.ireturn, 1) := by decide +kernel
theorem dX4_takeNameOf_13 : decode cX4_takeNameOf 13 = .ok (.aload_n 0, 1) := by decide +kernel
theorem dX4_takeNameOf_14 : decode cX4_takeNameOf 14 = .ok (.aload_n 1, 1) := by decide +kernel
theorem dX4_takeNameOf_15 : decode cX4_takeNameOf 15 = .ok (.invokevirtual 106, 3) := by decide +kernel
theorem dX4_takeNameOf_18 : decode cX4_takeNameOf 18 = .ok (.istore_n 2, 1) := by decide +kernel
theorem dX4_takeNameOf_19 : decode cX4_takeNameOf 19 = .ok (.iload_n 2, 1) := by decide +kernel
theorem dX4_takeNameOf_20 : decode cX4_takeNameOf 20 = .ok (.ifCond .ge 15, 3) := by decide +kernel
theorem dX4_takeNameOf_23 : decode cX4_takeNameOf 23 = .ok (.aload_n 0, 1) := by decide +kernel
theorem dX4_takeNameOf_24 : decode cX4_takeNameOf 24 = .ok (.iconst 2, 1) := by decide +kernel
theorem dX4_takeNameOf_25 : decode cX4_takeNameOf 25 = .ok (.aload_n 0, 1) := by decide +kernel
theorem dX4_takeNameOf_26 : decode cX4_takeNameOf 26 = .ok (.getfield 84, 3) := by decide +kernel
theorem dX4_takeNameOf_29 : decode cX4_takeNameOf 29 = .ok (.invokevirtual 60, 3) := by decide +kernel
theorem dX4_takeNameOf_32 : decode cX4_takeNameOf 32 = .ok (.goto 4, 3) := by decide +kernel
theorem dX4_takeNameOf_35 : decode cX4_takeNameOf 35 = .ok (.iload_n 2, 1) := by decide +kernel
theorem dX4_takeNameOf_36 : decode cX4_takeNameOf 36 = .ok (.ireturn, 1) := by decide +kernel
theorem dX4_takeThing_0 : decode cX4_takeThing 0 = .ok (.aload_n 0, 1) := by decide +kernel
theorem dX4_takeThing_1 : decode cX4_takeThing 1 = .ok (.ldc 110, 2) := by decide +kernel
theorem dX4_takeThing_3 : decode cX4_takeThing 3 = .ok (.invokevirtual 112, 3) := by decide +kernel
theorem dX4_takeThing_6 : decode cX4_takeThing 6 = .ok (.istore_n 1, 1) := by decide +kernel
theorem dX4_takeThing_7 : decode cX4_takeThing 7 = .ok (.iload_n 1, 1) := by decide +kernel
theorem dX4_takeThing_8 : decode cX4_takeThing 8 = .ok (.ifCond .gt 5, 3) := by decide +kernel
theorem dX4_takeThing_11 : decode cX4_takeThing 11 = .ok (.iload_n 1, 1) := by decide +kernel
theorem dX4_takeThing_12 : decode cX4_takeThing 12 = .ok (.ireturn, 1) := by decide +kernel
theorem dX4_takeThing_13 : decode cX4_takeThing 13 = .ok (.aload_n 0, 1) := by decide +kernel
theorem dX4_takeThing_14 : decode cX4_takeThing 14 = .ok (.iconst 0, 1) := by decide +kernel
theorem dX4_takeThing_15 : decode cX4_takeThing 15 = .ok (.iconst 3, 1) := by decide +kernel
theorem dX4_takeThing_16 : decode cX4_takeThing 16 = .ok (.invokevirtual 103, 3) := by decide +kernel
theorem dX4_takeThing_19 : decode cX4_takeThing 19 = .ok (.istore_n 2, 1) := by decide +kernel
theorem dX4_takeThing_20 : decode cX4_takeThing 20 = .ok (.aload_n 0, 1) := by decide +kernel
theorem dX4_takeThing_21 : decode cX4_takeThing 21 = .ok (.ldc 115, 2) := by decide +kernel
theorem dX4_takeThing_23 : decode cX4_takeThing 23 = .ok (.invokevirtual 112, 3) := by decide +kernel
theorem dX4_takeThing_26 : decode cX4_takeThing 26 = .ok (.istore_n 3, 1) := by decide +kernel
theorem dX4_takeThing_27 : decode cX4_takeThing 27 = .ok (.aload_n 0, 1) := by decide +kernel
theorem dX4_takeThing_28 : decode cX4_takeThing 28 = .ok (.getfield 35, 3) := by decide +kernel
theorem dX4_takeThing_31 : decode cX4_takeThing 31 = .ok (.ifCond .ne 17, 3) := by decide +kernel
theorem dX4_takeThing_34 : decode cX4_takeThing 34 = .ok (.iload_n 1, 1) := by decide +kernel
theorem dX4_takeThing_35 : decode cX4_takeThing 35 = .ok (.bipush 8, 2) := by decide +kernel
theorem dX4_takeThing_37 : decode cX4_takeThing 37 = .ok (.iload_n 2, 1) := by decide +kernel
theorem dX4_takeThing_38 : decode cX4_takeThing 38 = .ok (.imul, 1) := by decide +kernel
theorem dX4_takeThing_39 : decode cX4_takeThing 39 = .ok (.iadd, 1) := by decide +kernel
theorem dX4_takeThing_40 : decode cX4_takeThing 40 = .ok (.bipush 32, 2) := by decide +kernel
theorem dX4_takeThing_42 : decode cX4_takeThing 42 = .ok (.iload_n 3, 1) := by decide +kernel
theorem dX4_takeThing_43 : decode cX4_takeThing 43 = .ok (.imul, 1) := by decide +kernel
theorem dX4_takeThing_44 : decode cX4_takeThing 44 = .ok (.iadd, 1) := by decide +kernel
theorem dX4_takeThing_45 : decode cX4_takeThing 45 = .ok (.goto 4, 3) := by decide +kernel
theorem dX4_takeThing_48 : decode cX4_takeThing 48 = .ok (.iconst (-1), 1) := by decide +kernel
theorem dX4_takeThing_49 : decode cX4_takeThing 49 = .ok (.ireturn, 1) := by decide +kernel
theorem dX4_takeStop_0 : decode cX4_takeStop 0 = .ok (.aload_n 0, 1) := by decide +kernel
theorem dX4_takeStop_1 : decode cX4_takeStop 1 = .ok (.invokevirtual 32, 3) := by decide +kernel
theorem dX4_takeStop_4 : decode cX4_takeStop 4 = .ok (.aload_n 0, 1) := by decide +kernel
theorem dX4_takeStop_5 : decode cX4_takeStop 5 = .ok (.getfield 35, 3) := by decide +kernel
theorem dX4_takeStop_8 : decode cX4_takeStop 8 = .ok (.ifCond .ne 21, 3) := by decide +kernel
theorem dX4_takeStop_11 : decode cX4_takeStop 11 = .ok (.aload_n 0, 1) := by decide +kernel
theorem dX4_takeStop_12 : decode cX4_takeStop 12 = .ok (.getfield 39, 3) := by decide +kernel
theorem dX4_takeStop_15 : decode cX4_takeStop 15 = .ok (.iconst 3, 1) := by decide +kernel
theorem dX4_takeStop_16 : decode cX4_takeStop 16 = .ok (.if_icmp .eq 13, 3) := by decide +kernel
theorem dX4_takeStop_19 : decode cX4_takeStop 19 = .ok (.aload_n 0, 1) := by decide +kernel
theorem dX4_takeStop_20 : decode cX4_takeStop 20 = .ok (.iconst 2, 1) := by decide +kernel
theorem dX4_takeStop_21 : decode cX4_takeStop 21 = .ok (.aload_n 0, 1) := by decide +kernel
theorem dX4_takeStop_22 : decode cX4_takeStop 22 = .ok (.getfield 84, 3) := by decide +kernel
theorem dX4_takeStop_25 : decode cX4_takeStop 25 = .ok (.invokevirtual 60, 3) := by decide +kernel
theorem dX4_takeStop_28 : decode cX4_takeStop 28 = .ok (.pop, 1) := by decide +kernel
theorem dX4_takeStop_29 : decode cX4_takeStop 29 = .ok (.return_, 1) := by decide +kernel
theorem dX4_tellOnce_0 : decode cX4_tellOnce 0 = .ok (.aload_n 0, 1) := by decide +kernel
theorem dX4_tellOnce_1 : decode cX4_tellOnce 1 = .ok (.getfield 35, 3) := by decide +kernel
theorem dX4_tellOnce_4 : decode cX4_tellOnce 4 = .ok (.ifCond .eq 4, 3) := by decide +kernel
theorem dX4_tellOnce_7 : decode cX4_tellOnce 7 = .ok (.return_, 1) := by decide +kernel
theorem dX4_tellOnce_8 : decode cX4_tellOnce 8 = .ok (.aload_n 0, 1) := by decide +kernel
theorem dX4_tellOnce_9 : decode cX4_tellOnce 9 = .ok (.getfield 76, 3) := by decide +kernel
theorem dX4_tellOnce_12 : decode cX4_tellOnce 12 = .ok (.iload_n 1, 1) := by decide +kernel
theorem dX4_tellOnce_13 : decode cX4_tellOnce 13 = .ok (.lshr, 1) := by decide +kernel
theorem dX4_tellOnce_14 : decode cX4_tellOnce 14 = .ok (.lconst 1, 1) := by decide +kernel
theorem dX4_tellOnce_15 : decode cX4_tellOnce 15 = .ok (.land, 1) := by decide +kernel
theorem dX4_tellOnce_16 : decode cX4_tellOnce 16 = .ok (.lconst 0, 1) := by decide +kernel
theorem dX4_tellOnce_17 : decode cX4_tellOnce 17 = .ok (.lcmp, 1) := by decide +kernel
theorem dX4_tellOnce_18 : decode cX4_tellOnce 18 = .ok (.ifCond .eq 13, 3) := by decide +kernel
theorem dX4_tellOnce_21 : decode cX4_tellOnce 21 = .ok (.aload_n 0, 1) := by decide +kernel
theorem dX4_tellOnce_22 : decode cX4_tellOnce 22 = .ok (.iconst 4, 1) := by decide +kernel
theorem dX4_tellOnce_23 : decode cX4_tellOnce 23 = .ok (.aload_n 0, 1) := by decide +kernel
theorem dX4_tellOnce_24 : decode cX4_tellOnce 24 = .ok (.getfield 84, 3) := by decide +kernel
theorem dX4_tellOnce_27 : decode cX4_tellOnce 27 = .ok (.invokevirtual 60, 3) := by decide +kernel
theorem dX4_tellOnce_30 : decode cX4_tellOnce 30 = .ok (.pop, 1) := by decide +kernel
theorem dX4_tellOnce_31 : decode cX4_tellOnce 31 = .ok (.aload_n 0, 1) := by decide +kernel
theorem dX4_tellOnce_32 : decode cX4_tellOnce 32 = .ok (.dup, 1) := by decide +kernel
theorem dX4_tellOnce_33 : decode cX4_tellOnce 33 = .ok (.getfield 76, 3) := by decide +kernel
theorem dX4_tellOnce_36 : decode cX4_tellOnce 36 = .ok (.lconst 1, 1) := by decide +kernel
theorem dX4_tellOnce_37 : decode cX4_tellOnce 37 = .ok (.iload_n 1, 1) := by decide +kernel
theorem dX4_tellOnce_38 : decode cX4_tellOnce 38 = .ok (.lshl, 1) := by decide +kernel
theorem dX4_tellOnce_39 : decode cX4_tellOnce 39 = .ok (.lor, 1) := by decide +kernel
theorem dX4_tellOnce_40 : decode cX4_tellOnce 40 = .ok (.putfield 76, 3) := by decide +kernel
theorem dX4_tellOnce_43 : decode cX4_tellOnce 43 = .ok (.return_, 1) := by decide +kernel
theorem dX4_readLine_0 : decode cX4_readLine 0 = .ok (.aload_n 0, 1) := by decide +kernel
theorem dX4_readLine_1 : decode cX4_readLine 1 = .ok (.ldc 117, 2) := by decide +kernel
theorem dX4_readLine_3 : decode cX4_readLine 3 = .ok (.invokevirtual 106, 3) := by decide +kernel
theorem dX4_readLine_6 : decode cX4_readLine 6 = .ok (.istore_n 1, 1) := by decide +kernel
theorem dX4_readLine_7 : decode cX4_readLine 7 = .ok (.iload_n 1, 1) := by decide +kernel
theorem dX4_readLine_8 : decode cX4_readLine 8 = .ok (.ifCond .ge 13, 3) := by decide +kernel
theorem dX4_readLine_11 : decode cX4_readLine 11 = .ok (.aload_n 0, 1) := by decide +kernel
theorem dX4_readLine_12 : decode cX4_readLine 12 = .ok (.iconst 2, 1) := by decide +kernel
theorem dX4_readLine_13 : decode cX4_readLine 13 = .ok (.aload_n 0, 1) := by decide +kernel
theorem dX4_readLine_14 : decode cX4_readLine 14 = .ok (.getfield 84, 3) := by decide +kernel
theorem dX4_readLine_17 : decode cX4_readLine 17 = .ok (.invokevirtual 60, 3) := by decide +kernel
theorem dX4_readLine_20 : decode cX4_readLine 20 = .ok (.pop, 1) := by decide +kernel
theorem dX4_readLine_21 : decode cX4_readLine 21 = .ok (.iload_n 1, 1) := by decide +kernel
theorem dX4_readLine_22 : decode cX4_readLine 22 = .ok (.tableswitch 213 0 11 #[62, 84, 106, 128, 140, 155, 171, 178, 185, 192, 199, 206], 62) := by decide +kernel
theorem dX4_readLine_84 : decode cX4_readLine 84 = .ok (.aload_n 0, 1) := by decide +kernel
theorem dX4_readLine_85 : decode cX4_readLine 85 = .ok (.iconst 0, 1) := by decide +kernel
theorem dX4_readLine_86 : decode cX4_readLine 86 = .ok (.invokevirtual 119, 3) := by decide +kernel
theorem dX4_readLine_89 : decode cX4_readLine 89 = .ok (.aload_n 0, 1) := by decide +kernel
theorem dX4_readLine_90 : decode cX4_readLine 90 = .ok (.getfield 12, 3) := by decide +kernel
theorem dX4_readLine_93 : decode cX4_readLine 93 = .ok (.aload_n 0, 1) := by decide +kernel
theorem dX4_readLine_94 : decode cX4_readLine 94 = .ok (.iconst 1, 1) := by decide +kernel
theorem dX4_readLine_95 : decode cX4_readLine 95 = .ok (.bipush 8, 2) := by decide +kernel
theorem dX4_readLine_97 : decode cX4_readLine 97 = .ok (.invokevirtual 103, 3) := by decide +kernel
theorem dX4_readLine_100 : decode cX4_readLine 100 = .ok (.putfield 123, 3) := by decide +kernel
theorem dX4_readLine_103 : decode cX4_readLine 103 = .ok (.goto 132, 3) := by decide +kernel
theorem dX4_readLine_106 : decode cX4_readLine 106 = .ok (.aload_n 0, 1) := by decide +kernel
theorem dX4_readLine_107 : decode cX4_readLine 107 = .ok (.iconst 1, 1) := by decide +kernel
theorem dX4_readLine_108 : decode cX4_readLine 108 = .ok (.invokevirtual 119, 3) := by decide +kernel
theorem dX4_readLine_111 : decode cX4_readLine 111 = .ok (.aload_n 0, 1) := by decide +kernel
theorem dX4_readLine_112 : decode cX4_readLine 112 = .ok (.getfield 12, 3) := by decide +kernel
theorem dX4_readLine_115 : decode cX4_readLine 115 = .ok (.aload_n 0, 1) := by decide +kernel
theorem dX4_readLine_116 : decode cX4_readLine 116 = .ok (.iconst 0, 1) := by decide +kernel
theorem dX4_readLine_117 : decode cX4_readLine 117 = .ok (.bipush 6, 2) := by decide +kernel
theorem dX4_readLine_119 : decode cX4_readLine 119 = .ok (.invokevirtual 103, 3) := by decide +kernel
theorem dX4_readLine_122 : decode cX4_readLine 122 = .ok (.putfield 126, 3) := by decide +kernel
theorem dX4_readLine_125 : decode cX4_readLine 125 = .ok (.goto 110, 3) := by decide +kernel
theorem dX4_readLine_128 : decode cX4_readLine 128 = .ok (.aload_n 0, 1) := by decide +kernel
theorem dX4_readLine_129 : decode cX4_readLine 129 = .ok (.iconst 2, 1) := by decide +kernel
theorem dX4_readLine_130 : decode cX4_readLine 130 = .ok (.invokevirtual 119, 3) := by decide +kernel
theorem dX4_readLine_133 : decode cX4_readLine 133 = .ok (.aload_n 0, 1) := by decide +kernel
theorem dX4_readLine_134 : decode cX4_readLine 134 = .ok (.getfield 12, 3) := by decide +kernel
theorem dX4_readLine_137 : decode cX4_readLine 137 = .ok (.aload_n 0, 1) := by decide +kernel
theorem dX4_readLine_138 : decode cX4_readLine 138 = .ok (.iconst 0, 1) := by decide +kernel
theorem dX4_readLine_139 : decode cX4_readLine 139 = .ok (.bipush 20, 2) := by decide +kernel
theorem dX4_readLine_141 : decode cX4_readLine 141 = .ok (.invokevirtual 103, 3) := by decide +kernel
theorem dX4_readLine_144 : decode cX4_readLine 144 = .ok (.putfield 129, 3) := by decide +kernel
theorem dX4_readLine_147 : decode cX4_readLine 147 = .ok (.goto 88, 3) := by decide +kernel
theorem dX4_readLine_150 : decode cX4_readLine 150 = .ok (.aload_n 0, 1) := by decide +kernel
theorem dX4_readLine_151 : decode cX4_readLine 151 = .ok (.iconst 3, 1) := by decide +kernel
theorem dX4_readLine_152 : decode cX4_readLine 152 = .ok (.invokevirtual 119, 3) := by decide +kernel
theorem dX4_readLine_155 : decode cX4_readLine 155 = .ok (.aload_n 0, 1) := by decide +kernel
theorem dX4_readLine_156 : decode cX4_readLine 156 = .ok (.invokevirtual 132, 3) := by decide +kernel
theorem dX4_readLine_159 : decode cX4_readLine 159 = .ok (.goto 76, 3) := by decide +kernel
theorem dX4_readLine_162 : decode cX4_readLine 162 = .ok (.aload_n 0, 1) := by decide +kernel
theorem dX4_readLine_163 : decode cX4_readLine 163 = .ok (.aload_n 0, 1) := by decide +kernel
theorem dX4_readLine_164 : decode cX4_readLine 164 = .ok (.getfield 12, 3) := by decide +kernel
theorem dX4_readLine_167 : decode cX4_readLine 167 = .ok (.getfield 135, 3) := by decide +kernel
theorem dX4_readLine_170 : decode cX4_readLine 170 = .ok (.iconst 4, 1) := by decide +kernel
theorem dX4_readLine_171 : decode cX4_readLine 171 = .ok (.invokevirtual 139, 3) := by decide +kernel
theorem dX4_readLine_174 : decode cX4_readLine 174 = .ok (.goto 61, 3) := by decide +kernel
theorem dX4_readLine_177 : decode cX4_readLine 177 = .ok (.aload_n 0, 1) := by decide +kernel
theorem dX4_readLine_178 : decode cX4_readLine 178 = .ok (.aload_n 0, 1) := by decide +kernel
theorem dX4_readLine_179 : decode cX4_readLine 179 = .ok (.getfield 12, 3) := by decide +kernel
theorem dX4_readLine_182 : decode cX4_readLine 182 = .ok (.getfield 143, 3) := by decide +kernel
theorem dX4_readLine_185 : decode cX4_readLine 185 = .ok (.bipush 6, 2) := by decide +kernel
theorem dX4_readLine_187 : decode cX4_readLine 187 = .ok (.invokevirtual 139, 3) := by decide +kernel
theorem dX4_readLine_190 : decode cX4_readLine 190 = .ok (.goto 45, 3) := by decide +kernel
theorem dX4_readLine_193 : decode cX4_readLine 193 = .ok (.aload_n 0, 1) := by decide +kernel
theorem dX4_readLine_194 : decode cX4_readLine 194 = .ok (.invokevirtual 146, 3) := by decide +kernel
theorem dX4_readLine_197 : decode cX4_readLine 197 = .ok (.goto 38, 3) := by decide +kernel
theorem dX4_readLine_200 : decode cX4_readLine 200 = .ok (.aload_n 0, 1) := by decide +kernel
theorem dX4_readLine_201 : decode cX4_readLine 201 = .ok (.invokevirtual 149, 3) := by decide +kernel
theorem dX4_readLine_204 : decode cX4_readLine 204 = .ok (.goto 31, 3) := by decide +kernel
theorem dX4_readLine_207 : decode cX4_readLine 207 = .ok (.aload_n 0, 1) := by decide +kernel
theorem dX4_readLine_208 : decode cX4_readLine 208 = .ok (.invokevirtual 152, 3) := by decide +kernel
theorem dX4_readLine_211 : decode cX4_readLine 211 = .ok (.goto 24, 3) := by decide +kernel
theorem dX4_readLine_214 : decode cX4_readLine 214 = .ok (.aload_n 0, 1) := by decide +kernel
theorem dX4_readLine_215 : decode cX4_readLine 215 = .ok (.invokevirtual 155, 3) := by decide +kernel
theorem dX4_readLine_218 : decode cX4_readLine 218 = .ok (.goto 17, 3) := by decide +kernel
theorem dX4_readLine_221 : decode cX4_readLine 221 = .ok (.aload_n 0, 1) := by decide +kernel
theorem dX4_readLine_222 : decode cX4_readLine 222 = .ok (.invokevirtual 158, 3) := by decide +kernel
theorem dX4_readLine_225 : decode cX4_readLine 225 = .ok (.goto 10, 3) := by decide +kernel
theorem dX4_readLine_228 : decode cX4_readLine 228 = .ok (.aload_n 0, 1) := by decide +kernel
theorem dX4_readLine_229 : decode cX4_readLine 229 = .ok (.invokevirtual 161, 3) := by decide +kernel
theorem dX4_readLine_232 : decode cX4_readLine 232 = .ok (.goto 3, 3) := by decide +kernel
theorem dX4_readLine_235 : decode cX4_readLine 235 = .ok (.return_, 1) := by decide +kernel
theorem dX4_readPrices_0 : decode cX4_readPrices 0 = .ok (.iconst 0, 1) := by decide +kernel
theorem dX4_readPrices_1 : decode cX4_readPrices 1 = .ok (.istore_n 1, 1) := by decide +kernel
theorem dX4_readPrices_2 : decode cX4_readPrices 2 = .ok (.iload_n 1, 1) := by decide +kernel
theorem dX4_readPrices_3 : decode cX4_readPrices 3 = .ok (.iconst 4, 1) := by decide +kernel
theorem dX4_readPrices_4 : decode cX4_readPrices 4 = .ok (.if_icmp .ge 32, 3) := by decide +kernel
theorem dX4_readPrices_7 : decode cX4_readPrices 7 = .ok (.aload_n 0, 1) := by decide +kernel
theorem dX4_readPrices_8 : decode cX4_readPrices 8 = .ok (.getfield 35, 3) := by decide +kernel
theorem dX4_readPrices_11 : decode cX4_readPrices 11 = .ok (.ifCond .ne 25, 3) := by decide +kernel
theorem dX4_readPrices_14 : decode cX4_readPrices 14 = .ok (.aload_n 0, 1) := by decide +kernel
theorem dX4_readPrices_15 : decode cX4_readPrices 15 = .ok (.getfield 12, 3) := by decide +kernel
theorem dX4_readPrices_18 : decode cX4_readPrices 18 = .ok (.getfield 164, 3) := by decide +kernel
theorem dX4_readPrices_21 : decode cX4_readPrices 21 = .ok (.iload_n 1, 1) := by decide +kernel
theorem dX4_readPrices_22 : decode cX4_readPrices 22 = .ok (.aload_n 0, 1) := by decide +kernel
theorem dX4_readPrices_23 : decode cX4_readPrices 23 = .ok (.iconst 1, 1) := by decide +kernel
theorem dX4_readPrices_24 : decode cX4_readPrices 24 = .ok (.bipush 9, 2) := by decide +kernel
theorem dX4_readPrices_26 : decode cX4_readPrices 26 = .ok (.invokevirtual 103, 3) := by decide +kernel
theorem dX4_readPrices_29 : decode cX4_readPrices 29 = .ok (.iastore, 1) := by decide +kernel
theorem dX4_readPrices_30 : decode cX4_readPrices 30 = .ok (.iinc 1 1, 3) := by decide +kernel
theorem dX4_readPrices_33 : decode cX4_readPrices 33 = .ok (.goto (-31), 3) := by decide +kernel
theorem dX4_readPrices_36 : decode cX4_readPrices 36 = .ok (.return_, 1) := by decide +kernel
theorem dX4_readOfKinds_0 : decode cX4_readOfKinds 0 = .ok (.aload_n 0, 1) := by decide +kernel
theorem dX4_readOfKinds_1 : decode cX4_readOfKinds 1 = .ok (.invokevirtual 168, 3) := by decide +kernel
theorem dX4_readOfKinds_4 : decode cX4_readOfKinds 4 = .ok (.istore_n 3, 1) := by decide +kernel
theorem dX4_readOfKinds_5 : decode cX4_readOfKinds 5 = .ok (.aload_n 0, 1) := by decide +kernel
theorem dX4_readOfKinds_6 : decode cX4_readOfKinds 6 = .ok (.iload_n 2, 1) := by decide +kernel
theorem dX4_readOfKinds_7 : decode cX4_readOfKinds 7 = .ok (.iload_n 3, 1) := by decide +kernel
theorem dX4_readOfKinds_8 : decode cX4_readOfKinds 8 = .ok (.iadd, 1) := by decide +kernel
theorem dX4_readOfKinds_9 : decode cX4_readOfKinds 9 = .ok (.invokevirtual 119, 3) := by decide +kernel
theorem dX4_readOfKinds_12 : decode cX4_readOfKinds 12 = .ok (.iconst 1, 1) := by decide +kernel
theorem dX4_readOfKinds_13 : decode cX4_readOfKinds 13 = .ok (.istore 4, 2) := by decide +kernel
theorem dX4_readOfKinds_15 : decode cX4_readOfKinds 15 = .ok (.iload 4, 2) := by decide +kernel
theorem dX4_readOfKinds_17 : decode cX4_readOfKinds 17 = .ok (.bipush 6, 2) := by decide +kernel
theorem dX4_readOfKinds_19 : decode cX4_readOfKinds 19 = .ok (.if_icmp .ge 29, 3) := by decide +kernel
theorem dX4_readOfKinds_22 : decode cX4_readOfKinds 22 = .ok (.aload_n 0, 1) := by decide +kernel
theorem dX4_readOfKinds_23 : decode cX4_readOfKinds 23 = .ok (.getfield 35, 3) := by decide +kernel
theorem dX4_readOfKinds_26 : decode cX4_readOfKinds 26 = .ok (.ifCond .ne 22, 3) := by decide +kernel
theorem dX4_readOfKinds_29 : decode cX4_readOfKinds 29 = .ok (.aload_n 1, 1) := by decide +kernel
theorem dX4_readOfKinds_30 : decode cX4_readOfKinds 30 = .ok (.iload_n 3, 1) := by decide +kernel
theorem dX4_readOfKinds_31 : decode cX4_readOfKinds 31 = .ok (.aaload, 1) := by decide +kernel
theorem dX4_readOfKinds_32 : decode cX4_readOfKinds 32 = .ok (.iload 4, 2) := by decide +kernel
theorem dX4_readOfKinds_34 : decode cX4_readOfKinds 34 = .ok (.aload_n 0, 1) := by decide +kernel
theorem dX4_readOfKinds_35 : decode cX4_readOfKinds 35 = .ok (.iconst 0, 1) := by decide +kernel
theorem dX4_readOfKinds_36 : decode cX4_readOfKinds 36 = .ok (.bipush 20, 2) := by decide +kernel
theorem dX4_readOfKinds_38 : decode cX4_readOfKinds 38 = .ok (.invokevirtual 103, 3) := by decide +kernel
theorem dX4_readOfKinds_41 : decode cX4_readOfKinds 41 = .ok (.iastore, 1) := by decide +kernel
theorem dX4_readOfKinds_42 : decode cX4_readOfKinds 42 = .ok (.iinc 4 1, 3) := by decide +kernel
theorem dX4_readOfKinds_45 : decode cX4_readOfKinds 45 = .ok (.goto (-30), 3) := by decide +kernel
theorem dX4_readOfKinds_48 : decode cX4_readOfKinds 48 = .ok (.return_, 1) := by decide +kernel
theorem dX4_readLack_0 : decode cX4_readLack 0 = .ok (.aload_n 0, 1) := by decide +kernel
theorem dX4_readLack_1 : decode cX4_readLack 1 = .ok (.invokevirtual 168, 3) := by decide +kernel
theorem dX4_readLack_4 : decode cX4_readLack 4 = .ok (.istore_n 1, 1) := by decide +kernel
theorem dX4_readLack_5 : decode cX4_readLack 5 = .ok (.aload_n 0, 1) := by decide +kernel
theorem dX4_readLack_6 : decode cX4_readLack 6 = .ok (.ldc 171, 2) := by decide +kernel
theorem dX4_readLack_8 : decode cX4_readLack 8 = .ok (.invokevirtual 112, 3) := by decide +kernel
theorem dX4_readLack_11 : decode cX4_readLack 11 = .ok (.iconst 1, 1) := by decide +kernel
theorem dX4_readLack_12 : decode cX4_readLack 12 = .ok (.iadd, 1) := by decide +kernel
theorem dX4_readLack_13 : decode cX4_readLack 13 = .ok (.istore_n 2, 1) := by decide +kernel
theorem dX4_readLack_14 : decode cX4_readLack 14 = .ok (.aload_n 0, 1) := by decide +kernel
theorem dX4_readLack_15 : decode cX4_readLack 15 = .ok (.getfield 35, 3) := by decide +kernel
theorem dX4_readLack_18 : decode cX4_readLack 18 = .ok (.ifCond .ne 18, 3) := by decide +kernel
theorem dX4_readLack_21 : decode cX4_readLack 21 = .ok (.aload_n 0, 1) := by decide +kernel
theorem dX4_readLack_22 : decode cX4_readLack 22 = .ok (.getfield 12, 3) := by decide +kernel
theorem dX4_readLack_25 : decode cX4_readLack 25 = .ok (.getfield 173, 3) := by decide +kernel
theorem dX4_readLack_28 : decode cX4_readLack 28 = .ok (.iload_n 1, 1) := by decide +kernel
theorem dX4_readLack_29 : decode cX4_readLack 29 = .ok (.dup2, 1) := by decide +kernel
theorem dX4_readLack_30 : decode cX4_readLack 30 = .ok (.iaload, 1) := by decide +kernel
theorem dX4_readLack_31 : decode cX4_readLack 31 = .ok (.iconst 1, 1) := by decide +kernel
theorem dX4_readLack_32 : decode cX4_readLack 32 = .ok (.iload_n 2, 1) := by decide +kernel
theorem dX4_readLack_33 : decode cX4_readLack 33 = .ok (.ishl, 1) := by decide +kernel
theorem dX4_readLack_34 : decode cX4_readLack 34 = .ok (.ior, 1) := by decide +kernel
theorem dX4_readLack_35 : decode cX4_readLack 35 = .ok (.iastore, 1) := by decide +kernel
theorem dX4_readLack_36 : decode cX4_readLack 36 = .ok (.return_, 1) := by decide +kernel
theorem dX4_readTwins_0 : decode cX4_readTwins 0 = .ok (.aload_n 0, 1) := by decide +kernel
theorem dX4_readTwins_1 : decode cX4_readTwins 1 = .ok (.ldc 171, 2) := by decide +kernel
theorem dX4_readTwins_3 : decode cX4_readTwins 3 = .ok (.invokevirtual 112, 3) := by decide +kernel
theorem dX4_readTwins_6 : decode cX4_readTwins 6 = .ok (.iconst 1, 1) := by decide +kernel
theorem dX4_readTwins_7 : decode cX4_readTwins 7 = .ok (.iadd, 1) := by decide +kernel
theorem dX4_readTwins_8 : decode cX4_readTwins 8 = .ok (.istore_n 1, 1) := by decide +kernel
theorem dX4_readTwins_9 : decode cX4_readTwins 9 = .ok (.aload_n 0, 1) := by decide +kernel
theorem dX4_readTwins_10 : decode cX4_readTwins 10 = .ok (.bipush 8, 2) := by decide +kernel
theorem dX4_readTwins_12 : decode cX4_readTwins 12 = .ok (.iload_n 1, 1) := by decide +kernel
theorem dX4_readTwins_13 : decode cX4_readTwins 13 = .ok (.iadd, 1) := by decide +kernel
theorem dX4_readTwins_14 : decode cX4_readTwins 14 = .ok (.invokevirtual 119, 3) := by decide +kernel
theorem dX4_readTwins_17 : decode cX4_readTwins 17 = .ok (.aload_n 0, 1) := by decide +kernel
theorem dX4_readTwins_18 : decode cX4_readTwins 18 = .ok (.ldc 171, 2) := by decide +kernel
theorem dX4_readTwins_20 : decode cX4_readTwins 20 = .ok (.invokevirtual 112, 3) := by decide +kernel
theorem dX4_readTwins_23 : decode cX4_readTwins 23 = .ok (.iconst 1, 1) := by decide +kernel
theorem dX4_readTwins_24 : decode cX4_readTwins 24 = .ok (.iadd, 1) := by decide +kernel
theorem dX4_readTwins_25 : decode cX4_readTwins 25 = .ok (.istore_n 2, 1) := by decide +kernel
theorem dX4_readTwins_26 : decode cX4_readTwins 26 = .ok (.aload_n 0, 1) := by decide +kernel
theorem dX4_readTwins_27 : decode cX4_readTwins 27 = .ok (.bipush 8, 2) := by decide +kernel
theorem dX4_readTwins_29 : decode cX4_readTwins 29 = .ok (.iload_n 2, 1) := by decide +kernel
theorem dX4_readTwins_30 : decode cX4_readTwins 30 = .ok (.iadd, 1) := by decide +kernel
theorem dX4_readTwins_31 : decode cX4_readTwins 31 = .ok (.invokevirtual 119, 3) := by decide +kernel
theorem dX4_readTwins_34 : decode cX4_readTwins 34 = .ok (.aload_n 0, 1) := by decide +kernel
theorem dX4_readTwins_35 : decode cX4_readTwins 35 = .ok (.getfield 35, 3) := by decide +kernel
theorem dX4_readTwins_38 : decode cX4_readTwins 38 = .ok (.ifCond .ne 23, 3) := by decide +kernel
theorem dX4_readTwins_41 : decode cX4_readTwins 41 = .ok (.aload_n 0, 1) := by decide +kernel
theorem dX4_readTwins_42 : decode cX4_readTwins 42 = .ok (.getfield 12, 3) := by decide +kernel
theorem dX4_readTwins_45 : decode cX4_readTwins 45 = .ok (.getfield 176, 3) := by decide +kernel
theorem dX4_readTwins_48 : decode cX4_readTwins 48 = .ok (.iload_n 1, 1) := by decide +kernel
theorem dX4_readTwins_49 : decode cX4_readTwins 49 = .ok (.iload_n 2, 1) := by decide +kernel
theorem dX4_readTwins_50 : decode cX4_readTwins 50 = .ok (.iastore, 1) := by decide +kernel
theorem dX4_readTwins_51 : decode cX4_readTwins 51 = .ok (.aload_n 0, 1) := by decide +kernel
theorem dX4_readTwins_52 : decode cX4_readTwins 52 = .ok (.getfield 12, 3) := by decide +kernel
theorem dX4_readTwins_55 : decode cX4_readTwins 55 = .ok (.getfield 176, 3) := by decide +kernel
theorem dX4_readTwins_58 : decode cX4_readTwins 58 = .ok (.iload_n 2, 1) := by decide +kernel
theorem dX4_readTwins_59 : decode cX4_readTwins 59 = .ok (.iload_n 1, 1) := by decide +kernel
theorem dX4_readTwins_60 : decode cX4_readTwins 60 = .ok (.iastore, 1) := by decide +kernel
theorem dX4_readTwins_61 : decode cX4_readTwins 61 = .ok (.return_, 1) := by decide +kernel
theorem dX4_readPaint_0 : decode cX4_readPaint 0 = .ok (.aload_n 0, 1) := by decide +kernel
theorem dX4_readPaint_1 : decode cX4_readPaint 1 = .ok (.iconst 0, 1) := by decide +kernel
theorem dX4_readPaint_2 : decode cX4_readPaint 2 = .ok (.iconst 3, 1) := by decide +kernel
theorem dX4_readPaint_3 : decode cX4_readPaint 3 = .ok (.invokevirtual 103, 3) := by decide +kernel
theorem dX4_readPaint_6 : decode cX4_readPaint 6 = .ok (.istore_n 1, 1) := by decide +kernel
theorem dX4_readPaint_7 : decode cX4_readPaint 7 = .ok (.aload_n 0, 1) := by decide +kernel
theorem dX4_readPaint_8 : decode cX4_readPaint 8 = .ok (.bipush 14, 2) := by decide +kernel
theorem dX4_readPaint_10 : decode cX4_readPaint 10 = .ok (.iload_n 1, 1) := by decide +kernel
theorem dX4_readPaint_11 : decode cX4_readPaint 11 = .ok (.iadd, 1) := by decide +kernel
theorem dX4_readPaint_12 : decode cX4_readPaint 12 = .ok (.invokevirtual 119, 3) := by decide +kernel
theorem dX4_readPaint_15 : decode cX4_readPaint 15 = .ok (.aload_n 0, 1) := by decide +kernel
theorem dX4_readPaint_16 : decode cX4_readPaint 16 = .ok (.iconst 0, 1) := by decide +kernel
theorem dX4_readPaint_17 : decode cX4_readPaint 17 = .ok (.iconst 3, 1) := by decide +kernel
theorem dX4_readPaint_18 : decode cX4_readPaint 18 = .ok (.invokevirtual 103, 3) := by decide +kernel
theorem dX4_readPaint_21 : decode cX4_readPaint 21 = .ok (.istore_n 2, 1) := by decide +kernel
theorem dX4_readPaint_22 : decode cX4_readPaint 22 = .ok (.aload_n 0, 1) := by decide +kernel
theorem dX4_readPaint_23 : decode cX4_readPaint 23 = .ok (.bipush 14, 2) := by decide +kernel
theorem dX4_readPaint_25 : decode cX4_readPaint 25 = .ok (.iload_n 2, 1) := by decide +kernel
theorem dX4_readPaint_26 : decode cX4_readPaint 26 = .ok (.iadd, 1) := by decide +kernel
theorem dX4_readPaint_27 : decode cX4_readPaint 27 = .ok (.invokevirtual 119, 3) := by decide +kernel
theorem dX4_readPaint_30 : decode cX4_readPaint 30 = .ok (.aload_n 0, 1) := by decide +kernel
theorem dX4_readPaint_31 : decode cX4_readPaint 31 = .ok (.getfield 35, 3) := by decide +kernel
theorem dX4_readPaint_34 : decode cX4_readPaint 34 = .ok (.ifCond .ne 23, 3) := by decide +kernel
theorem dX4_readPaint_37 : decode cX4_readPaint 37 = .ok (.aload_n 0, 1) := by decide +kernel
theorem dX4_readPaint_38 : decode cX4_readPaint 38 = .ok (.getfield 12, 3) := by decide +kernel
theorem dX4_readPaint_41 : decode cX4_readPaint 41 = .ok (.getfield 179, 3) := by decide +kernel
theorem dX4_readPaint_44 : decode cX4_readPaint 44 = .ok (.iload_n 1, 1) := by decide +kernel
theorem dX4_readPaint_45 : decode cX4_readPaint 45 = .ok (.iload_n 2, 1) := by decide +kernel
theorem dX4_readPaint_46 : decode cX4_readPaint 46 = .ok (.iastore, 1) := by decide +kernel
theorem dX4_readPaint_47 : decode cX4_readPaint 47 = .ok (.aload_n 0, 1) := by decide +kernel
theorem dX4_readPaint_48 : decode cX4_readPaint 48 = .ok (.getfield 12, 3) := by decide +kernel
theorem dX4_readPaint_51 : decode cX4_readPaint 51 = .ok (.getfield 179, 3) := by decide +kernel
theorem dX4_readPaint_54 : decode cX4_readPaint 54 = .ok (.iload_n 2, 1) := by decide +kernel
theorem dX4_readPaint_55 : decode cX4_readPaint 55 = .ok (.iload_n 1, 1) := by decide +kernel
theorem dX4_readPaint_56 : decode cX4_readPaint 56 = .ok (.iastore, 1) := by decide +kernel
theorem dX4_readPaint_57 : decode cX4_readPaint 57 = .ok (.return_, 1) := by decide +kernel
theorem dX4_readRight_0 : decode cX4_readRight 0 = .ok (.aload_n 0, 1) := by decide +kernel
theorem dX4_readRight_1 : decode cX4_readRight 1 = .ok (.ldc 171, 2) := by decide +kernel
theorem dX4_readRight_3 : decode cX4_readRight 3 = .ok (.invokevirtual 112, 3) := by decide +kernel
theorem dX4_readRight_6 : decode cX4_readRight 6 = .ok (.iconst 1, 1) := by decide +kernel
theorem dX4_readRight_7 : decode cX4_readRight 7 = .ok (.iadd, 1) := by decide +kernel
theorem dX4_readRight_8 : decode cX4_readRight 8 = .ok (.istore_n 1, 1) := by decide +kernel
theorem dX4_readRight_9 : decode cX4_readRight 9 = .ok (.aload_n 0, 1) := by decide +kernel
theorem dX4_readRight_10 : decode cX4_readRight 10 = .ok (.getfield 35, 3) := by decide +kernel
theorem dX4_readRight_13 : decode cX4_readRight 13 = .ok (.ifCond .ne 18, 3) := by decide +kernel
theorem dX4_readRight_16 : decode cX4_readRight 16 = .ok (.aload_n 0, 1) := by decide +kernel
theorem dX4_readRight_17 : decode cX4_readRight 17 = .ok (.getfield 12, 3) := by decide +kernel
theorem dX4_readRight_20 : decode cX4_readRight 20 = .ok (.dup, 1) := by decide +kernel
theorem dX4_readRight_21 : decode cX4_readRight 21 = .ok (.getfield 182, 3) := by decide +kernel
theorem dX4_readRight_24 : decode cX4_readRight 24 = .ok (.iconst 1, 1) := by decide +kernel
theorem dX4_readRight_25 : decode cX4_readRight 25 = .ok (.iload_n 1, 1) := by decide +kernel
theorem dX4_readRight_26 : decode cX4_readRight 26 = .ok (.ishl, 1) := by decide +kernel
theorem dX4_readRight_27 : decode cX4_readRight 27 = .ok (.ior, 1) := by decide +kernel
theorem dX4_readRight_28 : decode cX4_readRight 28 = .ok (.putfield 182, 3) := by decide +kernel
theorem dX4_readRight_31 : decode cX4_readRight 31 = .ok (.return_, 1) := by decide +kernel
theorem dX4_readThing_0 : decode cX4_readThing 0 = .ok (.aload_n 0, 1) := by decide +kernel
theorem dX4_readThing_1 : decode cX4_readThing 1 = .ok (.invokevirtual 168, 3) := by decide +kernel
theorem dX4_readThing_4 : decode cX4_readThing 4 = .ok (.istore_n 1, 1) := by decide +kernel
theorem dX4_readThing_5 : decode cX4_readThing 5 = .ok (.aload_n 0, 1) := by decide +kernel
theorem dX4_readThing_6 : decode cX4_readThing 6 = .ok (.iconst 0, 1) := by decide +kernel
theorem dX4_readThing_7 : decode cX4_readThing 7 = .ok (.bipush 7, 2) := by decide +kernel
theorem dX4_readThing_9 : decode cX4_readThing 9 = .ok (.invokevirtual 103, 3) := by decide +kernel
theorem dX4_readThing_12 : decode cX4_readThing 12 = .ok (.istore_n 2, 1) := by decide +kernel
theorem dX4_readThing_13 : decode cX4_readThing 13 = .ok (.aload_n 0, 1) := by decide +kernel
theorem dX4_readThing_14 : decode cX4_readThing 14 = .ok (.bipush 18, 2) := by decide +kernel
theorem dX4_readThing_16 : decode cX4_readThing 16 = .ok (.iload_n 1, 1) := by decide +kernel
theorem dX4_readThing_17 : decode cX4_readThing 17 = .ok (.iload_n 2, 1) := by decide +kernel
theorem dX4_readThing_18 : decode cX4_readThing 18 = .ok (.invokestatic 185, 3) := by decide +kernel
theorem dX4_readThing_21 : decode cX4_readThing 21 = .ok (.iadd, 1) := by decide +kernel
theorem dX4_readThing_22 : decode cX4_readThing 22 = .ok (.invokevirtual 119, 3) := by decide +kernel
theorem dX4_readThing_25 : decode cX4_readThing 25 = .ok (.aload_n 0, 1) := by decide +kernel
theorem dX4_readThing_26 : decode cX4_readThing 26 = .ok (.invokevirtual 188, 3) := by decide +kernel
theorem dX4_readThing_29 : decode cX4_readThing 29 = .ok (.istore_n 3, 1) := by decide +kernel
theorem dX4_readThing_30 : decode cX4_readThing 30 = .ok (.aload_n 0, 1) := by decide +kernel
theorem dX4_readThing_31 : decode cX4_readThing 31 = .ok (.getfield 35, 3) := by decide +kernel
theorem dX4_readThing_34 : decode cX4_readThing 34 = .ok (.ifCond .ne 13, 3) := by decide +kernel
theorem dX4_readThing_37 : decode cX4_readThing 37 = .ok (.aload_n 0, 1) := by decide +kernel
theorem dX4_readThing_38 : decode cX4_readThing 38 = .ok (.getfield 21, 3) := by decide +kernel
theorem dX4_readThing_41 : decode cX4_readThing 41 = .ok (.iload_n 1, 1) := by decide +kernel
theorem dX4_readThing_42 : decode cX4_readThing 42 = .ok (.iload_n 2, 1) := by decide +kernel
theorem dX4_readThing_43 : decode cX4_readThing 43 = .ok (.iload_n 3, 1) := by decide +kernel
theorem dX4_readThing_44 : decode cX4_readThing 44 = .ok (.invokevirtual 191, 3) := by decide +kernel
theorem dX4_readThing_47 : decode cX4_readThing 47 = .ok (.return_, 1) := by decide +kernel
theorem dX4_readWork_0 : decode cX4_readWork 0 = .ok (.aload_n 0, 1) := by decide +kernel
theorem dX4_readWork_1 : decode cX4_readWork 1 = .ok (.getfield 21, 3) := by decide +kernel
theorem dX4_readWork_4 : decode cX4_readWork 4 = .ok (.getfield 195, 3) := by decide +kernel
theorem dX4_readWork_7 : decode cX4_readWork 7 = .ok (.invokevirtual 199, 3) := by decide +kernel
theorem dX4_readWork_10 : decode cX4_readWork 10 = .ok (.ifCond .eq 13, 3) := by decide +kernel
theorem dX4_readWork_13 : decode cX4_readWork 13 = .ok (.aload_n 0, 1) := by decide +kernel
theorem dX4_readWork_14 : decode cX4_readWork 14 = .ok (.iconst 5, 1) := by decide +kernel
theorem dX4_readWork_15 : decode cX4_readWork 15 = .ok (.aload_n 0, 1) := by decide +kernel
theorem dX4_readWork_16 : decode cX4_readWork 16 = .ok (.getfield 84, 3) := by decide +kernel
theorem dX4_readWork_19 : decode cX4_readWork 19 = .ok (.invokevirtual 60, 3) := by decide +kernel
theorem dX4_readWork_22 : decode cX4_readWork 22 = .ok (.pop, 1) := by decide +kernel
theorem dX4_readWork_23 : decode cX4_readWork 23 = .ok (.aload_n 0, 1) := by decide +kernel
theorem dX4_readWork_24 : decode cX4_readWork 24 = .ok (.aload_n 0, 1) := by decide +kernel
theorem dX4_readWork_25 : decode cX4_readWork 25 = .ok (.getfield 21, 3) := by decide +kernel
theorem dX4_readWork_28 : decode cX4_readWork 28 = .ok (.invokevirtual 204, 3) := by decide +kernel
theorem dX4_readWork_31 : decode cX4_readWork 31 = .ok (.bipush 23, 2) := by decide +kernel
theorem dX4_readWork_33 : decode cX4_readWork 33 = .ok (.invokevirtual 103, 3) := by decide +kernel
theorem dX4_readWork_36 : decode cX4_readWork 36 = .ok (.istore_n 1, 1) := by decide +kernel
theorem dX4_readWork_37 : decode cX4_readWork 37 = .ok (.aload_n 0, 1) := by decide +kernel
theorem dX4_readWork_38 : decode cX4_readWork 38 = .ok (.invokevirtual 168, 3) := by decide +kernel
theorem dX4_readWork_41 : decode cX4_readWork 41 = .ok (.istore_n 2, 1) := by decide +kernel
theorem dX4_readWork_42 : decode cX4_readWork 42 = .ok (.aload_n 0, 1) := by decide +kernel
theorem dX4_readWork_43 : decode cX4_readWork 43 = .ok (.iconst 0, 1) := by decide +kernel
theorem dX4_readWork_44 : decode cX4_readWork 44 = .ok (.bipush 7, 2) := by decide +kernel
theorem dX4_readWork_46 : decode cX4_readWork 46 = .ok (.invokevirtual 103, 3) := by decide +kernel
theorem dX4_readWork_49 : decode cX4_readWork 49 = .ok (.istore_n 3, 1) := by decide +kernel
theorem dX4_readWork_50 : decode cX4_readWork 50 = .ok (.aload_n 0, 1) := by decide +kernel
theorem dX4_readWork_51 : decode cX4_readWork 51 = .ok (.invokevirtual 188, 3) := by decide +kernel
theorem dX4_readWork_54 : decode cX4_readWork 54 = .ok (.istore 4, 2) := by decide +kernel
theorem dX4_readWork_56 : decode cX4_readWork 56 = .ok (.aload_n 0, 1) := by decide +kernel
theorem dX4_readWork_57 : decode cX4_readWork 57 = .ok (.getfield 35, 3) := by decide +kernel
theorem dX4_readWork_60 : decode cX4_readWork 60 = .ok (.ifCond .ne 18, 3) := by decide +kernel
theorem dX4_readWork_63 : decode cX4_readWork 63 = .ok (.aload_n 0, 1) := by decide +kernel
theorem dX4_readWork_64 : decode cX4_readWork 64 = .ok (.getfield 21, 3) := by decide +kernel
theorem dX4_readWork_67 : decode cX4_readWork 67 = .ok (.getfield 195, 3) := by decide +kernel
theorem dX4_readWork_70 : decode cX4_readWork 70 = .ok (.iload_n 1, 1) := by decide +kernel
theorem dX4_readWork_71 : decode cX4_readWork 71 = .ok (.iload_n 2, 1) := by decide +kernel
theorem dX4_readWork_72 : decode cX4_readWork 72 = .ok (.iload_n 3, 1) := by decide +kernel
theorem dX4_readWork_73 : decode cX4_readWork 73 = .ok (.iload 4, 2) := by decide +kernel
theorem dX4_readWork_75 : decode cX4_readWork 75 = .ok (.invokevirtual 207, 3) := by decide +kernel
theorem dX4_readWork_78 : decode cX4_readWork 78 = .ok (.return_, 1) := by decide +kernel
theorem dX4_allLotsAre_0 : decode cX4_allLotsAre 0 = .ok (.iconst 0, 1) := by decide +kernel
theorem dX4_allLotsAre_1 : decode cX4_allLotsAre 1 = .ok (.istore_n 1, 1) := by decide +kernel
theorem dX4_allLotsAre_2 : decode cX4_allLotsAre 2 = .ok (.iload_n 1, 1) := by decide +kernel
theorem dX4_allLotsAre_3 : decode cX4_allLotsAre 3 = .ok (.iconst 2, 1) := by decide +kernel
theorem dX4_allLotsAre_4 : decode cX4_allLotsAre 4 = .ok (.if_icmp .ge 51, 3) := by decide +kernel
theorem dX4_allLotsAre_7 : decode cX4_allLotsAre 7 = .ok (.aload_n 0, 1) := by decide +kernel
theorem dX4_allLotsAre_8 : decode cX4_allLotsAre 8 = .ok (.getfield 12, 3) := by decide +kernel
theorem dX4_allLotsAre_11 : decode cX4_allLotsAre 11 = .ok (.getfield 123, 3) := by decide +kernel
theorem dX4_allLotsAre_14 : decode cX4_allLotsAre 14 = .ok (.istore_n 2, 1) := by decide +kernel
theorem dX4_allLotsAre_15 : decode cX4_allLotsAre 15 = .ok (.iload_n 2, 1) := by decide +kernel
theorem dX4_allLotsAre_16 : decode cX4_allLotsAre 16 = .ok (.bipush 8, 2) := by decide +kernel
theorem dX4_allLotsAre_18 : decode cX4_allLotsAre 18 = .ok (.if_icmp .ge 31, 3) := by decide +kernel
theorem dX4_allLotsAre_21 : decode cX4_allLotsAre 21 = .ok (.aload_n 0, 1) := by decide +kernel
theorem dX4_allLotsAre_22 : decode cX4_allLotsAre 22 = .ok (.getfield 76, 3) := by decide +kernel
theorem dX4_allLotsAre_25 : decode cX4_allLotsAre 25 = .ok (.bipush 18, 2) := by decide +kernel
theorem dX4_allLotsAre_27 : decode cX4_allLotsAre 27 = .ok (.iload_n 1, 1) := by decide +kernel
theorem dX4_allLotsAre_28 : decode cX4_allLotsAre 28 = .ok (.iload_n 2, 1) := by decide +kernel
theorem dX4_allLotsAre_29 : decode cX4_allLotsAre 29 = .ok (.invokestatic 185, 3) := by decide +kernel
theorem dX4_allLotsAre_32 : decode cX4_allLotsAre 32 = .ok (.iadd, 1) := by decide +kernel
theorem dX4_allLotsAre_33 : decode cX4_allLotsAre 33 = .ok (.lshr, 1) := by decide +kernel
theorem dX4_allLotsAre_34 : decode cX4_allLotsAre 34 = .ok (.lconst 1, 1) := by decide +kernel
theorem dX4_allLotsAre_35 : decode cX4_allLotsAre 35 = .ok (.land, 1) := by decide +kernel
theorem dX4_allLotsAre_36 : decode cX4_allLotsAre 36 = .ok (.lconst 0, 1) := by decide +kernel
theorem dX4_allLotsAre_37 : decode cX4_allLotsAre 37 = .ok (.lcmp, 1) := by decide +kernel
theorem dX4_allLotsAre_38 : decode cX4_allLotsAre 38 = .ok (.ifCond .eq 5, 3) := by decide +kernel
theorem dX4_allLotsAre_41 : decode cX4_allLotsAre 41 = .ok (.iconst 0, 1) := by decide +kernel
theorem dX4_allLotsAre_42 : decode cX4_allLotsAre 42 = .ok (.ireturn, 1) := by decide +kernel
theorem dX4_allLotsAre_43 : decode cX4_allLotsAre 43 = .ok (.iinc 2 1, 3) := by decide +kernel
theorem dX4_allLotsAre_46 : decode cX4_allLotsAre 46 = .ok (.goto (-31), 3) := by decide +kernel
theorem dX4_allLotsAre_49 : decode cX4_allLotsAre 49 = .ok (.iinc 1 1, 3) := by decide +kernel
theorem dX4_allLotsAre_52 : decode cX4_allLotsAre 52 = .ok (.goto (-50), 3) := by decide +kernel
theorem dX4_allLotsAre_55 : decode cX4_allLotsAre 55 = .ok (.iconst 0, 1) := by decide +kernel
theorem dX4_allLotsAre_56 : decode cX4_allLotsAre 56 = .ok (.istore_n 1, 1) := by decide +kernel
theorem dX4_allLotsAre_57 : decode cX4_allLotsAre 57 = .ok (.iload_n 1, 1) := by decide +kernel
theorem dX4_allLotsAre_58 : decode cX4_allLotsAre 58 = .ok (.aload_n 0, 1) := by decide +kernel
theorem dX4_allLotsAre_59 : decode cX4_allLotsAre 59 = .ok (.getfield 21, 3) := by decide +kernel
theorem dX4_allLotsAre_62 : decode cX4_allLotsAre 62 = .ok (.getfield 195, 3) := by decide +kernel
theorem dX4_allLotsAre_65 : decode cX4_allLotsAre 65 = .ok (.getfield 211, 3) := by decide +kernel
theorem dX4_allLotsAre_68 : decode cX4_allLotsAre 68 = .ok (.if_icmp .ge 33, 3) := by decide +kernel
theorem dX4_allLotsAre_71 : decode cX4_allLotsAre 71 = .ok (.aload_n 0, 1) := by decide +kernel
theorem dX4_allLotsAre_72 : decode cX4_allLotsAre 72 = .ok (.getfield 21, 3) := by decide +kernel
theorem dX4_allLotsAre_75 : decode cX4_allLotsAre 75 = .ok (.getfield 195, 3) := by decide +kernel
theorem dX4_allLotsAre_78 : decode cX4_allLotsAre 78 = .ok (.iload_n 1, 1) := by decide +kernel
theorem dX4_allLotsAre_79 : decode cX4_allLotsAre 79 = .ok (.iconst 2, 1) := by decide +kernel
theorem dX4_allLotsAre_80 : decode cX4_allLotsAre 80 = .ok (.invokevirtual 212, 3) := by decide +kernel
theorem dX4_allLotsAre_83 : decode cX4_allLotsAre 83 = .ok (.aload_n 0, 1) := by decide +kernel
theorem dX4_allLotsAre_84 : decode cX4_allLotsAre 84 = .ok (.getfield 12, 3) := by decide +kernel
theorem dX4_allLotsAre_87 : decode cX4_allLotsAre 87 = .ok (.getfield 123, 3) := by decide +kernel
theorem dX4_allLotsAre_90 : decode cX4_allLotsAre 90 = .ok (.if_icmp .lt 5, 3) := by decide +kernel
theorem dX4_allLotsAre_93 : decode cX4_allLotsAre 93 = .ok (.iconst 0, 1) := by decide +kernel
theorem dX4_allLotsAre_94 : decode cX4_allLotsAre 94 = .ok (.ireturn, 1) := by decide +kernel
theorem dX4_allLotsAre_95 : decode cX4_allLotsAre 95 = .ok (.iinc 1 1, 3) := by decide +kernel
theorem dX4_allLotsAre_98 : decode cX4_allLotsAre 98 = .ok (.goto (-41), 3) := by decide +kernel
theorem dX4_allLotsAre_101 : decode cX4_allLotsAre 101 = .ok (.iconst 1, 1) := by decide +kernel
theorem dX4_allLotsAre_102 : decode cX4_allLotsAre 102 = .ok (.ireturn, 1) := by decide +kernel
theorem dX10_init_0 : decode cX10_init 0 = .ok (.aload_n 0, 1) := by decide +kernel
theorem dX10_init_1 : decode cX10_init 1 = .ok (.invokespecial 1, 3) := by decide +kernel
theorem dX10_init_4 : decode cX10_init 4 = .ok (.aload_n 0, 1) := by decide +kernel
theorem dX10_init_5 : decode cX10_init 5 = .ok (.new 7, 3) := by decide +kernel
theorem dX10_init_8 : decode cX10_init 8 = .ok (.dup, 1) := by decide +kernel
theorem dX10_init_9 : decode cX10_init 9 = .ok (.invokespecial 9, 3) := by decide +kernel
theorem dX10_init_12 : decode cX10_init 12 = .ok (.putfield 10, 3) := by decide +kernel
theorem dX10_init_15 : decode cX10_init 15 = .ok (.aload_n 0, 1) := by decide +kernel
theorem dX10_init_16 : decode cX10_init 16 = .ok (.new 16, 3) := by decide +kernel
theorem dX10_init_19 : decode cX10_init 19 = .ok (.dup, 1) := by decide +kernel
theorem dX10_init_20 : decode cX10_init 20 = .ok (.invokespecial 18, 3) := by decide +kernel
theorem dX10_init_23 : decode cX10_init 23 = .ok (.putfield 19, 3) := by decide +kernel
theorem dX10_init_26 : decode cX10_init 26 = .ok (.aload_n 0, 1) := by decide +kernel
theorem dX10_init_27 : decode cX10_init 27 = .ok (.new 23, 3) := by decide +kernel
theorem dX10_init_30 : decode cX10_init 30 = .ok (.dup, 1) := by decide +kernel
theorem dX10_init_31 : decode cX10_init 31 = .ok (.invokespecial 25, 3) := by decide +kernel
theorem dX10_init_34 : decode cX10_init 34 = .ok (.putfield 26, 3) := by decide +kernel
theorem dX10_init_37 : decode cX10_init 37 = .ok (.aload_n 0, 1) := by decide +kernel
theorem dX10_init_38 : decode cX10_init 38 = .ok (.new 30, 3) := by decide +kernel
theorem dX10_init_41 : decode cX10_init 41 = .ok (.dup, 1) := by decide +kernel
theorem dX10_init_42 : decode cX10_init 42 = .ok (.aload_n 0, 1) := by decide +kernel
theorem dX10_init_43 : decode cX10_init 43 = .ok (.getfield 10, 3) := by decide +kernel
theorem dX10_init_46 : decode cX10_init 46 = .ok (.invokespecial 32, 3) := by decide +kernel
theorem dX10_init_49 : decode cX10_init 49 = .ok (.putfield 35, 3) := by decide +kernel
theorem dX10_init_52 : decode cX10_init 52 = .ok (.aload_n 0, 1) := by decide +kernel
theorem dX10_init_53 : decode cX10_init 53 = .ok (.new 39, 3) := by decide +kernel
theorem dX10_init_56 : decode cX10_init 56 = .ok (.dup, 1) := by decide +kernel
theorem dX10_init_57 : decode cX10_init 57 = .ok (.aload_n 0, 1) := by decide +kernel
theorem dX10_init_58 : decode cX10_init 58 = .ok (.getfield 19, 3) := by decide +kernel
theorem dX10_init_61 : decode cX10_init 61 = .ok (.aload_n 0, 1) := by decide +kernel
theorem dX10_init_62 : decode cX10_init 62 = .ok (.getfield 26, 3) := by decide +kernel
theorem dX10_init_65 : decode cX10_init 65 = .ok (.invokespecial 41, 3) := by decide +kernel
theorem dX10_init_68 : decode cX10_init 68 = .ok (.putfield 44, 3) := by decide +kernel
theorem dX10_init_71 : decode cX10_init 71 = .ok (.aload_n 0, 1) := by decide +kernel
theorem dX10_init_72 : decode cX10_init 72 = .ok (.new 48, 3) := by decide +kernel
theorem dX10_init_75 : decode cX10_init 75 = .ok (.dup, 1) := by decide +kernel
theorem dX10_init_76 : decode cX10_init 76 = .ok (.aload_n 0, 1) := by decide +kernel
theorem dX10_init_77 : decode cX10_init 77 = .ok (.getfield 19, 3) := by decide +kernel
theorem dX10_init_80 : decode cX10_init 80 = .ok (.aload_n 0, 1) := by decide +kernel
theorem dX10_init_81 : decode cX10_init 81 = .ok (.getfield 26, 3) := by decide +kernel
theorem dX10_init_84 : decode cX10_init 84 = .ok (.invokespecial 50, 3) := by decide +kernel
theorem dX10_init_87 : decode cX10_init 87 = .ok (.putfield 51, 3) := by decide +kernel
theorem dX10_init_90 : decode cX10_init 90 = .ok (.aload_n 0, 1) := by decide +kernel
theorem dX10_init_91 : decode cX10_init 91 = .ok (.new 55, 3) := by decide +kernel
theorem dX10_init_94 : decode cX10_init 94 = .ok (.dup, 1) := by decide +kernel
theorem dX10_init_95 : decode cX10_init 95 = .ok (.aload_n 0, 1) := by decide +kernel
theorem dX10_init_96 : decode cX10_init 96 = .ok (.getfield 19, 3) := by decide +kernel
theorem dX10_init_99 : decode cX10_init 99 = .ok (.aload_n 0, 1) := by decide +kernel
theorem dX10_init_100 : decode cX10_init 100 = .ok (.getfield 26, 3) := by decide +kernel
theorem dX10_init_103 : decode cX10_init 103 = .ok (.invokespecial 57, 3) := by decide +kernel
theorem dX10_init_106 : decode cX10_init 106 = .ok (.putfield 58, 3) := by decide +kernel
theorem dX10_init_109 : decode cX10_init 109 = .ok (.aload_n 0, 1) := by decide +kernel
theorem dX10_init_110 : decode cX10_init 110 = .ok (.new 62, 3) := by decide +kernel
theorem dX10_init_113 : decode cX10_init 113 = .ok (.dup, 1) := by decide +kernel
theorem dX10_init_114 : decode cX10_init 114 = .ok (.aload_n 0, 1) := by decide +kernel
theorem dX10_init_115 : decode cX10_init 115 = .ok (.getfield 19, 3) := by decide +kernel
theorem dX10_init_118 : decode cX10_init 118 = .ok (.aload_n 0, 1) := by decide +kernel
theorem dX10_init_119 : decode cX10_init 119 = .ok (.getfield 26, 3) := by decide +kernel
theorem dX10_init_122 : decode cX10_init 122 = .ok (.invokespecial 64, 3) := by decide +kernel
theorem dX10_init_125 : decode cX10_init 125 = .ok (.putfield 65, 3) := by decide +kernel
theorem dX10_init_128 : decode cX10_init 128 = .ok (.aload_n 0, 1) := by decide +kernel
theorem dX10_init_129 : decode cX10_init 129 = .ok (.iconst 2, 1) := by decide +kernel
theorem dX10_init_130 : decode cX10_init 130 = .ok (.anewarray 23, 3) := by decide +kernel
theorem dX10_init_133 : decode cX10_init 133 = .ok (.putfield 69, 3) := by decide +kernel
theorem dX10_init_136 : decode cX10_init 136 = .ok (.aload_n 0, 1) := by decide +kernel
theorem dX10_init_137 : decode cX10_init 137 = .ok (.iconst 2, 1) := by decide +kernel
theorem dX10_init_138 : decode cX10_init 138 = .ok (.newarray .boolean, 2) := by decide +kernel
theorem dX10_init_140 : decode cX10_init 140 = .ok (.putfield 73, 3) := by decide +kernel
theorem dX10_init_143 : decode cX10_init 143 = .ok (.iconst 0, 1) := by decide +kernel
theorem dX10_init_144 : decode cX10_init 144 = .ok (.istore_n 1, 1) := by decide +kernel
theorem dX10_init_145 : decode cX10_init 145 = .ok (.iload_n 1, 1) := by decide +kernel
theorem dX10_init_146 : decode cX10_init 146 = .ok (.iconst 2, 1) := by decide +kernel
theorem dX10_init_147 : decode cX10_init 147 = .ok (.if_icmp .ge 22, 3) := by decide +kernel
theorem dX10_init_150 : decode cX10_init 150 = .ok (.aload_n 0, 1) := by decide +kernel
theorem dX10_init_151 : decode cX10_init 151 = .ok (.getfield 69, 3) := by decide +kernel
theorem dX10_init_154 : decode cX10_init 154 = .ok (.iload_n 1, 1) := by decide +kernel
theorem dX10_init_155 : decode cX10_init 155 = .ok (.new 23, 3) := by decide +kernel
theorem dX10_init_158 : decode cX10_init 158 = .ok (.dup, 1) := by decide +kernel
theorem dX10_init_159 : decode cX10_init 159 = .ok (.invokespecial 25, 3) := by decide +kernel
theorem dX10_init_162 : decode cX10_init 162 = .ok (.aastore, 1) := by decide +kernel
theorem dX10_init_163 : decode cX10_init 163 = .ok (.iinc 1 1, 3) := by decide +kernel
theorem dX10_init_166 : decode cX10_init 166 = .ok (.goto (-21), 3) := by decide +kernel
theorem dX10_init_169 : decode cX10_init 169 = .ok (.aload_n 0, 1) := by decide +kernel
theorem dX10_init_170 : decode cX10_init 170 = .ok (.iconst 4, 1) := by decide +kernel
theorem dX10_init_171 : decode cX10_init 171 = .ok (.anewarray 77, 3) := by decide +kernel
theorem dX10_init_174 : decode cX10_init 174 = .ok (.putfield 79, 3) := by decide +kernel
theorem dX10_init_177 : decode cX10_init 177 = .ok (.iconst 0, 1) := by decide +kernel
theorem dX10_init_178 : decode cX10_init 178 = .ok (.istore_n 1, 1) := by decide +kernel
theorem dX10_init_179 : decode cX10_init 179 = .ok (.iload_n 1, 1) := by decide +kernel
theorem dX10_init_180 : decode cX10_init 180 = .ok (.iconst 4, 1) := by decide +kernel
theorem dX10_init_181 : decode cX10_init 181 = .ok (.if_icmp .ge 22, 3) := by decide +kernel
theorem dX10_init_184 : decode cX10_init 184 = .ok (.aload_n 0, 1) := by decide +kernel
theorem dX10_init_185 : decode cX10_init 185 = .ok (.getfield 79, 3) := by decide +kernel
theorem dX10_init_188 : decode cX10_init 188 = .ok (.iload_n 1, 1) := by decide +kernel
theorem dX10_init_189 : decode cX10_init 189 = .ok (.new 77, 3) := by decide +kernel
theorem dX10_init_192 : decode cX10_init 192 = .ok (.dup, 1) := by decide +kernel
theorem dX10_init_193 : decode cX10_init 193 = .ok (.invokespecial 83, 3) := by decide +kernel
theorem dX10_init_196 : decode cX10_init 196 = .ok (.aastore, 1) := by decide +kernel
theorem dX10_init_197 : decode cX10_init 197 = .ok (.iinc 1 1, 3) := by decide +kernel
theorem dX10_init_200 : decode cX10_init 200 = .ok (.goto (-21), 3) := by decide +kernel
theorem dX10_init_203 : decode cX10_init 203 = .ok (.return_, 1) := by decide +kernel
theorem dX10_feed_0 : decode cX10_feed 0 = .ok (.aload_n 0, 1) := by decide +kernel
theorem dX10_feed_1 : decode cX10_feed 1 = .ok (.getfield 10, 3) := by decide +kernel
theorem dX10_feed_4 : decode cX10_feed 4 = .ok (.getfield 84, 3) := by decide +kernel
theorem dX10_feed_7 : decode cX10_feed 7 = .ok (.bipush 8, 2) := by decide +kernel
theorem dX10_feed_9 : decode cX10_feed 9 = .ok (.iadd, 1) := by decide +kernel
theorem dX10_feed_10 : decode cX10_feed 10 = .ok (.sipush 400, 3) := by decide +kernel
theorem dX10_feed_13 : decode cX10_feed 13 = .ok (.if_icmp .le 6, 3) := by decide +kernel
theorem dX10_feed_16 : decode cX10_feed 16 = .ok (.bipush (-3), 2) := by decide +kernel
theorem dX10_feed_18 : decode cX10_feed 18 = .ok (.ireturn, 1) := by decide +kernel
theorem dX10_feed_19 : decode cX10_feed 19 = .ok (.aload_n 0, 1) := by decide +kernel
theorem dX10_feed_20 : decode cX10_feed 20 = .ok (.getfield 10, 3) := by decide +kernel
theorem dX10_feed_23 : decode cX10_feed 23 = .ok (.lload_n 1, 1) := by decide +kernel
theorem dX10_feed_24 : decode cX10_feed 24 = .ok (.invokevirtual 88, 3) := by decide +kernel
theorem dX10_feed_27 : decode cX10_feed 27 = .ok (.aload_n 0, 1) := by decide +kernel
theorem dX10_feed_28 : decode cX10_feed 28 = .ok (.getfield 10, 3) := by decide +kernel
theorem dX10_feed_31 : decode cX10_feed 31 = .ok (.getfield 84, 3) := by decide +kernel
theorem dX10_feed_34 : decode cX10_feed 34 = .ok (.ireturn, 1) := by decide +kernel
theorem dX10_end_0 : decode cX10_end 0 = .ok (.iload_n 1, 1) := by decide +kernel
theorem dX10_end_1 : decode cX10_end 1 = .ok (.ifCond .lt 14, 3) := by decide +kernel
theorem dX10_end_4 : decode cX10_end 4 = .ok (.iload_n 1, 1) := by decide +kernel
theorem dX10_end_5 : decode cX10_end 5 = .ok (.aload_n 0, 1) := by decide +kernel
theorem dX10_end_6 : decode cX10_end 6 = .ok (.getfield 10, 3) := by decide +kernel
theorem dX10_end_9 : decode cX10_end 9 = .ok (.getfield 84, 3) := by decide +kernel
theorem dX10_end_12 : decode cX10_end 12 = .ok (.if_icmp .le 5, 3) := by decide +kernel
theorem dX10_end_15 : decode cX10_end 15 = .ok (.iconst (-1), 1) := by decide +kernel
theorem dX10_end_16 : decode cX10_end 16 = .ok (.ireturn, 1) := by decide +kernel
theorem dX10_end_17 : decode cX10_end 17 = .ok (.aload_n 0, 1) := by decide +kernel
theorem dX10_end_18 : decode cX10_end 18 = .ok (.getfield 10, 3) := by decide +kernel
theorem dX10_end_21 : decode cX10_end 21 = .ok (.getfield 84, 3) := by decide +kernel
theorem dX10_end_24 : decode cX10_end 24 = .ok (.istore_n 2, 1) := by decide +kernel
theorem dX10_end_25 : decode cX10_end 25 = .ok (.aload_n 0, 1) := by decide +kernel
theorem dX10_end_26 : decode cX10_end 26 = .ok (.getfield 10, 3) := by decide +kernel
theorem dX10_end_29 : decode cX10_end 29 = .ok (.iload_n 1, 1) := by decide +kernel
theorem dX10_end_30 : decode cX10_end 30 = .ok (.putfield 84, 3) := by decide +kernel
theorem dX10_end_33 : decode cX10_end 33 = .ok (.iload_n 2, 1) := by decide +kernel
theorem dX10_end_34 : decode cX10_end 34 = .ok (.ireturn, 1) := by decide +kernel
theorem dX10_text_0 : decode cX10_text 0 = .ok (.aload_n 0, 1) := by decide +kernel
theorem dX10_text_1 : decode cX10_text 1 = .ok (.getfield 35, 3) := by decide +kernel
theorem dX10_text_4 : decode cX10_text 4 = .ok (.invokevirtual 92, 3) := by decide +kernel
theorem dX10_text_7 : decode cX10_text 7 = .ok (.aload_n 0, 1) := by decide +kernel
theorem dX10_text_8 : decode cX10_text 8 = .ok (.getfield 10, 3) := by decide +kernel
theorem dX10_text_11 : decode cX10_text 11 = .ok (.iconst 0, 1) := by decide +kernel
theorem dX10_text_12 : decode cX10_text 12 = .ok (.putfield 84, 3) := by decide +kernel
theorem dX10_text_15 : decode cX10_text 15 = .ok (.aload_n 0, 1) := by decide +kernel
theorem dX10_text_16 : decode cX10_text 16 = .ok (.aload_n 0, 1) := by decide +kernel
theorem dX10_text_17 : decode cX10_text 17 = .ok (.getfield 35, 3) := by decide +kernel
theorem dX10_text_20 : decode cX10_text 20 = .ok (.getfield 95, 3) := by decide +kernel
theorem dX10_text_23 : decode cX10_text 23 = .ok (.putfield 98, 3) := by decide +kernel
theorem dX10_text_26 : decode cX10_text 26 = .ok (.aload_n 0, 1) := by decide +kernel
theorem dX10_text_27 : decode cX10_text 27 = .ok (.getfield 35, 3) := by decide +kernel
theorem dX10_text_30 : decode cX10_text 30 = .ok (.getfield 95, 3) := by decide +kernel
theorem dX10_text_33 : decode cX10_text 33 = .ok (.ifCond .eq 14, 3) := by decide +kernel
theorem dX10_text_36 : decode cX10_text 36 = .ok (.bipush (-10), 2) := by decide +kernel
theorem dX10_text_38 : decode cX10_text 38 = .ok (.aload_n 0, 1) := by decide +kernel
theorem dX10_text_39 : decode cX10_text 39 = .ok (.getfield 35, 3) := by decide +kernel
theorem dX10_text_42 : decode cX10_text 42 = .ok (.getfield 101, 3) := by decide +kernel
theorem dX10_text_45 : decode cX10_text 45 = .ok (.isub, 1) := by decide +kernel
theorem dX10_text_46 : decode cX10_text 46 = .ok (.ireturn, 1) := by decide +kernel
theorem dX10_text_47 : decode cX10_text 47 = .ok (.aload_n 0, 1) := by decide +kernel
theorem dX10_text_48 : decode cX10_text 48 = .ok (.getfield 19, 3) := by decide +kernel
theorem dX10_text_51 : decode cX10_text 51 = .ok (.aload_n 0, 1) := by decide +kernel
theorem dX10_text_52 : decode cX10_text 52 = .ok (.getfield 35, 3) := by decide +kernel
theorem dX10_text_55 : decode cX10_text 55 = .ok (.getfield 104, 3) := by decide +kernel
theorem dX10_text_58 : decode cX10_text 58 = .ok (.invokevirtual 105, 3) := by decide +kernel
theorem dX10_text_61 : decode cX10_text 61 = .ok (.aload_n 0, 1) := by decide +kernel
theorem dX10_text_62 : decode cX10_text 62 = .ok (.getfield 26, 3) := by decide +kernel
theorem dX10_text_65 : decode cX10_text 65 = .ok (.aload_n 0, 1) := by decide +kernel
theorem dX10_text_66 : decode cX10_text 66 = .ok (.getfield 35, 3) := by decide +kernel
theorem dX10_text_69 : decode cX10_text 69 = .ok (.getfield 109, 3) := by decide +kernel
theorem dX10_text_72 : decode cX10_text 72 = .ok (.invokevirtual 110, 3) := by decide +kernel
theorem dX10_text_75 : decode cX10_text 75 = .ok (.iconst 0, 1) := by decide +kernel
theorem dX10_text_76 : decode cX10_text 76 = .ok (.istore_n 1, 1) := by decide +kernel
theorem dX10_text_77 : decode cX10_text 77 = .ok (.iload_n 1, 1) := by decide +kernel
theorem dX10_text_78 : decode cX10_text 78 = .ok (.iconst 2, 1) := by decide +kernel
theorem dX10_text_79 : decode cX10_text 79 = .ok (.if_icmp .ge 16, 3) := by decide +kernel
theorem dX10_text_82 : decode cX10_text 82 = .ok (.aload_n 0, 1) := by decide +kernel
theorem dX10_text_83 : decode cX10_text 83 = .ok (.getfield 73, 3) := by decide +kernel
theorem dX10_text_86 : decode cX10_text 86 = .ok (.iload_n 1, 1) := by decide +kernel
theorem dX10_text_87 : decode cX10_text 87 = .ok (.iconst 0, 1) := by decide +kernel
theorem dX10_text_88 : decode cX10_text 88 = .ok (.bastore, 1) := by decide +kernel
theorem dX10_text_89 : decode cX10_text 89 = .ok (.iinc 1 1, 3) := by decide +kernel
theorem dX10_text_92 : decode cX10_text 92 = .ok (.goto (-15), 3) := by decide +kernel
theorem dX10_text_95 : decode cX10_text 95 = .ok (.aload_n 0, 1) := by decide +kernel
theorem dX10_text_96 : decode cX10_text 96 = .ok (.getfield 35, 3) := by decide +kernel
theorem dX10_text_99 : decode cX10_text 99 = .ok (.getfield 113, 3) := by decide +kernel
theorem dX10_text_102 : decode cX10_text 102 = .ok (.ireturn, 1) := by decide +kernel
theorem dX10_fault_0 : decode cX10_fault 0 = .ok (.aload_n 0, 1) := by decide +kernel
theorem dX10_fault_1 : decode cX10_fault 1 = .ok (.getfield 98, 3) := by decide +kernel
theorem dX10_fault_4 : decode cX10_fault 4 = .ok (.ireturn, 1) := by decide +kernel
theorem dX10_rule_0 : decode cX10_rule 0 = .ok (.iload_n 1, 1) := by decide +kernel
theorem dX10_rule_1 : decode cX10_rule 1 = .ok (.tableswitch 66 0 3 #[31, 39, 47, 55], 31) := by decide +kernel
theorem dX10_rule_32 : decode cX10_rule 32 = .ok (.aload_n 0, 1) := by decide +kernel
theorem dX10_rule_33 : decode cX10_rule 33 = .ok (.getfield 19, 3) := by decide +kernel
theorem dX10_rule_36 : decode cX10_rule 36 = .ok (.getfield 116, 3) := by decide +kernel
theorem dX10_rule_39 : decode cX10_rule 39 = .ok (.ireturn, 1) := by decide +kernel
theorem dX10_rule_40 : decode cX10_rule 40 = .ok (.aload_n 0, 1) := by decide +kernel
theorem dX10_rule_41 : decode cX10_rule 41 = .ok (.getfield 19, 3) := by decide +kernel
theorem dX10_rule_44 : decode cX10_rule 44 = .ok (.getfield 119, 3) := by decide +kernel
theorem dX10_rule_47 : decode cX10_rule 47 = .ok (.ireturn, 1) := by decide +kernel
theorem dX10_rule_48 : decode cX10_rule 48 = .ok (.aload_n 0, 1) := by decide +kernel
theorem dX10_rule_49 : decode cX10_rule 49 = .ok (.getfield 19, 3) := by decide +kernel
theorem dX10_rule_52 : decode cX10_rule 52 = .ok (.getfield 122, 3) := by decide +kernel
theorem dX10_rule_55 : decode cX10_rule 55 = .ok (.ireturn, 1) := by decide +kernel
theorem dX10_rule_56 : decode cX10_rule 56 = .ok (.aload_n 0, 1) := by decide +kernel
theorem dX10_rule_57 : decode cX10_rule 57 = .ok (.getfield 26, 3) := by decide +kernel
theorem dX10_rule_60 : decode cX10_rule 60 = .ok (.getfield 125, 3) := by decide +kernel
theorem dX10_rule_63 : decode cX10_rule 63 = .ok (.getfield 129, 3) := by decide +kernel
theorem dX10_rule_66 : decode cX10_rule 66 = .ok (.ireturn, 1) := by decide +kernel
theorem dX10_rule_67 : decode cX10_rule 67 = .ok (.iload_n 1, 1) := by decide +kernel
theorem dX10_rule_68 : decode cX10_rule 68 = .ok (.bipush 10, 2) := by decide +kernel
theorem dX10_rule_70 : decode cX10_rule 70 = .ok (.if_icmp .lt 24, 3) := by decide +kernel
theorem dX10_rule_73 : decode cX10_rule 73 = .ok (.iload_n 1, 1) := by decide +kernel
theorem dX10_rule_74 : decode cX10_rule 74 = .ok (.bipush 14, 2) := by decide +kernel
theorem dX10_rule_76 : decode cX10_rule 76 = .ok (.if_icmp .ge 18, 3) := by decide +kernel
theorem dX10_rule_79 : decode cX10_rule 79 = .ok (.aload_n 0, 1) := by decide +kernel
theorem dX10_rule_80 : decode cX10_rule 80 = .ok (.getfield 19, 3) := by decide +kernel
theorem dX10_rule_83 : decode cX10_rule 83 = .ok (.getfield 132, 3) := by decide +kernel
theorem dX10_rule_86 : decode cX10_rule 86 = .ok (.iload_n 1, 1) := by decide +kernel
theorem dX10_rule_87 : decode cX10_rule 87 = .ok (.bipush 10, 2) := by decide +kernel
theorem dX10_rule_89 : decode cX10_rule 89 = .ok (.isub, 1) := by decide +kernel
theorem dX10_rule_90 : decode cX10_rule 90 = .ok (.iaload, 1) := by decide +kernel
theorem dX10_rule_91 : decode cX10_rule 91 = .ok (.goto 4, 3) := by decide +kernel
theorem dX10_rule_94 : decode cX10_rule 94 = .ok (.iconst (-1), 1) := by decide +kernel
theorem dX10_rule_95 : decode cX10_rule 95 = .ok (.ireturn, 1) := by decide +kernel
theorem dX10_kind_0 : decode cX10_kind 0 = .ok (.iload_n 1, 1) := by decide +kernel
theorem dX10_kind_1 : decode cX10_kind 1 = .ok (.invokestatic 136, 3) := by decide +kernel
theorem dX10_kind_4 : decode cX10_kind 4 = .ok (.ifCond .ne 5, 3) := by decide +kernel
theorem dX10_kind_7 : decode cX10_kind 7 = .ok (.iconst (-1), 1) := by decide +kernel
theorem dX10_kind_8 : decode cX10_kind 8 = .ok (.ireturn, 1) := by decide +kernel
theorem dX10_kind_9 : decode cX10_kind 9 = .ok (.iload_n 2, 1) := by decide +kernel
theorem dX10_kind_10 : decode cX10_kind 10 = .ok (.lookupswitch 142 #[(0, 74), (1, 83), (10, 95), (11, 95), (20, 108), (21, 108), (30, 121), (31, 121)], 74) := by decide +kernel
theorem dX10_kind_84 : decode cX10_kind 84 = .ok (.aload_n 0, 1) := by decide +kernel
theorem dX10_kind_85 : decode cX10_kind 85 = .ok (.getfield 19, 3) := by decide +kernel
theorem dX10_kind_88 : decode cX10_kind 88 = .ok (.iload_n 1, 1) := by decide +kernel
theorem dX10_kind_89 : decode cX10_kind 89 = .ok (.invokevirtual 140, 3) := by decide +kernel
theorem dX10_kind_92 : decode cX10_kind 92 = .ok (.ireturn, 1) := by decide +kernel
theorem dX10_kind_93 : decode cX10_kind 93 = .ok (.aload_n 0, 1) := by decide +kernel
theorem dX10_kind_94 : decode cX10_kind 94 = .ok (.getfield 19, 3) := by decide +kernel
theorem dX10_kind_97 : decode cX10_kind 97 = .ok (.getfield 144, 3) := by decide +kernel
theorem dX10_kind_100 : decode cX10_kind 100 = .ok (.iload_n 1, 1) := by decide +kernel
theorem dX10_kind_101 : decode cX10_kind 101 = .ok (.ishr, 1) := by decide +kernel
theorem dX10_kind_102 : decode cX10_kind 102 = .ok (.iconst 1, 1) := by decide +kernel
theorem dX10_kind_103 : decode cX10_kind 103 = .ok (.iand, 1) := by decide +kernel
theorem dX10_kind_104 : decode cX10_kind 104 = .ok (.ireturn, 1) := by decide +kernel
theorem dX10_kind_105 : decode cX10_kind 105 = .ok (.aload_n 0, 1) := by decide +kernel
theorem dX10_kind_106 : decode cX10_kind 106 = .ok (.getfield 19, 3) := by decide +kernel
theorem dX10_kind_109 : decode cX10_kind 109 = .ok (.iload_n 2, 1) := by decide +kernel
theorem dX10_kind_110 : decode cX10_kind 110 = .ok (.bipush 10, 2) := by decide +kernel
theorem dX10_kind_112 : decode cX10_kind 112 = .ok (.isub, 1) := by decide +kernel
theorem dX10_kind_113 : decode cX10_kind 113 = .ok (.iload_n 1, 1) := by decide +kernel
theorem dX10_kind_114 : decode cX10_kind 114 = .ok (.invokevirtual 147, 3) := by decide +kernel
theorem dX10_kind_117 : decode cX10_kind 117 = .ok (.ireturn, 1) := by decide +kernel
theorem dX10_kind_118 : decode cX10_kind 118 = .ok (.aload_n 0, 1) := by decide +kernel
theorem dX10_kind_119 : decode cX10_kind 119 = .ok (.getfield 19, 3) := by decide +kernel
theorem dX10_kind_122 : decode cX10_kind 122 = .ok (.iload_n 2, 1) := by decide +kernel
theorem dX10_kind_123 : decode cX10_kind 123 = .ok (.bipush 20, 2) := by decide +kernel
theorem dX10_kind_125 : decode cX10_kind 125 = .ok (.isub, 1) := by decide +kernel
theorem dX10_kind_126 : decode cX10_kind 126 = .ok (.iload_n 1, 1) := by decide +kernel
theorem dX10_kind_127 : decode cX10_kind 127 = .ok (.invokevirtual 151, 3) := by decide +kernel
theorem dX10_kind_130 : decode cX10_kind 130 = .ok (.ireturn, 1) := by decide +kernel
theorem dX10_kind_131 : decode cX10_kind 131 = .ok (.aload_n 0, 1) := by decide +kernel
theorem dX10_kind_132 : decode cX10_kind 132 = .ok (.getfield 19, 3) := by decide +kernel
theorem dX10_kind_135 : decode cX10_kind 135 = .ok (.iload_n 2, 1) := by decide +kernel
theorem dX10_kind_136 : decode cX10_kind 136 = .ok (.bipush 30, 2) := by decide +kernel
theorem dX10_kind_138 : decode cX10_kind 138 = .ok (.isub, 1) := by decide +kernel
theorem dX10_kind_139 : decode cX10_kind 139 = .ok (.iload_n 1, 1) := by decide +kernel
theorem dX10_kind_140 : decode cX10_kind 140 = .ok (.invokevirtual 154, 3) := by decide +kernel
theorem dX10_kind_143 : decode cX10_kind 143 = .ok (.ifCond .eq 7, 3) := by decide +kernel
theorem dX10_kind_146 : decode cX10_kind 146 = .ok (.iconst 1, 1) := by decide +kernel
theorem dX10_kind_147 : decode cX10_kind 147 = .ok (.goto 4, 3) := by decide +kernel
theorem dX10_kind_150 : decode cX10_kind 150 = .ok (.iconst 0, 1) := by decide +kernel
theorem dX10_kind_151 : decode cX10_kind 151 = .ok (.ireturn, 1) := by decide +kernel
theorem dX10_kind_152 : decode cX10_kind 152 = .ok (.iconst (-1), 1) := by decide +kernel
theorem dX10_kind_153 : decode cX10_kind 153 = .ok (.ireturn, 1) := by decide +kernel
theorem dX10_colour_0 : decode cX10_colour 0 = .ok (.iload_n 1, 1) := by decide +kernel
theorem dX10_colour_1 : decode cX10_colour 1 = .ok (.ifCond .lt 20, 3) := by decide +kernel
theorem dX10_colour_4 : decode cX10_colour 4 = .ok (.iload_n 1, 1) := by decide +kernel
theorem dX10_colour_5 : decode cX10_colour 5 = .ok (.iconst 4, 1) := by decide +kernel
theorem dX10_colour_6 : decode cX10_colour 6 = .ok (.if_icmp .ge 15, 3) := by decide +kernel
theorem dX10_colour_9 : decode cX10_colour 9 = .ok (.aload_n 0, 1) := by decide +kernel
theorem dX10_colour_10 : decode cX10_colour 10 = .ok (.getfield 19, 3) := by decide +kernel
theorem dX10_colour_13 : decode cX10_colour 13 = .ok (.getfield 158, 3) := by decide +kernel
theorem dX10_colour_16 : decode cX10_colour 16 = .ok (.iload_n 1, 1) := by decide +kernel
theorem dX10_colour_17 : decode cX10_colour 17 = .ok (.iaload, 1) := by decide +kernel
theorem dX10_colour_18 : decode cX10_colour 18 = .ok (.goto 4, 3) := by decide +kernel
theorem dX10_colour_21 : decode cX10_colour 21 = .ok (.iconst (-1), 1) := by decide +kernel
theorem dX10_colour_22 : decode cX10_colour 22 = .ok (.ireturn, 1) := by decide +kernel
theorem dX10_mirror_0 : decode cX10_mirror 0 = .ok (.iload_n 1, 1) := by decide +kernel
theorem dX10_mirror_1 : decode cX10_mirror 1 = .ok (.invokestatic 161, 3) := by decide +kernel
theorem dX10_mirror_4 : decode cX10_mirror 4 = .ok (.ifCond .eq 14, 3) := by decide +kernel
theorem dX10_mirror_7 : decode cX10_mirror 7 = .ok (.aload_n 0, 1) := by decide +kernel
theorem dX10_mirror_8 : decode cX10_mirror 8 = .ok (.getfield 19, 3) := by decide +kernel
theorem dX10_mirror_11 : decode cX10_mirror 11 = .ok (.iload_n 1, 1) := by decide +kernel
theorem dX10_mirror_12 : decode cX10_mirror 12 = .ok (.invokevirtual 164, 3) := by decide +kernel
theorem dX10_mirror_15 : decode cX10_mirror 15 = .ok (.goto 4, 3) := by decide +kernel
theorem dX10_mirror_18 : decode cX10_mirror 18 = .ok (.iconst (-1), 1) := by decide +kernel
theorem dX10_mirror_19 : decode cX10_mirror 19 = .ok (.ireturn, 1) := by decide +kernel
theorem dX10_work_0 : decode cX10_work 0 = .ok (.aload_n 0, 1) := by decide +kernel
theorem dX10_work_1 : decode cX10_work 1 = .ok (.getfield 26, 3) := by decide +kernel
theorem dX10_work_4 : decode cX10_work 4 = .ok (.getfield 125, 3) := by decide +kernel
theorem dX10_work_7 : decode cX10_work 7 = .ok (.astore_n 3, 1) := by decide +kernel
theorem dX10_work_8 : decode cX10_work 8 = .ok (.iload_n 1, 1) := by decide +kernel
theorem dX10_work_9 : decode cX10_work 9 = .ok (.ifCond .lt 23, 3) := by decide +kernel
theorem dX10_work_12 : decode cX10_work 12 = .ok (.iload_n 1, 1) := by decide +kernel
theorem dX10_work_13 : decode cX10_work 13 = .ok (.aload_n 3, 1) := by decide +kernel
theorem dX10_work_14 : decode cX10_work 14 = .ok (.getfield 129, 3) := by decide +kernel
theorem dX10_work_17 : decode cX10_work 17 = .ok (.if_icmp .ge 15, 3) := by decide +kernel
theorem dX10_work_20 : decode cX10_work 20 = .ok (.iload_n 2, 1) := by decide +kernel
theorem dX10_work_21 : decode cX10_work 21 = .ok (.ifCond .lt 11, 3) := by decide +kernel
theorem dX10_work_24 : decode cX10_work 24 = .ok (.iload_n 2, 1) := by decide +kernel
theorem dX10_work_25 : decode cX10_work 25 = .ok (.aload_n 3, 1) := by decide +kernel
theorem dX10_work_26 : decode cX10_work 26 = .ok (.getfield 167, 3) := by decide +kernel
theorem dX10_work_29 : decode cX10_work 29 = .ok (.if_icmp .lt 5, 3) := by decide +kernel
theorem dX10_work_32 : decode cX10_work 32 = .ok (.iconst (-1), 1) := by decide +kernel
theorem dX10_work_33 : decode cX10_work 33 = .ok (.ireturn, 1) := by decide +kernel
theorem dX10_work_34 : decode cX10_work 34 = .ok (.aload_n 3, 1) := by decide +kernel
theorem dX10_work_35 : decode cX10_work 35 = .ok (.iload_n 1, 1) := by decide +kernel
theorem dX10_work_36 : decode cX10_work 36 = .ok (.iload_n 2, 1) := by decide +kernel
theorem dX10_work_37 : decode cX10_work 37 = .ok (.invokevirtual 170, 3) := by decide +kernel
theorem dX10_work_40 : decode cX10_work 40 = .ok (.ireturn, 1) := by decide +kernel
theorem dX10_thing_0 : decode cX10_thing 0 = .ok (.aload_n 0, 1) := by decide +kernel
theorem dX10_thing_1 : decode cX10_thing 1 = .ok (.getfield 19, 3) := by decide +kernel
theorem dX10_thing_4 : decode cX10_thing 4 = .ok (.iload_n 1, 1) := by decide +kernel
theorem dX10_thing_5 : decode cX10_thing 5 = .ok (.iload_n 2, 1) := by decide +kernel
theorem dX10_thing_6 : decode cX10_thing 6 = .ok (.invokevirtual 173, 3) := by decide +kernel
theorem dX10_thing_9 : decode cX10_thing 9 = .ok (.ifCond .eq 15, 3) := by decide +kernel
theorem dX10_thing_12 : decode cX10_thing 12 = .ok (.aload_n 0, 1) := by decide +kernel
theorem dX10_thing_13 : decode cX10_thing 13 = .ok (.getfield 26, 3) := by decide +kernel
theorem dX10_thing_16 : decode cX10_thing 16 = .ok (.iload_n 1, 1) := by decide +kernel
theorem dX10_thing_17 : decode cX10_thing 17 = .ok (.iload_n 2, 1) := by decide +kernel
theorem dX10_thing_18 : decode cX10_thing 18 = .ok (.invokevirtual 176, 3) := by decide +kernel
theorem dX10_thing_21 : decode cX10_thing 21 = .ok (.goto 4, 3) := by decide +kernel
theorem dX10_thing_24 : decode cX10_thing 24 = .ok (.iconst (-1), 1) := by decide +kernel
theorem dX10_thing_25 : decode cX10_thing 25 = .ok (.ireturn, 1) := by decide +kernel
theorem dX10_put_0 : decode cX10_put 0 = .ok (.aload_n 0, 1) := by decide +kernel
theorem dX10_put_1 : decode cX10_put 1 = .ok (.getfield 19, 3) := by decide +kernel
theorem dX10_put_4 : decode cX10_put 4 = .ok (.iload_n 1, 1) := by decide +kernel
theorem dX10_put_5 : decode cX10_put 5 = .ok (.iload_n 2, 1) := by decide +kernel
theorem dX10_put_6 : decode cX10_put 6 = .ok (.invokevirtual 173, 3) := by decide +kernel
theorem dX10_put_9 : decode cX10_put 9 = .ok (.ifCond .eq 10, 3) := by decide +kernel
theorem dX10_put_12 : decode cX10_put 12 = .ok (.iload_n 3, 1) := by decide +kernel
theorem dX10_put_13 : decode cX10_put 13 = .ok (.invokestatic 161, 3) := by decide +kernel
theorem dX10_put_16 : decode cX10_put 16 = .ok (.ifCond .ne 5, 3) := by decide +kernel
theorem dX10_put_19 : decode cX10_put 19 = .ok (.iconst (-1), 1) := by decide +kernel
theorem dX10_put_20 : decode cX10_put 20 = .ok (.ireturn, 1) := by decide +kernel
theorem dX10_put_21 : decode cX10_put 21 = .ok (.aload_n 0, 1) := by decide +kernel
theorem dX10_put_22 : decode cX10_put 22 = .ok (.getfield 26, 3) := by decide +kernel
theorem dX10_put_25 : decode cX10_put 25 = .ok (.iload_n 1, 1) := by decide +kernel
theorem dX10_put_26 : decode cX10_put 26 = .ok (.iload_n 2, 1) := by decide +kernel
theorem dX10_put_27 : decode cX10_put 27 = .ok (.invokevirtual 176, 3) := by decide +kernel
theorem dX10_put_30 : decode cX10_put 30 = .ok (.istore 4, 2) := by decide +kernel
theorem dX10_put_32 : decode cX10_put 32 = .ok (.aload_n 0, 1) := by decide +kernel
theorem dX10_put_33 : decode cX10_put 33 = .ok (.getfield 26, 3) := by decide +kernel
theorem dX10_put_36 : decode cX10_put 36 = .ok (.iload_n 1, 1) := by decide +kernel
theorem dX10_put_37 : decode cX10_put 37 = .ok (.iload_n 2, 1) := by decide +kernel
theorem dX10_put_38 : decode cX10_put 38 = .ok (.iload_n 3, 1) := by decide +kernel
theorem dX10_put_39 : decode cX10_put 39 = .ok (.invokevirtual 179, 3) := by decide +kernel
theorem dX10_put_42 : decode cX10_put 42 = .ok (.iload 4, 2) := by decide +kernel
theorem dX10_put_44 : decode cX10_put 44 = .ok (.ireturn, 1) := by decide +kernel
theorem dX10_match_0 : decode cX10_match 0 = .ok (.aload_n 0, 1) := by decide +kernel
theorem dX10_match_1 : decode cX10_match 1 = .ok (.getfield 19, 3) := by decide +kernel
theorem dX10_match_4 : decode cX10_match 4 = .ok (.iload_n 1, 1) := by decide +kernel
theorem dX10_match_5 : decode cX10_match 5 = .ok (.iload_n 2, 1) := by decide +kernel
theorem dX10_match_6 : decode cX10_match 6 = .ok (.invokevirtual 173, 3) := by decide +kernel
theorem dX10_match_9 : decode cX10_match 9 = .ok (.ifCond .eq 15, 3) := by decide +kernel
theorem dX10_match_12 : decode cX10_match 12 = .ok (.aload_n 0, 1) := by decide +kernel
theorem dX10_match_13 : decode cX10_match 13 = .ok (.getfield 19, 3) := by decide +kernel
theorem dX10_match_16 : decode cX10_match 16 = .ok (.iload_n 1, 1) := by decide +kernel
theorem dX10_match_17 : decode cX10_match 17 = .ok (.iload_n 2, 1) := by decide +kernel
theorem dX10_match_18 : decode cX10_match 18 = .ok (.invokevirtual 183, 3) := by decide +kernel
theorem dX10_match_21 : decode cX10_match 21 = .ok (.goto 4, 3) := by decide +kernel
theorem dX10_match_24 : decode cX10_match 24 = .ok (.iconst (-1), 1) := by decide +kernel
theorem dX10_match_25 : decode cX10_match 25 = .ok (.ireturn, 1) := by decide +kernel
theorem dX10_odd_0 : decode cX10_odd 0 = .ok (.aload_n 0, 1) := by decide +kernel
theorem dX10_odd_1 : decode cX10_odd 1 = .ok (.getfield 19, 3) := by decide +kernel
theorem dX10_odd_4 : decode cX10_odd 4 = .ok (.aload_n 0, 1) := by decide +kernel
theorem dX10_odd_5 : decode cX10_odd 5 = .ok (.getfield 26, 3) := by decide +kernel
theorem dX10_odd_8 : decode cX10_odd 8 = .ok (.getfield 186, 3) := by decide +kernel
theorem dX10_odd_11 : decode cX10_odd 11 = .ok (.invokevirtual 189, 3) := by decide +kernel
theorem dX10_odd_14 : decode cX10_odd 14 = .ok (.ireturn, 1) := by decide +kernel
theorem dX10_third_0 : decode cX10_third 0 = .ok (.aload_n 0, 1) := by decide +kernel
theorem dX10_third_1 : decode cX10_third 1 = .ok (.getfield 19, 3) := by decide +kernel
theorem dX10_third_4 : decode cX10_third 4 = .ok (.iconst 0, 1) := by decide +kernel
theorem dX10_third_5 : decode cX10_third 5 = .ok (.iload_n 1, 1) := by decide +kernel
theorem dX10_third_6 : decode cX10_third 6 = .ok (.invokevirtual 173, 3) := by decide +kernel
theorem dX10_third_9 : decode cX10_third 9 = .ok (.ifCond .ne 5, 3) := by decide +kernel
theorem dX10_third_12 : decode cX10_third 12 = .ok (.iconst (-1), 1) := by decide +kernel
theorem dX10_third_13 : decode cX10_third 13 = .ok (.ireturn, 1) := by decide +kernel
theorem dX10_third_14 : decode cX10_third 14 = .ok (.aload_n 0, 1) := by decide +kernel
theorem dX10_third_15 : decode cX10_third 15 = .ok (.getfield 19, 3) := by decide +kernel
theorem dX10_third_18 : decode cX10_third 18 = .ok (.iconst 0, 1) := by decide +kernel
theorem dX10_third_19 : decode cX10_third 19 = .ok (.iload_n 1, 1) := by decide +kernel
theorem dX10_third_20 : decode cX10_third 20 = .ok (.invokevirtual 183, 3) := by decide +kernel
theorem dX10_third_23 : decode cX10_third 23 = .ok (.istore_n 2, 1) := by decide +kernel
theorem dX10_third_24 : decode cX10_third 24 = .ok (.iload_n 2, 1) := by decide +kernel
theorem dX10_third_25 : decode cX10_third 25 = .ok (.bipush (-4), 2) := by decide +kernel
theorem dX10_third_27 : decode cX10_third 27 = .ok (.if_icmp .ne 8, 3) := by decide +kernel
theorem dX10_third_30 : decode cX10_third 30 = .ok (.bipush (-4), 2) := by decide +kernel
theorem dX10_third_32 : decode cX10_third 32 = .ok (.goto 19, 3) := by decide +kernel
theorem dX10_third_35 : decode cX10_third 35 = .ok (.aload_n 0, 1) := by decide +kernel
theorem dX10_third_36 : decode cX10_third 36 = .ok (.getfield 19, 3) := by decide +kernel
theorem dX10_third_39 : decode cX10_third 39 = .ok (.aload_n 0, 1) := by decide +kernel
theorem dX10_third_40 : decode cX10_third 40 = .ok (.getfield 26, 3) := by decide +kernel
theorem dX10_third_43 : decode cX10_third 43 = .ok (.iconst 1, 1) := by decide +kernel
theorem dX10_third_44 : decode cX10_third 44 = .ok (.iload_n 2, 1) := by decide +kernel
theorem dX10_third_45 : decode cX10_third 45 = .ok (.invokevirtual 176, 3) := by decide +kernel
theorem dX10_third_48 : decode cX10_third 48 = .ok (.invokevirtual 164, 3) := by decide +kernel
theorem dX10_third_51 : decode cX10_third 51 = .ok (.ireturn, 1) := by decide +kernel
theorem dX10_after_0 : decode cX10_after 0 = .ok (.iload_n 1, 1) := by decide +kernel
theorem dX10_after_1 : decode cX10_after 1 = .ok (.ifCond .lt 21, 3) := by decide +kernel
theorem dX10_after_4 : decode cX10_after 4 = .ok (.iload_n 1, 1) := by decide +kernel
theorem dX10_after_5 : decode cX10_after 5 = .ok (.bipush 24, 2) := by decide +kernel
theorem dX10_after_7 : decode cX10_after 7 = .ok (.if_icmp .gt 15, 3) := by decide +kernel
theorem dX10_after_10 : decode cX10_after 10 = .ok (.aload_n 0, 1) := by decide +kernel
theorem dX10_after_11 : decode cX10_after 11 = .ok (.getfield 19, 3) := by decide +kernel
theorem dX10_after_14 : decode cX10_after 14 = .ok (.iload_n 2, 1) := by decide +kernel
theorem dX10_after_15 : decode cX10_after 15 = .ok (.iload_n 3, 1) := by decide +kernel
theorem dX10_after_16 : decode cX10_after 16 = .ok (.invokevirtual 173, 3) := by decide +kernel
theorem dX10_after_19 : decode cX10_after 19 = .ok (.ifCond .ne 5, 3) := by decide +kernel
theorem dX10_after_22 : decode cX10_after 22 = .ok (.iconst (-1), 1) := by decide +kernel
theorem dX10_after_23 : decode cX10_after 23 = .ok (.ireturn, 1) := by decide +kernel
theorem dX10_after_24 : decode cX10_after 24 = .ok (.aload_n 0, 1) := by decide +kernel
theorem dX10_after_25 : decode cX10_after 25 = .ok (.getfield 44, 3) := by decide +kernel
theorem dX10_after_28 : decode cX10_after 28 = .ok (.iload_n 1, 1) := by decide +kernel
theorem dX10_after_29 : decode cX10_after 29 = .ok (.invokevirtual 193, 3) := by decide +kernel
theorem dX10_after_32 : decode cX10_after 32 = .ok (.aload_n 0, 1) := by decide +kernel
theorem dX10_after_33 : decode cX10_after 33 = .ok (.getfield 44, 3) := by decide +kernel
theorem dX10_after_36 : decode cX10_after 36 = .ok (.getfield 197, 3) := by decide +kernel
theorem dX10_after_39 : decode cX10_after 39 = .ok (.iload_n 2, 1) := by decide +kernel
theorem dX10_after_40 : decode cX10_after 40 = .ok (.iload_n 3, 1) := by decide +kernel
theorem dX10_after_41 : decode cX10_after 41 = .ok (.invokestatic 198, 3) := by decide +kernel
theorem dX10_after_44 : decode cX10_after 44 = .ok (.iaload, 1) := by decide +kernel
theorem dX10_after_45 : decode cX10_after 45 = .ok (.ireturn, 1) := by decide +kernel
theorem dX10_paid_0 : decode cX10_paid 0 = .ok (.iload_n 1, 1) := by decide +kernel
theorem dX10_paid_1 : decode cX10_paid 1 = .ok (.ifCond .lt 16, 3) := by decide +kernel
theorem dX10_paid_4 : decode cX10_paid 4 = .ok (.iload_n 1, 1) := by decide +kernel
theorem dX10_paid_5 : decode cX10_paid 5 = .ok (.bipush 24, 2) := by decide +kernel
theorem dX10_paid_7 : decode cX10_paid 7 = .ok (.if_icmp .gt 10, 3) := by decide +kernel
theorem dX10_paid_10 : decode cX10_paid 10 = .ok (.iload_n 2, 1) := by decide +kernel
theorem dX10_paid_11 : decode cX10_paid 11 = .ok (.invokestatic 201, 3) := by decide +kernel
theorem dX10_paid_14 : decode cX10_paid 14 = .ok (.ifCond .ne 5, 3) := by decide +kernel
theorem dX10_paid_17 : decode cX10_paid 17 = .ok (.iconst (-1), 1) := by decide +kernel
theorem dX10_paid_18 : decode cX10_paid 18 = .ok (.ireturn, 1) := by decide +kernel
theorem dX10_paid_19 : decode cX10_paid 19 = .ok (.aload_n 0, 1) := by decide +kernel
theorem dX10_paid_20 : decode cX10_paid 20 = .ok (.getfield 44, 3) := by decide +kernel
theorem dX10_paid_23 : decode cX10_paid 23 = .ok (.iload_n 1, 1) := by decide +kernel
theorem dX10_paid_24 : decode cX10_paid 24 = .ok (.invokevirtual 193, 3) := by decide +kernel
theorem dX10_paid_27 : decode cX10_paid 27 = .ok (.aload_n 0, 1) := by decide +kernel
theorem dX10_paid_28 : decode cX10_paid 28 = .ok (.getfield 44, 3) := by decide +kernel
theorem dX10_paid_31 : decode cX10_paid 31 = .ok (.getfield 204, 3) := by decide +kernel
theorem dX10_paid_34 : decode cX10_paid 34 = .ok (.iload_n 2, 1) := by decide +kernel
theorem dX10_paid_35 : decode cX10_paid 35 = .ok (.iaload, 1) := by decide +kernel
theorem dX10_paid_36 : decode cX10_paid 36 = .ok (.ireturn, 1) := by decide +kernel
theorem dX10_owes_0 : decode cX10_owes 0 = .ok (.iload_n 1, 1) := by decide +kernel
theorem dX10_owes_1 : decode cX10_owes 1 = .ok (.ifCond .lt 16, 3) := by decide +kernel
theorem dX10_owes_4 : decode cX10_owes 4 = .ok (.iload_n 1, 1) := by decide +kernel
theorem dX10_owes_5 : decode cX10_owes 5 = .ok (.bipush 24, 2) := by decide +kernel
theorem dX10_owes_7 : decode cX10_owes 7 = .ok (.if_icmp .gt 10, 3) := by decide +kernel
theorem dX10_owes_10 : decode cX10_owes 10 = .ok (.iload_n 2, 1) := by decide +kernel
theorem dX10_owes_11 : decode cX10_owes 11 = .ok (.invokestatic 201, 3) := by decide +kernel
theorem dX10_owes_14 : decode cX10_owes 14 = .ok (.ifCond .ne 5, 3) := by decide +kernel
theorem dX10_owes_17 : decode cX10_owes 17 = .ok (.iconst (-1), 1) := by decide +kernel
theorem dX10_owes_18 : decode cX10_owes 18 = .ok (.ireturn, 1) := by decide +kernel
theorem dX10_owes_19 : decode cX10_owes 19 = .ok (.aload_n 0, 1) := by decide +kernel
theorem dX10_owes_20 : decode cX10_owes 20 = .ok (.getfield 44, 3) := by decide +kernel
theorem dX10_owes_23 : decode cX10_owes 23 = .ok (.iload_n 1, 1) := by decide +kernel
theorem dX10_owes_24 : decode cX10_owes 24 = .ok (.invokevirtual 193, 3) := by decide +kernel
theorem dX10_owes_27 : decode cX10_owes 27 = .ok (.aload_n 0, 1) := by decide +kernel
theorem dX10_owes_28 : decode cX10_owes 28 = .ok (.getfield 44, 3) := by decide +kernel
theorem dX10_owes_31 : decode cX10_owes 31 = .ok (.iload_n 2, 1) := by decide +kernel
theorem dX10_owes_32 : decode cX10_owes 32 = .ok (.invokevirtual 207, 3) := by decide +kernel
theorem dX10_owes_35 : decode cX10_owes 35 = .ok (.ireturn, 1) := by decide +kernel
theorem dX10_fate_0 : decode cX10_fate 0 = .ok (.iload_n 1, 1) := by decide +kernel
theorem dX10_fate_1 : decode cX10_fate 1 = .ok (.ifCond .lt 23, 3) := by decide +kernel
theorem dX10_fate_4 : decode cX10_fate 4 = .ok (.iload_n 1, 1) := by decide +kernel
theorem dX10_fate_5 : decode cX10_fate 5 = .ok (.aload_n 0, 1) := by decide +kernel
theorem dX10_fate_6 : decode cX10_fate 6 = .ok (.getfield 26, 3) := by decide +kernel
theorem dX10_fate_9 : decode cX10_fate 9 = .ok (.getfield 125, 3) := by decide +kernel
theorem dX10_fate_12 : decode cX10_fate 12 = .ok (.getfield 129, 3) := by decide +kernel
theorem dX10_fate_15 : decode cX10_fate 15 = .ok (.if_icmp .ge 9, 3) := by decide +kernel
theorem dX10_fate_18 : decode cX10_fate 18 = .ok (.iload_n 1, 1) := by decide +kernel
theorem dX10_fate_19 : decode cX10_fate 19 = .ok (.bipush 12, 2) := by decide +kernel
theorem dX10_fate_21 : decode cX10_fate 21 = .ok (.if_icmp .lt 5, 3) := by decide +kernel
theorem dX10_fate_24 : decode cX10_fate 24 = .ok (.iconst (-1), 1) := by decide +kernel
theorem dX10_fate_25 : decode cX10_fate 25 = .ok (.ireturn, 1) := by decide +kernel
theorem dX10_fate_26 : decode cX10_fate 26 = .ok (.aload_n 0, 1) := by decide +kernel
theorem dX10_fate_27 : decode cX10_fate 27 = .ok (.getfield 44, 3) := by decide +kernel
theorem dX10_fate_30 : decode cX10_fate 30 = .ok (.bipush 24, 2) := by decide +kernel
theorem dX10_fate_32 : decode cX10_fate 32 = .ok (.invokevirtual 193, 3) := by decide +kernel
theorem dX10_fate_35 : decode cX10_fate 35 = .ok (.aload_n 0, 1) := by decide +kernel
theorem dX10_fate_36 : decode cX10_fate 36 = .ok (.getfield 44, 3) := by decide +kernel
theorem dX10_fate_39 : decode cX10_fate 39 = .ok (.getfield 210, 3) := by decide +kernel
theorem dX10_fate_42 : decode cX10_fate 42 = .ok (.iload_n 1, 1) := by decide +kernel
theorem dX10_fate_43 : decode cX10_fate 43 = .ok (.iaload, 1) := by decide +kernel
theorem dX10_fate_44 : decode cX10_fate 44 = .ok (.ireturn, 1) := by decide +kernel
theorem dX10_uneven_0 : decode cX10_uneven 0 = .ok (.iload_n 1, 1) := by decide +kernel
theorem dX10_uneven_1 : decode cX10_uneven 1 = .ok (.ifCond .lt 8, 3) := by decide +kernel
theorem dX10_uneven_4 : decode cX10_uneven 4 = .ok (.iload_n 1, 1) := by decide +kernel
theorem dX10_uneven_5 : decode cX10_uneven 5 = .ok (.iconst 1, 1) := by decide +kernel
theorem dX10_uneven_6 : decode cX10_uneven 6 = .ok (.if_icmp .le 5, 3) := by decide +kernel
theorem dX10_uneven_9 : decode cX10_uneven 9 = .ok (.iconst (-1), 1) := by decide +kernel
theorem dX10_uneven_10 : decode cX10_uneven 10 = .ok (.ireturn, 1) := by decide +kernel
theorem dX10_uneven_11 : decode cX10_uneven 11 = .ok (.aload_n 0, 1) := by decide +kernel
theorem dX10_uneven_12 : decode cX10_uneven 12 = .ok (.getfield 44, 3) := by decide +kernel
theorem dX10_uneven_15 : decode cX10_uneven 15 = .ok (.invokevirtual 213, 3) := by decide +kernel
theorem dX10_uneven_18 : decode cX10_uneven 18 = .ok (.iconst 0, 1) := by decide +kernel
theorem dX10_uneven_19 : decode cX10_uneven 19 = .ok (.istore_n 2, 1) := by decide +kernel
theorem dX10_uneven_20 : decode cX10_uneven 20 = .ok (.iload_n 2, 1) := by decide +kernel
theorem dX10_uneven_21 : decode cX10_uneven 21 = .ok (.bipush 24, 2) := by decide +kernel
theorem dX10_uneven_23 : decode cX10_uneven 23 = .ok (.if_icmp .ge 49, 3) := by decide +kernel
theorem dX10_uneven_26 : decode cX10_uneven 26 = .ok (.aload_n 0, 1) := by decide +kernel
theorem dX10_uneven_27 : decode cX10_uneven 27 = .ok (.getfield 44, 3) := by decide +kernel
theorem dX10_uneven_30 : decode cX10_uneven 30 = .ok (.iload_n 2, 1) := by decide +kernel
theorem dX10_uneven_31 : decode cX10_uneven 31 = .ok (.invokevirtual 216, 3) := by decide +kernel
theorem dX10_uneven_34 : decode cX10_uneven 34 = .ok (.aload_n 0, 1) := by decide +kernel
theorem dX10_uneven_35 : decode cX10_uneven 35 = .ok (.getfield 19, 3) := by decide +kernel
theorem dX10_uneven_38 : decode cX10_uneven 38 = .ok (.aload_n 0, 1) := by decide +kernel
theorem dX10_uneven_39 : decode cX10_uneven 39 = .ok (.getfield 44, 3) := by decide +kernel
theorem dX10_uneven_42 : decode cX10_uneven 42 = .ok (.getfield 197, 3) := by decide +kernel
theorem dX10_uneven_45 : decode cX10_uneven 45 = .ok (.invokevirtual 189, 3) := by decide +kernel
theorem dX10_uneven_48 : decode cX10_uneven 48 = .ok (.istore_n 3, 1) := by decide +kernel
theorem dX10_uneven_49 : decode cX10_uneven 49 = .ok (.iload_n 3, 1) := by decide +kernel
theorem dX10_uneven_50 : decode cX10_uneven 50 = .ok (.ifCond .eq 16, 3) := by decide +kernel
theorem dX10_uneven_53 : decode cX10_uneven 53 = .ok (.iload_n 1, 1) := by decide +kernel
theorem dX10_uneven_54 : decode cX10_uneven 54 = .ok (.ifCond .ne 7, 3) := by decide +kernel
theorem dX10_uneven_57 : decode cX10_uneven 57 = .ok (.iload_n 2, 1) := by decide +kernel
theorem dX10_uneven_58 : decode cX10_uneven 58 = .ok (.goto 7, 3) := by decide +kernel
theorem dX10_uneven_61 : decode cX10_uneven 61 = .ok (.iload_n 3, 1) := by decide +kernel
theorem dX10_uneven_62 : decode cX10_uneven 62 = .ok (.invokestatic 219, 3) := by decide +kernel
theorem dX10_uneven_65 : decode cX10_uneven 65 = .ok (.ireturn, 1) := by decide +kernel
theorem dX10_uneven_66 : decode cX10_uneven 66 = .ok (.iinc 2 1, 3) := by decide +kernel
theorem dX10_uneven_69 : decode cX10_uneven 69 = .ok (.goto (-49), 3) := by decide +kernel
theorem dX10_uneven_72 : decode cX10_uneven 72 = .ok (.bipush (-4), 2) := by decide +kernel
theorem dX10_uneven_74 : decode cX10_uneven 74 = .ok (.ireturn, 1) := by decide +kernel
theorem dX10_firstLot_0 : decode cX10_firstLot 0 = .ok (.iconst 0, 1) := by decide +kernel
theorem dX10_firstLot_1 : decode cX10_firstLot 1 = .ok (.istore_n 1, 1) := by decide +kernel
theorem dX10_firstLot_2 : decode cX10_firstLot 2 = .ok (.iload_n 1, 1) := by decide +kernel
theorem dX10_firstLot_3 : decode cX10_firstLot 3 = .ok (.bipush 8, 2) := by decide +kernel
theorem dX10_firstLot_5 : decode cX10_firstLot 5 = .ok (.if_icmp .ge 19, 3) := by decide +kernel
theorem dX10_firstLot_8 : decode cX10_firstLot 8 = .ok (.iload_n 0, 1) := by decide +kernel
theorem dX10_firstLot_9 : decode cX10_firstLot 9 = .ok (.iload_n 1, 1) := by decide +kernel
theorem dX10_firstLot_10 : decode cX10_firstLot 10 = .ok (.ishr, 1) := by decide +kernel
theorem dX10_firstLot_11 : decode cX10_firstLot 11 = .ok (.iconst 1, 1) := by decide +kernel
theorem dX10_firstLot_12 : decode cX10_firstLot 12 = .ok (.iand, 1) := by decide +kernel
theorem dX10_firstLot_13 : decode cX10_firstLot 13 = .ok (.ifCond .eq 5, 3) := by decide +kernel
theorem dX10_firstLot_16 : decode cX10_firstLot 16 = .ok (.iload_n 1, 1) := by decide +kernel
theorem dX10_firstLot_17 : decode cX10_firstLot 17 = .ok (.ireturn, 1) := by decide +kernel
theorem dX10_firstLot_18 : decode cX10_firstLot 18 = .ok (.iinc 1 1, 3) := by decide +kernel
theorem dX10_firstLot_21 : decode cX10_firstLot 21 = .ok (.goto (-19), 3) := by decide +kernel
theorem dX10_firstLot_24 : decode cX10_firstLot 24 = .ok (.bipush (-4), 2) := by decide +kernel
theorem dX10_firstLot_26 : decode cX10_firstLot 26 = .ok (.ireturn, 1) := by decide +kernel
theorem dX10_go_0 : decode cX10_go 0 = .ok (.aload_n 0, 1) := by decide +kernel
theorem dX10_go_1 : decode cX10_go 1 = .ok (.getfield 44, 3) := by decide +kernel
theorem dX10_go_4 : decode cX10_go 4 = .ok (.bipush 24, 2) := by decide +kernel
theorem dX10_go_6 : decode cX10_go 6 = .ok (.invokevirtual 193, 3) := by decide +kernel
theorem dX10_go_9 : decode cX10_go 9 = .ok (.aload_n 0, 1) := by decide +kernel
theorem dX10_go_10 : decode cX10_go 10 = .ok (.getfield 44, 3) := by decide +kernel
theorem dX10_go_13 : decode cX10_go 13 = .ok (.invokevirtual 222, 3) := by decide +kernel
theorem dX10_go_16 : decode cX10_go 16 = .ok (.istore_n 1, 1) := by decide +kernel
theorem dX10_go_17 : decode cX10_go 17 = .ok (.aload_n 0, 1) := by decide +kernel
theorem dX10_go_18 : decode cX10_go 18 = .ok (.getfield 44, 3) := by decide +kernel
theorem dX10_go_21 : decode cX10_go 21 = .ok (.getfield 197, 3) := by decide +kernel
theorem dX10_go_24 : decode cX10_go 24 = .ok (.iconst 0, 1) := by decide +kernel
theorem dX10_go_25 : decode cX10_go 25 = .ok (.aload_n 0, 1) := by decide +kernel
theorem dX10_go_26 : decode cX10_go 26 = .ok (.getfield 26, 3) := by decide +kernel
theorem dX10_go_29 : decode cX10_go 29 = .ok (.getfield 186, 3) := by decide +kernel
theorem dX10_go_32 : decode cX10_go 32 = .ok (.iconst 0, 1) := by decide +kernel
theorem dX10_go_33 : decode cX10_go 33 = .ok (.bipush 16, 2) := by decide +kernel
theorem dX10_go_35 : decode cX10_go 35 = .ok (.invokestatic 226, 3) := by decide +kernel
theorem dX10_go_38 : decode cX10_go 38 = .ok (.aload_n 0, 1) := by decide +kernel
theorem dX10_go_39 : decode cX10_go 39 = .ok (.getfield 26, 3) := by decide +kernel
theorem dX10_go_42 : decode cX10_go 42 = .ok (.getfield 125, 3) := by decide +kernel
theorem dX10_go_45 : decode cX10_go 45 = .ok (.iconst 0, 1) := by decide +kernel
theorem dX10_go_46 : decode cX10_go 46 = .ok (.putfield 129, 3) := by decide +kernel
theorem dX10_go_49 : decode cX10_go 49 = .ok (.iload_n 1, 1) := by decide +kernel
theorem dX10_go_50 : decode cX10_go 50 = .ok (.ireturn, 1) := by decide +kernel
theorem dX10_plot_0 : decode cX10_plot 0 = .ok (.aload_n 0, 1) := by decide +kernel
theorem dX10_plot_1 : decode cX10_plot 1 = .ok (.getfield 26, 3) := by decide +kernel
theorem dX10_plot_4 : decode cX10_plot 4 = .ok (.getfield 125, 3) := by decide +kernel
theorem dX10_plot_7 : decode cX10_plot 7 = .ok (.astore 5, 2) := by decide +kernel
theorem dX10_plot_9 : decode cX10_plot 9 = .ok (.iload_n 1, 1) := by decide +kernel
theorem dX10_plot_10 : decode cX10_plot 10 = .ok (.aload_n 0, 1) := by decide +kernel
theorem dX10_plot_11 : decode cX10_plot 11 = .ok (.getfield 26, 3) := by decide +kernel
theorem dX10_plot_14 : decode cX10_plot 14 = .ok (.invokevirtual 232, 3) := by decide +kernel
theorem dX10_plot_17 : decode cX10_plot 17 = .ok (.if_icmp .lt 29, 3) := by decide +kernel
theorem dX10_plot_20 : decode cX10_plot 20 = .ok (.iload_n 1, 1) := by decide +kernel
theorem dX10_plot_21 : decode cX10_plot 21 = .ok (.bipush 24, 2) := by decide +kernel
theorem dX10_plot_23 : decode cX10_plot 23 = .ok (.if_icmp .ge 23, 3) := by decide +kernel
theorem dX10_plot_26 : decode cX10_plot 26 = .ok (.aload_n 0, 1) := by decide +kernel
theorem dX10_plot_27 : decode cX10_plot 27 = .ok (.getfield 19, 3) := by decide +kernel
theorem dX10_plot_30 : decode cX10_plot 30 = .ok (.iload_n 2, 1) := by decide +kernel
theorem dX10_plot_31 : decode cX10_plot 31 = .ok (.iload_n 3, 1) := by decide +kernel
theorem dX10_plot_32 : decode cX10_plot 32 = .ok (.invokevirtual 173, 3) := by decide +kernel
theorem dX10_plot_35 : decode cX10_plot 35 = .ok (.ifCond .eq 11, 3) := by decide +kernel
theorem dX10_plot_38 : decode cX10_plot 38 = .ok (.iload 4, 2) := by decide +kernel
theorem dX10_plot_40 : decode cX10_plot 40 = .ok (.invokestatic 161, 3) := by decide +kernel
theorem dX10_plot_43 : decode cX10_plot 43 = .ok (.ifCond .ne 5, 3) := by decide +kernel
theorem dX10_plot_46 : decode cX10_plot 46 = .ok (.iconst (-1), 1) := by decide +kernel
theorem dX10_plot_47 : decode cX10_plot 47 = .ok (.ireturn, 1) := by decide +kernel
theorem dX10_plot_48 : decode cX10_plot 48 = .ok (.aload 5, 2) := by decide +kernel
theorem dX10_plot_50 : decode cX10_plot 50 = .ok (.invokevirtual 235, 3) := by decide +kernel
theorem dX10_plot_53 : decode cX10_plot 53 = .ok (.ifCond .eq 6, 3) := by decide +kernel
theorem dX10_plot_56 : decode cX10_plot 56 = .ok (.bipush (-3), 2) := by decide +kernel
theorem dX10_plot_58 : decode cX10_plot 58 = .ok (.ireturn, 1) := by decide +kernel
theorem dX10_plot_59 : decode cX10_plot 59 = .ok (.aload 5, 2) := by decide +kernel
theorem dX10_plot_61 : decode cX10_plot 61 = .ok (.iload_n 1, 1) := by decide +kernel
theorem dX10_plot_62 : decode cX10_plot 62 = .ok (.iload_n 2, 1) := by decide +kernel
theorem dX10_plot_63 : decode cX10_plot 63 = .ok (.iload_n 3, 1) := by decide +kernel
theorem dX10_plot_64 : decode cX10_plot 64 = .ok (.iload 4, 2) := by decide +kernel
theorem dX10_plot_66 : decode cX10_plot 66 = .ok (.invokevirtual 239, 3) := by decide +kernel
theorem dX10_plot_69 : decode cX10_plot 69 = .ok (.aload 5, 2) := by decide +kernel
theorem dX10_plot_71 : decode cX10_plot 71 = .ok (.getfield 129, 3) := by decide +kernel
theorem dX10_plot_74 : decode cX10_plot 74 = .ok (.ireturn, 1) := by decide +kernel
theorem dX10_gain_0 : decode cX10_gain 0 = .ok (.aload_n 0, 1) := by decide +kernel
theorem dX10_gain_1 : decode cX10_gain 1 = .ok (.getfield 19, 3) := by decide +kernel
theorem dX10_gain_4 : decode cX10_gain 4 = .ok (.iload_n 1, 1) := by decide +kernel
theorem dX10_gain_5 : decode cX10_gain 5 = .ok (.iload_n 2, 1) := by decide +kernel
theorem dX10_gain_6 : decode cX10_gain 6 = .ok (.invokevirtual 173, 3) := by decide +kernel
theorem dX10_gain_9 : decode cX10_gain 9 = .ok (.ifCond .eq 10, 3) := by decide +kernel
theorem dX10_gain_12 : decode cX10_gain 12 = .ok (.iload_n 3, 1) := by decide +kernel
theorem dX10_gain_13 : decode cX10_gain 13 = .ok (.invokestatic 243, 3) := by decide +kernel
theorem dX10_gain_16 : decode cX10_gain 16 = .ok (.ifCond .ne 5, 3) := by decide +kernel
theorem dX10_gain_19 : decode cX10_gain 19 = .ok (.iconst (-1), 1) := by decide +kernel
theorem dX10_gain_20 : decode cX10_gain 20 = .ok (.ireturn, 1) := by decide +kernel
theorem dX10_gain_21 : decode cX10_gain 21 = .ok (.aload_n 0, 1) := by decide +kernel
theorem dX10_gain_22 : decode cX10_gain 22 = .ok (.getfield 51, 3) := by decide +kernel
theorem dX10_gain_25 : decode cX10_gain 25 = .ok (.iload_n 1, 1) := by decide +kernel
theorem dX10_gain_26 : decode cX10_gain 26 = .ok (.iload_n 2, 1) := by decide +kernel
theorem dX10_gain_27 : decode cX10_gain 27 = .ok (.iload_n 3, 1) := by decide +kernel
theorem dX10_gain_28 : decode cX10_gain 28 = .ok (.invokevirtual 246, 3) := by decide +kernel
theorem dX10_gain_31 : decode cX10_gain 31 = .ok (.sipush 1000, 3) := by decide +kernel
theorem dX10_gain_34 : decode cX10_gain 34 = .ok (.iadd, 1) := by decide +kernel
theorem dX10_gain_35 : decode cX10_gain 35 = .ok (.ireturn, 1) := by decide +kernel
theorem dX10_begin_0 : decode cX10_begin 0 = .ok (.aload_n 0, 1) := by decide +kernel
theorem dX10_begin_1 : decode cX10_begin 1 = .ok (.getfield 19, 3) := by decide +kernel
theorem dX10_begin_4 : decode cX10_begin 4 = .ok (.iload_n 1, 1) := by decide +kernel
theorem dX10_begin_5 : decode cX10_begin 5 = .ok (.iload_n 2, 1) := by decide +kernel
theorem dX10_begin_6 : decode cX10_begin 6 = .ok (.invokevirtual 173, 3) := by decide +kernel
theorem dX10_begin_9 : decode cX10_begin 9 = .ok (.ifCond .eq 12, 3) := by decide +kernel
theorem dX10_begin_12 : decode cX10_begin 12 = .ok (.iload_n 3, 1) := by decide +kernel
theorem dX10_begin_13 : decode cX10_begin 13 = .ok (.ifCond .lt 8, 3) := by decide +kernel
theorem dX10_begin_16 : decode cX10_begin 16 = .ok (.iload_n 3, 1) := by decide +kernel
theorem dX10_begin_17 : decode cX10_begin 17 = .ok (.iconst 1, 1) := by decide +kernel
theorem dX10_begin_18 : decode cX10_begin 18 = .ok (.if_icmp .le 5, 3) := by decide +kernel
theorem dX10_begin_21 : decode cX10_begin 21 = .ok (.iconst (-1), 1) := by decide +kernel
theorem dX10_begin_22 : decode cX10_begin 22 = .ok (.ireturn, 1) := by decide +kernel
theorem dX10_begin_23 : decode cX10_begin 23 = .ok (.aload_n 0, 1) := by decide +kernel
theorem dX10_begin_24 : decode cX10_begin 24 = .ok (.getfield 51, 3) := by decide +kernel
theorem dX10_begin_27 : decode cX10_begin 27 = .ok (.iload_n 1, 1) := by decide +kernel
theorem dX10_begin_28 : decode cX10_begin 28 = .ok (.iload_n 2, 1) := by decide +kernel
theorem dX10_begin_29 : decode cX10_begin 29 = .ok (.invokevirtual 250, 3) := by decide +kernel
theorem dX10_begin_32 : decode cX10_begin 32 = .ok (.istore 4, 2) := by decide +kernel
theorem dX10_begin_34 : decode cX10_begin 34 = .ok (.iload 4, 2) := by decide +kernel
theorem dX10_begin_36 : decode cX10_begin 36 = .ok (.ifCond .ne 6, 3) := by decide +kernel
theorem dX10_begin_39 : decode cX10_begin 39 = .ok (.bipush (-4), 2) := by decide +kernel
theorem dX10_begin_41 : decode cX10_begin 41 = .ok (.ireturn, 1) := by decide +kernel
theorem dX10_begin_42 : decode cX10_begin 42 = .ok (.iload_n 3, 1) := by decide +kernel
theorem dX10_begin_43 : decode cX10_begin 43 = .ok (.ifCond .ne 8, 3) := by decide +kernel
theorem dX10_begin_46 : decode cX10_begin 46 = .ok (.iload 4, 2) := by decide +kernel
theorem dX10_begin_48 : decode cX10_begin 48 = .ok (.goto 14, 3) := by decide +kernel
theorem dX10_begin_51 : decode cX10_begin 51 = .ok (.aload_n 0, 1) := by decide +kernel
theorem dX10_begin_52 : decode cX10_begin 52 = .ok (.getfield 51, 3) := by decide +kernel
theorem dX10_begin_55 : decode cX10_begin 55 = .ok (.iload_n 1, 1) := by decide +kernel
theorem dX10_begin_56 : decode cX10_begin 56 = .ok (.iload_n 2, 1) := by decide +kernel
theorem dX10_begin_57 : decode cX10_begin 57 = .ok (.iload 4, 2) := by decide +kernel
theorem dX10_begin_59 : decode cX10_begin 59 = .ok (.invokevirtual 246, 3) := by decide +kernel
theorem dX10_begin_62 : decode cX10_begin 62 = .ok (.ireturn, 1) := by decide +kernel
theorem dX10_waits_0 : decode cX10_waits 0 = .ok (.aload_n 0, 1) := by decide +kernel
theorem dX10_waits_1 : decode cX10_waits 1 = .ok (.getfield 19, 3) := by decide +kernel
theorem dX10_waits_4 : decode cX10_waits 4 = .ok (.iload_n 1, 1) := by decide +kernel
theorem dX10_waits_5 : decode cX10_waits 5 = .ok (.iload_n 2, 1) := by decide +kernel
theorem dX10_waits_6 : decode cX10_waits 6 = .ok (.invokevirtual 173, 3) := by decide +kernel
theorem dX10_waits_9 : decode cX10_waits 9 = .ok (.ifCond .ne 5, 3) := by decide +kernel
theorem dX10_waits_12 : decode cX10_waits 12 = .ok (.iconst (-1), 1) := by decide +kernel
theorem dX10_waits_13 : decode cX10_waits 13 = .ok (.ireturn, 1) := by decide +kernel
theorem dX10_waits_14 : decode cX10_waits 14 = .ok (.aload_n 0, 1) := by decide +kernel
theorem dX10_waits_15 : decode cX10_waits 15 = .ok (.getfield 19, 3) := by decide +kernel
theorem dX10_waits_18 : decode cX10_waits 18 = .ok (.iload_n 1, 1) := by decide +kernel
theorem dX10_waits_19 : decode cX10_waits 19 = .ok (.iload_n 2, 1) := by decide +kernel
theorem dX10_waits_20 : decode cX10_waits 20 = .ok (.invokevirtual 183, 3) := by decide +kernel
theorem dX10_waits_23 : decode cX10_waits 23 = .ok (.istore_n 3, 1) := by decide +kernel
theorem dX10_waits_24 : decode cX10_waits 24 = .ok (.iload_n 3, 1) := by decide +kernel
theorem dX10_waits_25 : decode cX10_waits 25 = .ok (.bipush (-4), 2) := by decide +kernel
theorem dX10_waits_27 : decode cX10_waits 27 = .ok (.if_icmp .ne 6, 3) := by decide +kernel
theorem dX10_waits_30 : decode cX10_waits 30 = .ok (.bipush (-2), 2) := by decide +kernel
theorem dX10_waits_32 : decode cX10_waits 32 = .ok (.ireturn, 1) := by decide +kernel
theorem dX10_waits_33 : decode cX10_waits 33 = .ok (.aload_n 0, 1) := by decide +kernel
theorem dX10_waits_34 : decode cX10_waits 34 = .ok (.getfield 51, 3) := by decide +kernel
theorem dX10_waits_37 : decode cX10_waits 37 = .ok (.iconst 1, 1) := by decide +kernel
theorem dX10_waits_38 : decode cX10_waits 38 = .ok (.iload_n 1, 1) := by decide +kernel
theorem dX10_waits_39 : decode cX10_waits 39 = .ok (.isub, 1) := by decide +kernel
theorem dX10_waits_40 : decode cX10_waits 40 = .ok (.iload_n 3, 1) := by decide +kernel
theorem dX10_waits_41 : decode cX10_waits 41 = .ok (.invokevirtual 250, 3) := by decide +kernel
theorem dX10_waits_44 : decode cX10_waits 44 = .ok (.istore 4, 2) := by decide +kernel
theorem dX10_waits_46 : decode cX10_waits 46 = .ok (.iload 4, 2) := by decide +kernel
theorem dX10_waits_48 : decode cX10_waits 48 = .ok (.ifCond .ne 9, 3) := by decide +kernel
theorem dX10_waits_51 : decode cX10_waits 51 = .ok (.sipush 1000, 3) := by decide +kernel
theorem dX10_waits_54 : decode cX10_waits 54 = .ok (.goto 25, 3) := by decide +kernel
theorem dX10_waits_57 : decode cX10_waits 57 = .ok (.aload_n 0, 1) := by decide +kernel
