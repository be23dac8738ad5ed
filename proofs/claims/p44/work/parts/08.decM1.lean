theorem dX11_readCosts_87 : decode cX11_readCosts 87 = .ok (.invokevirtual 200, 3) := by decide +kernel
theorem dX11_readCosts_90 : decode cX11_readCosts 90 = .ok (.iconst 1, 1) := by decide +kernel
theorem dX11_readCosts_91 : decode cX11_readCosts 91 = .ok (.istore_n 3, 1) := by decide +kernel
theorem dX11_readCosts_92 : decode cX11_readCosts 92 = .ok (.iload_n 3, 1) := by decide +kernel
theorem dX11_readCosts_93 : decode cX11_readCosts 93 = .ok (.bipush 6, 2) := by decide +kernel
theorem dX11_readCosts_95 : decode cX11_readCosts 95 = .ok (.if_icmp .ge 51, 3) := by decide +kernel
theorem dX11_readCosts_98 : decode cX11_readCosts 98 = .ok (.aload_n 0, 1) := by decide +kernel
theorem dX11_readCosts_99 : decode cX11_readCosts 99 = .ok (.iconst 0, 1) := by decide +kernel
theorem dX11_readCosts_100 : decode cX11_readCosts 100 = .ok (.bipush 20, 2) := by decide +kernel
theorem dX11_readCosts_102 : decode cX11_readCosts 102 = .ok (.invokevirtual 203, 3) := by decide +kernel
theorem dX11_readCosts_105 : decode cX11_readCosts 105 = .ok (.istore 4, 2) := by decide +kernel
theorem dX11_readCosts_107 : decode cX11_readCosts 107 = .ok (.iload_n 1, 1) := by decide +kernel
theorem dX11_readCosts_108 : decode cX11_readCosts 108 = .ok (.ifCond .eq 19, 3) := by decide +kernel
theorem dX11_readCosts_111 : decode cX11_readCosts 111 = .ok (.aload_n 0, 1) := by decide +kernel
theorem dX11_readCosts_112 : decode cX11_readCosts 112 = .ok (.getfield 41, 3) := by decide +kernel
theorem dX11_readCosts_115 : decode cX11_readCosts 115 = .ok (.bipush 6, 2) := by decide +kernel
theorem dX11_readCosts_117 : decode cX11_readCosts 117 = .ok (.iload_n 2, 1) := by decide +kernel
theorem dX11_readCosts_118 : decode cX11_readCosts 118 = .ok (.imul, 1) := by decide +kernel
theorem dX11_readCosts_119 : decode cX11_readCosts 119 = .ok (.iload_n 3, 1) := by decide +kernel
theorem dX11_readCosts_120 : decode cX11_readCosts 120 = .ok (.iadd, 1) := by decide +kernel
theorem dX11_readCosts_121 : decode cX11_readCosts 121 = .ok (.iload 4, 2) := by decide +kernel
theorem dX11_readCosts_123 : decode cX11_readCosts 123 = .ok (.iastore, 1) := by decide +kernel
theorem dX11_readCosts_124 : decode cX11_readCosts 124 = .ok (.goto 16, 3) := by decide +kernel
theorem dX11_readCosts_127 : decode cX11_readCosts 127 = .ok (.aload_n 0, 1) := by decide +kernel
theorem dX11_readCosts_128 : decode cX11_readCosts 128 = .ok (.getfield 44, 3) := by decide +kernel
theorem dX11_readCosts_131 : decode cX11_readCosts 131 = .ok (.bipush 6, 2) := by decide +kernel
theorem dX11_readCosts_133 : decode cX11_readCosts 133 = .ok (.iload_n 2, 1) := by decide +kernel
theorem dX11_readCosts_134 : decode cX11_readCosts 134 = .ok (.imul, 1) := by decide +kernel
theorem dX11_readCosts_135 : decode cX11_readCosts 135 = .ok (.iload_n 3, 1) := by decide +kernel
theorem dX11_readCosts_136 : decode cX11_readCosts 136 = .ok (.iadd, 1) := by decide +kernel
theorem dX11_readCosts_137 : decode cX11_readCosts 137 = .ok (.iload 4, 2) := by decide +kernel
theorem dX11_readCosts_139 : decode cX11_readCosts 139 = .ok (.iastore, 1) := by decide +kernel
theorem dX11_readCosts_140 : decode cX11_readCosts 140 = .ok (.iinc 3 1, 3) := by decide +kernel
theorem dX11_readCosts_143 : decode cX11_readCosts 143 = .ok (.goto (-51), 3) := by decide +kernel
theorem dX11_readCosts_146 : decode cX11_readCosts 146 = .ok (.return_, 1) := by decide +kernel
theorem dX11_readThing_0 : decode cX11_readThing 0 = .ok (.aload_n 0, 1) := by decide +kernel
theorem dX11_readThing_1 : decode cX11_readThing 1 = .ok (.iconst 0, 1) := by decide +kernel
theorem dX11_readThing_2 : decode cX11_readThing 2 = .ok (.iconst 1, 1) := by decide +kernel
theorem dX11_readThing_3 : decode cX11_readThing 3 = .ok (.invokevirtual 203, 3) := by decide +kernel
theorem dX11_readThing_6 : decode cX11_readThing 6 = .ok (.istore_n 1, 1) := by decide +kernel
theorem dX11_readThing_7 : decode cX11_readThing 7 = .ok (.aload_n 0, 1) := by decide +kernel
theorem dX11_readThing_8 : decode cX11_readThing 8 = .ok (.iconst 0, 1) := by decide +kernel
theorem dX11_readThing_9 : decode cX11_readThing 9 = .ok (.bipush 7, 2) := by decide +kernel
theorem dX11_readThing_11 : decode cX11_readThing 11 = .ok (.invokevirtual 196, 3) := by decide +kernel
theorem dX11_readThing_14 : decode cX11_readThing 14 = .ok (.istore_n 2, 1) := by decide +kernel
theorem dX11_readThing_15 : decode cX11_readThing 15 = .ok (.aload_n 0, 1) := by decide +kernel
theorem dX11_readThing_16 : decode cX11_readThing 16 = .ok (.getfield 150, 3) := by decide +kernel
theorem dX11_readThing_19 : decode cX11_readThing 19 = .ok (.ifCond .ne 29, 3) := by decide +kernel
theorem dX11_readThing_22 : decode cX11_readThing 22 = .ok (.aload_n 0, 1) := by decide +kernel
theorem dX11_readThing_23 : decode cX11_readThing 23 = .ok (.aload_n 0, 1) := by decide +kernel
theorem dX11_readThing_24 : decode cX11_readThing 24 = .ok (.getfield 111, 3) := by decide +kernel
theorem dX11_readThing_27 : decode cX11_readThing 27 = .ok (.bipush 8, 2) := by decide +kernel
theorem dX11_readThing_29 : decode cX11_readThing 29 = .ok (.iload_n 1, 1) := by decide +kernel
theorem dX11_readThing_30 : decode cX11_readThing 30 = .ok (.imul, 1) := by decide +kernel
theorem dX11_readThing_31 : decode cX11_readThing 31 = .ok (.iload_n 2, 1) := by decide +kernel
theorem dX11_readThing_32 : decode cX11_readThing 32 = .ok (.iadd, 1) := by decide +kernel
theorem dX11_readThing_33 : decode cX11_readThing 33 = .ok (.ishr, 1) := by decide +kernel
theorem dX11_readThing_34 : decode cX11_readThing 34 = .ok (.iconst 1, 1) := by decide +kernel
theorem dX11_readThing_35 : decode cX11_readThing 35 = .ok (.iand, 1) := by decide +kernel
theorem dX11_readThing_36 : decode cX11_readThing 36 = .ok (.ifCond .ne 7, 3) := by decide +kernel
theorem dX11_readThing_39 : decode cX11_readThing 39 = .ok (.iconst 1, 1) := by decide +kernel
theorem dX11_readThing_40 : decode cX11_readThing 40 = .ok (.goto 4, 3) := by decide +kernel
theorem dX11_readThing_43 : decode cX11_readThing 43 = .ok (.iconst 0, 1) := by decide +kernel
theorem dX11_readThing_44 : decode cX11_readThing 44 = .ok (.iconst 4, 1) := by decide +kernel
theorem dX11_readThing_45 : decode cX11_readThing 45 = .ok (.invokevirtual 192, 3) := by decide +kernel
theorem dX11_readThing_48 : decode cX11_readThing 48 = .ok (.aload_n 0, 1) := by decide +kernel
theorem dX11_readThing_49 : decode cX11_readThing 49 = .ok (.dup, 1) := by decide +kernel
theorem dX11_readThing_50 : decode cX11_readThing 50 = .ok (.getfield 111, 3) := by decide +kernel
theorem dX11_readThing_53 : decode cX11_readThing 53 = .ok (.iconst 1, 1) := by decide +kernel
theorem dX11_readThing_54 : decode cX11_readThing 54 = .ok (.bipush 8, 2) := by decide +kernel
theorem dX11_readThing_56 : decode cX11_readThing 56 = .ok (.iload_n 1, 1) := by decide +kernel
theorem dX11_readThing_57 : decode cX11_readThing 57 = .ok (.imul, 1) := by decide +kernel
theorem dX11_readThing_58 : decode cX11_readThing 58 = .ok (.iload_n 2, 1) := by decide +kernel
theorem dX11_readThing_59 : decode cX11_readThing 59 = .ok (.iadd, 1) := by decide +kernel
theorem dX11_readThing_60 : decode cX11_readThing 60 = .ok (.ishl, 1) := by decide +kernel
theorem dX11_readThing_61 : decode cX11_readThing 61 = .ok (.ior, 1) := by decide +kernel
theorem dX11_readThing_62 : decode cX11_readThing 62 = .ok (.putfield 111, 3) := by decide +kernel
theorem dX11_readThing_65 : decode cX11_readThing 65 = .ok (.aload_n 0, 1) := by decide +kernel
theorem dX11_readThing_66 : decode cX11_readThing 66 = .ok (.invokevirtual 219, 3) := by decide +kernel
theorem dX11_readThing_69 : decode cX11_readThing 69 = .ok (.istore_n 2, 1) := by decide +kernel
theorem dX11_readThing_70 : decode cX11_readThing 70 = .ok (.aload_n 0, 1) := by decide +kernel
theorem dX11_readThing_71 : decode cX11_readThing 71 = .ok (.getfield 35, 3) := by decide +kernel
theorem dX11_readThing_74 : decode cX11_readThing 74 = .ok (.bipush 8, 2) := by decide +kernel
theorem dX11_readThing_76 : decode cX11_readThing 76 = .ok (.iload_n 1, 1) := by decide +kernel
theorem dX11_readThing_77 : decode cX11_readThing 77 = .ok (.imul, 1) := by decide +kernel
theorem dX11_readThing_78 : decode cX11_readThing 78 = .ok (.iload_n 2, 1) := by decide +kernel
theorem dX11_readThing_79 : decode cX11_readThing 79 = .ok (.iadd, 1) := by decide +kernel
theorem dX11_readThing_80 : decode cX11_readThing 80 = .ok (.aload_n 0, 1) := by decide +kernel
theorem dX11_readThing_81 : decode cX11_readThing 81 = .ok (.invokevirtual 222, 3) := by decide +kernel
theorem dX11_readThing_84 : decode cX11_readThing 84 = .ok (.iastore, 1) := by decide +kernel
theorem dX11_readThing_85 : decode cX11_readThing 85 = .ok (.return_, 1) := by decide +kernel
theorem dX11_readWork_0 : decode cX11_readWork 0 = .ok (.aload_n 0, 1) := by decide +kernel
theorem dX11_readWork_1 : decode cX11_readWork 1 = .ok (.getfield 35, 3) := by decide +kernel
theorem dX11_readWork_4 : decode cX11_readWork 4 = .ok (.bipush 16, 2) := by decide +kernel
theorem dX11_readWork_6 : decode cX11_readWork 6 = .ok (.iaload, 1) := by decide +kernel
theorem dX11_readWork_7 : decode cX11_readWork 7 = .ok (.istore_n 1, 1) := by decide +kernel
theorem dX11_readWork_8 : decode cX11_readWork 8 = .ok (.bipush 17, 2) := by decide +kernel
theorem dX11_readWork_10 : decode cX11_readWork 10 = .ok (.iconst 4, 1) := by decide +kernel
theorem dX11_readWork_11 : decode cX11_readWork 11 = .ok (.iload_n 1, 1) := by decide +kernel
theorem dX11_readWork_12 : decode cX11_readWork 12 = .ok (.imul, 1) := by decide +kernel
theorem dX11_readWork_13 : decode cX11_readWork 13 = .ok (.iadd, 1) := by decide +kernel
theorem dX11_readWork_14 : decode cX11_readWork 14 = .ok (.istore_n 2, 1) := by decide +kernel
theorem dX11_readWork_15 : decode cX11_readWork 15 = .ok (.aload_n 0, 1) := by decide +kernel
theorem dX11_readWork_16 : decode cX11_readWork 16 = .ok (.getfield 35, 3) := by decide +kernel
theorem dX11_readWork_19 : decode cX11_readWork 19 = .ok (.iload_n 2, 1) := by decide +kernel
theorem dX11_readWork_20 : decode cX11_readWork 20 = .ok (.aload_n 0, 1) := by decide +kernel
theorem dX11_readWork_21 : decode cX11_readWork 21 = .ok (.iload_n 1, 1) := by decide +kernel
theorem dX11_readWork_22 : decode cX11_readWork 22 = .ok (.ifCond .ne 7, 3) := by decide +kernel
theorem dX11_readWork_25 : decode cX11_readWork 25 = .ok (.iconst 0, 1) := by decide +kernel
theorem dX11_readWork_26 : decode cX11_readWork 26 = .ok (.goto 11, 3) := by decide +kernel
theorem dX11_readWork_29 : decode cX11_readWork 29 = .ok (.aload_n 0, 1) := by decide +kernel
theorem dX11_readWork_30 : decode cX11_readWork 30 = .ok (.getfield 35, 3) := by decide +kernel
theorem dX11_readWork_33 : decode cX11_readWork 33 = .ok (.iload_n 2, 1) := by decide +kernel
theorem dX11_readWork_34 : decode cX11_readWork 34 = .ok (.iconst 4, 1) := by decide +kernel
theorem dX11_readWork_35 : decode cX11_readWork 35 = .ok (.isub, 1) := by decide +kernel
theorem dX11_readWork_36 : decode cX11_readWork 36 = .ok (.iaload, 1) := by decide +kernel
theorem dX11_readWork_37 : decode cX11_readWork 37 = .ok (.bipush 23, 2) := by decide +kernel
theorem dX11_readWork_39 : decode cX11_readWork 39 = .ok (.invokevirtual 203, 3) := by decide +kernel
theorem dX11_readWork_42 : decode cX11_readWork 42 = .ok (.iastore, 1) := by decide +kernel
theorem dX11_readWork_43 : decode cX11_readWork 43 = .ok (.aload_n 0, 1) := by decide +kernel
theorem dX11_readWork_44 : decode cX11_readWork 44 = .ok (.getfield 35, 3) := by decide +kernel
theorem dX11_readWork_47 : decode cX11_readWork 47 = .ok (.iload_n 2, 1) := by decide +kernel
theorem dX11_readWork_48 : decode cX11_readWork 48 = .ok (.iconst 1, 1) := by decide +kernel
theorem dX11_readWork_49 : decode cX11_readWork 49 = .ok (.iadd, 1) := by decide +kernel
theorem dX11_readWork_50 : decode cX11_readWork 50 = .ok (.aload_n 0, 1) := by decide +kernel
theorem dX11_readWork_51 : decode cX11_readWork 51 = .ok (.iconst 0, 1) := by decide +kernel
theorem dX11_readWork_52 : decode cX11_readWork 52 = .ok (.iconst 1, 1) := by decide +kernel
theorem dX11_readWork_53 : decode cX11_readWork 53 = .ok (.invokevirtual 203, 3) := by decide +kernel
theorem dX11_readWork_56 : decode cX11_readWork 56 = .ok (.iastore, 1) := by decide +kernel
theorem dX11_readWork_57 : decode cX11_readWork 57 = .ok (.aload_n 0, 1) := by decide +kernel
theorem dX11_readWork_58 : decode cX11_readWork 58 = .ok (.getfield 35, 3) := by decide +kernel
theorem dX11_readWork_61 : decode cX11_readWork 61 = .ok (.iload_n 2, 1) := by decide +kernel
theorem dX11_readWork_62 : decode cX11_readWork 62 = .ok (.iconst 2, 1) := by decide +kernel
theorem dX11_readWork_63 : decode cX11_readWork 63 = .ok (.iadd, 1) := by decide +kernel
theorem dX11_readWork_64 : decode cX11_readWork 64 = .ok (.aload_n 0, 1) := by decide +kernel
theorem dX11_readWork_65 : decode cX11_readWork 65 = .ok (.invokevirtual 219, 3) := by decide +kernel
theorem dX11_readWork_68 : decode cX11_readWork 68 = .ok (.iastore, 1) := by decide +kernel
theorem dX11_readWork_69 : decode cX11_readWork 69 = .ok (.aload_n 0, 1) := by decide +kernel
theorem dX11_readWork_70 : decode cX11_readWork 70 = .ok (.getfield 35, 3) := by decide +kernel
theorem dX11_readWork_73 : decode cX11_readWork 73 = .ok (.iload_n 2, 1) := by decide +kernel
theorem dX11_readWork_74 : decode cX11_readWork 74 = .ok (.iconst 3, 1) := by decide +kernel
theorem dX11_readWork_75 : decode cX11_readWork 75 = .ok (.iadd, 1) := by decide +kernel
theorem dX11_readWork_76 : decode cX11_readWork 76 = .ok (.aload_n 0, 1) := by decide +kernel
theorem dX11_readWork_77 : decode cX11_readWork 77 = .ok (.invokevirtual 222, 3) := by decide +kernel
theorem dX11_readWork_80 : decode cX11_readWork 80 = .ok (.iastore, 1) := by decide +kernel
theorem dX11_readWork_81 : decode cX11_readWork 81 = .ok (.aload_n 0, 1) := by decide +kernel
theorem dX11_readWork_82 : decode cX11_readWork 82 = .ok (.getfield 35, 3) := by decide +kernel
theorem dX11_readWork_85 : decode cX11_readWork 85 = .ok (.bipush 16, 2) := by decide +kernel
theorem dX11_readWork_87 : decode cX11_readWork 87 = .ok (.iload_n 1, 1) := by decide +kernel
theorem dX11_readWork_88 : decode cX11_readWork 88 = .ok (.iconst 1, 1) := by decide +kernel
theorem dX11_readWork_89 : decode cX11_readWork 89 = .ok (.iadd, 1) := by decide +kernel
theorem dX11_readWork_90 : decode cX11_readWork 90 = .ok (.iastore, 1) := by decide +kernel
theorem dX11_readWork_91 : decode cX11_readWork 91 = .ok (.return_, 1) := by decide +kernel
theorem dX11_readLaw_0 : decode cX11_readLaw 0 = .ok (.iload_n 1, 1) := by decide +kernel
theorem dX11_readLaw_1 : decode cX11_readLaw 1 = .ok (.bipush 17, 2) := by decide +kernel
theorem dX11_readLaw_3 : decode cX11_readLaw 3 = .ok (.if_icmp .ne 90, 3) := by decide +kernel
theorem dX11_readLaw_6 : decode cX11_readLaw 6 = .ok (.aload_n 0, 1) := by decide +kernel
theorem dX11_readLaw_7 : decode cX11_readLaw 7 = .ok (.aload_n 0, 1) := by decide +kernel
theorem dX11_readLaw_8 : decode cX11_readLaw 8 = .ok (.getfield 120, 3) := by decide +kernel
theorem dX11_readLaw_11 : decode cX11_readLaw 11 = .ok (.invokevirtual 213, 3) := by decide +kernel
theorem dX11_readLaw_14 : decode cX11_readLaw 14 = .ok (.istore_n 2, 1) := by decide +kernel
theorem dX11_readLaw_15 : decode cX11_readLaw 15 = .ok (.aload_n 0, 1) := by decide +kernel
theorem dX11_readLaw_16 : decode cX11_readLaw 16 = .ok (.aload_n 0, 1) := by decide +kernel
theorem dX11_readLaw_17 : decode cX11_readLaw 17 = .ok (.getfield 120, 3) := by decide +kernel
theorem dX11_readLaw_20 : decode cX11_readLaw 20 = .ok (.iconst 1, 1) := by decide +kernel
theorem dX11_readLaw_21 : decode cX11_readLaw 21 = .ok (.iload_n 2, 1) := by decide +kernel
theorem dX11_readLaw_22 : decode cX11_readLaw 22 = .ok (.ishl, 1) := by decide +kernel
theorem dX11_readLaw_23 : decode cX11_readLaw 23 = .ok (.ior, 1) := by decide +kernel
theorem dX11_readLaw_24 : decode cX11_readLaw 24 = .ok (.invokevirtual 213, 3) := by decide +kernel
theorem dX11_readLaw_27 : decode cX11_readLaw 27 = .ok (.istore_n 3, 1) := by decide +kernel
theorem dX11_readLaw_28 : decode cX11_readLaw 28 = .ok (.aload_n 0, 1) := by decide +kernel
theorem dX11_readLaw_29 : decode cX11_readLaw 29 = .ok (.getfield 50, 3) := by decide +kernel
theorem dX11_readLaw_32 : decode cX11_readLaw 32 = .ok (.iload_n 2, 1) := by decide +kernel
theorem dX11_readLaw_33 : decode cX11_readLaw 33 = .ok (.aload_n 0, 1) := by decide +kernel
theorem dX11_readLaw_34 : decode cX11_readLaw 34 = .ok (.getfield 150, 3) := by decide +kernel
theorem dX11_readLaw_37 : decode cX11_readLaw 37 = .ok (.ifCond .ne 7, 3) := by decide +kernel
theorem dX11_readLaw_40 : decode cX11_readLaw 40 = .ok (.iload_n 3, 1) := by decide +kernel
theorem dX11_readLaw_41 : decode cX11_readLaw 41 = .ok (.goto 9, 3) := by decide +kernel
theorem dX11_readLaw_44 : decode cX11_readLaw 44 = .ok (.aload_n 0, 1) := by decide +kernel
theorem dX11_readLaw_45 : decode cX11_readLaw 45 = .ok (.getfield 50, 3) := by decide +kernel
theorem dX11_readLaw_48 : decode cX11_readLaw 48 = .ok (.iload_n 2, 1) := by decide +kernel
theorem dX11_readLaw_49 : decode cX11_readLaw 49 = .ok (.iaload, 1) := by decide +kernel
theorem dX11_readLaw_50 : decode cX11_readLaw 50 = .ok (.iastore, 1) := by decide +kernel
theorem dX11_readLaw_51 : decode cX11_readLaw 51 = .ok (.aload_n 0, 1) := by decide +kernel
theorem dX11_readLaw_52 : decode cX11_readLaw 52 = .ok (.getfield 50, 3) := by decide +kernel
theorem dX11_readLaw_55 : decode cX11_readLaw 55 = .ok (.iload_n 3, 1) := by decide +kernel
theorem dX11_readLaw_56 : decode cX11_readLaw 56 = .ok (.aload_n 0, 1) := by decide +kernel
theorem dX11_readLaw_57 : decode cX11_readLaw 57 = .ok (.getfield 150, 3) := by decide +kernel
theorem dX11_readLaw_60 : decode cX11_readLaw 60 = .ok (.ifCond .ne 7, 3) := by decide +kernel
theorem dX11_readLaw_63 : decode cX11_readLaw 63 = .ok (.iload_n 2, 1) := by decide +kernel
theorem dX11_readLaw_64 : decode cX11_readLaw 64 = .ok (.goto 9, 3) := by decide +kernel
theorem dX11_readLaw_67 : decode cX11_readLaw 67 = .ok (.aload_n 0, 1) := by decide +kernel
theorem dX11_readLaw_68 : decode cX11_readLaw 68 = .ok (.getfield 50, 3) := by decide +kernel
theorem dX11_readLaw_71 : decode cX11_readLaw 71 = .ok (.iload_n 3, 1) := by decide +kernel
theorem dX11_readLaw_72 : decode cX11_readLaw 72 = .ok (.iaload, 1) := by decide +kernel
theorem dX11_readLaw_73 : decode cX11_readLaw 73 = .ok (.iastore, 1) := by decide +kernel
theorem dX11_readLaw_74 : decode cX11_readLaw 74 = .ok (.aload_n 0, 1) := by decide +kernel
theorem dX11_readLaw_75 : decode cX11_readLaw 75 = .ok (.dup, 1) := by decide +kernel
theorem dX11_readLaw_76 : decode cX11_readLaw 76 = .ok (.getfield 120, 3) := by decide +kernel
theorem dX11_readLaw_79 : decode cX11_readLaw 79 = .ok (.iconst 1, 1) := by decide +kernel
theorem dX11_readLaw_80 : decode cX11_readLaw 80 = .ok (.iload_n 2, 1) := by decide +kernel
theorem dX11_readLaw_81 : decode cX11_readLaw 81 = .ok (.ishl, 1) := by decide +kernel
theorem dX11_readLaw_82 : decode cX11_readLaw 82 = .ok (.iconst 1, 1) := by decide +kernel
theorem dX11_readLaw_83 : decode cX11_readLaw 83 = .ok (.iload_n 3, 1) := by decide +kernel
theorem dX11_readLaw_84 : decode cX11_readLaw 84 = .ok (.ishl, 1) := by decide +kernel
theorem dX11_readLaw_85 : decode cX11_readLaw 85 = .ok (.ior, 1) := by decide +kernel
theorem dX11_readLaw_86 : decode cX11_readLaw 86 = .ok (.ior, 1) := by decide +kernel
theorem dX11_readLaw_87 : decode cX11_readLaw 87 = .ok (.putfield 120, 3) := by decide +kernel
theorem dX11_readLaw_90 : decode cX11_readLaw 90 = .ok (.goto 144, 3) := by decide +kernel
theorem dX11_readLaw_93 : decode cX11_readLaw 93 = .ok (.iload_n 1, 1) := by decide +kernel
theorem dX11_readLaw_94 : decode cX11_readLaw 94 = .ok (.bipush 18, 2) := by decide +kernel
theorem dX11_readLaw_96 : decode cX11_readLaw 96 = .ok (.if_icmp .ne 90, 3) := by decide +kernel
theorem dX11_readLaw_99 : decode cX11_readLaw 99 = .ok (.aload_n 0, 1) := by decide +kernel
theorem dX11_readLaw_100 : decode cX11_readLaw 100 = .ok (.aload_n 0, 1) := by decide +kernel
theorem dX11_readLaw_101 : decode cX11_readLaw 101 = .ok (.getfield 123, 3) := by decide +kernel
theorem dX11_readLaw_104 : decode cX11_readLaw 104 = .ok (.invokevirtual 225, 3) := by decide +kernel
theorem dX11_readLaw_107 : decode cX11_readLaw 107 = .ok (.istore_n 2, 1) := by decide +kernel
theorem dX11_readLaw_108 : decode cX11_readLaw 108 = .ok (.aload_n 0, 1) := by decide +kernel
theorem dX11_readLaw_109 : decode cX11_readLaw 109 = .ok (.aload_n 0, 1) := by decide +kernel
theorem dX11_readLaw_110 : decode cX11_readLaw 110 = .ok (.getfield 123, 3) := by decide +kernel
theorem dX11_readLaw_113 : decode cX11_readLaw 113 = .ok (.iconst 1, 1) := by decide +kernel
theorem dX11_readLaw_114 : decode cX11_readLaw 114 = .ok (.iload_n 2, 1) := by decide +kernel
theorem dX11_readLaw_115 : decode cX11_readLaw 115 = .ok (.ishl, 1) := by decide +kernel
theorem dX11_readLaw_116 : decode cX11_readLaw 116 = .ok (.ior, 1) := by decide +kernel
theorem dX11_readLaw_117 : decode cX11_readLaw 117 = .ok (.invokevirtual 225, 3) := by decide +kernel
theorem dX11_readLaw_120 : decode cX11_readLaw 120 = .ok (.istore_n 3, 1) := by decide +kernel
theorem dX11_readLaw_121 : decode cX11_readLaw 121 = .ok (.aload_n 0, 1) := by decide +kernel
theorem dX11_readLaw_122 : decode cX11_readLaw 122 = .ok (.getfield 53, 3) := by decide +kernel
theorem dX11_readLaw_125 : decode cX11_readLaw 125 = .ok (.iload_n 2, 1) := by decide +kernel
theorem dX11_readLaw_126 : decode cX11_readLaw 126 = .ok (.aload_n 0, 1) := by decide +kernel
theorem dX11_readLaw_127 : decode cX11_readLaw 127 = .ok (.getfield 150, 3) := by decide +kernel
theorem dX11_readLaw_130 : decode cX11_readLaw 130 = .ok (.ifCond .ne 7, 3) := by decide +kernel
theorem dX11_readLaw_133 : decode cX11_readLaw 133 = .ok (.iload_n 3, 1) := by decide +kernel
theorem dX11_readLaw_134 : decode cX11_readLaw 134 = .ok (.goto 9, 3) := by decide +kernel
theorem dX11_readLaw_137 : decode cX11_readLaw 137 = .ok (.aload_n 0, 1) := by decide +kernel
theorem dX11_readLaw_138 : decode cX11_readLaw 138 = .ok (.getfield 53, 3) := by decide +kernel
theorem dX11_readLaw_141 : decode cX11_readLaw 141 = .ok (.iload_n 2, 1) := by decide +kernel
theorem dX11_readLaw_142 : decode cX11_readLaw 142 = .ok (.iaload, 1) := by decide +kernel
theorem dX11_readLaw_143 : decode cX11_readLaw 143 = .ok (.iastore, 1) := by decide +kernel
theorem dX11_readLaw_144 : decode cX11_readLaw 144 = .ok (.aload_n 0, 1) := by decide +kernel
theorem dX11_readLaw_145 : decode cX11_readLaw 145 = .ok (.getfield 53, 3) := by decide +kernel
theorem dX11_readLaw_148 : decode cX11_readLaw 148 = .ok (.iload_n 3, 1) := by decide +kernel
theorem dX11_readLaw_149 : decode cX11_readLaw 149 = .ok (.aload_n 0, 1) := by decide +kernel
theorem dX11_readLaw_150 : decode cX11_readLaw 150 = .ok (.getfield 150, 3) := by decide +kernel
theorem dX11_readLaw_153 : decode cX11_readLaw 153 = .ok (.ifCond .ne 7, 3) := by decide +kernel
theorem dX11_readLaw_156 : decode cX11_readLaw 156 = .ok (.iload_n 2, 1) := by decide +kernel
theorem dX11_readLaw_157 : decode cX11_readLaw 157 = .ok (.goto 9, 3) := by decide +kernel
theorem dX11_readLaw_160 : decode cX11_readLaw 160 = .ok (.aload_n 0, 1) := by decide +kernel
theorem dX11_readLaw_161 : decode cX11_readLaw 161 = .ok (.getfield 53, 3) := by decide +kernel
theorem dX11_readLaw_164 : decode cX11_readLaw 164 = .ok (.iload_n 3, 1) := by decide +kernel
theorem dX11_readLaw_165 : decode cX11_readLaw 165 = .ok (.iaload, 1) := by decide +kernel
theorem dX11_readLaw_166 : decode cX11_readLaw 166 = .ok (.iastore, 1) := by decide +kernel
theorem dX11_readLaw_167 : decode cX11_readLaw 167 = .ok (.aload_n 0, 1) := by decide +kernel
theorem dX11_readLaw_168 : decode cX11_readLaw 168 = .ok (.dup, 1) := by decide +kernel
theorem dX11_readLaw_169 : decode cX11_readLaw 169 = .ok (.getfield 123, 3) := by decide +kernel
theorem dX11_readLaw_172 : decode cX11_readLaw 172 = .ok (.iconst 1, 1) := by decide +kernel
theorem dX11_readLaw_173 : decode cX11_readLaw 173 = .ok (.iload_n 2, 1) := by decide +kernel
theorem dX11_readLaw_174 : decode cX11_readLaw 174 = .ok (.ishl, 1) := by decide +kernel
theorem dX11_readLaw_175 : decode cX11_readLaw 175 = .ok (.iconst 1, 1) := by decide +kernel
theorem dX11_readLaw_176 : decode cX11_readLaw 176 = .ok (.iload_n 3, 1) := by decide +kernel
theorem dX11_readLaw_177 : decode cX11_readLaw 177 = .ok (.ishl, 1) := by decide +kernel
theorem dX11_readLaw_178 : decode cX11_readLaw 178 = .ok (.ior, 1) := by decide +kernel
theorem dX11_readLaw_179 : decode cX11_readLaw 179 = .ok (.ior, 1) := by decide +kernel
theorem dX11_readLaw_180 : decode cX11_readLaw 180 = .ok (.putfield 123, 3) := by decide +kernel
theorem dX11_readLaw_183 : decode cX11_readLaw 183 = .ok (.goto 51, 3) := by decide +kernel
theorem dX11_readLaw_186 : decode cX11_readLaw 186 = .ok (.iload_n 1, 1) := by decide +kernel
theorem dX11_readLaw_187 : decode cX11_readLaw 187 = .ok (.bipush 19, 2) := by decide +kernel
theorem dX11_readLaw_189 : decode cX11_readLaw 189 = .ok (.if_icmp .ne 22, 3) := by decide +kernel
theorem dX11_readLaw_192 : decode cX11_readLaw 192 = .ok (.aload_n 0, 1) := by decide +kernel
theorem dX11_readLaw_193 : decode cX11_readLaw 193 = .ok (.dup, 1) := by decide +kernel
theorem dX11_readLaw_194 : decode cX11_readLaw 194 = .ok (.getfield 105, 3) := by decide +kernel
theorem dX11_readLaw_197 : decode cX11_readLaw 197 = .ok (.iconst 1, 1) := by decide +kernel
theorem dX11_readLaw_198 : decode cX11_readLaw 198 = .ok (.aload_n 0, 1) := by decide +kernel
theorem dX11_readLaw_199 : decode cX11_readLaw 199 = .ok (.iconst 0, 1) := by decide +kernel
theorem dX11_readLaw_200 : decode cX11_readLaw 200 = .ok (.invokevirtual 213, 3) := by decide +kernel
theorem dX11_readLaw_203 : decode cX11_readLaw 203 = .ok (.ishl, 1) := by decide +kernel
theorem dX11_readLaw_204 : decode cX11_readLaw 204 = .ok (.ior, 1) := by decide +kernel
theorem dX11_readLaw_205 : decode cX11_readLaw 205 = .ok (.putfield 105, 3) := by decide +kernel
theorem dX11_readLaw_208 : decode cX11_readLaw 208 = .ok (.goto 26, 3) := by decide +kernel
theorem dX11_readLaw_211 : decode cX11_readLaw 211 = .ok (.aload_n 0, 1) := by decide +kernel
theorem dX11_readLaw_212 : decode cX11_readLaw 212 = .ok (.iconst 0, 1) := by decide +kernel
theorem dX11_readLaw_213 : decode cX11_readLaw 213 = .ok (.iconst 1, 1) := by decide +kernel
theorem dX11_readLaw_214 : decode cX11_readLaw 214 = .ok (.invokevirtual 203, 3) := by decide +kernel
theorem dX11_readLaw_217 : decode cX11_readLaw 217 = .ok (.istore_n 2, 1) := by decide +kernel
theorem dX11_readLaw_218 : decode cX11_readLaw 218 = .ok (.aload_n 0, 1) := by decide +kernel
theorem dX11_readLaw_219 : decode cX11_readLaw 219 = .ok (.getfield 47, 3) := by decide +kernel
theorem dX11_readLaw_222 : decode cX11_readLaw 222 = .ok (.iload_n 2, 1) := by decide +kernel
theorem dX11_readLaw_223 : decode cX11_readLaw 223 = .ok (.dup2, 1) := by decide +kernel
theorem dX11_readLaw_224 : decode cX11_readLaw 224 = .ok (.iaload, 1) := by decide +kernel
theorem dX11_readLaw_225 : decode cX11_readLaw 225 = .ok (.iconst 1, 1) := by decide +kernel
theorem dX11_readLaw_226 : decode cX11_readLaw 226 = .ok (.aload_n 0, 1) := by decide +kernel
theorem dX11_readLaw_227 : decode cX11_readLaw 227 = .ok (.iconst 0, 1) := by decide +kernel
theorem dX11_readLaw_228 : decode cX11_readLaw 228 = .ok (.invokevirtual 213, 3) := by decide +kernel
theorem dX11_readLaw_231 : decode cX11_readLaw 231 = .ok (.ishl, 1) := by decide +kernel
theorem dX11_readLaw_232 : decode cX11_readLaw 232 = .ok (.ior, 1) := by decide +kernel
theorem dX11_readLaw_233 : decode cX11_readLaw 233 = .ok (.iastore, 1) := by decide +kernel
theorem dX11_readLaw_234 : decode cX11_readLaw 234 = .ok (.return_, 1) := by decide +kernel
theorem dX11_readLineOf_0 : decode cX11_readLineOf 0 = .ok (.iload_n 1, 1) := by decide +kernel
theorem dX11_readLineOf_1 : decode cX11_readLineOf 1 = .ok (.tableswitch 166 10 21 #[63, 77, 91, 105, 134, 134, 166, 166, 166, 166, 152, 159], 63) := by decide +kernel
theorem dX11_readLineOf_64 : decode cX11_readLineOf 64 = .ok (.aload_n 0, 1) := by decide +kernel
theorem dX11_readLineOf_65 : decode cX11_readLineOf 65 = .ok (.aload_n 0, 1) := by decide +kernel
theorem dX11_readLineOf_66 : decode cX11_readLineOf 66 = .ok (.iconst 1, 1) := by decide +kernel
theorem dX11_readLineOf_67 : decode cX11_readLineOf 67 = .ok (.bipush 8, 2) := by decide +kernel
theorem dX11_readLineOf_69 : decode cX11_readLineOf 69 = .ok (.invokevirtual 203, 3) := by decide +kernel
theorem dX11_readLineOf_72 : decode cX11_readLineOf 72 = .ok (.putfield 95, 3) := by decide +kernel
theorem dX11_readLineOf_75 : decode cX11_readLineOf 75 = .ok (.goto 97, 3) := by decide +kernel
theorem dX11_readLineOf_78 : decode cX11_readLineOf 78 = .ok (.aload_n 0, 1) := by decide +kernel
theorem dX11_readLineOf_79 : decode cX11_readLineOf 79 = .ok (.aload_n 0, 1) := by decide +kernel
theorem dX11_readLineOf_80 : decode cX11_readLineOf 80 = .ok (.iconst 0, 1) := by decide +kernel
theorem dX11_readLineOf_81 : decode cX11_readLineOf 81 = .ok (.bipush 6, 2) := by decide +kernel
theorem dX11_readLineOf_83 : decode cX11_readLineOf 83 = .ok (.invokevirtual 203, 3) := by decide +kernel
theorem dX11_readLineOf_86 : decode cX11_readLineOf 86 = .ok (.putfield 99, 3) := by decide +kernel
theorem dX11_readLineOf_89 : decode cX11_readLineOf 89 = .ok (.goto 83, 3) := by decide +kernel
theorem dX11_readLineOf_92 : decode cX11_readLineOf 92 = .ok (.aload_n 0, 1) := by decide +kernel
theorem dX11_readLineOf_93 : decode cX11_readLineOf 93 = .ok (.aload_n 0, 1) := by decide +kernel
theorem dX11_readLineOf_94 : decode cX11_readLineOf 94 = .ok (.iconst 0, 1) := by decide +kernel
theorem dX11_readLineOf_95 : decode cX11_readLineOf 95 = .ok (.bipush 20, 2) := by decide +kernel
theorem dX11_readLineOf_97 : decode cX11_readLineOf 97 = .ok (.invokevirtual 203, 3) := by decide +kernel
theorem dX11_readLineOf_100 : decode cX11_readLineOf 100 = .ok (.putfield 102, 3) := by decide +kernel
theorem dX11_readLineOf_103 : decode cX11_readLineOf 103 = .ok (.goto 69, 3) := by decide +kernel
theorem dX11_readLineOf_106 : decode cX11_readLineOf 106 = .ok (.iconst 0, 1) := by decide +kernel
theorem dX11_readLineOf_107 : decode cX11_readLineOf 107 = .ok (.istore_n 2, 1) := by decide +kernel
theorem dX11_readLineOf_108 : decode cX11_readLineOf 108 = .ok (.iload_n 2, 1) := by decide +kernel
theorem dX11_readLineOf_109 : decode cX11_readLineOf 109 = .ok (.iconst 4, 1) := by decide +kernel
theorem dX11_readLineOf_110 : decode cX11_readLineOf 110 = .ok (.if_icmp .ge 22, 3) := by decide +kernel
theorem dX11_readLineOf_113 : decode cX11_readLineOf 113 = .ok (.aload_n 0, 1) := by decide +kernel
theorem dX11_readLineOf_114 : decode cX11_readLineOf 114 = .ok (.getfield 38, 3) := by decide +kernel
theorem dX11_readLineOf_117 : decode cX11_readLineOf 117 = .ok (.iload_n 2, 1) := by decide +kernel
theorem dX11_readLineOf_118 : decode cX11_readLineOf 118 = .ok (.aload_n 0, 1) := by decide +kernel
theorem dX11_readLineOf_119 : decode cX11_readLineOf 119 = .ok (.iconst 1, 1) := by decide +kernel
theorem dX11_readLineOf_120 : decode cX11_readLineOf 120 = .ok (.bipush 9, 2) := by decide +kernel
theorem dX11_readLineOf_122 : decode cX11_readLineOf 122 = .ok (.invokevirtual 203, 3) := by decide +kernel
theorem dX11_readLineOf_125 : decode cX11_readLineOf 125 = .ok (.iastore, 1) := by decide +kernel
theorem dX11_readLineOf_126 : decode cX11_readLineOf 126 = .ok (.iinc 2 1, 3) := by decide +kernel
theorem dX11_readLineOf_129 : decode cX11_readLineOf 129 = .ok (.goto (-21), 3) := by decide +kernel
theorem dX11_readLineOf_132 : decode cX11_readLineOf 132 = .ok (.goto 40, 3) := by decide +kernel
theorem dX11_readLineOf_135 : decode cX11_readLineOf 135 = .ok (.aload_n 0, 1) := by decide +kernel
theorem dX11_readLineOf_136 : decode cX11_readLineOf 136 = .ok (.iload_n 1, 1) := by decide +kernel
theorem dX11_readLineOf_137 : decode cX11_readLineOf 137 = .ok (.bipush 14, 2) := by decide +kernel
theorem dX11_readLineOf_139 : decode cX11_readLineOf 139 = .ok (.if_icmp .ne 7, 3) := by decide +kernel
theorem dX11_readLineOf_142 : decode cX11_readLineOf 142 = .ok (.iconst 1, 1) := by decide +kernel
theorem dX11_readLineOf_143 : decode cX11_readLineOf 143 = .ok (.goto 4, 3) := by decide +kernel
theorem dX11_readLineOf_146 : decode cX11_readLineOf 146 = .ok (.iconst 0, 1) := by decide +kernel
theorem dX11_readLineOf_147 : decode cX11_readLineOf 147 = .ok (.invokevirtual 228, 3) := by decide +kernel
theorem dX11_readLineOf_150 : decode cX11_readLineOf 150 = .ok (.goto 22, 3) := by decide +kernel
theorem dX11_readLineOf_153 : decode cX11_readLineOf 153 = .ok (.aload_n 0, 1) := by decide +kernel
theorem dX11_readLineOf_154 : decode cX11_readLineOf 154 = .ok (.invokevirtual 232, 3) := by decide +kernel
theorem dX11_readLineOf_157 : decode cX11_readLineOf 157 = .ok (.goto 15, 3) := by decide +kernel
theorem dX11_readLineOf_160 : decode cX11_readLineOf 160 = .ok (.aload_n 0, 1) := by decide +kernel
theorem dX11_readLineOf_161 : decode cX11_readLineOf 161 = .ok (.invokevirtual 235, 3) := by decide +kernel
theorem dX11_readLineOf_164 : decode cX11_readLineOf 164 = .ok (.goto 8, 3) := by decide +kernel
theorem dX11_readLineOf_167 : decode cX11_readLineOf 167 = .ok (.aload_n 0, 1) := by decide +kernel
theorem dX11_readLineOf_168 : decode cX11_readLineOf 168 = .ok (.iload_n 1, 1) := by decide +kernel
theorem dX11_readLineOf_169 : decode cX11_readLineOf 169 = .ok (.invokevirtual 238, 3) := by decide +kernel
theorem dX11_readLineOf_172 : decode cX11_readLineOf 172 = .ok (.return_, 1) := by decide +kernel
theorem dX11_readLine_0 : decode cX11_readLine 0 = .ok (.aload_n 0, 1) := by decide +kernel
theorem dX11_readLine_1 : decode cX11_readLine 1 = .ok (.getfield 178, 3) := by decide +kernel
theorem dX11_readLine_4 : decode cX11_readLine 4 = .ok (.iconst 1, 1) := by decide +kernel
theorem dX11_readLine_5 : decode cX11_readLine 5 = .ok (.if_icmp .ne 10, 3) := by decide +kernel
theorem dX11_readLine_8 : decode cX11_readLine 8 = .ok (.aload_n 0, 1) := by decide +kernel
theorem dX11_readLine_9 : decode cX11_readLine 9 = .ok (.invokevirtual 242, 3) := by decide +kernel
theorem dX11_readLine_12 : decode cX11_readLine 12 = .ok (.goto 5, 3) := by decide +kernel
theorem dX11_readLine_15 : decode cX11_readLine 15 = .ok (.bipush (-4), 2) := by decide +kernel
theorem dX11_readLine_17 : decode cX11_readLine 17 = .ok (.istore_n 1, 1) := by decide +kernel
theorem dX11_readLine_18 : decode cX11_readLine 18 = .ok (.aload_n 0, 1) := by decide +kernel
theorem dX11_readLine_19 : decode cX11_readLine 19 = .ok (.iload_n 1, 1) := by decide +kernel
theorem dX11_readLine_20 : decode cX11_readLine 20 = .ok (.bipush (-4), 2) := by decide +kernel
theorem dX11_readLine_22 : decode cX11_readLine 22 = .ok (.if_icmp .eq 7, 3) := by decide +kernel
theorem dX11_readLine_25 : decode cX11_readLine 25 = .ok (.iconst 1, 1) := by decide +kernel
theorem dX11_readLine_26 : decode cX11_readLine 26 = .ok (.goto 4, 3) := by decide +kernel
theorem dX11_readLine_29 : decode cX11_readLine 29 = .ok (.iconst 0, 1) := by decide +kernel
theorem dX11_readLine_30 : decode cX11_readLine 30 = .ok (.iconst 2, 1) := by decide +kernel
theorem dX11_readLine_31 : decode cX11_readLine 31 = .ok (.invokevirtual 192, 3) := by decide +kernel
theorem dX11_readLine_34 : decode cX11_readLine 34 = .ok (.aload_n 0, 1) := by decide +kernel
theorem dX11_readLine_35 : decode cX11_readLine 35 = .ok (.iload_n 1, 1) := by decide +kernel
theorem dX11_readLine_36 : decode cX11_readLine 36 = .ok (.bipush 21, 2) := by decide +kernel
theorem dX11_readLine_38 : decode cX11_readLine 38 = .ok (.if_icmp .ne 15, 3) := by decide +kernel
theorem dX11_readLine_41 : decode cX11_readLine 41 = .ok (.aload_n 0, 1) := by decide +kernel
theorem dX11_readLine_42 : decode cX11_readLine 42 = .ok (.getfield 35, 3) := by decide +kernel
theorem dX11_readLine_45 : decode cX11_readLine 45 = .ok (.bipush 16, 2) := by decide +kernel
theorem dX11_readLine_47 : decode cX11_readLine 47 = .ok (.iaload, 1) := by decide +kernel
theorem dX11_readLine_48 : decode cX11_readLine 48 = .ok (.bipush 12, 2) := by decide +kernel
theorem dX11_readLine_50 : decode cX11_readLine 50 = .ok (.if_icmp .ge 7, 3) := by decide +kernel
theorem dX11_readLine_53 : decode cX11_readLine 53 = .ok (.iconst 1, 1) := by decide +kernel
theorem dX11_readLine_54 : decode cX11_readLine 54 = .ok (.goto 4, 3) := by decide +kernel
theorem dX11_readLine_57 : decode cX11_readLine 57 = .ok (.iconst 0, 1) := by decide +kernel
theorem dX11_readLine_58 : decode cX11_readLine 58 = .ok (.iconst 5, 1) := by decide +kernel
theorem dX11_readLine_59 : decode cX11_readLine 59 = .ok (.invokevirtual 192, 3) := by decide +kernel
theorem dX11_readLine_62 : decode cX11_readLine 62 = .ok (.aload_n 0, 1) := by decide +kernel
theorem dX11_readLine_63 : decode cX11_readLine 63 = .ok (.getfield 150, 3) := by decide +kernel
theorem dX11_readLine_66 : decode cX11_readLine 66 = .ok (.ifCond .ne 42, 3) := by decide +kernel
theorem dX11_readLine_69 : decode cX11_readLine 69 = .ok (.iload_n 1, 1) := by decide +kernel
theorem dX11_readLine_70 : decode cX11_readLine 70 = .ok (.bipush 13, 2) := by decide +kernel
theorem dX11_readLine_72 : decode cX11_readLine 72 = .ok (.if_icmp .gt 36, 3) := by decide +kernel
theorem dX11_readLine_75 : decode cX11_readLine 75 = .ok (.aload_n 0, 1) := by decide +kernel
theorem dX11_readLine_76 : decode cX11_readLine 76 = .ok (.aload_n 0, 1) := by decide +kernel
theorem dX11_readLine_77 : decode cX11_readLine 77 = .ok (.getfield 108, 3) := by decide +kernel
theorem dX11_readLine_80 : decode cX11_readLine 80 = .ok (.iload_n 1, 1) := by decide +kernel
theorem dX11_readLine_81 : decode cX11_readLine 81 = .ok (.ishr, 1) := by decide +kernel
theorem dX11_readLine_82 : decode cX11_readLine 82 = .ok (.iconst 1, 1) := by decide +kernel
theorem dX11_readLine_83 : decode cX11_readLine 83 = .ok (.iand, 1) := by decide +kernel
theorem dX11_readLine_84 : decode cX11_readLine 84 = .ok (.ifCond .ne 7, 3) := by decide +kernel
theorem dX11_readLine_87 : decode cX11_readLine 87 = .ok (.iconst 1, 1) := by decide +kernel
theorem dX11_readLine_88 : decode cX11_readLine 88 = .ok (.goto 4, 3) := by decide +kernel
theorem dX11_readLine_91 : decode cX11_readLine 91 = .ok (.iconst 0, 1) := by decide +kernel
theorem dX11_readLine_92 : decode cX11_readLine 92 = .ok (.iconst 4, 1) := by decide +kernel
theorem dX11_readLine_93 : decode cX11_readLine 93 = .ok (.invokevirtual 192, 3) := by decide +kernel
theorem dX11_readLine_96 : decode cX11_readLine 96 = .ok (.aload_n 0, 1) := by decide +kernel
theorem dX11_readLine_97 : decode cX11_readLine 97 = .ok (.dup, 1) := by decide +kernel
theorem dX11_readLine_98 : decode cX11_readLine 98 = .ok (.getfield 108, 3) := by decide +kernel
theorem dX11_readLine_101 : decode cX11_readLine 101 = .ok (.iconst 1, 1) := by decide +kernel
theorem dX11_readLine_102 : decode cX11_readLine 102 = .ok (.iload_n 1, 1) := by decide +kernel
theorem dX11_readLine_103 : decode cX11_readLine 103 = .ok (.ishl, 1) := by decide +kernel
theorem dX11_readLine_104 : decode cX11_readLine 104 = .ok (.ior, 1) := by decide +kernel
theorem dX11_readLine_105 : decode cX11_readLine 105 = .ok (.putfield 108, 3) := by decide +kernel
theorem dX11_readLine_108 : decode cX11_readLine 108 = .ok (.aload_n 0, 1) := by decide +kernel
theorem dX11_readLine_109 : decode cX11_readLine 109 = .ok (.invokevirtual 200, 3) := by decide +kernel
theorem dX11_readLine_112 : decode cX11_readLine 112 = .ok (.aload_n 0, 1) := by decide +kernel
theorem dX11_readLine_113 : decode cX11_readLine 113 = .ok (.getfield 150, 3) := by decide +kernel
theorem dX11_readLine_116 : decode cX11_readLine 116 = .ok (.ifCond .le 4, 3) := by decide +kernel
theorem dX11_readLine_119 : decode cX11_readLine 119 = .ok (.return_, 1) := by decide +kernel
theorem dX11_readLine_120 : decode cX11_readLine 120 = .ok (.aload_n 0, 1) := by decide +kernel
theorem dX11_readLine_121 : decode cX11_readLine 121 = .ok (.iload_n 1, 1) := by decide +kernel
theorem dX11_readLine_122 : decode cX11_readLine 122 = .ok (.invokevirtual 245, 3) := by decide +kernel
theorem dX11_readLine_125 : decode cX11_readLine 125 = .ok (.aload_n 0, 1) := by decide +kernel
theorem dX11_readLine_126 : decode cX11_readLine 126 = .ok (.getfield 150, 3) := by decide +kernel
theorem dX11_readLine_129 : decode cX11_readLine 129 = .ok (.ifCond .ne 21, 3) := by decide +kernel
theorem dX11_readLine_132 : decode cX11_readLine 132 = .ok (.aload_n 0, 1) := by decide +kernel
theorem dX11_readLine_133 : decode cX11_readLine 133 = .ok (.aload_n 0, 1) := by decide +kernel
theorem dX11_readLine_134 : decode cX11_readLine 134 = .ok (.getfield 178, 3) := by decide +kernel
theorem dX11_readLine_137 : decode cX11_readLine 137 = .ok (.iconst 3, 1) := by decide +kernel
theorem dX11_readLine_138 : decode cX11_readLine 138 = .ok (.if_icmp .ne 7, 3) := by decide +kernel
theorem dX11_readLine_141 : decode cX11_readLine 141 = .ok (.iconst 1, 1) := by decide +kernel
theorem dX11_readLine_142 : decode cX11_readLine 142 = .ok (.goto 4, 3) := by decide +kernel
theorem dX11_readLine_145 : decode cX11_readLine 145 = .ok (.iconst 0, 1) := by decide +kernel
theorem dX11_readLine_146 : decode cX11_readLine 146 = .ok (.iconst 2, 1) := by decide +kernel
theorem dX11_readLine_147 : decode cX11_readLine 147 = .ok (.invokevirtual 192, 3) := by decide +kernel
theorem dX11_readLine_150 : decode cX11_readLine 150 = .ok (.aload_n 0, 1) := by decide +kernel
theorem dX11_readLine_151 : decode cX11_readLine 151 = .ok (.invokevirtual 200, 3) := by decide +kernel
theorem dX11_readLine_154 : decode cX11_readLine 154 = .ok (.return_, 1) := by decide +kernel
theorem dX11_text_0 : decode cX11_text 0 = .ok (.iconst 0, 1) := by decide +kernel
theorem dX11_text_1 : decode cX11_text 1 = .ok (.istore_n 1, 1) := by decide +kernel
theorem dX11_text_2 : decode cX11_text 2 = .ok (.aload_n 0, 1) := by decide +kernel
theorem dX11_text_3 : decode cX11_text 3 = .ok (.iconst 0, 1) := by decide +kernel
theorem dX11_text_4 : decode cX11_text 4 = .ok (.putfield 150, 3) := by decide +kernel
theorem dX11_text_7 : decode cX11_text 7 = .ok (.aload_n 0, 1) := by decide +kernel
theorem dX11_text_8 : decode cX11_text 8 = .ok (.iconst 0, 1) := by decide +kernel
theorem dX11_text_9 : decode cX11_text 9 = .ok (.putfield 159, 3) := by decide +kernel
theorem dX11_text_12 : decode cX11_text 12 = .ok (.aload_n 0, 1) := by decide +kernel
theorem dX11_text_13 : decode cX11_text 13 = .ok (.invokevirtual 89, 3) := by decide +kernel
theorem dX11_text_16 : decode cX11_text 16 = .ok (.aload_n 0, 1) := by decide +kernel
theorem dX11_text_17 : decode cX11_text 17 = .ok (.invokevirtual 200, 3) := by decide +kernel
theorem dX11_text_20 : decode cX11_text 20 = .ok (.aload_n 0, 1) := by decide +kernel
theorem dX11_text_21 : decode cX11_text 21 = .ok (.getfield 150, 3) := by decide +kernel
theorem dX11_text_24 : decode cX11_text 24 = .ok (.ifCond .ne 20, 3) := by decide +kernel
theorem dX11_text_27 : decode cX11_text 27 = .ok (.aload_n 0, 1) := by decide +kernel
theorem dX11_text_28 : decode cX11_text 28 = .ok (.getfield 178, 3) := by decide +kernel
theorem dX11_text_31 : decode cX11_text 31 = .ok (.ifCond .eq 13, 3) := by decide +kernel
theorem dX11_text_34 : decode cX11_text 34 = .ok (.aload_n 0, 1) := by decide +kernel
theorem dX11_text_35 : decode cX11_text 35 = .ok (.invokevirtual 248, 3) := by decide +kernel
theorem dX11_text_38 : decode cX11_text 38 = .ok (.iinc 1 1, 3) := by decide +kernel
theorem dX11_text_41 : decode cX11_text 41 = .ok (.goto (-21), 3) := by decide +kernel
theorem dX11_text_44 : decode cX11_text 44 = .ok (.aload_n 0, 1) := by decide +kernel
theorem dX11_text_45 : decode cX11_text 45 = .ok (.getfield 150, 3) := by decide +kernel
theorem dX11_text_48 : decode cX11_text 48 = .ok (.ifCond .ne 25, 3) := by decide +kernel
theorem dX11_text_51 : decode cX11_text 51 = .ok (.aload_n 0, 1) := by decide +kernel
theorem dX11_text_52 : decode cX11_text 52 = .ok (.aload_n 0, 1) := by decide +kernel
theorem dX11_text_53 : decode cX11_text 53 = .ok (.getfield 126, 3) := by decide +kernel
theorem dX11_text_56 : decode cX11_text 56 = .ok (.aload_n 0, 1) := by decide +kernel
theorem dX11_text_57 : decode cX11_text 57 = .ok (.getfield 95, 3) := by decide +kernel
theorem dX11_text_60 : decode cX11_text 60 = .ok (.if_icmp .ge 7, 3) := by decide +kernel
theorem dX11_text_63 : decode cX11_text 63 = .ok (.iconst 1, 1) := by decide +kernel
theorem dX11_text_64 : decode cX11_text 64 = .ok (.goto 4, 3) := by decide +kernel
theorem dX11_text_67 : decode cX11_text 67 = .ok (.iconst 0, 1) := by decide +kernel
theorem dX11_text_68 : decode cX11_text 68 = .ok (.bipush 6, 2) := by decide +kernel
theorem dX11_text_70 : decode cX11_text 70 = .ok (.invokevirtual 192, 3) := by decide +kernel
theorem dX11_text_73 : decode cX11_text 73 = .ok (.aload_n 0, 1) := by decide +kernel
theorem dX11_text_74 : decode cX11_text 74 = .ok (.iconst 0, 1) := by decide +kernel
theorem dX11_text_75 : decode cX11_text 75 = .ok (.putfield 141, 3) := by decide +kernel
theorem dX11_text_78 : decode cX11_text 78 = .ok (.aload_n 0, 1) := by decide +kernel
theorem dX11_text_79 : decode cX11_text 79 = .ok (.getfield 150, 3) := by decide +kernel
theorem dX11_text_82 : decode cX11_text 82 = .ok (.ifCond .le 11, 3) := by decide +kernel
theorem dX11_text_85 : decode cX11_text 85 = .ok (.bipush (-10), 2) := by decide +kernel
theorem dX11_text_87 : decode cX11_text 87 = .ok (.aload_n 0, 1) := by decide +kernel
theorem dX11_text_88 : decode cX11_text 88 = .ok (.getfield 156, 3) := by decide +kernel
theorem dX11_text_91 : decode cX11_text 91 = .ok (.isub, 1) := by decide +kernel
theorem dX11_text_92 : decode cX11_text 92 = .ok (.ireturn, 1) := by decide +kernel
theorem dX11_text_93 : decode cX11_text 93 = .ok (.aload_n 0, 1) := by decide +kernel
theorem dX11_text_94 : decode cX11_text 94 = .ok (.invokevirtual 92, 3) := by decide +kernel
theorem dX11_text_97 : decode cX11_text 97 = .ok (.iload_n 1, 1) := by decide +kernel
theorem dX11_text_98 : decode cX11_text 98 = .ok (.ireturn, 1) := by decide +kernel
theorem dX11_fault_0 : decode cX11_fault 0 = .ok (.aload_n 0, 1) := by decide +kernel
theorem dX11_fault_1 : decode cX11_fault 1 = .ok (.getfield 150, 3) := by decide +kernel
theorem dX11_fault_4 : decode cX11_fault 4 = .ok (.ireturn, 1) := by decide +kernel
theorem dX11_rule_0 : decode cX11_rule 0 = .ok (.iload_n 1, 1) := by decide +kernel
theorem dX11_rule_1 : decode cX11_rule 1 = .ok (.tableswitch 54 0 3 #[31, 36, 41, 46], 31) := by decide +kernel
theorem dX11_rule_32 : decode cX11_rule 32 = .ok (.aload_n 0, 1) := by decide +kernel
theorem dX11_rule_33 : decode cX11_rule 33 = .ok (.getfield 129, 3) := by decide +kernel
theorem dX11_rule_36 : decode cX11_rule 36 = .ok (.ireturn, 1) := by decide +kernel
theorem dX11_rule_37 : decode cX11_rule 37 = .ok (.aload_n 0, 1) := by decide +kernel
theorem dX11_rule_38 : decode cX11_rule 38 = .ok (.getfield 132, 3) := by decide +kernel
theorem dX11_rule_41 : decode cX11_rule 41 = .ok (.ireturn, 1) := by decide +kernel
theorem dX11_rule_42 : decode cX11_rule 42 = .ok (.aload_n 0, 1) := by decide +kernel
theorem dX11_rule_43 : decode cX11_rule 43 = .ok (.getfield 135, 3) := by decide +kernel
theorem dX11_rule_46 : decode cX11_rule 46 = .ok (.ireturn, 1) := by decide +kernel
theorem dX11_rule_47 : decode cX11_rule 47 = .ok (.aload_n 0, 1) := by decide +kernel
theorem dX11_rule_48 : decode cX11_rule 48 = .ok (.getfield 7, 3) := by decide +kernel
theorem dX11_rule_51 : decode cX11_rule 51 = .ok (.bipush 16, 2) := by decide +kernel
theorem dX11_rule_53 : decode cX11_rule 53 = .ok (.iaload, 1) := by decide +kernel
theorem dX11_rule_54 : decode cX11_rule 54 = .ok (.ireturn, 1) := by decide +kernel
theorem dX11_rule_55 : decode cX11_rule 55 = .ok (.iload_n 1, 1) := by decide +kernel
theorem dX11_rule_56 : decode cX11_rule 56 = .ok (.i2l, 1) := by decide +kernel
theorem dX11_rule_57 : decode cX11_rule 57 = .ok (.ldc2_w 251, 3) := by decide +kernel
theorem dX11_rule_60 : decode cX11_rule 60 = .ok (.ldc2_w 253, 3) := by decide +kernel
theorem dX11_rule_63 : decode cX11_rule 63 = .ok (.invokestatic 146, 3) := by decide +kernel
theorem dX11_rule_66 : decode cX11_rule 66 = .ok (.ifCond .eq 15, 3) := by decide +kernel
theorem dX11_rule_69 : decode cX11_rule 69 = .ok (.aload_n 0, 1) := by decide +kernel
theorem dX11_rule_70 : decode cX11_rule 70 = .ok (.getfield 17, 3) := by decide +kernel
theorem dX11_rule_73 : decode cX11_rule 73 = .ok (.iload_n 1, 1) := by decide +kernel
theorem dX11_rule_74 : decode cX11_rule 74 = .ok (.bipush 10, 2) := by decide +kernel
theorem dX11_rule_76 : decode cX11_rule 76 = .ok (.isub, 1) := by decide +kernel
theorem dX11_rule_77 : decode cX11_rule 77 = .ok (.iaload, 1) := by decide +kernel
theorem dX11_rule_78 : decode cX11_rule 78 = .ok (.goto 4, 3) := by decide +kernel
theorem dX11_rule_81 : decode cX11_rule 81 = .ok (.iconst (-1), 1) := by decide +kernel
theorem dX11_rule_82 : decode cX11_rule 82 = .ok (.ireturn, 1) := by decide +kernel
theorem dX11_isKind_0 : decode cX11_isKind 0 = .ok (.iload_n 0, 1) := by decide +kernel
theorem dX11_isKind_1 : decode cX11_isKind 1 = .ok (.i2l, 1) := by decide +kernel
theorem dX11_isKind_2 : decode cX11_isKind 2 = .ok (.lconst 0, 1) := by decide +kernel
theorem dX11_isKind_3 : decode cX11_isKind 3 = .ok (.ldc2_w 255, 3) := by decide +kernel
theorem dX11_isKind_6 : decode cX11_isKind 6 = .ok (.invokestatic 146, 3) := by decide +kernel
theorem dX11_isKind_9 : decode cX11_isKind 9 = .ok (.ireturn, 1) := by decide +kernel
theorem dX11_doesLack_0 : decode cX11_doesLack 0 = .ok (.aload_n 0, 1) := by decide +kernel
theorem dX11_doesLack_1 : decode cX11_doesLack 1 = .ok (.getfield 26, 3) := by decide +kernel
theorem dX11_doesLack_4 : decode cX11_doesLack 4 = .ok (.iload_n 1, 1) := by decide +kernel
theorem dX11_doesLack_5 : decode cX11_doesLack 5 = .ok (.iaload, 1) := by decide +kernel
theorem dX11_doesLack_6 : decode cX11_doesLack 6 = .ok (.iload_n 2, 1) := by decide +kernel
theorem dX11_doesLack_7 : decode cX11_doesLack 7 = .ok (.ishr, 1) := by decide +kernel
theorem dX11_doesLack_8 : decode cX11_doesLack 8 = .ok (.iconst 1, 1) := by decide +kernel
theorem dX11_doesLack_9 : decode cX11_doesLack 9 = .ok (.iand, 1) := by decide +kernel
theorem dX11_doesLack_10 : decode cX11_doesLack 10 = .ok (.iconst 1, 1) := by decide +kernel
theorem dX11_doesLack_11 : decode cX11_doesLack 11 = .ok (.if_icmp .ne 7, 3) := by decide +kernel
theorem dX11_doesLack_14 : decode cX11_doesLack 14 = .ok (.iconst 1, 1) := by decide +kernel
theorem dX11_doesLack_15 : decode cX11_doesLack 15 = .ok (.goto 4, 3) := by decide +kernel
theorem dX11_doesLack_18 : decode cX11_doesLack 18 = .ok (.iconst 0, 1) := by decide +kernel
theorem dX11_doesLack_19 : decode cX11_doesLack 19 = .ok (.ireturn, 1) := by decide +kernel
theorem dX11_kind_0 : decode cX11_kind 0 = .ok (.iload_n 1, 1) := by decide +kernel
theorem dX11_kind_1 : decode cX11_kind 1 = .ok (.invokestatic 257, 3) := by decide +kernel
theorem dX11_kind_4 : decode cX11_kind 4 = .ok (.ifCond .ne 5, 3) := by decide +kernel
theorem dX11_kind_7 : decode cX11_kind 7 = .ok (.iconst (-1), 1) := by decide +kernel
theorem dX11_kind_8 : decode cX11_kind 8 = .ok (.ireturn, 1) := by decide +kernel
theorem dX11_kind_9 : decode cX11_kind 9 = .ok (.iload_n 2, 1) := by decide +kernel
theorem dX11_kind_10 : decode cX11_kind 10 = .ok (.lookupswitch 133 #[(0, 74), (1, 81), (10, 90), (11, 90), (20, 105), (21, 105), (30, 120), (31, 120)], 74) := by decide +kernel
theorem dX11_kind_84 : decode cX11_kind 84 = .ok (.aload_n 0, 1) := by decide +kernel
theorem dX11_kind_85 : decode cX11_kind 85 = .ok (.getfield 29, 3) := by decide +kernel
theorem dX11_kind_88 : decode cX11_kind 88 = .ok (.iload_n 1, 1) := by decide +kernel
theorem dX11_kind_89 : decode cX11_kind 89 = .ok (.iaload, 1) := by decide +kernel
theorem dX11_kind_90 : decode cX11_kind 90 = .ok (.ireturn, 1) := by decide +kernel
theorem dX11_kind_91 : decode cX11_kind 91 = .ok (.aload_n 0, 1) := by decide +kernel
theorem dX11_kind_92 : decode cX11_kind 92 = .ok (.getfield 138, 3) := by decide +kernel
theorem dX11_kind_95 : decode cX11_kind 95 = .ok (.iload_n 1, 1) := by decide +kernel
theorem dX11_kind_96 : decode cX11_kind 96 = .ok (.ishr, 1) := by decide +kernel
theorem dX11_kind_97 : decode cX11_kind 97 = .ok (.iconst 1, 1) := by decide +kernel
theorem dX11_kind_98 : decode cX11_kind 98 = .ok (.iand, 1) := by decide +kernel
theorem dX11_kind_99 : decode cX11_kind 99 = .ok (.ireturn, 1) := by decide +kernel
theorem dX11_kind_100 : decode cX11_kind 100 = .ok (.aload_n 0, 1) := by decide +kernel
theorem dX11_kind_101 : decode cX11_kind 101 = .ok (.getfield 20, 3) := by decide +kernel
theorem dX11_kind_104 : decode cX11_kind 104 = .ok (.bipush 6, 2) := by decide +kernel
theorem dX11_kind_106 : decode cX11_kind 106 = .ok (.iload_n 2, 1) := by decide +kernel
theorem dX11_kind_107 : decode cX11_kind 107 = .ok (.bipush 10, 2) := by decide +kernel
theorem dX11_kind_109 : decode cX11_kind 109 = .ok (.isub, 1) := by decide +kernel
theorem dX11_kind_110 : decode cX11_kind 110 = .ok (.imul, 1) := by decide +kernel
theorem dX11_kind_111 : decode cX11_kind 111 = .ok (.iload_n 1, 1) := by decide +kernel
theorem dX11_kind_112 : decode cX11_kind 112 = .ok (.iadd, 1) := by decide +kernel
theorem dX11_kind_113 : decode cX11_kind 113 = .ok (.iaload, 1) := by decide +kernel
theorem dX11_kind_114 : decode cX11_kind 114 = .ok (.ireturn, 1) := by decide +kernel
theorem dX11_kind_115 : decode cX11_kind 115 = .ok (.aload_n 0, 1) := by decide +kernel
theorem dX11_kind_116 : decode cX11_kind 116 = .ok (.getfield 23, 3) := by decide +kernel
theorem dX11_kind_119 : decode cX11_kind 119 = .ok (.bipush 6, 2) := by decide +kernel
theorem dX11_kind_121 : decode cX11_kind 121 = .ok (.iload_n 2, 1) := by decide +kernel
theorem dX11_kind_122 : decode cX11_kind 122 = .ok (.bipush 20, 2) := by decide +kernel
theorem dX11_kind_124 : decode cX11_kind 124 = .ok (.isub, 1) := by decide +kernel
theorem dX11_kind_125 : decode cX11_kind 125 = .ok (.imul, 1) := by decide +kernel
theorem dX11_kind_126 : decode cX11_kind 126 = .ok (.iload_n 1, 1) := by decide +kernel
theorem dX11_kind_127 : decode cX11_kind 127 = .ok (.iadd, 1) := by decide +kernel
theorem dX11_kind_128 : decode cX11_kind 128 = .ok (.iaload, 1) := by decide +kernel
theorem dX11_kind_129 : decode cX11_kind 129 = .ok (.ireturn, 1) := by decide +kernel
theorem dX11_kind_130 : decode cX11_kind 130 = .ok (.aload_n 0, 1) := by decide +kernel
theorem dX11_kind_131 : decode cX11_kind 131 = .ok (.iload_n 2, 1) := by decide +kernel
theorem dX11_kind_132 : decode cX11_kind 132 = .ok (.bipush 30, 2) := by decide +kernel
theorem dX11_kind_134 : decode cX11_kind 134 = .ok (.isub, 1) := by decide +kernel
theorem dX11_kind_135 : decode cX11_kind 135 = .ok (.iload_n 1, 1) := by decide +kernel
theorem dX11_kind_136 : decode cX11_kind 136 = .ok (.invokevirtual 261, 3) := by decide +kernel
theorem dX11_kind_139 : decode cX11_kind 139 = .ok (.invokestatic 265, 3) := by decide +kernel
theorem dX11_kind_142 : decode cX11_kind 142 = .ok (.ireturn, 1) := by decide +kernel
theorem dX11_kind_143 : decode cX11_kind 143 = .ok (.iconst (-1), 1) := by decide +kernel
theorem dX11_kind_144 : decode cX11_kind 144 = .ok (.ireturn, 1) := by decide +kernel
theorem dX11_colour_0 : decode cX11_colour 0 = .ok (.iload_n 1, 1) := by decide +kernel
theorem dX11_colour_1 : decode cX11_colour 1 = .ok (.i2l, 1) := by decide +kernel
theorem dX11_colour_2 : decode cX11_colour 2 = .ok (.lconst 0, 1) := by decide +kernel
theorem dX11_colour_3 : decode cX11_colour 3 = .ok (.ldc2_w 269, 3) := by decide +kernel
theorem dX11_colour_6 : decode cX11_colour 6 = .ok (.invokestatic 146, 3) := by decide +kernel
theorem dX11_colour_9 : decode cX11_colour 9 = .ok (.ifCond .eq 12, 3) := by decide +kernel
theorem dX11_colour_12 : decode cX11_colour 12 = .ok (.aload_n 0, 1) := by decide +kernel
theorem dX11_colour_13 : decode cX11_colour 13 = .ok (.getfield 32, 3) := by decide +kernel
theorem dX11_colour_16 : decode cX11_colour 16 = .ok (.iload_n 1, 1) := by decide +kernel
theorem dX11_colour_17 : decode cX11_colour 17 = .ok (.iaload, 1) := by decide +kernel
theorem dX11_colour_18 : decode cX11_colour 18 = .ok (.goto 4, 3) := by decide +kernel
theorem dX11_colour_21 : decode cX11_colour 21 = .ok (.iconst (-1), 1) := by decide +kernel
theorem dX11_colour_22 : decode cX11_colour 22 = .ok (.ireturn, 1) := by decide +kernel
theorem dX11_isThing_0 : decode cX11_isThing 0 = .ok (.iload_n 0, 1) := by decide +kernel
theorem dX11_isThing_1 : decode cX11_isThing 1 = .ok (.ifCond .eq 30, 3) := by decide +kernel
theorem dX11_isThing_4 : decode cX11_isThing 4 = .ok (.iload_n 0, 1) := by decide +kernel
theorem dX11_isThing_5 : decode cX11_isThing 5 = .ok (.i2l, 1) := by decide +kernel
theorem dX11_isThing_6 : decode cX11_isThing 6 = .ok (.lconst 0, 1) := by decide +kernel
theorem dX11_isThing_7 : decode cX11_isThing 7 = .ok (.ldc2_w 271, 3) := by decide +kernel
theorem dX11_isThing_10 : decode cX11_isThing 10 = .ok (.invokestatic 146, 3) := by decide +kernel
theorem dX11_isThing_13 : decode cX11_isThing 13 = .ok (.ifCond .eq 22, 3) := by decide +kernel
theorem dX11_isThing_16 : decode cX11_isThing 16 = .ok (.iload_n 0, 1) := by decide +kernel
theorem dX11_isThing_17 : decode cX11_isThing 17 = .ok (.bipush 8, 2) := by decide +kernel
theorem dX11_isThing_19 : decode cX11_isThing 19 = .ok (.irem, 1) := by decide +kernel
theorem dX11_isThing_20 : decode cX11_isThing 20 = .ok (.i2l, 1) := by decide +kernel
theorem dX11_isThing_21 : decode cX11_isThing 21 = .ok (.lconst 1, 1) := by decide +kernel
theorem dX11_isThing_22 : decode cX11_isThing 22 = .ok (.ldc2_w 255, 3) := by decide +kernel
theorem dX11_isThing_25 : decode cX11_isThing 25 = .ok (.invokestatic 146, 3) := by decide +kernel
theorem dX11_isThing_28 : decode cX11_isThing 28 = .ok (.ifCond .eq 7, 3) := by decide +kernel
theorem dX11_isThing_31 : decode cX11_isThing 31 = .ok (.iconst 1, 1) := by decide +kernel
theorem dX11_isThing_32 : decode cX11_isThing 32 = .ok (.goto 4, 3) := by decide +kernel
theorem dX11_isThing_35 : decode cX11_isThing 35 = .ok (.iconst 0, 1) := by decide +kernel
theorem dX11_isThing_36 : decode cX11_isThing 36 = .ok (.ireturn, 1) := by decide +kernel
theorem dX11_mirrorOf_0 : decode cX11_mirrorOf 0 = .ok (.iload_n 1, 1) := by decide +kernel
theorem dX11_mirrorOf_1 : decode cX11_mirrorOf 1 = .ok (.bipush 8, 2) := by decide +kernel
theorem dX11_mirrorOf_3 : decode cX11_mirrorOf 3 = .ok (.irem, 1) := by decide +kernel
theorem dX11_mirrorOf_4 : decode cX11_mirrorOf 4 = .ok (.istore_n 2, 1) := by decide +kernel
theorem dX11_mirrorOf_5 : decode cX11_mirrorOf 5 = .ok (.iload_n 1, 1) := by decide +kernel
theorem dX11_mirrorOf_6 : decode cX11_mirrorOf 6 = .ok (.bipush 32, 2) := by decide +kernel
theorem dX11_mirrorOf_8 : decode cX11_mirrorOf 8 = .ok (.idiv, 1) := by decide +kernel
theorem dX11_mirrorOf_9 : decode cX11_mirrorOf 9 = .ok (.istore_n 3, 1) := by decide +kernel
theorem dX11_mirrorOf_10 : decode cX11_mirrorOf 10 = .ok (.aload_n 0, 1) := by decide +kernel
theorem dX11_mirrorOf_11 : decode cX11_mirrorOf 11 = .ok (.getfield 138, 3) := by decide +kernel
theorem dX11_mirrorOf_14 : decode cX11_mirrorOf 14 = .ok (.iload_n 2, 1) := by decide +kernel
theorem dX11_mirrorOf_15 : decode cX11_mirrorOf 15 = .ok (.ishr, 1) := by decide +kernel
theorem dX11_mirrorOf_16 : decode cX11_mirrorOf 16 = .ok (.iconst 1, 1) := by decide +kernel
theorem dX11_mirrorOf_17 : decode cX11_mirrorOf 17 = .ok (.iand, 1) := by decide +kernel
theorem dX11_mirrorOf_18 : decode cX11_mirrorOf 18 = .ok (.iconst 1, 1) := by decide +kernel
theorem dX11_mirrorOf_19 : decode cX11_mirrorOf 19 = .ok (.if_icmp .ne 7, 3) := by decide +kernel
theorem dX11_mirrorOf_22 : decode cX11_mirrorOf 22 = .ok (.iload_n 3, 1) := by decide +kernel
theorem dX11_mirrorOf_23 : decode cX11_mirrorOf 23 = .ok (.goto 6, 3) := by decide +kernel
theorem dX11_mirrorOf_26 : decode cX11_mirrorOf 26 = .ok (.iconst 1, 1) := by decide +kernel
theorem dX11_mirrorOf_27 : decode cX11_mirrorOf 27 = .ok (.iload_n 3, 1) := by decide +kernel
theorem dX11_mirrorOf_28 : decode cX11_mirrorOf 28 = .ok (.isub, 1) := by decide +kernel
theorem dX11_mirrorOf_29 : decode cX11_mirrorOf 29 = .ok (.istore 4, 2) := by decide +kernel
theorem dX11_mirrorOf_31 : decode cX11_mirrorOf 31 = .ok (.iload_n 1, 1) := by decide +kernel
theorem dX11_mirrorOf_32 : decode cX11_mirrorOf 32 = .ok (.ifCond .ne 7, 3) := by decide +kernel
theorem dX11_mirrorOf_35 : decode cX11_mirrorOf 35 = .ok (.iconst 0, 1) := by decide +kernel
theorem dX11_mirrorOf_36 : decode cX11_mirrorOf 36 = .ok (.goto 30, 3) := by decide +kernel
theorem dX11_mirrorOf_39 : decode cX11_mirrorOf 39 = .ok (.aload_n 0, 1) := by decide +kernel
theorem dX11_mirrorOf_40 : decode cX11_mirrorOf 40 = .ok (.getfield 29, 3) := by decide +kernel
theorem dX11_mirrorOf_43 : decode cX11_mirrorOf 43 = .ok (.iload_n 2, 1) := by decide +kernel
theorem dX11_mirrorOf_44 : decode cX11_mirrorOf 44 = .ok (.iaload, 1) := by decide +kernel
theorem dX11_mirrorOf_45 : decode cX11_mirrorOf 45 = .ok (.bipush 8, 2) := by decide +kernel
theorem dX11_mirrorOf_47 : decode cX11_mirrorOf 47 = .ok (.aload_n 0, 1) := by decide +kernel
theorem dX11_mirrorOf_48 : decode cX11_mirrorOf 48 = .ok (.getfield 32, 3) := by decide +kernel
theorem dX11_mirrorOf_51 : decode cX11_mirrorOf 51 = .ok (.iload_n 1, 1) := by decide +kernel
theorem dX11_mirrorOf_52 : decode cX11_mirrorOf 52 = .ok (.bipush 8, 2) := by decide +kernel
theorem dX11_mirrorOf_54 : decode cX11_mirrorOf 54 = .ok (.idiv, 1) := by decide +kernel
theorem dX11_mirrorOf_55 : decode cX11_mirrorOf 55 = .ok (.iconst 4, 1) := by decide +kernel
theorem dX11_mirrorOf_56 : decode cX11_mirrorOf 56 = .ok (.irem, 1) := by decide +kernel
theorem dX11_mirrorOf_57 : decode cX11_mirrorOf 57 = .ok (.iaload, 1) := by decide +kernel
theorem dX11_mirrorOf_58 : decode cX11_mirrorOf 58 = .ok (.imul, 1) := by decide +kernel
theorem dX11_mirrorOf_59 : decode cX11_mirrorOf 59 = .ok (.iadd, 1) := by decide +kernel
theorem dX11_mirrorOf_60 : decode cX11_mirrorOf 60 = .ok (.bipush 32, 2) := by decide +kernel
theorem dX11_mirrorOf_62 : decode cX11_mirrorOf 62 = .ok (.iload 4, 2) := by decide +kernel
theorem dX11_mirrorOf_64 : decode cX11_mirrorOf 64 = .ok (.imul, 1) := by decide +kernel
theorem dX11_mirrorOf_65 : decode cX11_mirrorOf 65 = .ok (.iadd, 1) := by decide +kernel
theorem dX11_mirrorOf_66 : decode cX11_mirrorOf 66 = .ok (.ireturn, 1) := by decide +kernel
theorem dX11_mirror_0 : decode cX11_mirror 0 = .ok (.iload_n 1, 1) := by decide +kernel
theorem dX11_mirror_1 : decode cX11_mirror 1 = .ok (.invokestatic 273, 3) := by decide +kernel
theorem dX11_mirror_4 : decode cX11_mirror 4 = .ok (.ifCond .eq 11, 3) := by decide +kernel
theorem dX11_mirror_7 : decode cX11_mirror 7 = .ok (.aload_n 0, 1) := by decide +kernel
theorem dX11_mirror_8 : decode cX11_mirror 8 = .ok (.iload_n 1, 1) := by decide +kernel
theorem dX11_mirror_9 : decode cX11_mirror 9 = .ok (.invokevirtual 276, 3) := by decide +kernel
theorem dX11_mirror_12 : decode cX11_mirror 12 = .ok (.goto 4, 3) := by decide +kernel
theorem dX11_mirror_15 : decode cX11_mirror 15 = .ok (.iconst (-1), 1) := by decide +kernel
theorem dX11_mirror_16 : decode cX11_mirror 16 = .ok (.ireturn, 1) := by decide +kernel
theorem dX11_work_0 : decode cX11_work 0 = .ok (.iload_n 1, 1) := by decide +kernel
theorem dX11_work_1 : decode cX11_work 1 = .ok (.i2l, 1) := by decide +kernel
theorem dX11_work_2 : decode cX11_work 2 = .ok (.lconst 0, 1) := by decide +kernel
theorem dX11_work_3 : decode cX11_work 3 = .ok (.aload_n 0, 1) := by decide +kernel
theorem dX11_work_4 : decode cX11_work 4 = .ok (.getfield 7, 3) := by decide +kernel
theorem dX11_work_7 : decode cX11_work 7 = .ok (.bipush 16, 2) := by decide +kernel
theorem dX11_work_9 : decode cX11_work 9 = .ok (.iaload, 1) := by decide +kernel
theorem dX11_work_10 : decode cX11_work 10 = .ok (.iconst 1, 1) := by decide +kernel
theorem dX11_work_11 : decode cX11_work 11 = .ok (.isub, 1) := by decide +kernel
theorem dX11_work_12 : decode cX11_work 12 = .ok (.i2l, 1) := by decide +kernel
theorem dX11_work_13 : decode cX11_work 13 = .ok (.invokestatic 146, 3) := by decide +kernel
theorem dX11_work_16 : decode cX11_work 16 = .ok (.ifCond .eq 31, 3) := by decide +kernel
theorem dX11_work_19 : decode cX11_work 19 = .ok (.iload_n 2, 1) := by decide +kernel
theorem dX11_work_20 : decode cX11_work 20 = .ok (.i2l, 1) := by decide +kernel
theorem dX11_work_21 : decode cX11_work 21 = .ok (.lconst 0, 1) := by decide +kernel
theorem dX11_work_22 : decode cX11_work 22 = .ok (.ldc2_w 269, 3) := by decide +kernel
theorem dX11_work_25 : decode cX11_work 25 = .ok (.invokestatic 146, 3) := by decide +kernel
theorem dX11_work_28 : decode cX11_work 28 = .ok (.ifCond .eq 19, 3) := by decide +kernel
theorem dX11_work_31 : decode cX11_work 31 = .ok (.aload_n 0, 1) := by decide +kernel
theorem dX11_work_32 : decode cX11_work 32 = .ok (.getfield 7, 3) := by decide +kernel
theorem dX11_work_35 : decode cX11_work 35 = .ok (.bipush 17, 2) := by decide +kernel
theorem dX11_work_37 : decode cX11_work 37 = .ok (.iconst 4, 1) := by decide +kernel
theorem dX11_work_38 : decode cX11_work 38 = .ok (.iload_n 1, 1) := by decide +kernel
theorem dX11_work_39 : decode cX11_work 39 = .ok (.imul, 1) := by decide +kernel
theorem dX11_work_40 : decode cX11_work 40 = .ok (.iadd, 1) := by decide +kernel
theorem dX11_work_41 : decode cX11_work 41 = .ok (.iload_n 2, 1) := by decide +kernel
theorem dX11_work_42 : decode cX11_work 42 = .ok (.iadd, 1) := by decide +kernel
theorem dX11_work_43 : decode cX11_work 43 = .ok (.iaload, 1) := by decide +kernel
theorem dX11_work_44 : decode cX11_work 44 = .ok (.goto 4, 3) := by decide +kernel
theorem dX11_work_47 : decode cX11_work 47 = .ok (.iconst (-1), 1) := by decide +kernel
theorem dX11_work_48 : decode cX11_work 48 = .ok (.ireturn, 1) := by decide +kernel
theorem dX11_isBank_0 : decode cX11_isBank 0 = .ok (.iload_n 0, 1) := by decide +kernel
theorem dX11_isBank_1 : decode cX11_isBank 1 = .ok (.i2l, 1) := by decide +kernel
theorem dX11_isBank_2 : decode cX11_isBank 2 = .ok (.lconst 0, 1) := by decide +kernel
theorem dX11_isBank_3 : decode cX11_isBank 3 = .ok (.lconst 1, 1) := by decide +kernel
theorem dX11_isBank_4 : decode cX11_isBank 4 = .ok (.invokestatic 146, 3) := by decide +kernel
theorem dX11_isBank_7 : decode cX11_isBank 7 = .ok (.ireturn, 1) := by decide +kernel
theorem dX11_isLot_0 : decode cX11_isLot 0 = .ok (.iload_n 1, 1) := by decide +kernel
theorem dX11_isLot_1 : decode cX11_isLot 1 = .ok (.invokestatic 279, 3) := by decide +kernel
theorem dX11_isLot_4 : decode cX11_isLot 4 = .ok (.ifCond .eq 23, 3) := by decide +kernel
theorem dX11_isLot_7 : decode cX11_isLot 7 = .ok (.iload_n 2, 1) := by decide +kernel
theorem dX11_isLot_8 : decode cX11_isLot 8 = .ok (.i2l, 1) := by decide +kernel
theorem dX11_isLot_9 : decode cX11_isLot 9 = .ok (.lconst 0, 1) := by decide +kernel
theorem dX11_isLot_10 : decode cX11_isLot 10 = .ok (.aload_n 0, 1) := by decide +kernel
theorem dX11_isLot_11 : decode cX11_isLot 11 = .ok (.getfield 129, 3) := by decide +kernel
theorem dX11_isLot_14 : decode cX11_isLot 14 = .ok (.iconst 1, 1) := by decide +kernel
theorem dX11_isLot_15 : decode cX11_isLot 15 = .ok (.isub, 1) := by decide +kernel
theorem dX11_isLot_16 : decode cX11_isLot 16 = .ok (.i2l, 1) := by decide +kernel
theorem dX11_isLot_17 : decode cX11_isLot 17 = .ok (.invokestatic 146, 3) := by decide +kernel
theorem dX11_isLot_20 : decode cX11_isLot 20 = .ok (.ifCond .eq 7, 3) := by decide +kernel
theorem dX11_isLot_23 : decode cX11_isLot 23 = .ok (.iconst 1, 1) := by decide +kernel
theorem dX11_isLot_24 : decode cX11_isLot 24 = .ok (.goto 4, 3) := by decide +kernel
theorem dX11_isLot_27 : decode cX11_isLot 27 = .ok (.iconst 0, 1) := by decide +kernel
theorem dX11_isLot_28 : decode cX11_isLot 28 = .ok (.ireturn, 1) := by decide +kernel
theorem dX11_thing_0 : decode cX11_thing 0 = .ok (.aload_n 0, 1) := by decide +kernel
theorem dX11_thing_1 : decode cX11_thing 1 = .ok (.iload_n 1, 1) := by decide +kernel
theorem dX11_thing_2 : decode cX11_thing 2 = .ok (.iload_n 2, 1) := by decide +kernel
theorem dX11_thing_3 : decode cX11_thing 3 = .ok (.invokevirtual 282, 3) := by decide +kernel
theorem dX11_thing_6 : decode cX11_thing 6 = .ok (.ifCond .eq 17, 3) := by decide +kernel
theorem dX11_thing_9 : decode cX11_thing 9 = .ok (.aload_n 0, 1) := by decide +kernel
theorem dX11_thing_10 : decode cX11_thing 10 = .ok (.getfield 7, 3) := by decide +kernel
theorem dX11_thing_13 : decode cX11_thing 13 = .ok (.bipush 8, 2) := by decide +kernel
theorem dX11_thing_15 : decode cX11_thing 15 = .ok (.iload_n 1, 1) := by decide +kernel
theorem dX11_thing_16 : decode cX11_thing 16 = .ok (.imul, 1) := by decide +kernel
theorem dX11_thing_17 : decode cX11_thing 17 = .ok (.iload_n 2, 1) := by decide +kernel
theorem dX11_thing_18 : decode cX11_thing 18 = .ok (.iadd, 1) := by decide +kernel
theorem dX11_thing_19 : decode cX11_thing 19 = .ok (.iaload, 1) := by decide +kernel
theorem dX11_thing_20 : decode cX11_thing 20 = .ok (.goto 4, 3) := by decide +kernel
theorem dX11_thing_23 : decode cX11_thing 23 = .ok (.iconst (-1), 1) := by decide +kernel
theorem dX11_thing_24 : decode cX11_thing 24 = .ok (.ireturn, 1) := by decide +kernel
theorem dX11_put_0 : decode cX11_put 0 = .ok (.aload_n 0, 1) := by decide +kernel
theorem dX11_put_1 : decode cX11_put 1 = .ok (.iload_n 1, 1) := by decide +kernel
theorem dX11_put_2 : decode cX11_put 2 = .ok (.iload_n 2, 1) := by decide +kernel
theorem dX11_put_3 : decode cX11_put 3 = .ok (.invokevirtual 282, 3) := by decide +kernel
theorem dX11_put_6 : decode cX11_put 6 = .ok (.ifCond .eq 10, 3) := by decide +kernel
theorem dX11_put_9 : decode cX11_put 9 = .ok (.iload_n 3, 1) := by decide +kernel
theorem dX11_put_10 : decode cX11_put 10 = .ok (.invokestatic 273, 3) := by decide +kernel
theorem dX11_put_13 : decode cX11_put 13 = .ok (.ifCond .ne 5, 3) := by decide +kernel
theorem dX11_put_16 : decode cX11_put 16 = .ok (.iconst (-1), 1) := by decide +kernel
theorem dX11_put_17 : decode cX11_put 17 = .ok (.ireturn, 1) := by decide +kernel
theorem dX11_put_18 : decode cX11_put 18 = .ok (.aload_n 0, 1) := by decide +kernel
theorem dX11_put_19 : decode cX11_put 19 = .ok (.getfield 7, 3) := by decide +kernel
theorem dX11_put_22 : decode cX11_put 22 = .ok (.bipush 8, 2) := by decide +kernel
theorem dX11_put_24 : decode cX11_put 24 = .ok (.iload_n 1, 1) := by decide +kernel
theorem dX11_put_25 : decode cX11_put 25 = .ok (.imul, 1) := by decide +kernel
theorem dX11_put_26 : decode cX11_put 26 = .ok (.iload_n 2, 1) := by decide +kernel
theorem dX11_put_27 : decode cX11_put 27 = .ok (.iadd, 1) := by decide +kernel
theorem dX11_put_28 : decode cX11_put 28 = .ok (.iaload, 1) := by decide +kernel
theorem dX11_put_29 : decode cX11_put 29 = .ok (.istore 4, 2) := by decide +kernel
theorem dX11_put_31 : decode cX11_put 31 = .ok (.aload_n 0, 1) := by decide +kernel
theorem dX11_put_32 : decode cX11_put 32 = .ok (.getfield 7, 3) := by decide +kernel
theorem dX11_put_35 : decode cX11_put 35 = .ok (.bipush 8, 2) := by decide +kernel
theorem dX11_put_37 : decode cX11_put 37 = .ok (.iload_n 1, 1) := by decide +kernel
theorem dX11_put_38 : decode cX11_put 38 = .ok (.imul, 1) := by decide +kernel
theorem dX11_put_39 : decode cX11_put 39 = .ok (.iload_n 2, 1) := by decide +kernel
theorem dX11_put_40 : decode cX11_put 40 = .ok (.iadd, 1) := by decide +kernel
theorem dX11_put_41 : decode cX11_put 41 = .ok (.iload_n 3, 1) := by decide +kernel
theorem dX11_put_42 : decode cX11_put 42 = .ok (.iastore, 1) := by decide +kernel
theorem dX11_put_43 : decode cX11_put 43 = .ok (.iload 4, 2) := by decide +kernel
theorem dX11_put_45 : decode cX11_put 45 = .ok (.ireturn, 1) := by decide +kernel
theorem dX11_matchBy_0 : decode cX11_matchBy 0 = .ok (.iload_n 2, 1) := by decide +kernel
theorem dX11_matchBy_1 : decode cX11_matchBy 1 = .ok (.ifCond .ne 11, 3) := by decide +kernel
theorem dX11_matchBy_4 : decode cX11_matchBy 4 = .ok (.iload_n 3, 1) := by decide +kernel
theorem dX11_matchBy_5 : decode cX11_matchBy 5 = .ok (.iload_n 1, 1) := by decide +kernel
theorem dX11_matchBy_6 : decode cX11_matchBy 6 = .ok (.iadd, 1) := by decide +kernel
theorem dX11_matchBy_7 : decode cX11_matchBy 7 = .ok (.iconst 3, 1) := by decide +kernel
theorem dX11_matchBy_8 : decode cX11_matchBy 8 = .ok (.isub, 1) := by decide +kernel
theorem dX11_matchBy_9 : decode cX11_matchBy 9 = .ok (.goto 8, 3) := by decide +kernel
theorem dX11_matchBy_12 : decode cX11_matchBy 12 = .ok (.iload_n 3, 1) := by decide +kernel
theorem dX11_matchBy_13 : decode cX11_matchBy 13 = .ok (.iload_n 1, 1) := by decide +kernel
theorem dX11_matchBy_14 : decode cX11_matchBy 14 = .ok (.isub, 1) := by decide +kernel
theorem dX11_matchBy_15 : decode cX11_matchBy 15 = .ok (.iconst 3, 1) := by decide +kernel
theorem dX11_matchBy_16 : decode cX11_matchBy 16 = .ok (.iadd, 1) := by decide +kernel
theorem dX11_matchBy_17 : decode cX11_matchBy 17 = .ok (.istore 4, 2) := by decide +kernel
theorem dX11_matchBy_19 : decode cX11_matchBy 19 = .ok (.iload 4, 2) := by decide +kernel
theorem dX11_matchBy_21 : decode cX11_matchBy 21 = .ok (.i2l, 1) := by decide +kernel
theorem dX11_matchBy_22 : decode cX11_matchBy 22 = .ok (.lconst 0, 1) := by decide +kernel
theorem dX11_matchBy_23 : decode cX11_matchBy 23 = .ok (.aload_n 0, 1) := by decide +kernel
theorem dX11_matchBy_24 : decode cX11_matchBy 24 = .ok (.getfield 129, 3) := by decide +kernel
theorem dX11_matchBy_27 : decode cX11_matchBy 27 = .ok (.iconst 1, 1) := by decide +kernel
theorem dX11_matchBy_28 : decode cX11_matchBy 28 = .ok (.isub, 1) := by decide +kernel
theorem dX11_matchBy_29 : decode cX11_matchBy 29 = .ok (.i2l, 1) := by decide +kernel
theorem dX11_matchBy_30 : decode cX11_matchBy 30 = .ok (.invokestatic 146, 3) := by decide +kernel
theorem dX11_matchBy_33 : decode cX11_matchBy 33 = .ok (.ifCond .eq 8, 3) := by decide +kernel
theorem dX11_matchBy_36 : decode cX11_matchBy 36 = .ok (.iload 4, 2) := by decide +kernel
theorem dX11_matchBy_38 : decode cX11_matchBy 38 = .ok (.goto 5, 3) := by decide +kernel
theorem dX11_matchBy_41 : decode cX11_matchBy 41 = .ok (.bipush (-4), 2) := by decide +kernel
theorem dX11_matchBy_43 : decode cX11_matchBy 43 = .ok (.ireturn, 1) := by decide +kernel
theorem dX11_matchOf_0 : decode cX11_matchOf 0 = .ok (.aload_n 0, 1) := by decide +kernel
theorem dX11_matchOf_1 : decode cX11_matchOf 1 = .ok (.aload_n 0, 1) := by decide +kernel
theorem dX11_matchOf_2 : decode cX11_matchOf 2 = .ok (.getfield 132, 3) := by decide +kernel
theorem dX11_matchOf_5 : decode cX11_matchOf 5 = .ok (.iload_n 1, 1) := by decide +kernel
theorem dX11_matchOf_6 : decode cX11_matchOf 6 = .ok (.iload_n 2, 1) := by decide +kernel
theorem dX11_matchOf_7 : decode cX11_matchOf 7 = .ok (.invokevirtual 285, 3) := by decide +kernel
theorem dX11_matchOf_10 : decode cX11_matchOf 10 = .ok (.ireturn, 1) := by decide +kernel
theorem dX11_match_0 : decode cX11_match 0 = .ok (.aload_n 0, 1) := by decide +kernel
theorem dX11_match_1 : decode cX11_match 1 = .ok (.iload_n 1, 1) := by decide +kernel
theorem dX11_match_2 : decode cX11_match 2 = .ok (.iload_n 2, 1) := by decide +kernel
theorem dX11_match_3 : decode cX11_match 3 = .ok (.invokevirtual 282, 3) := by decide +kernel
theorem dX11_match_6 : decode cX11_match 6 = .ok (.ifCond .eq 12, 3) := by decide +kernel
theorem dX11_match_9 : decode cX11_match 9 = .ok (.aload_n 0, 1) := by decide +kernel
theorem dX11_match_10 : decode cX11_match 10 = .ok (.iload_n 1, 1) := by decide +kernel
theorem dX11_match_11 : decode cX11_match 11 = .ok (.iload_n 2, 1) := by decide +kernel
theorem dX11_match_12 : decode cX11_match 12 = .ok (.invokevirtual 289, 3) := by decide +kernel
theorem dX11_match_15 : decode cX11_match 15 = .ok (.goto 4, 3) := by decide +kernel
theorem dX11_match_18 : decode cX11_match 18 = .ok (.iconst (-1), 1) := by decide +kernel
theorem dX11_match_19 : decode cX11_match 19 = .ok (.ireturn, 1) := by decide +kernel
theorem dX11_asNow_0 : decode cX11_asNow 0 = .ok (.iconst 0, 1) := by decide +kernel
theorem dX11_asNow_1 : decode cX11_asNow 1 = .ok (.istore_n 1, 1) := by decide +kernel
theorem dX11_asNow_2 : decode cX11_asNow 2 = .ok (.iload_n 1, 1) := by decide +kernel
theorem dX11_asNow_3 : decode cX11_asNow 3 = .ok (.bipush 16, 2) := by decide +kernel
theorem dX11_asNow_5 : decode cX11_asNow 5 = .ok (.if_icmp .ge 21, 3) := by decide +kernel
theorem dX11_asNow_8 : decode cX11_asNow 8 = .ok (.aload_n 0, 1) := by decide +kernel
theorem dX11_asNow_9 : decode cX11_asNow 9 = .ok (.getfield 59, 3) := by decide +kernel
theorem dX11_asNow_12 : decode cX11_asNow 12 = .ok (.iload_n 1, 1) := by decide +kernel
theorem dX11_asNow_13 : decode cX11_asNow 13 = .ok (.aload_n 0, 1) := by decide +kernel
theorem dX11_asNow_14 : decode cX11_asNow 14 = .ok (.getfield 7, 3) := by decide +kernel
theorem dX11_asNow_17 : decode cX11_asNow 17 = .ok (.iload_n 1, 1) := by decide +kernel
theorem dX11_asNow_18 : decode cX11_asNow 18 = .ok (.iaload, 1) := by decide +kernel
theorem dX11_asNow_19 : decode cX11_asNow 19 = .ok (.iastore, 1) := by decide +kernel
theorem dX11_asNow_20 : decode cX11_asNow 20 = .ok (.iinc 1 1, 3) := by decide +kernel
theorem dX11_asNow_23 : decode cX11_asNow 23 = .ok (.goto (-21), 3) := by decide +kernel
theorem dX11_asNow_26 : decode cX11_asNow 26 = .ok (.return_, 1) := by decide +kernel
theorem dX11_isEven_0 : decode cX11_isEven 0 = .ok (.aload_n 0, 1) := by decide +kernel
theorem dX11_isEven_1 : decode cX11_isEven 1 = .ok (.iconst 0, 1) := by decide +kernel
theorem dX11_isEven_2 : decode cX11_isEven 2 = .ok (.iload_n 1, 1) := by decide +kernel
theorem dX11_isEven_3 : decode cX11_isEven 3 = .ok (.invokevirtual 289, 3) := by decide +kernel
theorem dX11_isEven_6 : decode cX11_isEven 6 = .ok (.istore_n 2, 1) := by decide +kernel
theorem dX11_isEven_7 : decode cX11_isEven 7 = .ok (.iload_n 2, 1) := by decide +kernel
theorem dX11_isEven_8 : decode cX11_isEven 8 = .ok (.bipush (-4), 2) := by decide +kernel
theorem dX11_isEven_10 : decode cX11_isEven 10 = .ok (.if_icmp .eq 25, 3) := by decide +kernel
theorem dX11_isEven_13 : decode cX11_isEven 13 = .ok (.aload_n 0, 1) := by decide +kernel
theorem dX11_isEven_14 : decode cX11_isEven 14 = .ok (.getfield 59, 3) := by decide +kernel
theorem dX11_isEven_17 : decode cX11_isEven 17 = .ok (.bipush 8, 2) := by decide +kernel
theorem dX11_isEven_19 : decode cX11_isEven 19 = .ok (.iload_n 2, 1) := by decide +kernel
theorem dX11_isEven_20 : decode cX11_isEven 20 = .ok (.iadd, 1) := by decide +kernel
theorem dX11_isEven_21 : decode cX11_isEven 21 = .ok (.iaload, 1) := by decide +kernel
theorem dX11_isEven_22 : decode cX11_isEven 22 = .ok (.aload_n 0, 1) := by decide +kernel
theorem dX11_isEven_23 : decode cX11_isEven 23 = .ok (.aload_n 0, 1) := by decide +kernel
theorem dX11_isEven_24 : decode cX11_isEven 24 = .ok (.getfield 59, 3) := by decide +kernel
theorem dX11_isEven_27 : decode cX11_isEven 27 = .ok (.iload_n 1, 1) := by decide +kernel
theorem dX11_isEven_28 : decode cX11_isEven 28 = .ok (.iaload, 1) := by decide +kernel
theorem dX11_isEven_29 : decode cX11_isEven 29 = .ok (.invokevirtual 276, 3) := by decide +kernel
theorem dX11_isEven_32 : decode cX11_isEven 32 = .ok (.if_icmp .ne 7, 3) := by decide +kernel
theorem dX11_isEven_35 : decode cX11_isEven 35 = .ok (.iconst 1, 1) := by decide +kernel
theorem dX11_isEven_36 : decode cX11_isEven 36 = .ok (.goto 4, 3) := by decide +kernel
theorem dX11_isEven_39 : decode cX11_isEven 39 = .ok (.iconst 0, 1) := by decide +kernel
theorem dX11_isEven_40 : decode cX11_isEven 40 = .ok (.ireturn, 1) := by decide +kernel
theorem dX11_oddLots_0 : decode cX11_oddLots 0 = .ok (.iconst 0, 1) := by decide +kernel
theorem dX11_oddLots_1 : decode cX11_oddLots 1 = .ok (.istore_n 1, 1) := by decide +kernel
theorem dX11_oddLots_2 : decode cX11_oddLots 2 = .ok (.iconst 0, 1) := by decide +kernel
theorem dX11_oddLots_3 : decode cX11_oddLots 3 = .ok (.istore_n 2, 1) := by decide +kernel
theorem dX11_oddLots_4 : decode cX11_oddLots 4 = .ok (.iload_n 2, 1) := by decide +kernel
theorem dX11_oddLots_5 : decode cX11_oddLots 5 = .ok (.aload_n 0, 1) := by decide +kernel
theorem dX11_oddLots_6 : decode cX11_oddLots 6 = .ok (.getfield 129, 3) := by decide +kernel
theorem dX11_oddLots_9 : decode cX11_oddLots 9 = .ok (.if_icmp .ge 30, 3) := by decide +kernel
theorem dX11_oddLots_12 : decode cX11_oddLots 12 = .ok (.iload_n 1, 1) := by decide +kernel
theorem dX11_oddLots_13 : decode cX11_oddLots 13 = .ok (.aload_n 0, 1) := by decide +kernel
theorem dX11_oddLots_14 : decode cX11_oddLots 14 = .ok (.iload_n 2, 1) := by decide +kernel
theorem dX11_oddLots_15 : decode cX11_oddLots 15 = .ok (.invokevirtual 292, 3) := by decide +kernel
theorem dX11_oddLots_18 : decode cX11_oddLots 18 = .ok (.ifCond .ne 7, 3) := by decide +kernel
theorem dX11_oddLots_21 : decode cX11_oddLots 21 = .ok (.iconst 1, 1) := by decide +kernel
theorem dX11_oddLots_22 : decode cX11_oddLots 22 = .ok (.goto 4, 3) := by decide +kernel
theorem dX11_oddLots_25 : decode cX11_oddLots 25 = .ok (.iconst 0, 1) := by decide +kernel
theorem dX11_oddLots_26 : decode cX11_oddLots 26 = .ok (.invokestatic 265, 3) := by decide +kernel
theorem dX11_oddLots_29 : decode cX11_oddLots 29 = .ok (.iload_n 2, 1) := by decide +kernel
theorem dX11_oddLots_30 : decode cX11_oddLots 30 = .ok (.ishl, 1) := by decide +kernel
theorem dX11_oddLots_31 : decode cX11_oddLots 31 = .ok (.ior, 1) := by decide +kernel
theorem dX11_oddLots_32 : decode cX11_oddLots 32 = .ok (.istore_n 1, 1) := by decide +kernel
theorem dX11_oddLots_33 : decode cX11_oddLots 33 = .ok (.iinc 2 1, 3) := by decide +kernel
theorem dX11_oddLots_36 : decode cX11_oddLots 36 = .ok (.goto (-32), 3) := by decide +kernel
theorem dX11_oddLots_39 : decode cX11_oddLots 39 = .ok (.iload_n 1, 1) := by decide +kernel
theorem dX11_oddLots_40 : decode cX11_oddLots 40 = .ok (.ireturn, 1) := by decide +kernel
theorem dX11_odd_0 : decode cX11_odd 0 = .ok (.aload_n 0, 1) := by decide +kernel
theorem dX11_odd_1 : decode cX11_odd 1 = .ok (.invokevirtual 295, 3) := by decide +kernel
theorem dX11_odd_4 : decode cX11_odd 4 = .ok (.aload_n 0, 1) := by decide +kernel
theorem dX11_odd_5 : decode cX11_odd 5 = .ok (.invokevirtual 298, 3) := by decide +kernel
theorem dX11_odd_8 : decode cX11_odd 8 = .ok (.ireturn, 1) := by decide +kernel
theorem dX11_third_0 : decode cX11_third 0 = .ok (.aload_n 0, 1) := by decide +kernel
theorem dX11_third_1 : decode cX11_third 1 = .ok (.iconst 0, 1) := by decide +kernel
theorem dX11_third_2 : decode cX11_third 2 = .ok (.iload_n 1, 1) := by decide +kernel
theorem dX11_third_3 : decode cX11_third 3 = .ok (.invokevirtual 282, 3) := by decide +kernel
theorem dX11_third_6 : decode cX11_third 6 = .ok (.ifCond .ne 5, 3) := by decide +kernel
theorem dX11_third_9 : decode cX11_third 9 = .ok (.iconst (-1), 1) := by decide +kernel
theorem dX11_third_10 : decode cX11_third 10 = .ok (.ireturn, 1) := by decide +kernel
theorem dX11_third_11 : decode cX11_third 11 = .ok (.aload_n 0, 1) := by decide +kernel
theorem dX11_third_12 : decode cX11_third 12 = .ok (.iconst 0, 1) := by decide +kernel
theorem dX11_third_13 : decode cX11_third 13 = .ok (.iload_n 1, 1) := by decide +kernel
theorem dX11_third_14 : decode cX11_third 14 = .ok (.invokevirtual 289, 3) := by decide +kernel
theorem dX11_third_17 : decode cX11_third 17 = .ok (.istore_n 2, 1) := by decide +kernel
theorem dX11_third_18 : decode cX11_third 18 = .ok (.iload_n 2, 1) := by decide +kernel
theorem dX11_third_19 : decode cX11_third 19 = .ok (.bipush (-4), 2) := by decide +kernel
theorem dX11_third_21 : decode cX11_third 21 = .ok (.if_icmp .ne 8, 3) := by decide +kernel
theorem dX11_third_24 : decode cX11_third 24 = .ok (.bipush (-4), 2) := by decide +kernel
theorem dX11_third_26 : decode cX11_third 26 = .ok (.goto 16, 3) := by decide +kernel
theorem dX11_third_29 : decode cX11_third 29 = .ok (.aload_n 0, 1) := by decide +kernel
theorem dX11_third_30 : decode cX11_third 30 = .ok (.aload_n 0, 1) := by decide +kernel
theorem dX11_third_31 : decode cX11_third 31 = .ok (.getfield 7, 3) := by decide +kernel
theorem dX11_third_34 : decode cX11_third 34 = .ok (.bipush 8, 2) := by decide +kernel
theorem dX11_third_36 : decode cX11_third 36 = .ok (.iload_n 2, 1) := by decide +kernel
theorem dX11_third_37 : decode cX11_third 37 = .ok (.iadd, 1) := by decide +kernel
theorem dX11_third_38 : decode cX11_third 38 = .ok (.iaload, 1) := by decide +kernel
theorem dX11_third_39 : decode cX11_third 39 = .ok (.invokevirtual 276, 3) := by decide +kernel
theorem dX11_third_42 : decode cX11_third 42 = .ok (.ireturn, 1) := by decide +kernel
theorem dX11_startRun_0 : decode cX11_startRun 0 = .ok (.aload_n 0, 1) := by decide +kernel
theorem dX11_startRun_1 : decode cX11_startRun 1 = .ok (.invokevirtual 295, 3) := by decide +kernel
theorem dX11_startRun_4 : decode cX11_startRun 4 = .ok (.iconst 0, 1) := by decide +kernel
theorem dX11_startRun_5 : decode cX11_startRun 5 = .ok (.istore_n 1, 1) := by decide +kernel
theorem dX11_startRun_6 : decode cX11_startRun 6 = .ok (.iload_n 1, 1) := by decide +kernel
theorem dX11_startRun_7 : decode cX11_startRun 7 = .ok (.bipush 8, 2) := by decide +kernel
theorem dX11_startRun_9 : decode cX11_startRun 9 = .ok (.if_icmp .ge 24, 3) := by decide +kernel
theorem dX11_startRun_12 : decode cX11_startRun 12 = .ok (.aload_n 0, 1) := by decide +kernel
theorem dX11_startRun_13 : decode cX11_startRun 13 = .ok (.getfield 62, 3) := by decide +kernel
theorem dX11_startRun_16 : decode cX11_startRun 16 = .ok (.iload_n 1, 1) := by decide +kernel
theorem dX11_startRun_17 : decode cX11_startRun 17 = .ok (.bipush (-4), 2) := by decide +kernel
theorem dX11_startRun_19 : decode cX11_startRun 19 = .ok (.iastore, 1) := by decide +kernel
theorem dX11_startRun_20 : decode cX11_startRun 20 = .ok (.aload_n 0, 1) := by decide +kernel
theorem dX11_startRun_21 : decode cX11_startRun 21 = .ok (.getfield 68, 3) := by decide +kernel
theorem dX11_startRun_24 : decode cX11_startRun 24 = .ok (.iload_n 1, 1) := by decide +kernel
theorem dX11_startRun_25 : decode cX11_startRun 25 = .ok (.iconst 0, 1) := by decide +kernel
theorem dX11_startRun_26 : decode cX11_startRun 26 = .ok (.bastore, 1) := by decide +kernel
theorem dX11_startRun_27 : decode cX11_startRun 27 = .ok (.iinc 1 1, 3) := by decide +kernel
theorem dX11_startRun_30 : decode cX11_startRun 30 = .ok (.goto (-24), 3) := by decide +kernel
theorem dX11_startRun_33 : decode cX11_startRun 33 = .ok (.aload_n 0, 1) := by decide +kernel
theorem dX11_startRun_34 : decode cX11_startRun 34 = .ok (.getfield 71, 3) := by decide +kernel
theorem dX11_startRun_37 : decode cX11_startRun 37 = .ok (.iconst 0, 1) := by decide +kernel
theorem dX11_startRun_38 : decode cX11_startRun 38 = .ok (.iconst 0, 1) := by decide +kernel
theorem dX11_startRun_39 : decode cX11_startRun 39 = .ok (.iastore, 1) := by decide +kernel
theorem dX11_startRun_40 : decode cX11_startRun 40 = .ok (.aload_n 0, 1) := by decide +kernel
theorem dX11_startRun_41 : decode cX11_startRun 41 = .ok (.getfield 71, 3) := by decide +kernel
theorem dX11_startRun_44 : decode cX11_startRun 44 = .ok (.iconst 1, 1) := by decide +kernel
theorem dX11_startRun_45 : decode cX11_startRun 45 = .ok (.iconst 0, 1) := by decide +kernel
theorem dX11_startRun_46 : decode cX11_startRun 46 = .ok (.iastore, 1) := by decide +kernel
theorem dX11_startRun_47 : decode cX11_startRun 47 = .ok (.return_, 1) := by decide +kernel
theorem dX11_works_0 : decode cX11_works 0 = .ok (.aload_n 0, 1) := by decide +kernel
theorem dX11_works_1 : decode cX11_works 1 = .ok (.getfield 7, 3) := by decide +kernel
theorem dX11_works_4 : decode cX11_works 4 = .ok (.bipush 17, 2) := by decide +kernel
theorem dX11_works_6 : decode cX11_works 6 = .ok (.iconst 4, 1) := by decide +kernel
theorem dX11_works_7 : decode cX11_works 7 = .ok (.iload_n 1, 1) := by decide +kernel
theorem dX11_works_8 : decode cX11_works 8 = .ok (.imul, 1) := by decide +kernel
theorem dX11_works_9 : decode cX11_works 9 = .ok (.iadd, 1) := by decide +kernel
theorem dX11_works_10 : decode cX11_works 10 = .ok (.iconst 1, 1) := by decide +kernel
theorem dX11_works_11 : decode cX11_works 11 = .ok (.iadd, 1) := by decide +kernel
theorem dX11_works_12 : decode cX11_works 12 = .ok (.iaload, 1) := by decide +kernel
theorem dX11_works_13 : decode cX11_works 13 = .ok (.istore_n 2, 1) := by decide +kernel
theorem dX11_works_14 : decode cX11_works 14 = .ok (.aload_n 0, 1) := by decide +kernel
theorem dX11_works_15 : decode cX11_works 15 = .ok (.getfield 7, 3) := by decide +kernel
theorem dX11_works_18 : decode cX11_works 18 = .ok (.bipush 17, 2) := by decide +kernel
theorem dX11_works_20 : decode cX11_works 20 = .ok (.iconst 4, 1) := by decide +kernel
theorem dX11_works_21 : decode cX11_works 21 = .ok (.iload_n 1, 1) := by decide +kernel
theorem dX11_works_22 : decode cX11_works 22 = .ok (.imul, 1) := by decide +kernel
theorem dX11_works_23 : decode cX11_works 23 = .ok (.iadd, 1) := by decide +kernel
theorem dX11_works_24 : decode cX11_works 24 = .ok (.iconst 2, 1) := by decide +kernel
theorem dX11_works_25 : decode cX11_works 25 = .ok (.iadd, 1) := by decide +kernel
theorem dX11_works_26 : decode cX11_works 26 = .ok (.iaload, 1) := by decide +kernel
theorem dX11_works_27 : decode cX11_works 27 = .ok (.istore_n 3, 1) := by decide +kernel
theorem dX11_works_28 : decode cX11_works 28 = .ok (.aload_n 0, 1) := by decide +kernel
theorem dX11_works_29 : decode cX11_works 29 = .ok (.getfield 7, 3) := by decide +kernel
theorem dX11_works_32 : decode cX11_works 32 = .ok (.bipush 17, 2) := by decide +kernel
theorem dX11_works_34 : decode cX11_works 34 = .ok (.iconst 4, 1) := by decide +kernel
theorem dX11_works_35 : decode cX11_works 35 = .ok (.iload_n 1, 1) := by decide +kernel
theorem dX11_works_36 : decode cX11_works 36 = .ok (.imul, 1) := by decide +kernel
theorem dX11_works_37 : decode cX11_works 37 = .ok (.iadd, 1) := by decide +kernel
theorem dX11_works_38 : decode cX11_works 38 = .ok (.iconst 3, 1) := by decide +kernel
theorem dX11_works_39 : decode cX11_works 39 = .ok (.iadd, 1) := by decide +kernel
theorem dX11_works_40 : decode cX11_works 40 = .ok (.iaload, 1) := by decide +kernel
theorem dX11_works_41 : decode cX11_works 41 = .ok (.istore 4, 2) := by decide +kernel
theorem dX11_works_43 : decode cX11_works 43 = .ok (.aload_n 0, 1) := by decide +kernel
theorem dX11_works_44 : decode cX11_works 44 = .ok (.iload_n 2, 1) := by decide +kernel
theorem dX11_works_45 : decode cX11_works 45 = .ok (.iload_n 3, 1) := by decide +kernel
theorem dX11_works_46 : decode cX11_works 46 = .ok (.invokevirtual 289, 3) := by decide +kernel
theorem dX11_works_49 : decode cX11_works 49 = .ok (.istore 5, 2) := by decide +kernel
theorem dX11_works_51 : decode cX11_works 51 = .ok (.bipush 8, 2) := by decide +kernel
theorem dX11_works_53 : decode cX11_works 53 = .ok (.iconst 1, 1) := by decide +kernel
theorem dX11_works_54 : decode cX11_works 54 = .ok (.iload_n 2, 1) := by decide +kernel
theorem dX11_works_55 : decode cX11_works 55 = .ok (.isub, 1) := by decide +kernel
theorem dX11_works_56 : decode cX11_works 56 = .ok (.imul, 1) := by decide +kernel
theorem dX11_works_57 : decode cX11_works 57 = .ok (.iload 5, 2) := by decide +kernel
theorem dX11_works_59 : decode cX11_works 59 = .ok (.iadd, 1) := by decide +kernel
theorem dX11_works_60 : decode cX11_works 60 = .ok (.istore 6, 2) := by decide +kernel
theorem dX11_works_62 : decode cX11_works 62 = .ok (.aload_n 0, 1) := by decide +kernel
theorem dX11_works_63 : decode cX11_works 63 = .ok (.iload_n 2, 1) := by decide +kernel
theorem dX11_works_64 : decode cX11_works 64 = .ok (.iload 4, 2) := by decide +kernel
theorem dX11_works_66 : decode cX11_works 66 = .ok (.bipush 8, 2) := by decide +kernel
theorem dX11_works_68 : decode cX11_works 68 = .ok (.irem, 1) := by decide +kernel
theorem dX11_works_69 : decode cX11_works 69 = .ok (.invokevirtual 261, 3) := by decide +kernel
theorem dX11_works_72 : decode cX11_works 72 = .ok (.ifCond .ne 30, 3) := by decide +kernel
theorem dX11_works_75 : decode cX11_works 75 = .ok (.iload 5, 2) := by decide +kernel
theorem dX11_works_77 : decode cX11_works 77 = .ok (.bipush (-4), 2) := by decide +kernel
theorem dX11_works_79 : decode cX11_works 79 = .ok (.if_icmp .eq 33, 3) := by decide +kernel
theorem dX11_works_82 : decode cX11_works 82 = .ok (.aload_n 0, 1) := by decide +kernel
theorem dX11_works_83 : decode cX11_works 83 = .ok (.iconst 1, 1) := by decide +kernel
theorem dX11_works_84 : decode cX11_works 84 = .ok (.iload_n 2, 1) := by decide +kernel
theorem dX11_works_85 : decode cX11_works 85 = .ok (.isub, 1) := by decide +kernel
theorem dX11_works_86 : decode cX11_works 86 = .ok (.aload_n 0, 1) := by decide +kernel
theorem dX11_works_87 : decode cX11_works 87 = .ok (.getfield 29, 3) := by decide +kernel
theorem dX11_works_90 : decode cX11_works 90 = .ok (.iload 4, 2) := by decide +kernel
theorem dX11_works_92 : decode cX11_works 92 = .ok (.bipush 8, 2) := by decide +kernel
theorem dX11_works_94 : decode cX11_works 94 = .ok (.irem, 1) := by decide +kernel
theorem dX11_works_95 : decode cX11_works 95 = .ok (.iaload, 1) := by decide +kernel
theorem dX11_works_96 : decode cX11_works 96 = .ok (.invokevirtual 261, 3) := by decide +kernel
theorem dX11_works_99 : decode cX11_works 99 = .ok (.ifCond .eq 13, 3) := by decide +kernel
theorem dX11_works_102 : decode cX11_works 102 = .ok (.aload_n 0, 1) := by decide +kernel
theorem dX11_works_103 : decode cX11_works 103 = .ok (.getfield 74, 3) := by decide +kernel
theorem dX11_works_106 : decode cX11_works 106 = .ok (.iload_n 1, 1) := by decide +kernel
theorem dX11_works_107 : decode cX11_works 107 = .ok (.iconst 2, 1) := by decide +kernel
theorem dX11_works_108 : decode cX11_works 108 = .ok (.iastore, 1) := by decide +kernel
theorem dX11_works_109 : decode cX11_works 109 = .ok (.goto 125, 3) := by decide +kernel
theorem dX11_works_112 : decode cX11_works 112 = .ok (.iload 5, 2) := by decide +kernel
theorem dX11_works_114 : decode cX11_works 114 = .ok (.bipush (-4), 2) := by decide +kernel
theorem dX11_works_116 : decode cX11_works 116 = .ok (.if_icmp .eq 39, 3) := by decide +kernel
theorem dX11_works_119 : decode cX11_works 119 = .ok (.aload_n 0, 1) := by decide +kernel
theorem dX11_works_120 : decode cX11_works 120 = .ok (.getfield 65, 3) := by decide +kernel
theorem dX11_works_123 : decode cX11_works 123 = .ok (.iload 6, 2) := by decide +kernel
theorem dX11_works_125 : decode cX11_works 125 = .ok (.baload, 1) := by decide +kernel
theorem dX11_works_126 : decode cX11_works 126 = .ok (.ifCond .eq 29, 3) := by decide +kernel
theorem dX11_works_129 : decode cX11_works 129 = .ok (.aload_n 0, 1) := by decide +kernel
theorem dX11_works_130 : decode cX11_works 130 = .ok (.getfield 59, 3) := by decide +kernel
theorem dX11_works_133 : decode cX11_works 133 = .ok (.iload 6, 2) := by decide +kernel
theorem dX11_works_135 : decode cX11_works 135 = .ok (.iaload, 1) := by decide +kernel
theorem dX11_works_136 : decode cX11_works 136 = .ok (.aload_n 0, 1) := by decide +kernel
theorem dX11_works_137 : decode cX11_works 137 = .ok (.iload 4, 2) := by decide +kernel
theorem dX11_works_139 : decode cX11_works 139 = .ok (.invokevirtual 276, 3) := by decide +kernel
theorem dX11_works_142 : decode cX11_works 142 = .ok (.if_icmp .eq 13, 3) := by decide +kernel
theorem dX11_works_145 : decode cX11_works 145 = .ok (.aload_n 0, 1) := by decide +kernel
theorem dX11_works_146 : decode cX11_works 146 = .ok (.getfield 74, 3) := by decide +kernel
theorem dX11_works_149 : decode cX11_works 149 = .ok (.iload_n 1, 1) := by decide +kernel
theorem dX11_works_150 : decode cX11_works 150 = .ok (.iconst 1, 1) := by decide +kernel
theorem dX11_works_151 : decode cX11_works 151 = .ok (.iastore, 1) := by decide +kernel
theorem dX11_works_152 : decode cX11_works 152 = .ok (.goto 82, 3) := by decide +kernel
theorem dX11_works_155 : decode cX11_works 155 = .ok (.aload_n 0, 1) := by decide +kernel
theorem dX11_works_156 : decode cX11_works 156 = .ok (.getfield 74, 3) := by decide +kernel
theorem dX11_works_159 : decode cX11_works 159 = .ok (.iload_n 1, 1) := by decide +kernel
theorem dX11_works_160 : decode cX11_works 160 = .ok (.iconst 0, 1) := by decide +kernel
theorem dX11_works_161 : decode cX11_works 161 = .ok (.iastore, 1) := by decide +kernel
theorem dX11_works_162 : decode cX11_works 162 = .ok (.aload_n 0, 1) := by decide +kernel
theorem dX11_works_163 : decode cX11_works 163 = .ok (.getfield 71, 3) := by decide +kernel
theorem dX11_works_166 : decode cX11_works 166 = .ok (.iload_n 2, 1) := by decide +kernel
theorem dX11_works_167 : decode cX11_works 167 = .ok (.dup2, 1) := by decide +kernel
theorem dX11_works_168 : decode cX11_works 168 = .ok (.iaload, 1) := by decide +kernel
theorem dX11_works_169 : decode cX11_works 169 = .ok (.aload_n 0, 1) := by decide +kernel
theorem dX11_works_170 : decode cX11_works 170 = .ok (.getfield 20, 3) := by decide +kernel
theorem dX11_works_173 : decode cX11_works 173 = .ok (.bipush 6, 2) := by decide +kernel
theorem dX11_works_175 : decode cX11_works 175 = .ok (.iload_n 2, 1) := by decide +kernel
theorem dX11_works_176 : decode cX11_works 176 = .ok (.imul, 1) := by decide +kernel
theorem dX11_works_177 : decode cX11_works 177 = .ok (.iload 4, 2) := by decide +kernel
theorem dX11_works_179 : decode cX11_works 179 = .ok (.bipush 8, 2) := by decide +kernel
theorem dX11_works_181 : decode cX11_works 181 = .ok (.irem, 1) := by decide +kernel
theorem dX11_works_182 : decode cX11_works 182 = .ok (.iadd, 1) := by decide +kernel
theorem dX11_works_183 : decode cX11_works 183 = .ok (.iaload, 1) := by decide +kernel
theorem dX11_works_184 : decode cX11_works 184 = .ok (.iadd, 1) := by decide +kernel
theorem dX11_works_185 : decode cX11_works 185 = .ok (.iastore, 1) := by decide +kernel
theorem dX11_works_186 : decode cX11_works 186 = .ok (.aload_n 0, 1) := by decide +kernel
theorem dX11_works_187 : decode cX11_works 187 = .ok (.getfield 59, 3) := by decide +kernel
theorem dX11_works_190 : decode cX11_works 190 = .ok (.bipush 8, 2) := by decide +kernel
theorem dX11_works_192 : decode cX11_works 192 = .ok (.iload_n 2, 1) := by decide +kernel
theorem dX11_works_193 : decode cX11_works 193 = .ok (.imul, 1) := by decide +kernel
theorem dX11_works_194 : decode cX11_works 194 = .ok (.iload_n 3, 1) := by decide +kernel
theorem dX11_works_195 : decode cX11_works 195 = .ok (.iadd, 1) := by decide +kernel
theorem dX11_works_196 : decode cX11_works 196 = .ok (.iload 4, 2) := by decide +kernel
theorem dX11_works_198 : decode cX11_works 198 = .ok (.iastore, 1) := by decide +kernel
theorem dX11_works_199 : decode cX11_works 199 = .ok (.aload_n 0, 1) := by decide +kernel
theorem dX11_works_200 : decode cX11_works 200 = .ok (.getfield 65, 3) := by decide +kernel
theorem dX11_works_203 : decode cX11_works 203 = .ok (.bipush 8, 2) := by decide +kernel
theorem dX11_works_205 : decode cX11_works 205 = .ok (.iload_n 2, 1) := by decide +kernel
theorem dX11_works_206 : decode cX11_works 206 = .ok (.imul, 1) := by decide +kernel
theorem dX11_works_207 : decode cX11_works 207 = .ok (.iload_n 3, 1) := by decide +kernel
theorem dX11_works_208 : decode cX11_works 208 = .ok (.iadd, 1) := by decide +kernel
theorem dX11_works_209 : decode cX11_works 209 = .ok (.iconst 1, 1) := by decide +kernel
theorem dX11_works_210 : decode cX11_works 210 = .ok (.bastore, 1) := by decide +kernel
theorem dX11_works_211 : decode cX11_works 211 = .ok (.iload 5, 2) := by decide +kernel
theorem dX11_works_213 : decode cX11_works 213 = .ok (.bipush (-4), 2) := by decide +kernel
theorem dX11_works_215 : decode cX11_works 215 = .ok (.if_icmp .eq 19, 3) := by decide +kernel
theorem dX11_works_218 : decode cX11_works 218 = .ok (.aload_n 0, 1) := by decide +kernel
theorem dX11_works_219 : decode cX11_works 219 = .ok (.getfield 62, 3) := by decide +kernel
theorem dX11_works_222 : decode cX11_works 222 = .ok (.iload_n 2, 1) := by decide +kernel
theorem dX11_works_223 : decode cX11_works 223 = .ok (.ifCond .ne 7, 3) := by decide +kernel
theorem dX11_works_226 : decode cX11_works 226 = .ok (.iload_n 3, 1) := by decide +kernel
theorem dX11_works_227 : decode cX11_works 227 = .ok (.goto 5, 3) := by decide +kernel
theorem dX11_works_230 : decode cX11_works 230 = .ok (.iload 5, 2) := by decide +kernel
theorem dX11_works_232 : decode cX11_works 232 = .ok (.iload_n 2, 1) := by decide +kernel
theorem dX11_works_233 : decode cX11_works 233 = .ok (.iastore, 1) := by decide +kernel
theorem dX11_works_234 : decode cX11_works 234 = .ok (.return_, 1) := by decide +kernel
theorem dX11_goMonth_0 : decode cX11_goMonth 0 = .ok (.iconst 0, 1) := by decide +kernel
theorem dX11_goMonth_1 : decode cX11_goMonth 1 = .ok (.istore_n 2, 1) := by decide +kernel
theorem dX11_goMonth_2 : decode cX11_goMonth 2 = .ok (.iload_n 2, 1) := by decide +kernel
theorem dX11_goMonth_3 : decode cX11_goMonth 3 = .ok (.bipush 16, 2) := by decide +kernel
theorem dX11_goMonth_5 : decode cX11_goMonth 5 = .ok (.if_icmp .ge 16, 3) := by decide +kernel
theorem dX11_goMonth_8 : decode cX11_goMonth 8 = .ok (.aload_n 0, 1) := by decide +kernel
theorem dX11_goMonth_9 : decode cX11_goMonth 9 = .ok (.getfield 65, 3) := by decide +kernel
theorem dX11_goMonth_12 : decode cX11_goMonth 12 = .ok (.iload_n 2, 1) := by decide +kernel
theorem dX11_goMonth_13 : decode cX11_goMonth 13 = .ok (.iconst 0, 1) := by decide +kernel
theorem dX11_goMonth_14 : decode cX11_goMonth 14 = .ok (.bastore, 1) := by decide +kernel
theorem dX11_goMonth_15 : decode cX11_goMonth 15 = .ok (.iinc 2 1, 3) := by decide +kernel
theorem dX11_goMonth_18 : decode cX11_goMonth 18 = .ok (.goto (-16), 3) := by decide +kernel
theorem dX11_goMonth_21 : decode cX11_goMonth 21 = .ok (.iconst 0, 1) := by decide +kernel
theorem dX11_goMonth_22 : decode cX11_goMonth 22 = .ok (.istore_n 2, 1) := by decide +kernel
theorem dX11_goMonth_23 : decode cX11_goMonth 23 = .ok (.iload_n 2, 1) := by decide +kernel
theorem dX11_goMonth_24 : decode cX11_goMonth 24 = .ok (.aload_n 0, 1) := by decide +kernel
theorem dX11_goMonth_25 : decode cX11_goMonth 25 = .ok (.getfield 7, 3) := by decide +kernel
theorem dX11_goMonth_28 : decode cX11_goMonth 28 = .ok (.bipush 16, 2) := by decide +kernel
theorem dX11_goMonth_30 : decode cX11_goMonth 30 = .ok (.iaload, 1) := by decide +kernel
theorem dX11_goMonth_31 : decode cX11_goMonth 31 = .ok (.if_icmp .ge 29, 3) := by decide +kernel
theorem dX11_goMonth_34 : decode cX11_goMonth 34 = .ok (.aload_n 0, 1) := by decide +kernel
theorem dX11_goMonth_35 : decode cX11_goMonth 35 = .ok (.getfield 7, 3) := by decide +kernel
theorem dX11_goMonth_38 : decode cX11_goMonth 38 = .ok (.bipush 17, 2) := by decide +kernel
theorem dX11_goMonth_40 : decode cX11_goMonth 40 = .ok (.iconst 4, 1) := by decide +kernel
theorem dX11_goMonth_41 : decode cX11_goMonth 41 = .ok (.iload_n 2, 1) := by decide +kernel
theorem dX11_goMonth_42 : decode cX11_goMonth 42 = .ok (.imul, 1) := by decide +kernel
theorem dX11_goMonth_43 : decode cX11_goMonth 43 = .ok (.iadd, 1) := by decide +kernel
theorem dX11_goMonth_44 : decode cX11_goMonth 44 = .ok (.iaload, 1) := by decide +kernel
theorem dX11_goMonth_45 : decode cX11_goMonth 45 = .ok (.iload_n 1, 1) := by decide +kernel
theorem dX11_goMonth_46 : decode cX11_goMonth 46 = .ok (.if_icmp .ne 8, 3) := by decide +kernel
theorem dX11_goMonth_49 : decode cX11_goMonth 49 = .ok (.aload_n 0, 1) := by decide +kernel
theorem dX11_goMonth_50 : decode cX11_goMonth 50 = .ok (.iload_n 2, 1) := by decide +kernel
theorem dX11_goMonth_51 : decode cX11_goMonth 51 = .ok (.invokevirtual 301, 3) := by decide +kernel
theorem dX11_goMonth_54 : decode cX11_goMonth 54 = .ok (.iinc 2 1, 3) := by decide +kernel
theorem dX11_goMonth_57 : decode cX11_goMonth 57 = .ok (.goto (-34), 3) := by decide +kernel
theorem dX11_goMonth_60 : decode cX11_goMonth 60 = .ok (.iconst 0, 1) := by decide +kernel
theorem dX11_goMonth_61 : decode cX11_goMonth 61 = .ok (.istore_n 2, 1) := by decide +kernel
theorem dX11_goMonth_62 : decode cX11_goMonth 62 = .ok (.iload_n 2, 1) := by decide +kernel
theorem dX11_goMonth_63 : decode cX11_goMonth 63 = .ok (.aload_n 0, 1) := by decide +kernel
theorem dX11_goMonth_64 : decode cX11_goMonth 64 = .ok (.getfield 129, 3) := by decide +kernel
theorem dX11_goMonth_67 : decode cX11_goMonth 67 = .ok (.if_icmp .ge 186, 3) := by decide +kernel
theorem dX11_goMonth_70 : decode cX11_goMonth 70 = .ok (.aload_n 0, 1) := by decide +kernel
theorem dX11_goMonth_71 : decode cX11_goMonth 71 = .ok (.iconst 0, 1) := by decide +kernel
theorem dX11_goMonth_72 : decode cX11_goMonth 72 = .ok (.iload_n 2, 1) := by decide +kernel
theorem dX11_goMonth_73 : decode cX11_goMonth 73 = .ok (.invokevirtual 289, 3) := by decide +kernel
theorem dX11_goMonth_76 : decode cX11_goMonth 76 = .ok (.istore_n 3, 1) := by decide +kernel
theorem dX11_goMonth_77 : decode cX11_goMonth 77 = .ok (.iload_n 3, 1) := by decide +kernel
theorem dX11_goMonth_78 : decode cX11_goMonth 78 = .ok (.bipush (-4), 2) := by decide +kernel
theorem dX11_goMonth_80 : decode cX11_goMonth 80 = .ok (.if_icmp .eq 28, 3) := by decide +kernel
theorem dX11_goMonth_83 : decode cX11_goMonth 83 = .ok (.aload_n 0, 1) := by decide +kernel
theorem dX11_goMonth_84 : decode cX11_goMonth 84 = .ok (.getfield 65, 3) := by decide +kernel
theorem dX11_goMonth_87 : decode cX11_goMonth 87 = .ok (.iload_n 2, 1) := by decide +kernel
theorem dX11_goMonth_88 : decode cX11_goMonth 88 = .ok (.baload, 1) := by decide +kernel
theorem dX11_goMonth_89 : decode cX11_goMonth 89 = .ok (.ifCond .ne 15, 3) := by decide +kernel
theorem dX11_goMonth_92 : decode cX11_goMonth 92 = .ok (.aload_n 0, 1) := by decide +kernel
theorem dX11_goMonth_93 : decode cX11_goMonth 93 = .ok (.getfield 65, 3) := by decide +kernel
theorem dX11_goMonth_96 : decode cX11_goMonth 96 = .ok (.bipush 8, 2) := by decide +kernel
theorem dX11_goMonth_98 : decode cX11_goMonth 98 = .ok (.iload_n 3, 1) := by decide +kernel
theorem dX11_goMonth_99 : decode cX11_goMonth 99 = .ok (.iadd, 1) := by decide +kernel
theorem dX11_goMonth_100 : decode cX11_goMonth 100 = .ok (.baload, 1) := by decide +kernel
theorem dX11_goMonth_101 : decode cX11_goMonth 101 = .ok (.ifCond .eq 7, 3) := by decide +kernel
theorem dX11_goMonth_104 : decode cX11_goMonth 104 = .ok (.iconst 1, 1) := by decide +kernel
theorem dX11_goMonth_105 : decode cX11_goMonth 105 = .ok (.goto 4, 3) := by decide +kernel
theorem dX11_goMonth_108 : decode cX11_goMonth 108 = .ok (.iconst 0, 1) := by decide +kernel
theorem dX11_goMonth_109 : decode cX11_goMonth 109 = .ok (.istore 4, 2) := by decide +kernel
theorem dX11_goMonth_111 : decode cX11_goMonth 111 = .ok (.aload_n 0, 1) := by decide +kernel
theorem dX11_goMonth_112 : decode cX11_goMonth 112 = .ok (.iload_n 2, 1) := by decide +kernel
theorem dX11_goMonth_113 : decode cX11_goMonth 113 = .ok (.invokevirtual 292, 3) := by decide +kernel
theorem dX11_goMonth_116 : decode cX11_goMonth 116 = .ok (.ifCond .ne 106, 3) := by decide +kernel
theorem dX11_goMonth_119 : decode cX11_goMonth 119 = .ok (.iload 4, 2) := by decide +kernel
theorem dX11_goMonth_121 : decode cX11_goMonth 121 = .ok (.ifCond .ne 101, 3) := by decide +kernel
theorem dX11_goMonth_124 : decode cX11_goMonth 124 = .ok (.aload_n 0, 1) := by decide +kernel
theorem dX11_goMonth_125 : decode cX11_goMonth 125 = .ok (.getfield 68, 3) := by decide +kernel
theorem dX11_goMonth_128 : decode cX11_goMonth 128 = .ok (.iload_n 2, 1) := by decide +kernel
theorem dX11_goMonth_129 : decode cX11_goMonth 129 = .ok (.baload, 1) := by decide +kernel
theorem dX11_goMonth_130 : decode cX11_goMonth 130 = .ok (.ifCond .eq 92, 3) := by decide +kernel
theorem dX11_goMonth_133 : decode cX11_goMonth 133 = .ok (.iconst 1, 1) := by decide +kernel
theorem dX11_goMonth_134 : decode cX11_goMonth 134 = .ok (.aload_n 0, 1) := by decide +kernel
theorem dX11_goMonth_135 : decode cX11_goMonth 135 = .ok (.getfield 62, 3) := by decide +kernel
theorem dX11_goMonth_138 : decode cX11_goMonth 138 = .ok (.iload_n 2, 1) := by decide +kernel
theorem dX11_goMonth_139 : decode cX11_goMonth 139 = .ok (.iaload, 1) := by decide +kernel
theorem dX11_goMonth_140 : decode cX11_goMonth 140 = .ok (.isub, 1) := by decide +kernel
theorem dX11_goMonth_141 : decode cX11_goMonth 141 = .ok (.istore 5, 2) := by decide +kernel
theorem dX11_goMonth_143 : decode cX11_goMonth 143 = .ok (.iload 5, 2) := by decide +kernel
theorem dX11_goMonth_145 : decode cX11_goMonth 145 = .ok (.ifCond .ne 7, 3) := by decide +kernel
theorem dX11_goMonth_148 : decode cX11_goMonth 148 = .ok (.iload_n 2, 1) := by decide +kernel
theorem dX11_goMonth_149 : decode cX11_goMonth 149 = .ok (.goto 7, 3) := by decide +kernel
theorem dX11_goMonth_152 : decode cX11_goMonth 152 = .ok (.bipush 8, 2) := by decide +kernel
theorem dX11_goMonth_154 : decode cX11_goMonth 154 = .ok (.iload_n 3, 1) := by decide +kernel
theorem dX11_goMonth_155 : decode cX11_goMonth 155 = .ok (.iadd, 1) := by decide +kernel
theorem dX11_goMonth_156 : decode cX11_goMonth 156 = .ok (.istore 6, 2) := by decide +kernel
theorem dX11_goMonth_158 : decode cX11_goMonth 158 = .ok (.iload 5, 2) := by decide +kernel
theorem dX11_goMonth_160 : decode cX11_goMonth 160 = .ok (.ifCond .ne 10, 3) := by decide +kernel
