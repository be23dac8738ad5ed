theorem dX11_fire_135 : decode cX11_fire 135 = .ok (.iload 7, 2) := by decide +kernel
theorem dX11_fire_137 : decode cX11_fire 137 = .ok (.if_icmp .gt 8, 3) := by decide +kernel
theorem dX11_fire_140 : decode cX11_fire 140 = .ok (.iload 6, 2) := by decide +kernel
theorem dX11_fire_142 : decode cX11_fire 142 = .ok (.goto 5, 3) := by decide +kernel
theorem dX11_fire_145 : decode cX11_fire 145 = .ok (.iload 7, 2) := by decide +kernel
theorem dX11_fire_147 : decode cX11_fire 147 = .ok (.ireturn, 1) := by decide +kernel
theorem dX11_quarrelOf_0 : decode cX11_quarrelOf 0 = .ok (.iconst 0, 1) := by decide +kernel
theorem dX11_quarrelOf_1 : decode cX11_quarrelOf 1 = .ok (.istore_n 2, 1) := by decide +kernel
theorem dX11_quarrelOf_2 : decode cX11_quarrelOf 2 = .ok (.iconst 0, 1) := by decide +kernel
theorem dX11_quarrelOf_3 : decode cX11_quarrelOf 3 = .ok (.istore_n 3, 1) := by decide +kernel
theorem dX11_quarrelOf_4 : decode cX11_quarrelOf 4 = .ok (.iload_n 3, 1) := by decide +kernel
theorem dX11_quarrelOf_5 : decode cX11_quarrelOf 5 = .ok (.aload_n 0, 1) := by decide +kernel
theorem dX11_quarrelOf_6 : decode cX11_quarrelOf 6 = .ok (.getfield 129, 3) := by decide +kernel
theorem dX11_quarrelOf_9 : decode cX11_quarrelOf 9 = .ok (.if_icmp .ge 118, 3) := by decide +kernel
theorem dX11_quarrelOf_12 : decode cX11_quarrelOf 12 = .ok (.aload_n 0, 1) := by decide +kernel
theorem dX11_quarrelOf_13 : decode cX11_quarrelOf 13 = .ok (.iload_n 1, 1) := by decide +kernel
theorem dX11_quarrelOf_14 : decode cX11_quarrelOf 14 = .ok (.iconst 0, 1) := by decide +kernel
theorem dX11_quarrelOf_15 : decode cX11_quarrelOf 15 = .ok (.iload_n 3, 1) := by decide +kernel
theorem dX11_quarrelOf_16 : decode cX11_quarrelOf 16 = .ok (.invokevirtual 285, 3) := by decide +kernel
theorem dX11_quarrelOf_19 : decode cX11_quarrelOf 19 = .ok (.istore 4, 2) := by decide +kernel
theorem dX11_quarrelOf_21 : decode cX11_quarrelOf 21 = .ok (.iload_n 2, 1) := by decide +kernel
theorem dX11_quarrelOf_22 : decode cX11_quarrelOf 22 = .ok (.iload 4, 2) := by decide +kernel
theorem dX11_quarrelOf_24 : decode cX11_quarrelOf 24 = .ok (.bipush (-4), 2) := by decide +kernel
theorem dX11_quarrelOf_26 : decode cX11_quarrelOf 26 = .ok (.if_icmp .ne 23, 3) := by decide +kernel
theorem dX11_quarrelOf_29 : decode cX11_quarrelOf 29 = .ok (.aload_n 0, 1) := by decide +kernel
theorem dX11_quarrelOf_30 : decode cX11_quarrelOf 30 = .ok (.getfield 7, 3) := by decide +kernel
theorem dX11_quarrelOf_33 : decode cX11_quarrelOf 33 = .ok (.iload_n 3, 1) := by decide +kernel
theorem dX11_quarrelOf_34 : decode cX11_quarrelOf 34 = .ok (.iaload, 1) := by decide +kernel
theorem dX11_quarrelOf_35 : decode cX11_quarrelOf 35 = .ok (.ifCond .eq 7, 3) := by decide +kernel
theorem dX11_quarrelOf_38 : decode cX11_quarrelOf 38 = .ok (.iconst 1, 1) := by decide +kernel
theorem dX11_quarrelOf_39 : decode cX11_quarrelOf 39 = .ok (.goto 4, 3) := by decide +kernel
theorem dX11_quarrelOf_42 : decode cX11_quarrelOf 42 = .ok (.iconst 0, 1) := by decide +kernel
theorem dX11_quarrelOf_43 : decode cX11_quarrelOf 43 = .ok (.invokestatic 265, 3) := by decide +kernel
theorem dX11_quarrelOf_46 : decode cX11_quarrelOf 46 = .ok (.goto 34, 3) := by decide +kernel
theorem dX11_quarrelOf_49 : decode cX11_quarrelOf 49 = .ok (.aload_n 0, 1) := by decide +kernel
theorem dX11_quarrelOf_50 : decode cX11_quarrelOf 50 = .ok (.getfield 7, 3) := by decide +kernel
theorem dX11_quarrelOf_53 : decode cX11_quarrelOf 53 = .ok (.bipush 8, 2) := by decide +kernel
theorem dX11_quarrelOf_55 : decode cX11_quarrelOf 55 = .ok (.iload 4, 2) := by decide +kernel
theorem dX11_quarrelOf_57 : decode cX11_quarrelOf 57 = .ok (.iadd, 1) := by decide +kernel
theorem dX11_quarrelOf_58 : decode cX11_quarrelOf 58 = .ok (.iaload, 1) := by decide +kernel
theorem dX11_quarrelOf_59 : decode cX11_quarrelOf 59 = .ok (.aload_n 0, 1) := by decide +kernel
theorem dX11_quarrelOf_60 : decode cX11_quarrelOf 60 = .ok (.aload_n 0, 1) := by decide +kernel
theorem dX11_quarrelOf_61 : decode cX11_quarrelOf 61 = .ok (.getfield 7, 3) := by decide +kernel
theorem dX11_quarrelOf_64 : decode cX11_quarrelOf 64 = .ok (.iload_n 3, 1) := by decide +kernel
theorem dX11_quarrelOf_65 : decode cX11_quarrelOf 65 = .ok (.iaload, 1) := by decide +kernel
theorem dX11_quarrelOf_66 : decode cX11_quarrelOf 66 = .ok (.invokevirtual 276, 3) := by decide +kernel
theorem dX11_quarrelOf_69 : decode cX11_quarrelOf 69 = .ok (.if_icmp .eq 7, 3) := by decide +kernel
theorem dX11_quarrelOf_72 : decode cX11_quarrelOf 72 = .ok (.iconst 1, 1) := by decide +kernel
theorem dX11_quarrelOf_73 : decode cX11_quarrelOf 73 = .ok (.goto 4, 3) := by decide +kernel
theorem dX11_quarrelOf_76 : decode cX11_quarrelOf 76 = .ok (.iconst 0, 1) := by decide +kernel
theorem dX11_quarrelOf_77 : decode cX11_quarrelOf 77 = .ok (.invokestatic 265, 3) := by decide +kernel
theorem dX11_quarrelOf_80 : decode cX11_quarrelOf 80 = .ok (.iadd, 1) := by decide +kernel
theorem dX11_quarrelOf_81 : decode cX11_quarrelOf 81 = .ok (.istore_n 2, 1) := by decide +kernel
theorem dX11_quarrelOf_82 : decode cX11_quarrelOf 82 = .ok (.iload_n 2, 1) := by decide +kernel
theorem dX11_quarrelOf_83 : decode cX11_quarrelOf 83 = .ok (.aload_n 0, 1) := by decide +kernel
theorem dX11_quarrelOf_84 : decode cX11_quarrelOf 84 = .ok (.iload_n 1, 1) := by decide +kernel
theorem dX11_quarrelOf_85 : decode cX11_quarrelOf 85 = .ok (.iconst 1, 1) := by decide +kernel
theorem dX11_quarrelOf_86 : decode cX11_quarrelOf 86 = .ok (.iload_n 3, 1) := by decide +kernel
theorem dX11_quarrelOf_87 : decode cX11_quarrelOf 87 = .ok (.invokevirtual 285, 3) := by decide +kernel
theorem dX11_quarrelOf_90 : decode cX11_quarrelOf 90 = .ok (.bipush (-4), 2) := by decide +kernel
theorem dX11_quarrelOf_92 : decode cX11_quarrelOf 92 = .ok (.if_icmp .ne 26, 3) := by decide +kernel
theorem dX11_quarrelOf_95 : decode cX11_quarrelOf 95 = .ok (.aload_n 0, 1) := by decide +kernel
theorem dX11_quarrelOf_96 : decode cX11_quarrelOf 96 = .ok (.getfield 7, 3) := by decide +kernel
theorem dX11_quarrelOf_99 : decode cX11_quarrelOf 99 = .ok (.bipush 8, 2) := by decide +kernel
theorem dX11_quarrelOf_101 : decode cX11_quarrelOf 101 = .ok (.iload_n 3, 1) := by decide +kernel
theorem dX11_quarrelOf_102 : decode cX11_quarrelOf 102 = .ok (.iadd, 1) := by decide +kernel
theorem dX11_quarrelOf_103 : decode cX11_quarrelOf 103 = .ok (.iaload, 1) := by decide +kernel
theorem dX11_quarrelOf_104 : decode cX11_quarrelOf 104 = .ok (.ifCond .eq 7, 3) := by decide +kernel
theorem dX11_quarrelOf_107 : decode cX11_quarrelOf 107 = .ok (.iconst 1, 1) := by decide +kernel
theorem dX11_quarrelOf_108 : decode cX11_quarrelOf 108 = .ok (.goto 4, 3) := by decide +kernel
theorem dX11_quarrelOf_111 : decode cX11_quarrelOf 111 = .ok (.iconst 0, 1) := by decide +kernel
theorem dX11_quarrelOf_112 : decode cX11_quarrelOf 112 = .ok (.invokestatic 265, 3) := by decide +kernel
theorem dX11_quarrelOf_115 : decode cX11_quarrelOf 115 = .ok (.goto 4, 3) := by decide +kernel
theorem dX11_quarrelOf_118 : decode cX11_quarrelOf 118 = .ok (.iconst 0, 1) := by decide +kernel
theorem dX11_quarrelOf_119 : decode cX11_quarrelOf 119 = .ok (.iadd, 1) := by decide +kernel
theorem dX11_quarrelOf_120 : decode cX11_quarrelOf 120 = .ok (.istore_n 2, 1) := by decide +kernel
theorem dX11_quarrelOf_121 : decode cX11_quarrelOf 121 = .ok (.iinc 3 1, 3) := by decide +kernel
theorem dX11_quarrelOf_124 : decode cX11_quarrelOf 124 = .ok (.goto (-120), 3) := by decide +kernel
theorem dX11_quarrelOf_127 : decode cX11_quarrelOf 127 = .ok (.iload_n 2, 1) := by decide +kernel
theorem dX11_quarrelOf_128 : decode cX11_quarrelOf 128 = .ok (.ireturn, 1) := by decide +kernel
theorem dX11_quarrel_0 : decode cX11_quarrel 0 = .ok (.iload_n 1, 1) := by decide +kernel
theorem dX11_quarrel_1 : decode cX11_quarrel 1 = .ok (.i2l, 1) := by decide +kernel
theorem dX11_quarrel_2 : decode cX11_quarrel 2 = .ok (.lconst 0, 1) := by decide +kernel
theorem dX11_quarrel_3 : decode cX11_quarrel 3 = .ok (.ldc2_w 344, 3) := by decide +kernel
theorem dX11_quarrel_6 : decode cX11_quarrel 6 = .ok (.invokestatic 146, 3) := by decide +kernel
theorem dX11_quarrel_9 : decode cX11_quarrel 9 = .ok (.ifCond .eq 11, 3) := by decide +kernel
theorem dX11_quarrel_12 : decode cX11_quarrel 12 = .ok (.aload_n 0, 1) := by decide +kernel
theorem dX11_quarrel_13 : decode cX11_quarrel 13 = .ok (.iload_n 1, 1) := by decide +kernel
theorem dX11_quarrel_14 : decode cX11_quarrel 14 = .ok (.invokevirtual 346, 3) := by decide +kernel
theorem dX11_quarrel_17 : decode cX11_quarrel 17 = .ok (.goto 4, 3) := by decide +kernel
theorem dX11_quarrel_20 : decode cX11_quarrel 20 = .ok (.iconst (-1), 1) := by decide +kernel
theorem dX11_quarrel_21 : decode cX11_quarrel 21 = .ok (.ireturn, 1) := by decide +kernel
theorem dX11_bend_0 : decode cX11_bend 0 = .ok (.iconst 0, 1) := by decide +kernel
theorem dX11_bend_1 : decode cX11_bend 1 = .ok (.istore_n 1, 1) := by decide +kernel
theorem dX11_bend_2 : decode cX11_bend 2 = .ok (.iconst 1, 1) := by decide +kernel
theorem dX11_bend_3 : decode cX11_bend 3 = .ok (.istore_n 2, 1) := by decide +kernel
theorem dX11_bend_4 : decode cX11_bend 4 = .ok (.iload_n 2, 1) := by decide +kernel
theorem dX11_bend_5 : decode cX11_bend 5 = .ok (.bipush 7, 2) := by decide +kernel
theorem dX11_bend_7 : decode cX11_bend 7 = .ok (.if_icmp .ge 28, 3) := by decide +kernel
theorem dX11_bend_10 : decode cX11_bend 10 = .ok (.aload_n 0, 1) := by decide +kernel
theorem dX11_bend_11 : decode cX11_bend 11 = .ok (.iload_n 2, 1) := by decide +kernel
theorem dX11_bend_12 : decode cX11_bend 12 = .ok (.invokevirtual 346, 3) := by decide +kernel
theorem dX11_bend_15 : decode cX11_bend 15 = .ok (.aload_n 0, 1) := by decide +kernel
theorem dX11_bend_16 : decode cX11_bend 16 = .ok (.iload_n 1, 1) := by decide +kernel
theorem dX11_bend_17 : decode cX11_bend 17 = .ok (.invokevirtual 346, 3) := by decide +kernel
theorem dX11_bend_20 : decode cX11_bend 20 = .ok (.if_icmp .ge 7, 3) := by decide +kernel
theorem dX11_bend_23 : decode cX11_bend 23 = .ok (.iload_n 2, 1) := by decide +kernel
theorem dX11_bend_24 : decode cX11_bend 24 = .ok (.goto 4, 3) := by decide +kernel
theorem dX11_bend_27 : decode cX11_bend 27 = .ok (.iload_n 1, 1) := by decide +kernel
theorem dX11_bend_28 : decode cX11_bend 28 = .ok (.istore_n 1, 1) := by decide +kernel
theorem dX11_bend_29 : decode cX11_bend 29 = .ok (.iinc 2 1, 3) := by decide +kernel
theorem dX11_bend_32 : decode cX11_bend 32 = .ok (.goto (-28), 3) := by decide +kernel
theorem dX11_bend_35 : decode cX11_bend 35 = .ok (.iload_n 1, 1) := by decide +kernel
theorem dX11_bend_36 : decode cX11_bend 36 = .ok (.ireturn, 1) := by decide +kernel
theorem dX11_isShop_0 : decode cX11_isShop 0 = .ok (.iload_n 2, 1) := by decide +kernel
theorem dX11_isShop_1 : decode cX11_isShop 1 = .ok (.i2l, 1) := by decide +kernel
theorem dX11_isShop_2 : decode cX11_isShop 2 = .ok (.lconst 0, 1) := by decide +kernel
theorem dX11_isShop_3 : decode cX11_isShop 3 = .ok (.aload_n 0, 1) := by decide +kernel
theorem dX11_isShop_4 : decode cX11_isShop 4 = .ok (.getfield 129, 3) := by decide +kernel
theorem dX11_isShop_7 : decode cX11_isShop 7 = .ok (.iconst 1, 1) := by decide +kernel
theorem dX11_isShop_8 : decode cX11_isShop 8 = .ok (.isub, 1) := by decide +kernel
theorem dX11_isShop_9 : decode cX11_isShop 9 = .ok (.i2l, 1) := by decide +kernel
theorem dX11_isShop_10 : decode cX11_isShop 10 = .ok (.invokestatic 146, 3) := by decide +kernel
theorem dX11_isShop_13 : decode cX11_isShop 13 = .ok (.ifCond .eq 17, 3) := by decide +kernel
theorem dX11_isShop_16 : decode cX11_isShop 16 = .ok (.aload_n 0, 1) := by decide +kernel
theorem dX11_isShop_17 : decode cX11_isShop 17 = .ok (.iload_n 1, 1) := by decide +kernel
theorem dX11_isShop_18 : decode cX11_isShop 18 = .ok (.iload_n 2, 1) := by decide +kernel
theorem dX11_isShop_19 : decode cX11_isShop 19 = .ok (.invokevirtual 320, 3) := by decide +kernel
theorem dX11_isShop_22 : decode cX11_isShop 22 = .ok (.iconst 3, 1) := by decide +kernel
theorem dX11_isShop_23 : decode cX11_isShop 23 = .ok (.if_icmp .ne 7, 3) := by decide +kernel
theorem dX11_isShop_26 : decode cX11_isShop 26 = .ok (.iconst 1, 1) := by decide +kernel
theorem dX11_isShop_27 : decode cX11_isShop 27 = .ok (.goto 4, 3) := by decide +kernel
theorem dX11_isShop_30 : decode cX11_isShop 30 = .ok (.iconst 0, 1) := by decide +kernel
theorem dX11_isShop_31 : decode cX11_isShop 31 = .ok (.ireturn, 1) := by decide +kernel
theorem dX11_shops_0 : decode cX11_shops 0 = .ok (.iload_n 1, 1) := by decide +kernel
theorem dX11_shops_1 : decode cX11_shops 1 = .ok (.invokestatic 279, 3) := by decide +kernel
theorem dX11_shops_4 : decode cX11_shops 4 = .ok (.ifCond .eq 13, 3) := by decide +kernel
theorem dX11_shops_7 : decode cX11_shops 7 = .ok (.iload_n 2, 1) := by decide +kernel
theorem dX11_shops_8 : decode cX11_shops 8 = .ok (.i2l, 1) := by decide +kernel
theorem dX11_shops_9 : decode cX11_shops 9 = .ok (.lconst 0, 1) := by decide +kernel
theorem dX11_shops_10 : decode cX11_shops 10 = .ok (.lconst 1, 1) := by decide +kernel
theorem dX11_shops_11 : decode cX11_shops 11 = .ok (.invokestatic 146, 3) := by decide +kernel
theorem dX11_shops_14 : decode cX11_shops 14 = .ok (.ifCond .ne 5, 3) := by decide +kernel
theorem dX11_shops_17 : decode cX11_shops 17 = .ok (.iconst (-1), 1) := by decide +kernel
theorem dX11_shops_18 : decode cX11_shops 18 = .ok (.ireturn, 1) := by decide +kernel
theorem dX11_shops_19 : decode cX11_shops 19 = .ok (.iconst 0, 1) := by decide +kernel
theorem dX11_shops_20 : decode cX11_shops 20 = .ok (.istore_n 3, 1) := by decide +kernel
theorem dX11_shops_21 : decode cX11_shops 21 = .ok (.iconst 0, 1) := by decide +kernel
theorem dX11_shops_22 : decode cX11_shops 22 = .ok (.istore 4, 2) := by decide +kernel
theorem dX11_shops_24 : decode cX11_shops 24 = .ok (.iconst 0, 1) := by decide +kernel
theorem dX11_shops_25 : decode cX11_shops 25 = .ok (.istore 5, 2) := by decide +kernel
theorem dX11_shops_27 : decode cX11_shops 27 = .ok (.iconst 0, 1) := by decide +kernel
theorem dX11_shops_28 : decode cX11_shops 28 = .ok (.istore 6, 2) := by decide +kernel
theorem dX11_shops_30 : decode cX11_shops 30 = .ok (.iload 6, 2) := by decide +kernel
theorem dX11_shops_32 : decode cX11_shops 32 = .ok (.aload_n 0, 1) := by decide +kernel
theorem dX11_shops_33 : decode cX11_shops 33 = .ok (.getfield 129, 3) := by decide +kernel
theorem dX11_shops_36 : decode cX11_shops 36 = .ok (.if_icmp .ge 99, 3) := by decide +kernel
theorem dX11_shops_39 : decode cX11_shops 39 = .ok (.iload_n 3, 1) := by decide +kernel
theorem dX11_shops_40 : decode cX11_shops 40 = .ok (.aload_n 0, 1) := by decide +kernel
theorem dX11_shops_41 : decode cX11_shops 41 = .ok (.iload_n 1, 1) := by decide +kernel
theorem dX11_shops_42 : decode cX11_shops 42 = .ok (.iload 6, 2) := by decide +kernel
theorem dX11_shops_44 : decode cX11_shops 44 = .ok (.invokevirtual 349, 3) := by decide +kernel
theorem dX11_shops_47 : decode cX11_shops 47 = .ok (.ifCond .eq 31, 3) := by decide +kernel
theorem dX11_shops_50 : decode cX11_shops 50 = .ok (.aload_n 0, 1) := by decide +kernel
theorem dX11_shops_51 : decode cX11_shops 51 = .ok (.iload_n 1, 1) := by decide +kernel
theorem dX11_shops_52 : decode cX11_shops 52 = .ok (.iload 6, 2) := by decide +kernel
theorem dX11_shops_54 : decode cX11_shops 54 = .ok (.iconst 1, 1) := by decide +kernel
theorem dX11_shops_55 : decode cX11_shops 55 = .ok (.isub, 1) := by decide +kernel
theorem dX11_shops_56 : decode cX11_shops 56 = .ok (.invokevirtual 349, 3) := by decide +kernel
theorem dX11_shops_59 : decode cX11_shops 59 = .ok (.ifCond .ne 15, 3) := by decide +kernel
theorem dX11_shops_62 : decode cX11_shops 62 = .ok (.aload_n 0, 1) := by decide +kernel
theorem dX11_shops_63 : decode cX11_shops 63 = .ok (.iload_n 1, 1) := by decide +kernel
theorem dX11_shops_64 : decode cX11_shops 64 = .ok (.iload 6, 2) := by decide +kernel
theorem dX11_shops_66 : decode cX11_shops 66 = .ok (.iconst 1, 1) := by decide +kernel
theorem dX11_shops_67 : decode cX11_shops 67 = .ok (.iadd, 1) := by decide +kernel
theorem dX11_shops_68 : decode cX11_shops 68 = .ok (.invokevirtual 349, 3) := by decide +kernel
theorem dX11_shops_71 : decode cX11_shops 71 = .ok (.ifCond .eq 7, 3) := by decide +kernel
theorem dX11_shops_74 : decode cX11_shops 74 = .ok (.iconst 1, 1) := by decide +kernel
theorem dX11_shops_75 : decode cX11_shops 75 = .ok (.goto 4, 3) := by decide +kernel
theorem dX11_shops_78 : decode cX11_shops 78 = .ok (.iconst 0, 1) := by decide +kernel
theorem dX11_shops_79 : decode cX11_shops 79 = .ok (.invokestatic 265, 3) := by decide +kernel
theorem dX11_shops_82 : decode cX11_shops 82 = .ok (.iload 6, 2) := by decide +kernel
theorem dX11_shops_84 : decode cX11_shops 84 = .ok (.ishl, 1) := by decide +kernel
theorem dX11_shops_85 : decode cX11_shops 85 = .ok (.ior, 1) := by decide +kernel
theorem dX11_shops_86 : decode cX11_shops 86 = .ok (.istore_n 3, 1) := by decide +kernel
theorem dX11_shops_87 : decode cX11_shops 87 = .ok (.aload_n 0, 1) := by decide +kernel
theorem dX11_shops_88 : decode cX11_shops 88 = .ok (.iload_n 1, 1) := by decide +kernel
theorem dX11_shops_89 : decode cX11_shops 89 = .ok (.iload 6, 2) := by decide +kernel
theorem dX11_shops_91 : decode cX11_shops 91 = .ok (.invokevirtual 349, 3) := by decide +kernel
theorem dX11_shops_94 : decode cX11_shops 94 = .ok (.ifCond .eq 10, 3) := by decide +kernel
theorem dX11_shops_97 : decode cX11_shops 97 = .ok (.iload 5, 2) := by decide +kernel
theorem dX11_shops_99 : decode cX11_shops 99 = .ok (.iconst 1, 1) := by decide +kernel
theorem dX11_shops_100 : decode cX11_shops 100 = .ok (.iadd, 1) := by decide +kernel
theorem dX11_shops_101 : decode cX11_shops 101 = .ok (.goto 4, 3) := by decide +kernel
theorem dX11_shops_104 : decode cX11_shops 104 = .ok (.iconst 0, 1) := by decide +kernel
theorem dX11_shops_105 : decode cX11_shops 105 = .ok (.istore 5, 2) := by decide +kernel
theorem dX11_shops_107 : decode cX11_shops 107 = .ok (.iload 4, 2) := by decide +kernel
theorem dX11_shops_109 : decode cX11_shops 109 = .ok (.iload 5, 2) := by decide +kernel
theorem dX11_shops_111 : decode cX11_shops 111 = .ok (.ifCond .le 14, 3) := by decide +kernel
theorem dX11_shops_114 : decode cX11_shops 114 = .ok (.iload 5, 2) := by decide +kernel
theorem dX11_shops_116 : decode cX11_shops 116 = .ok (.iconst 2, 1) := by decide +kernel
theorem dX11_shops_117 : decode cX11_shops 117 = .ok (.irem, 1) := by decide +kernel
theorem dX11_shops_118 : decode cX11_shops 118 = .ok (.ifCond .ne 7, 3) := by decide +kernel
theorem dX11_shops_121 : decode cX11_shops 121 = .ok (.iconst 1, 1) := by decide +kernel
theorem dX11_shops_122 : decode cX11_shops 122 = .ok (.goto 4, 3) := by decide +kernel
theorem dX11_shops_125 : decode cX11_shops 125 = .ok (.iconst 0, 1) := by decide +kernel
theorem dX11_shops_126 : decode cX11_shops 126 = .ok (.iadd, 1) := by decide +kernel
theorem dX11_shops_127 : decode cX11_shops 127 = .ok (.istore 4, 2) := by decide +kernel
theorem dX11_shops_129 : decode cX11_shops 129 = .ok (.iinc 6 1, 3) := by decide +kernel
theorem dX11_shops_132 : decode cX11_shops 132 = .ok (.goto (-102), 3) := by decide +kernel
theorem dX11_shops_135 : decode cX11_shops 135 = .ok (.iload_n 2, 1) := by decide +kernel
theorem dX11_shops_136 : decode cX11_shops 136 = .ok (.ifCond .ne 7, 3) := by decide +kernel
theorem dX11_shops_139 : decode cX11_shops 139 = .ok (.iload_n 3, 1) := by decide +kernel
theorem dX11_shops_140 : decode cX11_shops 140 = .ok (.goto 5, 3) := by decide +kernel
theorem dX11_shops_143 : decode cX11_shops 143 = .ok (.iload 4, 2) := by decide +kernel
theorem dX11_shops_145 : decode cX11_shops 145 = .ok (.ireturn, 1) := by decide +kernel
theorem dX11_saw_0 : decode cX11_saw 0 = .ok (.aload_n 0, 1) := by decide +kernel
theorem dX11_saw_1 : decode cX11_saw 1 = .ok (.iload_n 1, 1) := by decide +kernel
theorem dX11_saw_2 : decode cX11_saw 2 = .ok (.iload_n 2, 1) := by decide +kernel
theorem dX11_saw_3 : decode cX11_saw 3 = .ok (.invokevirtual 282, 3) := by decide +kernel
theorem dX11_saw_6 : decode cX11_saw 6 = .ok (.ifCond .eq 15, 3) := by decide +kernel
theorem dX11_saw_9 : decode cX11_saw 9 = .ok (.iload_n 3, 1) := by decide +kernel
theorem dX11_saw_10 : decode cX11_saw 10 = .ok (.i2l, 1) := by decide +kernel
theorem dX11_saw_11 : decode cX11_saw 11 = .ok (.lconst 0, 1) := by decide +kernel
theorem dX11_saw_12 : decode cX11_saw 12 = .ok (.ldc2_w 318, 3) := by decide +kernel
theorem dX11_saw_15 : decode cX11_saw 15 = .ok (.invokestatic 146, 3) := by decide +kernel
theorem dX11_saw_18 : decode cX11_saw 18 = .ok (.ifCond .ne 5, 3) := by decide +kernel
theorem dX11_saw_21 : decode cX11_saw 21 = .ok (.iconst (-1), 1) := by decide +kernel
theorem dX11_saw_22 : decode cX11_saw 22 = .ok (.ireturn, 1) := by decide +kernel
theorem dX11_saw_23 : decode cX11_saw 23 = .ok (.aload_n 0, 1) := by decide +kernel
theorem dX11_saw_24 : decode cX11_saw 24 = .ok (.getfield 7, 3) := by decide +kernel
theorem dX11_saw_27 : decode cX11_saw 27 = .ok (.bipush 78, 2) := by decide +kernel
theorem dX11_saw_29 : decode cX11_saw 29 = .ok (.iaload, 1) := by decide +kernel
theorem dX11_saw_30 : decode cX11_saw 30 = .ok (.bipush 12, 2) := by decide +kernel
theorem dX11_saw_32 : decode cX11_saw 32 = .ok (.if_icmp .ne 6, 3) := by decide +kernel
theorem dX11_saw_35 : decode cX11_saw 35 = .ok (.bipush (-3), 2) := by decide +kernel
theorem dX11_saw_37 : decode cX11_saw 37 = .ok (.ireturn, 1) := by decide +kernel
theorem dX11_saw_38 : decode cX11_saw 38 = .ok (.bipush 79, 2) := by decide +kernel
theorem dX11_saw_40 : decode cX11_saw 40 = .ok (.iconst 4, 1) := by decide +kernel
theorem dX11_saw_41 : decode cX11_saw 41 = .ok (.aload_n 0, 1) := by decide +kernel
theorem dX11_saw_42 : decode cX11_saw 42 = .ok (.getfield 7, 3) := by decide +kernel
theorem dX11_saw_45 : decode cX11_saw 45 = .ok (.bipush 78, 2) := by decide +kernel
theorem dX11_saw_47 : decode cX11_saw 47 = .ok (.iaload, 1) := by decide +kernel
theorem dX11_saw_48 : decode cX11_saw 48 = .ok (.imul, 1) := by decide +kernel
theorem dX11_saw_49 : decode cX11_saw 49 = .ok (.iadd, 1) := by decide +kernel
theorem dX11_saw_50 : decode cX11_saw 50 = .ok (.istore 5, 2) := by decide +kernel
theorem dX11_saw_52 : decode cX11_saw 52 = .ok (.aload_n 0, 1) := by decide +kernel
theorem dX11_saw_53 : decode cX11_saw 53 = .ok (.getfield 7, 3) := by decide +kernel
theorem dX11_saw_56 : decode cX11_saw 56 = .ok (.iload 5, 2) := by decide +kernel
theorem dX11_saw_58 : decode cX11_saw 58 = .ok (.iload_n 1, 1) := by decide +kernel
theorem dX11_saw_59 : decode cX11_saw 59 = .ok (.iastore, 1) := by decide +kernel
theorem dX11_saw_60 : decode cX11_saw 60 = .ok (.aload_n 0, 1) := by decide +kernel
theorem dX11_saw_61 : decode cX11_saw 61 = .ok (.getfield 7, 3) := by decide +kernel
theorem dX11_saw_64 : decode cX11_saw 64 = .ok (.iload 5, 2) := by decide +kernel
theorem dX11_saw_66 : decode cX11_saw 66 = .ok (.iconst 1, 1) := by decide +kernel
theorem dX11_saw_67 : decode cX11_saw 67 = .ok (.iadd, 1) := by decide +kernel
theorem dX11_saw_68 : decode cX11_saw 68 = .ok (.iload_n 2, 1) := by decide +kernel
theorem dX11_saw_69 : decode cX11_saw 69 = .ok (.iastore, 1) := by decide +kernel
theorem dX11_saw_70 : decode cX11_saw 70 = .ok (.aload_n 0, 1) := by decide +kernel
theorem dX11_saw_71 : decode cX11_saw 71 = .ok (.getfield 7, 3) := by decide +kernel
theorem dX11_saw_74 : decode cX11_saw 74 = .ok (.iload 5, 2) := by decide +kernel
theorem dX11_saw_76 : decode cX11_saw 76 = .ok (.iconst 2, 1) := by decide +kernel
theorem dX11_saw_77 : decode cX11_saw 77 = .ok (.iadd, 1) := by decide +kernel
theorem dX11_saw_78 : decode cX11_saw 78 = .ok (.iload_n 3, 1) := by decide +kernel
theorem dX11_saw_79 : decode cX11_saw 79 = .ok (.iastore, 1) := by decide +kernel
theorem dX11_saw_80 : decode cX11_saw 80 = .ok (.aload_n 0, 1) := by decide +kernel
theorem dX11_saw_81 : decode cX11_saw 81 = .ok (.getfield 7, 3) := by decide +kernel
theorem dX11_saw_84 : decode cX11_saw 84 = .ok (.iload 5, 2) := by decide +kernel
theorem dX11_saw_86 : decode cX11_saw 86 = .ok (.iconst 3, 1) := by decide +kernel
theorem dX11_saw_87 : decode cX11_saw 87 = .ok (.iadd, 1) := by decide +kernel
theorem dX11_saw_88 : decode cX11_saw 88 = .ok (.iload 4, 2) := by decide +kernel
theorem dX11_saw_90 : decode cX11_saw 90 = .ok (.invokestatic 265, 3) := by decide +kernel
theorem dX11_saw_93 : decode cX11_saw 93 = .ok (.iastore, 1) := by decide +kernel
theorem dX11_saw_94 : decode cX11_saw 94 = .ok (.aload_n 0, 1) := by decide +kernel
theorem dX11_saw_95 : decode cX11_saw 95 = .ok (.getfield 7, 3) := by decide +kernel
theorem dX11_saw_98 : decode cX11_saw 98 = .ok (.bipush 78, 2) := by decide +kernel
theorem dX11_saw_100 : decode cX11_saw 100 = .ok (.dup2, 1) := by decide +kernel
theorem dX11_saw_101 : decode cX11_saw 101 = .ok (.iaload, 1) := by decide +kernel
theorem dX11_saw_102 : decode cX11_saw 102 = .ok (.iconst 1, 1) := by decide +kernel
theorem dX11_saw_103 : decode cX11_saw 103 = .ok (.iadd, 1) := by decide +kernel
theorem dX11_saw_104 : decode cX11_saw 104 = .ok (.iastore, 1) := by decide +kernel
theorem dX11_saw_105 : decode cX11_saw 105 = .ok (.aload_n 0, 1) := by decide +kernel
theorem dX11_saw_106 : decode cX11_saw 106 = .ok (.getfield 7, 3) := by decide +kernel
theorem dX11_saw_109 : decode cX11_saw 109 = .ok (.bipush 78, 2) := by decide +kernel
theorem dX11_saw_111 : decode cX11_saw 111 = .ok (.iaload, 1) := by decide +kernel
theorem dX11_saw_112 : decode cX11_saw 112 = .ok (.ireturn, 1) := by decide +kernel
theorem dX11_forget_0 : decode cX11_forget 0 = .ok (.aload_n 0, 1) := by decide +kernel
theorem dX11_forget_1 : decode cX11_forget 1 = .ok (.getfield 7, 3) := by decide +kernel
theorem dX11_forget_4 : decode cX11_forget 4 = .ok (.bipush 78, 2) := by decide +kernel
theorem dX11_forget_6 : decode cX11_forget 6 = .ok (.iaload, 1) := by decide +kernel
theorem dX11_forget_7 : decode cX11_forget 7 = .ok (.istore_n 1, 1) := by decide +kernel
theorem dX11_forget_8 : decode cX11_forget 8 = .ok (.aload_n 0, 1) := by decide +kernel
theorem dX11_forget_9 : decode cX11_forget 9 = .ok (.getfield 7, 3) := by decide +kernel
theorem dX11_forget_12 : decode cX11_forget 12 = .ok (.bipush 78, 2) := by decide +kernel
theorem dX11_forget_14 : decode cX11_forget 14 = .ok (.iconst 0, 1) := by decide +kernel
theorem dX11_forget_15 : decode cX11_forget 15 = .ok (.iastore, 1) := by decide +kernel
theorem dX11_forget_16 : decode cX11_forget 16 = .ok (.iload_n 1, 1) := by decide +kernel
theorem dX11_forget_17 : decode cX11_forget 17 = .ok (.ireturn, 1) := by decide +kernel
theorem dX11_isTold_0 : decode cX11_isTold 0 = .ok (.aload_n 0, 1) := by decide +kernel
theorem dX11_isTold_1 : decode cX11_isTold 1 = .ok (.iconst 0, 1) := by decide +kernel
theorem dX11_isTold_2 : decode cX11_isTold 2 = .ok (.iload_n 1, 1) := by decide +kernel
theorem dX11_isTold_3 : decode cX11_isTold 3 = .ok (.invokevirtual 289, 3) := by decide +kernel
theorem dX11_isTold_6 : decode cX11_isTold 6 = .ok (.istore_n 2, 1) := by decide +kernel
theorem dX11_isTold_7 : decode cX11_isTold 7 = .ok (.iload_n 2, 1) := by decide +kernel
theorem dX11_isTold_8 : decode cX11_isTold 8 = .ok (.bipush (-4), 2) := by decide +kernel
theorem dX11_isTold_10 : decode cX11_isTold 10 = .ok (.if_icmp .eq 38, 3) := by decide +kernel
theorem dX11_isTold_13 : decode cX11_isTold 13 = .ok (.aload_n 0, 1) := by decide +kernel
theorem dX11_isTold_14 : decode cX11_isTold 14 = .ok (.getfield 7, 3) := by decide +kernel
theorem dX11_isTold_17 : decode cX11_isTold 17 = .ok (.iload_n 1, 1) := by decide +kernel
theorem dX11_isTold_18 : decode cX11_isTold 18 = .ok (.iaload, 1) := by decide +kernel
theorem dX11_isTold_19 : decode cX11_isTold 19 = .ok (.ifCond .eq 29, 3) := by decide +kernel
theorem dX11_isTold_22 : decode cX11_isTold 22 = .ok (.aload_n 0, 1) := by decide +kernel
theorem dX11_isTold_23 : decode cX11_isTold 23 = .ok (.getfield 7, 3) := by decide +kernel
theorem dX11_isTold_26 : decode cX11_isTold 26 = .ok (.bipush 8, 2) := by decide +kernel
theorem dX11_isTold_28 : decode cX11_isTold 28 = .ok (.iload_n 2, 1) := by decide +kernel
theorem dX11_isTold_29 : decode cX11_isTold 29 = .ok (.iadd, 1) := by decide +kernel
theorem dX11_isTold_30 : decode cX11_isTold 30 = .ok (.iaload, 1) := by decide +kernel
theorem dX11_isTold_31 : decode cX11_isTold 31 = .ok (.aload_n 0, 1) := by decide +kernel
theorem dX11_isTold_32 : decode cX11_isTold 32 = .ok (.aload_n 0, 1) := by decide +kernel
theorem dX11_isTold_33 : decode cX11_isTold 33 = .ok (.getfield 7, 3) := by decide +kernel
theorem dX11_isTold_36 : decode cX11_isTold 36 = .ok (.iload_n 1, 1) := by decide +kernel
theorem dX11_isTold_37 : decode cX11_isTold 37 = .ok (.iaload, 1) := by decide +kernel
theorem dX11_isTold_38 : decode cX11_isTold 38 = .ok (.invokevirtual 276, 3) := by decide +kernel
theorem dX11_isTold_41 : decode cX11_isTold 41 = .ok (.if_icmp .ne 7, 3) := by decide +kernel
theorem dX11_isTold_44 : decode cX11_isTold 44 = .ok (.iconst 1, 1) := by decide +kernel
theorem dX11_isTold_45 : decode cX11_isTold 45 = .ok (.goto 4, 3) := by decide +kernel
theorem dX11_isTold_48 : decode cX11_isTold 48 = .ok (.iconst 0, 1) := by decide +kernel
theorem dX11_isTold_49 : decode cX11_isTold 49 = .ok (.ireturn, 1) := by decide +kernel
theorem dX11_fits_0 : decode cX11_fits 0 = .ok (.iconst 1, 1) := by decide +kernel
theorem dX11_fits_1 : decode cX11_fits 1 = .ok (.istore 4, 2) := by decide +kernel
theorem dX11_fits_3 : decode cX11_fits 3 = .ok (.iconst 0, 1) := by decide +kernel
theorem dX11_fits_4 : decode cX11_fits 4 = .ok (.istore 5, 2) := by decide +kernel
theorem dX11_fits_6 : decode cX11_fits 6 = .ok (.iload 5, 2) := by decide +kernel
theorem dX11_fits_8 : decode cX11_fits 8 = .ok (.aload_n 0, 1) := by decide +kernel
theorem dX11_fits_9 : decode cX11_fits 9 = .ok (.getfield 7, 3) := by decide +kernel
theorem dX11_fits_12 : decode cX11_fits 12 = .ok (.bipush 78, 2) := by decide +kernel
theorem dX11_fits_14 : decode cX11_fits 14 = .ok (.iaload, 1) := by decide +kernel
theorem dX11_fits_15 : decode cX11_fits 15 = .ok (.if_icmp .ge 87, 3) := by decide +kernel
theorem dX11_fits_18 : decode cX11_fits 18 = .ok (.bipush 79, 2) := by decide +kernel
theorem dX11_fits_20 : decode cX11_fits 20 = .ok (.iconst 4, 1) := by decide +kernel
theorem dX11_fits_21 : decode cX11_fits 21 = .ok (.iload 5, 2) := by decide +kernel
theorem dX11_fits_23 : decode cX11_fits 23 = .ok (.imul, 1) := by decide +kernel
theorem dX11_fits_24 : decode cX11_fits 24 = .ok (.iadd, 1) := by decide +kernel
theorem dX11_fits_25 : decode cX11_fits 25 = .ok (.istore 6, 2) := by decide +kernel
theorem dX11_fits_27 : decode cX11_fits 27 = .ok (.iload 4, 2) := by decide +kernel
theorem dX11_fits_29 : decode cX11_fits 29 = .ok (.ifCond .eq 64, 3) := by decide +kernel
theorem dX11_fits_32 : decode cX11_fits 32 = .ok (.aload_n 0, 1) := by decide +kernel
theorem dX11_fits_33 : decode cX11_fits 33 = .ok (.getfield 7, 3) := by decide +kernel
theorem dX11_fits_36 : decode cX11_fits 36 = .ok (.iload 6, 2) := by decide +kernel
theorem dX11_fits_38 : decode cX11_fits 38 = .ok (.iaload, 1) := by decide +kernel
theorem dX11_fits_39 : decode cX11_fits 39 = .ok (.iload_n 1, 1) := by decide +kernel
theorem dX11_fits_40 : decode cX11_fits 40 = .ok (.if_icmp .ne 49, 3) := by decide +kernel
theorem dX11_fits_43 : decode cX11_fits 43 = .ok (.aload_n 0, 1) := by decide +kernel
theorem dX11_fits_44 : decode cX11_fits 44 = .ok (.getfield 7, 3) := by decide +kernel
theorem dX11_fits_47 : decode cX11_fits 47 = .ok (.iload 6, 2) := by decide +kernel
theorem dX11_fits_49 : decode cX11_fits 49 = .ok (.iconst 1, 1) := by decide +kernel
theorem dX11_fits_50 : decode cX11_fits 50 = .ok (.iadd, 1) := by decide +kernel
theorem dX11_fits_51 : decode cX11_fits 51 = .ok (.iaload, 1) := by decide +kernel
theorem dX11_fits_52 : decode cX11_fits 52 = .ok (.iload_n 2, 1) := by decide +kernel
theorem dX11_fits_53 : decode cX11_fits 53 = .ok (.if_icmp .ne 36, 3) := by decide +kernel
theorem dX11_fits_56 : decode cX11_fits 56 = .ok (.aload_n 0, 1) := by decide +kernel
theorem dX11_fits_57 : decode cX11_fits 57 = .ok (.getfield 7, 3) := by decide +kernel
theorem dX11_fits_60 : decode cX11_fits 60 = .ok (.iload 6, 2) := by decide +kernel
theorem dX11_fits_62 : decode cX11_fits 62 = .ok (.iconst 3, 1) := by decide +kernel
theorem dX11_fits_63 : decode cX11_fits 63 = .ok (.iadd, 1) := by decide +kernel
theorem dX11_fits_64 : decode cX11_fits 64 = .ok (.iaload, 1) := by decide +kernel
theorem dX11_fits_65 : decode cX11_fits 65 = .ok (.aload_n 0, 1) := by decide +kernel
theorem dX11_fits_66 : decode cX11_fits 66 = .ok (.getfield 7, 3) := by decide +kernel
theorem dX11_fits_69 : decode cX11_fits 69 = .ok (.iload 6, 2) := by decide +kernel
theorem dX11_fits_71 : decode cX11_fits 71 = .ok (.iconst 2, 1) := by decide +kernel
theorem dX11_fits_72 : decode cX11_fits 72 = .ok (.iadd, 1) := by decide +kernel
theorem dX11_fits_73 : decode cX11_fits 73 = .ok (.iaload, 1) := by decide +kernel
theorem dX11_fits_74 : decode cX11_fits 74 = .ok (.iload_n 3, 1) := by decide +kernel
theorem dX11_fits_75 : decode cX11_fits 75 = .ok (.if_icmp .lt 7, 3) := by decide +kernel
theorem dX11_fits_78 : decode cX11_fits 78 = .ok (.iconst 1, 1) := by decide +kernel
theorem dX11_fits_79 : decode cX11_fits 79 = .ok (.goto 4, 3) := by decide +kernel
theorem dX11_fits_82 : decode cX11_fits 82 = .ok (.iconst 0, 1) := by decide +kernel
theorem dX11_fits_83 : decode cX11_fits 83 = .ok (.invokestatic 265, 3) := by decide +kernel
theorem dX11_fits_86 : decode cX11_fits 86 = .ok (.if_icmp .ne 7, 3) := by decide +kernel
theorem dX11_fits_89 : decode cX11_fits 89 = .ok (.iconst 1, 1) := by decide +kernel
theorem dX11_fits_90 : decode cX11_fits 90 = .ok (.goto 4, 3) := by decide +kernel
theorem dX11_fits_93 : decode cX11_fits 93 = .ok (.iconst 0, 1) := by decide +kernel
theorem dX11_fits_94 : decode cX11_fits 94 = .ok (.istore 4, 2) := by decide +kernel
theorem dX11_fits_96 : decode cX11_fits 96 = .ok (.iinc 5 1, 3) := by decide +kernel
theorem dX11_fits_99 : decode cX11_fits 99 = .ok (.goto (-93), 3) := by decide +kernel
theorem dX11_fits_102 : decode cX11_fits 102 = .ok (.iload 4, 2) := by decide +kernel
theorem dX11_fits_104 : decode cX11_fits 104 = .ok (.ireturn, 1) := by decide +kernel
theorem dX11_waysOf_0 : decode cX11_waysOf 0 = .ok (.aload_n 0, 1) := by decide +kernel
theorem dX11_waysOf_1 : decode cX11_waysOf 1 = .ok (.iconst 0, 1) := by decide +kernel
theorem dX11_waysOf_2 : decode cX11_waysOf 2 = .ok (.iload_n 1, 1) := by decide +kernel
theorem dX11_waysOf_3 : decode cX11_waysOf 3 = .ok (.invokevirtual 289, 3) := by decide +kernel
theorem dX11_waysOf_6 : decode cX11_waysOf 6 = .ok (.istore 5, 2) := by decide +kernel
theorem dX11_waysOf_8 : decode cX11_waysOf 8 = .ok (.iload_n 2, 1) := by decide +kernel
theorem dX11_waysOf_9 : decode cX11_waysOf 9 = .ok (.ifCond .ne 7, 3) := by decide +kernel
theorem dX11_waysOf_12 : decode cX11_waysOf 12 = .ok (.iload_n 1, 1) := by decide +kernel
theorem dX11_waysOf_13 : decode cX11_waysOf 13 = .ok (.goto 5, 3) := by decide +kernel
theorem dX11_waysOf_16 : decode cX11_waysOf 16 = .ok (.iload 5, 2) := by decide +kernel
theorem dX11_waysOf_18 : decode cX11_waysOf 18 = .ok (.istore 6, 2) := by decide +kernel
theorem dX11_waysOf_20 : decode cX11_waysOf 20 = .ok (.iload_n 2, 1) := by decide +kernel
theorem dX11_waysOf_21 : decode cX11_waysOf 21 = .ok (.ifCond .ne 8, 3) := by decide +kernel
theorem dX11_waysOf_24 : decode cX11_waysOf 24 = .ok (.iload 5, 2) := by decide +kernel
theorem dX11_waysOf_26 : decode cX11_waysOf 26 = .ok (.goto 4, 3) := by decide +kernel
theorem dX11_waysOf_29 : decode cX11_waysOf 29 = .ok (.iload_n 1, 1) := by decide +kernel
theorem dX11_waysOf_30 : decode cX11_waysOf 30 = .ok (.istore 7, 2) := by decide +kernel
theorem dX11_waysOf_32 : decode cX11_waysOf 32 = .ok (.aload_n 0, 1) := by decide +kernel
theorem dX11_waysOf_33 : decode cX11_waysOf 33 = .ok (.iload_n 2, 1) := by decide +kernel
theorem dX11_waysOf_34 : decode cX11_waysOf 34 = .ok (.iload 6, 2) := by decide +kernel
theorem dX11_waysOf_36 : decode cX11_waysOf 36 = .ok (.iload_n 3, 1) := by decide +kernel
theorem dX11_waysOf_37 : decode cX11_waysOf 37 = .ok (.invokevirtual 352, 3) := by decide +kernel
theorem dX11_waysOf_40 : decode cX11_waysOf 40 = .ok (.ifCond .ne 5, 3) := by decide +kernel
theorem dX11_waysOf_43 : decode cX11_waysOf 43 = .ok (.iconst 0, 1) := by decide +kernel
theorem dX11_waysOf_44 : decode cX11_waysOf 44 = .ok (.ireturn, 1) := by decide +kernel
theorem dX11_waysOf_45 : decode cX11_waysOf 45 = .ok (.aload_n 0, 1) := by decide +kernel
theorem dX11_waysOf_46 : decode cX11_waysOf 46 = .ok (.iconst 1, 1) := by decide +kernel
theorem dX11_waysOf_47 : decode cX11_waysOf 47 = .ok (.iload_n 2, 1) := by decide +kernel
theorem dX11_waysOf_48 : decode cX11_waysOf 48 = .ok (.isub, 1) := by decide +kernel
theorem dX11_waysOf_49 : decode cX11_waysOf 49 = .ok (.iload 7, 2) := by decide +kernel
theorem dX11_waysOf_51 : decode cX11_waysOf 51 = .ok (.iload_n 3, 1) := by decide +kernel
theorem dX11_waysOf_52 : decode cX11_waysOf 52 = .ok (.invokevirtual 352, 3) := by decide +kernel
theorem dX11_waysOf_55 : decode cX11_waysOf 55 = .ok (.invokestatic 265, 3) := by decide +kernel
theorem dX11_waysOf_58 : decode cX11_waysOf 58 = .ok (.iload_n 3, 1) := by decide +kernel
theorem dX11_waysOf_59 : decode cX11_waysOf 59 = .ok (.iload 4, 2) := by decide +kernel
theorem dX11_waysOf_61 : decode cX11_waysOf 61 = .ok (.if_icmp .ge 22, 3) := by decide +kernel
theorem dX11_waysOf_64 : decode cX11_waysOf 64 = .ok (.aload_n 0, 1) := by decide +kernel
theorem dX11_waysOf_65 : decode cX11_waysOf 65 = .ok (.iconst 1, 1) := by decide +kernel
theorem dX11_waysOf_66 : decode cX11_waysOf 66 = .ok (.iload_n 2, 1) := by decide +kernel
theorem dX11_waysOf_67 : decode cX11_waysOf 67 = .ok (.isub, 1) := by decide +kernel
theorem dX11_waysOf_68 : decode cX11_waysOf 68 = .ok (.iload 7, 2) := by decide +kernel
theorem dX11_waysOf_70 : decode cX11_waysOf 70 = .ok (.iload_n 3, 1) := by decide +kernel
theorem dX11_waysOf_71 : decode cX11_waysOf 71 = .ok (.iconst 1, 1) := by decide +kernel
theorem dX11_waysOf_72 : decode cX11_waysOf 72 = .ok (.iadd, 1) := by decide +kernel
theorem dX11_waysOf_73 : decode cX11_waysOf 73 = .ok (.invokevirtual 352, 3) := by decide +kernel
theorem dX11_waysOf_76 : decode cX11_waysOf 76 = .ok (.ifCond .eq 7, 3) := by decide +kernel
theorem dX11_waysOf_79 : decode cX11_waysOf 79 = .ok (.iconst 1, 1) := by decide +kernel
theorem dX11_waysOf_80 : decode cX11_waysOf 80 = .ok (.goto 4, 3) := by decide +kernel
theorem dX11_waysOf_83 : decode cX11_waysOf 83 = .ok (.iconst 0, 1) := by decide +kernel
theorem dX11_waysOf_84 : decode cX11_waysOf 84 = .ok (.invokestatic 265, 3) := by decide +kernel
theorem dX11_waysOf_87 : decode cX11_waysOf 87 = .ok (.iadd, 1) := by decide +kernel
theorem dX11_waysOf_88 : decode cX11_waysOf 88 = .ok (.ireturn, 1) := by decide +kernel
theorem dX11_histories_0 : decode cX11_histories 0 = .ok (.iload_n 1, 1) := by decide +kernel
theorem dX11_histories_1 : decode cX11_histories 1 = .ok (.i2l, 1) := by decide +kernel
theorem dX11_histories_2 : decode cX11_histories 2 = .ok (.lconst 0, 1) := by decide +kernel
theorem dX11_histories_3 : decode cX11_histories 3 = .ok (.ldc2_w 318, 3) := by decide +kernel
theorem dX11_histories_6 : decode cX11_histories 6 = .ok (.invokestatic 146, 3) := by decide +kernel
theorem dX11_histories_9 : decode cX11_histories 9 = .ok (.ifCond .ne 7, 3) := by decide +kernel
theorem dX11_histories_12 : decode cX11_histories 12 = .ok (.ldc2_w 355, 3) := by decide +kernel
theorem dX11_histories_15 : decode cX11_histories 15 = .ok (.lreturn, 1) := by decide +kernel
theorem dX11_histories_16 : decode cX11_histories 16 = .ok (.lconst 1, 1) := by decide +kernel
theorem dX11_histories_17 : decode cX11_histories 17 = .ok (.lstore_n 2, 1) := by decide +kernel
theorem dX11_histories_18 : decode cX11_histories 18 = .ok (.iconst 0, 1) := by decide +kernel
theorem dX11_histories_19 : decode cX11_histories 19 = .ok (.istore 4, 2) := by decide +kernel
theorem dX11_histories_21 : decode cX11_histories 21 = .ok (.iload 4, 2) := by decide +kernel
theorem dX11_histories_23 : decode cX11_histories 23 = .ok (.aload_n 0, 1) := by decide +kernel
theorem dX11_histories_24 : decode cX11_histories 24 = .ok (.getfield 129, 3) := by decide +kernel
theorem dX11_histories_27 : decode cX11_histories 27 = .ok (.if_icmp .ge 68, 3) := by decide +kernel
theorem dX11_histories_30 : decode cX11_histories 30 = .ok (.aload_n 0, 1) := by decide +kernel
theorem dX11_histories_31 : decode cX11_histories 31 = .ok (.iload 4, 2) := by decide +kernel
theorem dX11_histories_33 : decode cX11_histories 33 = .ok (.invokevirtual 357, 3) := by decide +kernel
theorem dX11_histories_36 : decode cX11_histories 36 = .ok (.ifCond .eq 53, 3) := by decide +kernel
theorem dX11_histories_39 : decode cX11_histories 39 = .ok (.lconst 0, 1) := by decide +kernel
theorem dX11_histories_40 : decode cX11_histories 40 = .ok (.lstore 5, 2) := by decide +kernel
theorem dX11_histories_42 : decode cX11_histories 42 = .ok (.iconst 0, 1) := by decide +kernel
theorem dX11_histories_43 : decode cX11_histories 43 = .ok (.istore 7, 2) := by decide +kernel
theorem dX11_histories_45 : decode cX11_histories 45 = .ok (.iload 7, 2) := by decide +kernel
theorem dX11_histories_47 : decode cX11_histories 47 = .ok (.iload_n 1, 1) := by decide +kernel
theorem dX11_histories_48 : decode cX11_histories 48 = .ok (.if_icmp .gt 36, 3) := by decide +kernel
theorem dX11_histories_51 : decode cX11_histories 51 = .ok (.lload 5, 2) := by decide +kernel
theorem dX11_histories_53 : decode cX11_histories 53 = .ok (.aload_n 0, 1) := by decide +kernel
theorem dX11_histories_54 : decode cX11_histories 54 = .ok (.iload 4, 2) := by decide +kernel
theorem dX11_histories_56 : decode cX11_histories 56 = .ok (.iconst 0, 1) := by decide +kernel
theorem dX11_histories_57 : decode cX11_histories 57 = .ok (.iload 7, 2) := by decide +kernel
theorem dX11_histories_59 : decode cX11_histories 59 = .ok (.iload_n 1, 1) := by decide +kernel
theorem dX11_histories_60 : decode cX11_histories 60 = .ok (.invokevirtual 360, 3) := by decide +kernel
theorem dX11_histories_63 : decode cX11_histories 63 = .ok (.aload_n 0, 1) := by decide +kernel
theorem dX11_histories_64 : decode cX11_histories 64 = .ok (.iload 4, 2) := by decide +kernel
theorem dX11_histories_66 : decode cX11_histories 66 = .ok (.iconst 1, 1) := by decide +kernel
theorem dX11_histories_67 : decode cX11_histories 67 = .ok (.iload 7, 2) := by decide +kernel
theorem dX11_histories_69 : decode cX11_histories 69 = .ok (.iload_n 1, 1) := by decide +kernel
theorem dX11_histories_70 : decode cX11_histories 70 = .ok (.invokevirtual 360, 3) := by decide +kernel
theorem dX11_histories_73 : decode cX11_histories 73 = .ok (.iadd, 1) := by decide +kernel
theorem dX11_histories_74 : decode cX11_histories 74 = .ok (.i2l, 1) := by decide +kernel
theorem dX11_histories_75 : decode cX11_histories 75 = .ok (.ladd, 1) := by decide +kernel
theorem dX11_histories_76 : decode cX11_histories 76 = .ok (.lstore 5, 2) := by decide +kernel
theorem dX11_histories_78 : decode cX11_histories 78 = .ok (.iinc 7 1, 3) := by decide +kernel
theorem dX11_histories_81 : decode cX11_histories 81 = .ok (.goto (-36), 3) := by decide +kernel
theorem dX11_histories_84 : decode cX11_histories 84 = .ok (.lload_n 2, 1) := by decide +kernel
theorem dX11_histories_85 : decode cX11_histories 85 = .ok (.lload 5, 2) := by decide +kernel
theorem dX11_histories_87 : decode cX11_histories 87 = .ok (.lmul, 1) := by decide +kernel
theorem dX11_histories_88 : decode cX11_histories 88 = .ok (.lstore_n 2, 1) := by decide +kernel
theorem dX11_histories_89 : decode cX11_histories 89 = .ok (.iinc 4 1, 3) := by decide +kernel
theorem dX11_histories_92 : decode cX11_histories 92 = .ok (.goto (-71), 3) := by decide +kernel
theorem dX11_histories_95 : decode cX11_histories 95 = .ok (.lload_n 2, 1) := by decide +kernel
theorem dX11_histories_96 : decode cX11_histories 96 = .ok (.lreturn, 1) := by decide +kernel
theorem dX11_began_0 : decode cX11_began 0 = .ok (.aload_n 0, 1) := by decide +kernel
theorem dX11_began_1 : decode cX11_began 1 = .ok (.iconst 0, 1) := by decide +kernel
theorem dX11_began_2 : decode cX11_began 2 = .ok (.iload_n 1, 1) := by decide +kernel
theorem dX11_began_3 : decode cX11_began 3 = .ok (.invokevirtual 282, 3) := by decide +kernel
theorem dX11_began_6 : decode cX11_began 6 = .ok (.ifCond .eq 27, 3) := by decide +kernel
theorem dX11_began_9 : decode cX11_began 9 = .ok (.iload_n 2, 1) := by decide +kernel
theorem dX11_began_10 : decode cX11_began 10 = .ok (.i2l, 1) := by decide +kernel
theorem dX11_began_11 : decode cX11_began 11 = .ok (.lconst 0, 1) := by decide +kernel
theorem dX11_began_12 : decode cX11_began 12 = .ok (.ldc2_w 318, 3) := by decide +kernel
theorem dX11_began_15 : decode cX11_began 15 = .ok (.invokestatic 146, 3) := by decide +kernel
theorem dX11_began_18 : decode cX11_began 18 = .ok (.ifCond .eq 15, 3) := by decide +kernel
theorem dX11_began_21 : decode cX11_began 21 = .ok (.iload_n 3, 1) := by decide +kernel
theorem dX11_began_22 : decode cX11_began 22 = .ok (.i2l, 1) := by decide +kernel
theorem dX11_began_23 : decode cX11_began 23 = .ok (.lconst 0, 1) := by decide +kernel
theorem dX11_began_24 : decode cX11_began 24 = .ok (.ldc2_w 332, 3) := by decide +kernel
theorem dX11_began_27 : decode cX11_began 27 = .ok (.invokestatic 146, 3) := by decide +kernel
theorem dX11_began_30 : decode cX11_began 30 = .ok (.ifCond .ne 5, 3) := by decide +kernel
theorem dX11_began_33 : decode cX11_began 33 = .ok (.iconst (-1), 1) := by decide +kernel
theorem dX11_began_34 : decode cX11_began 34 = .ok (.ireturn, 1) := by decide +kernel
theorem dX11_began_35 : decode cX11_began 35 = .ok (.aload_n 0, 1) := by decide +kernel
theorem dX11_began_36 : decode cX11_began 36 = .ok (.iload_n 1, 1) := by decide +kernel
theorem dX11_began_37 : decode cX11_began 37 = .ok (.invokevirtual 357, 3) := by decide +kernel
theorem dX11_began_40 : decode cX11_began 40 = .ok (.ifCond .ne 6, 3) := by decide +kernel
theorem dX11_began_43 : decode cX11_began 43 = .ok (.bipush (-2), 2) := by decide +kernel
theorem dX11_began_45 : decode cX11_began 45 = .ok (.ireturn, 1) := by decide +kernel
theorem dX11_began_46 : decode cX11_began 46 = .ok (.iconst 0, 1) := by decide +kernel
theorem dX11_began_47 : decode cX11_began 47 = .ok (.istore 4, 2) := by decide +kernel
theorem dX11_began_49 : decode cX11_began 49 = .ok (.iconst 0, 1) := by decide +kernel
theorem dX11_began_50 : decode cX11_began 50 = .ok (.istore 5, 2) := by decide +kernel
theorem dX11_began_52 : decode cX11_began 52 = .ok (.bipush (-4), 2) := by decide +kernel
theorem dX11_began_54 : decode cX11_began 54 = .ok (.istore 6, 2) := by decide +kernel
theorem dX11_began_56 : decode cX11_began 56 = .ok (.bipush (-4), 2) := by decide +kernel
theorem dX11_began_58 : decode cX11_began 58 = .ok (.istore 7, 2) := by decide +kernel
theorem dX11_began_60 : decode cX11_began 60 = .ok (.iconst 0, 1) := by decide +kernel
theorem dX11_began_61 : decode cX11_began 61 = .ok (.istore 8, 2) := by decide +kernel
theorem dX11_began_63 : decode cX11_began 63 = .ok (.iload 8, 2) := by decide +kernel
theorem dX11_began_65 : decode cX11_began 65 = .ok (.iload_n 2, 1) := by decide +kernel
theorem dX11_began_66 : decode cX11_began 66 = .ok (.if_icmp .gt 86, 3) := by decide +kernel
theorem dX11_began_69 : decode cX11_began 69 = .ok (.aload_n 0, 1) := by decide +kernel
theorem dX11_began_70 : decode cX11_began 70 = .ok (.iload_n 1, 1) := by decide +kernel
theorem dX11_began_71 : decode cX11_began 71 = .ok (.iconst 0, 1) := by decide +kernel
theorem dX11_began_72 : decode cX11_began 72 = .ok (.iload 8, 2) := by decide +kernel
theorem dX11_began_74 : decode cX11_began 74 = .ok (.iload_n 2, 1) := by decide +kernel
theorem dX11_began_75 : decode cX11_began 75 = .ok (.invokevirtual 360, 3) := by decide +kernel
theorem dX11_began_78 : decode cX11_began 78 = .ok (.istore 9, 2) := by decide +kernel
theorem dX11_began_80 : decode cX11_began 80 = .ok (.aload_n 0, 1) := by decide +kernel
theorem dX11_began_81 : decode cX11_began 81 = .ok (.iload_n 1, 1) := by decide +kernel
theorem dX11_began_82 : decode cX11_began 82 = .ok (.iconst 1, 1) := by decide +kernel
theorem dX11_began_83 : decode cX11_began 83 = .ok (.iload 8, 2) := by decide +kernel
theorem dX11_began_85 : decode cX11_began 85 = .ok (.iload_n 2, 1) := by decide +kernel
theorem dX11_began_86 : decode cX11_began 86 = .ok (.invokevirtual 360, 3) := by decide +kernel
theorem dX11_began_89 : decode cX11_began 89 = .ok (.istore 10, 2) := by decide +kernel
theorem dX11_began_91 : decode cX11_began 91 = .ok (.iload 4, 2) := by decide +kernel
theorem dX11_began_93 : decode cX11_began 93 = .ok (.iload 9, 2) := by decide +kernel
theorem dX11_began_95 : decode cX11_began 95 = .ok (.iadd, 1) := by decide +kernel
theorem dX11_began_96 : decode cX11_began 96 = .ok (.istore 4, 2) := by decide +kernel
theorem dX11_began_98 : decode cX11_began 98 = .ok (.iload 5, 2) := by decide +kernel
theorem dX11_began_100 : decode cX11_began 100 = .ok (.iload 10, 2) := by decide +kernel
theorem dX11_began_102 : decode cX11_began 102 = .ok (.iadd, 1) := by decide +kernel
theorem dX11_began_103 : decode cX11_began 103 = .ok (.istore 5, 2) := by decide +kernel
theorem dX11_began_105 : decode cX11_began 105 = .ok (.iload 6, 2) := by decide +kernel
theorem dX11_began_107 : decode cX11_began 107 = .ok (.bipush (-4), 2) := by decide +kernel
theorem dX11_began_109 : decode cX11_began 109 = .ok (.if_icmp .ne 16, 3) := by decide +kernel
theorem dX11_began_112 : decode cX11_began 112 = .ok (.iload 9, 2) := by decide +kernel
theorem dX11_began_114 : decode cX11_began 114 = .ok (.iload 10, 2) := by decide +kernel
theorem dX11_began_116 : decode cX11_began 116 = .ok (.iadd, 1) := by decide +kernel
theorem dX11_began_117 : decode cX11_began 117 = .ok (.ifCond .le 8, 3) := by decide +kernel
theorem dX11_began_120 : decode cX11_began 120 = .ok (.iload 8, 2) := by decide +kernel
theorem dX11_began_122 : decode cX11_began 122 = .ok (.goto 5, 3) := by decide +kernel
theorem dX11_began_125 : decode cX11_began 125 = .ok (.iload 6, 2) := by decide +kernel
theorem dX11_began_127 : decode cX11_began 127 = .ok (.istore 6, 2) := by decide +kernel
theorem dX11_began_129 : decode cX11_began 129 = .ok (.iload 9, 2) := by decide +kernel
theorem dX11_began_131 : decode cX11_began 131 = .ok (.iload 10, 2) := by decide +kernel
theorem dX11_began_133 : decode cX11_began 133 = .ok (.iadd, 1) := by decide +kernel
theorem dX11_began_134 : decode cX11_began 134 = .ok (.ifCond .le 8, 3) := by decide +kernel
theorem dX11_began_137 : decode cX11_began 137 = .ok (.iload 8, 2) := by decide +kernel
theorem dX11_began_139 : decode cX11_began 139 = .ok (.goto 5, 3) := by decide +kernel
theorem dX11_began_142 : decode cX11_began 142 = .ok (.iload 7, 2) := by decide +kernel
theorem dX11_began_144 : decode cX11_began 144 = .ok (.istore 7, 2) := by decide +kernel
theorem dX11_began_146 : decode cX11_began 146 = .ok (.iinc 8 1, 3) := by decide +kernel
theorem dX11_began_149 : decode cX11_began 149 = .ok (.goto (-86), 3) := by decide +kernel
theorem dX11_began_152 : decode cX11_began 152 = .ok (.iload_n 3, 1) := by decide +kernel
theorem dX11_began_153 : decode cX11_began 153 = .ok (.iconst 1, 1) := by decide +kernel
theorem dX11_began_154 : decode cX11_began 154 = .ok (.if_icmp .ne 8, 3) := by decide +kernel
theorem dX11_began_157 : decode cX11_began 157 = .ok (.iload 6, 2) := by decide +kernel
theorem dX11_began_159 : decode cX11_began 159 = .ok (.goto 43, 3) := by decide +kernel
theorem dX11_began_162 : decode cX11_began 162 = .ok (.iload_n 3, 1) := by decide +kernel
theorem dX11_began_163 : decode cX11_began 163 = .ok (.iconst 2, 1) := by decide +kernel
theorem dX11_began_164 : decode cX11_began 164 = .ok (.if_icmp .ne 8, 3) := by decide +kernel
theorem dX11_began_167 : decode cX11_began 167 = .ok (.iload 7, 2) := by decide +kernel
theorem dX11_began_169 : decode cX11_began 169 = .ok (.goto 33, 3) := by decide +kernel
theorem dX11_began_172 : decode cX11_began 172 = .ok (.iload 4, 2) := by decide +kernel
theorem dX11_began_174 : decode cX11_began 174 = .ok (.ifCond .le 12, 3) := by decide +kernel
theorem dX11_began_177 : decode cX11_began 177 = .ok (.iload 5, 2) := by decide +kernel
theorem dX11_began_179 : decode cX11_began 179 = .ok (.ifCond .ne 7, 3) := by decide +kernel
theorem dX11_began_182 : decode cX11_began 182 = .ok (.iconst 0, 1) := by decide +kernel
theorem dX11_began_183 : decode cX11_began 183 = .ok (.goto 19, 3) := by decide +kernel
theorem dX11_began_186 : decode cX11_began 186 = .ok (.iload 5, 2) := by decide +kernel
theorem dX11_began_188 : decode cX11_began 188 = .ok (.ifCond .le 12, 3) := by decide +kernel
theorem dX11_began_191 : decode cX11_began 191 = .ok (.iload 4, 2) := by decide +kernel
theorem dX11_began_193 : decode cX11_began 193 = .ok (.ifCond .ne 7, 3) := by decide +kernel
theorem dX11_began_196 : decode cX11_began 196 = .ok (.iconst 1, 1) := by decide +kernel
theorem dX11_began_197 : decode cX11_began 197 = .ok (.goto 5, 3) := by decide +kernel
theorem dX11_began_200 : decode cX11_began 200 = .ok (.bipush (-4), 2) := by decide +kernel
theorem dX11_began_202 : decode cX11_began 202 = .ok (.ireturn, 1) := by decide +kernel
theorem dX11_thingMany_0 : decode cX11_thingMany 0 = .ok (.iconst 0, 1) := by decide +kernel
theorem dX11_thingMany_1 : decode cX11_thingMany 1 = .ok (.istore_n 1, 1) := by decide +kernel
theorem dX11_thingMany_2 : decode cX11_thingMany 2 = .ok (.iconst 0, 1) := by decide +kernel
theorem dX11_thingMany_3 : decode cX11_thingMany 3 = .ok (.istore_n 2, 1) := by decide +kernel
theorem dX11_thingMany_4 : decode cX11_thingMany 4 = .ok (.iload_n 2, 1) := by decide +kernel
theorem dX11_thingMany_5 : decode cX11_thingMany 5 = .ok (.bipush 16, 2) := by decide +kernel
theorem dX11_thingMany_7 : decode cX11_thingMany 7 = .ok (.if_icmp .ge 29, 3) := by decide +kernel
theorem dX11_thingMany_10 : decode cX11_thingMany 10 = .ok (.iload_n 1, 1) := by decide +kernel
theorem dX11_thingMany_11 : decode cX11_thingMany 11 = .ok (.aload_n 0, 1) := by decide +kernel
theorem dX11_thingMany_12 : decode cX11_thingMany 12 = .ok (.getfield 7, 3) := by decide +kernel
theorem dX11_thingMany_15 : decode cX11_thingMany 15 = .ok (.iload_n 2, 1) := by decide +kernel
theorem dX11_thingMany_16 : decode cX11_thingMany 16 = .ok (.iaload, 1) := by decide +kernel
theorem dX11_thingMany_17 : decode cX11_thingMany 17 = .ok (.ifCond .eq 7, 3) := by decide +kernel
theorem dX11_thingMany_20 : decode cX11_thingMany 20 = .ok (.iconst 1, 1) := by decide +kernel
theorem dX11_thingMany_21 : decode cX11_thingMany 21 = .ok (.goto 4, 3) := by decide +kernel
theorem dX11_thingMany_24 : decode cX11_thingMany 24 = .ok (.iconst 0, 1) := by decide +kernel
theorem dX11_thingMany_25 : decode cX11_thingMany 25 = .ok (.invokestatic 265, 3) := by decide +kernel
theorem dX11_thingMany_28 : decode cX11_thingMany 28 = .ok (.iadd, 1) := by decide +kernel
theorem dX11_thingMany_29 : decode cX11_thingMany 29 = .ok (.istore_n 1, 1) := by decide +kernel
theorem dX11_thingMany_30 : decode cX11_thingMany 30 = .ok (.iinc 2 1, 3) := by decide +kernel
theorem dX11_thingMany_33 : decode cX11_thingMany 33 = .ok (.goto (-29), 3) := by decide +kernel
theorem dX11_thingMany_36 : decode cX11_thingMany 36 = .ok (.iload_n 1, 1) := by decide +kernel
theorem dX11_thingMany_37 : decode cX11_thingMany 37 = .ok (.ireturn, 1) := by decide +kernel
theorem dX11_copies_0 : decode cX11_copies 0 = .ok (.iconst 0, 1) := by decide +kernel
theorem dX11_copies_1 : decode cX11_copies 1 = .ok (.istore_n 3, 1) := by decide +kernel
theorem dX11_copies_2 : decode cX11_copies 2 = .ok (.iload_n 3, 1) := by decide +kernel
theorem dX11_copies_3 : decode cX11_copies 3 = .ok (.bipush 127, 2) := by decide +kernel
theorem dX11_copies_5 : decode cX11_copies 5 = .ok (.if_icmp .ge 25, 3) := by decide +kernel
theorem dX11_copies_8 : decode cX11_copies 8 = .ok (.aload_n 0, 1) := by decide +kernel
theorem dX11_copies_9 : decode cX11_copies 9 = .ok (.getfield 7, 3) := by decide +kernel
theorem dX11_copies_12 : decode cX11_copies 12 = .ok (.iload_n 1, 1) := by decide +kernel
theorem dX11_copies_13 : decode cX11_copies 13 = .ok (.iload_n 3, 1) := by decide +kernel
theorem dX11_copies_14 : decode cX11_copies 14 = .ok (.iadd, 1) := by decide +kernel
theorem dX11_copies_15 : decode cX11_copies 15 = .ok (.aload_n 0, 1) := by decide +kernel
theorem dX11_copies_16 : decode cX11_copies 16 = .ok (.getfield 7, 3) := by decide +kernel
theorem dX11_copies_19 : decode cX11_copies 19 = .ok (.iload_n 2, 1) := by decide +kernel
theorem dX11_copies_20 : decode cX11_copies 20 = .ok (.iload_n 3, 1) := by decide +kernel
theorem dX11_copies_21 : decode cX11_copies 21 = .ok (.iadd, 1) := by decide +kernel
theorem dX11_copies_22 : decode cX11_copies 22 = .ok (.iaload, 1) := by decide +kernel
theorem dX11_copies_23 : decode cX11_copies 23 = .ok (.iastore, 1) := by decide +kernel
theorem dX11_copies_24 : decode cX11_copies 24 = .ok (.iinc 3 1, 3) := by decide +kernel
theorem dX11_copies_27 : decode cX11_copies 27 = .ok (.goto (-25), 3) := by decide +kernel
theorem dX11_copies_30 : decode cX11_copies 30 = .ok (.return_, 1) := by decide +kernel
theorem dX11_keep_0 : decode cX11_keep 0 = .ok (.iload_n 1, 1) := by decide +kernel
theorem dX11_keep_1 : decode cX11_keep 1 = .ok (.i2l, 1) := by decide +kernel
theorem dX11_keep_2 : decode cX11_keep 2 = .ok (.lconst 0, 1) := by decide +kernel
theorem dX11_keep_3 : decode cX11_keep 3 = .ok (.lconst 1, 1) := by decide +kernel
theorem dX11_keep_4 : decode cX11_keep 4 = .ok (.invokestatic 146, 3) := by decide +kernel
theorem dX11_keep_7 : decode cX11_keep 7 = .ok (.ifCond .ne 5, 3) := by decide +kernel
theorem dX11_keep_10 : decode cX11_keep 10 = .ok (.iconst (-1), 1) := by decide +kernel
theorem dX11_keep_11 : decode cX11_keep 11 = .ok (.ireturn, 1) := by decide +kernel
theorem dX11_keep_12 : decode cX11_keep 12 = .ok (.aload_n 0, 1) := by decide +kernel
theorem dX11_keep_13 : decode cX11_keep 13 = .ok (.getfield 13, 3) := by decide +kernel
theorem dX11_keep_16 : decode cX11_keep 16 = .ok (.iload_n 1, 1) := by decide +kernel
theorem dX11_keep_17 : decode cX11_keep 17 = .ok (.baload, 1) := by decide +kernel
theorem dX11_keep_18 : decode cX11_keep 18 = .ok (.invokestatic 265, 3) := by decide +kernel
theorem dX11_keep_21 : decode cX11_keep 21 = .ok (.istore_n 2, 1) := by decide +kernel
theorem dX11_keep_22 : decode cX11_keep 22 = .ok (.aload_n 0, 1) := by decide +kernel
theorem dX11_keep_23 : decode cX11_keep 23 = .ok (.getfield 13, 3) := by decide +kernel
theorem dX11_keep_26 : decode cX11_keep 26 = .ok (.iload_n 1, 1) := by decide +kernel
theorem dX11_keep_27 : decode cX11_keep 27 = .ok (.iconst 1, 1) := by decide +kernel
theorem dX11_keep_28 : decode cX11_keep 28 = .ok (.bastore, 1) := by decide +kernel
theorem dX11_keep_29 : decode cX11_keep 29 = .ok (.aload_n 0, 1) := by decide +kernel
theorem dX11_keep_30 : decode cX11_keep 30 = .ok (.bipush 127, 2) := by decide +kernel
theorem dX11_keep_32 : decode cX11_keep 32 = .ok (.iload_n 1, 1) := by decide +kernel
theorem dX11_keep_33 : decode cX11_keep 33 = .ok (.iconst 1, 1) := by decide +kernel
theorem dX11_keep_34 : decode cX11_keep 34 = .ok (.iadd, 1) := by decide +kernel
theorem dX11_keep_35 : decode cX11_keep 35 = .ok (.imul, 1) := by decide +kernel
theorem dX11_keep_36 : decode cX11_keep 36 = .ok (.iconst 0, 1) := by decide +kernel
theorem dX11_keep_37 : decode cX11_keep 37 = .ok (.invokevirtual 364, 3) := by decide +kernel
theorem dX11_keep_40 : decode cX11_keep 40 = .ok (.iload_n 2, 1) := by decide +kernel
theorem dX11_keep_41 : decode cX11_keep 41 = .ok (.ireturn, 1) := by decide +kernel
theorem dX11_back_0 : decode cX11_back 0 = .ok (.iload_n 1, 1) := by decide +kernel
theorem dX11_back_1 : decode cX11_back 1 = .ok (.i2l, 1) := by decide +kernel
theorem dX11_back_2 : decode cX11_back 2 = .ok (.lconst 0, 1) := by decide +kernel
theorem dX11_back_3 : decode cX11_back 3 = .ok (.lconst 1, 1) := by decide +kernel
theorem dX11_back_4 : decode cX11_back 4 = .ok (.invokestatic 146, 3) := by decide +kernel
theorem dX11_back_7 : decode cX11_back 7 = .ok (.ifCond .ne 5, 3) := by decide +kernel
theorem dX11_back_10 : decode cX11_back 10 = .ok (.iconst (-1), 1) := by decide +kernel
theorem dX11_back_11 : decode cX11_back 11 = .ok (.ireturn, 1) := by decide +kernel
theorem dX11_back_12 : decode cX11_back 12 = .ok (.aload_n 0, 1) := by decide +kernel
theorem dX11_back_13 : decode cX11_back 13 = .ok (.getfield 13, 3) := by decide +kernel
theorem dX11_back_16 : decode cX11_back 16 = .ok (.iload_n 1, 1) := by decide +kernel
theorem dX11_back_17 : decode cX11_back 17 = .ok (.baload, 1) := by decide +kernel
theorem dX11_back_18 : decode cX11_back 18 = .ok (.ifCond .ne 6, 3) := by decide +kernel
theorem dX11_back_21 : decode cX11_back 21 = .ok (.bipush (-2), 2) := by decide +kernel
theorem dX11_back_23 : decode cX11_back 23 = .ok (.ireturn, 1) := by decide +kernel
theorem dX11_back_24 : decode cX11_back 24 = .ok (.aload_n 0, 1) := by decide +kernel
theorem dX11_back_25 : decode cX11_back 25 = .ok (.iconst 0, 1) := by decide +kernel
theorem dX11_back_26 : decode cX11_back 26 = .ok (.bipush 127, 2) := by decide +kernel
theorem dX11_back_28 : decode cX11_back 28 = .ok (.iload_n 1, 1) := by decide +kernel
theorem dX11_back_29 : decode cX11_back 29 = .ok (.iconst 1, 1) := by decide +kernel
theorem dX11_back_30 : decode cX11_back 30 = .ok (.iadd, 1) := by decide +kernel
theorem dX11_back_31 : decode cX11_back 31 = .ok (.imul, 1) := by decide +kernel
theorem dX11_back_32 : decode cX11_back 32 = .ok (.invokevirtual 364, 3) := by decide +kernel
theorem dX11_back_35 : decode cX11_back 35 = .ok (.aload_n 0, 1) := by decide +kernel
theorem dX11_back_36 : decode cX11_back 36 = .ok (.invokevirtual 368, 3) := by decide +kernel
theorem dX11_back_39 : decode cX11_back 39 = .ok (.ireturn, 1) := by decide +kernel
theorem dX11_isSheet_0 : decode cX11_isSheet 0 = .ok (.iload_n 0, 1) := by decide +kernel
theorem dX11_isSheet_1 : decode cX11_isSheet 1 = .ok (.i2l, 1) := by decide +kernel
theorem dX11_isSheet_2 : decode cX11_isSheet 2 = .ok (.lconst 0, 1) := by decide +kernel
theorem dX11_isSheet_3 : decode cX11_isSheet 3 = .ok (.ldc2_w 269, 3) := by decide +kernel
theorem dX11_isSheet_6 : decode cX11_isSheet 6 = .ok (.invokestatic 146, 3) := by decide +kernel
theorem dX11_isSheet_9 : decode cX11_isSheet 9 = .ok (.ifCond .eq 19, 3) := by decide +kernel
theorem dX11_isSheet_12 : decode cX11_isSheet 12 = .ok (.iload_n 1, 1) := by decide +kernel
theorem dX11_isSheet_13 : decode cX11_isSheet 13 = .ok (.i2l, 1) := by decide +kernel
theorem dX11_isSheet_14 : decode cX11_isSheet 14 = .ok (.lconst 0, 1) := by decide +kernel
theorem dX11_isSheet_15 : decode cX11_isSheet 15 = .ok (.ldc2_w 332, 3) := by decide +kernel
theorem dX11_isSheet_18 : decode cX11_isSheet 18 = .ok (.invokestatic 146, 3) := by decide +kernel
theorem dX11_isSheet_21 : decode cX11_isSheet 21 = .ok (.ifCond .eq 7, 3) := by decide +kernel
theorem dX11_isSheet_24 : decode cX11_isSheet 24 = .ok (.iconst 1, 1) := by decide +kernel
theorem dX11_isSheet_25 : decode cX11_isSheet 25 = .ok (.goto 4, 3) := by decide +kernel
theorem dX11_isSheet_28 : decode cX11_isSheet 28 = .ok (.iconst 0, 1) := by decide +kernel
theorem dX11_isSheet_29 : decode cX11_isSheet 29 = .ok (.ireturn, 1) := by decide +kernel
theorem dX11_sheet_0 : decode cX11_sheet 0 = .ok (.iload_n 1, 1) := by decide +kernel
theorem dX11_sheet_1 : decode cX11_sheet 1 = .ok (.iload_n 2, 1) := by decide +kernel
theorem dX11_sheet_2 : decode cX11_sheet 2 = .ok (.invokestatic 371, 3) := by decide +kernel
theorem dX11_sheet_5 : decode cX11_sheet 5 = .ok (.ifCond .eq 9, 3) := by decide +kernel
theorem dX11_sheet_8 : decode cX11_sheet 8 = .ok (.iload_n 3, 1) := by decide +kernel
theorem dX11_sheet_9 : decode cX11_sheet 9 = .ok (.bipush 40, 2) := by decide +kernel
theorem dX11_sheet_11 : decode cX11_sheet 11 = .ok (.if_icmp .le 5, 3) := by decide +kernel
theorem dX11_sheet_14 : decode cX11_sheet 14 = .ok (.iconst (-1), 1) := by decide +kernel
theorem dX11_sheet_15 : decode cX11_sheet 15 = .ok (.ireturn, 1) := by decide +kernel
theorem dX11_sheet_16 : decode cX11_sheet 16 = .ok (.iload_n 3, 1) := by decide +kernel
theorem dX11_sheet_17 : decode cX11_sheet 17 = .ok (.ifCond .ge 6, 3) := by decide +kernel
theorem dX11_sheet_20 : decode cX11_sheet 20 = .ok (.bipush (-14), 2) := by decide +kernel
theorem dX11_sheet_22 : decode cX11_sheet 22 = .ok (.ireturn, 1) := by decide +kernel
theorem dX11_sheet_23 : decode cX11_sheet 23 = .ok (.aload_n 0, 1) := by decide +kernel
theorem dX11_sheet_24 : decode cX11_sheet 24 = .ok (.getfield 80, 3) := by decide +kernel
theorem dX11_sheet_27 : decode cX11_sheet 27 = .ok (.iload_n 1, 1) := by decide +kernel
theorem dX11_sheet_28 : decode cX11_sheet 28 = .ok (.iload_n 2, 1) := by decide +kernel
theorem dX11_sheet_29 : decode cX11_sheet 29 = .ok (.iastore, 1) := by decide +kernel
theorem dX11_sheet_30 : decode cX11_sheet 30 = .ok (.aload_n 0, 1) := by decide +kernel
theorem dX11_sheet_31 : decode cX11_sheet 31 = .ok (.getfield 83, 3) := by decide +kernel
theorem dX11_sheet_34 : decode cX11_sheet 34 = .ok (.iload_n 1, 1) := by decide +kernel
theorem dX11_sheet_35 : decode cX11_sheet 35 = .ok (.iload_n 3, 1) := by decide +kernel
theorem dX11_sheet_36 : decode cX11_sheet 36 = .ok (.iastore, 1) := by decide +kernel
theorem dX11_sheet_37 : decode cX11_sheet 37 = .ok (.iconst 0, 1) := by decide +kernel
theorem dX11_sheet_38 : decode cX11_sheet 38 = .ok (.istore 4, 2) := by decide +kernel
theorem dX11_sheet_40 : decode cX11_sheet 40 = .ok (.iload 4, 2) := by decide +kernel
theorem dX11_sheet_42 : decode cX11_sheet 42 = .ok (.bipush 40, 2) := by decide +kernel
theorem dX11_sheet_44 : decode cX11_sheet 44 = .ok (.if_icmp .ge 22, 3) := by decide +kernel
theorem dX11_sheet_47 : decode cX11_sheet 47 = .ok (.aload_n 0, 1) := by decide +kernel
theorem dX11_sheet_48 : decode cX11_sheet 48 = .ok (.getfield 86, 3) := by decide +kernel
theorem dX11_sheet_51 : decode cX11_sheet 51 = .ok (.bipush 40, 2) := by decide +kernel
theorem dX11_sheet_53 : decode cX11_sheet 53 = .ok (.iload_n 1, 1) := by decide +kernel
theorem dX11_sheet_54 : decode cX11_sheet 54 = .ok (.imul, 1) := by decide +kernel
theorem dX11_sheet_55 : decode cX11_sheet 55 = .ok (.iload 4, 2) := by decide +kernel
theorem dX11_sheet_57 : decode cX11_sheet 57 = .ok (.iadd, 1) := by decide +kernel
theorem dX11_sheet_58 : decode cX11_sheet 58 = .ok (.iconst 0, 1) := by decide +kernel
theorem dX11_sheet_59 : decode cX11_sheet 59 = .ok (.iastore, 1) := by decide +kernel
theorem dX11_sheet_60 : decode cX11_sheet 60 = .ok (.iinc 4 1, 3) := by decide +kernel
theorem dX11_sheet_63 : decode cX11_sheet 63 = .ok (.goto (-23), 3) := by decide +kernel
theorem dX11_sheet_66 : decode cX11_sheet 66 = .ok (.iconst 1, 1) := by decide +kernel
theorem dX11_sheet_67 : decode cX11_sheet 67 = .ok (.ireturn, 1) := by decide +kernel
theorem dX11_lay_0 : decode cX11_lay 0 = .ok (.iload_n 1, 1) := by decide +kernel
theorem dX11_lay_1 : decode cX11_lay 1 = .ok (.iconst 0, 1) := by decide +kernel
theorem dX11_lay_2 : decode cX11_lay 2 = .ok (.invokestatic 371, 3) := by decide +kernel
theorem dX11_lay_5 : decode cX11_lay 5 = .ok (.ifCond .ne 5, 3) := by decide +kernel
theorem dX11_lay_8 : decode cX11_lay 8 = .ok (.iconst (-1), 1) := by decide +kernel
theorem dX11_lay_9 : decode cX11_lay 9 = .ok (.ireturn, 1) := by decide +kernel
theorem dX11_lay_10 : decode cX11_lay 10 = .ok (.aload_n 0, 1) := by decide +kernel
theorem dX11_lay_11 : decode cX11_lay 11 = .ok (.getfield 80, 3) := by decide +kernel
theorem dX11_lay_14 : decode cX11_lay 14 = .ok (.iload_n 1, 1) := by decide +kernel
theorem dX11_lay_15 : decode cX11_lay 15 = .ok (.iaload, 1) := by decide +kernel
theorem dX11_lay_16 : decode cX11_lay 16 = .ok (.bipush (-4), 2) := by decide +kernel
theorem dX11_lay_18 : decode cX11_lay 18 = .ok (.if_icmp .ne 6, 3) := by decide +kernel
theorem dX11_lay_21 : decode cX11_lay 21 = .ok (.bipush (-11), 2) := by decide +kernel
theorem dX11_lay_23 : decode cX11_lay 23 = .ok (.ireturn, 1) := by decide +kernel
theorem dX11_lay_24 : decode cX11_lay 24 = .ok (.iload_n 2, 1) := by decide +kernel
theorem dX11_lay_25 : decode cX11_lay 25 = .ok (.i2l, 1) := by decide +kernel
theorem dX11_lay_26 : decode cX11_lay 26 = .ok (.lconst 0, 1) := by decide +kernel
theorem dX11_lay_27 : decode cX11_lay 27 = .ok (.aload_n 0, 1) := by decide +kernel
theorem dX11_lay_28 : decode cX11_lay 28 = .ok (.getfield 83, 3) := by decide +kernel
theorem dX11_lay_31 : decode cX11_lay 31 = .ok (.iload_n 1, 1) := by decide +kernel
theorem dX11_lay_32 : decode cX11_lay 32 = .ok (.iaload, 1) := by decide +kernel
theorem dX11_lay_33 : decode cX11_lay 33 = .ok (.iconst 1, 1) := by decide +kernel
theorem dX11_lay_34 : decode cX11_lay 34 = .ok (.isub, 1) := by decide +kernel
theorem dX11_lay_35 : decode cX11_lay 35 = .ok (.i2l, 1) := by decide +kernel
theorem dX11_lay_36 : decode cX11_lay 36 = .ok (.invokestatic 146, 3) := by decide +kernel
theorem dX11_lay_39 : decode cX11_lay 39 = .ok (.ifCond .ne 6, 3) := by decide +kernel
theorem dX11_lay_42 : decode cX11_lay 42 = .ok (.bipush (-12), 2) := by decide +kernel
theorem dX11_lay_44 : decode cX11_lay 44 = .ok (.ireturn, 1) := by decide +kernel
theorem dX11_lay_45 : decode cX11_lay 45 = .ok (.aload_n 0, 1) := by decide +kernel
theorem dX11_lay_46 : decode cX11_lay 46 = .ok (.getfield 86, 3) := by decide +kernel
theorem dX11_lay_49 : decode cX11_lay 49 = .ok (.bipush 40, 2) := by decide +kernel
theorem dX11_lay_51 : decode cX11_lay 51 = .ok (.iload_n 1, 1) := by decide +kernel
theorem dX11_lay_52 : decode cX11_lay 52 = .ok (.imul, 1) := by decide +kernel
theorem dX11_lay_53 : decode cX11_lay 53 = .ok (.iload_n 2, 1) := by decide +kernel
theorem dX11_lay_54 : decode cX11_lay 54 = .ok (.iadd, 1) := by decide +kernel
theorem dX11_lay_55 : decode cX11_lay 55 = .ok (.aload_n 0, 1) := by decide +kernel
theorem dX11_lay_56 : decode cX11_lay 56 = .ok (.getfield 80, 3) := by decide +kernel
theorem dX11_lay_59 : decode cX11_lay 59 = .ok (.iload_n 1, 1) := by decide +kernel
theorem dX11_lay_60 : decode cX11_lay 60 = .ok (.iaload, 1) := by decide +kernel
theorem dX11_lay_61 : decode cX11_lay 61 = .ok (.ifCond .ne 8, 3) := by decide +kernel
theorem dX11_lay_64 : decode cX11_lay 64 = .ok (.iload_n 3, 1) := by decide +kernel
theorem dX11_lay_65 : decode cX11_lay 65 = .ok (.i2b, 1) := by decide +kernel
theorem dX11_lay_66 : decode cX11_lay 66 = .ok (.goto 19, 3) := by decide +kernel
theorem dX11_lay_69 : decode cX11_lay 69 = .ok (.aload_n 0, 1) := by decide +kernel
theorem dX11_lay_70 : decode cX11_lay 70 = .ok (.getfield 80, 3) := by decide +kernel
theorem dX11_lay_73 : decode cX11_lay 73 = .ok (.iload_n 1, 1) := by decide +kernel
theorem dX11_lay_74 : decode cX11_lay 74 = .ok (.iaload, 1) := by decide +kernel
theorem dX11_lay_75 : decode cX11_lay 75 = .ok (.iconst 1, 1) := by decide +kernel
theorem dX11_lay_76 : decode cX11_lay 76 = .ok (.if_icmp .ne 8, 3) := by decide +kernel
theorem dX11_lay_79 : decode cX11_lay 79 = .ok (.iload_n 3, 1) := by decide +kernel
theorem dX11_lay_80 : decode cX11_lay 80 = .ok (.i2s, 1) := by decide +kernel
theorem dX11_lay_81 : decode cX11_lay 81 = .ok (.goto 4, 3) := by decide +kernel
theorem dX11_lay_84 : decode cX11_lay 84 = .ok (.iload_n 3, 1) := by decide +kernel
theorem dX11_lay_85 : decode cX11_lay 85 = .ok (.iastore, 1) := by decide +kernel
theorem dX11_lay_86 : decode cX11_lay 86 = .ok (.iconst 1, 1) := by decide +kernel
theorem dX11_lay_87 : decode cX11_lay 87 = .ok (.ireturn, 1) := by decide +kernel
theorem dX11_read_0 : decode cX11_read 0 = .ok (.iload_n 1, 1) := by decide +kernel
theorem dX11_read_1 : decode cX11_read 1 = .ok (.iload_n 2, 1) := by decide +kernel
theorem dX11_read_2 : decode cX11_read 2 = .ok (.invokestatic 371, 3) := by decide +kernel
theorem dX11_read_5 : decode cX11_read 5 = .ok (.ifCond .eq 16, 3) := by decide +kernel
theorem dX11_read_8 : decode cX11_read 8 = .ok (.iload 4, 2) := by decide +kernel
theorem dX11_read_10 : decode cX11_read 10 = .ok (.i2l, 1) := by decide +kernel
theorem dX11_read_11 : decode cX11_read 11 = .ok (.lconst 0, 1) := by decide +kernel
theorem dX11_read_12 : decode cX11_read 12 = .ok (.ldc2_w 253, 3) := by decide +kernel
theorem dX11_read_15 : decode cX11_read 15 = .ok (.invokestatic 146, 3) := by decide +kernel
theorem dX11_read_18 : decode cX11_read 18 = .ok (.ifCond .ne 5, 3) := by decide +kernel
theorem dX11_read_21 : decode cX11_read 21 = .ok (.iconst (-1), 1) := by decide +kernel
theorem dX11_read_22 : decode cX11_read 22 = .ok (.ireturn, 1) := by decide +kernel
theorem dX11_read_23 : decode cX11_read 23 = .ok (.iconst 0, 1) := by decide +kernel
theorem dX11_read_24 : decode cX11_read 24 = .ok (.istore 5, 2) := by decide +kernel
theorem dX11_read_26 : decode cX11_read 26 = .ok (.iconst 0, 1) := by decide +kernel
theorem dX11_read_27 : decode cX11_read 27 = .ok (.istore 6, 2) := by decide +kernel
theorem dX11_read_29 : decode cX11_read 29 = .ok (.iconst 0, 1) := by decide +kernel
theorem dX11_read_30 : decode cX11_read 30 = .ok (.istore 7, 2) := by decide +kernel
theorem dX11_read_32 : decode cX11_read 32 = .ok (.iload 7, 2) := by decide +kernel
theorem dX11_read_34 : decode cX11_read 34 = .ok (.iload 4, 2) := by decide +kernel
theorem dX11_read_36 : decode cX11_read 36 = .ok (.if_icmp .ge 169, 3) := by decide +kernel
theorem dX11_read_39 : decode cX11_read 39 = .ok (.iload 5, 2) := by decide +kernel
theorem dX11_read_41 : decode cX11_read 41 = .ok (.ifCond .ne 164, 3) := by decide +kernel
theorem dX11_read_44 : decode cX11_read 44 = .ok (.iconst 0, 1) := by decide +kernel
theorem dX11_read_45 : decode cX11_read 45 = .ok (.istore 8, 2) := by decide +kernel
theorem dX11_read_47 : decode cX11_read 47 = .ok (.iload 8, 2) := by decide +kernel
theorem dX11_read_49 : decode cX11_read 49 = .ok (.iconst 3, 1) := by decide +kernel
theorem dX11_read_50 : decode cX11_read 50 = .ok (.if_icmp .ge 84, 3) := by decide +kernel
theorem dX11_read_53 : decode cX11_read 53 = .ok (.iload 5, 2) := by decide +kernel
theorem dX11_read_55 : decode cX11_read 55 = .ok (.ifCond .ne 79, 3) := by decide +kernel
theorem dX11_read_58 : decode cX11_read 58 = .ok (.iload_n 3, 1) := by decide +kernel
theorem dX11_read_59 : decode cX11_read 59 = .ok (.i2l, 1) := by decide +kernel
theorem dX11_read_60 : decode cX11_read 60 = .ok (.iconst 3, 1) := by decide +kernel
theorem dX11_read_61 : decode cX11_read 61 = .ok (.iload 7, 2) := by decide +kernel
theorem dX11_read_63 : decode cX11_read 63 = .ok (.imul, 1) := by decide +kernel
theorem dX11_read_64 : decode cX11_read 64 = .ok (.i2l, 1) := by decide +kernel
theorem dX11_read_65 : decode cX11_read 65 = .ok (.ladd, 1) := by decide +kernel
theorem dX11_read_66 : decode cX11_read 66 = .ok (.iload 8, 2) := by decide +kernel
theorem dX11_read_68 : decode cX11_read 68 = .ok (.i2l, 1) := by decide +kernel
theorem dX11_read_69 : decode cX11_read 69 = .ok (.ladd, 1) := by decide +kernel
theorem dX11_read_70 : decode cX11_read 70 = .ok (.lstore 9, 2) := by decide +kernel
theorem dX11_read_72 : decode cX11_read 72 = .ok (.aload_n 0, 1) := by decide +kernel
theorem dX11_read_73 : decode cX11_read 73 = .ok (.getfield 80, 3) := by decide +kernel
theorem dX11_read_76 : decode cX11_read 76 = .ok (.iload_n 1, 1) := by decide +kernel
theorem dX11_read_77 : decode cX11_read 77 = .ok (.iaload, 1) := by decide +kernel
theorem dX11_read_78 : decode cX11_read 78 = .ok (.bipush (-4), 2) := by decide +kernel
theorem dX11_read_80 : decode cX11_read 80 = .ok (.if_icmp .ne 7, 3) := by decide +kernel
theorem dX11_read_83 : decode cX11_read 83 = .ok (.iconst 1, 1) := by decide +kernel
theorem dX11_read_84 : decode cX11_read 84 = .ok (.goto 42, 3) := by decide +kernel
theorem dX11_read_87 : decode cX11_read 87 = .ok (.aload_n 0, 1) := by decide +kernel
theorem dX11_read_88 : decode cX11_read 88 = .ok (.getfield 80, 3) := by decide +kernel
theorem dX11_read_91 : decode cX11_read 91 = .ok (.iload_n 1, 1) := by decide +kernel
theorem dX11_read_92 : decode cX11_read 92 = .ok (.iaload, 1) := by decide +kernel
theorem dX11_read_93 : decode cX11_read 93 = .ok (.iload_n 2, 1) := by decide +kernel
theorem dX11_read_94 : decode cX11_read 94 = .ok (.if_icmp .eq 7, 3) := by decide +kernel
theorem dX11_read_97 : decode cX11_read 97 = .ok (.iconst 3, 1) := by decide +kernel
theorem dX11_read_98 : decode cX11_read 98 = .ok (.goto 28, 3) := by decide +kernel
theorem dX11_read_101 : decode cX11_read 101 = .ok (.lload 9, 2) := by decide +kernel
theorem dX11_read_103 : decode cX11_read 103 = .ok (.lconst 0, 1) := by decide +kernel
theorem dX11_read_104 : decode cX11_read 104 = .ok (.lcmp, 1) := by decide +kernel
theorem dX11_read_105 : decode cX11_read 105 = .ok (.ifCond .lt 16, 3) := by decide +kernel
theorem dX11_read_108 : decode cX11_read 108 = .ok (.lload 9, 2) := by decide +kernel
theorem dX11_read_110 : decode cX11_read 110 = .ok (.aload_n 0, 1) := by decide +kernel
theorem dX11_read_111 : decode cX11_read 111 = .ok (.getfield 83, 3) := by decide +kernel
theorem dX11_read_114 : decode cX11_read 114 = .ok (.iload_n 1, 1) := by decide +kernel
theorem dX11_read_115 : decode cX11_read 115 = .ok (.iaload, 1) := by decide +kernel
theorem dX11_read_116 : decode cX11_read 116 = .ok (.i2l, 1) := by decide +kernel
theorem dX11_read_117 : decode cX11_read 117 = .ok (.lcmp, 1) := by decide +kernel
theorem dX11_read_118 : decode cX11_read 118 = .ok (.ifCond .lt 7, 3) := by decide +kernel
theorem dX11_read_121 : decode cX11_read 121 = .ok (.iconst 2, 1) := by decide +kernel
theorem dX11_read_122 : decode cX11_read 122 = .ok (.goto 4, 3) := by decide +kernel
theorem dX11_read_125 : decode cX11_read 125 = .ok (.iconst 0, 1) := by decide +kernel
theorem dX11_read_126 : decode cX11_read 126 = .ok (.istore 5, 2) := by decide +kernel
theorem dX11_read_128 : decode cX11_read 128 = .ok (.iinc 8 1, 3) := by decide +kernel
theorem dX11_read_131 : decode cX11_read 131 = .ok (.goto (-84), 3) := by decide +kernel
theorem dX11_read_134 : decode cX11_read 134 = .ok (.iload 5, 2) := by decide +kernel
theorem dX11_read_136 : decode cX11_read 136 = .ok (.ifCond .ne 63, 3) := by decide +kernel
theorem dX11_read_139 : decode cX11_read 139 = .ok (.bipush 40, 2) := by decide +kernel
theorem dX11_read_141 : decode cX11_read 141 = .ok (.iload_n 1, 1) := by decide +kernel
theorem dX11_read_142 : decode cX11_read 142 = .ok (.imul, 1) := by decide +kernel
theorem dX11_read_143 : decode cX11_read 143 = .ok (.iload_n 3, 1) := by decide +kernel
theorem dX11_read_144 : decode cX11_read 144 = .ok (.iadd, 1) := by decide +kernel
theorem dX11_read_145 : decode cX11_read 145 = .ok (.iconst 3, 1) := by decide +kernel
theorem dX11_read_146 : decode cX11_read 146 = .ok (.iload 7, 2) := by decide +kernel
theorem dX11_read_148 : decode cX11_read 148 = .ok (.imul, 1) := by decide +kernel
theorem dX11_read_149 : decode cX11_read 149 = .ok (.iadd, 1) := by decide +kernel
theorem dX11_read_150 : decode cX11_read 150 = .ok (.istore 8, 2) := by decide +kernel
theorem dX11_read_152 : decode cX11_read 152 = .ok (.aload_n 0, 1) := by decide +kernel
theorem dX11_read_153 : decode cX11_read 153 = .ok (.aload_n 0, 1) := by decide +kernel
theorem dX11_read_154 : decode cX11_read 154 = .ok (.getfield 86, 3) := by decide +kernel
theorem dX11_read_157 : decode cX11_read 157 = .ok (.iload 8, 2) := by decide +kernel
theorem dX11_read_159 : decode cX11_read 159 = .ok (.iaload, 1) := by decide +kernel
theorem dX11_read_160 : decode cX11_read 160 = .ok (.aload_n 0, 1) := by decide +kernel
theorem dX11_read_161 : decode cX11_read 161 = .ok (.getfield 86, 3) := by decide +kernel
theorem dX11_read_164 : decode cX11_read 164 = .ok (.iload 8, 2) := by decide +kernel
theorem dX11_read_166 : decode cX11_read 166 = .ok (.iconst 1, 1) := by decide +kernel
theorem dX11_read_167 : decode cX11_read 167 = .ok (.iadd, 1) := by decide +kernel
theorem dX11_read_168 : decode cX11_read 168 = .ok (.iaload, 1) := by decide +kernel
theorem dX11_read_169 : decode cX11_read 169 = .ok (.invokevirtual 282, 3) := by decide +kernel
theorem dX11_read_172 : decode cX11_read 172 = .ok (.ifCond .eq 18, 3) := by decide +kernel
theorem dX11_read_175 : decode cX11_read 175 = .ok (.aload_n 0, 1) := by decide +kernel
theorem dX11_read_176 : decode cX11_read 176 = .ok (.getfield 86, 3) := by decide +kernel
theorem dX11_read_179 : decode cX11_read 179 = .ok (.iload 8, 2) := by decide +kernel
theorem dX11_read_181 : decode cX11_read 181 = .ok (.iconst 2, 1) := by decide +kernel
theorem dX11_read_182 : decode cX11_read 182 = .ok (.iadd, 1) := by decide +kernel
theorem dX11_read_183 : decode cX11_read 183 = .ok (.iaload, 1) := by decide +kernel
theorem dX11_read_184 : decode cX11_read 184 = .ok (.invokestatic 273, 3) := by decide +kernel
theorem dX11_read_187 : decode cX11_read 187 = .ok (.ifCond .ne 9, 3) := by decide +kernel
theorem dX11_read_190 : decode cX11_read 190 = .ok (.bipush (-20), 2) := by decide +kernel
theorem dX11_read_192 : decode cX11_read 192 = .ok (.iload 7, 2) := by decide +kernel
theorem dX11_read_194 : decode cX11_read 194 = .ok (.isub, 1) := by decide +kernel
theorem dX11_read_195 : decode cX11_read 195 = .ok (.ireturn, 1) := by decide +kernel
theorem dX11_read_196 : decode cX11_read 196 = .ok (.iinc 6 1, 3) := by decide +kernel
theorem dX11_read_199 : decode cX11_read 199 = .ok (.iinc 7 1, 3) := by decide +kernel
theorem dX11_read_202 : decode cX11_read 202 = .ok (.goto (-170), 3) := by decide +kernel
theorem dX11_read_205 : decode cX11_read 205 = .ok (.aload_n 0, 1) := by decide +kernel
theorem dX11_read_206 : decode cX11_read 206 = .ok (.iload 5, 2) := by decide +kernel
theorem dX11_read_208 : decode cX11_read 208 = .ok (.putfield 374, 3) := by decide +kernel
theorem dX11_read_211 : decode cX11_read 211 = .ok (.iconst 0, 1) := by decide +kernel
theorem dX11_read_212 : decode cX11_read 212 = .ok (.istore 7, 2) := by decide +kernel
theorem dX11_read_214 : decode cX11_read 214 = .ok (.iload 7, 2) := by decide +kernel
theorem dX11_read_216 : decode cX11_read 216 = .ok (.iload 6, 2) := by decide +kernel
theorem dX11_read_218 : decode cX11_read 218 = .ok (.if_icmp .ge 56, 3) := by decide +kernel
theorem dX11_read_221 : decode cX11_read 221 = .ok (.bipush 40, 2) := by decide +kernel
theorem dX11_read_223 : decode cX11_read 223 = .ok (.iload_n 1, 1) := by decide +kernel
theorem dX11_read_224 : decode cX11_read 224 = .ok (.imul, 1) := by decide +kernel
theorem dX11_read_225 : decode cX11_read 225 = .ok (.iload_n 3, 1) := by decide +kernel
theorem dX11_read_226 : decode cX11_read 226 = .ok (.iadd, 1) := by decide +kernel
theorem dX11_read_227 : decode cX11_read 227 = .ok (.iconst 3, 1) := by decide +kernel
theorem dX11_read_228 : decode cX11_read 228 = .ok (.iload 7, 2) := by decide +kernel
theorem dX11_read_230 : decode cX11_read 230 = .ok (.imul, 1) := by decide +kernel
theorem dX11_read_231 : decode cX11_read 231 = .ok (.iadd, 1) := by decide +kernel
theorem dX11_read_232 : decode cX11_read 232 = .ok (.istore 8, 2) := by decide +kernel
theorem dX11_read_234 : decode cX11_read 234 = .ok (.aload_n 0, 1) := by decide +kernel
theorem dX11_read_235 : decode cX11_read 235 = .ok (.getfield 7, 3) := by decide +kernel
theorem dX11_read_238 : decode cX11_read 238 = .ok (.bipush 8, 2) := by decide +kernel
theorem dX11_read_240 : decode cX11_read 240 = .ok (.aload_n 0, 1) := by decide +kernel
theorem dX11_read_241 : decode cX11_read 241 = .ok (.getfield 86, 3) := by decide +kernel
theorem dX11_read_244 : decode cX11_read 244 = .ok (.iload 8, 2) := by decide +kernel
theorem dX11_read_246 : decode cX11_read 246 = .ok (.iaload, 1) := by decide +kernel
theorem dX11_read_247 : decode cX11_read 247 = .ok (.imul, 1) := by decide +kernel
theorem dX11_read_248 : decode cX11_read 248 = .ok (.aload_n 0, 1) := by decide +kernel
theorem dX11_read_249 : decode cX11_read 249 = .ok (.getfield 86, 3) := by decide +kernel
theorem dX11_read_252 : decode cX11_read 252 = .ok (.iload 8, 2) := by decide +kernel
theorem dX11_read_254 : decode cX11_read 254 = .ok (.iconst 1, 1) := by decide +kernel
theorem dX11_read_255 : decode cX11_read 255 = .ok (.iadd, 1) := by decide +kernel
theorem dX11_read_256 : decode cX11_read 256 = .ok (.iaload, 1) := by decide +kernel
theorem dX11_read_257 : decode cX11_read 257 = .ok (.iadd, 1) := by decide +kernel
theorem dX11_read_258 : decode cX11_read 258 = .ok (.aload_n 0, 1) := by decide +kernel
theorem dX11_read_259 : decode cX11_read 259 = .ok (.getfield 86, 3) := by decide +kernel
theorem dX11_read_262 : decode cX11_read 262 = .ok (.iload 8, 2) := by decide +kernel
theorem dX11_read_264 : decode cX11_read 264 = .ok (.iconst 2, 1) := by decide +kernel
theorem dX11_read_265 : decode cX11_read 265 = .ok (.iadd, 1) := by decide +kernel
theorem dX11_read_266 : decode cX11_read 266 = .ok (.iaload, 1) := by decide +kernel
theorem dX11_read_267 : decode cX11_read 267 = .ok (.iastore, 1) := by decide +kernel
theorem dX11_read_268 : decode cX11_read 268 = .ok (.iinc 7 1, 3) := by decide +kernel
theorem dX11_read_271 : decode cX11_read 271 = .ok (.goto (-57), 3) := by decide +kernel
theorem dX11_read_274 : decode cX11_read 274 = .ok (.iload 6, 2) := by decide +kernel
theorem dX11_read_276 : decode cX11_read 276 = .ok (.ireturn, 1) := by decide +kernel
theorem dX11_torn_0 : decode cX11_torn 0 = .ok (.aload_n 0, 1) := by decide +kernel
theorem dX11_torn_1 : decode cX11_torn 1 = .ok (.getfield 374, 3) := by decide +kernel
theorem dX11_torn_4 : decode cX11_torn 4 = .ok (.ireturn, 1) := by decide +kernel
theorem dX11_count_0 : decode cX11_count 0 = .ok (.iconst 0, 1) := by decide +kernel
theorem dX11_count_1 : decode cX11_count 1 = .ok (.istore_n 2, 1) := by decide +kernel
theorem dX11_count_2 : decode cX11_count 2 = .ok (.iconst 0, 1) := by decide +kernel
theorem dX11_count_3 : decode cX11_count 3 = .ok (.istore_n 3, 1) := by decide +kernel
theorem dX11_count_4 : decode cX11_count 4 = .ok (.iload_n 3, 1) := by decide +kernel
theorem dX11_count_5 : decode cX11_count 5 = .ok (.aload_n 0, 1) := by decide +kernel
theorem dX11_count_6 : decode cX11_count 6 = .ok (.getfield 129, 3) := by decide +kernel
theorem dX11_count_9 : decode cX11_count 9 = .ok (.if_icmp .ge 31, 3) := by decide +kernel
theorem dX11_count_12 : decode cX11_count 12 = .ok (.iload_n 2, 1) := by decide +kernel
theorem dX11_count_13 : decode cX11_count 13 = .ok (.aload_n 0, 1) := by decide +kernel
theorem dX11_count_14 : decode cX11_count 14 = .ok (.iconst 0, 1) := by decide +kernel
theorem dX11_count_15 : decode cX11_count 15 = .ok (.iload_n 3, 1) := by decide +kernel
theorem dX11_count_16 : decode cX11_count 16 = .ok (.invokevirtual 289, 3) := by decide +kernel
theorem dX11_count_19 : decode cX11_count 19 = .ok (.bipush (-4), 2) := by decide +kernel
theorem dX11_count_21 : decode cX11_count 21 = .ok (.if_icmp .eq 7, 3) := by decide +kernel
theorem dX11_count_24 : decode cX11_count 24 = .ok (.iconst 1, 1) := by decide +kernel
theorem dX11_count_25 : decode cX11_count 25 = .ok (.goto 4, 3) := by decide +kernel
theorem dX11_count_28 : decode cX11_count 28 = .ok (.iconst 0, 1) := by decide +kernel
theorem dX11_count_29 : decode cX11_count 29 = .ok (.invokestatic 265, 3) := by decide +kernel
theorem dX11_count_32 : decode cX11_count 32 = .ok (.iadd, 1) := by decide +kernel
theorem dX11_count_33 : decode cX11_count 33 = .ok (.istore_n 2, 1) := by decide +kernel
theorem dX11_count_34 : decode cX11_count 34 = .ok (.iinc 3 1, 3) := by decide +kernel
theorem dX11_count_37 : decode cX11_count 37 = .ok (.goto (-33), 3) := by decide +kernel
theorem dX11_count_40 : decode cX11_count 40 = .ok (.iload_n 1, 1) := by decide +kernel
theorem dX11_count_41 : decode cX11_count 41 = .ok (.tableswitch 114 0 6 #[43, 48, 50, 58, 66, 86, 91], 43) := by decide +kernel
theorem dX11_count_84 : decode cX11_count 84 = .ok (.aload_n 0, 1) := by decide +kernel
theorem dX11_count_85 : decode cX11_count 85 = .ok (.invokevirtual 368, 3) := by decide +kernel
theorem dX11_count_88 : decode cX11_count 88 = .ok (.ireturn, 1) := by decide +kernel
theorem dX11_count_89 : decode cX11_count 89 = .ok (.iload_n 2, 1) := by decide +kernel
theorem dX11_count_90 : decode cX11_count 90 = .ok (.ireturn, 1) := by decide +kernel
theorem dX11_count_91 : decode cX11_count 91 = .ok (.aload_n 0, 1) := by decide +kernel
theorem dX11_count_92 : decode cX11_count 92 = .ok (.getfield 7, 3) := by decide +kernel
theorem dX11_count_95 : decode cX11_count 95 = .ok (.bipush 65, 2) := by decide +kernel
theorem dX11_count_97 : decode cX11_count 97 = .ok (.iaload, 1) := by decide +kernel
theorem dX11_count_98 : decode cX11_count 98 = .ok (.ireturn, 1) := by decide +kernel
theorem dX11_count_99 : decode cX11_count 99 = .ok (.aload_n 0, 1) := by decide +kernel
theorem dX11_count_100 : decode cX11_count 100 = .ok (.getfield 7, 3) := by decide +kernel
theorem dX11_count_103 : decode cX11_count 103 = .ok (.bipush 78, 2) := by decide +kernel
theorem dX11_count_105 : decode cX11_count 105 = .ok (.iaload, 1) := by decide +kernel
theorem dX11_count_106 : decode cX11_count 106 = .ok (.ireturn, 1) := by decide +kernel
theorem dX11_count_107 : decode cX11_count 107 = .ok (.aload_n 0, 1) := by decide +kernel
theorem dX11_count_108 : decode cX11_count 108 = .ok (.getfield 13, 3) := by decide +kernel
theorem dX11_count_111 : decode cX11_count 111 = .ok (.iconst 0, 1) := by decide +kernel
theorem dX11_count_112 : decode cX11_count 112 = .ok (.baload, 1) := by decide +kernel
theorem dX11_count_113 : decode cX11_count 113 = .ok (.invokestatic 265, 3) := by decide +kernel
theorem dX11_count_116 : decode cX11_count 116 = .ok (.aload_n 0, 1) := by decide +kernel
theorem dX11_count_117 : decode cX11_count 117 = .ok (.getfield 13, 3) := by decide +kernel
theorem dX11_count_120 : decode cX11_count 120 = .ok (.iconst 1, 1) := by decide +kernel
theorem dX11_count_121 : decode cX11_count 121 = .ok (.baload, 1) := by decide +kernel
theorem dX11_count_122 : decode cX11_count 122 = .ok (.invokestatic 265, 3) := by decide +kernel
theorem dX11_count_125 : decode cX11_count 125 = .ok (.iadd, 1) := by decide +kernel
theorem dX11_count_126 : decode cX11_count 126 = .ok (.ireturn, 1) := by decide +kernel
theorem dX11_count_127 : decode cX11_count 127 = .ok (.aload_n 0, 1) := by decide +kernel
theorem dX11_count_128 : decode cX11_count 128 = .ok (.getfield 141, 3) := by decide +kernel
theorem dX11_count_131 : decode cX11_count 131 = .ok (.ireturn, 1) := by decide +kernel
theorem dX11_count_132 : decode cX11_count 132 = .ok (.aload_n 0, 1) := by decide +kernel
theorem dX11_count_133 : decode cX11_count 133 = .ok (.getfield 80, 3) := by decide +kernel
theorem dX11_count_136 : decode cX11_count 136 = .ok (.iconst 0, 1) := by decide +kernel
theorem dX11_count_137 : decode cX11_count 137 = .ok (.iaload, 1) := by decide +kernel
theorem dX11_count_138 : decode cX11_count 138 = .ok (.bipush (-4), 2) := by decide +kernel
theorem dX11_count_140 : decode cX11_count 140 = .ok (.if_icmp .ne 8, 3) := by decide +kernel
theorem dX11_count_143 : decode cX11_count 143 = .ok (.bipush (-4), 2) := by decide +kernel
theorem dX11_count_145 : decode cX11_count 145 = .ok (.goto 9, 3) := by decide +kernel
theorem dX11_count_148 : decode cX11_count 148 = .ok (.aload_n 0, 1) := by decide +kernel
theorem dX11_count_149 : decode cX11_count 149 = .ok (.getfield 83, 3) := by decide +kernel
theorem dX11_count_152 : decode cX11_count 152 = .ok (.iconst 0, 1) := by decide +kernel
theorem dX11_count_153 : decode cX11_count 153 = .ok (.iaload, 1) := by decide +kernel
theorem dX11_count_154 : decode cX11_count 154 = .ok (.ireturn, 1) := by decide +kernel
theorem dX11_count_155 : decode cX11_count 155 = .ok (.iconst (-1), 1) := by decide +kernel
theorem dX11_count_156 : decode cX11_count 156 = .ok (.ireturn, 1) := by decide +kernel
