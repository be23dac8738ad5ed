theorem dX0_init_0 : decode cX0_init 0 = .ok (.aload_n 0, 1) := by decide +kernel
theorem dX0_init_1 : decode cX0_init 1 = .ok (.invokespecial 3, 3) := by decide +kernel
theorem dX0_init_4 : decode cX0_init 4 = .ok (.aload_n 0, 1) := by decide +kernel
theorem dX0_init_5 : decode cX0_init 5 = .ok (.aload_n 1, 1) := by decide +kernel
theorem dX0_init_6 : decode cX0_init 6 = .ok (.putfield 9, 3) := by decide +kernel
theorem dX0_init_9 : decode cX0_init 9 = .ok (.aload_n 0, 1) := by decide +kernel
theorem dX0_init_10 : decode cX0_init 10 = .ok (.aload_n 2, 1) := by decide +kernel
theorem dX0_init_11 : decode cX0_init 11 = .ok (.putfield 15, 3) := by decide +kernel
theorem dX0_init_14 : decode cX0_init 14 = .ok (.return_, 1) := by decide +kernel
theorem dX0_gainOf_0 : decode cX0_gainOf 0 = .ok (.aload_n 0, 1) := by decide +kernel
theorem dX0_gainOf_1 : decode cX0_gainOf 1 = .ok (.getfield 9, 3) := by decide +kernel
theorem dX0_gainOf_4 : decode cX0_gainOf 4 = .ok (.iload_n 1, 1) := by decide +kernel
theorem dX0_gainOf_5 : decode cX0_gainOf 5 = .ok (.iload_n 3, 1) := by decide +kernel
theorem dX0_gainOf_6 : decode cX0_gainOf 6 = .ok (.invokevirtual 19, 3) := by decide +kernel
theorem dX0_gainOf_9 : decode cX0_gainOf 9 = .ok (.aload_n 0, 1) := by decide +kernel
theorem dX0_gainOf_10 : decode cX0_gainOf 10 = .ok (.getfield 9, 3) := by decide +kernel
theorem dX0_gainOf_13 : decode cX0_gainOf 13 = .ok (.iload_n 1, 1) := by decide +kernel
theorem dX0_gainOf_14 : decode cX0_gainOf 14 = .ok (.iload_n 3, 1) := by decide +kernel
theorem dX0_gainOf_15 : decode cX0_gainOf 15 = .ok (.invokevirtual 25, 3) := by decide +kernel
theorem dX0_gainOf_18 : decode cX0_gainOf 18 = .ok (.isub, 1) := by decide +kernel
theorem dX0_gainOf_19 : decode cX0_gainOf 19 = .ok (.aload_n 0, 1) := by decide +kernel
theorem dX0_gainOf_20 : decode cX0_gainOf 20 = .ok (.getfield 9, 3) := by decide +kernel
theorem dX0_gainOf_23 : decode cX0_gainOf 23 = .ok (.iload_n 1, 1) := by decide +kernel
theorem dX0_gainOf_24 : decode cX0_gainOf 24 = .ok (.aload_n 0, 1) := by decide +kernel
theorem dX0_gainOf_25 : decode cX0_gainOf 25 = .ok (.getfield 15, 3) := by decide +kernel
theorem dX0_gainOf_28 : decode cX0_gainOf 28 = .ok (.iload_n 1, 1) := by decide +kernel
theorem dX0_gainOf_29 : decode cX0_gainOf 29 = .ok (.iload_n 2, 1) := by decide +kernel
theorem dX0_gainOf_30 : decode cX0_gainOf 30 = .ok (.invokevirtual 28, 3) := by decide +kernel
theorem dX0_gainOf_33 : decode cX0_gainOf 33 = .ok (.invokevirtual 19, 3) := by decide +kernel
theorem dX0_gainOf_36 : decode cX0_gainOf 36 = .ok (.isub, 1) := by decide +kernel
theorem dX0_gainOf_37 : decode cX0_gainOf 37 = .ok (.ireturn, 1) := by decide +kernel
theorem dX0_bestKind_0 : decode cX0_bestKind 0 = .ok (.iconst 0, 1) := by decide +kernel
theorem dX0_bestKind_1 : decode cX0_bestKind 1 = .ok (.istore_n 3, 1) := by decide +kernel
theorem dX0_bestKind_2 : decode cX0_bestKind 2 = .ok (.iconst 0, 1) := by decide +kernel
theorem dX0_bestKind_3 : decode cX0_bestKind 3 = .ok (.istore 4, 2) := by decide +kernel
theorem dX0_bestKind_5 : decode cX0_bestKind 5 = .ok (.iconst 1, 1) := by decide +kernel
theorem dX0_bestKind_6 : decode cX0_bestKind 6 = .ok (.istore 5, 2) := by decide +kernel
theorem dX0_bestKind_8 : decode cX0_bestKind 8 = .ok (.iload 5, 2) := by decide +kernel
theorem dX0_bestKind_10 : decode cX0_bestKind 10 = .ok (.bipush 6, 2) := by decide +kernel
theorem dX0_bestKind_12 : decode cX0_bestKind 12 = .ok (.if_icmp .ge 47, 3) := by decide +kernel
theorem dX0_bestKind_15 : decode cX0_bestKind 15 = .ok (.aload_n 0, 1) := by decide +kernel
theorem dX0_bestKind_16 : decode cX0_bestKind 16 = .ok (.iload_n 1, 1) := by decide +kernel
theorem dX0_bestKind_17 : decode cX0_bestKind 17 = .ok (.iload_n 2, 1) := by decide +kernel
theorem dX0_bestKind_18 : decode cX0_bestKind 18 = .ok (.iload 5, 2) := by decide +kernel
theorem dX0_bestKind_20 : decode cX0_bestKind 20 = .ok (.invokevirtual 33, 3) := by decide +kernel
theorem dX0_bestKind_23 : decode cX0_bestKind 23 = .ok (.istore 6, 2) := by decide +kernel
theorem dX0_bestKind_25 : decode cX0_bestKind 25 = .ok (.iload 6, 2) := by decide +kernel
theorem dX0_bestKind_27 : decode cX0_bestKind 27 = .ok (.iload 4, 2) := by decide +kernel
theorem dX0_bestKind_29 : decode cX0_bestKind 29 = .ok (.if_icmp .le 24, 3) := by decide +kernel
theorem dX0_bestKind_32 : decode cX0_bestKind 32 = .ok (.aload_n 0, 1) := by decide +kernel
theorem dX0_bestKind_33 : decode cX0_bestKind 33 = .ok (.getfield 9, 3) := by decide +kernel
theorem dX0_bestKind_36 : decode cX0_bestKind 36 = .ok (.iload_n 1, 1) := by decide +kernel
theorem dX0_bestKind_37 : decode cX0_bestKind 37 = .ok (.iload_n 2, 1) := by decide +kernel
theorem dX0_bestKind_38 : decode cX0_bestKind 38 = .ok (.iload 5, 2) := by decide +kernel
theorem dX0_bestKind_40 : decode cX0_bestKind 40 = .ok (.invokevirtual 37, 3) := by decide +kernel
theorem dX0_bestKind_43 : decode cX0_bestKind 43 = .ok (.ifCond .eq 10, 3) := by decide +kernel
theorem dX0_bestKind_46 : decode cX0_bestKind 46 = .ok (.iload 6, 2) := by decide +kernel
theorem dX0_bestKind_48 : decode cX0_bestKind 48 = .ok (.istore 4, 2) := by decide +kernel
theorem dX0_bestKind_50 : decode cX0_bestKind 50 = .ok (.iload 5, 2) := by decide +kernel
theorem dX0_bestKind_52 : decode cX0_bestKind 52 = .ok (.istore_n 3, 1) := by decide +kernel
theorem dX0_bestKind_53 : decode cX0_bestKind 53 = .ok (.iinc 5 1, 3) := by decide +kernel
theorem dX0_bestKind_56 : decode cX0_bestKind 56 = .ok (.goto (-48), 3) := by decide +kernel
theorem dX0_bestKind_59 : decode cX0_bestKind 59 = .ok (.iload_n 3, 1) := by decide +kernel
theorem dX0_bestKind_60 : decode cX0_bestKind 60 = .ok (.ireturn, 1) := by decide +kernel
theorem dX0_findVex_0 : decode cX0_findVex 0 = .ok (.aload_n 0, 1) := by decide +kernel
theorem dX0_findVex_1 : decode cX0_findVex 1 = .ok (.iconst 0, 1) := by decide +kernel
theorem dX0_findVex_2 : decode cX0_findVex 2 = .ok (.putfield 41, 3) := by decide +kernel
theorem dX0_findVex_5 : decode cX0_findVex 5 = .ok (.aload_n 0, 1) := by decide +kernel
theorem dX0_findVex_6 : decode cX0_findVex 6 = .ok (.bipush (-4), 2) := by decide +kernel
theorem dX0_findVex_8 : decode cX0_findVex 8 = .ok (.putfield 45, 3) := by decide +kernel
theorem dX0_findVex_11 : decode cX0_findVex 11 = .ok (.aload_n 0, 1) := by decide +kernel
theorem dX0_findVex_12 : decode cX0_findVex 12 = .ok (.iconst 0, 1) := by decide +kernel
theorem dX0_findVex_13 : decode cX0_findVex 13 = .ok (.putfield 48, 3) := by decide +kernel
theorem dX0_findVex_16 : decode cX0_findVex 16 = .ok (.iconst 0, 1) := by decide +kernel
theorem dX0_findVex_17 : decode cX0_findVex 17 = .ok (.istore_n 2, 1) := by decide +kernel
theorem dX0_findVex_18 : decode cX0_findVex 18 = .ok (.iload_n 2, 1) := by decide +kernel
theorem dX0_findVex_19 : decode cX0_findVex 19 = .ok (.aload_n 0, 1) := by decide +kernel
theorem dX0_findVex_20 : decode cX0_findVex 20 = .ok (.getfield 9, 3) := by decide +kernel
theorem dX0_findVex_23 : decode cX0_findVex 23 = .ok (.getfield 51, 3) := by decide +kernel
theorem dX0_findVex_26 : decode cX0_findVex 26 = .ok (.if_icmp .ge 78, 3) := by decide +kernel
theorem dX0_findVex_29 : decode cX0_findVex 29 = .ok (.aload_n 0, 1) := by decide +kernel
theorem dX0_findVex_30 : decode cX0_findVex 30 = .ok (.getfield 9, 3) := by decide +kernel
theorem dX0_findVex_33 : decode cX0_findVex 33 = .ok (.iload_n 1, 1) := by decide +kernel
theorem dX0_findVex_34 : decode cX0_findVex 34 = .ok (.iload_n 2, 1) := by decide +kernel
theorem dX0_findVex_35 : decode cX0_findVex 35 = .ok (.invokevirtual 54, 3) := by decide +kernel
theorem dX0_findVex_38 : decode cX0_findVex 38 = .ok (.istore_n 3, 1) := by decide +kernel
theorem dX0_findVex_39 : decode cX0_findVex 39 = .ok (.iconst 1, 1) := by decide +kernel
theorem dX0_findVex_40 : decode cX0_findVex 40 = .ok (.istore 4, 2) := by decide +kernel
theorem dX0_findVex_42 : decode cX0_findVex 42 = .ok (.iload 4, 2) := by decide +kernel
theorem dX0_findVex_44 : decode cX0_findVex 44 = .ok (.bipush 6, 2) := by decide +kernel
theorem dX0_findVex_46 : decode cX0_findVex 46 = .ok (.if_icmp .ge 52, 3) := by decide +kernel
theorem dX0_findVex_49 : decode cX0_findVex 49 = .ok (.iload_n 3, 1) := by decide +kernel
theorem dX0_findVex_50 : decode cX0_findVex 50 = .ok (.bipush (-4), 2) := by decide +kernel
theorem dX0_findVex_52 : decode cX0_findVex 52 = .ok (.if_icmp .eq 46, 3) := by decide +kernel
theorem dX0_findVex_55 : decode cX0_findVex 55 = .ok (.iload 4, 2) := by decide +kernel
theorem dX0_findVex_57 : decode cX0_findVex 57 = .ok (.aload_n 0, 1) := by decide +kernel
theorem dX0_findVex_58 : decode cX0_findVex 58 = .ok (.getfield 15, 3) := by decide +kernel
theorem dX0_findVex_61 : decode cX0_findVex 61 = .ok (.iload_n 1, 1) := by decide +kernel
theorem dX0_findVex_62 : decode cX0_findVex 62 = .ok (.iload_n 2, 1) := by decide +kernel
theorem dX0_findVex_63 : decode cX0_findVex 63 = .ok (.invokevirtual 28, 3) := by decide +kernel
theorem dX0_findVex_66 : decode cX0_findVex 66 = .ok (.if_icmp .eq 26, 3) := by decide +kernel
theorem dX0_findVex_69 : decode cX0_findVex 69 = .ok (.aload_n 0, 1) := by decide +kernel
theorem dX0_findVex_70 : decode cX0_findVex 70 = .ok (.getfield 9, 3) := by decide +kernel
theorem dX0_findVex_73 : decode cX0_findVex 73 = .ok (.iload_n 1, 1) := by decide +kernel
theorem dX0_findVex_74 : decode cX0_findVex 74 = .ok (.iload_n 2, 1) := by decide +kernel
theorem dX0_findVex_75 : decode cX0_findVex 75 = .ok (.iload 4, 2) := by decide +kernel
theorem dX0_findVex_77 : decode cX0_findVex 77 = .ok (.invokevirtual 37, 3) := by decide +kernel
theorem dX0_findVex_80 : decode cX0_findVex 80 = .ok (.ifCond .eq 12, 3) := by decide +kernel
theorem dX0_findVex_83 : decode cX0_findVex 83 = .ok (.aload_n 0, 1) := by decide +kernel
theorem dX0_findVex_84 : decode cX0_findVex 84 = .ok (.iload_n 1, 1) := by decide +kernel
theorem dX0_findVex_85 : decode cX0_findVex 85 = .ok (.iload_n 2, 1) := by decide +kernel
theorem dX0_findVex_86 : decode cX0_findVex 86 = .ok (.iload_n 3, 1) := by decide +kernel
theorem dX0_findVex_87 : decode cX0_findVex 87 = .ok (.iload 4, 2) := by decide +kernel
theorem dX0_findVex_89 : decode cX0_findVex 89 = .ok (.invokevirtual 57, 3) := by decide +kernel
theorem dX0_findVex_92 : decode cX0_findVex 92 = .ok (.iinc 4 1, 3) := by decide +kernel
theorem dX0_findVex_95 : decode cX0_findVex 95 = .ok (.goto (-53), 3) := by decide +kernel
theorem dX0_findVex_98 : decode cX0_findVex 98 = .ok (.iinc 2 1, 3) := by decide +kernel
theorem dX0_findVex_101 : decode cX0_findVex 101 = .ok (.goto (-83), 3) := by decide +kernel
theorem dX0_findVex_104 : decode cX0_findVex 104 = .ok (.return_, 1) := by decide +kernel
theorem dX0_weighVex_0 : decode cX0_weighVex 0 = .ok (.iconst 1, 1) := by decide +kernel
theorem dX0_weighVex_1 : decode cX0_weighVex 1 = .ok (.iload_n 1, 1) := by decide +kernel
theorem dX0_weighVex_2 : decode cX0_weighVex 2 = .ok (.isub, 1) := by decide +kernel
theorem dX0_weighVex_3 : decode cX0_weighVex 3 = .ok (.istore 5, 2) := by decide +kernel
theorem dX0_weighVex_5 : decode cX0_weighVex 5 = .ok (.aload_n 0, 1) := by decide +kernel
theorem dX0_weighVex_6 : decode cX0_weighVex 6 = .ok (.getfield 9, 3) := by decide +kernel
theorem dX0_weighVex_9 : decode cX0_weighVex 9 = .ok (.iload 4, 2) := by decide +kernel
theorem dX0_weighVex_11 : decode cX0_weighVex 11 = .ok (.invokevirtual 61, 3) := by decide +kernel
theorem dX0_weighVex_14 : decode cX0_weighVex 14 = .ok (.istore 6, 2) := by decide +kernel
theorem dX0_weighVex_16 : decode cX0_weighVex 16 = .ok (.aload_n 0, 1) := by decide +kernel
theorem dX0_weighVex_17 : decode cX0_weighVex 17 = .ok (.getfield 9, 3) := by decide +kernel
theorem dX0_weighVex_20 : decode cX0_weighVex 20 = .ok (.iload 5, 2) := by decide +kernel
theorem dX0_weighVex_22 : decode cX0_weighVex 22 = .ok (.iload 6, 2) := by decide +kernel
theorem dX0_weighVex_24 : decode cX0_weighVex 24 = .ok (.invokevirtual 25, 3) := by decide +kernel
theorem dX0_weighVex_27 : decode cX0_weighVex 27 = .ok (.aload_n 0, 1) := by decide +kernel
theorem dX0_weighVex_28 : decode cX0_weighVex 28 = .ok (.getfield 9, 3) := by decide +kernel
theorem dX0_weighVex_31 : decode cX0_weighVex 31 = .ok (.iload 5, 2) := by decide +kernel
theorem dX0_weighVex_33 : decode cX0_weighVex 33 = .ok (.aload_n 0, 1) := by decide +kernel
theorem dX0_weighVex_34 : decode cX0_weighVex 34 = .ok (.getfield 15, 3) := by decide +kernel
theorem dX0_weighVex_37 : decode cX0_weighVex 37 = .ok (.iload 5, 2) := by decide +kernel
theorem dX0_weighVex_39 : decode cX0_weighVex 39 = .ok (.iload_n 3, 1) := by decide +kernel
theorem dX0_weighVex_40 : decode cX0_weighVex 40 = .ok (.invokevirtual 28, 3) := by decide +kernel
theorem dX0_weighVex_43 : decode cX0_weighVex 43 = .ok (.invokevirtual 19, 3) := by decide +kernel
theorem dX0_weighVex_46 : decode cX0_weighVex 46 = .ok (.iadd, 1) := by decide +kernel
theorem dX0_weighVex_47 : decode cX0_weighVex 47 = .ok (.aload_n 0, 1) := by decide +kernel
theorem dX0_weighVex_48 : decode cX0_weighVex 48 = .ok (.getfield 9, 3) := by decide +kernel
theorem dX0_weighVex_51 : decode cX0_weighVex 51 = .ok (.iload 5, 2) := by decide +kernel
theorem dX0_weighVex_53 : decode cX0_weighVex 53 = .ok (.iload 6, 2) := by decide +kernel
theorem dX0_weighVex_55 : decode cX0_weighVex 55 = .ok (.invokevirtual 19, 3) := by decide +kernel
theorem dX0_weighVex_58 : decode cX0_weighVex 58 = .ok (.isub, 1) := by decide +kernel
theorem dX0_weighVex_59 : decode cX0_weighVex 59 = .ok (.istore 7, 2) := by decide +kernel
theorem dX0_weighVex_61 : decode cX0_weighVex 61 = .ok (.iload 7, 2) := by decide +kernel
theorem dX0_weighVex_63 : decode cX0_weighVex 63 = .ok (.aload_n 0, 1) := by decide +kernel
theorem dX0_weighVex_64 : decode cX0_weighVex 64 = .ok (.getfield 41, 3) := by decide +kernel
theorem dX0_weighVex_67 : decode cX0_weighVex 67 = .ok (.if_icmp .ne 32, 3) := by decide +kernel
theorem dX0_weighVex_70 : decode cX0_weighVex 70 = .ok (.aload_n 0, 1) := by decide +kernel
theorem dX0_weighVex_71 : decode cX0_weighVex 71 = .ok (.getfield 9, 3) := by decide +kernel
theorem dX0_weighVex_74 : decode cX0_weighVex 74 = .ok (.iload_n 1, 1) := by decide +kernel
theorem dX0_weighVex_75 : decode cX0_weighVex 75 = .ok (.iload 4, 2) := by decide +kernel
theorem dX0_weighVex_77 : decode cX0_weighVex 77 = .ok (.invokevirtual 25, 3) := by decide +kernel
theorem dX0_weighVex_80 : decode cX0_weighVex 80 = .ok (.aload_n 0, 1) := by decide +kernel
theorem dX0_weighVex_81 : decode cX0_weighVex 81 = .ok (.getfield 9, 3) := by decide +kernel
theorem dX0_weighVex_84 : decode cX0_weighVex 84 = .ok (.iload_n 1, 1) := by decide +kernel
theorem dX0_weighVex_85 : decode cX0_weighVex 85 = .ok (.aload_n 0, 1) := by decide +kernel
theorem dX0_weighVex_86 : decode cX0_weighVex 86 = .ok (.getfield 48, 3) := by decide +kernel
theorem dX0_weighVex_89 : decode cX0_weighVex 89 = .ok (.invokevirtual 25, 3) := by decide +kernel
theorem dX0_weighVex_92 : decode cX0_weighVex 92 = .ok (.if_icmp .ge 7, 3) := by decide +kernel
theorem dX0_weighVex_95 : decode cX0_weighVex 95 = .ok (.iconst 1, 1) := by decide +kernel
theorem dX0_weighVex_96 : decode cX0_weighVex 96 = .ok (.goto 4, 3) := by decide +kernel
theorem dX0_weighVex_99 : decode cX0_weighVex 99 = .ok (.iconst 0, 1) := by decide +kernel
theorem dX0_weighVex_100 : decode cX0_weighVex 100 = .ok (.istore 8, 2) := by decide +kernel
theorem dX0_weighVex_102 : decode cX0_weighVex 102 = .ok (.aload_n 0, 1) := by decide +kernel
theorem dX0_weighVex_103 : decode cX0_weighVex 103 = .ok (.getfield 45, 3) := by decide +kernel
theorem dX0_weighVex_106 : decode cX0_weighVex 106 = .ok (.bipush (-4), 2) := by decide +kernel
theorem dX0_weighVex_108 : decode cX0_weighVex 108 = .ok (.if_icmp .eq 17, 3) := by decide +kernel
theorem dX0_weighVex_111 : decode cX0_weighVex 111 = .ok (.iload 7, 2) := by decide +kernel
theorem dX0_weighVex_113 : decode cX0_weighVex 113 = .ok (.aload_n 0, 1) := by decide +kernel
theorem dX0_weighVex_114 : decode cX0_weighVex 114 = .ok (.getfield 41, 3) := by decide +kernel
theorem dX0_weighVex_117 : decode cX0_weighVex 117 = .ok (.if_icmp .gt 8, 3) := by decide +kernel
theorem dX0_weighVex_120 : decode cX0_weighVex 120 = .ok (.iload 8, 2) := by decide +kernel
theorem dX0_weighVex_122 : decode cX0_weighVex 122 = .ok (.ifCond .eq 20, 3) := by decide +kernel
theorem dX0_weighVex_125 : decode cX0_weighVex 125 = .ok (.aload_n 0, 1) := by decide +kernel
theorem dX0_weighVex_126 : decode cX0_weighVex 126 = .ok (.iload 7, 2) := by decide +kernel
theorem dX0_weighVex_128 : decode cX0_weighVex 128 = .ok (.putfield 41, 3) := by decide +kernel
theorem dX0_weighVex_131 : decode cX0_weighVex 131 = .ok (.aload_n 0, 1) := by decide +kernel
theorem dX0_weighVex_132 : decode cX0_weighVex 132 = .ok (.iload_n 2, 1) := by decide +kernel
theorem dX0_weighVex_133 : decode cX0_weighVex 133 = .ok (.putfield 45, 3) := by decide +kernel
theorem dX0_weighVex_136 : decode cX0_weighVex 136 = .ok (.aload_n 0, 1) := by decide +kernel
theorem dX0_weighVex_137 : decode cX0_weighVex 137 = .ok (.iload 4, 2) := by decide +kernel
theorem dX0_weighVex_139 : decode cX0_weighVex 139 = .ok (.putfield 48, 3) := by decide +kernel
theorem dX0_weighVex_142 : decode cX0_weighVex 142 = .ok (.return_, 1) := by decide +kernel
theorem dX1_init_0 : decode cX1_init 0 = .ok (.aload_n 0, 1) := by decide +kernel
theorem dX1_init_1 : decode cX1_init 1 = .ok (.invokespecial 3, 3) := by decide +kernel
theorem dX1_init_4 : decode cX1_init 4 = .ok (.aload_n 0, 1) := by decide +kernel
theorem dX1_init_5 : decode cX1_init 5 = .ok (.iconst 4, 1) := by decide +kernel
theorem dX1_init_6 : decode cX1_init 6 = .ok (.newarray .int, 2) := by decide +kernel
theorem dX1_init_8 : decode cX1_init 8 = .ok (.putfield 9, 3) := by decide +kernel
theorem dX1_init_11 : decode cX1_init 11 = .ok (.aload_n 0, 1) := by decide +kernel
theorem dX1_init_12 : decode cX1_init 12 = .ok (.iconst 2, 1) := by decide +kernel
theorem dX1_init_13 : decode cX1_init 13 = .ok (.bipush 6, 2) := by decide +kernel
theorem dX1_init_15 : decode cX1_init 15 = .ok (.multianewarray 15 2, 4) := by decide +kernel
theorem dX1_init_19 : decode cX1_init 19 = .ok (.putfield 17, 3) := by decide +kernel
theorem dX1_init_22 : decode cX1_init 22 = .ok (.aload_n 0, 1) := by decide +kernel
theorem dX1_init_23 : decode cX1_init 23 = .ok (.iconst 2, 1) := by decide +kernel
theorem dX1_init_24 : decode cX1_init 24 = .ok (.bipush 6, 2) := by decide +kernel
theorem dX1_init_26 : decode cX1_init 26 = .ok (.multianewarray 15 2, 4) := by decide +kernel
theorem dX1_init_30 : decode cX1_init 30 = .ok (.putfield 20, 3) := by decide +kernel
theorem dX1_init_33 : decode cX1_init 33 = .ok (.aload_n 0, 1) := by decide +kernel
theorem dX1_init_34 : decode cX1_init 34 = .ok (.iconst 2, 1) := by decide +kernel
theorem dX1_init_35 : decode cX1_init 35 = .ok (.newarray .int, 2) := by decide +kernel
theorem dX1_init_37 : decode cX1_init 37 = .ok (.putfield 23, 3) := by decide +kernel
theorem dX1_init_40 : decode cX1_init 40 = .ok (.aload_n 0, 1) := by decide +kernel
theorem dX1_init_41 : decode cX1_init 41 = .ok (.bipush 6, 2) := by decide +kernel
theorem dX1_init_43 : decode cX1_init 43 = .ok (.newarray .int, 2) := by decide +kernel
theorem dX1_init_45 : decode cX1_init 45 = .ok (.putfield 26, 3) := by decide +kernel
theorem dX1_init_48 : decode cX1_init 48 = .ok (.aload_n 0, 1) := by decide +kernel
theorem dX1_init_49 : decode cX1_init 49 = .ok (.iconst 4, 1) := by decide +kernel
theorem dX1_init_50 : decode cX1_init 50 = .ok (.newarray .int, 2) := by decide +kernel
theorem dX1_init_52 : decode cX1_init 52 = .ok (.putfield 29, 3) := by decide +kernel
theorem dX1_init_55 : decode cX1_init 55 = .ok (.aload_n 0, 1) := by decide +kernel
theorem dX1_init_56 : decode cX1_init 56 = .ok (.invokevirtual 32, 3) := by decide +kernel
theorem dX1_init_59 : decode cX1_init 59 = .ok (.return_, 1) := by decide +kernel
theorem dX1_setFirst_0 : decode cX1_setFirst 0 = .ok (.aload_n 0, 1) := by decide +kernel
theorem dX1_setFirst_1 : decode cX1_setFirst 1 = .ok (.iconst 5, 1) := by decide +kernel
theorem dX1_setFirst_2 : decode cX1_setFirst 2 = .ok (.putfield 35, 3) := by decide +kernel
theorem dX1_setFirst_5 : decode cX1_setFirst 5 = .ok (.aload_n 0, 1) := by decide +kernel
theorem dX1_setFirst_6 : decode cX1_setFirst 6 = .ok (.iconst 3, 1) := by decide +kernel
theorem dX1_setFirst_7 : decode cX1_setFirst 7 = .ok (.putfield 39, 3) := by decide +kernel
theorem dX1_setFirst_10 : decode cX1_setFirst 10 = .ok (.aload_n 0, 1) := by decide +kernel
theorem dX1_setFirst_11 : decode cX1_setFirst 11 = .ok (.iconst 1, 1) := by decide +kernel
theorem dX1_setFirst_12 : decode cX1_setFirst 12 = .ok (.putfield 42, 3) := by decide +kernel
theorem dX1_setFirst_15 : decode cX1_setFirst 15 = .ok (.aload_n 0, 1) := by decide +kernel
theorem dX1_setFirst_16 : decode cX1_setFirst 16 = .ok (.iconst 0, 1) := by decide +kernel
theorem dX1_setFirst_17 : decode cX1_setFirst 17 = .ok (.putfield 45, 3) := by decide +kernel
theorem dX1_setFirst_20 : decode cX1_setFirst 20 = .ok (.iconst 0, 1) := by decide +kernel
theorem dX1_setFirst_21 : decode cX1_setFirst 21 = .ok (.istore_n 1, 1) := by decide +kernel
theorem dX1_setFirst_22 : decode cX1_setFirst 22 = .ok (.iload_n 1, 1) := by decide +kernel
theorem dX1_setFirst_23 : decode cX1_setFirst 23 = .ok (.iconst 4, 1) := by decide +kernel
theorem dX1_setFirst_24 : decode cX1_setFirst 24 = .ok (.if_icmp .ge 16, 3) := by decide +kernel
theorem dX1_setFirst_27 : decode cX1_setFirst 27 = .ok (.aload_n 0, 1) := by decide +kernel
theorem dX1_setFirst_28 : decode cX1_setFirst 28 = .ok (.getfield 9, 3) := by decide +kernel
theorem dX1_setFirst_31 : decode cX1_setFirst 31 = .ok (.iload_n 1, 1) := by decide +kernel
theorem dX1_setFirst_32 : decode cX1_setFirst 32 = .ok (.iconst 1, 1) := by decide +kernel
theorem dX1_setFirst_33 : decode cX1_setFirst 33 = .ok (.iastore, 1) := by decide +kernel
theorem dX1_setFirst_34 : decode cX1_setFirst 34 = .ok (.iinc 1 1, 3) := by decide +kernel
theorem dX1_setFirst_37 : decode cX1_setFirst 37 = .ok (.goto (-15), 3) := by decide +kernel
theorem dX1_setFirst_40 : decode cX1_setFirst 40 = .ok (.iconst 0, 1) := by decide +kernel
theorem dX1_setFirst_41 : decode cX1_setFirst 41 = .ok (.istore_n 1, 1) := by decide +kernel
theorem dX1_setFirst_42 : decode cX1_setFirst 42 = .ok (.iload_n 1, 1) := by decide +kernel
theorem dX1_setFirst_43 : decode cX1_setFirst 43 = .ok (.iconst 2, 1) := by decide +kernel
theorem dX1_setFirst_44 : decode cX1_setFirst 44 = .ok (.if_icmp .ge 48, 3) := by decide +kernel
theorem dX1_setFirst_47 : decode cX1_setFirst 47 = .ok (.aload_n 0, 1) := by decide +kernel
theorem dX1_setFirst_48 : decode cX1_setFirst 48 = .ok (.getfield 23, 3) := by decide +kernel
theorem dX1_setFirst_51 : decode cX1_setFirst 51 = .ok (.iload_n 1, 1) := by decide +kernel
theorem dX1_setFirst_52 : decode cX1_setFirst 52 = .ok (.iconst 0, 1) := by decide +kernel
theorem dX1_setFirst_53 : decode cX1_setFirst 53 = .ok (.iastore, 1) := by decide +kernel
theorem dX1_setFirst_54 : decode cX1_setFirst 54 = .ok (.iconst 1, 1) := by decide +kernel
theorem dX1_setFirst_55 : decode cX1_setFirst 55 = .ok (.istore_n 2, 1) := by decide +kernel
theorem dX1_setFirst_56 : decode cX1_setFirst 56 = .ok (.iload_n 2, 1) := by decide +kernel
theorem dX1_setFirst_57 : decode cX1_setFirst 57 = .ok (.bipush 6, 2) := by decide +kernel
theorem dX1_setFirst_59 : decode cX1_setFirst 59 = .ok (.if_icmp .ge 27, 3) := by decide +kernel
theorem dX1_setFirst_62 : decode cX1_setFirst 62 = .ok (.aload_n 0, 1) := by decide +kernel
theorem dX1_setFirst_63 : decode cX1_setFirst 63 = .ok (.getfield 17, 3) := by decide +kernel
theorem dX1_setFirst_66 : decode cX1_setFirst 66 = .ok (.iload_n 1, 1) := by decide +kernel
theorem dX1_setFirst_67 : decode cX1_setFirst 67 = .ok (.aaload, 1) := by decide +kernel
theorem dX1_setFirst_68 : decode cX1_setFirst 68 = .ok (.iload_n 2, 1) := by decide +kernel
theorem dX1_setFirst_69 : decode cX1_setFirst 69 = .ok (.iconst 5, 1) := by decide +kernel
theorem dX1_setFirst_70 : decode cX1_setFirst 70 = .ok (.iastore, 1) := by decide +kernel
theorem dX1_setFirst_71 : decode cX1_setFirst 71 = .ok (.aload_n 0, 1) := by decide +kernel
theorem dX1_setFirst_72 : decode cX1_setFirst 72 = .ok (.getfield 20, 3) := by decide +kernel
theorem dX1_setFirst_75 : decode cX1_setFirst 75 = .ok (.iload_n 1, 1) := by decide +kernel
theorem dX1_setFirst_76 : decode cX1_setFirst 76 = .ok (.aaload, 1) := by decide +kernel
theorem dX1_setFirst_77 : decode cX1_setFirst 77 = .ok (.iload_n 2, 1) := by decide +kernel
theorem dX1_setFirst_78 : decode cX1_setFirst 78 = .ok (.iconst 3, 1) := by decide +kernel
theorem dX1_setFirst_79 : decode cX1_setFirst 79 = .ok (.iastore, 1) := by decide +kernel
theorem dX1_setFirst_80 : decode cX1_setFirst 80 = .ok (.iinc 2 1, 3) := by decide +kernel
theorem dX1_setFirst_83 : decode cX1_setFirst 83 = .ok (.goto (-27), 3) := by decide +kernel
theorem dX1_setFirst_86 : decode cX1_setFirst 86 = .ok (.iinc 1 1, 3) := by decide +kernel
theorem dX1_setFirst_89 : decode cX1_setFirst 89 = .ok (.goto (-47), 3) := by decide +kernel
theorem dX1_setFirst_92 : decode cX1_setFirst 92 = .ok (.iconst 0, 1) := by decide +kernel
theorem dX1_setFirst_93 : decode cX1_setFirst 93 = .ok (.istore_n 1, 1) := by decide +kernel
theorem dX1_setFirst_94 : decode cX1_setFirst 94 = .ok (.iload_n 1, 1) := by decide +kernel
theorem dX1_setFirst_95 : decode cX1_setFirst 95 = .ok (.bipush 6, 2) := by decide +kernel
theorem dX1_setFirst_97 : decode cX1_setFirst 97 = .ok (.if_icmp .ge 16, 3) := by decide +kernel
theorem dX1_setFirst_100 : decode cX1_setFirst 100 = .ok (.aload_n 0, 1) := by decide +kernel
theorem dX1_setFirst_101 : decode cX1_setFirst 101 = .ok (.getfield 26, 3) := by decide +kernel
theorem dX1_setFirst_104 : decode cX1_setFirst 104 = .ok (.iload_n 1, 1) := by decide +kernel
theorem dX1_setFirst_105 : decode cX1_setFirst 105 = .ok (.iload_n 1, 1) := by decide +kernel
theorem dX1_setFirst_106 : decode cX1_setFirst 106 = .ok (.iastore, 1) := by decide +kernel
theorem dX1_setFirst_107 : decode cX1_setFirst 107 = .ok (.iinc 1 1, 3) := by decide +kernel
theorem dX1_setFirst_110 : decode cX1_setFirst 110 = .ok (.goto (-16), 3) := by decide +kernel
theorem dX1_setFirst_113 : decode cX1_setFirst 113 = .ok (.iconst 0, 1) := by decide +kernel
theorem dX1_setFirst_114 : decode cX1_setFirst 114 = .ok (.istore_n 1, 1) := by decide +kernel
theorem dX1_setFirst_115 : decode cX1_setFirst 115 = .ok (.iload_n 1, 1) := by decide +kernel
theorem dX1_setFirst_116 : decode cX1_setFirst 116 = .ok (.iconst 4, 1) := by decide +kernel
theorem dX1_setFirst_117 : decode cX1_setFirst 117 = .ok (.if_icmp .ge 16, 3) := by decide +kernel
theorem dX1_setFirst_120 : decode cX1_setFirst 120 = .ok (.aload_n 0, 1) := by decide +kernel
theorem dX1_setFirst_121 : decode cX1_setFirst 121 = .ok (.getfield 29, 3) := by decide +kernel
theorem dX1_setFirst_124 : decode cX1_setFirst 124 = .ok (.iload_n 1, 1) := by decide +kernel
theorem dX1_setFirst_125 : decode cX1_setFirst 125 = .ok (.iload_n 1, 1) := by decide +kernel
theorem dX1_setFirst_126 : decode cX1_setFirst 126 = .ok (.iastore, 1) := by decide +kernel
theorem dX1_setFirst_127 : decode cX1_setFirst 127 = .ok (.iinc 1 1, 3) := by decide +kernel
theorem dX1_setFirst_130 : decode cX1_setFirst 130 = .ok (.goto (-15), 3) := by decide +kernel
theorem dX1_setFirst_133 : decode cX1_setFirst 133 = .ok (.return_, 1) := by decide +kernel
theorem dX1_copyFrom_0 : decode cX1_copyFrom 0 = .ok (.aload_n 0, 1) := by decide +kernel
theorem dX1_copyFrom_1 : decode cX1_copyFrom 1 = .ok (.aload_n 1, 1) := by decide +kernel
theorem dX1_copyFrom_2 : decode cX1_copyFrom 2 = .ok (.getfield 35, 3) := by decide +kernel
theorem dX1_copyFrom_5 : decode cX1_copyFrom 5 = .ok (.putfield 35, 3) := by decide +kernel
theorem dX1_copyFrom_8 : decode cX1_copyFrom 8 = .ok (.aload_n 0, 1) := by decide +kernel
theorem dX1_copyFrom_9 : decode cX1_copyFrom 9 = .ok (.aload_n 1, 1) := by decide +kernel
theorem dX1_copyFrom_10 : decode cX1_copyFrom 10 = .ok (.getfield 39, 3) := by decide +kernel
theorem dX1_copyFrom_13 : decode cX1_copyFrom 13 = .ok (.putfield 39, 3) := by decide +kernel
theorem dX1_copyFrom_16 : decode cX1_copyFrom 16 = .ok (.aload_n 0, 1) := by decide +kernel
theorem dX1_copyFrom_17 : decode cX1_copyFrom 17 = .ok (.aload_n 1, 1) := by decide +kernel
theorem dX1_copyFrom_18 : decode cX1_copyFrom 18 = .ok (.getfield 42, 3) := by decide +kernel
theorem dX1_copyFrom_21 : decode cX1_copyFrom 21 = .ok (.putfield 42, 3) := by decide +kernel
theorem dX1_copyFrom_24 : decode cX1_copyFrom 24 = .ok (.aload_n 0, 1) := by decide +kernel
theorem dX1_copyFrom_25 : decode cX1_copyFrom 25 = .ok (.aload_n 1, 1) := by decide +kernel
theorem dX1_copyFrom_26 : decode cX1_copyFrom 26 = .ok (.getfield 45, 3) := by decide +kernel
theorem dX1_copyFrom_29 : decode cX1_copyFrom 29 = .ok (.putfield 45, 3) := by decide +kernel
theorem dX1_copyFrom_32 : decode cX1_copyFrom 32 = .ok (.aload_n 1, 1) := by decide +kernel
theorem dX1_copyFrom_33 : decode cX1_copyFrom 33 = .ok (.getfield 9, 3) := by decide +kernel
theorem dX1_copyFrom_36 : decode cX1_copyFrom 36 = .ok (.iconst 0, 1) := by decide +kernel
theorem dX1_copyFrom_37 : decode cX1_copyFrom 37 = .ok (.aload_n 0, 1) := by decide +kernel
theorem dX1_copyFrom_38 : decode cX1_copyFrom 38 = .ok (.getfield 9, 3) := by decide +kernel
theorem dX1_copyFrom_41 : decode cX1_copyFrom 41 = .ok (.iconst 0, 1) := by decide +kernel
theorem dX1_copyFrom_42 : decode cX1_copyFrom 42 = .ok (.iconst 4, 1) := by decide +kernel
theorem dX1_copyFrom_43 : decode cX1_copyFrom 43 = .ok (.invokestatic 48, 3) := by decide +kernel
theorem dX1_copyFrom_46 : decode cX1_copyFrom 46 = .ok (.aload_n 1, 1) := by decide +kernel
theorem dX1_copyFrom_47 : decode cX1_copyFrom 47 = .ok (.getfield 23, 3) := by decide +kernel
theorem dX1_copyFrom_50 : decode cX1_copyFrom 50 = .ok (.iconst 0, 1) := by decide +kernel
theorem dX1_copyFrom_51 : decode cX1_copyFrom 51 = .ok (.aload_n 0, 1) := by decide +kernel
theorem dX1_copyFrom_52 : decode cX1_copyFrom 52 = .ok (.getfield 23, 3) := by decide +kernel
theorem dX1_copyFrom_55 : decode cX1_copyFrom 55 = .ok (.iconst 0, 1) := by decide +kernel
theorem dX1_copyFrom_56 : decode cX1_copyFrom 56 = .ok (.iconst 2, 1) := by decide +kernel
theorem dX1_copyFrom_57 : decode cX1_copyFrom 57 = .ok (.invokestatic 48, 3) := by decide +kernel
theorem dX1_copyFrom_60 : decode cX1_copyFrom 60 = .ok (.aload_n 1, 1) := by decide +kernel
theorem dX1_copyFrom_61 : decode cX1_copyFrom 61 = .ok (.getfield 26, 3) := by decide +kernel
theorem dX1_copyFrom_64 : decode cX1_copyFrom 64 = .ok (.iconst 0, 1) := by decide +kernel
theorem dX1_copyFrom_65 : decode cX1_copyFrom 65 = .ok (.aload_n 0, 1) := by decide +kernel
theorem dX1_copyFrom_66 : decode cX1_copyFrom 66 = .ok (.getfield 26, 3) := by decide +kernel
theorem dX1_copyFrom_69 : decode cX1_copyFrom 69 = .ok (.iconst 0, 1) := by decide +kernel
theorem dX1_copyFrom_70 : decode cX1_copyFrom 70 = .ok (.bipush 6, 2) := by decide +kernel
theorem dX1_copyFrom_72 : decode cX1_copyFrom 72 = .ok (.invokestatic 48, 3) := by decide +kernel
theorem dX1_copyFrom_75 : decode cX1_copyFrom 75 = .ok (.aload_n 1, 1) := by decide +kernel
theorem dX1_copyFrom_76 : decode cX1_copyFrom 76 = .ok (.getfield 29, 3) := by decide +kernel
theorem dX1_copyFrom_79 : decode cX1_copyFrom 79 = .ok (.iconst 0, 1) := by decide +kernel
theorem dX1_copyFrom_80 : decode cX1_copyFrom 80 = .ok (.aload_n 0, 1) := by decide +kernel
theorem dX1_copyFrom_81 : decode cX1_copyFrom 81 = .ok (.getfield 29, 3) := by decide +kernel
theorem dX1_copyFrom_84 : decode cX1_copyFrom 84 = .ok (.iconst 0, 1) := by decide +kernel
theorem dX1_copyFrom_85 : decode cX1_copyFrom 85 = .ok (.iconst 4, 1) := by decide +kernel
theorem dX1_copyFrom_86 : decode cX1_copyFrom 86 = .ok (.invokestatic 48, 3) := by decide +kernel
theorem dX1_copyFrom_89 : decode cX1_copyFrom 89 = .ok (.iconst 0, 1) := by decide +kernel
theorem dX1_copyFrom_90 : decode cX1_copyFrom 90 = .ok (.istore_n 2, 1) := by decide +kernel
theorem dX1_copyFrom_91 : decode cX1_copyFrom 91 = .ok (.iload_n 2, 1) := by decide +kernel
theorem dX1_copyFrom_92 : decode cX1_copyFrom 92 = .ok (.iconst 2, 1) := by decide +kernel
theorem dX1_copyFrom_93 : decode cX1_copyFrom 93 = .ok (.if_icmp .ge 47, 3) := by decide +kernel
theorem dX1_copyFrom_96 : decode cX1_copyFrom 96 = .ok (.aload_n 1, 1) := by decide +kernel
theorem dX1_copyFrom_97 : decode cX1_copyFrom 97 = .ok (.getfield 17, 3) := by decide +kernel
theorem dX1_copyFrom_100 : decode cX1_copyFrom 100 = .ok (.iload_n 2, 1) := by decide +kernel
theorem dX1_copyFrom_101 : decode cX1_copyFrom 101 = .ok (.aaload, 1) := by decide +kernel
theorem dX1_copyFrom_102 : decode cX1_copyFrom 102 = .ok (.iconst 0, 1) := by decide +kernel
theorem dX1_copyFrom_103 : decode cX1_copyFrom 103 = .ok (.aload_n 0, 1) := by decide +kernel
theorem dX1_copyFrom_104 : decode cX1_copyFrom 104 = .ok (.getfield 17, 3) := by decide +kernel
theorem dX1_copyFrom_107 : decode cX1_copyFrom 107 = .ok (.iload_n 2, 1) := by decide +kernel
theorem dX1_copyFrom_108 : decode cX1_copyFrom 108 = .ok (.aaload, 1) := by decide +kernel
theorem dX1_copyFrom_109 : decode cX1_copyFrom 109 = .ok (.iconst 0, 1) := by decide +kernel
theorem dX1_copyFrom_110 : decode cX1_copyFrom 110 = .ok (.bipush 6, 2) := by decide +kernel
theorem dX1_copyFrom_112 : decode cX1_copyFrom 112 = .ok (.invokestatic 48, 3) := by decide +kernel
theorem dX1_copyFrom_115 : decode cX1_copyFrom 115 = .ok (.aload_n 1, 1) := by decide +kernel
theorem dX1_copyFrom_116 : decode cX1_copyFrom 116 = .ok (.getfield 20, 3) := by decide +kernel
theorem dX1_copyFrom_119 : decode cX1_copyFrom 119 = .ok (.iload_n 2, 1) := by decide +kernel
theorem dX1_copyFrom_120 : decode cX1_copyFrom 120 = .ok (.aaload, 1) := by decide +kernel
theorem dX1_copyFrom_121 : decode cX1_copyFrom 121 = .ok (.iconst 0, 1) := by decide +kernel
theorem dX1_copyFrom_122 : decode cX1_copyFrom 122 = .ok (.aload_n 0, 1) := by decide +kernel
theorem dX1_copyFrom_123 : decode cX1_copyFrom 123 = .ok (.getfield 20, 3) := by decide +kernel
theorem dX1_copyFrom_126 : decode cX1_copyFrom 126 = .ok (.iload_n 2, 1) := by decide +kernel
theorem dX1_copyFrom_127 : decode cX1_copyFrom 127 = .ok (.aaload, 1) := by decide +kernel
theorem dX1_copyFrom_128 : decode cX1_copyFrom 128 = .ok (.iconst 0, 1) := by decide +kernel
theorem dX1_copyFrom_129 : decode cX1_copyFrom 129 = .ok (.bipush 6, 2) := by decide +kernel
theorem dX1_copyFrom_131 : decode cX1_copyFrom 131 = .ok (.invokestatic 48, 3) := by decide +kernel
theorem dX1_copyFrom_134 : decode cX1_copyFrom 134 = .ok (.iinc 2 1, 3) := by decide +kernel
theorem dX1_copyFrom_137 : decode cX1_copyFrom 137 = .ok (.goto (-46), 3) := by decide +kernel
theorem dX1_copyFrom_140 : decode cX1_copyFrom 140 = .ok (.return_, 1) := by decide +kernel
theorem dX1_isLot_0 : decode cX1_isLot 0 = .ok (.iload_n 1, 1) := by decide +kernel
theorem dX1_isLot_1 : decode cX1_isLot 1 = .ok (.iload_n 2, 1) := by decide +kernel
theorem dX1_isLot_2 : decode cX1_isLot 2 = .ok (.invokestatic 54, 3) := by decide +kernel
theorem dX1_isLot_5 : decode cX1_isLot 5 = .ok (.ifCond .eq 15, 3) := by decide +kernel
theorem dX1_isLot_8 : decode cX1_isLot 8 = .ok (.iload_n 2, 1) := by decide +kernel
theorem dX1_isLot_9 : decode cX1_isLot 9 = .ok (.aload_n 0, 1) := by decide +kernel
theorem dX1_isLot_10 : decode cX1_isLot 10 = .ok (.getfield 35, 3) := by decide +kernel
theorem dX1_isLot_13 : decode cX1_isLot 13 = .ok (.if_icmp .ge 7, 3) := by decide +kernel
theorem dX1_isLot_16 : decode cX1_isLot 16 = .ok (.iconst 1, 1) := by decide +kernel
theorem dX1_isLot_17 : decode cX1_isLot 17 = .ok (.goto 4, 3) := by decide +kernel
theorem dX1_isLot_20 : decode cX1_isLot 20 = .ok (.iconst 0, 1) := by decide +kernel
theorem dX1_isLot_21 : decode cX1_isLot 21 = .ok (.ireturn, 1) := by decide +kernel
theorem dX1_twinOf_0 : decode cX1_twinOf 0 = .ok (.iload_n 1, 1) := by decide +kernel
theorem dX1_twinOf_1 : decode cX1_twinOf 1 = .ok (.invokestatic 58, 3) := by decide +kernel
theorem dX1_twinOf_4 : decode cX1_twinOf 4 = .ok (.ifCond .eq 12, 3) := by decide +kernel
theorem dX1_twinOf_7 : decode cX1_twinOf 7 = .ok (.aload_n 0, 1) := by decide +kernel
theorem dX1_twinOf_8 : decode cX1_twinOf 8 = .ok (.getfield 26, 3) := by decide +kernel
theorem dX1_twinOf_11 : decode cX1_twinOf 11 = .ok (.iload_n 1, 1) := by decide +kernel
theorem dX1_twinOf_12 : decode cX1_twinOf 12 = .ok (.iaload, 1) := by decide +kernel
theorem dX1_twinOf_13 : decode cX1_twinOf 13 = .ok (.goto 4, 3) := by decide +kernel
theorem dX1_twinOf_16 : decode cX1_twinOf 16 = .ok (.iconst 0, 1) := by decide +kernel
theorem dX1_twinOf_17 : decode cX1_twinOf 17 = .ok (.ireturn, 1) := by decide +kernel
theorem dX1_costOf_0 : decode cX1_costOf 0 = .ok (.iload_n 1, 1) := by decide +kernel
theorem dX1_costOf_1 : decode cX1_costOf 1 = .ok (.invokestatic 62, 3) := by decide +kernel
theorem dX1_costOf_4 : decode cX1_costOf 4 = .ok (.ifCond .eq 21, 3) := by decide +kernel
theorem dX1_costOf_7 : decode cX1_costOf 7 = .ok (.iload_n 2, 1) := by decide +kernel
theorem dX1_costOf_8 : decode cX1_costOf 8 = .ok (.invokestatic 65, 3) := by decide +kernel
theorem dX1_costOf_11 : decode cX1_costOf 11 = .ok (.ifCond .eq 14, 3) := by decide +kernel
theorem dX1_costOf_14 : decode cX1_costOf 14 = .ok (.aload_n 0, 1) := by decide +kernel
theorem dX1_costOf_15 : decode cX1_costOf 15 = .ok (.getfield 17, 3) := by decide +kernel
theorem dX1_costOf_18 : decode cX1_costOf 18 = .ok (.iload_n 1, 1) := by decide +kernel
theorem dX1_costOf_19 : decode cX1_costOf 19 = .ok (.aaload, 1) := by decide +kernel
theorem dX1_costOf_20 : decode cX1_costOf 20 = .ok (.iload_n 2, 1) := by decide +kernel
theorem dX1_costOf_21 : decode cX1_costOf 21 = .ok (.iaload, 1) := by decide +kernel
theorem dX1_costOf_22 : decode cX1_costOf 22 = .ok (.goto 7, 3) := by decide +kernel
theorem dX1_costOf_25 : decode cX1_costOf 25 = .ok (.aload_n 0, 1) := by decide +kernel
theorem dX1_costOf_26 : decode cX1_costOf 26 = .ok (.getfield 42, 3) := by decide +kernel
theorem dX1_costOf_29 : decode cX1_costOf 29 = .ok (.ireturn, 1) := by decide +kernel
theorem dX1_tasteOf_0 : decode cX1_tasteOf 0 = .ok (.iload_n 1, 1) := by decide +kernel
theorem dX1_tasteOf_1 : decode cX1_tasteOf 1 = .ok (.invokestatic 62, 3) := by decide +kernel
theorem dX1_tasteOf_4 : decode cX1_tasteOf 4 = .ok (.ifCond .eq 21, 3) := by decide +kernel
theorem dX1_tasteOf_7 : decode cX1_tasteOf 7 = .ok (.iload_n 2, 1) := by decide +kernel
theorem dX1_tasteOf_8 : decode cX1_tasteOf 8 = .ok (.invokestatic 65, 3) := by decide +kernel
theorem dX1_tasteOf_11 : decode cX1_tasteOf 11 = .ok (.ifCond .eq 14, 3) := by decide +kernel
theorem dX1_tasteOf_14 : decode cX1_tasteOf 14 = .ok (.aload_n 0, 1) := by decide +kernel
theorem dX1_tasteOf_15 : decode cX1_tasteOf 15 = .ok (.getfield 20, 3) := by decide +kernel
theorem dX1_tasteOf_18 : decode cX1_tasteOf 18 = .ok (.iload_n 1, 1) := by decide +kernel
theorem dX1_tasteOf_19 : decode cX1_tasteOf 19 = .ok (.aaload, 1) := by decide +kernel
theorem dX1_tasteOf_20 : decode cX1_tasteOf 20 = .ok (.iload_n 2, 1) := by decide +kernel
theorem dX1_tasteOf_21 : decode cX1_tasteOf 21 = .ok (.iaload, 1) := by decide +kernel
theorem dX1_tasteOf_22 : decode cX1_tasteOf 22 = .ok (.goto 4, 3) := by decide +kernel
theorem dX1_tasteOf_25 : decode cX1_tasteOf 25 = .ok (.iconst 0, 1) := by decide +kernel
theorem dX1_tasteOf_26 : decode cX1_tasteOf 26 = .ok (.ireturn, 1) := by decide +kernel
theorem dX1_lacks_0 : decode cX1_lacks 0 = .ok (.iload_n 1, 1) := by decide +kernel
theorem dX1_lacks_1 : decode cX1_lacks 1 = .ok (.invokestatic 62, 3) := by decide +kernel
theorem dX1_lacks_4 : decode cX1_lacks 4 = .ok (.ifCond .eq 27, 3) := by decide +kernel
theorem dX1_lacks_7 : decode cX1_lacks 7 = .ok (.iload_n 2, 1) := by decide +kernel
theorem dX1_lacks_8 : decode cX1_lacks 8 = .ok (.invokestatic 65, 3) := by decide +kernel
theorem dX1_lacks_11 : decode cX1_lacks 11 = .ok (.ifCond .eq 20, 3) := by decide +kernel
theorem dX1_lacks_14 : decode cX1_lacks 14 = .ok (.aload_n 0, 1) := by decide +kernel
theorem dX1_lacks_15 : decode cX1_lacks 15 = .ok (.getfield 23, 3) := by decide +kernel
theorem dX1_lacks_18 : decode cX1_lacks 18 = .ok (.iload_n 1, 1) := by decide +kernel
theorem dX1_lacks_19 : decode cX1_lacks 19 = .ok (.iaload, 1) := by decide +kernel
theorem dX1_lacks_20 : decode cX1_lacks 20 = .ok (.iload_n 2, 1) := by decide +kernel
theorem dX1_lacks_21 : decode cX1_lacks 21 = .ok (.ishr, 1) := by decide +kernel
theorem dX1_lacks_22 : decode cX1_lacks 22 = .ok (.iconst 1, 1) := by decide +kernel
theorem dX1_lacks_23 : decode cX1_lacks 23 = .ok (.iand, 1) := by decide +kernel
theorem dX1_lacks_24 : decode cX1_lacks 24 = .ok (.ifCond .eq 7, 3) := by decide +kernel
theorem dX1_lacks_27 : decode cX1_lacks 27 = .ok (.iconst 1, 1) := by decide +kernel
theorem dX1_lacks_28 : decode cX1_lacks 28 = .ok (.goto 4, 3) := by decide +kernel
theorem dX1_lacks_31 : decode cX1_lacks 31 = .ok (.iconst 0, 1) := by decide +kernel
theorem dX1_lacks_32 : decode cX1_lacks 32 = .ok (.ireturn, 1) := by decide +kernel
theorem dX1_mayBuild_0 : decode cX1_mayBuild 0 = .ok (.aload_n 0, 1) := by decide +kernel
theorem dX1_mayBuild_1 : decode cX1_mayBuild 1 = .ok (.iload_n 1, 1) := by decide +kernel
theorem dX1_mayBuild_2 : decode cX1_mayBuild 2 = .ok (.iload_n 3, 1) := by decide +kernel
theorem dX1_mayBuild_3 : decode cX1_mayBuild 3 = .ok (.invokevirtual 68, 3) := by decide +kernel
theorem dX1_mayBuild_6 : decode cX1_mayBuild 6 = .ok (.ifCond .ne 33, 3) := by decide +kernel
theorem dX1_mayBuild_9 : decode cX1_mayBuild 9 = .ok (.aload_n 0, 1) := by decide +kernel
theorem dX1_mayBuild_10 : decode cX1_mayBuild 10 = .ok (.iload_n 1, 1) := by decide +kernel
theorem dX1_mayBuild_11 : decode cX1_mayBuild 11 = .ok (.iload_n 2, 1) := by decide +kernel
theorem dX1_mayBuild_12 : decode cX1_mayBuild 12 = .ok (.invokevirtual 71, 3) := by decide +kernel
theorem dX1_mayBuild_15 : decode cX1_mayBuild 15 = .ok (.bipush (-4), 2) := by decide +kernel
theorem dX1_mayBuild_17 : decode cX1_mayBuild 17 = .ok (.if_icmp .eq 18, 3) := by decide +kernel
theorem dX1_mayBuild_20 : decode cX1_mayBuild 20 = .ok (.aload_n 0, 1) := by decide +kernel
theorem dX1_mayBuild_21 : decode cX1_mayBuild 21 = .ok (.iconst 1, 1) := by decide +kernel
theorem dX1_mayBuild_22 : decode cX1_mayBuild 22 = .ok (.iload_n 1, 1) := by decide +kernel
theorem dX1_mayBuild_23 : decode cX1_mayBuild 23 = .ok (.isub, 1) := by decide +kernel
theorem dX1_mayBuild_24 : decode cX1_mayBuild 24 = .ok (.aload_n 0, 1) := by decide +kernel
theorem dX1_mayBuild_25 : decode cX1_mayBuild 25 = .ok (.iload_n 3, 1) := by decide +kernel
theorem dX1_mayBuild_26 : decode cX1_mayBuild 26 = .ok (.invokevirtual 75, 3) := by decide +kernel
theorem dX1_mayBuild_29 : decode cX1_mayBuild 29 = .ok (.invokevirtual 68, 3) := by decide +kernel
theorem dX1_mayBuild_32 : decode cX1_mayBuild 32 = .ok (.ifCond .ne 7, 3) := by decide +kernel
theorem dX1_mayBuild_35 : decode cX1_mayBuild 35 = .ok (.iconst 1, 1) := by decide +kernel
theorem dX1_mayBuild_36 : decode cX1_mayBuild 36 = .ok (.goto 4, 3) := by decide +kernel
theorem dX1_mayBuild_39 : decode cX1_mayBuild 39 = .ok (.iconst 0, 1) := by decide +kernel
theorem dX1_mayBuild_40 : decode cX1_mayBuild 40 = .ok (.ireturn, 1) := by decide +kernel
theorem dX1_matchOf_0 : decode cX1_matchOf 0 = .ok (.aload_n 0, 1) := by decide +kernel
theorem dX1_matchOf_1 : decode cX1_matchOf 1 = .ok (.aload_n 0, 1) := by decide +kernel
theorem dX1_matchOf_2 : decode cX1_matchOf 2 = .ok (.getfield 39, 3) := by decide +kernel
theorem dX1_matchOf_5 : decode cX1_matchOf 5 = .ok (.iload_n 1, 1) := by decide +kernel
theorem dX1_matchOf_6 : decode cX1_matchOf 6 = .ok (.iload_n 2, 1) := by decide +kernel
theorem dX1_matchOf_7 : decode cX1_matchOf 7 = .ok (.invokevirtual 79, 3) := by decide +kernel
theorem dX1_matchOf_10 : decode cX1_matchOf 10 = .ok (.ireturn, 1) := by decide +kernel
theorem dX1_matchBy_0 : decode cX1_matchBy 0 = .ok (.iload_n 2, 1) := by decide +kernel
theorem dX1_matchBy_1 : decode cX1_matchBy 1 = .ok (.ifCond .ne 11, 3) := by decide +kernel
theorem dX1_matchBy_4 : decode cX1_matchBy 4 = .ok (.iload_n 3, 1) := by decide +kernel
theorem dX1_matchBy_5 : decode cX1_matchBy 5 = .ok (.iload_n 1, 1) := by decide +kernel
theorem dX1_matchBy_6 : decode cX1_matchBy 6 = .ok (.iadd, 1) := by decide +kernel
theorem dX1_matchBy_7 : decode cX1_matchBy 7 = .ok (.iconst 3, 1) := by decide +kernel
theorem dX1_matchBy_8 : decode cX1_matchBy 8 = .ok (.isub, 1) := by decide +kernel
theorem dX1_matchBy_9 : decode cX1_matchBy 9 = .ok (.goto 8, 3) := by decide +kernel
theorem dX1_matchBy_12 : decode cX1_matchBy 12 = .ok (.iload_n 3, 1) := by decide +kernel
theorem dX1_matchBy_13 : decode cX1_matchBy 13 = .ok (.iload_n 1, 1) := by decide +kernel
theorem dX1_matchBy_14 : decode cX1_matchBy 14 = .ok (.isub, 1) := by decide +kernel
theorem dX1_matchBy_15 : decode cX1_matchBy 15 = .ok (.iconst 3, 1) := by decide +kernel
theorem dX1_matchBy_16 : decode cX1_matchBy 16 = .ok (.iadd, 1) := by decide +kernel
theorem dX1_matchBy_17 : decode cX1_matchBy 17 = .ok (.istore 4, 2) := by decide +kernel
theorem dX1_matchBy_19 : decode cX1_matchBy 19 = .ok (.iload 4, 2) := by decide +kernel
theorem dX1_matchBy_21 : decode cX1_matchBy 21 = .ok (.ifCond .lt 17, 3) := by decide +kernel
theorem dX1_matchBy_24 : decode cX1_matchBy 24 = .ok (.iload 4, 2) := by decide +kernel
theorem dX1_matchBy_26 : decode cX1_matchBy 26 = .ok (.aload_n 0, 1) := by decide +kernel
theorem dX1_matchBy_27 : decode cX1_matchBy 27 = .ok (.getfield 35, 3) := by decide +kernel
theorem dX1_matchBy_30 : decode cX1_matchBy 30 = .ok (.if_icmp .ge 8, 3) := by decide +kernel
theorem dX1_matchBy_33 : decode cX1_matchBy 33 = .ok (.iload 4, 2) := by decide +kernel
theorem dX1_matchBy_35 : decode cX1_matchBy 35 = .ok (.goto 5, 3) := by decide +kernel
theorem dX1_matchBy_38 : decode cX1_matchBy 38 = .ok (.bipush (-4), 2) := by decide +kernel
theorem dX1_matchBy_40 : decode cX1_matchBy 40 = .ok (.ireturn, 1) := by decide +kernel
theorem dX1_countPairs_0 : decode cX1_countPairs 0 = .ok (.iconst 0, 1) := by decide +kernel
theorem dX1_countPairs_1 : decode cX1_countPairs 1 = .ok (.istore_n 1, 1) := by decide +kernel
theorem dX1_countPairs_2 : decode cX1_countPairs 2 = .ok (.iconst 0, 1) := by decide +kernel
theorem dX1_countPairs_3 : decode cX1_countPairs 3 = .ok (.istore_n 2, 1) := by decide +kernel
theorem dX1_countPairs_4 : decode cX1_countPairs 4 = .ok (.iload_n 2, 1) := by decide +kernel
theorem dX1_countPairs_5 : decode cX1_countPairs 5 = .ok (.aload_n 0, 1) := by decide +kernel
theorem dX1_countPairs_6 : decode cX1_countPairs 6 = .ok (.getfield 35, 3) := by decide +kernel
theorem dX1_countPairs_9 : decode cX1_countPairs 9 = .ok (.if_icmp .ge 28, 3) := by decide +kernel
theorem dX1_countPairs_12 : decode cX1_countPairs 12 = .ok (.iload_n 1, 1) := by decide +kernel
theorem dX1_countPairs_13 : decode cX1_countPairs 13 = .ok (.aload_n 0, 1) := by decide +kernel
theorem dX1_countPairs_14 : decode cX1_countPairs 14 = .ok (.iconst 0, 1) := by decide +kernel
theorem dX1_countPairs_15 : decode cX1_countPairs 15 = .ok (.iload_n 2, 1) := by decide +kernel
theorem dX1_countPairs_16 : decode cX1_countPairs 16 = .ok (.invokevirtual 71, 3) := by decide +kernel
theorem dX1_countPairs_19 : decode cX1_countPairs 19 = .ok (.bipush (-4), 2) := by decide +kernel
theorem dX1_countPairs_21 : decode cX1_countPairs 21 = .ok (.if_icmp .ne 7, 3) := by decide +kernel
theorem dX1_countPairs_24 : decode cX1_countPairs 24 = .ok (.iconst 0, 1) := by decide +kernel
theorem dX1_countPairs_25 : decode cX1_countPairs 25 = .ok (.goto 4, 3) := by decide +kernel
theorem dX1_countPairs_28 : decode cX1_countPairs 28 = .ok (.iconst 1, 1) := by decide +kernel
theorem dX1_countPairs_29 : decode cX1_countPairs 29 = .ok (.iadd, 1) := by decide +kernel
theorem dX1_countPairs_30 : decode cX1_countPairs 30 = .ok (.istore_n 1, 1) := by decide +kernel
theorem dX1_countPairs_31 : decode cX1_countPairs 31 = .ok (.iinc 2 1, 3) := by decide +kernel
theorem dX1_countPairs_34 : decode cX1_countPairs 34 = .ok (.goto (-30), 3) := by decide +kernel
theorem dX1_countPairs_37 : decode cX1_countPairs 37 = .ok (.iload_n 1, 1) := by decide +kernel
theorem dX1_countPairs_38 : decode cX1_countPairs 38 = .ok (.ireturn, 1) := by decide +kernel
theorem dX1_mirrorOf_0 : decode cX1_mirrorOf 0 = .ok (.iload_n 1, 1) := by decide +kernel
theorem dX1_mirrorOf_1 : decode cX1_mirrorOf 1 = .ok (.bipush 7, 2) := by decide +kernel
theorem dX1_mirrorOf_3 : decode cX1_mirrorOf 3 = .ok (.iand, 1) := by decide +kernel
theorem dX1_mirrorOf_4 : decode cX1_mirrorOf 4 = .ok (.istore_n 2, 1) := by decide +kernel
theorem dX1_mirrorOf_5 : decode cX1_mirrorOf 5 = .ok (.iload_n 2, 1) := by decide +kernel
theorem dX1_mirrorOf_6 : decode cX1_mirrorOf 6 = .ok (.invokestatic 65, 3) := by decide +kernel
theorem dX1_mirrorOf_9 : decode cX1_mirrorOf 9 = .ok (.ifCond .ne 5, 3) := by decide +kernel
theorem dX1_mirrorOf_12 : decode cX1_mirrorOf 12 = .ok (.iconst 0, 1) := by decide +kernel
theorem dX1_mirrorOf_13 : decode cX1_mirrorOf 13 = .ok (.ireturn, 1) := by decide +kernel
theorem dX1_mirrorOf_14 : decode cX1_mirrorOf 14 = .ok (.iload_n 1, 1) := by decide +kernel
theorem dX1_mirrorOf_15 : decode cX1_mirrorOf 15 = .ok (.bipush 32, 2) := by decide +kernel
theorem dX1_mirrorOf_17 : decode cX1_mirrorOf 17 = .ok (.iand, 1) := by decide +kernel
theorem dX1_mirrorOf_18 : decode cX1_mirrorOf 18 = .ok (.istore_n 3, 1) := by decide +kernel
theorem dX1_mirrorOf_19 : decode cX1_mirrorOf 19 = .ok (.aload_n 0, 1) := by decide +kernel
theorem dX1_mirrorOf_20 : decode cX1_mirrorOf 20 = .ok (.iload_n 2, 1) := by decide +kernel
theorem dX1_mirrorOf_21 : decode cX1_mirrorOf 21 = .ok (.invokevirtual 83, 3) := by decide +kernel
theorem dX1_mirrorOf_24 : decode cX1_mirrorOf 24 = .ok (.ifCond .eq 7, 3) := by decide +kernel
theorem dX1_mirrorOf_27 : decode cX1_mirrorOf 27 = .ok (.iload_n 3, 1) := by decide +kernel
theorem dX1_mirrorOf_28 : decode cX1_mirrorOf 28 = .ok (.goto 7, 3) := by decide +kernel
theorem dX1_mirrorOf_31 : decode cX1_mirrorOf 31 = .ok (.bipush 32, 2) := by decide +kernel
theorem dX1_mirrorOf_33 : decode cX1_mirrorOf 33 = .ok (.iload_n 3, 1) := by decide +kernel
theorem dX1_mirrorOf_34 : decode cX1_mirrorOf 34 = .ok (.isub, 1) := by decide +kernel
theorem dX1_mirrorOf_35 : decode cX1_mirrorOf 35 = .ok (.istore 4, 2) := by decide +kernel
theorem dX1_mirrorOf_37 : decode cX1_mirrorOf 37 = .ok (.aload_n 0, 1) := by decide +kernel
theorem dX1_mirrorOf_38 : decode cX1_mirrorOf 38 = .ok (.getfield 26, 3) := by decide +kernel
theorem dX1_mirrorOf_41 : decode cX1_mirrorOf 41 = .ok (.iload_n 2, 1) := by decide +kernel
theorem dX1_mirrorOf_42 : decode cX1_mirrorOf 42 = .ok (.iaload, 1) := by decide +kernel
theorem dX1_mirrorOf_43 : decode cX1_mirrorOf 43 = .ok (.bipush 8, 2) := by decide +kernel
theorem dX1_mirrorOf_45 : decode cX1_mirrorOf 45 = .ok (.aload_n 0, 1) := by decide +kernel
theorem dX1_mirrorOf_46 : decode cX1_mirrorOf 46 = .ok (.getfield 29, 3) := by decide +kernel
theorem dX1_mirrorOf_49 : decode cX1_mirrorOf 49 = .ok (.iload_n 1, 1) := by decide +kernel
theorem dX1_mirrorOf_50 : decode cX1_mirrorOf 50 = .ok (.iconst 3, 1) := by decide +kernel
theorem dX1_mirrorOf_51 : decode cX1_mirrorOf 51 = .ok (.ishr, 1) := by decide +kernel
theorem dX1_mirrorOf_52 : decode cX1_mirrorOf 52 = .ok (.iconst 3, 1) := by decide +kernel
theorem dX1_mirrorOf_53 : decode cX1_mirrorOf 53 = .ok (.iand, 1) := by decide +kernel
theorem dX1_mirrorOf_54 : decode cX1_mirrorOf 54 = .ok (.iaload, 1) := by decide +kernel
theorem dX1_mirrorOf_55 : decode cX1_mirrorOf 55 = .ok (.imul, 1) := by decide +kernel
theorem dX1_mirrorOf_56 : decode cX1_mirrorOf 56 = .ok (.iadd, 1) := by decide +kernel
theorem dX1_mirrorOf_57 : decode cX1_mirrorOf 57 = .ok (.iload 4, 2) := by decide +kernel
theorem dX1_mirrorOf_59 : decode cX1_mirrorOf 59 = .ok (.iadd, 1) := by decide +kernel
theorem dX1_mirrorOf_60 : decode cX1_mirrorOf 60 = .ok (.ireturn, 1) := by decide +kernel
theorem dX1_doorStays_0 : decode cX1_doorStays 0 = .ok (.aload_n 0, 1) := by decide +kernel
theorem dX1_doorStays_1 : decode cX1_doorStays 1 = .ok (.getfield 45, 3) := by decide +kernel
theorem dX1_doorStays_4 : decode cX1_doorStays 4 = .ok (.iload_n 1, 1) := by decide +kernel
theorem dX1_doorStays_5 : decode cX1_doorStays 5 = .ok (.ishr, 1) := by decide +kernel
theorem dX1_doorStays_6 : decode cX1_doorStays 6 = .ok (.iconst 1, 1) := by decide +kernel
theorem dX1_doorStays_7 : decode cX1_doorStays 7 = .ok (.iand, 1) := by decide +kernel
theorem dX1_doorStays_8 : decode cX1_doorStays 8 = .ok (.ifCond .ne 19, 3) := by decide +kernel
theorem dX1_doorStays_11 : decode cX1_doorStays 11 = .ok (.aload_n 0, 1) := by decide +kernel
theorem dX1_doorStays_12 : decode cX1_doorStays 12 = .ok (.getfield 45, 3) := by decide +kernel
theorem dX1_doorStays_15 : decode cX1_doorStays 15 = .ok (.aload_n 0, 1) := by decide +kernel
theorem dX1_doorStays_16 : decode cX1_doorStays 16 = .ok (.getfield 26, 3) := by decide +kernel
theorem dX1_doorStays_19 : decode cX1_doorStays 19 = .ok (.iload_n 1, 1) := by decide +kernel
theorem dX1_doorStays_20 : decode cX1_doorStays 20 = .ok (.iaload, 1) := by decide +kernel
theorem dX1_doorStays_21 : decode cX1_doorStays 21 = .ok (.ishr, 1) := by decide +kernel
theorem dX1_doorStays_22 : decode cX1_doorStays 22 = .ok (.iconst 1, 1) := by decide +kernel
theorem dX1_doorStays_23 : decode cX1_doorStays 23 = .ok (.iand, 1) := by decide +kernel
theorem dX1_doorStays_24 : decode cX1_doorStays 24 = .ok (.ifCond .eq 7, 3) := by decide +kernel
theorem dX1_doorStays_27 : decode cX1_doorStays 27 = .ok (.iconst 1, 1) := by decide +kernel
theorem dX1_doorStays_28 : decode cX1_doorStays 28 = .ok (.goto 4, 3) := by decide +kernel
theorem dX1_doorStays_31 : decode cX1_doorStays 31 = .ok (.iconst 0, 1) := by decide +kernel
theorem dX1_doorStays_32 : decode cX1_doorStays 32 = .ok (.ireturn, 1) := by decide +kernel
theorem dX1_isEven_0 : decode cX1_isEven 0 = .ok (.aload_n 0, 1) := by decide +kernel
theorem dX1_isEven_1 : decode cX1_isEven 1 = .ok (.iload_n 1, 1) := by decide +kernel
theorem dX1_isEven_2 : decode cX1_isEven 2 = .ok (.invokevirtual 86, 3) := by decide +kernel
theorem dX1_isEven_5 : decode cX1_isEven 5 = .ok (.iload_n 2, 1) := by decide +kernel
theorem dX1_isEven_6 : decode cX1_isEven 6 = .ok (.if_icmp .ne 7, 3) := by decide +kernel
theorem dX1_isEven_9 : decode cX1_isEven 9 = .ok (.iconst 1, 1) := by decide +kernel
theorem dX1_isEven_10 : decode cX1_isEven 10 = .ok (.goto 4, 3) := by decide +kernel
theorem dX1_isEven_13 : decode cX1_isEven 13 = .ok (.iconst 0, 1) := by decide +kernel
theorem dX1_isEven_14 : decode cX1_isEven 14 = .ok (.ireturn, 1) := by decide +kernel
theorem dX1_unevenLots_0 : decode cX1_unevenLots 0 = .ok (.iconst 0, 1) := by decide +kernel
theorem dX1_unevenLots_1 : decode cX1_unevenLots 1 = .ok (.istore_n 2, 1) := by decide +kernel
theorem dX1_unevenLots_2 : decode cX1_unevenLots 2 = .ok (.iconst 0, 1) := by decide +kernel
theorem dX1_unevenLots_3 : decode cX1_unevenLots 3 = .ok (.istore_n 3, 1) := by decide +kernel
theorem dX1_unevenLots_4 : decode cX1_unevenLots 4 = .ok (.iload_n 3, 1) := by decide +kernel
theorem dX1_unevenLots_5 : decode cX1_unevenLots 5 = .ok (.aload_n 0, 1) := by decide +kernel
theorem dX1_unevenLots_6 : decode cX1_unevenLots 6 = .ok (.getfield 35, 3) := by decide +kernel
theorem dX1_unevenLots_9 : decode cX1_unevenLots 9 = .ok (.if_icmp .ge 52, 3) := by decide +kernel
theorem dX1_unevenLots_12 : decode cX1_unevenLots 12 = .ok (.aload_n 0, 1) := by decide +kernel
theorem dX1_unevenLots_13 : decode cX1_unevenLots 13 = .ok (.iconst 0, 1) := by decide +kernel
theorem dX1_unevenLots_14 : decode cX1_unevenLots 14 = .ok (.iload_n 3, 1) := by decide +kernel
theorem dX1_unevenLots_15 : decode cX1_unevenLots 15 = .ok (.invokevirtual 71, 3) := by decide +kernel
theorem dX1_unevenLots_18 : decode cX1_unevenLots 18 = .ok (.istore 4, 2) := by decide +kernel
theorem dX1_unevenLots_20 : decode cX1_unevenLots 20 = .ok (.iload 4, 2) := by decide +kernel
theorem dX1_unevenLots_22 : decode cX1_unevenLots 22 = .ok (.bipush (-4), 2) := by decide +kernel
theorem dX1_unevenLots_24 : decode cX1_unevenLots 24 = .ok (.if_icmp .eq 31, 3) := by decide +kernel
theorem dX1_unevenLots_27 : decode cX1_unevenLots 27 = .ok (.aload_n 0, 1) := by decide +kernel
theorem dX1_unevenLots_28 : decode cX1_unevenLots 28 = .ok (.aload_n 1, 1) := by decide +kernel
theorem dX1_unevenLots_29 : decode cX1_unevenLots 29 = .ok (.iconst 0, 1) := by decide +kernel
theorem dX1_unevenLots_30 : decode cX1_unevenLots 30 = .ok (.iload_n 3, 1) := by decide +kernel
theorem dX1_unevenLots_31 : decode cX1_unevenLots 31 = .ok (.invokestatic 89, 3) := by decide +kernel
theorem dX1_unevenLots_34 : decode cX1_unevenLots 34 = .ok (.iaload, 1) := by decide +kernel
theorem dX1_unevenLots_35 : decode cX1_unevenLots 35 = .ok (.aload_n 1, 1) := by decide +kernel
theorem dX1_unevenLots_36 : decode cX1_unevenLots 36 = .ok (.iconst 1, 1) := by decide +kernel
theorem dX1_unevenLots_37 : decode cX1_unevenLots 37 = .ok (.iload 4, 2) := by decide +kernel
theorem dX1_unevenLots_39 : decode cX1_unevenLots 39 = .ok (.invokestatic 89, 3) := by decide +kernel
theorem dX1_unevenLots_42 : decode cX1_unevenLots 42 = .ok (.iaload, 1) := by decide +kernel
theorem dX1_unevenLots_43 : decode cX1_unevenLots 43 = .ok (.invokevirtual 92, 3) := by decide +kernel
theorem dX1_unevenLots_46 : decode cX1_unevenLots 46 = .ok (.ifCond .ne 9, 3) := by decide +kernel
theorem dX1_unevenLots_49 : decode cX1_unevenLots 49 = .ok (.iload_n 2, 1) := by decide +kernel
theorem dX1_unevenLots_50 : decode cX1_unevenLots 50 = .ok (.iconst 1, 1) := by decide +kernel
theorem dX1_unevenLots_51 : decode cX1_unevenLots 51 = .ok (.iload_n 3, 1) := by decide +kernel
theorem dX1_unevenLots_52 : decode cX1_unevenLots 52 = .ok (.ishl, 1) := by decide +kernel
theorem dX1_unevenLots_53 : decode cX1_unevenLots 53 = .ok (.ior, 1) := by decide +kernel
theorem dX1_unevenLots_54 : decode cX1_unevenLots 54 = .ok (.istore_n 2, 1) := by decide +kernel
theorem dX1_unevenLots_55 : decode cX1_unevenLots 55 = .ok (.iinc 3 1, 3) := by decide +kernel
theorem dX1_unevenLots_58 : decode cX1_unevenLots 58 = .ok (.goto (-54), 3) := by decide +kernel
theorem dX1_unevenLots_61 : decode cX1_unevenLots 61 = .ok (.iload_n 2, 1) := by decide +kernel
theorem dX1_unevenLots_62 : decode cX1_unevenLots 62 = .ok (.ireturn, 1) := by decide +kernel
theorem dX2_init_0 : decode cX2_init 0 = .ok (.aload_n 0, 1) := by decide +kernel
theorem dX2_init_1 : decode cX2_init 1 = .ok (.invokespecial 3, 3) := by decide +kernel
theorem dX2_init_4 : decode cX2_init 4 = .ok (.aload_n 0, 1) := by decide +kernel
theorem dX2_init_5 : decode cX2_init 5 = .ok (.aload_n 1, 1) := by decide +kernel
theorem dX2_init_6 : decode cX2_init 6 = .ok (.putfield 9, 3) := by decide +kernel
theorem dX2_init_9 : decode cX2_init 9 = .ok (.aload_n 0, 1) := by decide +kernel
theorem dX2_init_10 : decode cX2_init 10 = .ok (.aload_n 2, 1) := by decide +kernel
theorem dX2_init_11 : decode cX2_init 11 = .ok (.putfield 15, 3) := by decide +kernel
theorem dX2_init_14 : decode cX2_init 14 = .ok (.return_, 1) := by decide +kernel
theorem dX2_hasHistory_0 : decode cX2_hasHistory 0 = .ok (.aload_n 0, 1) := by decide +kernel
theorem dX2_hasHistory_1 : decode cX2_hasHistory 1 = .ok (.getfield 9, 3) := by decide +kernel
theorem dX2_hasHistory_4 : decode cX2_hasHistory 4 = .ok (.iconst 0, 1) := by decide +kernel
theorem dX2_hasHistory_5 : decode cX2_hasHistory 5 = .ok (.iload_n 1, 1) := by decide +kernel
theorem dX2_hasHistory_6 : decode cX2_hasHistory 6 = .ok (.invokevirtual 19, 3) := by decide +kernel
theorem dX2_hasHistory_9 : decode cX2_hasHistory 9 = .ok (.istore_n 2, 1) := by decide +kernel
theorem dX2_hasHistory_10 : decode cX2_hasHistory 10 = .ok (.aload_n 0, 1) := by decide +kernel
theorem dX2_hasHistory_11 : decode cX2_hasHistory 11 = .ok (.getfield 15, 3) := by decide +kernel
theorem dX2_hasHistory_14 : decode cX2_hasHistory 14 = .ok (.iconst 0, 1) := by decide +kernel
theorem dX2_hasHistory_15 : decode cX2_hasHistory 15 = .ok (.iload_n 1, 1) := by decide +kernel
theorem dX2_hasHistory_16 : decode cX2_hasHistory 16 = .ok (.invokevirtual 25, 3) := by decide +kernel
theorem dX2_hasHistory_19 : decode cX2_hasHistory 19 = .ok (.istore_n 3, 1) := by decide +kernel
theorem dX2_hasHistory_20 : decode cX2_hasHistory 20 = .ok (.iload_n 2, 1) := by decide +kernel
theorem dX2_hasHistory_21 : decode cX2_hasHistory 21 = .ok (.bipush (-4), 2) := by decide +kernel
theorem dX2_hasHistory_23 : decode cX2_hasHistory 23 = .ok (.if_icmp .eq 31, 3) := by decide +kernel
theorem dX2_hasHistory_26 : decode cX2_hasHistory 26 = .ok (.iload_n 3, 1) := by decide +kernel
theorem dX2_hasHistory_27 : decode cX2_hasHistory 27 = .ok (.ifCond .eq 27, 3) := by decide +kernel
theorem dX2_hasHistory_30 : decode cX2_hasHistory 30 = .ok (.aload_n 0, 1) := by decide +kernel
theorem dX2_hasHistory_31 : decode cX2_hasHistory 31 = .ok (.getfield 9, 3) := by decide +kernel
theorem dX2_hasHistory_34 : decode cX2_hasHistory 34 = .ok (.iload_n 3, 1) := by decide +kernel
theorem dX2_hasHistory_35 : decode cX2_hasHistory 35 = .ok (.aload_n 0, 1) := by decide +kernel
theorem dX2_hasHistory_36 : decode cX2_hasHistory 36 = .ok (.getfield 15, 3) := by decide +kernel
theorem dX2_hasHistory_39 : decode cX2_hasHistory 39 = .ok (.iconst 1, 1) := by decide +kernel
theorem dX2_hasHistory_40 : decode cX2_hasHistory 40 = .ok (.iload_n 2, 1) := by decide +kernel
theorem dX2_hasHistory_41 : decode cX2_hasHistory 41 = .ok (.invokevirtual 25, 3) := by decide +kernel
theorem dX2_hasHistory_44 : decode cX2_hasHistory 44 = .ok (.invokevirtual 30, 3) := by decide +kernel
theorem dX2_hasHistory_47 : decode cX2_hasHistory 47 = .ok (.ifCond .eq 7, 3) := by decide +kernel
theorem dX2_hasHistory_50 : decode cX2_hasHistory 50 = .ok (.iconst 1, 1) := by decide +kernel
theorem dX2_hasHistory_51 : decode cX2_hasHistory 51 = .ok (.goto 4, 3) := by decide +kernel
theorem dX2_hasHistory_54 : decode cX2_hasHistory 54 = .ok (.iconst 0, 1) := by decide +kernel
theorem dX2_hasHistory_55 : decode cX2_hasHistory 55 = .ok (.ireturn, 1) := by decide +kernel
theorem dX2_findHistories_0 : decode cX2_findHistories 0 = .ok (.aload_n 0, 1) := by decide +kernel
theorem dX2_findHistories_1 : decode cX2_findHistories 1 = .ok (.iconst 0, 1) := by decide +kernel
theorem dX2_findHistories_2 : decode cX2_findHistories 2 = .ok (.putfield 34, 3) := by decide +kernel
theorem dX2_findHistories_5 : decode cX2_findHistories 5 = .ok (.aload_n 0, 1) := by decide +kernel
theorem dX2_findHistories_6 : decode cX2_findHistories 6 = .ok (.iconst 0, 1) := by decide +kernel
theorem dX2_findHistories_7 : decode cX2_findHistories 7 = .ok (.putfield 38, 3) := by decide +kernel
theorem dX2_findHistories_10 : decode cX2_findHistories 10 = .ok (.iconst 0, 1) := by decide +kernel
theorem dX2_findHistories_11 : decode cX2_findHistories 11 = .ok (.istore_n 3, 1) := by decide +kernel
theorem dX2_findHistories_12 : decode cX2_findHistories 12 = .ok (.iload_n 3, 1) := by decide +kernel
theorem dX2_findHistories_13 : decode cX2_findHistories 13 = .ok (.iload_n 2, 1) := by decide +kernel
theorem dX2_findHistories_14 : decode cX2_findHistories 14 = .ok (.if_icmp .gt 66, 3) := by decide +kernel
theorem dX2_findHistories_17 : decode cX2_findHistories 17 = .ok (.iload_n 3, 1) := by decide +kernel
theorem dX2_findHistories_18 : decode cX2_findHistories 18 = .ok (.istore 4, 2) := by decide +kernel
theorem dX2_findHistories_20 : decode cX2_findHistories 20 = .ok (.iload 4, 2) := by decide +kernel
theorem dX2_findHistories_22 : decode cX2_findHistories 22 = .ok (.iload_n 3, 1) := by decide +kernel
theorem dX2_findHistories_23 : decode cX2_findHistories 23 = .ok (.iconst 1, 1) := by decide +kernel
theorem dX2_findHistories_24 : decode cX2_findHistories 24 = .ok (.iadd, 1) := by decide +kernel
theorem dX2_findHistories_25 : decode cX2_findHistories 25 = .ok (.if_icmp .gt 49, 3) := by decide +kernel
theorem dX2_findHistories_28 : decode cX2_findHistories 28 = .ok (.iload 4, 2) := by decide +kernel
theorem dX2_findHistories_30 : decode cX2_findHistories 30 = .ok (.iload_n 2, 1) := by decide +kernel
theorem dX2_findHistories_31 : decode cX2_findHistories 31 = .ok (.if_icmp .gt 43, 3) := by decide +kernel
theorem dX2_findHistories_34 : decode cX2_findHistories 34 = .ok (.aload_n 0, 1) := by decide +kernel
theorem dX2_findHistories_35 : decode cX2_findHistories 35 = .ok (.iload_n 1, 1) := by decide +kernel
theorem dX2_findHistories_36 : decode cX2_findHistories 36 = .ok (.iload_n 3, 1) := by decide +kernel
theorem dX2_findHistories_37 : decode cX2_findHistories 37 = .ok (.iload 4, 2) := by decide +kernel
theorem dX2_findHistories_39 : decode cX2_findHistories 39 = .ok (.invokevirtual 41, 3) := by decide +kernel
theorem dX2_findHistories_42 : decode cX2_findHistories 42 = .ok (.ifCond .eq 9, 3) := by decide +kernel
theorem dX2_findHistories_45 : decode cX2_findHistories 45 = .ok (.aload_n 0, 1) := by decide +kernel
theorem dX2_findHistories_46 : decode cX2_findHistories 46 = .ok (.iconst 0, 1) := by decide +kernel
theorem dX2_findHistories_47 : decode cX2_findHistories 47 = .ok (.iload_n 3, 1) := by decide +kernel
theorem dX2_findHistories_48 : decode cX2_findHistories 48 = .ok (.invokevirtual 45, 3) := by decide +kernel
theorem dX2_findHistories_51 : decode cX2_findHistories 51 = .ok (.aload_n 0, 1) := by decide +kernel
theorem dX2_findHistories_52 : decode cX2_findHistories 52 = .ok (.iload_n 1, 1) := by decide +kernel
theorem dX2_findHistories_53 : decode cX2_findHistories 53 = .ok (.iload 4, 2) := by decide +kernel
theorem dX2_findHistories_55 : decode cX2_findHistories 55 = .ok (.iload_n 3, 1) := by decide +kernel
theorem dX2_findHistories_56 : decode cX2_findHistories 56 = .ok (.invokevirtual 41, 3) := by decide +kernel
theorem dX2_findHistories_59 : decode cX2_findHistories 59 = .ok (.ifCond .eq 9, 3) := by decide +kernel
theorem dX2_findHistories_62 : decode cX2_findHistories 62 = .ok (.aload_n 0, 1) := by decide +kernel
theorem dX2_findHistories_63 : decode cX2_findHistories 63 = .ok (.iconst 1, 1) := by decide +kernel
theorem dX2_findHistories_64 : decode cX2_findHistories 64 = .ok (.iload_n 3, 1) := by decide +kernel
theorem dX2_findHistories_65 : decode cX2_findHistories 65 = .ok (.invokevirtual 45, 3) := by decide +kernel
theorem dX2_findHistories_68 : decode cX2_findHistories 68 = .ok (.iinc 4 1, 3) := by decide +kernel
theorem dX2_findHistories_71 : decode cX2_findHistories 71 = .ok (.goto (-51), 3) := by decide +kernel
theorem dX2_findHistories_74 : decode cX2_findHistories 74 = .ok (.iinc 3 1, 3) := by decide +kernel
theorem dX2_findHistories_77 : decode cX2_findHistories 77 = .ok (.goto (-65), 3) := by decide +kernel
theorem dX2_findHistories_80 : decode cX2_findHistories 80 = .ok (.return_, 1) := by decide +kernel
theorem dX2_note_0 : decode cX2_note 0 = .ok (.aload_n 0, 1) := by decide +kernel
theorem dX2_note_1 : decode cX2_note 1 = .ok (.getfield 34, 3) := by decide +kernel
theorem dX2_note_4 : decode cX2_note 4 = .ok (.ifCond .ne 8, 3) := by decide +kernel
theorem dX2_note_7 : decode cX2_note 7 = .ok (.aload_n 0, 1) := by decide +kernel
theorem dX2_note_8 : decode cX2_note 8 = .ok (.iload_n 2, 1) := by decide +kernel
theorem dX2_note_9 : decode cX2_note 9 = .ok (.putfield 49, 3) := by decide +kernel
theorem dX2_note_12 : decode cX2_note 12 = .ok (.aload_n 0, 1) := by decide +kernel
theorem dX2_note_13 : decode cX2_note 13 = .ok (.iload_n 2, 1) := by decide +kernel
theorem dX2_note_14 : decode cX2_note 14 = .ok (.putfield 52, 3) := by decide +kernel
theorem dX2_note_17 : decode cX2_note 17 = .ok (.aload_n 0, 1) := by decide +kernel
theorem dX2_note_18 : decode cX2_note 18 = .ok (.dup, 1) := by decide +kernel
theorem dX2_note_19 : decode cX2_note 19 = .ok (.getfield 38, 3) := by decide +kernel
theorem dX2_note_22 : decode cX2_note 22 = .ok (.iconst 1, 1) := by decide +kernel
theorem dX2_note_23 : decode cX2_note 23 = .ok (.iload_n 1, 1) := by decide +kernel
theorem dX2_note_24 : decode cX2_note 24 = .ok (.ishl, 1) := by decide +kernel
theorem dX2_note_25 : decode cX2_note 25 = .ok (.ior, 1) := by decide +kernel
theorem dX2_note_26 : decode cX2_note 26 = .ok (.putfield 38, 3) := by decide +kernel
theorem dX2_note_29 : decode cX2_note 29 = .ok (.aload_n 0, 1) := by decide +kernel
theorem dX2_note_30 : decode cX2_note 30 = .ok (.dup, 1) := by decide +kernel
theorem dX2_note_31 : decode cX2_note 31 = .ok (.getfield 34, 3) := by decide +kernel
theorem dX2_note_34 : decode cX2_note 34 = .ok (.iconst 1, 1) := by decide +kernel
theorem dX2_note_35 : decode cX2_note 35 = .ok (.iadd, 1) := by decide +kernel
theorem dX2_note_36 : decode cX2_note 36 = .ok (.putfield 34, 3) := by decide +kernel
theorem dX2_note_39 : decode cX2_note 39 = .ok (.return_, 1) := by decide +kernel
theorem dX2_fitsSeen_0 : decode cX2_fitsSeen 0 = .ok (.aload_n 0, 1) := by decide +kernel
theorem dX2_fitsSeen_1 : decode cX2_fitsSeen 1 = .ok (.getfield 9, 3) := by decide +kernel
theorem dX2_fitsSeen_4 : decode cX2_fitsSeen 4 = .ok (.iconst 0, 1) := by decide +kernel
theorem dX2_fitsSeen_5 : decode cX2_fitsSeen 5 = .ok (.iload_n 1, 1) := by decide +kernel
theorem dX2_fitsSeen_6 : decode cX2_fitsSeen 6 = .ok (.invokevirtual 19, 3) := by decide +kernel
theorem dX2_fitsSeen_9 : decode cX2_fitsSeen 9 = .ok (.istore 4, 2) := by decide +kernel
theorem dX2_fitsSeen_11 : decode cX2_fitsSeen 11 = .ok (.aload_n 0, 1) := by decide +kernel
theorem dX2_fitsSeen_12 : decode cX2_fitsSeen 12 = .ok (.getfield 15, 3) := by decide +kernel
theorem dX2_fitsSeen_15 : decode cX2_fitsSeen 15 = .ok (.getfield 55, 3) := by decide +kernel
theorem dX2_fitsSeen_18 : decode cX2_fitsSeen 18 = .ok (.astore 5, 2) := by decide +kernel
theorem dX2_fitsSeen_20 : decode cX2_fitsSeen 20 = .ok (.iconst 0, 1) := by decide +kernel
theorem dX2_fitsSeen_21 : decode cX2_fitsSeen 21 = .ok (.istore 6, 2) := by decide +kernel
theorem dX2_fitsSeen_23 : decode cX2_fitsSeen 23 = .ok (.iload 6, 2) := by decide +kernel
theorem dX2_fitsSeen_25 : decode cX2_fitsSeen 25 = .ok (.aload 5, 2) := by decide +kernel
theorem dX2_fitsSeen_27 : decode cX2_fitsSeen 27 = .ok (.getfield 59, 3) := by decide +kernel
theorem dX2_fitsSeen_30 : decode cX2_fitsSeen 30 = .ok (.if_icmp .ge 101, 3) := by decide +kernel
theorem dX2_fitsSeen_33 : decode cX2_fitsSeen 33 = .ok (.aload 5, 2) := by decide +kernel
theorem dX2_fitsSeen_35 : decode cX2_fitsSeen 35 = .ok (.iload 6, 2) := by decide +kernel
theorem dX2_fitsSeen_37 : decode cX2_fitsSeen 37 = .ok (.iconst 0, 1) := by decide +kernel
theorem dX2_fitsSeen_38 : decode cX2_fitsSeen 38 = .ok (.invokevirtual 64, 3) := by decide +kernel
theorem dX2_fitsSeen_41 : decode cX2_fitsSeen 41 = .ok (.ifCond .ne 7, 3) := by decide +kernel
theorem dX2_fitsSeen_44 : decode cX2_fitsSeen 44 = .ok (.iconst 1, 1) := by decide +kernel
theorem dX2_fitsSeen_45 : decode cX2_fitsSeen 45 = .ok (.goto 4, 3) := by decide +kernel
theorem dX2_fitsSeen_48 : decode cX2_fitsSeen 48 = .ok (.iconst 0, 1) := by decide +kernel
theorem dX2_fitsSeen_49 : decode cX2_fitsSeen 49 = .ok (.istore 7, 2) := by decide +kernel
theorem dX2_fitsSeen_51 : decode cX2_fitsSeen 51 = .ok (.aload 5, 2) := by decide +kernel
theorem dX2_fitsSeen_53 : decode cX2_fitsSeen 53 = .ok (.iload 6, 2) := by decide +kernel
theorem dX2_fitsSeen_55 : decode cX2_fitsSeen 55 = .ok (.iconst 1, 1) := by decide +kernel
theorem dX2_fitsSeen_56 : decode cX2_fitsSeen 56 = .ok (.invokevirtual 64, 3) := by decide +kernel
theorem dX2_fitsSeen_59 : decode cX2_fitsSeen 59 = .ok (.iload 7, 2) := by decide +kernel
theorem dX2_fitsSeen_61 : decode cX2_fitsSeen 61 = .ok (.ifCond .eq 7, 3) := by decide +kernel
theorem dX2_fitsSeen_64 : decode cX2_fitsSeen 64 = .ok (.iload_n 1, 1) := by decide +kernel
theorem dX2_fitsSeen_65 : decode cX2_fitsSeen 65 = .ok (.goto 5, 3) := by decide +kernel
theorem dX2_fitsSeen_68 : decode cX2_fitsSeen 68 = .ok (.iload 4, 2) := by decide +kernel
theorem dX2_fitsSeen_70 : decode cX2_fitsSeen 70 = .ok (.if_icmp .ne 55, 3) := by decide +kernel
theorem dX2_fitsSeen_73 : decode cX2_fitsSeen 73 = .ok (.iload 7, 2) := by decide +kernel
theorem dX2_fitsSeen_75 : decode cX2_fitsSeen 75 = .ok (.ifCond .eq 7, 3) := by decide +kernel
theorem dX2_fitsSeen_78 : decode cX2_fitsSeen 78 = .ok (.iload_n 2, 1) := by decide +kernel
theorem dX2_fitsSeen_79 : decode cX2_fitsSeen 79 = .ok (.goto 4, 3) := by decide +kernel
theorem dX2_fitsSeen_82 : decode cX2_fitsSeen 82 = .ok (.iload_n 3, 1) := by decide +kernel
theorem dX2_fitsSeen_83 : decode cX2_fitsSeen 83 = .ok (.aload 5, 2) := by decide +kernel
theorem dX2_fitsSeen_85 : decode cX2_fitsSeen 85 = .ok (.iload 6, 2) := by decide +kernel
theorem dX2_fitsSeen_87 : decode cX2_fitsSeen 87 = .ok (.iconst 2, 1) := by decide +kernel
theorem dX2_fitsSeen_88 : decode cX2_fitsSeen 88 = .ok (.invokevirtual 64, 3) := by decide +kernel
theorem dX2_fitsSeen_91 : decode cX2_fitsSeen 91 = .ok (.if_icmp .gt 7, 3) := by decide +kernel
theorem dX2_fitsSeen_94 : decode cX2_fitsSeen 94 = .ok (.iconst 1, 1) := by decide +kernel
theorem dX2_fitsSeen_95 : decode cX2_fitsSeen 95 = .ok (.goto 4, 3) := by decide +kernel
theorem dX2_fitsSeen_98 : decode cX2_fitsSeen 98 = .ok (.iconst 0, 1) := by decide +kernel
theorem dX2_fitsSeen_99 : decode cX2_fitsSeen 99 = .ok (.istore 8, 2) := by decide +kernel
theorem dX2_fitsSeen_101 : decode cX2_fitsSeen 101 = .ok (.iload 8, 2) := by decide +kernel
theorem dX2_fitsSeen_103 : decode cX2_fitsSeen 103 = .ok (.aload 5, 2) := by decide +kernel
theorem dX2_fitsSeen_105 : decode cX2_fitsSeen 105 = .ok (.iload 6, 2) := by decide +kernel
theorem dX2_fitsSeen_107 : decode cX2_fitsSeen 107 = .ok (.iconst 3, 1) := by decide +kernel
theorem dX2_fitsSeen_108 : decode cX2_fitsSeen 108 = .ok (.invokevirtual 64, 3) := by decide +kernel
theorem dX2_fitsSeen_111 : decode cX2_fitsSeen 111 = .ok (.iconst 1, 1) := by decide +kernel
theorem dX2_fitsSeen_112 : decode cX2_fitsSeen 112 = .ok (.if_icmp .ne 7, 3) := by decide +kernel
theorem dX2_fitsSeen_115 : decode cX2_fitsSeen 115 = .ok (.iconst 1, 1) := by decide +kernel
theorem dX2_fitsSeen_116 : decode cX2_fitsSeen 116 = .ok (.goto 4, 3) := by decide +kernel
theorem dX2_fitsSeen_119 : decode cX2_fitsSeen 119 = .ok (.iconst 0, 1) := by decide +kernel
theorem dX2_fitsSeen_120 : decode cX2_fitsSeen 120 = .ok (.if_icmp .eq 5, 3) := by decide +kernel
theorem dX2_fitsSeen_123 : decode cX2_fitsSeen 123 = .ok (.iconst 0, 1) := by decide +kernel
theorem dX2_fitsSeen_124 : decode cX2_fitsSeen 124 = .ok (.ireturn, 1) := by decide +kernel
theorem dX2_fitsSeen_125 : decode cX2_fitsSeen 125 = .ok (.iinc 6 1, 3) := by decide +kernel
theorem dX2_fitsSeen_128 : decode cX2_fitsSeen 128 = .ok (.goto (-105), 3) := by decide +kernel
theorem dX2_fitsSeen_131 : decode cX2_fitsSeen 131 = .ok (.iconst 1, 1) := by decide +kernel
theorem dX2_fitsSeen_132 : decode cX2_fitsSeen 132 = .ok (.ireturn, 1) := by decide +kernel
theorem dX2_onlyBeginner_0 : decode cX2_onlyBeginner 0 = .ok (.aload_n 0, 1) := by decide +kernel
theorem dX2_onlyBeginner_1 : decode cX2_onlyBeginner 1 = .ok (.getfield 38, 3) := by decide +kernel
theorem dX2_onlyBeginner_4 : decode cX2_onlyBeginner 4 = .ok (.iconst 3, 1) := by decide +kernel
theorem dX2_onlyBeginner_5 : decode cX2_onlyBeginner 5 = .ok (.if_icmp .ne 8, 3) := by decide +kernel
theorem dX2_onlyBeginner_8 : decode cX2_onlyBeginner 8 = .ok (.bipush (-4), 2) := by decide +kernel
theorem dX2_onlyBeginner_10 : decode cX2_onlyBeginner 10 = .ok (.goto 9, 3) := by decide +kernel
theorem dX2_onlyBeginner_13 : decode cX2_onlyBeginner 13 = .ok (.aload_n 0, 1) := by decide +kernel
theorem dX2_onlyBeginner_14 : decode cX2_onlyBeginner 14 = .ok (.getfield 38, 3) := by decide +kernel
theorem dX2_onlyBeginner_17 : decode cX2_onlyBeginner 17 = .ok (.iconst 1, 1) := by decide +kernel
theorem dX2_onlyBeginner_18 : decode cX2_onlyBeginner 18 = .ok (.isub, 1) := by decide +kernel
theorem dX2_onlyBeginner_19 : decode cX2_onlyBeginner 19 = .ok (.ireturn, 1) := by decide +kernel
theorem dX3_init_0 : decode cX3_init 0 = .ok (.aload_n 0, 1) := by decide +kernel
theorem dX3_init_1 : decode cX3_init 1 = .ok (.invokespecial 3, 3) := by decide +kernel
theorem dX3_init_4 : decode cX3_init 4 = .ok (.aload_n 0, 1) := by decide +kernel
theorem dX3_init_5 : decode cX3_init 5 = .ok (.sipush 256, 3) := by decide +kernel
theorem dX3_init_8 : decode cX3_init 8 = .ok (.newarray .int, 2) := by decide +kernel
theorem dX3_init_10 : decode cX3_init 10 = .ok (.putfield 11, 3) := by decide +kernel
theorem dX3_init_13 : decode cX3_init 13 = .ok (.aload_n 0, 1) := by decide +kernel
theorem dX3_init_14 : decode cX3_init 14 = .ok (.bipush 6, 2) := by decide +kernel
theorem dX3_init_16 : decode cX3_init 16 = .ok (.newarray .int, 2) := by decide +kernel
theorem dX3_init_18 : decode cX3_init 18 = .ok (.putfield 15, 3) := by decide +kernel
theorem dX3_init_21 : decode cX3_init 21 = .ok (.aload_n 0, 1) := by decide +kernel
theorem dX3_init_22 : decode cX3_init 22 = .ok (.bipush 6, 2) := by decide +kernel
theorem dX3_init_24 : decode cX3_init 24 = .ok (.newarray .int, 2) := by decide +kernel
theorem dX3_init_26 : decode cX3_init 26 = .ok (.putfield 18, 3) := by decide +kernel
theorem dX3_init_29 : decode cX3_init 29 = .ok (.aload_n 0, 1) := by decide +kernel
theorem dX3_init_30 : decode cX3_init 30 = .ok (.aload_n 1, 1) := by decide +kernel
theorem dX3_init_31 : decode cX3_init 31 = .ok (.putfield 21, 3) := by decide +kernel
theorem dX3_init_34 : decode cX3_init 34 = .ok (.aload_n 0, 1) := by decide +kernel
theorem dX3_init_35 : decode cX3_init 35 = .ok (.aload_n 2, 1) := by decide +kernel
theorem dX3_init_36 : decode cX3_init 36 = .ok (.putfield 25, 3) := by decide +kernel
theorem dX3_init_39 : decode cX3_init 39 = .ok (.return_, 1) := by decide +kernel
theorem dX3_monthOf_0 : decode cX3_monthOf 0 = .ok (.iload_n 1, 1) := by decide +kernel
theorem dX3_monthOf_1 : decode cX3_monthOf 1 = .ok (.ifCond .lt 18, 3) := by decide +kernel
theorem dX3_monthOf_4 : decode cX3_monthOf 4 = .ok (.iload_n 1, 1) := by decide +kernel
theorem dX3_monthOf_5 : decode cX3_monthOf 5 = .ok (.bipush 6, 2) := by decide +kernel
theorem dX3_monthOf_7 : decode cX3_monthOf 7 = .ok (.if_icmp .ge 12, 3) := by decide +kernel
theorem dX3_monthOf_10 : decode cX3_monthOf 10 = .ok (.aload_n 0, 1) := by decide +kernel
theorem dX3_monthOf_11 : decode cX3_monthOf 11 = .ok (.getfield 18, 3) := by decide +kernel
theorem dX3_monthOf_14 : decode cX3_monthOf 14 = .ok (.iload_n 1, 1) := by decide +kernel
theorem dX3_monthOf_15 : decode cX3_monthOf 15 = .ok (.iaload, 1) := by decide +kernel
theorem dX3_monthOf_16 : decode cX3_monthOf 16 = .ok (.goto 4, 3) := by decide +kernel
theorem dX3_monthOf_19 : decode cX3_monthOf 19 = .ok (.iconst 0, 1) := by decide +kernel
theorem dX3_monthOf_20 : decode cX3_monthOf 20 = .ok (.ireturn, 1) := by decide +kernel
theorem dX3_findPlan_0 : decode cX3_findPlan 0 = .ok (.aload_n 0, 1) := by decide +kernel
theorem dX3_findPlan_1 : decode cX3_findPlan 1 = .ok (.getfield 25, 3) := by decide +kernel
theorem dX3_findPlan_4 : decode cX3_findPlan 4 = .ok (.getfield 29, 3) := by decide +kernel
theorem dX3_findPlan_7 : decode cX3_findPlan 7 = .ok (.getfield 35, 3) := by decide +kernel
theorem dX3_findPlan_10 : decode cX3_findPlan 10 = .ok (.bipush 6, 2) := by decide +kernel
theorem dX3_findPlan_12 : decode cX3_findPlan 12 = .ok (.invokestatic 41, 3) := by decide +kernel
theorem dX3_findPlan_15 : decode cX3_findPlan 15 = .ok (.istore_n 2, 1) := by decide +kernel
theorem dX3_findPlan_16 : decode cX3_findPlan 16 = .ok (.iconst 0, 1) := by decide +kernel
theorem dX3_findPlan_17 : decode cX3_findPlan 17 = .ok (.istore_n 3, 1) := by decide +kernel
theorem dX3_findPlan_18 : decode cX3_findPlan 18 = .ok (.iload_n 3, 1) := by decide +kernel
theorem dX3_findPlan_19 : decode cX3_findPlan 19 = .ok (.iload_n 2, 1) := by decide +kernel
theorem dX3_findPlan_20 : decode cX3_findPlan 20 = .ok (.if_icmp .ge 57, 3) := by decide +kernel
theorem dX3_findPlan_23 : decode cX3_findPlan 23 = .ok (.aload_n 0, 1) := by decide +kernel
theorem dX3_findPlan_24 : decode cX3_findPlan 24 = .ok (.getfield 25, 3) := by decide +kernel
theorem dX3_findPlan_27 : decode cX3_findPlan 27 = .ok (.getfield 29, 3) := by decide +kernel
theorem dX3_findPlan_30 : decode cX3_findPlan 30 = .ok (.iload_n 3, 1) := by decide +kernel
theorem dX3_findPlan_31 : decode cX3_findPlan 31 = .ok (.iconst 1, 1) := by decide +kernel
theorem dX3_findPlan_32 : decode cX3_findPlan 32 = .ok (.invokevirtual 47, 3) := by decide +kernel
theorem dX3_findPlan_35 : decode cX3_findPlan 35 = .ok (.istore 4, 2) := by decide +kernel
theorem dX3_findPlan_37 : decode cX3_findPlan 37 = .ok (.aload_n 0, 1) := by decide +kernel
theorem dX3_findPlan_38 : decode cX3_findPlan 38 = .ok (.getfield 15, 3) := by decide +kernel
theorem dX3_findPlan_41 : decode cX3_findPlan 41 = .ok (.iload_n 3, 1) := by decide +kernel
theorem dX3_findPlan_42 : decode cX3_findPlan 42 = .ok (.aload_n 0, 1) := by decide +kernel
theorem dX3_findPlan_43 : decode cX3_findPlan 43 = .ok (.getfield 21, 3) := by decide +kernel
theorem dX3_findPlan_46 : decode cX3_findPlan 46 = .ok (.iconst 0, 1) := by decide +kernel
theorem dX3_findPlan_47 : decode cX3_findPlan 47 = .ok (.iload 4, 2) := by decide +kernel
theorem dX3_findPlan_49 : decode cX3_findPlan 49 = .ok (.invokevirtual 50, 3) := by decide +kernel
theorem dX3_findPlan_52 : decode cX3_findPlan 52 = .ok (.aload_n 0, 1) := by decide +kernel
theorem dX3_findPlan_53 : decode cX3_findPlan 53 = .ok (.getfield 21, 3) := by decide +kernel
theorem dX3_findPlan_56 : decode cX3_findPlan 56 = .ok (.iconst 1, 1) := by decide +kernel
theorem dX3_findPlan_57 : decode cX3_findPlan 57 = .ok (.aload_n 0, 1) := by decide +kernel
theorem dX3_findPlan_58 : decode cX3_findPlan 58 = .ok (.getfield 21, 3) := by decide +kernel
theorem dX3_findPlan_61 : decode cX3_findPlan 61 = .ok (.iload 4, 2) := by decide +kernel
theorem dX3_findPlan_63 : decode cX3_findPlan 63 = .ok (.invokevirtual 55, 3) := by decide +kernel
theorem dX3_findPlan_66 : decode cX3_findPlan 66 = .ok (.invokevirtual 50, 3) := by decide +kernel
theorem dX3_findPlan_69 : decode cX3_findPlan 69 = .ok (.iadd, 1) := by decide +kernel
theorem dX3_findPlan_70 : decode cX3_findPlan 70 = .ok (.iastore, 1) := by decide +kernel
theorem dX3_findPlan_71 : decode cX3_findPlan 71 = .ok (.iinc 3 1, 3) := by decide +kernel
theorem dX3_findPlan_74 : decode cX3_findPlan 74 = .ok (.goto (-56), 3) := by decide +kernel
theorem dX3_findPlan_77 : decode cX3_findPlan 77 = .ok (.sipush 255, 3) := by decide +kernel
theorem dX3_findPlan_80 : decode cX3_findPlan 80 = .ok (.istore_n 3, 1) := by decide +kernel
theorem dX3_findPlan_81 : decode cX3_findPlan 81 = .ok (.iload_n 3, 1) := by decide +kernel
theorem dX3_findPlan_82 : decode cX3_findPlan 82 = .ok (.ifCond .lt 62, 3) := by decide +kernel
theorem dX3_findPlan_85 : decode cX3_findPlan 85 = .ok (.iload_n 3, 1) := by decide +kernel
theorem dX3_findPlan_86 : decode cX3_findPlan 86 = .ok (.iconst 0, 1) := by decide +kernel
theorem dX3_findPlan_87 : decode cX3_findPlan 87 = .ok (.invokestatic 59, 3) := by decide +kernel
theorem dX3_findPlan_90 : decode cX3_findPlan 90 = .ok (.iload_n 3, 1) := by decide +kernel
theorem dX3_findPlan_91 : decode cX3_findPlan 91 = .ok (.iconst 1, 1) := by decide +kernel
theorem dX3_findPlan_92 : decode cX3_findPlan 92 = .ok (.invokestatic 59, 3) := by decide +kernel
theorem dX3_findPlan_95 : decode cX3_findPlan 95 = .ok (.iadd, 1) := by decide +kernel
theorem dX3_findPlan_96 : decode cX3_findPlan 96 = .ok (.iload_n 3, 1) := by decide +kernel
theorem dX3_findPlan_97 : decode cX3_findPlan 97 = .ok (.iconst 2, 1) := by decide +kernel
theorem dX3_findPlan_98 : decode cX3_findPlan 98 = .ok (.invokestatic 59, 3) := by decide +kernel
theorem dX3_findPlan_101 : decode cX3_findPlan 101 = .ok (.iadd, 1) := by decide +kernel
theorem dX3_findPlan_102 : decode cX3_findPlan 102 = .ok (.iload_n 3, 1) := by decide +kernel
theorem dX3_findPlan_103 : decode cX3_findPlan 103 = .ok (.iconst 3, 1) := by decide +kernel
theorem dX3_findPlan_104 : decode cX3_findPlan 104 = .ok (.invokestatic 59, 3) := by decide +kernel
theorem dX3_findPlan_107 : decode cX3_findPlan 107 = .ok (.iadd, 1) := by decide +kernel
theorem dX3_findPlan_108 : decode cX3_findPlan 108 = .ok (.istore 4, 2) := by decide +kernel
theorem dX3_findPlan_110 : decode cX3_findPlan 110 = .ok (.aload_n 0, 1) := by decide +kernel
theorem dX3_findPlan_111 : decode cX3_findPlan 111 = .ok (.getfield 11, 3) := by decide +kernel
theorem dX3_findPlan_114 : decode cX3_findPlan 114 = .ok (.iload_n 3, 1) := by decide +kernel
theorem dX3_findPlan_115 : decode cX3_findPlan 115 = .ok (.iload 4, 2) := by decide +kernel
theorem dX3_findPlan_117 : decode cX3_findPlan 117 = .ok (.iload_n 2, 1) := by decide +kernel
theorem dX3_findPlan_118 : decode cX3_findPlan 118 = .ok (.if_icmp .ge 18, 3) := by decide +kernel
theorem dX3_findPlan_121 : decode cX3_findPlan 121 = .ok (.aload_n 0, 1) := by decide +kernel
theorem dX3_findPlan_122 : decode cX3_findPlan 122 = .ok (.iload_n 3, 1) := by decide +kernel
theorem dX3_findPlan_123 : decode cX3_findPlan 123 = .ok (.aload_n 0, 1) := by decide +kernel
theorem dX3_findPlan_124 : decode cX3_findPlan 124 = .ok (.getfield 15, 3) := by decide +kernel
theorem dX3_findPlan_127 : decode cX3_findPlan 127 = .ok (.iload 4, 2) := by decide +kernel
theorem dX3_findPlan_129 : decode cX3_findPlan 129 = .ok (.iaload, 1) := by decide +kernel
theorem dX3_findPlan_130 : decode cX3_findPlan 130 = .ok (.invokevirtual 62, 3) := by decide +kernel
theorem dX3_findPlan_133 : decode cX3_findPlan 133 = .ok (.goto 4, 3) := by decide +kernel
theorem dX3_findPlan_136 : decode cX3_findPlan 136 = .ok (.iconst 0, 1) := by decide +kernel
theorem dX3_findPlan_137 : decode cX3_findPlan 137 = .ok (.iastore, 1) := by decide +kernel
theorem dX3_findPlan_138 : decode cX3_findPlan 138 = .ok (.iinc 3 (-1), 3) := by decide +kernel
theorem dX3_findPlan_141 : decode cX3_findPlan 141 = .ok (.goto (-60), 3) := by decide +kernel
theorem dX3_findPlan_144 : decode cX3_findPlan 144 = .ok (.aload_n 0, 1) := by decide +kernel
theorem dX3_findPlan_145 : decode cX3_findPlan 145 = .ok (.iload_n 1, 1) := by decide +kernel
theorem dX3_findPlan_146 : decode cX3_findPlan 146 = .ok (.iload_n 2, 1) := by decide +kernel
theorem dX3_findPlan_147 : decode cX3_findPlan 147 = .ok (.invokevirtual 65, 3) := by decide +kernel
theorem dX3_findPlan_150 : decode cX3_findPlan 150 = .ok (.aload_n 0, 1) := by decide +kernel
theorem dX3_findPlan_151 : decode cX3_findPlan 151 = .ok (.getfield 11, 3) := by decide +kernel
theorem dX3_findPlan_154 : decode cX3_findPlan 154 = .ok (.iconst 0, 1) := by decide +kernel
theorem dX3_findPlan_155 : decode cX3_findPlan 155 = .ok (.iaload, 1) := by decide +kernel
theorem dX3_findPlan_156 : decode cX3_findPlan 156 = .ok (.ireturn, 1) := by decide +kernel
theorem dX3_taken_0 : decode cX3_taken 0 = .ok (.iload_n 0, 1) := by decide +kernel
theorem dX3_taken_1 : decode cX3_taken 1 = .ok (.iconst 2, 1) := by decide +kernel
theorem dX3_taken_2 : decode cX3_taken 2 = .ok (.iload_n 1, 1) := by decide +kernel
theorem dX3_taken_3 : decode cX3_taken 3 = .ok (.imul, 1) := by decide +kernel
theorem dX3_taken_4 : decode cX3_taken 4 = .ok (.ishr, 1) := by decide +kernel
theorem dX3_taken_5 : decode cX3_taken 5 = .ok (.iconst 3, 1) := by decide +kernel
theorem dX3_taken_6 : decode cX3_taken 6 = .ok (.iand, 1) := by decide +kernel
theorem dX3_taken_7 : decode cX3_taken 7 = .ok (.ireturn, 1) := by decide +kernel
theorem dX3_withOneMore_0 : decode cX3_withOneMore 0 = .ok (.iload_n 0, 1) := by decide +kernel
theorem dX3_withOneMore_1 : decode cX3_withOneMore 1 = .ok (.iconst 1, 1) := by decide +kernel
theorem dX3_withOneMore_2 : decode cX3_withOneMore 2 = .ok (.iconst 2, 1) := by decide +kernel
theorem dX3_withOneMore_3 : decode cX3_withOneMore 3 = .ok (.iload_n 1, 1) := by decide +kernel
theorem dX3_withOneMore_4 : decode cX3_withOneMore 4 = .ok (.imul, 1) := by decide +kernel
theorem dX3_withOneMore_5 : decode cX3_withOneMore 5 = .ok (.ishl, 1) := by decide +kernel
theorem dX3_withOneMore_6 : decode cX3_withOneMore 6 = .ok (.iadd, 1) := by decide +kernel
theorem dX3_withOneMore_7 : decode cX3_withOneMore 7 = .ok (.sipush 255, 3) := by decide +kernel
theorem dX3_withOneMore_10 : decode cX3_withOneMore 10 = .ok (.iand, 1) := by decide +kernel
theorem dX3_withOneMore_11 : decode cX3_withOneMore 11 = .ok (.ireturn, 1) := by decide +kernel
theorem dX3_costWith_0 : decode cX3_costWith 0 = .ok (.aload_n 0, 1) := by decide +kernel
theorem dX3_costWith_1 : decode cX3_costWith 1 = .ok (.getfield 21, 3) := by decide +kernel
theorem dX3_costWith_4 : decode cX3_costWith 4 = .ok (.getfield 69, 3) := by decide +kernel
theorem dX3_costWith_7 : decode cX3_costWith 7 = .ok (.iload_n 2, 1) := by decide +kernel
theorem dX3_costWith_8 : decode cX3_costWith 8 = .ok (.iaload, 1) := by decide +kernel
theorem dX3_costWith_9 : decode cX3_costWith 9 = .ok (.iload_n 3, 1) := by decide +kernel
theorem dX3_costWith_10 : decode cX3_costWith 10 = .ok (.imul, 1) := by decide +kernel
theorem dX3_costWith_11 : decode cX3_costWith 11 = .ok (.aload_n 0, 1) := by decide +kernel
theorem dX3_costWith_12 : decode cX3_costWith 12 = .ok (.getfield 11, 3) := by decide +kernel
theorem dX3_costWith_15 : decode cX3_costWith 15 = .ok (.iload_n 1, 1) := by decide +kernel
theorem dX3_costWith_16 : decode cX3_costWith 16 = .ok (.iload_n 2, 1) := by decide +kernel
theorem dX3_costWith_17 : decode cX3_costWith 17 = .ok (.invokestatic 72, 3) := by decide +kernel
theorem dX3_costWith_20 : decode cX3_costWith 20 = .ok (.iaload, 1) := by decide +kernel
theorem dX3_costWith_21 : decode cX3_costWith 21 = .ok (.iadd, 1) := by decide +kernel
theorem dX3_costWith_22 : decode cX3_costWith 22 = .ok (.ireturn, 1) := by decide +kernel
theorem dX3_leastFrom_0 : decode cX3_leastFrom 0 = .ok (.ldc 75, 2) := by decide +kernel
theorem dX3_leastFrom_2 : decode cX3_leastFrom 2 = .ok (.istore_n 3, 1) := by decide +kernel
theorem dX3_leastFrom_3 : decode cX3_leastFrom 3 = .ok (.iconst 0, 1) := by decide +kernel
theorem dX3_leastFrom_4 : decode cX3_leastFrom 4 = .ok (.istore 4, 2) := by decide +kernel
theorem dX3_leastFrom_6 : decode cX3_leastFrom 6 = .ok (.iload 4, 2) := by decide +kernel
theorem dX3_leastFrom_8 : decode cX3_leastFrom 8 = .ok (.iconst 4, 1) := by decide +kernel
theorem dX3_leastFrom_9 : decode cX3_leastFrom 9 = .ok (.if_icmp .ge 32, 3) := by decide +kernel
theorem dX3_leastFrom_12 : decode cX3_leastFrom 12 = .ok (.iload_n 1, 1) := by decide +kernel
theorem dX3_leastFrom_13 : decode cX3_leastFrom 13 = .ok (.iload 4, 2) := by decide +kernel
theorem dX3_leastFrom_15 : decode cX3_leastFrom 15 = .ok (.invokestatic 59, 3) := by decide +kernel
theorem dX3_leastFrom_18 : decode cX3_leastFrom 18 = .ok (.iconst 3, 1) := by decide +kernel
theorem dX3_leastFrom_19 : decode cX3_leastFrom 19 = .ok (.if_icmp .ge 16, 3) := by decide +kernel
theorem dX3_leastFrom_22 : decode cX3_leastFrom 22 = .ok (.iload_n 3, 1) := by decide +kernel
theorem dX3_leastFrom_23 : decode cX3_leastFrom 23 = .ok (.aload_n 0, 1) := by decide +kernel
theorem dX3_leastFrom_24 : decode cX3_leastFrom 24 = .ok (.iload_n 1, 1) := by decide +kernel
theorem dX3_leastFrom_25 : decode cX3_leastFrom 25 = .ok (.iload 4, 2) := by decide +kernel
theorem dX3_leastFrom_27 : decode cX3_leastFrom 27 = .ok (.iload_n 2, 1) := by decide +kernel
theorem dX3_leastFrom_28 : decode cX3_leastFrom 28 = .ok (.invokevirtual 76, 3) := by decide +kernel
theorem dX3_leastFrom_31 : decode cX3_leastFrom 31 = .ok (.invokestatic 41, 3) := by decide +kernel
theorem dX3_leastFrom_34 : decode cX3_leastFrom 34 = .ok (.istore_n 3, 1) := by decide +kernel
theorem dX3_leastFrom_35 : decode cX3_leastFrom 35 = .ok (.iinc 4 1, 3) := by decide +kernel
theorem dX3_leastFrom_38 : decode cX3_leastFrom 38 = .ok (.goto (-32), 3) := by decide +kernel
theorem dX3_leastFrom_41 : decode cX3_leastFrom 41 = .ok (.iload_n 3, 1) := by decide +kernel
theorem dX3_leastFrom_42 : decode cX3_leastFrom 42 = .ok (.ireturn, 1) := by decide +kernel
theorem dX3_placeWants_0 : decode cX3_placeWants 0 = .ok (.iconst 0, 1) := by decide +kernel
theorem dX3_placeWants_1 : decode cX3_placeWants 1 = .ok (.istore_n 3, 1) := by decide +kernel
theorem dX3_placeWants_2 : decode cX3_placeWants 2 = .ok (.iconst 0, 1) := by decide +kernel
theorem dX3_placeWants_3 : decode cX3_placeWants 3 = .ok (.istore 4, 2) := by decide +kernel
theorem dX3_placeWants_5 : decode cX3_placeWants 5 = .ok (.iload 4, 2) := by decide +kernel
theorem dX3_placeWants_7 : decode cX3_placeWants 7 = .ok (.iload_n 2, 1) := by decide +kernel
theorem dX3_placeWants_8 : decode cX3_placeWants 8 = .ok (.if_icmp .ge 132, 3) := by decide +kernel
theorem dX3_placeWants_11 : decode cX3_placeWants 11 = .ok (.iconst 0, 1) := by decide +kernel
theorem dX3_placeWants_12 : decode cX3_placeWants 12 = .ok (.istore 5, 2) := by decide +kernel
theorem dX3_placeWants_14 : decode cX3_placeWants 14 = .ok (.aload_n 0, 1) := by decide +kernel
theorem dX3_placeWants_15 : decode cX3_placeWants 15 = .ok (.getfield 18, 3) := by decide +kernel
theorem dX3_placeWants_18 : decode cX3_placeWants 18 = .ok (.iload 4, 2) := by decide +kernel
theorem dX3_placeWants_20 : decode cX3_placeWants 20 = .ok (.ldc 75, 2) := by decide +kernel
theorem dX3_placeWants_22 : decode cX3_placeWants 22 = .ok (.iastore, 1) := by decide +kernel
theorem dX3_placeWants_23 : decode cX3_placeWants 23 = .ok (.iconst 0, 1) := by decide +kernel
theorem dX3_placeWants_24 : decode cX3_placeWants 24 = .ok (.istore 6, 2) := by decide +kernel
theorem dX3_placeWants_26 : decode cX3_placeWants 26 = .ok (.iload 6, 2) := by decide +kernel
theorem dX3_placeWants_28 : decode cX3_placeWants 28 = .ok (.iconst 4, 1) := by decide +kernel
theorem dX3_placeWants_29 : decode cX3_placeWants 29 = .ok (.if_icmp .ge 98, 3) := by decide +kernel
theorem dX3_placeWants_32 : decode cX3_placeWants 32 = .ok (.iload_n 1, 1) := by decide +kernel
theorem dX3_placeWants_33 : decode cX3_placeWants 33 = .ok (.iload 6, 2) := by decide +kernel
theorem dX3_placeWants_35 : decode cX3_placeWants 35 = .ok (.iload_n 1, 1) := by decide +kernel
theorem dX3_placeWants_36 : decode cX3_placeWants 36 = .ok (.isub, 1) := by decide +kernel
theorem dX3_placeWants_37 : decode cX3_placeWants 37 = .ok (.iconst 3, 1) := by decide +kernel
theorem dX3_placeWants_38 : decode cX3_placeWants 38 = .ok (.iand, 1) := by decide +kernel
theorem dX3_placeWants_39 : decode cX3_placeWants 39 = .ok (.iadd, 1) := by decide +kernel
theorem dX3_placeWants_40 : decode cX3_placeWants 40 = .ok (.iconst 4, 1) := by decide +kernel
theorem dX3_placeWants_41 : decode cX3_placeWants 41 = .ok (.iload_n 3, 1) := by decide +kernel
theorem dX3_placeWants_42 : decode cX3_placeWants 42 = .ok (.iload 6, 2) := by decide +kernel
theorem dX3_placeWants_44 : decode cX3_placeWants 44 = .ok (.invokestatic 59, 3) := by decide +kernel
theorem dX3_placeWants_47 : decode cX3_placeWants 47 = .ok (.imul, 1) := by decide +kernel
theorem dX3_placeWants_48 : decode cX3_placeWants 48 = .ok (.iadd, 1) := by decide +kernel
theorem dX3_placeWants_49 : decode cX3_placeWants 49 = .ok (.istore 7, 2) := by decide +kernel
theorem dX3_placeWants_51 : decode cX3_placeWants 51 = .ok (.iload_n 3, 1) := by decide +kernel
theorem dX3_placeWants_52 : decode cX3_placeWants 52 = .ok (.iload 6, 2) := by decide +kernel
theorem dX3_placeWants_54 : decode cX3_placeWants 54 = .ok (.invokestatic 59, 3) := by decide +kernel
theorem dX3_placeWants_57 : decode cX3_placeWants 57 = .ok (.iconst 3, 1) := by decide +kernel
theorem dX3_placeWants_58 : decode cX3_placeWants 58 = .ok (.if_icmp .ge 7, 3) := by decide +kernel
theorem dX3_placeWants_61 : decode cX3_placeWants 61 = .ok (.iconst 1, 1) := by decide +kernel
theorem dX3_placeWants_62 : decode cX3_placeWants 62 = .ok (.goto 4, 3) := by decide +kernel
theorem dX3_placeWants_65 : decode cX3_placeWants 65 = .ok (.iconst 0, 1) := by decide +kernel
theorem dX3_placeWants_66 : decode cX3_placeWants 66 = .ok (.istore 8, 2) := by decide +kernel
theorem dX3_placeWants_68 : decode cX3_placeWants 68 = .ok (.iload 8, 2) := by decide +kernel
theorem dX3_placeWants_70 : decode cX3_placeWants 70 = .ok (.ifCond .eq 51, 3) := by decide +kernel
theorem dX3_placeWants_73 : decode cX3_placeWants 73 = .ok (.iload 7, 2) := by decide +kernel
theorem dX3_placeWants_75 : decode cX3_placeWants 75 = .ok (.aload_n 0, 1) := by decide +kernel
theorem dX3_placeWants_76 : decode cX3_placeWants 76 = .ok (.getfield 18, 3) := by decide +kernel
theorem dX3_placeWants_79 : decode cX3_placeWants 79 = .ok (.iload 4, 2) := by decide +kernel
theorem dX3_placeWants_81 : decode cX3_placeWants 81 = .ok (.iaload, 1) := by decide +kernel
theorem dX3_placeWants_82 : decode cX3_placeWants 82 = .ok (.if_icmp .ge 39, 3) := by decide +kernel
theorem dX3_placeWants_85 : decode cX3_placeWants 85 = .ok (.aload_n 0, 1) := by decide +kernel
theorem dX3_placeWants_86 : decode cX3_placeWants 86 = .ok (.iload_n 3, 1) := by decide +kernel
theorem dX3_placeWants_87 : decode cX3_placeWants 87 = .ok (.iload 6, 2) := by decide +kernel
theorem dX3_placeWants_89 : decode cX3_placeWants 89 = .ok (.aload_n 0, 1) := by decide +kernel
theorem dX3_placeWants_90 : decode cX3_placeWants 90 = .ok (.getfield 15, 3) := by decide +kernel
theorem dX3_placeWants_93 : decode cX3_placeWants 93 = .ok (.iload 4, 2) := by decide +kernel
theorem dX3_placeWants_95 : decode cX3_placeWants 95 = .ok (.iaload, 1) := by decide +kernel
theorem dX3_placeWants_96 : decode cX3_placeWants 96 = .ok (.invokevirtual 76, 3) := by decide +kernel
theorem dX3_placeWants_99 : decode cX3_placeWants 99 = .ok (.aload_n 0, 1) := by decide +kernel
theorem dX3_placeWants_100 : decode cX3_placeWants 100 = .ok (.getfield 11, 3) := by decide +kernel
theorem dX3_placeWants_103 : decode cX3_placeWants 103 = .ok (.iload_n 3, 1) := by decide +kernel
theorem dX3_placeWants_104 : decode cX3_placeWants 104 = .ok (.iaload, 1) := by decide +kernel
theorem dX3_placeWants_105 : decode cX3_placeWants 105 = .ok (.if_icmp .ne 16, 3) := by decide +kernel
theorem dX3_placeWants_108 : decode cX3_placeWants 108 = .ok (.aload_n 0, 1) := by decide +kernel
theorem dX3_placeWants_109 : decode cX3_placeWants 109 = .ok (.getfield 18, 3) := by decide +kernel
theorem dX3_placeWants_112 : decode cX3_placeWants 112 = .ok (.iload 4, 2) := by decide +kernel
theorem dX3_placeWants_114 : decode cX3_placeWants 114 = .ok (.iload 7, 2) := by decide +kernel
theorem dX3_placeWants_116 : decode cX3_placeWants 116 = .ok (.iastore, 1) := by decide +kernel
theorem dX3_placeWants_117 : decode cX3_placeWants 117 = .ok (.iload 6, 2) := by decide +kernel
theorem dX3_placeWants_119 : decode cX3_placeWants 119 = .ok (.istore 5, 2) := by decide +kernel
theorem dX3_placeWants_121 : decode cX3_placeWants 121 = .ok (.iinc 6 1, 3) := by decide +kernel
theorem dX3_placeWants_124 : decode cX3_placeWants 124 = .ok (.goto (-98), 3) := by decide +kernel
theorem dX3_placeWants_127 : decode cX3_placeWants 127 = .ok (.iload_n 3, 1) := by decide +kernel
theorem dX3_placeWants_128 : decode cX3_placeWants 128 = .ok (.iload 5, 2) := by decide +kernel
theorem dX3_placeWants_130 : decode cX3_placeWants 130 = .ok (.invokestatic 72, 3) := by decide +kernel
theorem dX3_placeWants_133 : decode cX3_placeWants 133 = .ok (.istore_n 3, 1) := by decide +kernel
theorem dX3_placeWants_134 : decode cX3_placeWants 134 = .ok (.iinc 4 1, 3) := by decide +kernel
theorem dX3_placeWants_137 : decode cX3_placeWants 137 = .ok (.goto (-132), 3) := by decide +kernel
theorem dX3_placeWants_140 : decode cX3_placeWants 140 = .ok (.return_, 1) := by decide +kernel
theorem dX3_kindsBarred_0 : decode cX3_kindsBarred 0 = .ok (.iconst 0, 1) := by decide +kernel
theorem dX3_kindsBarred_1 : decode cX3_kindsBarred 1 = .ok (.istore_n 1, 1) := by decide +kernel
theorem dX3_kindsBarred_2 : decode cX3_kindsBarred 2 = .ok (.iconst 0, 1) := by decide +kernel
theorem dX3_kindsBarred_3 : decode cX3_kindsBarred 3 = .ok (.istore_n 2, 1) := by decide +kernel
theorem dX3_kindsBarred_4 : decode cX3_kindsBarred 4 = .ok (.iload_n 2, 1) := by decide +kernel
theorem dX3_kindsBarred_5 : decode cX3_kindsBarred 5 = .ok (.aload_n 0, 1) := by decide +kernel
theorem dX3_kindsBarred_6 : decode cX3_kindsBarred 6 = .ok (.getfield 25, 3) := by decide +kernel
theorem dX3_kindsBarred_9 : decode cX3_kindsBarred 9 = .ok (.getfield 29, 3) := by decide +kernel
theorem dX3_kindsBarred_12 : decode cX3_kindsBarred 12 = .ok (.getfield 35, 3) := by decide +kernel
theorem dX3_kindsBarred_15 : decode cX3_kindsBarred 15 = .ok (.if_icmp .ge 59, 3) := by decide +kernel
theorem dX3_kindsBarred_18 : decode cX3_kindsBarred 18 = .ok (.aload_n 0, 1) := by decide +kernel
theorem dX3_kindsBarred_19 : decode cX3_kindsBarred 19 = .ok (.getfield 25, 3) := by decide +kernel
theorem dX3_kindsBarred_22 : decode cX3_kindsBarred 22 = .ok (.getfield 29, 3) := by decide +kernel
theorem dX3_kindsBarred_25 : decode cX3_kindsBarred 25 = .ok (.iload_n 2, 1) := by decide +kernel
theorem dX3_kindsBarred_26 : decode cX3_kindsBarred 26 = .ok (.iconst 1, 1) := by decide +kernel
theorem dX3_kindsBarred_27 : decode cX3_kindsBarred 27 = .ok (.invokevirtual 47, 3) := by decide +kernel
theorem dX3_kindsBarred_30 : decode cX3_kindsBarred 30 = .ok (.istore_n 3, 1) := by decide +kernel
theorem dX3_kindsBarred_31 : decode cX3_kindsBarred 31 = .ok (.aload_n 0, 1) := by decide +kernel
theorem dX3_kindsBarred_32 : decode cX3_kindsBarred 32 = .ok (.getfield 21, 3) := by decide +kernel
theorem dX3_kindsBarred_35 : decode cX3_kindsBarred 35 = .ok (.iconst 0, 1) := by decide +kernel
theorem dX3_kindsBarred_36 : decode cX3_kindsBarred 36 = .ok (.iload_n 3, 1) := by decide +kernel
theorem dX3_kindsBarred_37 : decode cX3_kindsBarred 37 = .ok (.invokevirtual 80, 3) := by decide +kernel
theorem dX3_kindsBarred_40 : decode cX3_kindsBarred 40 = .ok (.ifCond .ne 22, 3) := by decide +kernel
theorem dX3_kindsBarred_43 : decode cX3_kindsBarred 43 = .ok (.aload_n 0, 1) := by decide +kernel
theorem dX3_kindsBarred_44 : decode cX3_kindsBarred 44 = .ok (.getfield 21, 3) := by decide +kernel
theorem dX3_kindsBarred_47 : decode cX3_kindsBarred 47 = .ok (.iconst 1, 1) := by decide +kernel
theorem dX3_kindsBarred_48 : decode cX3_kindsBarred 48 = .ok (.aload_n 0, 1) := by decide +kernel
theorem dX3_kindsBarred_49 : decode cX3_kindsBarred 49 = .ok (.getfield 21, 3) := by decide +kernel
theorem dX3_kindsBarred_52 : decode cX3_kindsBarred 52 = .ok (.iload_n 3, 1) := by decide +kernel
theorem dX3_kindsBarred_53 : decode cX3_kindsBarred 53 = .ok (.invokevirtual 55, 3) := by decide +kernel
theorem dX3_kindsBarred_56 : decode cX3_kindsBarred 56 = .ok (.invokevirtual 80, 3) := by decide +kernel
theorem dX3_kindsBarred_59 : decode cX3_kindsBarred 59 = .ok (.ifCond .eq 9, 3) := by decide +kernel
theorem dX3_kindsBarred_62 : decode cX3_kindsBarred 62 = .ok (.iload_n 1, 1) := by decide +kernel
theorem dX3_kindsBarred_63 : decode cX3_kindsBarred 63 = .ok (.iconst 1, 1) := by decide +kernel
theorem dX3_kindsBarred_64 : decode cX3_kindsBarred 64 = .ok (.iload_n 3, 1) := by decide +kernel
theorem dX3_kindsBarred_65 : decode cX3_kindsBarred 65 = .ok (.ishl, 1) := by decide +kernel
theorem dX3_kindsBarred_66 : decode cX3_kindsBarred 66 = .ok (.ior, 1) := by decide +kernel
theorem dX3_kindsBarred_67 : decode cX3_kindsBarred 67 = .ok (.istore_n 1, 1) := by decide +kernel
theorem dX3_kindsBarred_68 : decode cX3_kindsBarred 68 = .ok (.iinc 2 1, 3) := by decide +kernel
theorem dX3_kindsBarred_71 : decode cX3_kindsBarred 71 = .ok (.goto (-67), 3) := by decide +kernel
theorem dX3_kindsBarred_74 : decode cX3_kindsBarred 74 = .ok (.iload_n 1, 1) := by decide +kernel
theorem dX3_kindsBarred_75 : decode cX3_kindsBarred 75 = .ok (.ireturn, 1) := by decide +kernel
theorem dX3_costInstead_0 : decode cX3_costInstead 0 = .ok (.bipush (-4), 2) := by decide +kernel
theorem dX3_costInstead_2 : decode cX3_costInstead 2 = .ok (.istore_n 1, 1) := by decide +kernel
theorem dX3_costInstead_3 : decode cX3_costInstead 3 = .ok (.iconst 1, 1) := by decide +kernel
theorem dX3_costInstead_4 : decode cX3_costInstead 4 = .ok (.istore_n 2, 1) := by decide +kernel
theorem dX3_costInstead_5 : decode cX3_costInstead 5 = .ok (.iload_n 2, 1) := by decide +kernel
theorem dX3_costInstead_6 : decode cX3_costInstead 6 = .ok (.bipush 6, 2) := by decide +kernel
theorem dX3_costInstead_8 : decode cX3_costInstead 8 = .ok (.if_icmp .ge 50, 3) := by decide +kernel
theorem dX3_costInstead_11 : decode cX3_costInstead 11 = .ok (.aload_n 0, 1) := by decide +kernel
theorem dX3_costInstead_12 : decode cX3_costInstead 12 = .ok (.getfield 21, 3) := by decide +kernel
theorem dX3_costInstead_15 : decode cX3_costInstead 15 = .ok (.iconst 1, 1) := by decide +kernel
theorem dX3_costInstead_16 : decode cX3_costInstead 16 = .ok (.iload_n 2, 1) := by decide +kernel
theorem dX3_costInstead_17 : decode cX3_costInstead 17 = .ok (.invokevirtual 80, 3) := by decide +kernel
theorem dX3_costInstead_20 : decode cX3_costInstead 20 = .ok (.ifCond .ne 32, 3) := by decide +kernel
theorem dX3_costInstead_23 : decode cX3_costInstead 23 = .ok (.iload_n 1, 1) := by decide +kernel
theorem dX3_costInstead_24 : decode cX3_costInstead 24 = .ok (.bipush (-4), 2) := by decide +kernel
theorem dX3_costInstead_26 : decode cX3_costInstead 26 = .ok (.if_icmp .eq 16, 3) := by decide +kernel
theorem dX3_costInstead_29 : decode cX3_costInstead 29 = .ok (.aload_n 0, 1) := by decide +kernel
theorem dX3_costInstead_30 : decode cX3_costInstead 30 = .ok (.getfield 21, 3) := by decide +kernel
theorem dX3_costInstead_33 : decode cX3_costInstead 33 = .ok (.iconst 1, 1) := by decide +kernel
theorem dX3_costInstead_34 : decode cX3_costInstead 34 = .ok (.iload_n 2, 1) := by decide +kernel
theorem dX3_costInstead_35 : decode cX3_costInstead 35 = .ok (.invokevirtual 50, 3) := by decide +kernel
theorem dX3_costInstead_38 : decode cX3_costInstead 38 = .ok (.iload_n 1, 1) := by decide +kernel
theorem dX3_costInstead_39 : decode cX3_costInstead 39 = .ok (.if_icmp .ge 13, 3) := by decide +kernel
theorem dX3_costInstead_42 : decode cX3_costInstead 42 = .ok (.aload_n 0, 1) := by decide +kernel
theorem dX3_costInstead_43 : decode cX3_costInstead 43 = .ok (.getfield 21, 3) := by decide +kernel
theorem dX3_costInstead_46 : decode cX3_costInstead 46 = .ok (.iconst 1, 1) := by decide +kernel
theorem dX3_costInstead_47 : decode cX3_costInstead 47 = .ok (.iload_n 2, 1) := by decide +kernel
theorem dX3_costInstead_48 : decode cX3_costInstead 48 = .ok (.invokevirtual 50, 3) := by decide +kernel
theorem dX3_costInstead_51 : decode cX3_costInstead 51 = .ok (.istore_n 1, 1) := by decide +kernel
theorem dX3_costInstead_52 : decode cX3_costInstead 52 = .ok (.iinc 2 1, 3) := by decide +kernel
theorem dX3_costInstead_55 : decode cX3_costInstead 55 = .ok (.goto (-50), 3) := by decide +kernel
theorem dX3_costInstead_58 : decode cX3_costInstead 58 = .ok (.iload_n 1, 1) := by decide +kernel
theorem dX3_costInstead_59 : decode cX3_costInstead 59 = .ok (.bipush (-4), 2) := by decide +kernel
theorem dX3_costInstead_61 : decode cX3_costInstead 61 = .ok (.if_icmp .ne 6, 3) := by decide +kernel
theorem dX3_costInstead_64 : decode cX3_costInstead 64 = .ok (.bipush (-4), 2) := by decide +kernel
theorem dX3_costInstead_66 : decode cX3_costInstead 66 = .ok (.ireturn, 1) := by decide +kernel
theorem dX3_costInstead_67 : decode cX3_costInstead 67 = .ok (.iconst 0, 1) := by decide +kernel
theorem dX3_costInstead_68 : decode cX3_costInstead 68 = .ok (.istore_n 2, 1) := by decide +kernel
theorem dX3_costInstead_69 : decode cX3_costInstead 69 = .ok (.iconst 0, 1) := by decide +kernel
theorem dX3_costInstead_70 : decode cX3_costInstead 70 = .ok (.istore_n 3, 1) := by decide +kernel
theorem dX3_costInstead_71 : decode cX3_costInstead 71 = .ok (.iload_n 3, 1) := by decide +kernel
theorem dX3_costInstead_72 : decode cX3_costInstead 72 = .ok (.aload_n 0, 1) := by decide +kernel
theorem dX3_costInstead_73 : decode cX3_costInstead 73 = .ok (.getfield 25, 3) := by decide +kernel
theorem dX3_costInstead_76 : decode cX3_costInstead 76 = .ok (.getfield 29, 3) := by decide +kernel
theorem dX3_costInstead_79 : decode cX3_costInstead 79 = .ok (.getfield 35, 3) := by decide +kernel
theorem dX3_costInstead_82 : decode cX3_costInstead 82 = .ok (.if_icmp .ge 51, 3) := by decide +kernel
theorem dX3_costInstead_85 : decode cX3_costInstead 85 = .ok (.aload_n 0, 1) := by decide +kernel
theorem dX3_costInstead_86 : decode cX3_costInstead 86 = .ok (.getfield 21, 3) := by decide +kernel
theorem dX3_costInstead_89 : decode cX3_costInstead 89 = .ok (.aload_n 0, 1) := by decide +kernel
theorem dX3_costInstead_90 : decode cX3_costInstead 90 = .ok (.getfield 25, 3) := by decide +kernel
theorem dX3_costInstead_93 : decode cX3_costInstead 93 = .ok (.getfield 29, 3) := by decide +kernel
theorem dX3_costInstead_96 : decode cX3_costInstead 96 = .ok (.iload_n 3, 1) := by decide +kernel
theorem dX3_costInstead_97 : decode cX3_costInstead 97 = .ok (.iconst 1, 1) := by decide +kernel
theorem dX3_costInstead_98 : decode cX3_costInstead 98 = .ok (.invokevirtual 47, 3) := by decide +kernel
theorem dX3_costInstead_101 : decode cX3_costInstead 101 = .ok (.invokevirtual 55, 3) := by decide +kernel
theorem dX3_costInstead_104 : decode cX3_costInstead 104 = .ok (.istore 4, 2) := by decide +kernel
theorem dX3_costInstead_106 : decode cX3_costInstead 106 = .ok (.iload_n 2, 1) := by decide +kernel
theorem dX3_costInstead_107 : decode cX3_costInstead 107 = .ok (.aload_n 0, 1) := by decide +kernel
theorem dX3_costInstead_108 : decode cX3_costInstead 108 = .ok (.getfield 21, 3) := by decide +kernel
theorem dX3_costInstead_111 : decode cX3_costInstead 111 = .ok (.iconst 1, 1) := by decide +kernel
theorem dX3_costInstead_112 : decode cX3_costInstead 112 = .ok (.iload 4, 2) := by decide +kernel
theorem dX3_costInstead_114 : decode cX3_costInstead 114 = .ok (.invokevirtual 80, 3) := by decide +kernel
theorem dX3_costInstead_117 : decode cX3_costInstead 117 = .ok (.ifCond .eq 7, 3) := by decide +kernel
theorem dX3_costInstead_120 : decode cX3_costInstead 120 = .ok (.iload_n 1, 1) := by decide +kernel
theorem dX3_costInstead_121 : decode cX3_costInstead 121 = .ok (.goto 4, 3) := by decide +kernel
theorem dX3_costInstead_124 : decode cX3_costInstead 124 = .ok (.iconst 0, 1) := by decide +kernel
theorem dX3_costInstead_125 : decode cX3_costInstead 125 = .ok (.iadd, 1) := by decide +kernel
theorem dX3_costInstead_126 : decode cX3_costInstead 126 = .ok (.istore_n 2, 1) := by decide +kernel
theorem dX3_costInstead_127 : decode cX3_costInstead 127 = .ok (.iinc 3 1, 3) := by decide +kernel
theorem dX3_costInstead_130 : decode cX3_costInstead 130 = .ok (.goto (-59), 3) := by decide +kernel
theorem dX3_costInstead_133 : decode cX3_costInstead 133 = .ok (.iload_n 2, 1) := by decide +kernel
theorem dX3_costInstead_134 : decode cX3_costInstead 134 = .ok (.ireturn, 1) := by decide +kernel
theorem dX5_init_0 : decode cX5_init 0 = .ok (.aload_n 0, 1) := by decide +kernel
theorem dX5_init_1 : decode cX5_init 1 = .ok (.invokespecial 1, 3) := by decide +kernel
theorem dX5_init_4 : decode cX5_init 4 = .ok (.aload_n 0, 1) := by decide +kernel
theorem dX5_init_5 : decode cX5_init 5 = .ok (.iload_n 1, 1) := by decide +kernel
theorem dX5_init_6 : decode cX5_init 6 = .ok (.putfield 7, 3) := by decide +kernel
theorem dX5_init_9 : decode cX5_init 9 = .ok (.aload_n 0, 1) := by decide +kernel
theorem dX5_init_10 : decode cX5_init 10 = .ok (.iload_n 2, 1) := by decide +kernel
theorem dX5_init_11 : decode cX5_init 11 = .ok (.putfield 13, 3) := by decide +kernel
theorem dX5_init_14 : decode cX5_init 14 = .ok (.aload_n 0, 1) := by decide +kernel
theorem dX5_init_15 : decode cX5_init 15 = .ok (.iload_n 1, 1) := by decide +kernel
theorem dX5_init_16 : decode cX5_init 16 = .ok (.iload_n 2, 1) := by decide +kernel
theorem dX5_init_17 : decode cX5_init 17 = .ok (.imul, 1) := by decide +kernel
theorem dX5_init_18 : decode cX5_init 18 = .ok (.newarray .int, 2) := by decide +kernel
theorem dX5_init_20 : decode cX5_init 20 = .ok (.putfield 16, 3) := by decide +kernel
theorem dX5_init_23 : decode cX5_init 23 = .ok (.return_, 1) := by decide +kernel
theorem dX5_isFull_0 : decode cX5_isFull 0 = .ok (.aload_n 0, 1) := by decide +kernel
theorem dX5_isFull_1 : decode cX5_isFull 1 = .ok (.getfield 20, 3) := by decide +kernel
theorem dX5_isFull_4 : decode cX5_isFull 4 = .ok (.aload_n 0, 1) := by decide +kernel
theorem dX5_isFull_5 : decode cX5_isFull 5 = .ok (.getfield 7, 3) := by decide +kernel
theorem dX5_isFull_8 : decode cX5_isFull 8 = .ok (.if_icmp .lt 7, 3) := by decide +kernel
theorem dX5_isFull_11 : decode cX5_isFull 11 = .ok (.iconst 1, 1) := by decide +kernel
theorem dX5_isFull_12 : decode cX5_isFull 12 = .ok (.goto 4, 3) := by decide +kernel
theorem dX5_isFull_15 : decode cX5_isFull 15 = .ok (.iconst 0, 1) := by decide +kernel
theorem dX5_isFull_16 : decode cX5_isFull 16 = .ok (.ireturn, 1) := by decide +kernel
theorem dX5_addRow_0 : decode cX5_addRow 0 = .ok (.aload_n 0, 1) := by decide +kernel
theorem dX5_addRow_1 : decode cX5_addRow 1 = .ok (.invokevirtual 23, 3) := by decide +kernel
theorem dX5_addRow_4 : decode cX5_addRow 4 = .ok (.ifCond .eq 4, 3) := by decide +kernel
theorem dX5_addRow_7 : decode cX5_addRow 7 = .ok (.return_, 1) := by decide +kernel
theorem dX5_addRow_8 : decode cX5_addRow 8 = .ok (.aload_n 0, 1) := by decide +kernel
theorem dX5_addRow_9 : decode cX5_addRow 9 = .ok (.getfield 20, 3) := by decide +kernel
theorem dX5_addRow_12 : decode cX5_addRow 12 = .ok (.istore 5, 2) := by decide +kernel
theorem dX5_addRow_14 : decode cX5_addRow 14 = .ok (.aload_n 0, 1) := by decide +kernel
theorem dX5_addRow_15 : decode cX5_addRow 15 = .ok (.dup, 1) := by decide +kernel
theorem dX5_addRow_16 : decode cX5_addRow 16 = .ok (.getfield 20, 3) := by decide +kernel
theorem dX5_addRow_19 : decode cX5_addRow 19 = .ok (.iconst 1, 1) := by decide +kernel
theorem dX5_addRow_20 : decode cX5_addRow 20 = .ok (.iadd, 1) := by decide +kernel
theorem dX5_addRow_21 : decode cX5_addRow 21 = .ok (.putfield 20, 3) := by decide +kernel
theorem dX5_addRow_24 : decode cX5_addRow 24 = .ok (.aload_n 0, 1) := by decide +kernel
theorem dX5_addRow_25 : decode cX5_addRow 25 = .ok (.iload 5, 2) := by decide +kernel
theorem dX5_addRow_27 : decode cX5_addRow 27 = .ok (.iconst 0, 1) := by decide +kernel
theorem dX5_addRow_28 : decode cX5_addRow 28 = .ok (.iload_n 1, 1) := by decide +kernel
theorem dX5_addRow_29 : decode cX5_addRow 29 = .ok (.invokevirtual 27, 3) := by decide +kernel
theorem dX5_addRow_32 : decode cX5_addRow 32 = .ok (.aload_n 0, 1) := by decide +kernel
theorem dX5_addRow_33 : decode cX5_addRow 33 = .ok (.iload 5, 2) := by decide +kernel
theorem dX5_addRow_35 : decode cX5_addRow 35 = .ok (.iconst 1, 1) := by decide +kernel
theorem dX5_addRow_36 : decode cX5_addRow 36 = .ok (.iload_n 2, 1) := by decide +kernel
theorem dX5_addRow_37 : decode cX5_addRow 37 = .ok (.invokevirtual 27, 3) := by decide +kernel
theorem dX5_addRow_40 : decode cX5_addRow 40 = .ok (.aload_n 0, 1) := by decide +kernel
theorem dX5_addRow_41 : decode cX5_addRow 41 = .ok (.iload 5, 2) := by decide +kernel
theorem dX5_addRow_43 : decode cX5_addRow 43 = .ok (.iconst 2, 1) := by decide +kernel
theorem dX5_addRow_44 : decode cX5_addRow 44 = .ok (.iload_n 3, 1) := by decide +kernel
theorem dX5_addRow_45 : decode cX5_addRow 45 = .ok (.invokevirtual 27, 3) := by decide +kernel
theorem dX5_addRow_48 : decode cX5_addRow 48 = .ok (.aload_n 0, 1) := by decide +kernel
theorem dX5_addRow_49 : decode cX5_addRow 49 = .ok (.iload 5, 2) := by decide +kernel
theorem dX5_addRow_51 : decode cX5_addRow 51 = .ok (.iconst 3, 1) := by decide +kernel
theorem dX5_addRow_52 : decode cX5_addRow 52 = .ok (.iload 4, 2) := by decide +kernel
theorem dX5_addRow_54 : decode cX5_addRow 54 = .ok (.invokevirtual 27, 3) := by decide +kernel
theorem dX5_addRow_57 : decode cX5_addRow 57 = .ok (.return_, 1) := by decide +kernel
theorem dX5_setCell_0 : decode cX5_setCell 0 = .ok (.iload_n 2, 1) := by decide +kernel
theorem dX5_setCell_1 : decode cX5_setCell 1 = .ok (.aload_n 0, 1) := by decide +kernel
theorem dX5_setCell_2 : decode cX5_setCell 2 = .ok (.getfield 13, 3) := by decide +kernel
theorem dX5_setCell_5 : decode cX5_setCell 5 = .ok (.if_icmp .ge 17, 3) := by decide +kernel
theorem dX5_setCell_8 : decode cX5_setCell 8 = .ok (.aload_n 0, 1) := by decide +kernel
theorem dX5_setCell_9 : decode cX5_setCell 9 = .ok (.getfield 16, 3) := by decide +kernel
theorem dX5_setCell_12 : decode cX5_setCell 12 = .ok (.iload_n 1, 1) := by decide +kernel
theorem dX5_setCell_13 : decode cX5_setCell 13 = .ok (.aload_n 0, 1) := by decide +kernel
theorem dX5_setCell_14 : decode cX5_setCell 14 = .ok (.getfield 13, 3) := by decide +kernel
theorem dX5_setCell_17 : decode cX5_setCell 17 = .ok (.imul, 1) := by decide +kernel
theorem dX5_setCell_18 : decode cX5_setCell 18 = .ok (.iload_n 2, 1) := by decide +kernel
theorem dX5_setCell_19 : decode cX5_setCell 19 = .ok (.iadd, 1) := by decide +kernel
theorem dX5_setCell_20 : decode cX5_setCell 20 = .ok (.iload_n 3, 1) := by decide +kernel
theorem dX5_setCell_21 : decode cX5_setCell 21 = .ok (.iastore, 1) := by decide +kernel
theorem dX5_setCell_22 : decode cX5_setCell 22 = .ok (.return_, 1) := by decide +kernel
theorem dX5_cell_0 : decode cX5_cell 0 = .ok (.iload_n 1, 1) := by decide +kernel
theorem dX5_cell_1 : decode cX5_cell 1 = .ok (.ifCond .lt 23, 3) := by decide +kernel
theorem dX5_cell_4 : decode cX5_cell 4 = .ok (.iload_n 1, 1) := by decide +kernel
theorem dX5_cell_5 : decode cX5_cell 5 = .ok (.aload_n 0, 1) := by decide +kernel
theorem dX5_cell_6 : decode cX5_cell 6 = .ok (.getfield 20, 3) := by decide +kernel
theorem dX5_cell_9 : decode cX5_cell 9 = .ok (.if_icmp .ge 15, 3) := by decide +kernel
theorem dX5_cell_12 : decode cX5_cell 12 = .ok (.iload_n 2, 1) := by decide +kernel
theorem dX5_cell_13 : decode cX5_cell 13 = .ok (.ifCond .lt 11, 3) := by decide +kernel
theorem dX5_cell_16 : decode cX5_cell 16 = .ok (.iload_n 2, 1) := by decide +kernel
theorem dX5_cell_17 : decode cX5_cell 17 = .ok (.aload_n 0, 1) := by decide +kernel
theorem dX5_cell_18 : decode cX5_cell 18 = .ok (.getfield 13, 3) := by decide +kernel
theorem dX5_cell_21 : decode cX5_cell 21 = .ok (.if_icmp .lt 5, 3) := by decide +kernel
theorem dX5_cell_24 : decode cX5_cell 24 = .ok (.iconst 0, 1) := by decide +kernel
theorem dX5_cell_25 : decode cX5_cell 25 = .ok (.ireturn, 1) := by decide +kernel
theorem dX5_cell_26 : decode cX5_cell 26 = .ok (.aload_n 0, 1) := by decide +kernel
theorem dX5_cell_27 : decode cX5_cell 27 = .ok (.getfield 16, 3) := by decide +kernel
theorem dX5_cell_30 : decode cX5_cell 30 = .ok (.iload_n 1, 1) := by decide +kernel
theorem dX5_cell_31 : decode cX5_cell 31 = .ok (.aload_n 0, 1) := by decide +kernel
theorem dX5_cell_32 : decode cX5_cell 32 = .ok (.getfield 13, 3) := by decide +kernel
theorem dX5_cell_35 : decode cX5_cell 35 = .ok (.imul, 1) := by decide +kernel
theorem dX5_cell_36 : decode cX5_cell 36 = .ok (.iload_n 2, 1) := by decide +kernel
theorem dX5_cell_37 : decode cX5_cell 37 = .ok (.iadd, 1) := by decide +kernel
theorem dX5_cell_38 : decode cX5_cell 38 = .ok (.iaload, 1) := by decide +kernel
theorem dX5_cell_39 : decode cX5_cell 39 = .ok (.ireturn, 1) := by decide +kernel
theorem dX5_empty_0 : decode cX5_empty 0 = .ok (.aload_n 0, 1) := by decide +kernel
theorem dX5_empty_1 : decode cX5_empty 1 = .ok (.getfield 20, 3) := by decide +kernel
theorem dX5_empty_4 : decode cX5_empty 4 = .ok (.istore_n 1, 1) := by decide +kernel
theorem dX5_empty_5 : decode cX5_empty 5 = .ok (.aload_n 0, 1) := by decide +kernel
theorem dX5_empty_6 : decode cX5_empty 6 = .ok (.iconst 0, 1) := by decide +kernel
theorem dX5_empty_7 : decode cX5_empty 7 = .ok (.putfield 20, 3) := by decide +kernel
theorem dX5_empty_10 : decode cX5_empty 10 = .ok (.iload_n 1, 1) := by decide +kernel
theorem dX5_empty_11 : decode cX5_empty 11 = .ok (.ireturn, 1) := by decide +kernel
theorem dX5_copyFrom_0 : decode cX5_copyFrom 0 = .ok (.aload_n 0, 1) := by decide +kernel
theorem dX5_copyFrom_1 : decode cX5_copyFrom 1 = .ok (.aload_n 1, 1) := by decide +kernel
theorem dX5_copyFrom_2 : decode cX5_copyFrom 2 = .ok (.getfield 20, 3) := by decide +kernel
theorem dX5_copyFrom_5 : decode cX5_copyFrom 5 = .ok (.putfield 20, 3) := by decide +kernel
theorem dX5_copyFrom_8 : decode cX5_copyFrom 8 = .ok (.aload_n 1, 1) := by decide +kernel
theorem dX5_copyFrom_9 : decode cX5_copyFrom 9 = .ok (.getfield 16, 3) := by decide +kernel
theorem dX5_copyFrom_12 : decode cX5_copyFrom 12 = .ok (.iconst 0, 1) := by decide +kernel
theorem dX5_copyFrom_13 : decode cX5_copyFrom 13 = .ok (.aload_n 0, 1) := by decide +kernel
theorem dX5_copyFrom_14 : decode cX5_copyFrom 14 = .ok (.getfield 16, 3) := by decide +kernel
theorem dX5_copyFrom_17 : decode cX5_copyFrom 17 = .ok (.iconst 0, 1) := by decide +kernel
theorem dX5_copyFrom_18 : decode cX5_copyFrom 18 = .ok (.aload_n 0, 1) := by decide +kernel
theorem dX5_copyFrom_19 : decode cX5_copyFrom 19 = .ok (.getfield 16, 3) := by decide +kernel
theorem dX5_copyFrom_22 : decode cX5_copyFrom 22 = .ok (.arraylength, 1) := by decide +kernel
theorem dX5_copyFrom_23 : decode cX5_copyFrom 23 = .ok (.aload_n 1, 1) := by decide +kernel
theorem dX5_copyFrom_24 : decode cX5_copyFrom 24 = .ok (.getfield 16, 3) := by decide +kernel
theorem dX5_copyFrom_27 : decode cX5_copyFrom 27 = .ok (.arraylength, 1) := by decide +kernel
theorem dX5_copyFrom_28 : decode cX5_copyFrom 28 = .ok (.invokestatic 31, 3) := by decide +kernel
theorem dX5_copyFrom_31 : decode cX5_copyFrom 31 = .ok (.invokestatic 37, 3) := by decide +kernel
theorem dX5_copyFrom_34 : decode cX5_copyFrom 34 = .ok (.return_, 1) := by decide +kernel
theorem dX6_init_0 : decode cX6_init 0 = .ok (.aload_n 0, 1) := by decide +kernel
theorem dX6_init_1 : decode cX6_init 1 = .ok (.invokespecial 3, 3) := by decide +kernel
theorem dX6_init_4 : decode cX6_init 4 = .ok (.aload_n 0, 1) := by decide +kernel
theorem dX6_init_5 : decode cX6_init 5 = .ok (.bipush 16, 2) := by decide +kernel
theorem dX6_init_7 : decode cX6_init 7 = .ok (.newarray .int, 2) := by decide +kernel
theorem dX6_init_9 : decode cX6_init 9 = .ok (.putfield 9, 3) := by decide +kernel
theorem dX6_init_12 : decode cX6_init 12 = .ok (.aload_n 0, 1) := by decide +kernel
theorem dX6_init_13 : decode cX6_init 13 = .ok (.iconst 2, 1) := by decide +kernel
theorem dX6_init_14 : decode cX6_init 14 = .ok (.newarray .int, 2) := by decide +kernel
theorem dX6_init_16 : decode cX6_init 16 = .ok (.putfield 15, 3) := by decide +kernel
theorem dX6_init_19 : decode cX6_init 19 = .ok (.aload_n 0, 1) := by decide +kernel
theorem dX6_init_20 : decode cX6_init 20 = .ok (.bipush 12, 2) := by decide +kernel
theorem dX6_init_22 : decode cX6_init 22 = .ok (.newarray .int, 2) := by decide +kernel
theorem dX6_init_24 : decode cX6_init 24 = .ok (.putfield 18, 3) := by decide +kernel
theorem dX6_init_27 : decode cX6_init 27 = .ok (.aload_n 0, 1) := by decide +kernel
theorem dX6_init_28 : decode cX6_init 28 = .ok (.bipush 8, 2) := by decide +kernel
theorem dX6_init_30 : decode cX6_init 30 = .ok (.newarray .int, 2) := by decide +kernel
theorem dX6_init_32 : decode cX6_init 32 = .ok (.putfield 21, 3) := by decide +kernel
theorem dX6_init_35 : decode cX6_init 35 = .ok (.aload_n 0, 1) := by decide +kernel
theorem dX6_init_36 : decode cX6_init 36 = .ok (.bipush 16, 2) := by decide +kernel
theorem dX6_init_38 : decode cX6_init 38 = .ok (.newarray .int, 2) := by decide +kernel
theorem dX6_init_40 : decode cX6_init 40 = .ok (.putfield 24, 3) := by decide +kernel
theorem dX6_init_43 : decode cX6_init 43 = .ok (.aload_n 0, 1) := by decide +kernel
theorem dX6_init_44 : decode cX6_init 44 = .ok (.aload_n 1, 1) := by decide +kernel
theorem dX6_init_45 : decode cX6_init 45 = .ok (.putfield 27, 3) := by decide +kernel
theorem dX6_init_48 : decode cX6_init 48 = .ok (.aload_n 0, 1) := by decide +kernel
theorem dX6_init_49 : decode cX6_init 49 = .ok (.aload_n 2, 1) := by decide +kernel
theorem dX6_init_50 : decode cX6_init 50 = .ok (.putfield 31, 3) := by decide +kernel
theorem dX6_init_53 : decode cX6_init 53 = .ok (.return_, 1) := by decide +kernel
theorem dX6_runMonths_0 : decode cX6_runMonths 0 = .ok (.aload_n 0, 1) := by decide +kernel
theorem dX6_runMonths_1 : decode cX6_runMonths 1 = .ok (.invokevirtual 35, 3) := by decide +kernel
theorem dX6_runMonths_4 : decode cX6_runMonths 4 = .ok (.iconst 0, 1) := by decide +kernel
theorem dX6_runMonths_5 : decode cX6_runMonths 5 = .ok (.istore_n 2, 1) := by decide +kernel
theorem dX6_runMonths_6 : decode cX6_runMonths 6 = .ok (.iload_n 2, 1) := by decide +kernel
theorem dX6_runMonths_7 : decode cX6_runMonths 7 = .ok (.iload_n 1, 1) := by decide +kernel
theorem dX6_runMonths_8 : decode cX6_runMonths 8 = .ok (.if_icmp .ge 14, 3) := by decide +kernel
theorem dX6_runMonths_11 : decode cX6_runMonths 11 = .ok (.aload_n 0, 1) := by decide +kernel
theorem dX6_runMonths_12 : decode cX6_runMonths 12 = .ok (.iload_n 2, 1) := by decide +kernel
theorem dX6_runMonths_13 : decode cX6_runMonths 13 = .ok (.invokevirtual 38, 3) := by decide +kernel
theorem dX6_runMonths_16 : decode cX6_runMonths 16 = .ok (.iinc 2 1, 3) := by decide +kernel
theorem dX6_runMonths_19 : decode cX6_runMonths 19 = .ok (.goto (-13), 3) := by decide +kernel
theorem dX6_runMonths_22 : decode cX6_runMonths 22 = .ok (.return_, 1) := by decide +kernel
theorem dX6_start_0 : decode cX6_start 0 = .ok (.iconst 0, 1) := by decide +kernel
theorem dX6_start_1 : decode cX6_start 1 = .ok (.istore_n 1, 1) := by decide +kernel
theorem dX6_start_2 : decode cX6_start 2 = .ok (.iload_n 1, 1) := by decide +kernel
theorem dX6_start_3 : decode cX6_start 3 = .ok (.bipush 16, 2) := by decide +kernel
theorem dX6_start_5 : decode cX6_start 5 = .ok (.if_icmp .ge 32, 3) := by decide +kernel
theorem dX6_start_8 : decode cX6_start 8 = .ok (.aload_n 0, 1) := by decide +kernel
theorem dX6_start_9 : decode cX6_start 9 = .ok (.getfield 9, 3) := by decide +kernel
theorem dX6_start_12 : decode cX6_start 12 = .ok (.iload_n 1, 1) := by decide +kernel
theorem dX6_start_13 : decode cX6_start 13 = .ok (.aload_n 0, 1) := by decide +kernel
theorem dX6_start_14 : decode cX6_start 14 = .ok (.getfield 31, 3) := by decide +kernel
theorem dX6_start_17 : decode cX6_start 17 = .ok (.getfield 42, 3) := by decide +kernel
theorem dX6_start_20 : decode cX6_start 20 = .ok (.iload_n 1, 1) := by decide +kernel
theorem dX6_start_21 : decode cX6_start 21 = .ok (.iaload, 1) := by decide +kernel
theorem dX6_start_22 : decode cX6_start 22 = .ok (.iastore, 1) := by decide +kernel
theorem dX6_start_23 : decode cX6_start 23 = .ok (.aload_n 0, 1) := by decide +kernel
theorem dX6_start_24 : decode cX6_start 24 = .ok (.getfield 24, 3) := by decide +kernel
theorem dX6_start_27 : decode cX6_start 27 = .ok (.iload_n 1, 1) := by decide +kernel
theorem dX6_start_28 : decode cX6_start 28 = .ok (.bipush (-4), 2) := by decide +kernel
theorem dX6_start_30 : decode cX6_start 30 = .ok (.iastore, 1) := by decide +kernel
theorem dX6_start_31 : decode cX6_start 31 = .ok (.iinc 1 1, 3) := by decide +kernel
theorem dX6_start_34 : decode cX6_start 34 = .ok (.goto (-32), 3) := by decide +kernel
theorem dX6_start_37 : decode cX6_start 37 = .ok (.iconst 0, 1) := by decide +kernel
theorem dX6_start_38 : decode cX6_start 38 = .ok (.istore_n 1, 1) := by decide +kernel
theorem dX6_start_39 : decode cX6_start 39 = .ok (.iload_n 1, 1) := by decide +kernel
theorem dX6_start_40 : decode cX6_start 40 = .ok (.bipush 8, 2) := by decide +kernel
theorem dX6_start_42 : decode cX6_start 42 = .ok (.if_icmp .ge 17, 3) := by decide +kernel
theorem dX6_start_45 : decode cX6_start 45 = .ok (.aload_n 0, 1) := by decide +kernel
theorem dX6_start_46 : decode cX6_start 46 = .ok (.getfield 21, 3) := by decide +kernel
theorem dX6_start_49 : decode cX6_start 49 = .ok (.iload_n 1, 1) := by decide +kernel
theorem dX6_start_50 : decode cX6_start 50 = .ok (.bipush (-4), 2) := by decide +kernel
theorem dX6_start_52 : decode cX6_start 52 = .ok (.iastore, 1) := by decide +kernel
theorem dX6_start_53 : decode cX6_start 53 = .ok (.iinc 1 1, 3) := by decide +kernel
theorem dX6_start_56 : decode cX6_start 56 = .ok (.goto (-17), 3) := by decide +kernel
theorem dX6_start_59 : decode cX6_start 59 = .ok (.iconst 0, 1) := by decide +kernel
theorem dX6_start_60 : decode cX6_start 60 = .ok (.istore_n 1, 1) := by decide +kernel
theorem dX6_start_61 : decode cX6_start 61 = .ok (.iload_n 1, 1) := by decide +kernel
theorem dX6_start_62 : decode cX6_start 62 = .ok (.iconst 2, 1) := by decide +kernel
theorem dX6_start_63 : decode cX6_start 63 = .ok (.if_icmp .ge 16, 3) := by decide +kernel
theorem dX6_start_66 : decode cX6_start 66 = .ok (.aload_n 0, 1) := by decide +kernel
theorem dX6_start_67 : decode cX6_start 67 = .ok (.getfield 15, 3) := by decide +kernel
theorem dX6_start_70 : decode cX6_start 70 = .ok (.iload_n 1, 1) := by decide +kernel
theorem dX6_start_71 : decode cX6_start 71 = .ok (.iconst 0, 1) := by decide +kernel
theorem dX6_start_72 : decode cX6_start 72 = .ok (.iastore, 1) := by decide +kernel
theorem dX6_start_73 : decode cX6_start 73 = .ok (.iinc 1 1, 3) := by decide +kernel
theorem dX6_start_76 : decode cX6_start 76 = .ok (.goto (-15), 3) := by decide +kernel
theorem dX6_start_79 : decode cX6_start 79 = .ok (.return_, 1) := by decide +kernel
theorem dX6_runMonth_0 : decode cX6_runMonth 0 = .ok (.aload_n 0, 1) := by decide +kernel
theorem dX6_runMonth_1 : decode cX6_runMonth 1 = .ok (.getfield 31, 3) := by decide +kernel
theorem dX6_runMonth_4 : decode cX6_runMonth 4 = .ok (.getfield 45, 3) := by decide +kernel
theorem dX6_runMonth_7 : decode cX6_runMonth 7 = .ok (.astore_n 2, 1) := by decide +kernel
theorem dX6_runMonth_8 : decode cX6_runMonth 8 = .ok (.iconst 0, 1) := by decide +kernel
theorem dX6_runMonth_9 : decode cX6_runMonth 9 = .ok (.istore_n 3, 1) := by decide +kernel
theorem dX6_runMonth_10 : decode cX6_runMonth 10 = .ok (.iload_n 3, 1) := by decide +kernel
theorem dX6_runMonth_11 : decode cX6_runMonth 11 = .ok (.aload_n 2, 1) := by decide +kernel
theorem dX6_runMonth_12 : decode cX6_runMonth 12 = .ok (.getfield 49, 3) := by decide +kernel
theorem dX6_runMonth_15 : decode cX6_runMonth 15 = .ok (.if_icmp .ge 54, 3) := by decide +kernel
theorem dX6_runMonth_18 : decode cX6_runMonth 18 = .ok (.iload_n 3, 1) := by decide +kernel
theorem dX6_runMonth_19 : decode cX6_runMonth 19 = .ok (.bipush 12, 2) := by decide +kernel
theorem dX6_runMonth_21 : decode cX6_runMonth 21 = .ok (.if_icmp .ge 48, 3) := by decide +kernel
theorem dX6_runMonth_24 : decode cX6_runMonth 24 = .ok (.aload_n 2, 1) := by decide +kernel
theorem dX6_runMonth_25 : decode cX6_runMonth 25 = .ok (.iload_n 3, 1) := by decide +kernel
theorem dX6_runMonth_26 : decode cX6_runMonth 26 = .ok (.iconst 0, 1) := by decide +kernel
theorem dX6_runMonth_27 : decode cX6_runMonth 27 = .ok (.invokevirtual 55, 3) := by decide +kernel
theorem dX6_runMonth_30 : decode cX6_runMonth 30 = .ok (.iload_n 1, 1) := by decide +kernel
theorem dX6_runMonth_31 : decode cX6_runMonth 31 = .ok (.if_icmp .ne 32, 3) := by decide +kernel
theorem dX6_runMonth_34 : decode cX6_runMonth 34 = .ok (.aload_n 0, 1) := by decide +kernel
theorem dX6_runMonth_35 : decode cX6_runMonth 35 = .ok (.getfield 18, 3) := by decide +kernel
theorem dX6_runMonth_38 : decode cX6_runMonth 38 = .ok (.iload_n 3, 1) := by decide +kernel
theorem dX6_runMonth_39 : decode cX6_runMonth 39 = .ok (.aload_n 0, 1) := by decide +kernel
theorem dX6_runMonth_40 : decode cX6_runMonth 40 = .ok (.iload_n 1, 1) := by decide +kernel
theorem dX6_runMonth_41 : decode cX6_runMonth 41 = .ok (.aload_n 2, 1) := by decide +kernel
theorem dX6_runMonth_42 : decode cX6_runMonth 42 = .ok (.iload_n 3, 1) := by decide +kernel
theorem dX6_runMonth_43 : decode cX6_runMonth 43 = .ok (.iconst 1, 1) := by decide +kernel
theorem dX6_runMonth_44 : decode cX6_runMonth 44 = .ok (.invokevirtual 55, 3) := by decide +kernel
theorem dX6_runMonth_47 : decode cX6_runMonth 47 = .ok (.aload_n 2, 1) := by decide +kernel
theorem dX6_runMonth_48 : decode cX6_runMonth 48 = .ok (.iload_n 3, 1) := by decide +kernel
theorem dX6_runMonth_49 : decode cX6_runMonth 49 = .ok (.iconst 2, 1) := by decide +kernel
theorem dX6_runMonth_50 : decode cX6_runMonth 50 = .ok (.invokevirtual 55, 3) := by decide +kernel
theorem dX6_runMonth_53 : decode cX6_runMonth 53 = .ok (.aload_n 2, 1) := by decide +kernel
theorem dX6_runMonth_54 : decode cX6_runMonth 54 = .ok (.iload_n 3, 1) := by decide +kernel
theorem dX6_runMonth_55 : decode cX6_runMonth 55 = .ok (.iconst 3, 1) := by decide +kernel
theorem dX6_runMonth_56 : decode cX6_runMonth 56 = .ok (.invokevirtual 55, 3) := by decide +kernel
theorem dX6_runMonth_59 : decode cX6_runMonth 59 = .ok (.invokevirtual 59, 3) := by decide +kernel
theorem dX6_runMonth_62 : decode cX6_runMonth 62 = .ok (.iastore, 1) := by decide +kernel
theorem dX6_runMonth_63 : decode cX6_runMonth 63 = .ok (.iinc 3 1, 3) := by decide +kernel
theorem dX6_runMonth_66 : decode cX6_runMonth 66 = .ok (.goto (-56), 3) := by decide +kernel
theorem dX6_runMonth_69 : decode cX6_runMonth 69 = .ok (.iconst 0, 1) := by decide +kernel
theorem dX6_runMonth_70 : decode cX6_runMonth 70 = .ok (.istore_n 3, 1) := by decide +kernel
theorem dX6_runMonth_71 : decode cX6_runMonth 71 = .ok (.iload_n 3, 1) := by decide +kernel
theorem dX6_runMonth_72 : decode cX6_runMonth 72 = .ok (.aload_n 0, 1) := by decide +kernel
theorem dX6_runMonth_73 : decode cX6_runMonth 73 = .ok (.getfield 27, 3) := by decide +kernel
theorem dX6_runMonth_76 : decode cX6_runMonth 76 = .ok (.getfield 63, 3) := by decide +kernel
theorem dX6_runMonth_79 : decode cX6_runMonth 79 = .ok (.if_icmp .ge 15, 3) := by decide +kernel
theorem dX6_runMonth_82 : decode cX6_runMonth 82 = .ok (.aload_n 0, 1) := by decide +kernel
theorem dX6_runMonth_83 : decode cX6_runMonth 83 = .ok (.iload_n 1, 1) := by decide +kernel
theorem dX6_runMonth_84 : decode cX6_runMonth 84 = .ok (.iload_n 3, 1) := by decide +kernel
theorem dX6_runMonth_85 : decode cX6_runMonth 85 = .ok (.invokevirtual 68, 3) := by decide +kernel
theorem dX6_runMonth_88 : decode cX6_runMonth 88 = .ok (.iinc 3 1, 3) := by decide +kernel
theorem dX6_runMonth_91 : decode cX6_runMonth 91 = .ok (.goto (-20), 3) := by decide +kernel
theorem dX6_runMonth_94 : decode cX6_runMonth 94 = .ok (.return_, 1) := by decide +kernel
theorem dX6_tryWork_0 : decode cX6_tryWork 0 = .ok (.aload_n 0, 1) := by decide +kernel
theorem dX6_tryWork_1 : decode cX6_tryWork 1 = .ok (.getfield 27, 3) := by decide +kernel
theorem dX6_tryWork_4 : decode cX6_tryWork 4 = .ok (.iload_n 2, 1) := by decide +kernel
theorem dX6_tryWork_5 : decode cX6_tryWork 5 = .ok (.iload_n 3, 1) := by decide +kernel
theorem dX6_tryWork_6 : decode cX6_tryWork 6 = .ok (.invokevirtual 72, 3) := by decide +kernel
theorem dX6_tryWork_9 : decode cX6_tryWork 9 = .ok (.ifCond .eq 20, 3) := by decide +kernel
theorem dX6_tryWork_12 : decode cX6_tryWork 12 = .ok (.aload_n 0, 1) := by decide +kernel
theorem dX6_tryWork_13 : decode cX6_tryWork 13 = .ok (.getfield 27, 3) := by decide +kernel
theorem dX6_tryWork_16 : decode cX6_tryWork 16 = .ok (.iload_n 2, 1) := by decide +kernel
theorem dX6_tryWork_17 : decode cX6_tryWork 17 = .ok (.iload_n 3, 1) := by decide +kernel
theorem dX6_tryWork_18 : decode cX6_tryWork 18 = .ok (.iload 4, 2) := by decide +kernel
theorem dX6_tryWork_20 : decode cX6_tryWork 20 = .ok (.bipush 7, 2) := by decide +kernel
theorem dX6_tryWork_22 : decode cX6_tryWork 22 = .ok (.iand, 1) := by decide +kernel
theorem dX6_tryWork_23 : decode cX6_tryWork 23 = .ok (.invokevirtual 76, 3) := by decide +kernel
theorem dX6_tryWork_26 : decode cX6_tryWork 26 = .ok (.ifCond .ne 5, 3) := by decide +kernel
theorem dX6_tryWork_29 : decode cX6_tryWork 29 = .ok (.iconst 2, 1) := by decide +kernel
theorem dX6_tryWork_30 : decode cX6_tryWork 30 = .ok (.ireturn, 1) := by decide +kernel
theorem dX6_tryWork_31 : decode cX6_tryWork 31 = .ok (.aload_n 0, 1) := by decide +kernel
theorem dX6_tryWork_32 : decode cX6_tryWork 32 = .ok (.getfield 27, 3) := by decide +kernel
theorem dX6_tryWork_35 : decode cX6_tryWork 35 = .ok (.iload_n 2, 1) := by decide +kernel
theorem dX6_tryWork_36 : decode cX6_tryWork 36 = .ok (.iload_n 3, 1) := by decide +kernel
theorem dX6_tryWork_37 : decode cX6_tryWork 37 = .ok (.invokevirtual 80, 3) := by decide +kernel
theorem dX6_tryWork_40 : decode cX6_tryWork 40 = .ok (.istore 5, 2) := by decide +kernel
theorem dX6_tryWork_42 : decode cX6_tryWork 42 = .ok (.iload 5, 2) := by decide +kernel
theorem dX6_tryWork_44 : decode cX6_tryWork 44 = .ok (.bipush (-4), 2) := by decide +kernel
theorem dX6_tryWork_46 : decode cX6_tryWork 46 = .ok (.if_icmp .eq 47, 3) := by decide +kernel
theorem dX6_tryWork_49 : decode cX6_tryWork 49 = .ok (.aload_n 0, 1) := by decide +kernel
theorem dX6_tryWork_50 : decode cX6_tryWork 50 = .ok (.getfield 24, 3) := by decide +kernel
theorem dX6_tryWork_53 : decode cX6_tryWork 53 = .ok (.iconst 1, 1) := by decide +kernel
theorem dX6_tryWork_54 : decode cX6_tryWork 54 = .ok (.iload_n 2, 1) := by decide +kernel
theorem dX6_tryWork_55 : decode cX6_tryWork 55 = .ok (.isub, 1) := by decide +kernel
theorem dX6_tryWork_56 : decode cX6_tryWork 56 = .ok (.iload 5, 2) := by decide +kernel
theorem dX6_tryWork_58 : decode cX6_tryWork 58 = .ok (.invokestatic 83, 3) := by decide +kernel
theorem dX6_tryWork_61 : decode cX6_tryWork 61 = .ok (.iaload, 1) := by decide +kernel
theorem dX6_tryWork_62 : decode cX6_tryWork 62 = .ok (.iload_n 1, 1) := by decide +kernel
theorem dX6_tryWork_63 : decode cX6_tryWork 63 = .ok (.if_icmp .ne 30, 3) := by decide +kernel
theorem dX6_tryWork_66 : decode cX6_tryWork 66 = .ok (.aload_n 0, 1) := by decide +kernel
theorem dX6_tryWork_67 : decode cX6_tryWork 67 = .ok (.getfield 27, 3) := by decide +kernel
theorem dX6_tryWork_70 : decode cX6_tryWork 70 = .ok (.iload 4, 2) := by decide +kernel
theorem dX6_tryWork_72 : decode cX6_tryWork 72 = .ok (.aload_n 0, 1) := by decide +kernel
theorem dX6_tryWork_73 : decode cX6_tryWork 73 = .ok (.getfield 9, 3) := by decide +kernel
theorem dX6_tryWork_76 : decode cX6_tryWork 76 = .ok (.iconst 1, 1) := by decide +kernel
theorem dX6_tryWork_77 : decode cX6_tryWork 77 = .ok (.iload_n 2, 1) := by decide +kernel
theorem dX6_tryWork_78 : decode cX6_tryWork 78 = .ok (.isub, 1) := by decide +kernel
theorem dX6_tryWork_79 : decode cX6_tryWork 79 = .ok (.iload 5, 2) := by decide +kernel
theorem dX6_tryWork_81 : decode cX6_tryWork 81 = .ok (.invokestatic 83, 3) := by decide +kernel
theorem dX6_tryWork_84 : decode cX6_tryWork 84 = .ok (.iaload, 1) := by decide +kernel
theorem dX6_tryWork_85 : decode cX6_tryWork 85 = .ok (.invokevirtual 86, 3) := by decide +kernel
theorem dX6_tryWork_88 : decode cX6_tryWork 88 = .ok (.ifCond .ne 5, 3) := by decide +kernel
theorem dX6_tryWork_91 : decode cX6_tryWork 91 = .ok (.iconst 1, 1) := by decide +kernel
theorem dX6_tryWork_92 : decode cX6_tryWork 92 = .ok (.ireturn, 1) := by decide +kernel
theorem dX6_tryWork_93 : decode cX6_tryWork 93 = .ok (.aload_n 0, 1) := by decide +kernel
theorem dX6_tryWork_94 : decode cX6_tryWork 94 = .ok (.iload_n 2, 1) := by decide +kernel
theorem dX6_tryWork_95 : decode cX6_tryWork 95 = .ok (.iload_n 3, 1) := by decide +kernel
theorem dX6_tryWork_96 : decode cX6_tryWork 96 = .ok (.iload 4, 2) := by decide +kernel
theorem dX6_tryWork_98 : decode cX6_tryWork 98 = .ok (.invokevirtual 89, 3) := by decide +kernel
theorem dX6_tryWork_101 : decode cX6_tryWork 101 = .ok (.aload_n 0, 1) := by decide +kernel
theorem dX6_tryWork_102 : decode cX6_tryWork 102 = .ok (.getfield 24, 3) := by decide +kernel
theorem dX6_tryWork_105 : decode cX6_tryWork 105 = .ok (.iload_n 2, 1) := by decide +kernel
theorem dX6_tryWork_106 : decode cX6_tryWork 106 = .ok (.iload_n 3, 1) := by decide +kernel
theorem dX6_tryWork_107 : decode cX6_tryWork 107 = .ok (.invokestatic 83, 3) := by decide +kernel
theorem dX6_tryWork_110 : decode cX6_tryWork 110 = .ok (.iload_n 1, 1) := by decide +kernel
theorem dX6_tryWork_111 : decode cX6_tryWork 111 = .ok (.iastore, 1) := by decide +kernel
theorem dX6_tryWork_112 : decode cX6_tryWork 112 = .ok (.iload 5, 2) := by decide +kernel
theorem dX6_tryWork_114 : decode cX6_tryWork 114 = .ok (.bipush (-4), 2) := by decide +kernel
theorem dX6_tryWork_116 : decode cX6_tryWork 116 = .ok (.if_icmp .eq 19, 3) := by decide +kernel
theorem dX6_tryWork_119 : decode cX6_tryWork 119 = .ok (.aload_n 0, 1) := by decide +kernel
theorem dX6_tryWork_120 : decode cX6_tryWork 120 = .ok (.getfield 21, 3) := by decide +kernel
theorem dX6_tryWork_123 : decode cX6_tryWork 123 = .ok (.iload_n 2, 1) := by decide +kernel
theorem dX6_tryWork_124 : decode cX6_tryWork 124 = .ok (.ifCond .ne 7, 3) := by decide +kernel
theorem dX6_tryWork_127 : decode cX6_tryWork 127 = .ok (.iload_n 3, 1) := by decide +kernel
theorem dX6_tryWork_128 : decode cX6_tryWork 128 = .ok (.goto 5, 3) := by decide +kernel
theorem dX6_tryWork_131 : decode cX6_tryWork 131 = .ok (.iload 5, 2) := by decide +kernel
theorem dX6_tryWork_133 : decode cX6_tryWork 133 = .ok (.iload_n 2, 1) := by decide +kernel
theorem dX6_tryWork_134 : decode cX6_tryWork 134 = .ok (.iastore, 1) := by decide +kernel
theorem dX6_tryWork_135 : decode cX6_tryWork 135 = .ok (.iconst 0, 1) := by decide +kernel
theorem dX6_tryWork_136 : decode cX6_tryWork 136 = .ok (.ireturn, 1) := by decide +kernel
theorem dX6_build_0 : decode cX6_build 0 = .ok (.aload_n 0, 1) := by decide +kernel
theorem dX6_build_1 : decode cX6_build 1 = .ok (.getfield 15, 3) := by decide +kernel
theorem dX6_build_4 : decode cX6_build 4 = .ok (.iload_n 1, 1) := by decide +kernel
theorem dX6_build_5 : decode cX6_build 5 = .ok (.dup2, 1) := by decide +kernel
theorem dX6_build_6 : decode cX6_build 6 = .ok (.iaload, 1) := by decide +kernel
theorem dX6_build_7 : decode cX6_build 7 = .ok (.aload_n 0, 1) := by decide +kernel
theorem dX6_build_8 : decode cX6_build 8 = .ok (.getfield 27, 3) := by decide +kernel
theorem dX6_build_11 : decode cX6_build 11 = .ok (.iload_n 1, 1) := by decide +kernel
theorem dX6_build_12 : decode cX6_build 12 = .ok (.iload_n 3, 1) := by decide +kernel
theorem dX6_build_13 : decode cX6_build 13 = .ok (.bipush 7, 2) := by decide +kernel
theorem dX6_build_15 : decode cX6_build 15 = .ok (.iand, 1) := by decide +kernel
theorem dX6_build_16 : decode cX6_build 16 = .ok (.invokevirtual 93, 3) := by decide +kernel
theorem dX6_build_19 : decode cX6_build 19 = .ok (.iadd, 1) := by decide +kernel
theorem dX6_build_20 : decode cX6_build 20 = .ok (.iastore, 1) := by decide +kernel
theorem dX6_build_21 : decode cX6_build 21 = .ok (.aload_n 0, 1) := by decide +kernel
theorem dX6_build_22 : decode cX6_build 22 = .ok (.getfield 9, 3) := by decide +kernel
theorem dX6_build_25 : decode cX6_build 25 = .ok (.iload_n 1, 1) := by decide +kernel
theorem dX6_build_26 : decode cX6_build 26 = .ok (.iload_n 2, 1) := by decide +kernel
theorem dX6_build_27 : decode cX6_build 27 = .ok (.invokestatic 83, 3) := by decide +kernel
theorem dX6_build_30 : decode cX6_build 30 = .ok (.iload_n 3, 1) := by decide +kernel
theorem dX6_build_31 : decode cX6_build 31 = .ok (.iastore, 1) := by decide +kernel
theorem dX6_build_32 : decode cX6_build 32 = .ok (.return_, 1) := by decide +kernel
theorem dX6_answer_0 : decode cX6_answer 0 = .ok (.aload_n 0, 1) := by decide +kernel
theorem dX6_answer_1 : decode cX6_answer 1 = .ok (.getfield 27, 3) := by decide +kernel
theorem dX6_answer_4 : decode cX6_answer 4 = .ok (.iconst 0, 1) := by decide +kernel
theorem dX6_answer_5 : decode cX6_answer 5 = .ok (.iload_n 2, 1) := by decide +kernel
theorem dX6_answer_6 : decode cX6_answer 6 = .ok (.invokevirtual 80, 3) := by decide +kernel
theorem dX6_answer_9 : decode cX6_answer 9 = .ok (.istore_n 3, 1) := by decide +kernel
theorem dX6_answer_10 : decode cX6_answer 10 = .ok (.iload_n 3, 1) := by decide +kernel
theorem dX6_answer_11 : decode cX6_answer 11 = .ok (.bipush (-4), 2) := by decide +kernel
theorem dX6_answer_13 : decode cX6_answer 13 = .ok (.if_icmp .eq 23, 3) := by decide +kernel
theorem dX6_answer_16 : decode cX6_answer 16 = .ok (.aload_n 0, 1) := by decide +kernel
theorem dX6_answer_17 : decode cX6_answer 17 = .ok (.getfield 21, 3) := by decide +kernel
theorem dX6_answer_20 : decode cX6_answer 20 = .ok (.iload_n 2, 1) := by decide +kernel
theorem dX6_answer_21 : decode cX6_answer 21 = .ok (.iaload, 1) := by decide +kernel
theorem dX6_answer_22 : decode cX6_answer 22 = .ok (.bipush (-4), 2) := by decide +kernel
theorem dX6_answer_24 : decode cX6_answer 24 = .ok (.if_icmp .eq 12, 3) := by decide +kernel
theorem dX6_answer_27 : decode cX6_answer 27 = .ok (.aload_n 0, 1) := by decide +kernel
theorem dX6_answer_28 : decode cX6_answer 28 = .ok (.iload_n 2, 1) := by decide +kernel
theorem dX6_answer_29 : decode cX6_answer 29 = .ok (.iload_n 3, 1) := by decide +kernel
theorem dX6_answer_30 : decode cX6_answer 30 = .ok (.invokevirtual 96, 3) := by decide +kernel
theorem dX6_answer_33 : decode cX6_answer 33 = .ok (.ifCond .eq 4, 3) := by decide +kernel
theorem dX6_answer_36 : decode cX6_answer 36 = .ok (.return_, 1) := by decide +kernel
theorem dX6_answer_37 : decode cX6_answer 37 = .ok (.aload_n 0, 1) := by decide +kernel
theorem dX6_answer_38 : decode cX6_answer 38 = .ok (.getfield 24, 3) := by decide +kernel
theorem dX6_answer_41 : decode cX6_answer 41 = .ok (.iconst 0, 1) := by decide +kernel
theorem dX6_answer_42 : decode cX6_answer 42 = .ok (.iload_n 2, 1) := by decide +kernel
theorem dX6_answer_43 : decode cX6_answer 43 = .ok (.invokestatic 83, 3) := by decide +kernel
theorem dX6_answer_46 : decode cX6_answer 46 = .ok (.iaload, 1) := by decide +kernel
theorem dX6_answer_47 : decode cX6_answer 47 = .ok (.iload_n 1, 1) := by decide +kernel
theorem dX6_answer_48 : decode cX6_answer 48 = .ok (.if_icmp .eq 17, 3) := by decide +kernel
theorem dX6_answer_51 : decode cX6_answer 51 = .ok (.aload_n 0, 1) := by decide +kernel
theorem dX6_answer_52 : decode cX6_answer 52 = .ok (.getfield 24, 3) := by decide +kernel
theorem dX6_answer_55 : decode cX6_answer 55 = .ok (.iconst 1, 1) := by decide +kernel
theorem dX6_answer_56 : decode cX6_answer 56 = .ok (.iload_n 3, 1) := by decide +kernel
theorem dX6_answer_57 : decode cX6_answer 57 = .ok (.invokestatic 83, 3) := by decide +kernel
theorem dX6_answer_60 : decode cX6_answer 60 = .ok (.iaload, 1) := by decide +kernel
theorem dX6_answer_61 : decode cX6_answer 61 = .ok (.iload_n 1, 1) := by decide +kernel
theorem dX6_answer_62 : decode cX6_answer 62 = .ok (.if_icmp .ne 4, 3) := by decide +kernel
theorem dX6_answer_65 : decode cX6_answer 65 = .ok (.return_, 1) := by decide +kernel
theorem dX6_answer_66 : decode cX6_answer 66 = .ok (.aload_n 0, 1) := by decide +kernel
theorem dX6_answer_67 : decode cX6_answer 67 = .ok (.getfield 21, 3) := by decide +kernel
theorem dX6_answer_70 : decode cX6_answer 70 = .ok (.iload_n 2, 1) := by decide +kernel
theorem dX6_answer_71 : decode cX6_answer 71 = .ok (.iaload, 1) := by decide +kernel
theorem dX6_answer_72 : decode cX6_answer 72 = .ok (.ifCond .ne 29, 3) := by decide +kernel
theorem dX6_answer_75 : decode cX6_answer 75 = .ok (.aload_n 0, 1) := by decide +kernel
theorem dX6_answer_76 : decode cX6_answer 76 = .ok (.iconst 1, 1) := by decide +kernel
theorem dX6_answer_77 : decode cX6_answer 77 = .ok (.iload_n 3, 1) := by decide +kernel
theorem dX6_answer_78 : decode cX6_answer 78 = .ok (.aload_n 0, 1) := by decide +kernel
theorem dX6_answer_79 : decode cX6_answer 79 = .ok (.getfield 27, 3) := by decide +kernel
theorem dX6_answer_82 : decode cX6_answer 82 = .ok (.aload_n 0, 1) := by decide +kernel
theorem dX6_answer_83 : decode cX6_answer 83 = .ok (.getfield 9, 3) := by decide +kernel
theorem dX6_answer_86 : decode cX6_answer 86 = .ok (.iconst 0, 1) := by decide +kernel
theorem dX6_answer_87 : decode cX6_answer 87 = .ok (.iload_n 2, 1) := by decide +kernel
theorem dX6_answer_88 : decode cX6_answer 88 = .ok (.invokestatic 83, 3) := by decide +kernel
theorem dX6_answer_91 : decode cX6_answer 91 = .ok (.iaload, 1) := by decide +kernel
theorem dX6_answer_92 : decode cX6_answer 92 = .ok (.invokevirtual 99, 3) := by decide +kernel
theorem dX6_answer_95 : decode cX6_answer 95 = .ok (.invokevirtual 89, 3) := by decide +kernel
theorem dX6_answer_98 : decode cX6_answer 98 = .ok (.goto 26, 3) := by decide +kernel
theorem dX6_answer_101 : decode cX6_answer 101 = .ok (.aload_n 0, 1) := by decide +kernel
theorem dX6_answer_102 : decode cX6_answer 102 = .ok (.iconst 0, 1) := by decide +kernel
theorem dX6_answer_103 : decode cX6_answer 103 = .ok (.iload_n 2, 1) := by decide +kernel
theorem dX6_answer_104 : decode cX6_answer 104 = .ok (.aload_n 0, 1) := by decide +kernel
theorem dX6_answer_105 : decode cX6_answer 105 = .ok (.getfield 27, 3) := by decide +kernel
theorem dX6_answer_108 : decode cX6_answer 108 = .ok (.aload_n 0, 1) := by decide +kernel
theorem dX6_answer_109 : decode cX6_answer 109 = .ok (.getfield 9, 3) := by decide +kernel
theorem dX6_answer_112 : decode cX6_answer 112 = .ok (.iconst 1, 1) := by decide +kernel
theorem dX6_answer_113 : decode cX6_answer 113 = .ok (.iload_n 3, 1) := by decide +kernel
theorem dX6_answer_114 : decode cX6_answer 114 = .ok (.invokestatic 83, 3) := by decide +kernel
theorem dX6_answer_117 : decode cX6_answer 117 = .ok (.iaload, 1) := by decide +kernel
theorem dX6_answer_118 : decode cX6_answer 118 = .ok (.invokevirtual 99, 3) := by decide +kernel
theorem dX6_answer_121 : decode cX6_answer 121 = .ok (.invokevirtual 89, 3) := by decide +kernel
theorem dX6_answer_124 : decode cX6_answer 124 = .ok (.return_, 1) := by decide +kernel
theorem dX6_isEvenPair_0 : decode cX6_isEvenPair 0 = .ok (.aload_n 0, 1) := by decide +kernel
theorem dX6_isEvenPair_1 : decode cX6_isEvenPair 1 = .ok (.getfield 27, 3) := by decide +kernel
theorem dX6_isEvenPair_4 : decode cX6_isEvenPair 4 = .ok (.aload_n 0, 1) := by decide +kernel
theorem dX6_isEvenPair_5 : decode cX6_isEvenPair 5 = .ok (.getfield 9, 3) := by decide +kernel
theorem dX6_isEvenPair_8 : decode cX6_isEvenPair 8 = .ok (.iconst 0, 1) := by decide +kernel
theorem dX6_isEvenPair_9 : decode cX6_isEvenPair 9 = .ok (.iload_n 1, 1) := by decide +kernel
theorem dX6_isEvenPair_10 : decode cX6_isEvenPair 10 = .ok (.invokestatic 83, 3) := by decide +kernel
theorem dX6_isEvenPair_13 : decode cX6_isEvenPair 13 = .ok (.iaload, 1) := by decide +kernel
theorem dX6_isEvenPair_14 : decode cX6_isEvenPair 14 = .ok (.invokevirtual 99, 3) := by decide +kernel
theorem dX6_isEvenPair_17 : decode cX6_isEvenPair 17 = .ok (.aload_n 0, 1) := by decide +kernel
theorem dX6_isEvenPair_18 : decode cX6_isEvenPair 18 = .ok (.getfield 9, 3) := by decide +kernel
theorem dX6_isEvenPair_21 : decode cX6_isEvenPair 21 = .ok (.iconst 1, 1) := by decide +kernel
theorem dX6_isEvenPair_22 : decode cX6_isEvenPair 22 = .ok (.iload_n 2, 1) := by decide +kernel
theorem dX6_isEvenPair_23 : decode cX6_isEvenPair 23 = .ok (.invokestatic 83, 3) := by decide +kernel
theorem dX6_isEvenPair_26 : decode cX6_isEvenPair 26 = .ok (.iaload, 1) := by decide +kernel
theorem dX6_isEvenPair_27 : decode cX6_isEvenPair 27 = .ok (.if_icmp .ne 7, 3) := by decide +kernel
theorem dX6_isEvenPair_30 : decode cX6_isEvenPair 30 = .ok (.iconst 1, 1) := by decide +kernel
theorem dX6_isEvenPair_31 : decode cX6_isEvenPair 31 = .ok (.goto 4, 3) := by decide +kernel
theorem dX6_isEvenPair_34 : decode cX6_isEvenPair 34 = .ok (.iconst 0, 1) := by decide +kernel
theorem dX6_isEvenPair_35 : decode cX6_isEvenPair 35 = .ok (.ireturn, 1) := by decide +kernel
theorem dX6_lotsOwedBy_0 : decode cX6_lotsOwedBy 0 = .ok (.iconst 0, 1) := by decide +kernel
theorem dX6_lotsOwedBy_1 : decode cX6_lotsOwedBy 1 = .ok (.istore_n 2, 1) := by decide +kernel
theorem dX6_lotsOwedBy_2 : decode cX6_lotsOwedBy 2 = .ok (.iconst 0, 1) := by decide +kernel
theorem dX6_lotsOwedBy_3 : decode cX6_lotsOwedBy 3 = .ok (.istore_n 3, 1) := by decide +kernel
theorem dX6_lotsOwedBy_4 : decode cX6_lotsOwedBy 4 = .ok (.iload_n 3, 1) := by decide +kernel
theorem dX6_lotsOwedBy_5 : decode cX6_lotsOwedBy 5 = .ok (.aload_n 0, 1) := by decide +kernel
theorem dX6_lotsOwedBy_6 : decode cX6_lotsOwedBy 6 = .ok (.getfield 27, 3) := by decide +kernel
theorem dX6_lotsOwedBy_9 : decode cX6_lotsOwedBy 9 = .ok (.getfield 63, 3) := by decide +kernel
theorem dX6_lotsOwedBy_12 : decode cX6_lotsOwedBy 12 = .ok (.if_icmp .ge 64, 3) := by decide +kernel
theorem dX6_lotsOwedBy_15 : decode cX6_lotsOwedBy 15 = .ok (.aload_n 0, 1) := by decide +kernel
theorem dX6_lotsOwedBy_16 : decode cX6_lotsOwedBy 16 = .ok (.getfield 27, 3) := by decide +kernel
theorem dX6_lotsOwedBy_19 : decode cX6_lotsOwedBy 19 = .ok (.iconst 0, 1) := by decide +kernel
theorem dX6_lotsOwedBy_20 : decode cX6_lotsOwedBy 20 = .ok (.iload_n 3, 1) := by decide +kernel
theorem dX6_lotsOwedBy_21 : decode cX6_lotsOwedBy 21 = .ok (.invokevirtual 80, 3) := by decide +kernel
theorem dX6_lotsOwedBy_24 : decode cX6_lotsOwedBy 24 = .ok (.istore 4, 2) := by decide +kernel
theorem dX6_lotsOwedBy_26 : decode cX6_lotsOwedBy 26 = .ok (.iload 4, 2) := by decide +kernel
theorem dX6_lotsOwedBy_28 : decode cX6_lotsOwedBy 28 = .ok (.bipush (-4), 2) := by decide +kernel
theorem dX6_lotsOwedBy_30 : decode cX6_lotsOwedBy 30 = .ok (.if_icmp .eq 40, 3) := by decide +kernel
theorem dX6_lotsOwedBy_33 : decode cX6_lotsOwedBy 33 = .ok (.aload_n 0, 1) := by decide +kernel
theorem dX6_lotsOwedBy_34 : decode cX6_lotsOwedBy 34 = .ok (.getfield 21, 3) := by decide +kernel
theorem dX6_lotsOwedBy_37 : decode cX6_lotsOwedBy 37 = .ok (.iload_n 3, 1) := by decide +kernel
theorem dX6_lotsOwedBy_38 : decode cX6_lotsOwedBy 38 = .ok (.iaload, 1) := by decide +kernel
theorem dX6_lotsOwedBy_39 : decode cX6_lotsOwedBy 39 = .ok (.iconst 1, 1) := by decide +kernel
theorem dX6_lotsOwedBy_40 : decode cX6_lotsOwedBy 40 = .ok (.iload_n 1, 1) := by decide +kernel
theorem dX6_lotsOwedBy_41 : decode cX6_lotsOwedBy 41 = .ok (.isub, 1) := by decide +kernel
theorem dX6_lotsOwedBy_42 : decode cX6_lotsOwedBy 42 = .ok (.if_icmp .ne 28, 3) := by decide +kernel
theorem dX6_lotsOwedBy_45 : decode cX6_lotsOwedBy 45 = .ok (.aload_n 0, 1) := by decide +kernel
theorem dX6_lotsOwedBy_46 : decode cX6_lotsOwedBy 46 = .ok (.iload_n 3, 1) := by decide +kernel
theorem dX6_lotsOwedBy_47 : decode cX6_lotsOwedBy 47 = .ok (.iload 4, 2) := by decide +kernel
theorem dX6_lotsOwedBy_49 : decode cX6_lotsOwedBy 49 = .ok (.invokevirtual 96, 3) := by decide +kernel
theorem dX6_lotsOwedBy_52 : decode cX6_lotsOwedBy 52 = .ok (.ifCond .ne 18, 3) := by decide +kernel
theorem dX6_lotsOwedBy_55 : decode cX6_lotsOwedBy 55 = .ok (.iload_n 2, 1) := by decide +kernel
theorem dX6_lotsOwedBy_56 : decode cX6_lotsOwedBy 56 = .ok (.iconst 1, 1) := by decide +kernel
theorem dX6_lotsOwedBy_57 : decode cX6_lotsOwedBy 57 = .ok (.iload_n 1, 1) := by decide +kernel
theorem dX6_lotsOwedBy_58 : decode cX6_lotsOwedBy 58 = .ok (.ifCond .ne 7, 3) := by decide +kernel
theorem dX6_lotsOwedBy_61 : decode cX6_lotsOwedBy 61 = .ok (.iload_n 3, 1) := by decide +kernel
theorem dX6_lotsOwedBy_62 : decode cX6_lotsOwedBy 62 = .ok (.goto 5, 3) := by decide +kernel
theorem dX6_lotsOwedBy_65 : decode cX6_lotsOwedBy 65 = .ok (.iload 4, 2) := by decide +kernel
theorem dX6_lotsOwedBy_67 : decode cX6_lotsOwedBy 67 = .ok (.ishl, 1) := by decide +kernel
theorem dX6_lotsOwedBy_68 : decode cX6_lotsOwedBy 68 = .ok (.ior, 1) := by decide +kernel
theorem dX6_lotsOwedBy_69 : decode cX6_lotsOwedBy 69 = .ok (.istore_n 2, 1) := by decide +kernel
theorem dX6_lotsOwedBy_70 : decode cX6_lotsOwedBy 70 = .ok (.iinc 3 1, 3) := by decide +kernel
theorem dX6_lotsOwedBy_73 : decode cX6_lotsOwedBy 73 = .ok (.goto (-69), 3) := by decide +kernel
theorem dX6_lotsOwedBy_76 : decode cX6_lotsOwedBy 76 = .ok (.iload_n 2, 1) := by decide +kernel
theorem dX6_lotsOwedBy_77 : decode cX6_lotsOwedBy 77 = .ok (.ireturn, 1) := by decide +kernel
theorem dX6_worksDone_0 : decode cX6_worksDone 0 = .ok (.iconst 0, 1) := by decide +kernel
theorem dX6_worksDone_1 : decode cX6_worksDone 1 = .ok (.istore_n 1, 1) := by decide +kernel
theorem dX6_worksDone_2 : decode cX6_worksDone 2 = .ok (.iconst 0, 1) := by decide +kernel
theorem dX6_worksDone_3 : decode cX6_worksDone 3 = .ok (.istore_n 2, 1) := by decide +kernel
theorem dX6_worksDone_4 : decode cX6_worksDone 4 = .ok (.iload_n 2, 1) := by decide +kernel
theorem dX6_worksDone_5 : decode cX6_worksDone 5 = .ok (.aload_n 0, 1) := by decide +kernel
theorem dX6_worksDone_6 : decode cX6_worksDone 6 = .ok (.getfield 31, 3) := by decide +kernel
theorem dX6_worksDone_9 : decode cX6_worksDone 9 = .ok (.getfield 45, 3) := by decide +kernel
theorem dX6_worksDone_12 : decode cX6_worksDone 12 = .ok (.getfield 49, 3) := by decide +kernel
theorem dX6_worksDone_15 : decode cX6_worksDone 15 = .ok (.if_icmp .ge 32, 3) := by decide +kernel
theorem dX6_worksDone_18 : decode cX6_worksDone 18 = .ok (.iload_n 2, 1) := by decide +kernel
theorem dX6_worksDone_19 : decode cX6_worksDone 19 = .ok (.bipush 12, 2) := by decide +kernel
theorem dX6_worksDone_21 : decode cX6_worksDone 21 = .ok (.if_icmp .ge 26, 3) := by decide +kernel
theorem dX6_worksDone_24 : decode cX6_worksDone 24 = .ok (.iload_n 1, 1) := by decide +kernel
theorem dX6_worksDone_25 : decode cX6_worksDone 25 = .ok (.aload_n 0, 1) := by decide +kernel
theorem dX6_worksDone_26 : decode cX6_worksDone 26 = .ok (.getfield 18, 3) := by decide +kernel
theorem dX6_worksDone_29 : decode cX6_worksDone 29 = .ok (.iload_n 2, 1) := by decide +kernel
theorem dX6_worksDone_30 : decode cX6_worksDone 30 = .ok (.iaload, 1) := by decide +kernel
theorem dX6_worksDone_31 : decode cX6_worksDone 31 = .ok (.ifCond .ne 7, 3) := by decide +kernel
theorem dX6_worksDone_34 : decode cX6_worksDone 34 = .ok (.iconst 1, 1) := by decide +kernel
theorem dX6_worksDone_35 : decode cX6_worksDone 35 = .ok (.goto 4, 3) := by decide +kernel
theorem dX6_worksDone_38 : decode cX6_worksDone 38 = .ok (.iconst 0, 1) := by decide +kernel
theorem dX6_worksDone_39 : decode cX6_worksDone 39 = .ok (.iadd, 1) := by decide +kernel
theorem dX6_worksDone_40 : decode cX6_worksDone 40 = .ok (.istore_n 1, 1) := by decide +kernel
theorem dX6_worksDone_41 : decode cX6_worksDone 41 = .ok (.iinc 2 1, 3) := by decide +kernel
theorem dX6_worksDone_44 : decode cX6_worksDone 44 = .ok (.goto (-40), 3) := by decide +kernel
theorem dX6_worksDone_47 : decode cX6_worksDone 47 = .ok (.iload_n 1, 1) := by decide +kernel
theorem dX6_worksDone_48 : decode cX6_worksDone 48 = .ok (.ireturn, 1) := by decide +kernel
theorem dX7_init_0 : decode cX7_init 0 = .ok (.aload_n 0, 1) := by decide +kernel
theorem dX7_init_1 : decode cX7_init 1 = .ok (.invokespecial 3, 3) := by decide +kernel
theorem dX7_init_4 : decode cX7_init 4 = .ok (.aload_n 0, 1) := by decide +kernel
theorem dX7_init_5 : decode cX7_init 5 = .ok (.bipush 16, 2) := by decide +kernel
theorem dX7_init_7 : decode cX7_init 7 = .ok (.newarray .int, 2) := by decide +kernel
theorem dX7_init_9 : decode cX7_init 9 = .ok (.putfield 9, 3) := by decide +kernel
theorem dX7_init_12 : decode cX7_init 12 = .ok (.aload_n 0, 1) := by decide +kernel
theorem dX7_init_13 : decode cX7_init 13 = .ok (.new 15, 3) := by decide +kernel
theorem dX7_init_16 : decode cX7_init 16 = .ok (.dup, 1) := by decide +kernel
theorem dX7_init_17 : decode cX7_init 17 = .ok (.bipush 12, 2) := by decide +kernel
theorem dX7_init_19 : decode cX7_init 19 = .ok (.iconst 4, 1) := by decide +kernel
theorem dX7_init_20 : decode cX7_init 20 = .ok (.invokespecial 17, 3) := by decide +kernel
theorem dX7_init_23 : decode cX7_init 23 = .ok (.putfield 20, 3) := by decide +kernel
theorem dX7_init_26 : decode cX7_init 26 = .ok (.aload_n 0, 1) := by decide +kernel
theorem dX7_init_27 : decode cX7_init 27 = .ok (.new 15, 3) := by decide +kernel
theorem dX7_init_30 : decode cX7_init 30 = .ok (.dup, 1) := by decide +kernel
theorem dX7_init_31 : decode cX7_init 31 = .ok (.bipush 6, 2) := by decide +kernel
theorem dX7_init_33 : decode cX7_init 33 = .ok (.iconst 2, 1) := by decide +kernel
theorem dX7_init_34 : decode cX7_init 34 = .ok (.invokespecial 17, 3) := by decide +kernel
theorem dX7_init_37 : decode cX7_init 37 = .ok (.putfield 24, 3) := by decide +kernel
theorem dX7_init_40 : decode cX7_init 40 = .ok (.aload_n 0, 1) := by decide +kernel
theorem dX7_init_41 : decode cX7_init 41 = .ok (.new 15, 3) := by decide +kernel
theorem dX7_init_44 : decode cX7_init 44 = .ok (.dup, 1) := by decide +kernel
theorem dX7_init_45 : decode cX7_init 45 = .ok (.bipush 12, 2) := by decide +kernel
theorem dX7_init_47 : decode cX7_init 47 = .ok (.iconst 4, 1) := by decide +kernel
theorem dX7_init_48 : decode cX7_init 48 = .ok (.invokespecial 17, 3) := by decide +kernel
theorem dX7_init_51 : decode cX7_init 51 = .ok (.putfield 27, 3) := by decide +kernel
theorem dX7_init_54 : decode cX7_init 54 = .ok (.return_, 1) := by decide +kernel
theorem dX7_clear_0 : decode cX7_clear 0 = .ok (.iconst 0, 1) := by decide +kernel
theorem dX7_clear_1 : decode cX7_clear 1 = .ok (.istore_n 1, 1) := by decide +kernel
theorem dX7_clear_2 : decode cX7_clear 2 = .ok (.iload_n 1, 1) := by decide +kernel
theorem dX7_clear_3 : decode cX7_clear 3 = .ok (.bipush 16, 2) := by decide +kernel
theorem dX7_clear_5 : decode cX7_clear 5 = .ok (.if_icmp .ge 16, 3) := by decide +kernel
theorem dX7_clear_8 : decode cX7_clear 8 = .ok (.aload_n 0, 1) := by decide +kernel
theorem dX7_clear_9 : decode cX7_clear 9 = .ok (.getfield 9, 3) := by decide +kernel
theorem dX7_clear_12 : decode cX7_clear 12 = .ok (.iload_n 1, 1) := by decide +kernel
theorem dX7_clear_13 : decode cX7_clear 13 = .ok (.iconst 0, 1) := by decide +kernel
theorem dX7_clear_14 : decode cX7_clear 14 = .ok (.iastore, 1) := by decide +kernel
theorem dX7_clear_15 : decode cX7_clear 15 = .ok (.iinc 1 1, 3) := by decide +kernel
theorem dX7_clear_18 : decode cX7_clear 18 = .ok (.goto (-16), 3) := by decide +kernel
theorem dX7_clear_21 : decode cX7_clear 21 = .ok (.aload_n 0, 1) := by decide +kernel
theorem dX7_clear_22 : decode cX7_clear 22 = .ok (.getfield 20, 3) := by decide +kernel
theorem dX7_clear_25 : decode cX7_clear 25 = .ok (.invokevirtual 30, 3) := by decide +kernel
theorem dX7_clear_28 : decode cX7_clear 28 = .ok (.pop, 1) := by decide +kernel
theorem dX7_clear_29 : decode cX7_clear 29 = .ok (.aload_n 0, 1) := by decide +kernel
theorem dX7_clear_30 : decode cX7_clear 30 = .ok (.getfield 24, 3) := by decide +kernel
theorem dX7_clear_33 : decode cX7_clear 33 = .ok (.invokevirtual 30, 3) := by decide +kernel
theorem dX7_clear_36 : decode cX7_clear 36 = .ok (.pop, 1) := by decide +kernel
theorem dX7_clear_37 : decode cX7_clear 37 = .ok (.aload_n 0, 1) := by decide +kernel
theorem dX7_clear_38 : decode cX7_clear 38 = .ok (.getfield 27, 3) := by decide +kernel
theorem dX7_clear_41 : decode cX7_clear 41 = .ok (.invokevirtual 30, 3) := by decide +kernel
theorem dX7_clear_44 : decode cX7_clear 44 = .ok (.pop, 1) := by decide +kernel
theorem dX7_clear_45 : decode cX7_clear 45 = .ok (.return_, 1) := by decide +kernel
theorem dX7_copyFrom_0 : decode cX7_copyFrom 0 = .ok (.aload_n 1, 1) := by decide +kernel
theorem dX7_copyFrom_1 : decode cX7_copyFrom 1 = .ok (.getfield 9, 3) := by decide +kernel
theorem dX7_copyFrom_4 : decode cX7_copyFrom 4 = .ok (.iconst 0, 1) := by decide +kernel
theorem dX7_copyFrom_5 : decode cX7_copyFrom 5 = .ok (.aload_n 0, 1) := by decide +kernel
theorem dX7_copyFrom_6 : decode cX7_copyFrom 6 = .ok (.getfield 9, 3) := by decide +kernel
theorem dX7_copyFrom_9 : decode cX7_copyFrom 9 = .ok (.iconst 0, 1) := by decide +kernel
theorem dX7_copyFrom_10 : decode cX7_copyFrom 10 = .ok (.bipush 16, 2) := by decide +kernel
theorem dX7_copyFrom_12 : decode cX7_copyFrom 12 = .ok (.invokestatic 34, 3) := by decide +kernel
theorem dX7_copyFrom_15 : decode cX7_copyFrom 15 = .ok (.aload_n 0, 1) := by decide +kernel
theorem dX7_copyFrom_16 : decode cX7_copyFrom 16 = .ok (.getfield 20, 3) := by decide +kernel
theorem dX7_copyFrom_19 : decode cX7_copyFrom 19 = .ok (.aload_n 1, 1) := by decide +kernel
theorem dX7_copyFrom_20 : decode cX7_copyFrom 20 = .ok (.getfield 20, 3) := by decide +kernel
theorem dX7_copyFrom_23 : decode cX7_copyFrom 23 = .ok (.invokevirtual 40, 3) := by decide +kernel
theorem dX7_copyFrom_26 : decode cX7_copyFrom 26 = .ok (.aload_n 0, 1) := by decide +kernel
theorem dX7_copyFrom_27 : decode cX7_copyFrom 27 = .ok (.getfield 24, 3) := by decide +kernel
theorem dX7_copyFrom_30 : decode cX7_copyFrom 30 = .ok (.aload_n 1, 1) := by decide +kernel
theorem dX7_copyFrom_31 : decode cX7_copyFrom 31 = .ok (.getfield 24, 3) := by decide +kernel
theorem dX7_copyFrom_34 : decode cX7_copyFrom 34 = .ok (.invokevirtual 40, 3) := by decide +kernel
theorem dX7_copyFrom_37 : decode cX7_copyFrom 37 = .ok (.aload_n 0, 1) := by decide +kernel
theorem dX7_copyFrom_38 : decode cX7_copyFrom 38 = .ok (.getfield 27, 3) := by decide +kernel
theorem dX7_copyFrom_41 : decode cX7_copyFrom 41 = .ok (.aload_n 1, 1) := by decide +kernel
theorem dX7_copyFrom_42 : decode cX7_copyFrom 42 = .ok (.getfield 27, 3) := by decide +kernel
theorem dX7_copyFrom_45 : decode cX7_copyFrom 45 = .ok (.invokevirtual 40, 3) := by decide +kernel
theorem dX7_copyFrom_48 : decode cX7_copyFrom 48 = .ok (.return_, 1) := by decide +kernel
theorem dX7_thingAt_0 : decode cX7_thingAt 0 = .ok (.iload_n 1, 1) := by decide +kernel
theorem dX7_thingAt_1 : decode cX7_thingAt 1 = .ok (.iload_n 2, 1) := by decide +kernel
theorem dX7_thingAt_2 : decode cX7_thingAt 2 = .ok (.invokestatic 44, 3) := by decide +kernel
theorem dX7_thingAt_5 : decode cX7_thingAt 5 = .ok (.ifCond .eq 16, 3) := by decide +kernel
theorem dX7_thingAt_8 : decode cX7_thingAt 8 = .ok (.aload_n 0, 1) := by decide +kernel
theorem dX7_thingAt_9 : decode cX7_thingAt 9 = .ok (.getfield 9, 3) := by decide +kernel
theorem dX7_thingAt_12 : decode cX7_thingAt 12 = .ok (.iload_n 1, 1) := by decide +kernel
theorem dX7_thingAt_13 : decode cX7_thingAt 13 = .ok (.iload_n 2, 1) := by decide +kernel
theorem dX7_thingAt_14 : decode cX7_thingAt 14 = .ok (.invokestatic 48, 3) := by decide +kernel
theorem dX7_thingAt_17 : decode cX7_thingAt 17 = .ok (.iaload, 1) := by decide +kernel
theorem dX7_thingAt_18 : decode cX7_thingAt 18 = .ok (.goto 4, 3) := by decide +kernel
theorem dX7_thingAt_21 : decode cX7_thingAt 21 = .ok (.iconst 0, 1) := by decide +kernel
theorem dX7_thingAt_22 : decode cX7_thingAt 22 = .ok (.ireturn, 1) := by decide +kernel
theorem dX7_kindAt_0 : decode cX7_kindAt 0 = .ok (.aload_n 0, 1) := by decide +kernel
theorem dX7_kindAt_1 : decode cX7_kindAt 1 = .ok (.iload_n 1, 1) := by decide +kernel
theorem dX7_kindAt_2 : decode cX7_kindAt 2 = .ok (.iload_n 2, 1) := by decide +kernel
theorem dX7_kindAt_3 : decode cX7_kindAt 3 = .ok (.invokevirtual 52, 3) := by decide +kernel
theorem dX7_kindAt_6 : decode cX7_kindAt 6 = .ok (.bipush 7, 2) := by decide +kernel
theorem dX7_kindAt_8 : decode cX7_kindAt 8 = .ok (.iand, 1) := by decide +kernel
theorem dX7_kindAt_9 : decode cX7_kindAt 9 = .ok (.ireturn, 1) := by decide +kernel
theorem dX7_setThing_0 : decode cX7_setThing 0 = .ok (.iload_n 1, 1) := by decide +kernel
theorem dX7_setThing_1 : decode cX7_setThing 1 = .ok (.iload_n 2, 1) := by decide +kernel
theorem dX7_setThing_2 : decode cX7_setThing 2 = .ok (.invokestatic 44, 3) := by decide +kernel
theorem dX7_setThing_5 : decode cX7_setThing 5 = .ok (.ifCond .eq 14, 3) := by decide +kernel
theorem dX7_setThing_8 : decode cX7_setThing 8 = .ok (.aload_n 0, 1) := by decide +kernel
theorem dX7_setThing_9 : decode cX7_setThing 9 = .ok (.getfield 9, 3) := by decide +kernel
theorem dX7_setThing_12 : decode cX7_setThing 12 = .ok (.iload_n 1, 1) := by decide +kernel
theorem dX7_setThing_13 : decode cX7_setThing 13 = .ok (.iload_n 2, 1) := by decide +kernel
theorem dX7_setThing_14 : decode cX7_setThing 14 = .ok (.invokestatic 48, 3) := by decide +kernel
theorem dX7_setThing_17 : decode cX7_setThing 17 = .ok (.iload_n 3, 1) := by decide +kernel
theorem dX7_setThing_18 : decode cX7_setThing 18 = .ok (.iastore, 1) := by decide +kernel
theorem dX7_setThing_19 : decode cX7_setThing 19 = .ok (.return_, 1) := by decide +kernel
theorem dX7_countThings_0 : decode cX7_countThings 0 = .ok (.iconst 0, 1) := by decide +kernel
theorem dX7_countThings_1 : decode cX7_countThings 1 = .ok (.istore_n 1, 1) := by decide +kernel
theorem dX7_countThings_2 : decode cX7_countThings 2 = .ok (.iconst 0, 1) := by decide +kernel
theorem dX7_countThings_3 : decode cX7_countThings 3 = .ok (.istore_n 2, 1) := by decide +kernel
theorem dX7_countThings_4 : decode cX7_countThings 4 = .ok (.iload_n 2, 1) := by decide +kernel
theorem dX7_countThings_5 : decode cX7_countThings 5 = .ok (.bipush 16, 2) := by decide +kernel
theorem dX7_countThings_7 : decode cX7_countThings 7 = .ok (.if_icmp .ge 26, 3) := by decide +kernel
theorem dX7_countThings_10 : decode cX7_countThings 10 = .ok (.iload_n 1, 1) := by decide +kernel
theorem dX7_countThings_11 : decode cX7_countThings 11 = .ok (.aload_n 0, 1) := by decide +kernel
theorem dX7_countThings_12 : decode cX7_countThings 12 = .ok (.getfield 9, 3) := by decide +kernel
theorem dX7_countThings_15 : decode cX7_countThings 15 = .ok (.iload_n 2, 1) := by decide +kernel
theorem dX7_countThings_16 : decode cX7_countThings 16 = .ok (.iaload, 1) := by decide +kernel
theorem dX7_countThings_17 : decode cX7_countThings 17 = .ok (.ifCond .ne 7, 3) := by decide +kernel
theorem dX7_countThings_20 : decode cX7_countThings 20 = .ok (.iconst 0, 1) := by decide +kernel
theorem dX7_countThings_21 : decode cX7_countThings 21 = .ok (.goto 4, 3) := by decide +kernel
theorem dX7_countThings_24 : decode cX7_countThings 24 = .ok (.iconst 1, 1) := by decide +kernel
theorem dX7_countThings_25 : decode cX7_countThings 25 = .ok (.iadd, 1) := by decide +kernel
theorem dX7_countThings_26 : decode cX7_countThings 26 = .ok (.istore_n 1, 1) := by decide +kernel
theorem dX7_countThings_27 : decode cX7_countThings 27 = .ok (.iinc 2 1, 3) := by decide +kernel
theorem dX7_countThings_30 : decode cX7_countThings 30 = .ok (.goto (-26), 3) := by decide +kernel
theorem dX7_countThings_33 : decode cX7_countThings 33 = .ok (.iload_n 1, 1) := by decide +kernel
theorem dX7_countThings_34 : decode cX7_countThings 34 = .ok (.ireturn, 1) := by decide +kernel
theorem dX7_lastMonth_0 : decode cX7_lastMonth 0 = .ok (.aload_n 0, 1) := by decide +kernel
theorem dX7_lastMonth_1 : decode cX7_lastMonth 1 = .ok (.getfield 20, 3) := by decide +kernel
theorem dX7_lastMonth_4 : decode cX7_lastMonth 4 = .ok (.aload_n 0, 1) := by decide +kernel
theorem dX7_lastMonth_5 : decode cX7_lastMonth 5 = .ok (.getfield 20, 3) := by decide +kernel
theorem dX7_lastMonth_8 : decode cX7_lastMonth 8 = .ok (.getfield 55, 3) := by decide +kernel
theorem dX7_lastMonth_11 : decode cX7_lastMonth 11 = .ok (.iconst 1, 1) := by decide +kernel
theorem dX7_lastMonth_12 : decode cX7_lastMonth 12 = .ok (.isub, 1) := by decide +kernel
theorem dX7_lastMonth_13 : decode cX7_lastMonth 13 = .ok (.iconst 0, 1) := by decide +kernel
theorem dX7_lastMonth_14 : decode cX7_lastMonth 14 = .ok (.invokevirtual 59, 3) := by decide +kernel
theorem dX7_lastMonth_17 : decode cX7_lastMonth 17 = .ok (.ireturn, 1) := by decide +kernel
theorem dX8_init_0 : decode cX8_init 0 = .ok (.aload_n 0, 1) := by decide +kernel
theorem dX8_init_1 : decode cX8_init 1 = .ok (.invokespecial 3, 3) := by decide +kernel
theorem dX8_init_4 : decode cX8_init 4 = .ok (.aload_n 0, 1) := by decide +kernel
theorem dX8_init_5 : decode cX8_init 5 = .ok (.iconst (-1), 1) := by decide +kernel
theorem dX8_init_6 : decode cX8_init 6 = .ok (.putfield 9, 3) := by decide +kernel
theorem dX8_init_9 : decode cX8_init 9 = .ok (.aload_n 0, 1) := by decide +kernel
theorem dX8_init_10 : decode cX8_init 10 = .ok (.bipush 40, 2) := by decide +kernel
theorem dX8_init_12 : decode cX8_init 12 = .ok (.newarray .int, 2) := by decide +kernel
theorem dX8_init_14 : decode cX8_init 14 = .ok (.putfield 15, 3) := by decide +kernel
theorem dX8_init_17 : decode cX8_init 17 = .ok (.return_, 1) := by decide +kernel
theorem dX8_renew_0 : decode cX8_renew 0 = .ok (.aload_n 0, 1) := by decide +kernel
theorem dX8_renew_1 : decode cX8_renew 1 = .ok (.iload_n 1, 1) := by decide +kernel
theorem dX8_renew_2 : decode cX8_renew 2 = .ok (.putfield 19, 3) := by decide +kernel
theorem dX8_renew_5 : decode cX8_renew 5 = .ok (.aload_n 0, 1) := by decide +kernel
theorem dX8_renew_6 : decode cX8_renew 6 = .ok (.iload_n 2, 1) := by decide +kernel
theorem dX8_renew_7 : decode cX8_renew 7 = .ok (.bipush 40, 2) := by decide +kernel
theorem dX8_renew_9 : decode cX8_renew 9 = .ok (.invokestatic 22, 3) := by decide +kernel
theorem dX8_renew_12 : decode cX8_renew 12 = .ok (.putfield 9, 3) := by decide +kernel
theorem dX8_renew_15 : decode cX8_renew 15 = .ok (.iconst 0, 1) := by decide +kernel
theorem dX8_renew_16 : decode cX8_renew 16 = .ok (.istore_n 3, 1) := by decide +kernel
theorem dX8_renew_17 : decode cX8_renew 17 = .ok (.iload_n 3, 1) := by decide +kernel
theorem dX8_renew_18 : decode cX8_renew 18 = .ok (.bipush 40, 2) := by decide +kernel
theorem dX8_renew_20 : decode cX8_renew 20 = .ok (.if_icmp .ge 16, 3) := by decide +kernel
theorem dX8_renew_23 : decode cX8_renew 23 = .ok (.aload_n 0, 1) := by decide +kernel
theorem dX8_renew_24 : decode cX8_renew 24 = .ok (.getfield 15, 3) := by decide +kernel
theorem dX8_renew_27 : decode cX8_renew 27 = .ok (.iload_n 3, 1) := by decide +kernel
theorem dX8_renew_28 : decode cX8_renew 28 = .ok (.iconst 0, 1) := by decide +kernel
theorem dX8_renew_29 : decode cX8_renew 29 = .ok (.iastore, 1) := by decide +kernel
theorem dX8_renew_30 : decode cX8_renew 30 = .ok (.iinc 3 1, 3) := by decide +kernel
theorem dX8_renew_33 : decode cX8_renew 33 = .ok (.goto (-16), 3) := by decide +kernel
theorem dX8_renew_36 : decode cX8_renew 36 = .ok (.return_, 1) := by decide +kernel
theorem dX8_faultAt_0 : decode cX8_faultAt 0 = .ok (.aload_n 0, 1) := by decide +kernel
theorem dX8_faultAt_1 : decode cX8_faultAt 1 = .ok (.getfield 9, 3) := by decide +kernel
theorem dX8_faultAt_4 : decode cX8_faultAt 4 = .ok (.ifCond .ge 5, 3) := by decide +kernel
theorem dX8_faultAt_7 : decode cX8_faultAt 7 = .ok (.iconst 1, 1) := by decide +kernel
theorem dX8_faultAt_8 : decode cX8_faultAt 8 = .ok (.ireturn, 1) := by decide +kernel
theorem dX8_faultAt_9 : decode cX8_faultAt 9 = .ok (.iload_n 1, 1) := by decide +kernel
theorem dX8_faultAt_10 : decode cX8_faultAt 10 = .ok (.ifCond .lt 11, 3) := by decide +kernel
theorem dX8_faultAt_13 : decode cX8_faultAt 13 = .ok (.iload_n 1, 1) := by decide +kernel
theorem dX8_faultAt_14 : decode cX8_faultAt 14 = .ok (.aload_n 0, 1) := by decide +kernel
theorem dX8_faultAt_15 : decode cX8_faultAt 15 = .ok (.getfield 9, 3) := by decide +kernel
theorem dX8_faultAt_18 : decode cX8_faultAt 18 = .ok (.if_icmp .lt 7, 3) := by decide +kernel
theorem dX8_faultAt_21 : decode cX8_faultAt 21 = .ok (.iconst 2, 1) := by decide +kernel
theorem dX8_faultAt_22 : decode cX8_faultAt 22 = .ok (.goto 4, 3) := by decide +kernel
theorem dX8_faultAt_25 : decode cX8_faultAt 25 = .ok (.iconst 0, 1) := by decide +kernel
theorem dX8_faultAt_26 : decode cX8_faultAt 26 = .ok (.ireturn, 1) := by decide +kernel
theorem dX8_setCell_0 : decode cX8_setCell 0 = .ok (.aload_n 0, 1) := by decide +kernel
theorem dX8_setCell_1 : decode cX8_setCell 1 = .ok (.iload_n 1, 1) := by decide +kernel
theorem dX8_setCell_2 : decode cX8_setCell 2 = .ok (.invokevirtual 28, 3) := by decide +kernel
theorem dX8_setCell_5 : decode cX8_setCell 5 = .ok (.ifCond .ne 35, 3) := by decide +kernel
theorem dX8_setCell_8 : decode cX8_setCell 8 = .ok (.aload_n 0, 1) := by decide +kernel
theorem dX8_setCell_9 : decode cX8_setCell 9 = .ok (.getfield 15, 3) := by decide +kernel
theorem dX8_setCell_12 : decode cX8_setCell 12 = .ok (.iload_n 1, 1) := by decide +kernel
theorem dX8_setCell_13 : decode cX8_setCell 13 = .ok (.aload_n 0, 1) := by decide +kernel
theorem dX8_setCell_14 : decode cX8_setCell 14 = .ok (.getfield 19, 3) := by decide +kernel
theorem dX8_setCell_17 : decode cX8_setCell 17 = .ok (.ifCond .ne 8, 3) := by decide +kernel
theorem dX8_setCell_20 : decode cX8_setCell 20 = .ok (.iload_n 2, 1) := by decide +kernel
theorem dX8_setCell_21 : decode cX8_setCell 21 = .ok (.i2b, 1) := by decide +kernel
theorem dX8_setCell_22 : decode cX8_setCell 22 = .ok (.goto 17, 3) := by decide +kernel
theorem dX8_setCell_25 : decode cX8_setCell 25 = .ok (.aload_n 0, 1) := by decide +kernel
theorem dX8_setCell_26 : decode cX8_setCell 26 = .ok (.getfield 19, 3) := by decide +kernel
theorem dX8_setCell_29 : decode cX8_setCell 29 = .ok (.iconst 1, 1) := by decide +kernel
theorem dX8_setCell_30 : decode cX8_setCell 30 = .ok (.if_icmp .ne 8, 3) := by decide +kernel
theorem dX8_setCell_33 : decode cX8_setCell 33 = .ok (.iload_n 2, 1) := by decide +kernel
theorem dX8_setCell_34 : decode cX8_setCell 34 = .ok (.i2s, 1) := by decide +kernel
theorem dX8_setCell_35 : decode cX8_setCell 35 = .ok (.goto 4, 3) := by decide +kernel
theorem dX8_setCell_38 : decode cX8_setCell 38 = .ok (.iload_n 2, 1) := by decide +kernel
theorem dX8_setCell_39 : decode cX8_setCell 39 = .ok (.iastore, 1) := by decide +kernel
theorem dX8_setCell_40 : decode cX8_setCell 40 = .ok (.return_, 1) := by decide +kernel
theorem dX8_cell_0 : decode cX8_cell 0 = .ok (.aload_n 0, 1) := by decide +kernel
theorem dX8_cell_1 : decode cX8_cell 1 = .ok (.iload_n 1, 1) := by decide +kernel
theorem dX8_cell_2 : decode cX8_cell 2 = .ok (.invokevirtual 28, 3) := by decide +kernel
theorem dX8_cell_5 : decode cX8_cell 5 = .ok (.ifCond .ne 12, 3) := by decide +kernel
theorem dX8_cell_8 : decode cX8_cell 8 = .ok (.aload_n 0, 1) := by decide +kernel
theorem dX8_cell_9 : decode cX8_cell 9 = .ok (.getfield 15, 3) := by decide +kernel
theorem dX8_cell_12 : decode cX8_cell 12 = .ok (.iload_n 1, 1) := by decide +kernel
theorem dX8_cell_13 : decode cX8_cell 13 = .ok (.iaload, 1) := by decide +kernel
theorem dX8_cell_14 : decode cX8_cell 14 = .ok (.goto 4, 3) := by decide +kernel
theorem dX8_cell_17 : decode cX8_cell 17 = .ok (.iconst 0, 1) := by decide +kernel
theorem dX8_cell_18 : decode cX8_cell 18 = .ok (.ireturn, 1) := by decide +kernel
theorem dX8_wholeThings_0 : decode cX8_wholeThings 0 = .ok (.aload_n 0, 1) := by decide +kernel
theorem dX8_wholeThings_1 : decode cX8_wholeThings 1 = .ok (.getfield 9, 3) := by decide +kernel
theorem dX8_wholeThings_4 : decode cX8_wholeThings 4 = .ok (.ifCond .lt 23, 3) := by decide +kernel
theorem dX8_wholeThings_7 : decode cX8_wholeThings 7 = .ok (.aload_n 0, 1) := by decide +kernel
theorem dX8_wholeThings_8 : decode cX8_wholeThings 8 = .ok (.getfield 19, 3) := by decide +kernel
theorem dX8_wholeThings_11 : decode cX8_wholeThings 11 = .ok (.iload_n 1, 1) := by decide +kernel
theorem dX8_wholeThings_12 : decode cX8_wholeThings 12 = .ok (.if_icmp .ne 15, 3) := by decide +kernel
theorem dX8_wholeThings_15 : decode cX8_wholeThings 15 = .ok (.iload_n 2, 1) := by decide +kernel
theorem dX8_wholeThings_16 : decode cX8_wholeThings 16 = .ok (.ifCond .lt 11, 3) := by decide +kernel
theorem dX8_wholeThings_19 : decode cX8_wholeThings 19 = .ok (.iload_n 2, 1) := by decide +kernel
theorem dX8_wholeThings_20 : decode cX8_wholeThings 20 = .ok (.aload_n 0, 1) := by decide +kernel
theorem dX8_wholeThings_21 : decode cX8_wholeThings 21 = .ok (.getfield 9, 3) := by decide +kernel
theorem dX8_wholeThings_24 : decode cX8_wholeThings 24 = .ok (.if_icmp .lt 5, 3) := by decide +kernel
theorem dX8_wholeThings_27 : decode cX8_wholeThings 27 = .ok (.iconst 0, 1) := by decide +kernel
theorem dX8_wholeThings_28 : decode cX8_wholeThings 28 = .ok (.ireturn, 1) := by decide +kernel
theorem dX8_wholeThings_29 : decode cX8_wholeThings 29 = .ok (.iload_n 3, 1) := by decide +kernel
theorem dX8_wholeThings_30 : decode cX8_wholeThings 30 = .ok (.aload_n 0, 1) := by decide +kernel
theorem dX8_wholeThings_31 : decode cX8_wholeThings 31 = .ok (.getfield 9, 3) := by decide +kernel
theorem dX8_wholeThings_34 : decode cX8_wholeThings 34 = .ok (.iload_n 2, 1) := by decide +kernel
theorem dX8_wholeThings_35 : decode cX8_wholeThings 35 = .ok (.isub, 1) := by decide +kernel
theorem dX8_wholeThings_36 : decode cX8_wholeThings 36 = .ok (.iconst 3, 1) := by decide +kernel
theorem dX8_wholeThings_37 : decode cX8_wholeThings 37 = .ok (.idiv, 1) := by decide +kernel
theorem dX8_wholeThings_38 : decode cX8_wholeThings 38 = .ok (.invokestatic 22, 3) := by decide +kernel
theorem dX8_wholeThings_41 : decode cX8_wholeThings 41 = .ok (.ireturn, 1) := by decide +kernel
theorem dX8_faultOfReading_0 : decode cX8_faultOfReading 0 = .ok (.aload_n 0, 1) := by decide +kernel
theorem dX8_faultOfReading_1 : decode cX8_faultOfReading 1 = .ok (.iload_n 1, 1) := by decide +kernel
theorem dX8_faultOfReading_2 : decode cX8_faultOfReading 2 = .ok (.iload_n 2, 1) := by decide +kernel
theorem dX8_faultOfReading_3 : decode cX8_faultOfReading 3 = .ok (.iload_n 3, 1) := by decide +kernel
theorem dX8_faultOfReading_4 : decode cX8_faultOfReading 4 = .ok (.invokevirtual 32, 3) := by decide +kernel
theorem dX8_faultOfReading_7 : decode cX8_faultOfReading 7 = .ok (.iload_n 3, 1) := by decide +kernel
theorem dX8_faultOfReading_8 : decode cX8_faultOfReading 8 = .ok (.if_icmp .lt 5, 3) := by decide +kernel
theorem dX8_faultOfReading_11 : decode cX8_faultOfReading 11 = .ok (.iconst 0, 1) := by decide +kernel
theorem dX8_faultOfReading_12 : decode cX8_faultOfReading 12 = .ok (.ireturn, 1) := by decide +kernel
theorem dX8_faultOfReading_13 : decode cX8_faultOfReading 13 = .ok (.aload_n 0, 1) := by decide +kernel
theorem dX8_faultOfReading_14 : decode cX8_faultOfReading 14 = .ok (.getfield 9, 3) := by decide +kernel
theorem dX8_faultOfReading_17 : decode cX8_faultOfReading 17 = .ok (.ifCond .ge 5, 3) := by decide +kernel
theorem dX8_faultOfReading_20 : decode cX8_faultOfReading 20 = .ok (.iconst 1, 1) := by decide +kernel
theorem dX8_faultOfReading_21 : decode cX8_faultOfReading 21 = .ok (.ireturn, 1) := by decide +kernel
theorem dX8_faultOfReading_22 : decode cX8_faultOfReading 22 = .ok (.aload_n 0, 1) := by decide +kernel
theorem dX8_faultOfReading_23 : decode cX8_faultOfReading 23 = .ok (.getfield 19, 3) := by decide +kernel
theorem dX8_faultOfReading_26 : decode cX8_faultOfReading 26 = .ok (.iload_n 1, 1) := by decide +kernel
theorem dX8_faultOfReading_27 : decode cX8_faultOfReading 27 = .ok (.if_icmp .eq 7, 3) := by decide +kernel
theorem dX8_faultOfReading_30 : decode cX8_faultOfReading 30 = .ok (.iconst 3, 1) := by decide +kernel
theorem dX8_faultOfReading_31 : decode cX8_faultOfReading 31 = .ok (.goto 4, 3) := by decide +kernel
theorem dX8_faultOfReading_34 : decode cX8_faultOfReading 34 = .ok (.iconst 2, 1) := by decide +kernel
theorem dX8_faultOfReading_35 : decode cX8_faultOfReading 35 = .ok (.ireturn, 1) := by decide +kernel
theorem dX9_init_0 : decode cX9_init 0 = .ok (.aload_n 0, 1) := by decide +kernel
theorem dX9_init_1 : decode cX9_init 1 = .ok (.invokespecial 3, 3) := by decide +kernel
theorem dX9_init_4 : decode cX9_init 4 = .ok (.aload_n 0, 1) := by decide +kernel
theorem dX9_init_5 : decode cX9_init 5 = .ok (.sipush 400, 3) := by decide +kernel
theorem dX9_init_8 : decode cX9_init 8 = .ok (.newarray .int, 2) := by decide +kernel
theorem dX9_init_10 : decode cX9_init 10 = .ok (.putfield 9, 3) := by decide +kernel
theorem dX9_init_13 : decode cX9_init 13 = .ok (.return_, 1) := by decide +kernel
theorem dX9_append_0 : decode cX9_append 0 = .ok (.bipush 56, 2) := by decide +kernel
theorem dX9_append_2 : decode cX9_append 2 = .ok (.istore_n 3, 1) := by decide +kernel
theorem dX9_append_3 : decode cX9_append 3 = .ok (.iload_n 3, 1) := by decide +kernel
theorem dX9_append_4 : decode cX9_append 4 = .ok (.ifCond .lt 46, 3) := by decide +kernel
theorem dX9_append_7 : decode cX9_append 7 = .ok (.aload_n 0, 1) := by decide +kernel
theorem dX9_append_8 : decode cX9_append 8 = .ok (.getfield 15, 3) := by decide +kernel
theorem dX9_append_11 : decode cX9_append 11 = .ok (.sipush 400, 3) := by decide +kernel
theorem dX9_append_14 : decode cX9_append 14 = .ok (.if_icmp .ge 36, 3) := by decide +kernel
theorem dX9_append_17 : decode cX9_append 17 = .ok (.aload_n 0, 1) := by decide +kernel
theorem dX9_append_18 : decode cX9_append 18 = .ok (.getfield 9, 3) := by decide +kernel
theorem dX9_append_21 : decode cX9_append 21 = .ok (.aload_n 0, 1) := by decide +kernel
theorem dX9_append_22 : decode cX9_append 22 = .ok (.getfield 15, 3) := by decide +kernel
theorem dX9_append_25 : decode cX9_append 25 = .ok (.lload_n 1, 1) := by decide +kernel
theorem dX9_append_26 : decode cX9_append 26 = .ok (.iload_n 3, 1) := by decide +kernel
theorem dX9_append_27 : decode cX9_append 27 = .ok (.lushr, 1) := by decide +kernel
theorem dX9_append_28 : decode cX9_append 28 = .ok (.l2i, 1) := by decide +kernel
theorem dX9_append_29 : decode cX9_append 29 = .ok (.sipush 255, 3) := by decide +kernel
theorem dX9_append_32 : decode cX9_append 32 = .ok (.iand, 1) := by decide +kernel
theorem dX9_append_33 : decode cX9_append 33 = .ok (.iastore, 1) := by decide +kernel
theorem dX9_append_34 : decode cX9_append 34 = .ok (.aload_n 0, 1) := by decide +kernel
theorem dX9_append_35 : decode cX9_append 35 = .ok (.dup, 1) := by decide +kernel
theorem dX9_append_36 : decode cX9_append 36 = .ok (.getfield 15, 3) := by decide +kernel
theorem dX9_append_39 : decode cX9_append 39 = .ok (.iconst 1, 1) := by decide +kernel
theorem dX9_append_40 : decode cX9_append 40 = .ok (.iadd, 1) := by decide +kernel
theorem dX9_append_41 : decode cX9_append 41 = .ok (.putfield 15, 3) := by decide +kernel
theorem dX9_append_44 : decode cX9_append 44 = .ok (.iinc 3 (-8), 3) := by decide +kernel
theorem dX9_append_47 : decode cX9_append 47 = .ok (.goto (-44), 3) := by decide +kernel
theorem dX9_append_50 : decode cX9_append 50 = .ok (.return_, 1) := by decide +kernel
theorem dX9_byteAt_0 : decode cX9_byteAt 0 = .ok (.iload_n 1, 1) := by decide +kernel
theorem dX9_byteAt_1 : decode cX9_byteAt 1 = .ok (.ifCond .lt 27, 3) := by decide +kernel
theorem dX9_byteAt_4 : decode cX9_byteAt 4 = .ok (.iload_n 1, 1) := by decide +kernel
theorem dX9_byteAt_5 : decode cX9_byteAt 5 = .ok (.aload_n 0, 1) := by decide +kernel
theorem dX9_byteAt_6 : decode cX9_byteAt 6 = .ok (.getfield 15, 3) := by decide +kernel
theorem dX9_byteAt_9 : decode cX9_byteAt 9 = .ok (.if_icmp .ge 19, 3) := by decide +kernel
theorem dX9_byteAt_12 : decode cX9_byteAt 12 = .ok (.iload_n 1, 1) := by decide +kernel
theorem dX9_byteAt_13 : decode cX9_byteAt 13 = .ok (.sipush 400, 3) := by decide +kernel
theorem dX9_byteAt_16 : decode cX9_byteAt 16 = .ok (.if_icmp .ge 12, 3) := by decide +kernel
theorem dX9_byteAt_19 : decode cX9_byteAt 19 = .ok (.aload_n 0, 1) := by decide +kernel
theorem dX9_byteAt_20 : decode cX9_byteAt 20 = .ok (.getfield 9, 3) := by decide +kernel
theorem dX9_byteAt_23 : decode cX9_byteAt 23 = .ok (.iload_n 1, 1) := by decide +kernel
theorem dX9_byteAt_24 : decode cX9_byteAt 24 = .ok (.iaload, 1) := by decide +kernel
theorem dX9_byteAt_25 : decode cX9_byteAt 25 = .ok (.goto 4, 3) := by decide +kernel
theorem dX9_byteAt_28 : decode cX9_byteAt 28 = .ok (.iconst (-1), 1) := by decide +kernel
theorem dX9_byteAt_29 : decode cX9_byteAt 29 = .ok (.ireturn, 1) := by decide +kernel
theorem dJ9_min_7cf53_0 : decode cJ9_min_7cf53 0 = .ok (.iload_n 0, 1) := by decide +kernel
theorem dJ9_min_7cf53_1 : decode cJ9_min_7cf53 1 = .ok (.iload_n 1, 1) := by decide +kernel
theorem dJ9_min_7cf53_2 : decode cJ9_min_7cf53 2 = .ok (.if_icmp .gt 7, 3) := by decide +kernel
theorem dJ9_min_7cf53_5 : decode cJ9_min_7cf53 5 = .ok (.iload_n 0, 1) := by decide +kernel
theorem dJ9_min_7cf53_6 : decode cJ9_min_7cf53 6 = .ok (.goto 4, 3) := by decide +kernel
theorem dJ9_min_7cf53_9 : decode cJ9_min_7cf53 9 = .ok (.iload_n 1, 1) := by decide +kernel
theorem dJ9_min_7cf53_10 : decode cJ9_min_7cf53 10 = .ok (.ireturn, 1) := by decide +kernel
theorem dJ0_length_8abf5_0 : decode cJ0_length_8abf5 0 = .ok (.aload_n 0, 1) := by decide +kernel
theorem dJ0_length_8abf5_1 : decode cJ0_length_8abf5 1 = .ok (.getfield 9, 3) := by decide +kernel
theorem dJ0_length_8abf5_4 : decode cJ0_length_8abf5 4 = .ok (.arraylength, 1) := by decide +kernel
theorem dJ0_length_8abf5_5 : decode cJ0_length_8abf5 5 = .ok (.aload_n 0, 1) := by decide +kernel
theorem dJ0_length_8abf5_6 : decode cJ0_length_8abf5 6 = .ok (.invokevirtual 335, 3) := by decide +kernel
theorem dJ0_length_8abf5_9 : decode cJ0_length_8abf5 9 = .ok (.ishr, 1) := by decide +kernel
theorem dJ0_length_8abf5_10 : decode cJ0_length_8abf5 10 = .ok (.ireturn, 1) := by decide +kernel
theorem dJ0_charAt_5068e_0 : decode cJ0_charAt_5068e 0 = .ok (.aload_n 0, 1) := by decide +kernel
theorem dJ0_charAt_5068e_1 : decode cJ0_charAt_5068e 1 = .ok (.invokevirtual 492, 3) := by decide +kernel
theorem dJ0_charAt_5068e_4 : decode cJ0_charAt_5068e 4 = .ok (.ifCond .eq 12, 3) := by decide +kernel
theorem dJ0_charAt_5068e_7 : decode cJ0_charAt_5068e 7 = .ok (.aload_n 0, 1) := by decide +kernel
theorem dJ0_charAt_5068e_8 : decode cJ0_charAt_5068e 8 = .ok (.getfield 9, 3) := by decide +kernel
theorem dJ0_charAt_5068e_11 : decode cJ0_charAt_5068e 11 = .ok (.iload_n 1, 1) := by decide +kernel
theorem dJ0_charAt_5068e_12 : decode cJ0_charAt_5068e 12 = .ok (.invokestatic 495, 3) := by decide +kernel
theorem dJ0_charAt_5068e_15 : decode cJ0_charAt_5068e 15 = .ok (.ireturn, 1) := by decide +kernel
theorem dJ0_charAt_5068e_16 : decode cJ0_charAt_5068e 16 = .ok (.aload_n 0, 1) := by decide +kernel
theorem dJ0_charAt_5068e_17 : decode cJ0_charAt_5068e 17 = .ok (.getfield 9, 3) := by decide +kernel
theorem dJ0_charAt_5068e_20 : decode cJ0_charAt_5068e 20 = .ok (.iload_n 1, 1) := by decide +kernel
theorem dJ0_charAt_5068e_21 : decode cJ0_charAt_5068e 21 = .ok (.invokestatic 498, 3) := by decide +kernel
theorem dJ0_charAt_5068e_24 : decode cJ0_charAt_5068e 24 = .ok (.ireturn, 1) := by decide +kernel
theorem dJ0_coder_7d493_0 : decode cJ0_coder_7d493 0 = .ok (.getstatic 38, 3) := by decide +kernel
theorem dJ0_coder_7d493_3 : decode cJ0_coder_7d493 3 = .ok (.ifCond .eq 10, 3) := by decide +kernel
theorem dJ0_coder_7d493_6 : decode cJ0_coder_7d493 6 = .ok (.aload_n 0, 1) := by decide +kernel
theorem dJ0_coder_7d493_7 : decode cJ0_coder_7d493 7 = .ok (.getfield 15, 3) := by decide +kernel
theorem dJ0_coder_7d493_10 : decode cJ0_coder_7d493 10 = .ok (.goto 4, 3) := by decide +kernel
theorem dJ0_coder_7d493_13 : decode cJ0_coder_7d493 13 = .ok (.iconst 1, 1) := by decide +kernel
theorem dJ0_coder_7d493_14 : decode cJ0_coder_7d493 14 = .ok (.ireturn, 1) := by decide +kernel
theorem dJ0_isLatin1_aae02_0 : decode cJ0_isLatin1_aae02 0 = .ok (.getstatic 38, 3) := by decide +kernel
theorem dJ0_isLatin1_aae02_3 : decode cJ0_isLatin1_aae02 3 = .ok (.ifCond .eq 14, 3) := by decide +kernel
theorem dJ0_isLatin1_aae02_6 : decode cJ0_isLatin1_aae02 6 = .ok (.aload_n 0, 1) := by decide +kernel
theorem dJ0_isLatin1_aae02_7 : decode cJ0_isLatin1_aae02 7 = .ok (.getfield 15, 3) := by decide +kernel
theorem dJ0_isLatin1_aae02_10 : decode cJ0_isLatin1_aae02 10 = .ok (.ifCond .ne 7, 3) := by decide +kernel
theorem dJ0_isLatin1_aae02_13 : decode cJ0_isLatin1_aae02 13 = .ok (.iconst 1, 1) := by decide +kernel
theorem dJ0_isLatin1_aae02_14 : decode cJ0_isLatin1_aae02 14 = .ok (.goto 4, 3) := by decide +kernel
theorem dJ0_isLatin1_aae02_17 : decode cJ0_isLatin1_aae02 17 = .ok (.iconst 0, 1) := by decide +kernel
theorem dJ0_isLatin1_aae02_18 : decode cJ0_isLatin1_aae02 18 = .ok (.ireturn, 1) := by decide +kernel
theorem dJ0_checkIndex_df160_0 : decode cJ0_checkIndex_df160 0 = .ok (.iload_n 0, 1) := by decide +kernel
theorem dJ0_checkIndex_df160_1 : decode cJ0_checkIndex_df160 1 = .ok (.iload_n 1, 1) := by decide +kernel
theorem dJ0_checkIndex_df160_2 : decode cJ0_checkIndex_df160 2 = .ok (.getstatic 1053, 3) := by decide +kernel
theorem dJ0_checkIndex_df160_5 : decode cJ0_checkIndex_df160 5 = .ok (.invokestatic 1059, 3) := by decide +kernel
theorem dJ0_checkIndex_df160_8 : decode cJ0_checkIndex_df160 8 = .ok (.pop, 1) := by decide +kernel
theorem dJ0_checkIndex_df160_9 : decode cJ0_checkIndex_df160 9 = .ok (.return_, 1) := by decide +kernel
theorem dJ1_charAt_3b067_0 : decode cJ1_charAt_3b067 0 = .ok (.iload_n 1, 1) := by decide +kernel
theorem dJ1_charAt_3b067_1 : decode cJ1_charAt_3b067 1 = .ok (.aload_n 0, 1) := by decide +kernel
theorem dJ1_charAt_3b067_2 : decode cJ1_charAt_3b067 2 = .ok (.arraylength, 1) := by decide +kernel
theorem dJ1_charAt_3b067_3 : decode cJ1_charAt_3b067 3 = .ok (.invokestatic 9, 3) := by decide +kernel
theorem dJ1_charAt_3b067_6 : decode cJ1_charAt_3b067 6 = .ok (.aload_n 0, 1) := by decide +kernel
theorem dJ1_charAt_3b067_7 : decode cJ1_charAt_3b067 7 = .ok (.iload_n 1, 1) := by decide +kernel
theorem dJ1_charAt_3b067_8 : decode cJ1_charAt_3b067 8 = .ok (.baload, 1) := by decide +kernel
theorem dJ1_charAt_3b067_9 : decode cJ1_charAt_3b067 9 = .ok (.sipush 255, 3) := by decide +kernel
theorem dJ1_charAt_3b067_12 : decode cJ1_charAt_3b067 12 = .ok (.iand, 1) := by decide +kernel
theorem dJ1_charAt_3b067_13 : decode cJ1_charAt_3b067 13 = .ok (.i2c, 1) := by decide +kernel
theorem dJ1_charAt_3b067_14 : decode cJ1_charAt_3b067 14 = .ok (.ireturn, 1) := by decide +kernel
theorem dJ2_getChar_3b067_0 : decode cJ2_getChar_3b067 0 = .ok (.getstatic 44, 3) := by decide +kernel
theorem dJ2_getChar_3b067_3 : decode cJ2_getChar_3b067 3 = .ok (.ifCond .ne 25, 3) := by decide +kernel
theorem dJ2_getChar_3b067_6 : decode cJ2_getChar_3b067 6 = .ok (.iload_n 1, 1) := by decide +kernel
theorem dJ2_getChar_3b067_7 : decode cJ2_getChar_3b067 7 = .ok (.ifCond .lt 11, 3) := by decide +kernel
theorem dJ2_getChar_3b067_10 : decode cJ2_getChar_3b067 10 = .ok (.iload_n 1, 1) := by decide +kernel
theorem dJ2_getChar_3b067_11 : decode cJ2_getChar_3b067 11 = .ok (.aload_n 0, 1) := by decide +kernel
theorem dJ2_getChar_3b067_12 : decode cJ2_getChar_3b067 12 = .ok (.invokestatic 48, 3) := by decide +kernel
theorem dJ2_getChar_3b067_15 : decode cJ2_getChar_3b067 15 = .ok (.if_icmp .lt 13, 3) := by decide +kernel
theorem dJ2_getChar_3b067_18 : decode cJ2_getChar_3b067 18 = .ok (.new 52, 3) := by decide +kernel
theorem dJ2_getChar_3b067_21 : decode cJ2_getChar_3b067 21 = .ok (.dup, 1) := by decide +kernel
theorem dJ2_getChar_3b067_22 : decode cJ2_getChar_3b067 22 = .ok (.ldc 54, 2) := by decide +kernel
theorem dJ2_getChar_3b067_24 : decode cJ2_getChar_3b067 24 = .ok (.invokespecial 56, 3) := by decide +kernel
theorem dJ2_getChar_3b067_27 : decode cJ2_getChar_3b067 27 = .ok (.athrow, 1) := by decide +kernel
theorem dJ2_getChar_3b067_28 : decode cJ2_getChar_3b067 28 = .ok (.iload_n 1, 1) := by decide +kernel
theorem dJ2_getChar_3b067_29 : decode cJ2_getChar_3b067 29 = .ok (.iconst 1, 1) := by decide +kernel
theorem dJ2_getChar_3b067_30 : decode cJ2_getChar_3b067 30 = .ok (.ishl, 1) := by decide +kernel
theorem dJ2_getChar_3b067_31 : decode cJ2_getChar_3b067 31 = .ok (.istore_n 1, 1) := by decide +kernel
theorem dJ2_getChar_3b067_32 : decode cJ2_getChar_3b067 32 = .ok (.aload_n 0, 1) := by decide +kernel
theorem dJ2_getChar_3b067_33 : decode cJ2_getChar_3b067 33 = .ok (.iload_n 1, 1) := by decide +kernel
theorem dJ2_getChar_3b067_34 : decode cJ2_getChar_3b067 34 = .ok (.iinc 1 1, 3) := by decide +kernel
theorem dJ2_getChar_3b067_37 : decode cJ2_getChar_3b067 37 = .ok (.baload, 1) := by decide +kernel
theorem dJ2_getChar_3b067_38 : decode cJ2_getChar_3b067 38 = .ok (.sipush 255, 3) := by decide +kernel
theorem dJ2_getChar_3b067_41 : decode cJ2_getChar_3b067 41 = .ok (.iand, 1) := by decide +kernel
theorem dJ2_getChar_3b067_42 : decode cJ2_getChar_3b067 42 = .ok (.getstatic 59, 3) := by decide +kernel
theorem dJ2_getChar_3b067_45 : decode cJ2_getChar_3b067 45 = .ok (.ishl, 1) := by decide +kernel
theorem dJ2_getChar_3b067_46 : decode cJ2_getChar_3b067 46 = .ok (.aload_n 0, 1) := by decide +kernel
theorem dJ2_getChar_3b067_47 : decode cJ2_getChar_3b067 47 = .ok (.iload_n 1, 1) := by decide +kernel
theorem dJ2_getChar_3b067_48 : decode cJ2_getChar_3b067 48 = .ok (.baload, 1) := by decide +kernel
theorem dJ2_getChar_3b067_49 : decode cJ2_getChar_3b067 49 = .ok (.sipush 255, 3) := by decide +kernel
theorem dJ2_getChar_3b067_52 : decode cJ2_getChar_3b067 52 = .ok (.iand, 1) := by decide +kernel
theorem dJ2_getChar_3b067_53 : decode cJ2_getChar_3b067 53 = .ok (.getstatic 63, 3) := by decide +kernel
theorem dJ2_getChar_3b067_56 : decode cJ2_getChar_3b067 56 = .ok (.ishl, 1) := by decide +kernel
theorem dJ2_getChar_3b067_57 : decode cJ2_getChar_3b067 57 = .ok (.ior, 1) := by decide +kernel
theorem dJ2_getChar_3b067_58 : decode cJ2_getChar_3b067 58 = .ok (.i2c, 1) := by decide +kernel
theorem dJ2_getChar_3b067_59 : decode cJ2_getChar_3b067 59 = .ok (.ireturn, 1) := by decide +kernel
theorem dJ2_length_9d52b_0 : decode cJ2_length_9d52b 0 = .ok (.aload_n 0, 1) := by decide +kernel
theorem dJ2_length_9d52b_1 : decode cJ2_length_9d52b 1 = .ok (.arraylength, 1) := by decide +kernel
theorem dJ2_length_9d52b_2 : decode cJ2_length_9d52b 2 = .ok (.iconst 1, 1) := by decide +kernel
theorem dJ2_length_9d52b_3 : decode cJ2_length_9d52b 3 = .ok (.ishr, 1) := by decide +kernel
theorem dJ2_length_9d52b_4 : decode cJ2_length_9d52b 4 = .ok (.ireturn, 1) := by decide +kernel
theorem dJ2_charAt_3b067_0 : decode cJ2_charAt_3b067 0 = .ok (.iload_n 1, 1) := by decide +kernel
theorem dJ2_charAt_3b067_1 : decode cJ2_charAt_3b067 1 = .ok (.aload_n 0, 1) := by decide +kernel
theorem dJ2_charAt_3b067_2 : decode cJ2_charAt_3b067 2 = .ok (.invokestatic 67, 3) := by decide +kernel
theorem dJ2_charAt_3b067_5 : decode cJ2_charAt_3b067 5 = .ok (.aload_n 0, 1) := by decide +kernel
theorem dJ2_charAt_3b067_6 : decode cJ2_charAt_3b067 6 = .ok (.iload_n 1, 1) := by decide +kernel
theorem dJ2_charAt_3b067_7 : decode cJ2_charAt_3b067 7 = .ok (.invokestatic 71, 3) := by decide +kernel
theorem dJ2_charAt_3b067_10 : decode cJ2_charAt_3b067 10 = .ok (.ireturn, 1) := by decide +kernel
theorem dJ2_checkIndex_2214a_0 : decode cJ2_checkIndex_2214a 0 = .ok (.iload_n 0, 1) := by decide +kernel
theorem dJ2_checkIndex_2214a_1 : decode cJ2_checkIndex_2214a 1 = .ok (.aload_n 1, 1) := by decide +kernel
theorem dJ2_checkIndex_2214a_2 : decode cJ2_checkIndex_2214a 2 = .ok (.invokestatic 48, 3) := by decide +kernel
theorem dJ2_checkIndex_2214a_5 : decode cJ2_checkIndex_2214a 5 = .ok (.invokestatic 414, 3) := by decide +kernel
theorem dJ2_checkIndex_2214a_8 : decode cJ2_checkIndex_2214a 8 = .ok (.return_, 1) := by decide +kernel
theorem dJ3_checkIndex_8e157_0 : decode cJ3_checkIndex_8e157 0 = .ok (.iload_n 0, 1) := by decide +kernel
theorem dJ3_checkIndex_8e157_1 : decode cJ3_checkIndex_8e157 1 = .ok (.ifCond .lt 8, 3) := by decide +kernel
theorem dJ3_checkIndex_8e157_4 : decode cJ3_checkIndex_8e157 4 = .ok (.iload_n 0, 1) := by decide +kernel
theorem dJ3_checkIndex_8e157_5 : decode cJ3_checkIndex_8e157 5 = .ok (.iload_n 1, 1) := by decide +kernel
theorem dJ3_checkIndex_8e157_6 : decode cJ3_checkIndex_8e157 6 = .ok (.if_icmp .lt 10, 3) := by decide +kernel
theorem dJ3_checkIndex_8e157_9 : decode cJ3_checkIndex_8e157 9 = .ok (.aload_n 2, 1) := by decide +kernel
theorem dJ3_checkIndex_8e157_10 : decode cJ3_checkIndex_8e157 10 = .ok (.iload_n 0, 1) := by decide +kernel
theorem dJ3_checkIndex_8e157_11 : decode cJ3_checkIndex_8e157 11 = .ok (.iload_n 1, 1) := by decide +kernel
theorem dJ3_checkIndex_8e157_12 : decode cJ3_checkIndex_8e157 12 = .ok (.invokestatic 95, 3) := by decide +kernel
theorem dJ3_checkIndex_8e157_15 : decode cJ3_checkIndex_8e157 15 = .ok (.athrow, 1) := by decide +kernel
theorem dJ3_checkIndex_8e157_16 : decode cJ3_checkIndex_8e157 16 = .ok (.iload_n 0, 1) := by decide +kernel
theorem dJ3_checkIndex_8e157_17 : decode cJ3_checkIndex_8e157 17 = .ok (.ireturn, 1) := by decide +kernel
