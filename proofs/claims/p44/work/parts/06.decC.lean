theorem dX10_waits_58 : decode cX10_waits 58 = .ok (.getfield 51, 3) := by decide +kernel
theorem dX10_waits_61 : decode cX10_waits 61 = .ok (.iload_n 1, 1) := by decide +kernel
theorem dX10_waits_62 : decode cX10_waits 62 = .ok (.iload_n 2, 1) := by decide +kernel
theorem dX10_waits_63 : decode cX10_waits 63 = .ok (.aload_n 0, 1) := by decide +kernel
theorem dX10_waits_64 : decode cX10_waits 64 = .ok (.getfield 19, 3) := by decide +kernel
theorem dX10_waits_67 : decode cX10_waits 67 = .ok (.iload 4, 2) := by decide +kernel
theorem dX10_waits_69 : decode cX10_waits 69 = .ok (.invokevirtual 140, 3) := by decide +kernel
theorem dX10_waits_72 : decode cX10_waits 72 = .ok (.invokevirtual 246, 3) := by decide +kernel
theorem dX10_waits_75 : decode cX10_waits 75 = .ok (.sipush 1000, 3) := by decide +kernel
theorem dX10_waits_78 : decode cX10_waits 78 = .ok (.iadd, 1) := by decide +kernel
theorem dX10_waits_79 : decode cX10_waits 79 = .ok (.ireturn, 1) := by decide +kernel
theorem dX10_vex_0 : decode cX10_vex 0 = .ok (.iload_n 1, 1) := by decide +kernel
theorem dX10_vex_1 : decode cX10_vex 1 = .ok (.invokestatic 201, 3) := by decide +kernel
theorem dX10_vex_4 : decode cX10_vex 4 = .ok (.ifCond .eq 12, 3) := by decide +kernel
theorem dX10_vex_7 : decode cX10_vex 7 = .ok (.iload_n 2, 1) := by decide +kernel
theorem dX10_vex_8 : decode cX10_vex 8 = .ok (.ifCond .lt 8, 3) := by decide +kernel
theorem dX10_vex_11 : decode cX10_vex 11 = .ok (.iload_n 2, 1) := by decide +kernel
theorem dX10_vex_12 : decode cX10_vex 12 = .ok (.iconst 2, 1) := by decide +kernel
theorem dX10_vex_13 : decode cX10_vex 13 = .ok (.if_icmp .le 5, 3) := by decide +kernel
theorem dX10_vex_16 : decode cX10_vex 16 = .ok (.iconst (-1), 1) := by decide +kernel
theorem dX10_vex_17 : decode cX10_vex 17 = .ok (.ireturn, 1) := by decide +kernel
theorem dX10_vex_18 : decode cX10_vex 18 = .ok (.aload_n 0, 1) := by decide +kernel
theorem dX10_vex_19 : decode cX10_vex 19 = .ok (.getfield 51, 3) := by decide +kernel
theorem dX10_vex_22 : decode cX10_vex 22 = .ok (.iload_n 1, 1) := by decide +kernel
theorem dX10_vex_23 : decode cX10_vex 23 = .ok (.invokevirtual 253, 3) := by decide +kernel
theorem dX10_vex_26 : decode cX10_vex 26 = .ok (.aload_n 0, 1) := by decide +kernel
theorem dX10_vex_27 : decode cX10_vex 27 = .ok (.getfield 51, 3) := by decide +kernel
theorem dX10_vex_30 : decode cX10_vex 30 = .ok (.getfield 256, 3) := by decide +kernel
theorem dX10_vex_33 : decode cX10_vex 33 = .ok (.ifCond .ge 6, 3) := by decide +kernel
theorem dX10_vex_36 : decode cX10_vex 36 = .ok (.bipush (-4), 2) := by decide +kernel
theorem dX10_vex_38 : decode cX10_vex 38 = .ok (.ireturn, 1) := by decide +kernel
theorem dX10_vex_39 : decode cX10_vex 39 = .ok (.iload_n 2, 1) := by decide +kernel
theorem dX10_vex_40 : decode cX10_vex 40 = .ok (.ifCond .ne 15, 3) := by decide +kernel
theorem dX10_vex_43 : decode cX10_vex 43 = .ok (.aload_n 0, 1) := by decide +kernel
theorem dX10_vex_44 : decode cX10_vex 44 = .ok (.getfield 51, 3) := by decide +kernel
theorem dX10_vex_47 : decode cX10_vex 47 = .ok (.getfield 259, 3) := by decide +kernel
theorem dX10_vex_50 : decode cX10_vex 50 = .ok (.sipush 1000, 3) := by decide +kernel
theorem dX10_vex_53 : decode cX10_vex 53 = .ok (.iadd, 1) := by decide +kernel
theorem dX10_vex_54 : decode cX10_vex 54 = .ok (.ireturn, 1) := by decide +kernel
theorem dX10_vex_55 : decode cX10_vex 55 = .ok (.iload_n 2, 1) := by decide +kernel
theorem dX10_vex_56 : decode cX10_vex 56 = .ok (.iconst 1, 1) := by decide +kernel
theorem dX10_vex_57 : decode cX10_vex 57 = .ok (.if_icmp .ne 13, 3) := by decide +kernel
theorem dX10_vex_60 : decode cX10_vex 60 = .ok (.aload_n 0, 1) := by decide +kernel
theorem dX10_vex_61 : decode cX10_vex 61 = .ok (.getfield 51, 3) := by decide +kernel
theorem dX10_vex_64 : decode cX10_vex 64 = .ok (.getfield 256, 3) := by decide +kernel
theorem dX10_vex_67 : decode cX10_vex 67 = .ok (.goto 10, 3) := by decide +kernel
theorem dX10_vex_70 : decode cX10_vex 70 = .ok (.aload_n 0, 1) := by decide +kernel
theorem dX10_vex_71 : decode cX10_vex 71 = .ok (.getfield 51, 3) := by decide +kernel
theorem dX10_vex_74 : decode cX10_vex 74 = .ok (.getfield 262, 3) := by decide +kernel
theorem dX10_vex_77 : decode cX10_vex 77 = .ok (.ireturn, 1) := by decide +kernel
theorem dX10_want_0 : decode cX10_want 0 = .ok (.aload_n 0, 1) := by decide +kernel
theorem dX10_want_1 : decode cX10_want 1 = .ok (.getfield 19, 3) := by decide +kernel
theorem dX10_want_4 : decode cX10_want 4 = .ok (.iconst 0, 1) := by decide +kernel
theorem dX10_want_5 : decode cX10_want 5 = .ok (.iload_n 1, 1) := by decide +kernel
theorem dX10_want_6 : decode cX10_want 6 = .ok (.invokevirtual 173, 3) := by decide +kernel
theorem dX10_want_9 : decode cX10_want 9 = .ok (.ifCond .eq 10, 3) := by decide +kernel
theorem dX10_want_12 : decode cX10_want 12 = .ok (.iload_n 2, 1) := by decide +kernel
theorem dX10_want_13 : decode cX10_want 13 = .ok (.invokestatic 243, 3) := by decide +kernel
theorem dX10_want_16 : decode cX10_want 16 = .ok (.ifCond .ne 5, 3) := by decide +kernel
theorem dX10_want_19 : decode cX10_want 19 = .ok (.iconst (-1), 1) := by decide +kernel
theorem dX10_want_20 : decode cX10_want 20 = .ok (.ireturn, 1) := by decide +kernel
theorem dX10_want_21 : decode cX10_want 21 = .ok (.aload_n 0, 1) := by decide +kernel
theorem dX10_want_22 : decode cX10_want 22 = .ok (.getfield 26, 3) := by decide +kernel
theorem dX10_want_25 : decode cX10_want 25 = .ok (.getfield 265, 3) := by decide +kernel
theorem dX10_want_28 : decode cX10_want 28 = .ok (.invokevirtual 235, 3) := by decide +kernel
theorem dX10_want_31 : decode cX10_want 31 = .ok (.ifCond .eq 6, 3) := by decide +kernel
theorem dX10_want_34 : decode cX10_want 34 = .ok (.bipush (-3), 2) := by decide +kernel
theorem dX10_want_36 : decode cX10_want 36 = .ok (.ireturn, 1) := by decide +kernel
theorem dX10_want_37 : decode cX10_want 37 = .ok (.aload_n 0, 1) := by decide +kernel
theorem dX10_want_38 : decode cX10_want 38 = .ok (.getfield 26, 3) := by decide +kernel
theorem dX10_want_41 : decode cX10_want 41 = .ok (.getfield 265, 3) := by decide +kernel
theorem dX10_want_44 : decode cX10_want 44 = .ok (.iload_n 1, 1) := by decide +kernel
theorem dX10_want_45 : decode cX10_want 45 = .ok (.iload_n 2, 1) := by decide +kernel
theorem dX10_want_46 : decode cX10_want 46 = .ok (.iconst 0, 1) := by decide +kernel
theorem dX10_want_47 : decode cX10_want 47 = .ok (.iconst 0, 1) := by decide +kernel
theorem dX10_want_48 : decode cX10_want 48 = .ok (.invokevirtual 239, 3) := by decide +kernel
theorem dX10_want_51 : decode cX10_want 51 = .ok (.aload_n 0, 1) := by decide +kernel
theorem dX10_want_52 : decode cX10_want 52 = .ok (.getfield 26, 3) := by decide +kernel
theorem dX10_want_55 : decode cX10_want 55 = .ok (.getfield 265, 3) := by decide +kernel
theorem dX10_want_58 : decode cX10_want 58 = .ok (.getfield 129, 3) := by decide +kernel
theorem dX10_want_61 : decode cX10_want 61 = .ok (.ireturn, 1) := by decide +kernel
theorem dX10_content_0 : decode cX10_content 0 = .ok (.aload_n 0, 1) := by decide +kernel
theorem dX10_content_1 : decode cX10_content 1 = .ok (.getfield 26, 3) := by decide +kernel
theorem dX10_content_4 : decode cX10_content 4 = .ok (.getfield 265, 3) := by decide +kernel
theorem dX10_content_7 : decode cX10_content 7 = .ok (.invokevirtual 268, 3) := by decide +kernel
theorem dX10_content_10 : decode cX10_content 10 = .ok (.ireturn, 1) := by decide +kernel
theorem dX10_plan_0 : decode cX10_plan 0 = .ok (.aload_n 0, 1) := by decide +kernel
theorem dX10_plan_1 : decode cX10_plan 1 = .ok (.getfield 26, 3) := by decide +kernel
theorem dX10_plan_4 : decode cX10_plan 4 = .ok (.getfield 265, 3) := by decide +kernel
theorem dX10_plan_7 : decode cX10_plan 7 = .ok (.getfield 129, 3) := by decide +kernel
theorem dX10_plan_10 : decode cX10_plan 10 = .ok (.istore_n 3, 1) := by decide +kernel
theorem dX10_plan_11 : decode cX10_plan 11 = .ok (.iload_n 2, 1) := by decide +kernel
theorem dX10_plan_12 : decode cX10_plan 12 = .ok (.bipush 10, 2) := by decide +kernel
theorem dX10_plan_14 : decode cX10_plan 14 = .ok (.if_icmp .lt 15, 3) := by decide +kernel
theorem dX10_plan_17 : decode cX10_plan 17 = .ok (.iload_n 2, 1) := by decide +kernel
theorem dX10_plan_18 : decode cX10_plan 18 = .ok (.bipush 10, 2) := by decide +kernel
theorem dX10_plan_20 : decode cX10_plan 20 = .ok (.iload_n 3, 1) := by decide +kernel
theorem dX10_plan_21 : decode cX10_plan 21 = .ok (.iadd, 1) := by decide +kernel
theorem dX10_plan_22 : decode cX10_plan 22 = .ok (.if_icmp .ge 7, 3) := by decide +kernel
theorem dX10_plan_25 : decode cX10_plan 25 = .ok (.iconst 1, 1) := by decide +kernel
theorem dX10_plan_26 : decode cX10_plan 26 = .ok (.goto 4, 3) := by decide +kernel
theorem dX10_plan_29 : decode cX10_plan 29 = .ok (.iconst 0, 1) := by decide +kernel
theorem dX10_plan_30 : decode cX10_plan 30 = .ok (.istore 4, 2) := by decide +kernel
theorem dX10_plan_32 : decode cX10_plan 32 = .ok (.iload_n 1, 1) := by decide +kernel
theorem dX10_plan_33 : decode cX10_plan 33 = .ok (.ifCond .lt 17, 3) := by decide +kernel
theorem dX10_plan_36 : decode cX10_plan 36 = .ok (.iload_n 1, 1) := by decide +kernel
theorem dX10_plan_37 : decode cX10_plan 37 = .ok (.iconst 4, 1) := by decide +kernel
theorem dX10_plan_38 : decode cX10_plan 38 = .ok (.if_icmp .ge 12, 3) := by decide +kernel
theorem dX10_plan_41 : decode cX10_plan 41 = .ok (.iload_n 2, 1) := by decide +kernel
theorem dX10_plan_42 : decode cX10_plan 42 = .ok (.ifCond .eq 10, 3) := by decide +kernel
theorem dX10_plan_45 : decode cX10_plan 45 = .ok (.iload 4, 2) := by decide +kernel
theorem dX10_plan_47 : decode cX10_plan 47 = .ok (.ifCond .ne 5, 3) := by decide +kernel
theorem dX10_plan_50 : decode cX10_plan 50 = .ok (.iconst (-1), 1) := by decide +kernel
theorem dX10_plan_51 : decode cX10_plan 51 = .ok (.ireturn, 1) := by decide +kernel
theorem dX10_plan_52 : decode cX10_plan 52 = .ok (.iload_n 3, 1) := by decide +kernel
theorem dX10_plan_53 : decode cX10_plan 53 = .ok (.ifCond .ne 6, 3) := by decide +kernel
theorem dX10_plan_56 : decode cX10_plan 56 = .ok (.bipush (-2), 2) := by decide +kernel
theorem dX10_plan_58 : decode cX10_plan 58 = .ok (.ireturn, 1) := by decide +kernel
theorem dX10_plan_59 : decode cX10_plan 59 = .ok (.aload_n 0, 1) := by decide +kernel
theorem dX10_plan_60 : decode cX10_plan 60 = .ok (.getfield 58, 3) := by decide +kernel
theorem dX10_plan_63 : decode cX10_plan 63 = .ok (.iload_n 1, 1) := by decide +kernel
theorem dX10_plan_64 : decode cX10_plan 64 = .ok (.invokevirtual 271, 3) := by decide +kernel
theorem dX10_plan_67 : decode cX10_plan 67 = .ok (.istore 5, 2) := by decide +kernel
theorem dX10_plan_69 : decode cX10_plan 69 = .ok (.iload_n 2, 1) := by decide +kernel
theorem dX10_plan_70 : decode cX10_plan 70 = .ok (.ifCond .ne 8, 3) := by decide +kernel
theorem dX10_plan_73 : decode cX10_plan 73 = .ok (.iload 5, 2) := by decide +kernel
theorem dX10_plan_75 : decode cX10_plan 75 = .ok (.goto 14, 3) := by decide +kernel
theorem dX10_plan_78 : decode cX10_plan 78 = .ok (.aload_n 0, 1) := by decide +kernel
theorem dX10_plan_79 : decode cX10_plan 79 = .ok (.getfield 58, 3) := by decide +kernel
theorem dX10_plan_82 : decode cX10_plan 82 = .ok (.iload_n 2, 1) := by decide +kernel
theorem dX10_plan_83 : decode cX10_plan 83 = .ok (.bipush 10, 2) := by decide +kernel
theorem dX10_plan_85 : decode cX10_plan 85 = .ok (.isub, 1) := by decide +kernel
theorem dX10_plan_86 : decode cX10_plan 86 = .ok (.invokevirtual 274, 3) := by decide +kernel
theorem dX10_plan_89 : decode cX10_plan 89 = .ok (.ireturn, 1) := by decide +kernel
theorem dX10_cannot_0 : decode cX10_cannot 0 = .ok (.iload_n 1, 1) := by decide +kernel
theorem dX10_cannot_1 : decode cX10_cannot 1 = .ok (.ifCond .lt 8, 3) := by decide +kernel
theorem dX10_cannot_4 : decode cX10_cannot 4 = .ok (.iload_n 1, 1) := by decide +kernel
theorem dX10_cannot_5 : decode cX10_cannot 5 = .ok (.iconst 1, 1) := by decide +kernel
theorem dX10_cannot_6 : decode cX10_cannot 6 = .ok (.if_icmp .le 5, 3) := by decide +kernel
theorem dX10_cannot_9 : decode cX10_cannot 9 = .ok (.iconst (-1), 1) := by decide +kernel
theorem dX10_cannot_10 : decode cX10_cannot 10 = .ok (.ireturn, 1) := by decide +kernel
theorem dX10_cannot_11 : decode cX10_cannot 11 = .ok (.iload_n 1, 1) := by decide +kernel
theorem dX10_cannot_12 : decode cX10_cannot 12 = .ok (.ifCond .ne 13, 3) := by decide +kernel
theorem dX10_cannot_15 : decode cX10_cannot 15 = .ok (.aload_n 0, 1) := by decide +kernel
theorem dX10_cannot_16 : decode cX10_cannot 16 = .ok (.getfield 58, 3) := by decide +kernel
theorem dX10_cannot_19 : decode cX10_cannot 19 = .ok (.invokevirtual 277, 3) := by decide +kernel
theorem dX10_cannot_22 : decode cX10_cannot 22 = .ok (.goto 10, 3) := by decide +kernel
theorem dX10_cannot_25 : decode cX10_cannot 25 = .ok (.aload_n 0, 1) := by decide +kernel
theorem dX10_cannot_26 : decode cX10_cannot 26 = .ok (.getfield 58, 3) := by decide +kernel
theorem dX10_cannot_29 : decode cX10_cannot 29 = .ok (.invokevirtual 280, 3) := by decide +kernel
theorem dX10_cannot_32 : decode cX10_cannot 32 = .ok (.ireturn, 1) := by decide +kernel
theorem dX10_fire_0 : decode cX10_fire 0 = .ok (.aload_n 0, 1) := by decide +kernel
theorem dX10_fire_1 : decode cX10_fire 1 = .ok (.getfield 19, 3) := by decide +kernel
theorem dX10_fire_4 : decode cX10_fire 4 = .ok (.iload_n 1, 1) := by decide +kernel
theorem dX10_fire_5 : decode cX10_fire 5 = .ok (.iload_n 2, 1) := by decide +kernel
theorem dX10_fire_6 : decode cX10_fire 6 = .ok (.invokevirtual 173, 3) := by decide +kernel
theorem dX10_fire_9 : decode cX10_fire 9 = .ok (.ifCond .eq 12, 3) := by decide +kernel
theorem dX10_fire_12 : decode cX10_fire 12 = .ok (.iload_n 3, 1) := by decide +kernel
theorem dX10_fire_13 : decode cX10_fire 13 = .ok (.ifCond .lt 8, 3) := by decide +kernel
theorem dX10_fire_16 : decode cX10_fire 16 = .ok (.iload_n 3, 1) := by decide +kernel
theorem dX10_fire_17 : decode cX10_fire 17 = .ok (.iconst 1, 1) := by decide +kernel
theorem dX10_fire_18 : decode cX10_fire 18 = .ok (.if_icmp .le 5, 3) := by decide +kernel
theorem dX10_fire_21 : decode cX10_fire 21 = .ok (.iconst (-1), 1) := by decide +kernel
theorem dX10_fire_22 : decode cX10_fire 22 = .ok (.ireturn, 1) := by decide +kernel
theorem dX10_fire_23 : decode cX10_fire 23 = .ok (.aload_n 0, 1) := by decide +kernel
theorem dX10_fire_24 : decode cX10_fire 24 = .ok (.getfield 26, 3) := by decide +kernel
theorem dX10_fire_27 : decode cX10_fire 27 = .ok (.iload_n 1, 1) := by decide +kernel
theorem dX10_fire_28 : decode cX10_fire 28 = .ok (.iload_n 2, 1) := by decide +kernel
theorem dX10_fire_29 : decode cX10_fire 29 = .ok (.invokevirtual 283, 3) := by decide +kernel
theorem dX10_fire_32 : decode cX10_fire 32 = .ok (.istore 4, 2) := by decide +kernel
theorem dX10_fire_34 : decode cX10_fire 34 = .ok (.iload 4, 2) := by decide +kernel
theorem dX10_fire_36 : decode cX10_fire 36 = .ok (.ifCond .ne 6, 3) := by decide +kernel
theorem dX10_fire_39 : decode cX10_fire 39 = .ok (.bipush (-2), 2) := by decide +kernel
theorem dX10_fire_41 : decode cX10_fire 41 = .ok (.ireturn, 1) := by decide +kernel
theorem dX10_fire_42 : decode cX10_fire 42 = .ok (.aload_n 0, 1) := by decide +kernel
theorem dX10_fire_43 : decode cX10_fire 43 = .ok (.getfield 19, 3) := by decide +kernel
theorem dX10_fire_46 : decode cX10_fire 46 = .ok (.iload_n 1, 1) := by decide +kernel
theorem dX10_fire_47 : decode cX10_fire 47 = .ok (.iload 4, 2) := by decide +kernel
theorem dX10_fire_49 : decode cX10_fire 49 = .ok (.invokevirtual 147, 3) := by decide +kernel
theorem dX10_fire_52 : decode cX10_fire 52 = .ok (.istore 5, 2) := by decide +kernel
theorem dX10_fire_54 : decode cX10_fire 54 = .ok (.aload_n 0, 1) := by decide +kernel
theorem dX10_fire_55 : decode cX10_fire 55 = .ok (.iload_n 1, 1) := by decide +kernel
theorem dX10_fire_56 : decode cX10_fire 56 = .ok (.iload_n 2, 1) := by decide +kernel
theorem dX10_fire_57 : decode cX10_fire 57 = .ok (.iload 4, 2) := by decide +kernel
theorem dX10_fire_59 : decode cX10_fire 59 = .ok (.invokevirtual 286, 3) := by decide +kernel
theorem dX10_fire_62 : decode cX10_fire 62 = .ok (.istore 6, 2) := by decide +kernel
theorem dX10_fire_64 : decode cX10_fire 64 = .ok (.iload_n 3, 1) := by decide +kernel
theorem dX10_fire_65 : decode cX10_fire 65 = .ok (.ifCond .ne 16, 3) := by decide +kernel
theorem dX10_fire_68 : decode cX10_fire 68 = .ok (.iload 5, 2) := by decide +kernel
theorem dX10_fire_70 : decode cX10_fire 70 = .ok (.iload 6, 2) := by decide +kernel
theorem dX10_fire_72 : decode cX10_fire 72 = .ok (.if_icmp .gt 7, 3) := by decide +kernel
theorem dX10_fire_75 : decode cX10_fire 75 = .ok (.iconst 1, 1) := by decide +kernel
theorem dX10_fire_76 : decode cX10_fire 76 = .ok (.goto 4, 3) := by decide +kernel
theorem dX10_fire_79 : decode cX10_fire 79 = .ok (.iconst 0, 1) := by decide +kernel
theorem dX10_fire_80 : decode cX10_fire 80 = .ok (.ireturn, 1) := by decide +kernel
theorem dX10_fire_81 : decode cX10_fire 81 = .ok (.iload 5, 2) := by decide +kernel
theorem dX10_fire_83 : decode cX10_fire 83 = .ok (.iload 6, 2) := by decide +kernel
theorem dX10_fire_85 : decode cX10_fire 85 = .ok (.invokestatic 289, 3) := by decide +kernel
theorem dX10_fire_88 : decode cX10_fire 88 = .ok (.ireturn, 1) := by decide +kernel
theorem dX10_lossOfBoth_0 : decode cX10_lossOfBoth 0 = .ok (.aload_n 0, 1) := by decide +kernel
theorem dX10_lossOfBoth_1 : decode cX10_lossOfBoth 1 = .ok (.getfield 19, 3) := by decide +kernel
theorem dX10_lossOfBoth_4 : decode cX10_lossOfBoth 4 = .ok (.iload_n 1, 1) := by decide +kernel
theorem dX10_lossOfBoth_5 : decode cX10_lossOfBoth 5 = .ok (.iload_n 3, 1) := by decide +kernel
theorem dX10_lossOfBoth_6 : decode cX10_lossOfBoth 6 = .ok (.invokevirtual 151, 3) := by decide +kernel
theorem dX10_lossOfBoth_9 : decode cX10_lossOfBoth 9 = .ok (.istore 4, 2) := by decide +kernel
theorem dX10_lossOfBoth_11 : decode cX10_lossOfBoth 11 = .ok (.aload_n 0, 1) := by decide +kernel
theorem dX10_lossOfBoth_12 : decode cX10_lossOfBoth 12 = .ok (.getfield 19, 3) := by decide +kernel
theorem dX10_lossOfBoth_15 : decode cX10_lossOfBoth 15 = .ok (.iload_n 1, 1) := by decide +kernel
theorem dX10_lossOfBoth_16 : decode cX10_lossOfBoth 16 = .ok (.iload_n 2, 1) := by decide +kernel
theorem dX10_lossOfBoth_17 : decode cX10_lossOfBoth 17 = .ok (.invokevirtual 183, 3) := by decide +kernel
theorem dX10_lossOfBoth_20 : decode cX10_lossOfBoth 20 = .ok (.istore 5, 2) := by decide +kernel
theorem dX10_lossOfBoth_22 : decode cX10_lossOfBoth 22 = .ok (.iload 5, 2) := by decide +kernel
theorem dX10_lossOfBoth_24 : decode cX10_lossOfBoth 24 = .ok (.bipush (-4), 2) := by decide +kernel
theorem dX10_lossOfBoth_26 : decode cX10_lossOfBoth 26 = .ok (.if_icmp .ne 6, 3) := by decide +kernel
theorem dX10_lossOfBoth_29 : decode cX10_lossOfBoth 29 = .ok (.iload 4, 2) := by decide +kernel
theorem dX10_lossOfBoth_31 : decode cX10_lossOfBoth 31 = .ok (.ireturn, 1) := by decide +kernel
theorem dX10_lossOfBoth_32 : decode cX10_lossOfBoth 32 = .ok (.aload_n 0, 1) := by decide +kernel
theorem dX10_lossOfBoth_33 : decode cX10_lossOfBoth 33 = .ok (.getfield 19, 3) := by decide +kernel
theorem dX10_lossOfBoth_36 : decode cX10_lossOfBoth 36 = .ok (.getfield 122, 3) := by decide +kernel
theorem dX10_lossOfBoth_39 : decode cX10_lossOfBoth 39 = .ok (.iload 4, 2) := by decide +kernel
theorem dX10_lossOfBoth_41 : decode cX10_lossOfBoth 41 = .ok (.iadd, 1) := by decide +kernel
theorem dX10_lossOfBoth_42 : decode cX10_lossOfBoth 42 = .ok (.aload_n 0, 1) := by decide +kernel
theorem dX10_lossOfBoth_43 : decode cX10_lossOfBoth 43 = .ok (.getfield 19, 3) := by decide +kernel
theorem dX10_lossOfBoth_46 : decode cX10_lossOfBoth 46 = .ok (.iconst 1, 1) := by decide +kernel
theorem dX10_lossOfBoth_47 : decode cX10_lossOfBoth 47 = .ok (.iload_n 1, 1) := by decide +kernel
theorem dX10_lossOfBoth_48 : decode cX10_lossOfBoth 48 = .ok (.isub, 1) := by decide +kernel
theorem dX10_lossOfBoth_49 : decode cX10_lossOfBoth 49 = .ok (.aload_n 0, 1) := by decide +kernel
theorem dX10_lossOfBoth_50 : decode cX10_lossOfBoth 50 = .ok (.getfield 26, 3) := by decide +kernel
theorem dX10_lossOfBoth_53 : decode cX10_lossOfBoth 53 = .ok (.iconst 1, 1) := by decide +kernel
theorem dX10_lossOfBoth_54 : decode cX10_lossOfBoth 54 = .ok (.iload_n 1, 1) := by decide +kernel
theorem dX10_lossOfBoth_55 : decode cX10_lossOfBoth 55 = .ok (.isub, 1) := by decide +kernel
theorem dX10_lossOfBoth_56 : decode cX10_lossOfBoth 56 = .ok (.iload 5, 2) := by decide +kernel
theorem dX10_lossOfBoth_58 : decode cX10_lossOfBoth 58 = .ok (.invokevirtual 283, 3) := by decide +kernel
theorem dX10_lossOfBoth_61 : decode cX10_lossOfBoth 61 = .ok (.invokevirtual 151, 3) := by decide +kernel
theorem dX10_lossOfBoth_64 : decode cX10_lossOfBoth 64 = .ok (.iadd, 1) := by decide +kernel
theorem dX10_lossOfBoth_65 : decode cX10_lossOfBoth 65 = .ok (.ireturn, 1) := by decide +kernel
theorem dX10_quarrel_0 : decode cX10_quarrel 0 = .ok (.iload_n 1, 1) := by decide +kernel
theorem dX10_quarrel_1 : decode cX10_quarrel 1 = .ok (.ifCond .lt 9, 3) := by decide +kernel
theorem dX10_quarrel_4 : decode cX10_quarrel 4 = .ok (.iload_n 1, 1) := by decide +kernel
theorem dX10_quarrel_5 : decode cX10_quarrel 5 = .ok (.bipush 6, 2) := by decide +kernel
theorem dX10_quarrel_7 : decode cX10_quarrel 7 = .ok (.if_icmp .le 7, 3) := by decide +kernel
theorem dX10_quarrel_10 : decode cX10_quarrel 10 = .ok (.iconst (-1), 1) := by decide +kernel
theorem dX10_quarrel_11 : decode cX10_quarrel 11 = .ok (.goto 8, 3) := by decide +kernel
theorem dX10_quarrel_14 : decode cX10_quarrel 14 = .ok (.aload_n 0, 1) := by decide +kernel
theorem dX10_quarrel_15 : decode cX10_quarrel 15 = .ok (.iload_n 1, 1) := by decide +kernel
theorem dX10_quarrel_16 : decode cX10_quarrel 16 = .ok (.invokevirtual 294, 3) := by decide +kernel
theorem dX10_quarrel_19 : decode cX10_quarrel 19 = .ok (.ireturn, 1) := by decide +kernel
theorem dX10_quarrelBy_0 : decode cX10_quarrelBy 0 = .ok (.iconst 0, 1) := by decide +kernel
theorem dX10_quarrelBy_1 : decode cX10_quarrelBy 1 = .ok (.istore_n 2, 1) := by decide +kernel
theorem dX10_quarrelBy_2 : decode cX10_quarrelBy 2 = .ok (.iconst 0, 1) := by decide +kernel
theorem dX10_quarrelBy_3 : decode cX10_quarrelBy 3 = .ok (.istore_n 3, 1) := by decide +kernel
theorem dX10_quarrelBy_4 : decode cX10_quarrelBy 4 = .ok (.iload_n 3, 1) := by decide +kernel
theorem dX10_quarrelBy_5 : decode cX10_quarrelBy 5 = .ok (.aload_n 0, 1) := by decide +kernel
theorem dX10_quarrelBy_6 : decode cX10_quarrelBy 6 = .ok (.getfield 19, 3) := by decide +kernel
theorem dX10_quarrelBy_9 : decode cX10_quarrelBy 9 = .ok (.getfield 116, 3) := by decide +kernel
theorem dX10_quarrelBy_12 : decode cX10_quarrelBy 12 = .ok (.if_icmp .ge 113, 3) := by decide +kernel
theorem dX10_quarrelBy_15 : decode cX10_quarrelBy 15 = .ok (.aload_n 0, 1) := by decide +kernel
theorem dX10_quarrelBy_16 : decode cX10_quarrelBy 16 = .ok (.getfield 19, 3) := by decide +kernel
theorem dX10_quarrelBy_19 : decode cX10_quarrelBy 19 = .ok (.iload_n 1, 1) := by decide +kernel
theorem dX10_quarrelBy_20 : decode cX10_quarrelBy 20 = .ok (.iconst 0, 1) := by decide +kernel
theorem dX10_quarrelBy_21 : decode cX10_quarrelBy 21 = .ok (.iload_n 3, 1) := by decide +kernel
theorem dX10_quarrelBy_22 : decode cX10_quarrelBy 22 = .ok (.invokevirtual 297, 3) := by decide +kernel
theorem dX10_quarrelBy_25 : decode cX10_quarrelBy 25 = .ok (.istore 4, 2) := by decide +kernel
theorem dX10_quarrelBy_27 : decode cX10_quarrelBy 27 = .ok (.iload 4, 2) := by decide +kernel
theorem dX10_quarrelBy_29 : decode cX10_quarrelBy 29 = .ok (.bipush (-4), 2) := by decide +kernel
theorem dX10_quarrelBy_31 : decode cX10_quarrelBy 31 = .ok (.if_icmp .ne 26, 3) := by decide +kernel
theorem dX10_quarrelBy_34 : decode cX10_quarrelBy 34 = .ok (.iload_n 2, 1) := by decide +kernel
theorem dX10_quarrelBy_35 : decode cX10_quarrelBy 35 = .ok (.aload_n 0, 1) := by decide +kernel
theorem dX10_quarrelBy_36 : decode cX10_quarrelBy 36 = .ok (.getfield 26, 3) := by decide +kernel
theorem dX10_quarrelBy_39 : decode cX10_quarrelBy 39 = .ok (.iconst 0, 1) := by decide +kernel
theorem dX10_quarrelBy_40 : decode cX10_quarrelBy 40 = .ok (.iload_n 3, 1) := by decide +kernel
theorem dX10_quarrelBy_41 : decode cX10_quarrelBy 41 = .ok (.invokevirtual 283, 3) := by decide +kernel
theorem dX10_quarrelBy_44 : decode cX10_quarrelBy 44 = .ok (.ifCond .ne 7, 3) := by decide +kernel
theorem dX10_quarrelBy_47 : decode cX10_quarrelBy 47 = .ok (.iconst 0, 1) := by decide +kernel
theorem dX10_quarrelBy_48 : decode cX10_quarrelBy 48 = .ok (.goto 4, 3) := by decide +kernel
theorem dX10_quarrelBy_51 : decode cX10_quarrelBy 51 = .ok (.iconst 1, 1) := by decide +kernel
theorem dX10_quarrelBy_52 : decode cX10_quarrelBy 52 = .ok (.iadd, 1) := by decide +kernel
theorem dX10_quarrelBy_53 : decode cX10_quarrelBy 53 = .ok (.istore_n 2, 1) := by decide +kernel
theorem dX10_quarrelBy_54 : decode cX10_quarrelBy 54 = .ok (.goto 35, 3) := by decide +kernel
theorem dX10_quarrelBy_57 : decode cX10_quarrelBy 57 = .ok (.aload_n 0, 1) := by decide +kernel
theorem dX10_quarrelBy_58 : decode cX10_quarrelBy 58 = .ok (.getfield 19, 3) := by decide +kernel
theorem dX10_quarrelBy_61 : decode cX10_quarrelBy 61 = .ok (.aload_n 0, 1) := by decide +kernel
theorem dX10_quarrelBy_62 : decode cX10_quarrelBy 62 = .ok (.getfield 26, 3) := by decide +kernel
theorem dX10_quarrelBy_65 : decode cX10_quarrelBy 65 = .ok (.iconst 0, 1) := by decide +kernel
theorem dX10_quarrelBy_66 : decode cX10_quarrelBy 66 = .ok (.iload_n 3, 1) := by decide +kernel
theorem dX10_quarrelBy_67 : decode cX10_quarrelBy 67 = .ok (.invokevirtual 176, 3) := by decide +kernel
theorem dX10_quarrelBy_70 : decode cX10_quarrelBy 70 = .ok (.aload_n 0, 1) := by decide +kernel
theorem dX10_quarrelBy_71 : decode cX10_quarrelBy 71 = .ok (.getfield 26, 3) := by decide +kernel
theorem dX10_quarrelBy_74 : decode cX10_quarrelBy 74 = .ok (.iconst 1, 1) := by decide +kernel
theorem dX10_quarrelBy_75 : decode cX10_quarrelBy 75 = .ok (.iload 4, 2) := by decide +kernel
theorem dX10_quarrelBy_77 : decode cX10_quarrelBy 77 = .ok (.invokevirtual 176, 3) := by decide +kernel
theorem dX10_quarrelBy_80 : decode cX10_quarrelBy 80 = .ok (.invokevirtual 300, 3) := by decide +kernel
theorem dX10_quarrelBy_83 : decode cX10_quarrelBy 83 = .ok (.ifCond .ne 6, 3) := by decide +kernel
theorem dX10_quarrelBy_86 : decode cX10_quarrelBy 86 = .ok (.iinc 2 1, 3) := by decide +kernel
theorem dX10_quarrelBy_89 : decode cX10_quarrelBy 89 = .ok (.aload_n 0, 1) := by decide +kernel
theorem dX10_quarrelBy_90 : decode cX10_quarrelBy 90 = .ok (.getfield 19, 3) := by decide +kernel
theorem dX10_quarrelBy_93 : decode cX10_quarrelBy 93 = .ok (.iload_n 1, 1) := by decide +kernel
theorem dX10_quarrelBy_94 : decode cX10_quarrelBy 94 = .ok (.iconst 1, 1) := by decide +kernel
theorem dX10_quarrelBy_95 : decode cX10_quarrelBy 95 = .ok (.iload_n 3, 1) := by decide +kernel
theorem dX10_quarrelBy_96 : decode cX10_quarrelBy 96 = .ok (.invokevirtual 297, 3) := by decide +kernel
theorem dX10_quarrelBy_99 : decode cX10_quarrelBy 99 = .ok (.bipush (-4), 2) := by decide +kernel
theorem dX10_quarrelBy_101 : decode cX10_quarrelBy 101 = .ok (.if_icmp .ne 18, 3) := by decide +kernel
theorem dX10_quarrelBy_104 : decode cX10_quarrelBy 104 = .ok (.aload_n 0, 1) := by decide +kernel
theorem dX10_quarrelBy_105 : decode cX10_quarrelBy 105 = .ok (.getfield 26, 3) := by decide +kernel
theorem dX10_quarrelBy_108 : decode cX10_quarrelBy 108 = .ok (.iconst 1, 1) := by decide +kernel
theorem dX10_quarrelBy_109 : decode cX10_quarrelBy 109 = .ok (.iload_n 3, 1) := by decide +kernel
theorem dX10_quarrelBy_110 : decode cX10_quarrelBy 110 = .ok (.invokevirtual 283, 3) := by decide +kernel
theorem dX10_quarrelBy_113 : decode cX10_quarrelBy 113 = .ok (.ifCond .eq 6, 3) := by decide +kernel
theorem dX10_quarrelBy_116 : decode cX10_quarrelBy 116 = .ok (.iinc 2 1, 3) := by decide +kernel
theorem dX10_quarrelBy_119 : decode cX10_quarrelBy 119 = .ok (.iinc 3 1, 3) := by decide +kernel
theorem dX10_quarrelBy_122 : decode cX10_quarrelBy 122 = .ok (.goto (-118), 3) := by decide +kernel
theorem dX10_quarrelBy_125 : decode cX10_quarrelBy 125 = .ok (.iload_n 2, 1) := by decide +kernel
theorem dX10_quarrelBy_126 : decode cX10_quarrelBy 126 = .ok (.ireturn, 1) := by decide +kernel
theorem dX10_bend_0 : decode cX10_bend 0 = .ok (.iconst 0, 1) := by decide +kernel
theorem dX10_bend_1 : decode cX10_bend 1 = .ok (.istore_n 1, 1) := by decide +kernel
theorem dX10_bend_2 : decode cX10_bend 2 = .ok (.aload_n 0, 1) := by decide +kernel
theorem dX10_bend_3 : decode cX10_bend 3 = .ok (.iconst 0, 1) := by decide +kernel
theorem dX10_bend_4 : decode cX10_bend 4 = .ok (.invokevirtual 294, 3) := by decide +kernel
theorem dX10_bend_7 : decode cX10_bend 7 = .ok (.istore_n 2, 1) := by decide +kernel
theorem dX10_bend_8 : decode cX10_bend 8 = .ok (.iconst 1, 1) := by decide +kernel
theorem dX10_bend_9 : decode cX10_bend 9 = .ok (.istore_n 3, 1) := by decide +kernel
theorem dX10_bend_10 : decode cX10_bend 10 = .ok (.iload_n 3, 1) := by decide +kernel
theorem dX10_bend_11 : decode cX10_bend 11 = .ok (.bipush 6, 2) := by decide +kernel
theorem dX10_bend_13 : decode cX10_bend 13 = .ok (.if_icmp .gt 27, 3) := by decide +kernel
theorem dX10_bend_16 : decode cX10_bend 16 = .ok (.aload_n 0, 1) := by decide +kernel
theorem dX10_bend_17 : decode cX10_bend 17 = .ok (.iload_n 3, 1) := by decide +kernel
theorem dX10_bend_18 : decode cX10_bend 18 = .ok (.invokevirtual 294, 3) := by decide +kernel
theorem dX10_bend_21 : decode cX10_bend 21 = .ok (.istore 4, 2) := by decide +kernel
theorem dX10_bend_23 : decode cX10_bend 23 = .ok (.iload 4, 2) := by decide +kernel
theorem dX10_bend_25 : decode cX10_bend 25 = .ok (.iload_n 2, 1) := by decide +kernel
theorem dX10_bend_26 : decode cX10_bend 26 = .ok (.if_icmp .ge 8, 3) := by decide +kernel
theorem dX10_bend_29 : decode cX10_bend 29 = .ok (.iload 4, 2) := by decide +kernel
theorem dX10_bend_31 : decode cX10_bend 31 = .ok (.istore_n 2, 1) := by decide +kernel
theorem dX10_bend_32 : decode cX10_bend 32 = .ok (.iload_n 3, 1) := by decide +kernel
theorem dX10_bend_33 : decode cX10_bend 33 = .ok (.istore_n 1, 1) := by decide +kernel
theorem dX10_bend_34 : decode cX10_bend 34 = .ok (.iinc 3 1, 3) := by decide +kernel
theorem dX10_bend_37 : decode cX10_bend 37 = .ok (.goto (-27), 3) := by decide +kernel
theorem dX10_bend_40 : decode cX10_bend 40 = .ok (.iload_n 1, 1) := by decide +kernel
theorem dX10_bend_41 : decode cX10_bend 41 = .ok (.ireturn, 1) := by decide +kernel
theorem dX10_shops_0 : decode cX10_shops 0 = .ok (.iload_n 1, 1) := by decide +kernel
theorem dX10_shops_1 : decode cX10_shops 1 = .ok (.invokestatic 201, 3) := by decide +kernel
theorem dX10_shops_4 : decode cX10_shops 4 = .ok (.ifCond .eq 12, 3) := by decide +kernel
theorem dX10_shops_7 : decode cX10_shops 7 = .ok (.iload_n 2, 1) := by decide +kernel
theorem dX10_shops_8 : decode cX10_shops 8 = .ok (.ifCond .lt 8, 3) := by decide +kernel
theorem dX10_shops_11 : decode cX10_shops 11 = .ok (.iload_n 2, 1) := by decide +kernel
theorem dX10_shops_12 : decode cX10_shops 12 = .ok (.iconst 1, 1) := by decide +kernel
theorem dX10_shops_13 : decode cX10_shops 13 = .ok (.if_icmp .le 5, 3) := by decide +kernel
theorem dX10_shops_16 : decode cX10_shops 16 = .ok (.iconst (-1), 1) := by decide +kernel
theorem dX10_shops_17 : decode cX10_shops 17 = .ok (.ireturn, 1) := by decide +kernel
theorem dX10_shops_18 : decode cX10_shops 18 = .ok (.iconst 0, 1) := by decide +kernel
theorem dX10_shops_19 : decode cX10_shops 19 = .ok (.istore_n 3, 1) := by decide +kernel
theorem dX10_shops_20 : decode cX10_shops 20 = .ok (.iconst 0, 1) := by decide +kernel
theorem dX10_shops_21 : decode cX10_shops 21 = .ok (.istore 4, 2) := by decide +kernel
theorem dX10_shops_23 : decode cX10_shops 23 = .ok (.iload 4, 2) := by decide +kernel
theorem dX10_shops_25 : decode cX10_shops 25 = .ok (.aload_n 0, 1) := by decide +kernel
theorem dX10_shops_26 : decode cX10_shops 26 = .ok (.getfield 19, 3) := by decide +kernel
theorem dX10_shops_29 : decode cX10_shops 29 = .ok (.getfield 116, 3) := by decide +kernel
theorem dX10_shops_32 : decode cX10_shops 32 = .ok (.if_icmp .ge 30, 3) := by decide +kernel
theorem dX10_shops_35 : decode cX10_shops 35 = .ok (.aload_n 0, 1) := by decide +kernel
theorem dX10_shops_36 : decode cX10_shops 36 = .ok (.getfield 26, 3) := by decide +kernel
theorem dX10_shops_39 : decode cX10_shops 39 = .ok (.iload_n 1, 1) := by decide +kernel
theorem dX10_shops_40 : decode cX10_shops 40 = .ok (.iload 4, 2) := by decide +kernel
theorem dX10_shops_42 : decode cX10_shops 42 = .ok (.invokevirtual 283, 3) := by decide +kernel
theorem dX10_shops_45 : decode cX10_shops 45 = .ok (.iconst 3, 1) := by decide +kernel
theorem dX10_shops_46 : decode cX10_shops 46 = .ok (.if_icmp .ne 10, 3) := by decide +kernel
theorem dX10_shops_49 : decode cX10_shops 49 = .ok (.iload_n 3, 1) := by decide +kernel
theorem dX10_shops_50 : decode cX10_shops 50 = .ok (.iconst 1, 1) := by decide +kernel
theorem dX10_shops_51 : decode cX10_shops 51 = .ok (.iload 4, 2) := by decide +kernel
theorem dX10_shops_53 : decode cX10_shops 53 = .ok (.ishl, 1) := by decide +kernel
theorem dX10_shops_54 : decode cX10_shops 54 = .ok (.ior, 1) := by decide +kernel
theorem dX10_shops_55 : decode cX10_shops 55 = .ok (.istore_n 3, 1) := by decide +kernel
theorem dX10_shops_56 : decode cX10_shops 56 = .ok (.iinc 4 1, 3) := by decide +kernel
theorem dX10_shops_59 : decode cX10_shops 59 = .ok (.goto (-36), 3) := by decide +kernel
theorem dX10_shops_62 : decode cX10_shops 62 = .ok (.iload_n 2, 1) := by decide +kernel
theorem dX10_shops_63 : decode cX10_shops 63 = .ok (.ifCond .ne 15, 3) := by decide +kernel
theorem dX10_shops_66 : decode cX10_shops 66 = .ok (.iload_n 3, 1) := by decide +kernel
theorem dX10_shops_67 : decode cX10_shops 67 = .ok (.iload_n 3, 1) := by decide +kernel
theorem dX10_shops_68 : decode cX10_shops 68 = .ok (.iconst 1, 1) := by decide +kernel
theorem dX10_shops_69 : decode cX10_shops 69 = .ok (.ishl, 1) := by decide +kernel
theorem dX10_shops_70 : decode cX10_shops 70 = .ok (.iload_n 3, 1) := by decide +kernel
theorem dX10_shops_71 : decode cX10_shops 71 = .ok (.iconst 1, 1) := by decide +kernel
theorem dX10_shops_72 : decode cX10_shops 72 = .ok (.ishr, 1) := by decide +kernel
theorem dX10_shops_73 : decode cX10_shops 73 = .ok (.ior, 1) := by decide +kernel
theorem dX10_shops_74 : decode cX10_shops 74 = .ok (.iand, 1) := by decide +kernel
theorem dX10_shops_75 : decode cX10_shops 75 = .ok (.goto 7, 3) := by decide +kernel
theorem dX10_shops_78 : decode cX10_shops 78 = .ok (.iload_n 3, 1) := by decide +kernel
theorem dX10_shops_79 : decode cX10_shops 79 = .ok (.invokestatic 303, 3) := by decide +kernel
theorem dX10_shops_82 : decode cX10_shops 82 = .ok (.ireturn, 1) := by decide +kernel
theorem dX10_fewestToGo_0 : decode cX10_fewestToGo 0 = .ok (.iload_n 0, 1) := by decide +kernel
theorem dX10_fewestToGo_1 : decode cX10_fewestToGo 1 = .ok (.istore_n 1, 1) := by decide +kernel
theorem dX10_fewestToGo_2 : decode cX10_fewestToGo 2 = .ok (.iconst 0, 1) := by decide +kernel
theorem dX10_fewestToGo_3 : decode cX10_fewestToGo 3 = .ok (.istore_n 2, 1) := by decide +kernel
theorem dX10_fewestToGo_4 : decode cX10_fewestToGo 4 = .ok (.iconst 1, 1) := by decide +kernel
theorem dX10_fewestToGo_5 : decode cX10_fewestToGo 5 = .ok (.istore_n 3, 1) := by decide +kernel
theorem dX10_fewestToGo_6 : decode cX10_fewestToGo 6 = .ok (.iload_n 3, 1) := by decide +kernel
theorem dX10_fewestToGo_7 : decode cX10_fewestToGo 7 = .ok (.bipush 8, 2) := by decide +kernel
theorem dX10_fewestToGo_9 : decode cX10_fewestToGo 9 = .ok (.if_icmp .ge 31, 3) := by decide +kernel
theorem dX10_fewestToGo_12 : decode cX10_fewestToGo 12 = .ok (.iload_n 1, 1) := by decide +kernel
theorem dX10_fewestToGo_13 : decode cX10_fewestToGo 13 = .ok (.iload_n 3, 1) := by decide +kernel
theorem dX10_fewestToGo_14 : decode cX10_fewestToGo 14 = .ok (.iconst 1, 1) := by decide +kernel
theorem dX10_fewestToGo_15 : decode cX10_fewestToGo 15 = .ok (.isub, 1) := by decide +kernel
theorem dX10_fewestToGo_16 : decode cX10_fewestToGo 16 = .ok (.ishr, 1) := by decide +kernel
theorem dX10_fewestToGo_17 : decode cX10_fewestToGo 17 = .ok (.iconst 3, 1) := by decide +kernel
theorem dX10_fewestToGo_18 : decode cX10_fewestToGo 18 = .ok (.iand, 1) := by decide +kernel
theorem dX10_fewestToGo_19 : decode cX10_fewestToGo 19 = .ok (.iconst 3, 1) := by decide +kernel
theorem dX10_fewestToGo_20 : decode cX10_fewestToGo 20 = .ok (.if_icmp .ne 14, 3) := by decide +kernel
theorem dX10_fewestToGo_23 : decode cX10_fewestToGo 23 = .ok (.iload_n 1, 1) := by decide +kernel
theorem dX10_fewestToGo_24 : decode cX10_fewestToGo 24 = .ok (.iconst 1, 1) := by decide +kernel
theorem dX10_fewestToGo_25 : decode cX10_fewestToGo 25 = .ok (.iload_n 3, 1) := by decide +kernel
theorem dX10_fewestToGo_26 : decode cX10_fewestToGo 26 = .ok (.ishl, 1) := by decide +kernel
theorem dX10_fewestToGo_27 : decode cX10_fewestToGo 27 = .ok (.iconst (-1), 1) := by decide +kernel
theorem dX10_fewestToGo_28 : decode cX10_fewestToGo 28 = .ok (.ixor, 1) := by decide +kernel
theorem dX10_fewestToGo_29 : decode cX10_fewestToGo 29 = .ok (.iand, 1) := by decide +kernel
theorem dX10_fewestToGo_30 : decode cX10_fewestToGo 30 = .ok (.istore_n 1, 1) := by decide +kernel
theorem dX10_fewestToGo_31 : decode cX10_fewestToGo 31 = .ok (.iinc 2 1, 3) := by decide +kernel
theorem dX10_fewestToGo_34 : decode cX10_fewestToGo 34 = .ok (.iinc 3 1, 3) := by decide +kernel
theorem dX10_fewestToGo_37 : decode cX10_fewestToGo 37 = .ok (.goto (-31), 3) := by decide +kernel
theorem dX10_fewestToGo_40 : decode cX10_fewestToGo 40 = .ok (.iload_n 2, 1) := by decide +kernel
theorem dX10_fewestToGo_41 : decode cX10_fewestToGo 41 = .ok (.ireturn, 1) := by decide +kernel
theorem dX10_saw_0 : decode cX10_saw 0 = .ok (.aload_n 0, 1) := by decide +kernel
theorem dX10_saw_1 : decode cX10_saw 1 = .ok (.getfield 19, 3) := by decide +kernel
theorem dX10_saw_4 : decode cX10_saw 4 = .ok (.iload_n 1, 1) := by decide +kernel
theorem dX10_saw_5 : decode cX10_saw 5 = .ok (.iload_n 2, 1) := by decide +kernel
theorem dX10_saw_6 : decode cX10_saw 6 = .ok (.invokevirtual 173, 3) := by decide +kernel
theorem dX10_saw_9 : decode cX10_saw 9 = .ok (.ifCond .eq 13, 3) := by decide +kernel
theorem dX10_saw_12 : decode cX10_saw 12 = .ok (.iload_n 3, 1) := by decide +kernel
theorem dX10_saw_13 : decode cX10_saw 13 = .ok (.ifCond .lt 9, 3) := by decide +kernel
theorem dX10_saw_16 : decode cX10_saw 16 = .ok (.iload_n 3, 1) := by decide +kernel
theorem dX10_saw_17 : decode cX10_saw 17 = .ok (.bipush 24, 2) := by decide +kernel
theorem dX10_saw_19 : decode cX10_saw 19 = .ok (.if_icmp .lt 5, 3) := by decide +kernel
theorem dX10_saw_22 : decode cX10_saw 22 = .ok (.iconst (-1), 1) := by decide +kernel
theorem dX10_saw_23 : decode cX10_saw 23 = .ok (.ireturn, 1) := by decide +kernel
theorem dX10_saw_24 : decode cX10_saw 24 = .ok (.aload_n 0, 1) := by decide +kernel
theorem dX10_saw_25 : decode cX10_saw 25 = .ok (.getfield 26, 3) := by decide +kernel
theorem dX10_saw_28 : decode cX10_saw 28 = .ok (.getfield 306, 3) := by decide +kernel
theorem dX10_saw_31 : decode cX10_saw 31 = .ok (.invokevirtual 235, 3) := by decide +kernel
theorem dX10_saw_34 : decode cX10_saw 34 = .ok (.ifCond .eq 6, 3) := by decide +kernel
theorem dX10_saw_37 : decode cX10_saw 37 = .ok (.bipush (-3), 2) := by decide +kernel
theorem dX10_saw_39 : decode cX10_saw 39 = .ok (.ireturn, 1) := by decide +kernel
theorem dX10_saw_40 : decode cX10_saw 40 = .ok (.aload_n 0, 1) := by decide +kernel
theorem dX10_saw_41 : decode cX10_saw 41 = .ok (.getfield 26, 3) := by decide +kernel
theorem dX10_saw_44 : decode cX10_saw 44 = .ok (.getfield 306, 3) := by decide +kernel
theorem dX10_saw_47 : decode cX10_saw 47 = .ok (.iload_n 1, 1) := by decide +kernel
theorem dX10_saw_48 : decode cX10_saw 48 = .ok (.iload_n 2, 1) := by decide +kernel
theorem dX10_saw_49 : decode cX10_saw 49 = .ok (.iload_n 3, 1) := by decide +kernel
theorem dX10_saw_50 : decode cX10_saw 50 = .ok (.iload 4, 2) := by decide +kernel
theorem dX10_saw_52 : decode cX10_saw 52 = .ok (.ifCond .eq 7, 3) := by decide +kernel
theorem dX10_saw_55 : decode cX10_saw 55 = .ok (.iconst 1, 1) := by decide +kernel
theorem dX10_saw_56 : decode cX10_saw 56 = .ok (.goto 4, 3) := by decide +kernel
theorem dX10_saw_59 : decode cX10_saw 59 = .ok (.iconst 0, 1) := by decide +kernel
theorem dX10_saw_60 : decode cX10_saw 60 = .ok (.invokevirtual 239, 3) := by decide +kernel
theorem dX10_saw_63 : decode cX10_saw 63 = .ok (.aload_n 0, 1) := by decide +kernel
theorem dX10_saw_64 : decode cX10_saw 64 = .ok (.getfield 26, 3) := by decide +kernel
theorem dX10_saw_67 : decode cX10_saw 67 = .ok (.getfield 306, 3) := by decide +kernel
theorem dX10_saw_70 : decode cX10_saw 70 = .ok (.getfield 129, 3) := by decide +kernel
theorem dX10_saw_73 : decode cX10_saw 73 = .ok (.ireturn, 1) := by decide +kernel
theorem dX10_forget_0 : decode cX10_forget 0 = .ok (.aload_n 0, 1) := by decide +kernel
theorem dX10_forget_1 : decode cX10_forget 1 = .ok (.getfield 26, 3) := by decide +kernel
theorem dX10_forget_4 : decode cX10_forget 4 = .ok (.getfield 306, 3) := by decide +kernel
theorem dX10_forget_7 : decode cX10_forget 7 = .ok (.invokevirtual 268, 3) := by decide +kernel
theorem dX10_forget_10 : decode cX10_forget 10 = .ok (.ireturn, 1) := by decide +kernel
theorem dX10_histories_0 : decode cX10_histories 0 = .ok (.iload_n 1, 1) := by decide +kernel
theorem dX10_histories_1 : decode cX10_histories 1 = .ok (.ifCond .lt 9, 3) := by decide +kernel
theorem dX10_histories_4 : decode cX10_histories 4 = .ok (.iload_n 1, 1) := by decide +kernel
theorem dX10_histories_5 : decode cX10_histories 5 = .ok (.bipush 24, 2) := by decide +kernel
theorem dX10_histories_7 : decode cX10_histories 7 = .ok (.if_icmp .lt 7, 3) := by decide +kernel
theorem dX10_histories_10 : decode cX10_histories 10 = .ok (.ldc2_w 309, 3) := by decide +kernel
theorem dX10_histories_13 : decode cX10_histories 13 = .ok (.lreturn, 1) := by decide +kernel
theorem dX10_histories_14 : decode cX10_histories 14 = .ok (.lconst 1, 1) := by decide +kernel
theorem dX10_histories_15 : decode cX10_histories 15 = .ok (.lstore_n 2, 1) := by decide +kernel
theorem dX10_histories_16 : decode cX10_histories 16 = .ok (.iconst 0, 1) := by decide +kernel
theorem dX10_histories_17 : decode cX10_histories 17 = .ok (.istore 4, 2) := by decide +kernel
theorem dX10_histories_19 : decode cX10_histories 19 = .ok (.iload 4, 2) := by decide +kernel
theorem dX10_histories_21 : decode cX10_histories 21 = .ok (.aload_n 0, 1) := by decide +kernel
theorem dX10_histories_22 : decode cX10_histories 22 = .ok (.getfield 19, 3) := by decide +kernel
theorem dX10_histories_25 : decode cX10_histories 25 = .ok (.getfield 116, 3) := by decide +kernel
theorem dX10_histories_28 : decode cX10_histories 28 = .ok (.if_icmp .ge 42, 3) := by decide +kernel
theorem dX10_histories_31 : decode cX10_histories 31 = .ok (.aload_n 0, 1) := by decide +kernel
theorem dX10_histories_32 : decode cX10_histories 32 = .ok (.getfield 65, 3) := by decide +kernel
theorem dX10_histories_35 : decode cX10_histories 35 = .ok (.iload 4, 2) := by decide +kernel
theorem dX10_histories_37 : decode cX10_histories 37 = .ok (.invokevirtual 311, 3) := by decide +kernel
theorem dX10_histories_40 : decode cX10_histories 40 = .ok (.ifCond .eq 24, 3) := by decide +kernel
theorem dX10_histories_43 : decode cX10_histories 43 = .ok (.aload_n 0, 1) := by decide +kernel
theorem dX10_histories_44 : decode cX10_histories 44 = .ok (.getfield 65, 3) := by decide +kernel
theorem dX10_histories_47 : decode cX10_histories 47 = .ok (.iload 4, 2) := by decide +kernel
theorem dX10_histories_49 : decode cX10_histories 49 = .ok (.iload_n 1, 1) := by decide +kernel
theorem dX10_histories_50 : decode cX10_histories 50 = .ok (.invokevirtual 314, 3) := by decide +kernel
theorem dX10_histories_53 : decode cX10_histories 53 = .ok (.lload_n 2, 1) := by decide +kernel
theorem dX10_histories_54 : decode cX10_histories 54 = .ok (.aload_n 0, 1) := by decide +kernel
theorem dX10_histories_55 : decode cX10_histories 55 = .ok (.getfield 65, 3) := by decide +kernel
theorem dX10_histories_58 : decode cX10_histories 58 = .ok (.getfield 318, 3) := by decide +kernel
theorem dX10_histories_61 : decode cX10_histories 61 = .ok (.i2l, 1) := by decide +kernel
theorem dX10_histories_62 : decode cX10_histories 62 = .ok (.lmul, 1) := by decide +kernel
theorem dX10_histories_63 : decode cX10_histories 63 = .ok (.lstore_n 2, 1) := by decide +kernel
theorem dX10_histories_64 : decode cX10_histories 64 = .ok (.iinc 4 1, 3) := by decide +kernel
theorem dX10_histories_67 : decode cX10_histories 67 = .ok (.goto (-48), 3) := by decide +kernel
theorem dX10_histories_70 : decode cX10_histories 70 = .ok (.lload_n 2, 1) := by decide +kernel
theorem dX10_histories_71 : decode cX10_histories 71 = .ok (.lreturn, 1) := by decide +kernel
theorem dX10_began_0 : decode cX10_began 0 = .ok (.aload_n 0, 1) := by decide +kernel
theorem dX10_began_1 : decode cX10_began 1 = .ok (.getfield 19, 3) := by decide +kernel
theorem dX10_began_4 : decode cX10_began 4 = .ok (.iconst 0, 1) := by decide +kernel
theorem dX10_began_5 : decode cX10_began 5 = .ok (.iload_n 1, 1) := by decide +kernel
theorem dX10_began_6 : decode cX10_began 6 = .ok (.invokevirtual 173, 3) := by decide +kernel
theorem dX10_began_9 : decode cX10_began 9 = .ok (.ifCond .eq 22, 3) := by decide +kernel
theorem dX10_began_12 : decode cX10_began 12 = .ok (.iload_n 2, 1) := by decide +kernel
theorem dX10_began_13 : decode cX10_began 13 = .ok (.ifCond .lt 18, 3) := by decide +kernel
theorem dX10_began_16 : decode cX10_began 16 = .ok (.iload_n 2, 1) := by decide +kernel
theorem dX10_began_17 : decode cX10_began 17 = .ok (.bipush 24, 2) := by decide +kernel
theorem dX10_began_19 : decode cX10_began 19 = .ok (.if_icmp .ge 12, 3) := by decide +kernel
theorem dX10_began_22 : decode cX10_began 22 = .ok (.iload_n 3, 1) := by decide +kernel
theorem dX10_began_23 : decode cX10_began 23 = .ok (.ifCond .lt 8, 3) := by decide +kernel
theorem dX10_began_26 : decode cX10_began 26 = .ok (.iload_n 3, 1) := by decide +kernel
theorem dX10_began_27 : decode cX10_began 27 = .ok (.iconst 2, 1) := by decide +kernel
theorem dX10_began_28 : decode cX10_began 28 = .ok (.if_icmp .le 5, 3) := by decide +kernel
theorem dX10_began_31 : decode cX10_began 31 = .ok (.iconst (-1), 1) := by decide +kernel
theorem dX10_began_32 : decode cX10_began 32 = .ok (.ireturn, 1) := by decide +kernel
theorem dX10_began_33 : decode cX10_began 33 = .ok (.aload_n 0, 1) := by decide +kernel
theorem dX10_began_34 : decode cX10_began 34 = .ok (.getfield 65, 3) := by decide +kernel
theorem dX10_began_37 : decode cX10_began 37 = .ok (.iload_n 1, 1) := by decide +kernel
theorem dX10_began_38 : decode cX10_began 38 = .ok (.invokevirtual 311, 3) := by decide +kernel
theorem dX10_began_41 : decode cX10_began 41 = .ok (.ifCond .ne 6, 3) := by decide +kernel
theorem dX10_began_44 : decode cX10_began 44 = .ok (.bipush (-2), 2) := by decide +kernel
theorem dX10_began_46 : decode cX10_began 46 = .ok (.ireturn, 1) := by decide +kernel
theorem dX10_began_47 : decode cX10_began 47 = .ok (.aload_n 0, 1) := by decide +kernel
theorem dX10_began_48 : decode cX10_began 48 = .ok (.getfield 65, 3) := by decide +kernel
theorem dX10_began_51 : decode cX10_began 51 = .ok (.iload_n 1, 1) := by decide +kernel
theorem dX10_began_52 : decode cX10_began 52 = .ok (.iload_n 2, 1) := by decide +kernel
theorem dX10_began_53 : decode cX10_began 53 = .ok (.invokevirtual 314, 3) := by decide +kernel
theorem dX10_began_56 : decode cX10_began 56 = .ok (.aload_n 0, 1) := by decide +kernel
theorem dX10_began_57 : decode cX10_began 57 = .ok (.getfield 65, 3) := by decide +kernel
theorem dX10_began_60 : decode cX10_began 60 = .ok (.getfield 318, 3) := by decide +kernel
theorem dX10_began_63 : decode cX10_began 63 = .ok (.ifCond .ne 6, 3) := by decide +kernel
theorem dX10_began_66 : decode cX10_began 66 = .ok (.bipush (-4), 2) := by decide +kernel
theorem dX10_began_68 : decode cX10_began 68 = .ok (.ireturn, 1) := by decide +kernel
theorem dX10_began_69 : decode cX10_began 69 = .ok (.iload_n 3, 1) := by decide +kernel
theorem dX10_began_70 : decode cX10_began 70 = .ok (.ifCond .ne 11, 3) := by decide +kernel
theorem dX10_began_73 : decode cX10_began 73 = .ok (.aload_n 0, 1) := by decide +kernel
theorem dX10_began_74 : decode cX10_began 74 = .ok (.getfield 65, 3) := by decide +kernel
theorem dX10_began_77 : decode cX10_began 77 = .ok (.invokevirtual 321, 3) := by decide +kernel
theorem dX10_began_80 : decode cX10_began 80 = .ok (.ireturn, 1) := by decide +kernel
theorem dX10_began_81 : decode cX10_began 81 = .ok (.iload_n 3, 1) := by decide +kernel
theorem dX10_began_82 : decode cX10_began 82 = .ok (.iconst 1, 1) := by decide +kernel
theorem dX10_began_83 : decode cX10_began 83 = .ok (.if_icmp .ne 13, 3) := by decide +kernel
theorem dX10_began_86 : decode cX10_began 86 = .ok (.aload_n 0, 1) := by decide +kernel
theorem dX10_began_87 : decode cX10_began 87 = .ok (.getfield 65, 3) := by decide +kernel
theorem dX10_began_90 : decode cX10_began 90 = .ok (.getfield 324, 3) := by decide +kernel
theorem dX10_began_93 : decode cX10_began 93 = .ok (.goto 10, 3) := by decide +kernel
theorem dX10_began_96 : decode cX10_began 96 = .ok (.aload_n 0, 1) := by decide +kernel
theorem dX10_began_97 : decode cX10_began 97 = .ok (.getfield 65, 3) := by decide +kernel
theorem dX10_began_100 : decode cX10_began 100 = .ok (.getfield 327, 3) := by decide +kernel
theorem dX10_began_103 : decode cX10_began 103 = .ok (.ireturn, 1) := by decide +kernel
theorem dX10_keep_0 : decode cX10_keep 0 = .ok (.iload_n 1, 1) := by decide +kernel
theorem dX10_keep_1 : decode cX10_keep 1 = .ok (.ifCond .lt 8, 3) := by decide +kernel
theorem dX10_keep_4 : decode cX10_keep 4 = .ok (.iload_n 1, 1) := by decide +kernel
theorem dX10_keep_5 : decode cX10_keep 5 = .ok (.iconst 2, 1) := by decide +kernel
theorem dX10_keep_6 : decode cX10_keep 6 = .ok (.if_icmp .lt 5, 3) := by decide +kernel
theorem dX10_keep_9 : decode cX10_keep 9 = .ok (.iconst (-1), 1) := by decide +kernel
theorem dX10_keep_10 : decode cX10_keep 10 = .ok (.ireturn, 1) := by decide +kernel
theorem dX10_keep_11 : decode cX10_keep 11 = .ok (.aload_n 0, 1) := by decide +kernel
theorem dX10_keep_12 : decode cX10_keep 12 = .ok (.getfield 73, 3) := by decide +kernel
theorem dX10_keep_15 : decode cX10_keep 15 = .ok (.iload_n 1, 1) := by decide +kernel
theorem dX10_keep_16 : decode cX10_keep 16 = .ok (.baload, 1) := by decide +kernel
theorem dX10_keep_17 : decode cX10_keep 17 = .ok (.ifCond .eq 7, 3) := by decide +kernel
theorem dX10_keep_20 : decode cX10_keep 20 = .ok (.iconst 1, 1) := by decide +kernel
theorem dX10_keep_21 : decode cX10_keep 21 = .ok (.goto 4, 3) := by decide +kernel
theorem dX10_keep_24 : decode cX10_keep 24 = .ok (.iconst 0, 1) := by decide +kernel
theorem dX10_keep_25 : decode cX10_keep 25 = .ok (.istore_n 2, 1) := by decide +kernel
theorem dX10_keep_26 : decode cX10_keep 26 = .ok (.aload_n 0, 1) := by decide +kernel
theorem dX10_keep_27 : decode cX10_keep 27 = .ok (.getfield 69, 3) := by decide +kernel
theorem dX10_keep_30 : decode cX10_keep 30 = .ok (.iload_n 1, 1) := by decide +kernel
theorem dX10_keep_31 : decode cX10_keep 31 = .ok (.aaload, 1) := by decide +kernel
theorem dX10_keep_32 : decode cX10_keep 32 = .ok (.aload_n 0, 1) := by decide +kernel
theorem dX10_keep_33 : decode cX10_keep 33 = .ok (.getfield 26, 3) := by decide +kernel
theorem dX10_keep_36 : decode cX10_keep 36 = .ok (.invokevirtual 110, 3) := by decide +kernel
theorem dX10_keep_39 : decode cX10_keep 39 = .ok (.aload_n 0, 1) := by decide +kernel
theorem dX10_keep_40 : decode cX10_keep 40 = .ok (.getfield 73, 3) := by decide +kernel
theorem dX10_keep_43 : decode cX10_keep 43 = .ok (.iload_n 1, 1) := by decide +kernel
theorem dX10_keep_44 : decode cX10_keep 44 = .ok (.iconst 1, 1) := by decide +kernel
theorem dX10_keep_45 : decode cX10_keep 45 = .ok (.bastore, 1) := by decide +kernel
theorem dX10_keep_46 : decode cX10_keep 46 = .ok (.iload_n 2, 1) := by decide +kernel
theorem dX10_keep_47 : decode cX10_keep 47 = .ok (.ireturn, 1) := by decide +kernel
theorem dX10_back_0 : decode cX10_back 0 = .ok (.iload_n 1, 1) := by decide +kernel
theorem dX10_back_1 : decode cX10_back 1 = .ok (.ifCond .lt 8, 3) := by decide +kernel
theorem dX10_back_4 : decode cX10_back 4 = .ok (.iload_n 1, 1) := by decide +kernel
theorem dX10_back_5 : decode cX10_back 5 = .ok (.iconst 2, 1) := by decide +kernel
theorem dX10_back_6 : decode cX10_back 6 = .ok (.if_icmp .lt 5, 3) := by decide +kernel
theorem dX10_back_9 : decode cX10_back 9 = .ok (.iconst (-1), 1) := by decide +kernel
theorem dX10_back_10 : decode cX10_back 10 = .ok (.ireturn, 1) := by decide +kernel
theorem dX10_back_11 : decode cX10_back 11 = .ok (.aload_n 0, 1) := by decide +kernel
theorem dX10_back_12 : decode cX10_back 12 = .ok (.getfield 73, 3) := by decide +kernel
theorem dX10_back_15 : decode cX10_back 15 = .ok (.iload_n 1, 1) := by decide +kernel
theorem dX10_back_16 : decode cX10_back 16 = .ok (.baload, 1) := by decide +kernel
theorem dX10_back_17 : decode cX10_back 17 = .ok (.ifCond .ne 6, 3) := by decide +kernel
theorem dX10_back_20 : decode cX10_back 20 = .ok (.bipush (-2), 2) := by decide +kernel
theorem dX10_back_22 : decode cX10_back 22 = .ok (.ireturn, 1) := by decide +kernel
theorem dX10_back_23 : decode cX10_back 23 = .ok (.aload_n 0, 1) := by decide +kernel
theorem dX10_back_24 : decode cX10_back 24 = .ok (.getfield 26, 3) := by decide +kernel
theorem dX10_back_27 : decode cX10_back 27 = .ok (.aload_n 0, 1) := by decide +kernel
theorem dX10_back_28 : decode cX10_back 28 = .ok (.getfield 69, 3) := by decide +kernel
theorem dX10_back_31 : decode cX10_back 31 = .ok (.iload_n 1, 1) := by decide +kernel
theorem dX10_back_32 : decode cX10_back 32 = .ok (.aaload, 1) := by decide +kernel
theorem dX10_back_33 : decode cX10_back 33 = .ok (.invokevirtual 110, 3) := by decide +kernel
theorem dX10_back_36 : decode cX10_back 36 = .ok (.aload_n 0, 1) := by decide +kernel
theorem dX10_back_37 : decode cX10_back 37 = .ok (.getfield 26, 3) := by decide +kernel
theorem dX10_back_40 : decode cX10_back 40 = .ok (.invokevirtual 329, 3) := by decide +kernel
theorem dX10_back_43 : decode cX10_back 43 = .ok (.ireturn, 1) := by decide +kernel
theorem dX10_sheet_0 : decode cX10_sheet 0 = .ok (.iload_n 1, 1) := by decide +kernel
theorem dX10_sheet_1 : decode cX10_sheet 1 = .ok (.invokestatic 332, 3) := by decide +kernel
theorem dX10_sheet_4 : decode cX10_sheet 4 = .ok (.ifCond .eq 16, 3) := by decide +kernel
theorem dX10_sheet_7 : decode cX10_sheet 7 = .ok (.iload_n 2, 1) := by decide +kernel
theorem dX10_sheet_8 : decode cX10_sheet 8 = .ok (.invokestatic 335, 3) := by decide +kernel
theorem dX10_sheet_11 : decode cX10_sheet 11 = .ok (.ifCond .eq 9, 3) := by decide +kernel
theorem dX10_sheet_14 : decode cX10_sheet 14 = .ok (.iload_n 3, 1) := by decide +kernel
theorem dX10_sheet_15 : decode cX10_sheet 15 = .ok (.bipush 40, 2) := by decide +kernel
theorem dX10_sheet_17 : decode cX10_sheet 17 = .ok (.if_icmp .le 5, 3) := by decide +kernel
theorem dX10_sheet_20 : decode cX10_sheet 20 = .ok (.iconst (-1), 1) := by decide +kernel
theorem dX10_sheet_21 : decode cX10_sheet 21 = .ok (.ireturn, 1) := by decide +kernel
theorem dX10_sheet_22 : decode cX10_sheet 22 = .ok (.iload_n 3, 1) := by decide +kernel
theorem dX10_sheet_23 : decode cX10_sheet 23 = .ok (.ifCond .ge 6, 3) := by decide +kernel
theorem dX10_sheet_26 : decode cX10_sheet 26 = .ok (.bipush (-14), 2) := by decide +kernel
theorem dX10_sheet_28 : decode cX10_sheet 28 = .ok (.ireturn, 1) := by decide +kernel
theorem dX10_sheet_29 : decode cX10_sheet 29 = .ok (.aload_n 0, 1) := by decide +kernel
theorem dX10_sheet_30 : decode cX10_sheet 30 = .ok (.getfield 79, 3) := by decide +kernel
theorem dX10_sheet_33 : decode cX10_sheet 33 = .ok (.iload_n 1, 1) := by decide +kernel
theorem dX10_sheet_34 : decode cX10_sheet 34 = .ok (.aaload, 1) := by decide +kernel
theorem dX10_sheet_35 : decode cX10_sheet 35 = .ok (.iload_n 2, 1) := by decide +kernel
theorem dX10_sheet_36 : decode cX10_sheet 36 = .ok (.iload_n 3, 1) := by decide +kernel
theorem dX10_sheet_37 : decode cX10_sheet 37 = .ok (.invokevirtual 338, 3) := by decide +kernel
theorem dX10_sheet_40 : decode cX10_sheet 40 = .ok (.iconst 1, 1) := by decide +kernel
theorem dX10_sheet_41 : decode cX10_sheet 41 = .ok (.ireturn, 1) := by decide +kernel
theorem dX10_lay_0 : decode cX10_lay 0 = .ok (.iload_n 1, 1) := by decide +kernel
theorem dX10_lay_1 : decode cX10_lay 1 = .ok (.invokestatic 332, 3) := by decide +kernel
theorem dX10_lay_4 : decode cX10_lay 4 = .ok (.ifCond .ne 5, 3) := by decide +kernel
theorem dX10_lay_7 : decode cX10_lay 7 = .ok (.iconst (-1), 1) := by decide +kernel
theorem dX10_lay_8 : decode cX10_lay 8 = .ok (.ireturn, 1) := by decide +kernel
theorem dX10_lay_9 : decode cX10_lay 9 = .ok (.aload_n 0, 1) := by decide +kernel
theorem dX10_lay_10 : decode cX10_lay 10 = .ok (.getfield 79, 3) := by decide +kernel
theorem dX10_lay_13 : decode cX10_lay 13 = .ok (.iload_n 1, 1) := by decide +kernel
theorem dX10_lay_14 : decode cX10_lay 14 = .ok (.aaload, 1) := by decide +kernel
theorem dX10_lay_15 : decode cX10_lay 15 = .ok (.iload_n 2, 1) := by decide +kernel
theorem dX10_lay_16 : decode cX10_lay 16 = .ok (.invokevirtual 341, 3) := by decide +kernel
theorem dX10_lay_19 : decode cX10_lay 19 = .ok (.istore 4, 2) := by decide +kernel
theorem dX10_lay_21 : decode cX10_lay 21 = .ok (.iload 4, 2) := by decide +kernel
theorem dX10_lay_23 : decode cX10_lay 23 = .ok (.ifCond .eq 9, 3) := by decide +kernel
theorem dX10_lay_26 : decode cX10_lay 26 = .ok (.bipush (-10), 2) := by decide +kernel
theorem dX10_lay_28 : decode cX10_lay 28 = .ok (.iload 4, 2) := by decide +kernel
theorem dX10_lay_30 : decode cX10_lay 30 = .ok (.isub, 1) := by decide +kernel
theorem dX10_lay_31 : decode cX10_lay 31 = .ok (.ireturn, 1) := by decide +kernel
theorem dX10_lay_32 : decode cX10_lay 32 = .ok (.aload_n 0, 1) := by decide +kernel
theorem dX10_lay_33 : decode cX10_lay 33 = .ok (.getfield 79, 3) := by decide +kernel
theorem dX10_lay_36 : decode cX10_lay 36 = .ok (.iload_n 1, 1) := by decide +kernel
theorem dX10_lay_37 : decode cX10_lay 37 = .ok (.aaload, 1) := by decide +kernel
theorem dX10_lay_38 : decode cX10_lay 38 = .ok (.iload_n 2, 1) := by decide +kernel
theorem dX10_lay_39 : decode cX10_lay 39 = .ok (.iload_n 3, 1) := by decide +kernel
theorem dX10_lay_40 : decode cX10_lay 40 = .ok (.invokevirtual 344, 3) := by decide +kernel
theorem dX10_lay_43 : decode cX10_lay 43 = .ok (.iconst 1, 1) := by decide +kernel
theorem dX10_lay_44 : decode cX10_lay 44 = .ok (.ireturn, 1) := by decide +kernel
theorem dX10_read_0 : decode cX10_read 0 = .ok (.iload_n 1, 1) := by decide +kernel
theorem dX10_read_1 : decode cX10_read 1 = .ok (.invokestatic 332, 3) := by decide +kernel
theorem dX10_read_4 : decode cX10_read 4 = .ok (.ifCond .eq 22, 3) := by decide +kernel
theorem dX10_read_7 : decode cX10_read 7 = .ok (.iload_n 2, 1) := by decide +kernel
theorem dX10_read_8 : decode cX10_read 8 = .ok (.invokestatic 335, 3) := by decide +kernel
theorem dX10_read_11 : decode cX10_read 11 = .ok (.ifCond .eq 15, 3) := by decide +kernel
theorem dX10_read_14 : decode cX10_read 14 = .ok (.iload 4, 2) := by decide +kernel
theorem dX10_read_16 : decode cX10_read 16 = .ok (.ifCond .lt 10, 3) := by decide +kernel
theorem dX10_read_19 : decode cX10_read 19 = .ok (.iload 4, 2) := by decide +kernel
theorem dX10_read_21 : decode cX10_read 21 = .ok (.bipush 13, 2) := by decide +kernel
theorem dX10_read_23 : decode cX10_read 23 = .ok (.if_icmp .le 5, 3) := by decide +kernel
theorem dX10_read_26 : decode cX10_read 26 = .ok (.iconst (-1), 1) := by decide +kernel
theorem dX10_read_27 : decode cX10_read 27 = .ok (.ireturn, 1) := by decide +kernel
theorem dX10_read_28 : decode cX10_read 28 = .ok (.aload_n 0, 1) := by decide +kernel
theorem dX10_read_29 : decode cX10_read 29 = .ok (.getfield 79, 3) := by decide +kernel
theorem dX10_read_32 : decode cX10_read 32 = .ok (.iload_n 1, 1) := by decide +kernel
theorem dX10_read_33 : decode cX10_read 33 = .ok (.aaload, 1) := by decide +kernel
theorem dX10_read_34 : decode cX10_read 34 = .ok (.astore 5, 2) := by decide +kernel
theorem dX10_read_36 : decode cX10_read 36 = .ok (.aload 5, 2) := by decide +kernel
theorem dX10_read_38 : decode cX10_read 38 = .ok (.iload_n 2, 1) := by decide +kernel
theorem dX10_read_39 : decode cX10_read 39 = .ok (.iload_n 3, 1) := by decide +kernel
theorem dX10_read_40 : decode cX10_read 40 = .ok (.iload 4, 2) := by decide +kernel
theorem dX10_read_42 : decode cX10_read 42 = .ok (.invokevirtual 347, 3) := by decide +kernel
theorem dX10_read_45 : decode cX10_read 45 = .ok (.istore 6, 2) := by decide +kernel
theorem dX10_read_47 : decode cX10_read 47 = .ok (.iload 6, 2) := by decide +kernel
theorem dX10_read_49 : decode cX10_read 49 = .ok (.ifCond .ne 8, 3) := by decide +kernel
theorem dX10_read_52 : decode cX10_read 52 = .ok (.iload 4, 2) := by decide +kernel
theorem dX10_read_54 : decode cX10_read 54 = .ok (.goto 12, 3) := by decide +kernel
theorem dX10_read_57 : decode cX10_read 57 = .ok (.aload 5, 2) := by decide +kernel
theorem dX10_read_59 : decode cX10_read 59 = .ok (.iload_n 2, 1) := by decide +kernel
theorem dX10_read_60 : decode cX10_read 60 = .ok (.iload_n 3, 1) := by decide +kernel
theorem dX10_read_61 : decode cX10_read 61 = .ok (.iload 4, 2) := by decide +kernel
theorem dX10_read_63 : decode cX10_read 63 = .ok (.invokevirtual 350, 3) := by decide +kernel
theorem dX10_read_66 : decode cX10_read 66 = .ok (.istore 7, 2) := by decide +kernel
theorem dX10_read_68 : decode cX10_read 68 = .ok (.iconst 0, 1) := by decide +kernel
theorem dX10_read_69 : decode cX10_read 69 = .ok (.istore 8, 2) := by decide +kernel
theorem dX10_read_71 : decode cX10_read 71 = .ok (.iload 8, 2) := by decide +kernel
theorem dX10_read_73 : decode cX10_read 73 = .ok (.iload 7, 2) := by decide +kernel
theorem dX10_read_75 : decode cX10_read 75 = .ok (.if_icmp .ge 64, 3) := by decide +kernel
theorem dX10_read_78 : decode cX10_read 78 = .ok (.iload_n 3, 1) := by decide +kernel
theorem dX10_read_79 : decode cX10_read 79 = .ok (.iconst 3, 1) := by decide +kernel
theorem dX10_read_80 : decode cX10_read 80 = .ok (.iload 8, 2) := by decide +kernel
theorem dX10_read_82 : decode cX10_read 82 = .ok (.imul, 1) := by decide +kernel
theorem dX10_read_83 : decode cX10_read 83 = .ok (.iadd, 1) := by decide +kernel
theorem dX10_read_84 : decode cX10_read 84 = .ok (.istore 9, 2) := by decide +kernel
theorem dX10_read_86 : decode cX10_read 86 = .ok (.aload_n 0, 1) := by decide +kernel
theorem dX10_read_87 : decode cX10_read 87 = .ok (.getfield 19, 3) := by decide +kernel
theorem dX10_read_90 : decode cX10_read 90 = .ok (.aload 5, 2) := by decide +kernel
theorem dX10_read_92 : decode cX10_read 92 = .ok (.iload 9, 2) := by decide +kernel
theorem dX10_read_94 : decode cX10_read 94 = .ok (.invokevirtual 353, 3) := by decide +kernel
theorem dX10_read_97 : decode cX10_read 97 = .ok (.aload 5, 2) := by decide +kernel
theorem dX10_read_99 : decode cX10_read 99 = .ok (.iload 9, 2) := by decide +kernel
theorem dX10_read_101 : decode cX10_read 101 = .ok (.iconst 1, 1) := by decide +kernel
theorem dX10_read_102 : decode cX10_read 102 = .ok (.iadd, 1) := by decide +kernel
theorem dX10_read_103 : decode cX10_read 103 = .ok (.invokevirtual 353, 3) := by decide +kernel
theorem dX10_read_106 : decode cX10_read 106 = .ok (.invokevirtual 173, 3) := by decide +kernel
theorem dX10_read_109 : decode cX10_read 109 = .ok (.ifCond .eq 18, 3) := by decide +kernel
theorem dX10_read_112 : decode cX10_read 112 = .ok (.aload 5, 2) := by decide +kernel
theorem dX10_read_114 : decode cX10_read 114 = .ok (.iload 9, 2) := by decide +kernel
theorem dX10_read_116 : decode cX10_read 116 = .ok (.iconst 2, 1) := by decide +kernel
theorem dX10_read_117 : decode cX10_read 117 = .ok (.iadd, 1) := by decide +kernel
theorem dX10_read_118 : decode cX10_read 118 = .ok (.invokevirtual 353, 3) := by decide +kernel
theorem dX10_read_121 : decode cX10_read 121 = .ok (.invokestatic 161, 3) := by decide +kernel
theorem dX10_read_124 : decode cX10_read 124 = .ok (.ifCond .ne 9, 3) := by decide +kernel
theorem dX10_read_127 : decode cX10_read 127 = .ok (.bipush (-20), 2) := by decide +kernel
theorem dX10_read_129 : decode cX10_read 129 = .ok (.iload 8, 2) := by decide +kernel
theorem dX10_read_131 : decode cX10_read 131 = .ok (.isub, 1) := by decide +kernel
theorem dX10_read_132 : decode cX10_read 132 = .ok (.ireturn, 1) := by decide +kernel
theorem dX10_read_133 : decode cX10_read 133 = .ok (.iinc 8 1, 3) := by decide +kernel
theorem dX10_read_136 : decode cX10_read 136 = .ok (.goto (-65), 3) := by decide +kernel
theorem dX10_read_139 : decode cX10_read 139 = .ok (.iconst 0, 1) := by decide +kernel
theorem dX10_read_140 : decode cX10_read 140 = .ok (.istore 8, 2) := by decide +kernel
theorem dX10_read_142 : decode cX10_read 142 = .ok (.iload 8, 2) := by decide +kernel
theorem dX10_read_144 : decode cX10_read 144 = .ok (.iload 7, 2) := by decide +kernel
theorem dX10_read_146 : decode cX10_read 146 = .ok (.if_icmp .ge 49, 3) := by decide +kernel
theorem dX10_read_149 : decode cX10_read 149 = .ok (.iload_n 3, 1) := by decide +kernel
theorem dX10_read_150 : decode cX10_read 150 = .ok (.iconst 3, 1) := by decide +kernel
theorem dX10_read_151 : decode cX10_read 151 = .ok (.iload 8, 2) := by decide +kernel
theorem dX10_read_153 : decode cX10_read 153 = .ok (.imul, 1) := by decide +kernel
theorem dX10_read_154 : decode cX10_read 154 = .ok (.iadd, 1) := by decide +kernel
theorem dX10_read_155 : decode cX10_read 155 = .ok (.istore 9, 2) := by decide +kernel
theorem dX10_read_157 : decode cX10_read 157 = .ok (.aload_n 0, 1) := by decide +kernel
theorem dX10_read_158 : decode cX10_read 158 = .ok (.getfield 26, 3) := by decide +kernel
theorem dX10_read_161 : decode cX10_read 161 = .ok (.aload 5, 2) := by decide +kernel
theorem dX10_read_163 : decode cX10_read 163 = .ok (.iload 9, 2) := by decide +kernel
theorem dX10_read_165 : decode cX10_read 165 = .ok (.invokevirtual 353, 3) := by decide +kernel
theorem dX10_read_168 : decode cX10_read 168 = .ok (.aload 5, 2) := by decide +kernel
theorem dX10_read_170 : decode cX10_read 170 = .ok (.iload 9, 2) := by decide +kernel
theorem dX10_read_172 : decode cX10_read 172 = .ok (.iconst 1, 1) := by decide +kernel
theorem dX10_read_173 : decode cX10_read 173 = .ok (.iadd, 1) := by decide +kernel
theorem dX10_read_174 : decode cX10_read 174 = .ok (.invokevirtual 353, 3) := by decide +kernel
theorem dX10_read_177 : decode cX10_read 177 = .ok (.aload 5, 2) := by decide +kernel
theorem dX10_read_179 : decode cX10_read 179 = .ok (.iload 9, 2) := by decide +kernel
theorem dX10_read_181 : decode cX10_read 181 = .ok (.iconst 2, 1) := by decide +kernel
theorem dX10_read_182 : decode cX10_read 182 = .ok (.iadd, 1) := by decide +kernel
theorem dX10_read_183 : decode cX10_read 183 = .ok (.invokevirtual 353, 3) := by decide +kernel
theorem dX10_read_186 : decode cX10_read 186 = .ok (.invokevirtual 179, 3) := by decide +kernel
theorem dX10_read_189 : decode cX10_read 189 = .ok (.iinc 8 1, 3) := by decide +kernel
theorem dX10_read_192 : decode cX10_read 192 = .ok (.goto (-50), 3) := by decide +kernel
theorem dX10_read_195 : decode cX10_read 195 = .ok (.aload_n 0, 1) := by decide +kernel
theorem dX10_read_196 : decode cX10_read 196 = .ok (.iload 6, 2) := by decide +kernel
theorem dX10_read_198 : decode cX10_read 198 = .ok (.putfield 355, 3) := by decide +kernel
theorem dX10_read_201 : decode cX10_read 201 = .ok (.iload 7, 2) := by decide +kernel
theorem dX10_read_203 : decode cX10_read 203 = .ok (.ireturn, 1) := by decide +kernel
theorem dX10_torn_0 : decode cX10_torn 0 = .ok (.aload_n 0, 1) := by decide +kernel
theorem dX10_torn_1 : decode cX10_torn 1 = .ok (.getfield 355, 3) := by decide +kernel
theorem dX10_torn_4 : decode cX10_torn 4 = .ok (.ireturn, 1) := by decide +kernel
theorem dX10_count_0 : decode cX10_count 0 = .ok (.iload_n 1, 1) := by decide +kernel
theorem dX10_count_1 : decode cX10_count 1 = .ok (.tableswitch 146 0 6 #[43, 51, 59, 70, 81, 111, 119], 43) := by decide +kernel
theorem dX10_count_44 : decode cX10_count 44 = .ok (.aload_n 0, 1) := by decide +kernel
theorem dX10_count_45 : decode cX10_count 45 = .ok (.getfield 26, 3) := by decide +kernel
theorem dX10_count_48 : decode cX10_count 48 = .ok (.invokevirtual 329, 3) := by decide +kernel
theorem dX10_count_51 : decode cX10_count 51 = .ok (.ireturn, 1) := by decide +kernel
theorem dX10_count_52 : decode cX10_count 52 = .ok (.aload_n 0, 1) := by decide +kernel
theorem dX10_count_53 : decode cX10_count 53 = .ok (.getfield 19, 3) := by decide +kernel
theorem dX10_count_56 : decode cX10_count 56 = .ok (.invokevirtual 358, 3) := by decide +kernel
theorem dX10_count_59 : decode cX10_count 59 = .ok (.ireturn, 1) := by decide +kernel
theorem dX10_count_60 : decode cX10_count 60 = .ok (.aload_n 0, 1) := by decide +kernel
theorem dX10_count_61 : decode cX10_count 61 = .ok (.getfield 26, 3) := by decide +kernel
theorem dX10_count_64 : decode cX10_count 64 = .ok (.getfield 265, 3) := by decide +kernel
theorem dX10_count_67 : decode cX10_count 67 = .ok (.getfield 129, 3) := by decide +kernel
theorem dX10_count_70 : decode cX10_count 70 = .ok (.ireturn, 1) := by decide +kernel
theorem dX10_count_71 : decode cX10_count 71 = .ok (.aload_n 0, 1) := by decide +kernel
theorem dX10_count_72 : decode cX10_count 72 = .ok (.getfield 26, 3) := by decide +kernel
theorem dX10_count_75 : decode cX10_count 75 = .ok (.getfield 306, 3) := by decide +kernel
theorem dX10_count_78 : decode cX10_count 78 = .ok (.getfield 129, 3) := by decide +kernel
theorem dX10_count_81 : decode cX10_count 81 = .ok (.ireturn, 1) := by decide +kernel
theorem dX10_count_82 : decode cX10_count 82 = .ok (.aload_n 0, 1) := by decide +kernel
theorem dX10_count_83 : decode cX10_count 83 = .ok (.getfield 73, 3) := by decide +kernel
theorem dX10_count_86 : decode cX10_count 86 = .ok (.iconst 0, 1) := by decide +kernel
theorem dX10_count_87 : decode cX10_count 87 = .ok (.baload, 1) := by decide +kernel
theorem dX10_count_88 : decode cX10_count 88 = .ok (.ifCond .eq 7, 3) := by decide +kernel
theorem dX10_count_91 : decode cX10_count 91 = .ok (.iconst 1, 1) := by decide +kernel
theorem dX10_count_92 : decode cX10_count 92 = .ok (.goto 4, 3) := by decide +kernel
theorem dX10_count_95 : decode cX10_count 95 = .ok (.iconst 0, 1) := by decide +kernel
theorem dX10_count_96 : decode cX10_count 96 = .ok (.aload_n 0, 1) := by decide +kernel
theorem dX10_count_97 : decode cX10_count 97 = .ok (.getfield 73, 3) := by decide +kernel
theorem dX10_count_100 : decode cX10_count 100 = .ok (.iconst 1, 1) := by decide +kernel
theorem dX10_count_101 : decode cX10_count 101 = .ok (.baload, 1) := by decide +kernel
theorem dX10_count_102 : decode cX10_count 102 = .ok (.ifCond .eq 7, 3) := by decide +kernel
theorem dX10_count_105 : decode cX10_count 105 = .ok (.iconst 1, 1) := by decide +kernel
theorem dX10_count_106 : decode cX10_count 106 = .ok (.goto 4, 3) := by decide +kernel
theorem dX10_count_109 : decode cX10_count 109 = .ok (.iconst 0, 1) := by decide +kernel
theorem dX10_count_110 : decode cX10_count 110 = .ok (.iadd, 1) := by decide +kernel
theorem dX10_count_111 : decode cX10_count 111 = .ok (.ireturn, 1) := by decide +kernel
theorem dX10_count_112 : decode cX10_count 112 = .ok (.aload_n 0, 1) := by decide +kernel
theorem dX10_count_113 : decode cX10_count 113 = .ok (.getfield 10, 3) := by decide +kernel
theorem dX10_count_116 : decode cX10_count 116 = .ok (.getfield 84, 3) := by decide +kernel
theorem dX10_count_119 : decode cX10_count 119 = .ok (.ireturn, 1) := by decide +kernel
theorem dX10_count_120 : decode cX10_count 120 = .ok (.aload_n 0, 1) := by decide +kernel
theorem dX10_count_121 : decode cX10_count 121 = .ok (.getfield 79, 3) := by decide +kernel
theorem dX10_count_124 : decode cX10_count 124 = .ok (.iconst 0, 1) := by decide +kernel
theorem dX10_count_125 : decode cX10_count 125 = .ok (.aaload, 1) := by decide +kernel
theorem dX10_count_126 : decode cX10_count 126 = .ok (.getfield 361, 3) := by decide +kernel
theorem dX10_count_129 : decode cX10_count 129 = .ok (.ifCond .ge 8, 3) := by decide +kernel
theorem dX10_count_132 : decode cX10_count 132 = .ok (.bipush (-4), 2) := by decide +kernel
theorem dX10_count_134 : decode cX10_count 134 = .ok (.goto 12, 3) := by decide +kernel
theorem dX10_count_137 : decode cX10_count 137 = .ok (.aload_n 0, 1) := by decide +kernel
theorem dX10_count_138 : decode cX10_count 138 = .ok (.getfield 79, 3) := by decide +kernel
theorem dX10_count_141 : decode cX10_count 141 = .ok (.iconst 0, 1) := by decide +kernel
theorem dX10_count_142 : decode cX10_count 142 = .ok (.aaload, 1) := by decide +kernel
theorem dX10_count_143 : decode cX10_count 143 = .ok (.getfield 361, 3) := by decide +kernel
theorem dX10_count_146 : decode cX10_count 146 = .ok (.ireturn, 1) := by decide +kernel
theorem dX10_count_147 : decode cX10_count 147 = .ok (.iconst (-1), 1) := by decide +kernel
theorem dX10_count_148 : decode cX10_count 148 = .ok (.ireturn, 1) := by decide +kernel
theorem dX10_isBank_0 : decode cX10_isBank 0 = .ok (.iload_n 0, 1) := by decide +kernel
theorem dX10_isBank_1 : decode cX10_isBank 1 = .ok (.ifCond .lt 12, 3) := by decide +kernel
theorem dX10_isBank_4 : decode cX10_isBank 4 = .ok (.iload_n 0, 1) := by decide +kernel
theorem dX10_isBank_5 : decode cX10_isBank 5 = .ok (.iconst 2, 1) := by decide +kernel
theorem dX10_isBank_6 : decode cX10_isBank 6 = .ok (.if_icmp .ge 7, 3) := by decide +kernel
theorem dX10_isBank_9 : decode cX10_isBank 9 = .ok (.iconst 1, 1) := by decide +kernel
theorem dX10_isBank_10 : decode cX10_isBank 10 = .ok (.goto 4, 3) := by decide +kernel
theorem dX10_isBank_13 : decode cX10_isBank 13 = .ok (.iconst 0, 1) := by decide +kernel
theorem dX10_isBank_14 : decode cX10_isBank 14 = .ok (.ireturn, 1) := by decide +kernel
theorem dX10_isKind_0 : decode cX10_isKind 0 = .ok (.iload_n 0, 1) := by decide +kernel
theorem dX10_isKind_1 : decode cX10_isKind 1 = .ok (.ifCond .lt 13, 3) := by decide +kernel
theorem dX10_isKind_4 : decode cX10_isKind 4 = .ok (.iload_n 0, 1) := by decide +kernel
theorem dX10_isKind_5 : decode cX10_isKind 5 = .ok (.bipush 6, 2) := by decide +kernel
theorem dX10_isKind_7 : decode cX10_isKind 7 = .ok (.if_icmp .ge 7, 3) := by decide +kernel
theorem dX10_isKind_10 : decode cX10_isKind 10 = .ok (.iconst 1, 1) := by decide +kernel
theorem dX10_isKind_11 : decode cX10_isKind 11 = .ok (.goto 4, 3) := by decide +kernel
theorem dX10_isKind_14 : decode cX10_isKind 14 = .ok (.iconst 0, 1) := by decide +kernel
theorem dX10_isKind_15 : decode cX10_isKind 15 = .ok (.ireturn, 1) := by decide +kernel
theorem dX10_isBuilt_0 : decode cX10_isBuilt 0 = .ok (.iload_n 0, 1) := by decide +kernel
theorem dX10_isBuilt_1 : decode cX10_isBuilt 1 = .ok (.iconst 1, 1) := by decide +kernel
theorem dX10_isBuilt_2 : decode cX10_isBuilt 2 = .ok (.if_icmp .lt 13, 3) := by decide +kernel
theorem dX10_isBuilt_5 : decode cX10_isBuilt 5 = .ok (.iload_n 0, 1) := by decide +kernel
theorem dX10_isBuilt_6 : decode cX10_isBuilt 6 = .ok (.bipush 6, 2) := by decide +kernel
theorem dX10_isBuilt_8 : decode cX10_isBuilt 8 = .ok (.if_icmp .ge 7, 3) := by decide +kernel
theorem dX10_isBuilt_11 : decode cX10_isBuilt 11 = .ok (.iconst 1, 1) := by decide +kernel
theorem dX10_isBuilt_12 : decode cX10_isBuilt 12 = .ok (.goto 4, 3) := by decide +kernel
theorem dX10_isBuilt_15 : decode cX10_isBuilt 15 = .ok (.iconst 0, 1) := by decide +kernel
theorem dX10_isBuilt_16 : decode cX10_isBuilt 16 = .ok (.ireturn, 1) := by decide +kernel
theorem dX10_isThing_0 : decode cX10_isThing 0 = .ok (.iload_n 0, 1) := by decide +kernel
theorem dX10_isThing_1 : decode cX10_isThing 1 = .ok (.ifCond .eq 23, 3) := by decide +kernel
theorem dX10_isThing_4 : decode cX10_isThing 4 = .ok (.iload_n 0, 1) := by decide +kernel
theorem dX10_isThing_5 : decode cX10_isThing 5 = .ok (.ifCond .le 23, 3) := by decide +kernel
theorem dX10_isThing_8 : decode cX10_isThing 8 = .ok (.iload_n 0, 1) := by decide +kernel
theorem dX10_isThing_9 : decode cX10_isThing 9 = .ok (.bipush 64, 2) := by decide +kernel
theorem dX10_isThing_11 : decode cX10_isThing 11 = .ok (.if_icmp .ge 17, 3) := by decide +kernel
theorem dX10_isThing_14 : decode cX10_isThing 14 = .ok (.iload_n 0, 1) := by decide +kernel
theorem dX10_isThing_15 : decode cX10_isThing 15 = .ok (.bipush 7, 2) := by decide +kernel
theorem dX10_isThing_17 : decode cX10_isThing 17 = .ok (.iand, 1) := by decide +kernel
theorem dX10_isThing_18 : decode cX10_isThing 18 = .ok (.invokestatic 243, 3) := by decide +kernel
theorem dX10_isThing_21 : decode cX10_isThing 21 = .ok (.ifCond .eq 7, 3) := by decide +kernel
theorem dX10_isThing_24 : decode cX10_isThing 24 = .ok (.iconst 1, 1) := by decide +kernel
theorem dX10_isThing_25 : decode cX10_isThing 25 = .ok (.goto 4, 3) := by decide +kernel
theorem dX10_isThing_28 : decode cX10_isThing 28 = .ok (.iconst 0, 1) := by decide +kernel
theorem dX10_isThing_29 : decode cX10_isThing 29 = .ok (.ireturn, 1) := by decide +kernel
theorem dX10_isSheet_0 : decode cX10_isSheet 0 = .ok (.iload_n 0, 1) := by decide +kernel
theorem dX10_isSheet_1 : decode cX10_isSheet 1 = .ok (.ifCond .lt 12, 3) := by decide +kernel
theorem dX10_isSheet_4 : decode cX10_isSheet 4 = .ok (.iload_n 0, 1) := by decide +kernel
theorem dX10_isSheet_5 : decode cX10_isSheet 5 = .ok (.iconst 4, 1) := by decide +kernel
theorem dX10_isSheet_6 : decode cX10_isSheet 6 = .ok (.if_icmp .ge 7, 3) := by decide +kernel
theorem dX10_isSheet_9 : decode cX10_isSheet 9 = .ok (.iconst 1, 1) := by decide +kernel
theorem dX10_isSheet_10 : decode cX10_isSheet 10 = .ok (.goto 4, 3) := by decide +kernel
theorem dX10_isSheet_13 : decode cX10_isSheet 13 = .ok (.iconst 0, 1) := by decide +kernel
theorem dX10_isSheet_14 : decode cX10_isSheet 14 = .ok (.ireturn, 1) := by decide +kernel
theorem dX10_isLane_0 : decode cX10_isLane 0 = .ok (.iload_n 0, 1) := by decide +kernel
theorem dX10_isLane_1 : decode cX10_isLane 1 = .ok (.ifCond .lt 12, 3) := by decide +kernel
theorem dX10_isLane_4 : decode cX10_isLane 4 = .ok (.iload_n 0, 1) := by decide +kernel
theorem dX10_isLane_5 : decode cX10_isLane 5 = .ok (.iconst 3, 1) := by decide +kernel
theorem dX10_isLane_6 : decode cX10_isLane 6 = .ok (.if_icmp .ge 7, 3) := by decide +kernel
theorem dX10_isLane_9 : decode cX10_isLane 9 = .ok (.iconst 1, 1) := by decide +kernel
theorem dX10_isLane_10 : decode cX10_isLane 10 = .ok (.goto 4, 3) := by decide +kernel
theorem dX10_isLane_13 : decode cX10_isLane 13 = .ok (.iconst 0, 1) := by decide +kernel
theorem dX10_isLane_14 : decode cX10_isLane 14 = .ok (.ireturn, 1) := by decide +kernel
theorem dX10_isSlot_0 : decode cX10_isSlot 0 = .ok (.iload_n 0, 1) := by decide +kernel
theorem dX10_isSlot_1 : decode cX10_isSlot 1 = .ok (.invokestatic 201, 3) := by decide +kernel
theorem dX10_isSlot_4 : decode cX10_isSlot 4 = .ok (.ifCond .eq 17, 3) := by decide +kernel
theorem dX10_isSlot_7 : decode cX10_isSlot 7 = .ok (.iload_n 1, 1) := by decide +kernel
theorem dX10_isSlot_8 : decode cX10_isSlot 8 = .ok (.ifCond .lt 13, 3) := by decide +kernel
theorem dX10_isSlot_11 : decode cX10_isSlot 11 = .ok (.iload_n 1, 1) := by decide +kernel
theorem dX10_isSlot_12 : decode cX10_isSlot 12 = .ok (.bipush 8, 2) := by decide +kernel
theorem dX10_isSlot_14 : decode cX10_isSlot 14 = .ok (.if_icmp .ge 7, 3) := by decide +kernel
theorem dX10_isSlot_17 : decode cX10_isSlot 17 = .ok (.iconst 1, 1) := by decide +kernel
theorem dX10_isSlot_18 : decode cX10_isSlot 18 = .ok (.goto 4, 3) := by decide +kernel
theorem dX10_isSlot_21 : decode cX10_isSlot 21 = .ok (.iconst 0, 1) := by decide +kernel
theorem dX10_isSlot_22 : decode cX10_isSlot 22 = .ok (.ireturn, 1) := by decide +kernel
theorem dX10_slot_0 : decode cX10_slot 0 = .ok (.iload_n 0, 1) := by decide +kernel
theorem dX10_slot_1 : decode cX10_slot 1 = .ok (.bipush 8, 2) := by decide +kernel
theorem dX10_slot_3 : decode cX10_slot 3 = .ok (.imul, 1) := by decide +kernel
theorem dX10_slot_4 : decode cX10_slot 4 = .ok (.iload_n 1, 1) := by decide +kernel
theorem dX10_slot_5 : decode cX10_slot 5 = .ok (.iadd, 1) := by decide +kernel
theorem dX10_slot_6 : decode cX10_slot 6 = .ok (.ireturn, 1) := by decide +kernel
