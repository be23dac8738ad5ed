theorem dX11_goMonth_163 : decode cX11_goMonth 163 = .ok (.bipush 8, 2) := by decide +kernel
theorem dX11_goMonth_165 : decode cX11_goMonth 165 = .ok (.iload_n 3, 1) := by decide +kernel
theorem dX11_goMonth_166 : decode cX11_goMonth 166 = .ok (.iadd, 1) := by decide +kernel
theorem dX11_goMonth_167 : decode cX11_goMonth 167 = .ok (.goto 4, 3) := by decide +kernel
theorem dX11_goMonth_170 : decode cX11_goMonth 170 = .ok (.iload_n 2, 1) := by decide +kernel
theorem dX11_goMonth_171 : decode cX11_goMonth 171 = .ok (.istore 7, 2) := by decide +kernel
theorem dX11_goMonth_173 : decode cX11_goMonth 173 = .ok (.aload_n 0, 1) := by decide +kernel
theorem dX11_goMonth_174 : decode cX11_goMonth 174 = .ok (.getfield 59, 3) := by decide +kernel
theorem dX11_goMonth_177 : decode cX11_goMonth 177 = .ok (.iload 6, 2) := by decide +kernel
theorem dX11_goMonth_179 : decode cX11_goMonth 179 = .ok (.aload_n 0, 1) := by decide +kernel
theorem dX11_goMonth_180 : decode cX11_goMonth 180 = .ok (.aload_n 0, 1) := by decide +kernel
theorem dX11_goMonth_181 : decode cX11_goMonth 181 = .ok (.getfield 59, 3) := by decide +kernel
theorem dX11_goMonth_184 : decode cX11_goMonth 184 = .ok (.iload 7, 2) := by decide +kernel
theorem dX11_goMonth_186 : decode cX11_goMonth 186 = .ok (.iaload, 1) := by decide +kernel
theorem dX11_goMonth_187 : decode cX11_goMonth 187 = .ok (.invokevirtual 276, 3) := by decide +kernel
theorem dX11_goMonth_190 : decode cX11_goMonth 190 = .ok (.iastore, 1) := by decide +kernel
theorem dX11_goMonth_191 : decode cX11_goMonth 191 = .ok (.aload_n 0, 1) := by decide +kernel
theorem dX11_goMonth_192 : decode cX11_goMonth 192 = .ok (.getfield 71, 3) := by decide +kernel
theorem dX11_goMonth_195 : decode cX11_goMonth 195 = .ok (.iload 5, 2) := by decide +kernel
theorem dX11_goMonth_197 : decode cX11_goMonth 197 = .ok (.dup2, 1) := by decide +kernel
theorem dX11_goMonth_198 : decode cX11_goMonth 198 = .ok (.iaload, 1) := by decide +kernel
theorem dX11_goMonth_199 : decode cX11_goMonth 199 = .ok (.aload_n 0, 1) := by decide +kernel
theorem dX11_goMonth_200 : decode cX11_goMonth 200 = .ok (.getfield 20, 3) := by decide +kernel
theorem dX11_goMonth_203 : decode cX11_goMonth 203 = .ok (.bipush 6, 2) := by decide +kernel
theorem dX11_goMonth_205 : decode cX11_goMonth 205 = .ok (.iload 5, 2) := by decide +kernel
theorem dX11_goMonth_207 : decode cX11_goMonth 207 = .ok (.imul, 1) := by decide +kernel
theorem dX11_goMonth_208 : decode cX11_goMonth 208 = .ok (.aload_n 0, 1) := by decide +kernel
theorem dX11_goMonth_209 : decode cX11_goMonth 209 = .ok (.getfield 59, 3) := by decide +kernel
theorem dX11_goMonth_212 : decode cX11_goMonth 212 = .ok (.iload 6, 2) := by decide +kernel
theorem dX11_goMonth_214 : decode cX11_goMonth 214 = .ok (.iaload, 1) := by decide +kernel
theorem dX11_goMonth_215 : decode cX11_goMonth 215 = .ok (.bipush 8, 2) := by decide +kernel
theorem dX11_goMonth_217 : decode cX11_goMonth 217 = .ok (.irem, 1) := by decide +kernel
theorem dX11_goMonth_218 : decode cX11_goMonth 218 = .ok (.iadd, 1) := by decide +kernel
theorem dX11_goMonth_219 : decode cX11_goMonth 219 = .ok (.iaload, 1) := by decide +kernel
theorem dX11_goMonth_220 : decode cX11_goMonth 220 = .ok (.iadd, 1) := by decide +kernel
theorem dX11_goMonth_221 : decode cX11_goMonth 221 = .ok (.iastore, 1) := by decide +kernel
theorem dX11_goMonth_222 : decode cX11_goMonth 222 = .ok (.aload_n 0, 1) := by decide +kernel
theorem dX11_goMonth_223 : decode cX11_goMonth 223 = .ok (.getfield 68, 3) := by decide +kernel
theorem dX11_goMonth_226 : decode cX11_goMonth 226 = .ok (.iload_n 2, 1) := by decide +kernel
theorem dX11_goMonth_227 : decode cX11_goMonth 227 = .ok (.aload_n 0, 1) := by decide +kernel
theorem dX11_goMonth_228 : decode cX11_goMonth 228 = .ok (.getfield 68, 3) := by decide +kernel
theorem dX11_goMonth_231 : decode cX11_goMonth 231 = .ok (.iload_n 2, 1) := by decide +kernel
theorem dX11_goMonth_232 : decode cX11_goMonth 232 = .ok (.baload, 1) := by decide +kernel
theorem dX11_goMonth_233 : decode cX11_goMonth 233 = .ok (.ifCond .ne 8, 3) := by decide +kernel
theorem dX11_goMonth_236 : decode cX11_goMonth 236 = .ok (.iload 4, 2) := by decide +kernel
theorem dX11_goMonth_238 : decode cX11_goMonth 238 = .ok (.ifCond .eq 7, 3) := by decide +kernel
theorem dX11_goMonth_241 : decode cX11_goMonth 241 = .ok (.iconst 1, 1) := by decide +kernel
theorem dX11_goMonth_242 : decode cX11_goMonth 242 = .ok (.goto 4, 3) := by decide +kernel
theorem dX11_goMonth_245 : decode cX11_goMonth 245 = .ok (.iconst 0, 1) := by decide +kernel
theorem dX11_goMonth_246 : decode cX11_goMonth 246 = .ok (.bastore, 1) := by decide +kernel
theorem dX11_goMonth_247 : decode cX11_goMonth 247 = .ok (.iinc 2 1, 3) := by decide +kernel
theorem dX11_goMonth_250 : decode cX11_goMonth 250 = .ok (.goto (-188), 3) := by decide +kernel
theorem dX11_goMonth_253 : decode cX11_goMonth 253 = .ok (.return_, 1) := by decide +kernel
theorem dX11_goRun_0 : decode cX11_goRun 0 = .ok (.aload_n 0, 1) := by decide +kernel
theorem dX11_goRun_1 : decode cX11_goRun 1 = .ok (.invokevirtual 304, 3) := by decide +kernel
theorem dX11_goRun_4 : decode cX11_goRun 4 = .ok (.iconst 0, 1) := by decide +kernel
theorem dX11_goRun_5 : decode cX11_goRun 5 = .ok (.istore_n 2, 1) := by decide +kernel
theorem dX11_goRun_6 : decode cX11_goRun 6 = .ok (.iload_n 2, 1) := by decide +kernel
theorem dX11_goRun_7 : decode cX11_goRun 7 = .ok (.iload_n 1, 1) := by decide +kernel
theorem dX11_goRun_8 : decode cX11_goRun 8 = .ok (.if_icmp .ge 14, 3) := by decide +kernel
theorem dX11_goRun_11 : decode cX11_goRun 11 = .ok (.aload_n 0, 1) := by decide +kernel
theorem dX11_goRun_12 : decode cX11_goRun 12 = .ok (.iload_n 2, 1) := by decide +kernel
theorem dX11_goRun_13 : decode cX11_goRun 13 = .ok (.invokevirtual 307, 3) := by decide +kernel
theorem dX11_goRun_16 : decode cX11_goRun 16 = .ok (.iinc 2 1, 3) := by decide +kernel
theorem dX11_goRun_19 : decode cX11_goRun 19 = .ok (.goto (-13), 3) := by decide +kernel
theorem dX11_goRun_22 : decode cX11_goRun 22 = .ok (.return_, 1) := by decide +kernel
theorem dX11_isMany_0 : decode cX11_isMany 0 = .ok (.iload_n 0, 1) := by decide +kernel
theorem dX11_isMany_1 : decode cX11_isMany 1 = .ok (.i2l, 1) := by decide +kernel
theorem dX11_isMany_2 : decode cX11_isMany 2 = .ok (.lconst 0, 1) := by decide +kernel
theorem dX11_isMany_3 : decode cX11_isMany 3 = .ok (.ldc2_w 310, 3) := by decide +kernel
theorem dX11_isMany_6 : decode cX11_isMany 6 = .ok (.invokestatic 146, 3) := by decide +kernel
theorem dX11_isMany_9 : decode cX11_isMany 9 = .ok (.ireturn, 1) := by decide +kernel
theorem dX11_after_0 : decode cX11_after 0 = .ok (.iload_n 1, 1) := by decide +kernel
theorem dX11_after_1 : decode cX11_after 1 = .ok (.invokestatic 312, 3) := by decide +kernel
theorem dX11_after_4 : decode cX11_after 4 = .ok (.ifCond .eq 12, 3) := by decide +kernel
theorem dX11_after_7 : decode cX11_after 7 = .ok (.aload_n 0, 1) := by decide +kernel
theorem dX11_after_8 : decode cX11_after 8 = .ok (.iload_n 2, 1) := by decide +kernel
theorem dX11_after_9 : decode cX11_after 9 = .ok (.iload_n 3, 1) := by decide +kernel
theorem dX11_after_10 : decode cX11_after 10 = .ok (.invokevirtual 282, 3) := by decide +kernel
theorem dX11_after_13 : decode cX11_after 13 = .ok (.ifCond .ne 5, 3) := by decide +kernel
theorem dX11_after_16 : decode cX11_after 16 = .ok (.iconst (-1), 1) := by decide +kernel
theorem dX11_after_17 : decode cX11_after 17 = .ok (.ireturn, 1) := by decide +kernel
theorem dX11_after_18 : decode cX11_after 18 = .ok (.aload_n 0, 1) := by decide +kernel
theorem dX11_after_19 : decode cX11_after 19 = .ok (.iload_n 1, 1) := by decide +kernel
theorem dX11_after_20 : decode cX11_after 20 = .ok (.invokevirtual 315, 3) := by decide +kernel
theorem dX11_after_23 : decode cX11_after 23 = .ok (.aload_n 0, 1) := by decide +kernel
theorem dX11_after_24 : decode cX11_after 24 = .ok (.getfield 59, 3) := by decide +kernel
theorem dX11_after_27 : decode cX11_after 27 = .ok (.bipush 8, 2) := by decide +kernel
theorem dX11_after_29 : decode cX11_after 29 = .ok (.iload_n 2, 1) := by decide +kernel
theorem dX11_after_30 : decode cX11_after 30 = .ok (.imul, 1) := by decide +kernel
theorem dX11_after_31 : decode cX11_after 31 = .ok (.iload_n 3, 1) := by decide +kernel
theorem dX11_after_32 : decode cX11_after 32 = .ok (.iadd, 1) := by decide +kernel
theorem dX11_after_33 : decode cX11_after 33 = .ok (.iaload, 1) := by decide +kernel
theorem dX11_after_34 : decode cX11_after 34 = .ok (.ireturn, 1) := by decide +kernel
theorem dX11_paid_0 : decode cX11_paid 0 = .ok (.iload_n 1, 1) := by decide +kernel
theorem dX11_paid_1 : decode cX11_paid 1 = .ok (.invokestatic 312, 3) := by decide +kernel
theorem dX11_paid_4 : decode cX11_paid 4 = .ok (.ifCond .eq 10, 3) := by decide +kernel
theorem dX11_paid_7 : decode cX11_paid 7 = .ok (.iload_n 2, 1) := by decide +kernel
theorem dX11_paid_8 : decode cX11_paid 8 = .ok (.invokestatic 279, 3) := by decide +kernel
theorem dX11_paid_11 : decode cX11_paid 11 = .ok (.ifCond .ne 5, 3) := by decide +kernel
theorem dX11_paid_14 : decode cX11_paid 14 = .ok (.iconst (-1), 1) := by decide +kernel
theorem dX11_paid_15 : decode cX11_paid 15 = .ok (.ireturn, 1) := by decide +kernel
theorem dX11_paid_16 : decode cX11_paid 16 = .ok (.aload_n 0, 1) := by decide +kernel
theorem dX11_paid_17 : decode cX11_paid 17 = .ok (.iload_n 1, 1) := by decide +kernel
theorem dX11_paid_18 : decode cX11_paid 18 = .ok (.invokevirtual 315, 3) := by decide +kernel
theorem dX11_paid_21 : decode cX11_paid 21 = .ok (.aload_n 0, 1) := by decide +kernel
theorem dX11_paid_22 : decode cX11_paid 22 = .ok (.getfield 71, 3) := by decide +kernel
theorem dX11_paid_25 : decode cX11_paid 25 = .ok (.iload_n 2, 1) := by decide +kernel
theorem dX11_paid_26 : decode cX11_paid 26 = .ok (.iaload, 1) := by decide +kernel
theorem dX11_paid_27 : decode cX11_paid 27 = .ok (.ireturn, 1) := by decide +kernel
theorem dX11_owes_0 : decode cX11_owes 0 = .ok (.iload_n 1, 1) := by decide +kernel
theorem dX11_owes_1 : decode cX11_owes 1 = .ok (.invokestatic 312, 3) := by decide +kernel
theorem dX11_owes_4 : decode cX11_owes 4 = .ok (.ifCond .eq 10, 3) := by decide +kernel
theorem dX11_owes_7 : decode cX11_owes 7 = .ok (.iload_n 2, 1) := by decide +kernel
theorem dX11_owes_8 : decode cX11_owes 8 = .ok (.invokestatic 279, 3) := by decide +kernel
theorem dX11_owes_11 : decode cX11_owes 11 = .ok (.ifCond .ne 5, 3) := by decide +kernel
theorem dX11_owes_14 : decode cX11_owes 14 = .ok (.iconst (-1), 1) := by decide +kernel
theorem dX11_owes_15 : decode cX11_owes 15 = .ok (.ireturn, 1) := by decide +kernel
theorem dX11_owes_16 : decode cX11_owes 16 = .ok (.aload_n 0, 1) := by decide +kernel
theorem dX11_owes_17 : decode cX11_owes 17 = .ok (.iload_n 1, 1) := by decide +kernel
theorem dX11_owes_18 : decode cX11_owes 18 = .ok (.invokevirtual 315, 3) := by decide +kernel
theorem dX11_owes_21 : decode cX11_owes 21 = .ok (.iconst 0, 1) := by decide +kernel
theorem dX11_owes_22 : decode cX11_owes 22 = .ok (.istore_n 3, 1) := by decide +kernel
theorem dX11_owes_23 : decode cX11_owes 23 = .ok (.iconst 0, 1) := by decide +kernel
theorem dX11_owes_24 : decode cX11_owes 24 = .ok (.istore 4, 2) := by decide +kernel
theorem dX11_owes_26 : decode cX11_owes 26 = .ok (.iload 4, 2) := by decide +kernel
theorem dX11_owes_28 : decode cX11_owes 28 = .ok (.aload_n 0, 1) := by decide +kernel
theorem dX11_owes_29 : decode cX11_owes 29 = .ok (.getfield 129, 3) := by decide +kernel
theorem dX11_owes_32 : decode cX11_owes 32 = .ok (.if_icmp .ge 52, 3) := by decide +kernel
theorem dX11_owes_35 : decode cX11_owes 35 = .ok (.aload_n 0, 1) := by decide +kernel
theorem dX11_owes_36 : decode cX11_owes 36 = .ok (.iload 4, 2) := by decide +kernel
theorem dX11_owes_38 : decode cX11_owes 38 = .ok (.invokevirtual 292, 3) := by decide +kernel
theorem dX11_owes_41 : decode cX11_owes 41 = .ok (.ifCond .ne 37, 3) := by decide +kernel
theorem dX11_owes_44 : decode cX11_owes 44 = .ok (.aload_n 0, 1) := by decide +kernel
theorem dX11_owes_45 : decode cX11_owes 45 = .ok (.getfield 62, 3) := by decide +kernel
theorem dX11_owes_48 : decode cX11_owes 48 = .ok (.iload 4, 2) := by decide +kernel
theorem dX11_owes_50 : decode cX11_owes 50 = .ok (.iaload, 1) := by decide +kernel
theorem dX11_owes_51 : decode cX11_owes 51 = .ok (.iconst 1, 1) := by decide +kernel
theorem dX11_owes_52 : decode cX11_owes 52 = .ok (.iload_n 2, 1) := by decide +kernel
theorem dX11_owes_53 : decode cX11_owes 53 = .ok (.isub, 1) := by decide +kernel
theorem dX11_owes_54 : decode cX11_owes 54 = .ok (.if_icmp .ne 24, 3) := by decide +kernel
theorem dX11_owes_57 : decode cX11_owes 57 = .ok (.iload_n 3, 1) := by decide +kernel
theorem dX11_owes_58 : decode cX11_owes 58 = .ok (.iconst 1, 1) := by decide +kernel
theorem dX11_owes_59 : decode cX11_owes 59 = .ok (.iload_n 2, 1) := by decide +kernel
theorem dX11_owes_60 : decode cX11_owes 60 = .ok (.ifCond .ne 8, 3) := by decide +kernel
theorem dX11_owes_63 : decode cX11_owes 63 = .ok (.iload 4, 2) := by decide +kernel
theorem dX11_owes_65 : decode cX11_owes 65 = .ok (.goto 10, 3) := by decide +kernel
theorem dX11_owes_68 : decode cX11_owes 68 = .ok (.aload_n 0, 1) := by decide +kernel
theorem dX11_owes_69 : decode cX11_owes 69 = .ok (.iconst 0, 1) := by decide +kernel
theorem dX11_owes_70 : decode cX11_owes 70 = .ok (.iload 4, 2) := by decide +kernel
theorem dX11_owes_72 : decode cX11_owes 72 = .ok (.invokevirtual 289, 3) := by decide +kernel
theorem dX11_owes_75 : decode cX11_owes 75 = .ok (.ishl, 1) := by decide +kernel
theorem dX11_owes_76 : decode cX11_owes 76 = .ok (.ior, 1) := by decide +kernel
theorem dX11_owes_77 : decode cX11_owes 77 = .ok (.istore_n 3, 1) := by decide +kernel
theorem dX11_owes_78 : decode cX11_owes 78 = .ok (.iinc 4 1, 3) := by decide +kernel
theorem dX11_owes_81 : decode cX11_owes 81 = .ok (.goto (-55), 3) := by decide +kernel
theorem dX11_owes_84 : decode cX11_owes 84 = .ok (.iload_n 3, 1) := by decide +kernel
theorem dX11_owes_85 : decode cX11_owes 85 = .ok (.ireturn, 1) := by decide +kernel
theorem dX11_fate_0 : decode cX11_fate 0 = .ok (.iload_n 1, 1) := by decide +kernel
theorem dX11_fate_1 : decode cX11_fate 1 = .ok (.i2l, 1) := by decide +kernel
theorem dX11_fate_2 : decode cX11_fate 2 = .ok (.lconst 0, 1) := by decide +kernel
theorem dX11_fate_3 : decode cX11_fate 3 = .ok (.aload_n 0, 1) := by decide +kernel
theorem dX11_fate_4 : decode cX11_fate 4 = .ok (.getfield 7, 3) := by decide +kernel
theorem dX11_fate_7 : decode cX11_fate 7 = .ok (.bipush 16, 2) := by decide +kernel
theorem dX11_fate_9 : decode cX11_fate 9 = .ok (.iaload, 1) := by decide +kernel
theorem dX11_fate_10 : decode cX11_fate 10 = .ok (.iconst 1, 1) := by decide +kernel
theorem dX11_fate_11 : decode cX11_fate 11 = .ok (.isub, 1) := by decide +kernel
theorem dX11_fate_12 : decode cX11_fate 12 = .ok (.i2l, 1) := by decide +kernel
theorem dX11_fate_13 : decode cX11_fate 13 = .ok (.invokestatic 146, 3) := by decide +kernel
theorem dX11_fate_16 : decode cX11_fate 16 = .ok (.ifCond .ne 5, 3) := by decide +kernel
theorem dX11_fate_19 : decode cX11_fate 19 = .ok (.iconst (-1), 1) := by decide +kernel
theorem dX11_fate_20 : decode cX11_fate 20 = .ok (.ireturn, 1) := by decide +kernel
theorem dX11_fate_21 : decode cX11_fate 21 = .ok (.aload_n 0, 1) := by decide +kernel
theorem dX11_fate_22 : decode cX11_fate 22 = .ok (.bipush 24, 2) := by decide +kernel
theorem dX11_fate_24 : decode cX11_fate 24 = .ok (.invokevirtual 315, 3) := by decide +kernel
theorem dX11_fate_27 : decode cX11_fate 27 = .ok (.aload_n 0, 1) := by decide +kernel
theorem dX11_fate_28 : decode cX11_fate 28 = .ok (.getfield 74, 3) := by decide +kernel
theorem dX11_fate_31 : decode cX11_fate 31 = .ok (.iload_n 1, 1) := by decide +kernel
theorem dX11_fate_32 : decode cX11_fate 32 = .ok (.iaload, 1) := by decide +kernel
theorem dX11_fate_33 : decode cX11_fate 33 = .ok (.ireturn, 1) := by decide +kernel
theorem dX11_uneven_0 : decode cX11_uneven 0 = .ok (.iload_n 1, 1) := by decide +kernel
theorem dX11_uneven_1 : decode cX11_uneven 1 = .ok (.i2l, 1) := by decide +kernel
theorem dX11_uneven_2 : decode cX11_uneven 2 = .ok (.lconst 0, 1) := by decide +kernel
theorem dX11_uneven_3 : decode cX11_uneven 3 = .ok (.lconst 1, 1) := by decide +kernel
theorem dX11_uneven_4 : decode cX11_uneven 4 = .ok (.invokestatic 146, 3) := by decide +kernel
theorem dX11_uneven_7 : decode cX11_uneven 7 = .ok (.ifCond .ne 5, 3) := by decide +kernel
theorem dX11_uneven_10 : decode cX11_uneven 10 = .ok (.iconst (-1), 1) := by decide +kernel
theorem dX11_uneven_11 : decode cX11_uneven 11 = .ok (.ireturn, 1) := by decide +kernel
theorem dX11_uneven_12 : decode cX11_uneven 12 = .ok (.aload_n 0, 1) := by decide +kernel
theorem dX11_uneven_13 : decode cX11_uneven 13 = .ok (.invokevirtual 304, 3) := by decide +kernel
theorem dX11_uneven_16 : decode cX11_uneven 16 = .ok (.iconst 0, 1) := by decide +kernel
theorem dX11_uneven_17 : decode cX11_uneven 17 = .ok (.istore_n 2, 1) := by decide +kernel
theorem dX11_uneven_18 : decode cX11_uneven 18 = .ok (.iload_n 2, 1) := by decide +kernel
theorem dX11_uneven_19 : decode cX11_uneven 19 = .ok (.bipush 24, 2) := by decide +kernel
theorem dX11_uneven_21 : decode cX11_uneven 21 = .ok (.if_icmp .ge 52, 3) := by decide +kernel
theorem dX11_uneven_24 : decode cX11_uneven 24 = .ok (.aload_n 0, 1) := by decide +kernel
theorem dX11_uneven_25 : decode cX11_uneven 25 = .ok (.iload_n 2, 1) := by decide +kernel
theorem dX11_uneven_26 : decode cX11_uneven 26 = .ok (.invokevirtual 307, 3) := by decide +kernel
theorem dX11_uneven_29 : decode cX11_uneven 29 = .ok (.aload_n 0, 1) := by decide +kernel
theorem dX11_uneven_30 : decode cX11_uneven 30 = .ok (.invokevirtual 298, 3) := by decide +kernel
theorem dX11_uneven_33 : decode cX11_uneven 33 = .ok (.istore_n 3, 1) := by decide +kernel
theorem dX11_uneven_34 : decode cX11_uneven 34 = .ok (.iload_n 3, 1) := by decide +kernel
theorem dX11_uneven_35 : decode cX11_uneven 35 = .ok (.ifCond .eq 32, 3) := by decide +kernel
theorem dX11_uneven_38 : decode cX11_uneven 38 = .ok (.iconst 0, 1) := by decide +kernel
theorem dX11_uneven_39 : decode cX11_uneven 39 = .ok (.istore 4, 2) := by decide +kernel
theorem dX11_uneven_41 : decode cX11_uneven 41 = .ok (.iload_n 3, 1) := by decide +kernel
theorem dX11_uneven_42 : decode cX11_uneven 42 = .ok (.iload 4, 2) := by decide +kernel
theorem dX11_uneven_44 : decode cX11_uneven 44 = .ok (.ishr, 1) := by decide +kernel
theorem dX11_uneven_45 : decode cX11_uneven 45 = .ok (.iconst 1, 1) := by decide +kernel
theorem dX11_uneven_46 : decode cX11_uneven 46 = .ok (.iand, 1) := by decide +kernel
theorem dX11_uneven_47 : decode cX11_uneven 47 = .ok (.ifCond .ne 9, 3) := by decide +kernel
theorem dX11_uneven_50 : decode cX11_uneven 50 = .ok (.iinc 4 1, 3) := by decide +kernel
theorem dX11_uneven_53 : decode cX11_uneven 53 = .ok (.goto (-12), 3) := by decide +kernel
theorem dX11_uneven_56 : decode cX11_uneven 56 = .ok (.iload_n 1, 1) := by decide +kernel
theorem dX11_uneven_57 : decode cX11_uneven 57 = .ok (.ifCond .ne 7, 3) := by decide +kernel
theorem dX11_uneven_60 : decode cX11_uneven 60 = .ok (.iload_n 2, 1) := by decide +kernel
theorem dX11_uneven_61 : decode cX11_uneven 61 = .ok (.goto 5, 3) := by decide +kernel
theorem dX11_uneven_64 : decode cX11_uneven 64 = .ok (.iload 4, 2) := by decide +kernel
theorem dX11_uneven_66 : decode cX11_uneven 66 = .ok (.ireturn, 1) := by decide +kernel
theorem dX11_uneven_67 : decode cX11_uneven 67 = .ok (.iinc 2 1, 3) := by decide +kernel
theorem dX11_uneven_70 : decode cX11_uneven 70 = .ok (.goto (-52), 3) := by decide +kernel
theorem dX11_uneven_73 : decode cX11_uneven 73 = .ok (.bipush (-4), 2) := by decide +kernel
theorem dX11_uneven_75 : decode cX11_uneven 75 = .ok (.ireturn, 1) := by decide +kernel
theorem dX11_go_0 : decode cX11_go 0 = .ok (.aload_n 0, 1) := by decide +kernel
theorem dX11_go_1 : decode cX11_go 1 = .ok (.bipush 24, 2) := by decide +kernel
theorem dX11_go_3 : decode cX11_go 3 = .ok (.invokevirtual 315, 3) := by decide +kernel
theorem dX11_go_6 : decode cX11_go 6 = .ok (.iconst 0, 1) := by decide +kernel
theorem dX11_go_7 : decode cX11_go 7 = .ok (.istore_n 1, 1) := by decide +kernel
theorem dX11_go_8 : decode cX11_go 8 = .ok (.iconst 0, 1) := by decide +kernel
theorem dX11_go_9 : decode cX11_go 9 = .ok (.istore_n 2, 1) := by decide +kernel
theorem dX11_go_10 : decode cX11_go 10 = .ok (.iload_n 2, 1) := by decide +kernel
theorem dX11_go_11 : decode cX11_go 11 = .ok (.aload_n 0, 1) := by decide +kernel
theorem dX11_go_12 : decode cX11_go 12 = .ok (.getfield 7, 3) := by decide +kernel
theorem dX11_go_15 : decode cX11_go 15 = .ok (.bipush 16, 2) := by decide +kernel
theorem dX11_go_17 : decode cX11_go 17 = .ok (.iaload, 1) := by decide +kernel
theorem dX11_go_18 : decode cX11_go 18 = .ok (.if_icmp .ge 29, 3) := by decide +kernel
theorem dX11_go_21 : decode cX11_go 21 = .ok (.iload_n 1, 1) := by decide +kernel
theorem dX11_go_22 : decode cX11_go 22 = .ok (.aload_n 0, 1) := by decide +kernel
theorem dX11_go_23 : decode cX11_go 23 = .ok (.getfield 74, 3) := by decide +kernel
theorem dX11_go_26 : decode cX11_go 26 = .ok (.iload_n 2, 1) := by decide +kernel
theorem dX11_go_27 : decode cX11_go 27 = .ok (.iaload, 1) := by decide +kernel
theorem dX11_go_28 : decode cX11_go 28 = .ok (.ifCond .ne 7, 3) := by decide +kernel
theorem dX11_go_31 : decode cX11_go 31 = .ok (.iconst 1, 1) := by decide +kernel
theorem dX11_go_32 : decode cX11_go 32 = .ok (.goto 4, 3) := by decide +kernel
theorem dX11_go_35 : decode cX11_go 35 = .ok (.iconst 0, 1) := by decide +kernel
theorem dX11_go_36 : decode cX11_go 36 = .ok (.invokestatic 265, 3) := by decide +kernel
theorem dX11_go_39 : decode cX11_go 39 = .ok (.iadd, 1) := by decide +kernel
theorem dX11_go_40 : decode cX11_go 40 = .ok (.istore_n 1, 1) := by decide +kernel
theorem dX11_go_41 : decode cX11_go 41 = .ok (.iinc 2 1, 3) := by decide +kernel
theorem dX11_go_44 : decode cX11_go 44 = .ok (.goto (-34), 3) := by decide +kernel
theorem dX11_go_47 : decode cX11_go 47 = .ok (.iconst 0, 1) := by decide +kernel
theorem dX11_go_48 : decode cX11_go 48 = .ok (.istore_n 2, 1) := by decide +kernel
theorem dX11_go_49 : decode cX11_go 49 = .ok (.iload_n 2, 1) := by decide +kernel
theorem dX11_go_50 : decode cX11_go 50 = .ok (.bipush 16, 2) := by decide +kernel
theorem dX11_go_52 : decode cX11_go 52 = .ok (.if_icmp .ge 21, 3) := by decide +kernel
theorem dX11_go_55 : decode cX11_go 55 = .ok (.aload_n 0, 1) := by decide +kernel
theorem dX11_go_56 : decode cX11_go 56 = .ok (.getfield 7, 3) := by decide +kernel
theorem dX11_go_59 : decode cX11_go 59 = .ok (.iload_n 2, 1) := by decide +kernel
theorem dX11_go_60 : decode cX11_go 60 = .ok (.aload_n 0, 1) := by decide +kernel
theorem dX11_go_61 : decode cX11_go 61 = .ok (.getfield 59, 3) := by decide +kernel
theorem dX11_go_64 : decode cX11_go 64 = .ok (.iload_n 2, 1) := by decide +kernel
theorem dX11_go_65 : decode cX11_go 65 = .ok (.iaload, 1) := by decide +kernel
theorem dX11_go_66 : decode cX11_go 66 = .ok (.iastore, 1) := by decide +kernel
theorem dX11_go_67 : decode cX11_go 67 = .ok (.iinc 2 1, 3) := by decide +kernel
theorem dX11_go_70 : decode cX11_go 70 = .ok (.goto (-21), 3) := by decide +kernel
theorem dX11_go_73 : decode cX11_go 73 = .ok (.aload_n 0, 1) := by decide +kernel
theorem dX11_go_74 : decode cX11_go 74 = .ok (.getfield 7, 3) := by decide +kernel
theorem dX11_go_77 : decode cX11_go 77 = .ok (.bipush 16, 2) := by decide +kernel
theorem dX11_go_79 : decode cX11_go 79 = .ok (.iconst 0, 1) := by decide +kernel
theorem dX11_go_80 : decode cX11_go 80 = .ok (.iastore, 1) := by decide +kernel
theorem dX11_go_81 : decode cX11_go 81 = .ok (.iload_n 1, 1) := by decide +kernel
theorem dX11_go_82 : decode cX11_go 82 = .ok (.ireturn, 1) := by decide +kernel
theorem dX11_plot_0 : decode cX11_plot 0 = .ok (.aload_n 0, 1) := by decide +kernel
theorem dX11_plot_1 : decode cX11_plot 1 = .ok (.getfield 7, 3) := by decide +kernel
theorem dX11_plot_4 : decode cX11_plot 4 = .ok (.bipush 16, 2) := by decide +kernel
theorem dX11_plot_6 : decode cX11_plot 6 = .ok (.iaload, 1) := by decide +kernel
theorem dX11_plot_7 : decode cX11_plot 7 = .ok (.istore 5, 2) := by decide +kernel
theorem dX11_plot_9 : decode cX11_plot 9 = .ok (.bipush 17, 2) := by decide +kernel
theorem dX11_plot_11 : decode cX11_plot 11 = .ok (.iconst 4, 1) := by decide +kernel
theorem dX11_plot_12 : decode cX11_plot 12 = .ok (.iload 5, 2) := by decide +kernel
theorem dX11_plot_14 : decode cX11_plot 14 = .ok (.imul, 1) := by decide +kernel
theorem dX11_plot_15 : decode cX11_plot 15 = .ok (.iadd, 1) := by decide +kernel
theorem dX11_plot_16 : decode cX11_plot 16 = .ok (.istore 6, 2) := by decide +kernel
theorem dX11_plot_18 : decode cX11_plot 18 = .ok (.iload_n 1, 1) := by decide +kernel
theorem dX11_plot_19 : decode cX11_plot 19 = .ok (.i2l, 1) := by decide +kernel
theorem dX11_plot_20 : decode cX11_plot 20 = .ok (.iload 5, 2) := by decide +kernel
theorem dX11_plot_22 : decode cX11_plot 22 = .ok (.ifCond .ne 7, 3) := by decide +kernel
theorem dX11_plot_25 : decode cX11_plot 25 = .ok (.lconst 0, 1) := by decide +kernel
theorem dX11_plot_26 : decode cX11_plot 26 = .ok (.goto 13, 3) := by decide +kernel
theorem dX11_plot_29 : decode cX11_plot 29 = .ok (.aload_n 0, 1) := by decide +kernel
theorem dX11_plot_30 : decode cX11_plot 30 = .ok (.getfield 7, 3) := by decide +kernel
theorem dX11_plot_33 : decode cX11_plot 33 = .ok (.iload 6, 2) := by decide +kernel
theorem dX11_plot_35 : decode cX11_plot 35 = .ok (.iconst 4, 1) := by decide +kernel
theorem dX11_plot_36 : decode cX11_plot 36 = .ok (.isub, 1) := by decide +kernel
theorem dX11_plot_37 : decode cX11_plot 37 = .ok (.iaload, 1) := by decide +kernel
theorem dX11_plot_38 : decode cX11_plot 38 = .ok (.i2l, 1) := by decide +kernel
theorem dX11_plot_39 : decode cX11_plot 39 = .ok (.ldc2_w 318, 3) := by decide +kernel
theorem dX11_plot_42 : decode cX11_plot 42 = .ok (.invokestatic 146, 3) := by decide +kernel
theorem dX11_plot_45 : decode cX11_plot 45 = .ok (.ifCond .eq 20, 3) := by decide +kernel
theorem dX11_plot_48 : decode cX11_plot 48 = .ok (.aload_n 0, 1) := by decide +kernel
theorem dX11_plot_49 : decode cX11_plot 49 = .ok (.iload_n 2, 1) := by decide +kernel
theorem dX11_plot_50 : decode cX11_plot 50 = .ok (.iload_n 3, 1) := by decide +kernel
theorem dX11_plot_51 : decode cX11_plot 51 = .ok (.invokevirtual 282, 3) := by decide +kernel
theorem dX11_plot_54 : decode cX11_plot 54 = .ok (.ifCond .eq 11, 3) := by decide +kernel
theorem dX11_plot_57 : decode cX11_plot 57 = .ok (.iload 4, 2) := by decide +kernel
theorem dX11_plot_59 : decode cX11_plot 59 = .ok (.invokestatic 273, 3) := by decide +kernel
theorem dX11_plot_62 : decode cX11_plot 62 = .ok (.ifCond .ne 5, 3) := by decide +kernel
theorem dX11_plot_65 : decode cX11_plot 65 = .ok (.iconst (-1), 1) := by decide +kernel
theorem dX11_plot_66 : decode cX11_plot 66 = .ok (.ireturn, 1) := by decide +kernel
theorem dX11_plot_67 : decode cX11_plot 67 = .ok (.iload 5, 2) := by decide +kernel
theorem dX11_plot_69 : decode cX11_plot 69 = .ok (.bipush 12, 2) := by decide +kernel
theorem dX11_plot_71 : decode cX11_plot 71 = .ok (.if_icmp .ne 6, 3) := by decide +kernel
theorem dX11_plot_74 : decode cX11_plot 74 = .ok (.bipush (-3), 2) := by decide +kernel
theorem dX11_plot_76 : decode cX11_plot 76 = .ok (.ireturn, 1) := by decide +kernel
theorem dX11_plot_77 : decode cX11_plot 77 = .ok (.aload_n 0, 1) := by decide +kernel
theorem dX11_plot_78 : decode cX11_plot 78 = .ok (.getfield 7, 3) := by decide +kernel
theorem dX11_plot_81 : decode cX11_plot 81 = .ok (.iload 6, 2) := by decide +kernel
theorem dX11_plot_83 : decode cX11_plot 83 = .ok (.iload_n 1, 1) := by decide +kernel
theorem dX11_plot_84 : decode cX11_plot 84 = .ok (.iastore, 1) := by decide +kernel
theorem dX11_plot_85 : decode cX11_plot 85 = .ok (.aload_n 0, 1) := by decide +kernel
theorem dX11_plot_86 : decode cX11_plot 86 = .ok (.getfield 7, 3) := by decide +kernel
theorem dX11_plot_89 : decode cX11_plot 89 = .ok (.iload 6, 2) := by decide +kernel
theorem dX11_plot_91 : decode cX11_plot 91 = .ok (.iconst 1, 1) := by decide +kernel
theorem dX11_plot_92 : decode cX11_plot 92 = .ok (.iadd, 1) := by decide +kernel
theorem dX11_plot_93 : decode cX11_plot 93 = .ok (.iload_n 2, 1) := by decide +kernel
theorem dX11_plot_94 : decode cX11_plot 94 = .ok (.iastore, 1) := by decide +kernel
theorem dX11_plot_95 : decode cX11_plot 95 = .ok (.aload_n 0, 1) := by decide +kernel
theorem dX11_plot_96 : decode cX11_plot 96 = .ok (.getfield 7, 3) := by decide +kernel
theorem dX11_plot_99 : decode cX11_plot 99 = .ok (.iload 6, 2) := by decide +kernel
theorem dX11_plot_101 : decode cX11_plot 101 = .ok (.iconst 2, 1) := by decide +kernel
theorem dX11_plot_102 : decode cX11_plot 102 = .ok (.iadd, 1) := by decide +kernel
theorem dX11_plot_103 : decode cX11_plot 103 = .ok (.iload_n 3, 1) := by decide +kernel
theorem dX11_plot_104 : decode cX11_plot 104 = .ok (.iastore, 1) := by decide +kernel
theorem dX11_plot_105 : decode cX11_plot 105 = .ok (.aload_n 0, 1) := by decide +kernel
theorem dX11_plot_106 : decode cX11_plot 106 = .ok (.getfield 7, 3) := by decide +kernel
theorem dX11_plot_109 : decode cX11_plot 109 = .ok (.iload 6, 2) := by decide +kernel
theorem dX11_plot_111 : decode cX11_plot 111 = .ok (.iconst 3, 1) := by decide +kernel
theorem dX11_plot_112 : decode cX11_plot 112 = .ok (.iadd, 1) := by decide +kernel
theorem dX11_plot_113 : decode cX11_plot 113 = .ok (.iload 4, 2) := by decide +kernel
theorem dX11_plot_115 : decode cX11_plot 115 = .ok (.iastore, 1) := by decide +kernel
theorem dX11_plot_116 : decode cX11_plot 116 = .ok (.aload_n 0, 1) := by decide +kernel
theorem dX11_plot_117 : decode cX11_plot 117 = .ok (.getfield 7, 3) := by decide +kernel
theorem dX11_plot_120 : decode cX11_plot 120 = .ok (.bipush 16, 2) := by decide +kernel
theorem dX11_plot_122 : decode cX11_plot 122 = .ok (.iload 5, 2) := by decide +kernel
theorem dX11_plot_124 : decode cX11_plot 124 = .ok (.iconst 1, 1) := by decide +kernel
theorem dX11_plot_125 : decode cX11_plot 125 = .ok (.iadd, 1) := by decide +kernel
theorem dX11_plot_126 : decode cX11_plot 126 = .ok (.iastore, 1) := by decide +kernel
theorem dX11_plot_127 : decode cX11_plot 127 = .ok (.iload 5, 2) := by decide +kernel
theorem dX11_plot_129 : decode cX11_plot 129 = .ok (.iconst 1, 1) := by decide +kernel
theorem dX11_plot_130 : decode cX11_plot 130 = .ok (.iadd, 1) := by decide +kernel
theorem dX11_plot_131 : decode cX11_plot 131 = .ok (.ireturn, 1) := by decide +kernel
theorem dX11_kindThere_0 : decode cX11_kindThere 0 = .ok (.aload_n 0, 1) := by decide +kernel
theorem dX11_kindThere_1 : decode cX11_kindThere 1 = .ok (.getfield 7, 3) := by decide +kernel
theorem dX11_kindThere_4 : decode cX11_kindThere 4 = .ok (.bipush 8, 2) := by decide +kernel
theorem dX11_kindThere_6 : decode cX11_kindThere 6 = .ok (.iload_n 1, 1) := by decide +kernel
theorem dX11_kindThere_7 : decode cX11_kindThere 7 = .ok (.imul, 1) := by decide +kernel
theorem dX11_kindThere_8 : decode cX11_kindThere 8 = .ok (.iload_n 2, 1) := by decide +kernel
theorem dX11_kindThere_9 : decode cX11_kindThere 9 = .ok (.iadd, 1) := by decide +kernel
theorem dX11_kindThere_10 : decode cX11_kindThere 10 = .ok (.iaload, 1) := by decide +kernel
theorem dX11_kindThere_11 : decode cX11_kindThere 11 = .ok (.bipush 8, 2) := by decide +kernel
theorem dX11_kindThere_13 : decode cX11_kindThere 13 = .ok (.irem, 1) := by decide +kernel
theorem dX11_kindThere_14 : decode cX11_kindThere 14 = .ok (.ireturn, 1) := by decide +kernel
theorem dX11_gainOf_0 : decode cX11_gainOf 0 = .ok (.aload_n 0, 1) := by decide +kernel
theorem dX11_gainOf_1 : decode cX11_gainOf 1 = .ok (.getfield 23, 3) := by decide +kernel
theorem dX11_gainOf_4 : decode cX11_gainOf 4 = .ok (.bipush 6, 2) := by decide +kernel
theorem dX11_gainOf_6 : decode cX11_gainOf 6 = .ok (.iload_n 1, 1) := by decide +kernel
theorem dX11_gainOf_7 : decode cX11_gainOf 7 = .ok (.imul, 1) := by decide +kernel
theorem dX11_gainOf_8 : decode cX11_gainOf 8 = .ok (.iload_n 3, 1) := by decide +kernel
theorem dX11_gainOf_9 : decode cX11_gainOf 9 = .ok (.iadd, 1) := by decide +kernel
theorem dX11_gainOf_10 : decode cX11_gainOf 10 = .ok (.iaload, 1) := by decide +kernel
theorem dX11_gainOf_11 : decode cX11_gainOf 11 = .ok (.aload_n 0, 1) := by decide +kernel
theorem dX11_gainOf_12 : decode cX11_gainOf 12 = .ok (.getfield 20, 3) := by decide +kernel
theorem dX11_gainOf_15 : decode cX11_gainOf 15 = .ok (.bipush 6, 2) := by decide +kernel
theorem dX11_gainOf_17 : decode cX11_gainOf 17 = .ok (.iload_n 1, 1) := by decide +kernel
theorem dX11_gainOf_18 : decode cX11_gainOf 18 = .ok (.imul, 1) := by decide +kernel
theorem dX11_gainOf_19 : decode cX11_gainOf 19 = .ok (.iload_n 3, 1) := by decide +kernel
theorem dX11_gainOf_20 : decode cX11_gainOf 20 = .ok (.iadd, 1) := by decide +kernel
theorem dX11_gainOf_21 : decode cX11_gainOf 21 = .ok (.iaload, 1) := by decide +kernel
theorem dX11_gainOf_22 : decode cX11_gainOf 22 = .ok (.isub, 1) := by decide +kernel
theorem dX11_gainOf_23 : decode cX11_gainOf 23 = .ok (.aload_n 0, 1) := by decide +kernel
theorem dX11_gainOf_24 : decode cX11_gainOf 24 = .ok (.getfield 23, 3) := by decide +kernel
theorem dX11_gainOf_27 : decode cX11_gainOf 27 = .ok (.bipush 6, 2) := by decide +kernel
theorem dX11_gainOf_29 : decode cX11_gainOf 29 = .ok (.iload_n 1, 1) := by decide +kernel
theorem dX11_gainOf_30 : decode cX11_gainOf 30 = .ok (.imul, 1) := by decide +kernel
theorem dX11_gainOf_31 : decode cX11_gainOf 31 = .ok (.aload_n 0, 1) := by decide +kernel
theorem dX11_gainOf_32 : decode cX11_gainOf 32 = .ok (.iload_n 1, 1) := by decide +kernel
theorem dX11_gainOf_33 : decode cX11_gainOf 33 = .ok (.iload_n 2, 1) := by decide +kernel
theorem dX11_gainOf_34 : decode cX11_gainOf 34 = .ok (.invokevirtual 320, 3) := by decide +kernel
theorem dX11_gainOf_37 : decode cX11_gainOf 37 = .ok (.iadd, 1) := by decide +kernel
theorem dX11_gainOf_38 : decode cX11_gainOf 38 = .ok (.iaload, 1) := by decide +kernel
theorem dX11_gainOf_39 : decode cX11_gainOf 39 = .ok (.isub, 1) := by decide +kernel
theorem dX11_gainOf_40 : decode cX11_gainOf 40 = .ok (.ireturn, 1) := by decide +kernel
theorem dX11_gain_0 : decode cX11_gain 0 = .ok (.aload_n 0, 1) := by decide +kernel
theorem dX11_gain_1 : decode cX11_gain 1 = .ok (.iload_n 1, 1) := by decide +kernel
theorem dX11_gain_2 : decode cX11_gain 2 = .ok (.iload_n 2, 1) := by decide +kernel
theorem dX11_gain_3 : decode cX11_gain 3 = .ok (.invokevirtual 282, 3) := by decide +kernel
theorem dX11_gain_6 : decode cX11_gain 6 = .ok (.ifCond .eq 29, 3) := by decide +kernel
theorem dX11_gain_9 : decode cX11_gain 9 = .ok (.iload_n 3, 1) := by decide +kernel
theorem dX11_gain_10 : decode cX11_gain 10 = .ok (.i2l, 1) := by decide +kernel
theorem dX11_gain_11 : decode cX11_gain 11 = .ok (.lconst 1, 1) := by decide +kernel
theorem dX11_gain_12 : decode cX11_gain 12 = .ok (.ldc2_w 255, 3) := by decide +kernel
theorem dX11_gain_15 : decode cX11_gain 15 = .ok (.invokestatic 146, 3) := by decide +kernel
theorem dX11_gain_18 : decode cX11_gain 18 = .ok (.ifCond .eq 17, 3) := by decide +kernel
theorem dX11_gain_21 : decode cX11_gain 21 = .ok (.aload_n 0, 1) := by decide +kernel
theorem dX11_gain_22 : decode cX11_gain 22 = .ok (.iload_n 1, 1) := by decide +kernel
theorem dX11_gain_23 : decode cX11_gain 23 = .ok (.iload_n 2, 1) := by decide +kernel
theorem dX11_gain_24 : decode cX11_gain 24 = .ok (.iload_n 3, 1) := by decide +kernel
theorem dX11_gain_25 : decode cX11_gain 25 = .ok (.invokevirtual 323, 3) := by decide +kernel
theorem dX11_gain_28 : decode cX11_gain 28 = .ok (.sipush 1000, 3) := by decide +kernel
theorem dX11_gain_31 : decode cX11_gain 31 = .ok (.iadd, 1) := by decide +kernel
theorem dX11_gain_32 : decode cX11_gain 32 = .ok (.goto 4, 3) := by decide +kernel
theorem dX11_gain_35 : decode cX11_gain 35 = .ok (.iconst (-1), 1) := by decide +kernel
theorem dX11_gain_36 : decode cX11_gain 36 = .ok (.ireturn, 1) := by decide +kernel
theorem dX11_mayBe_0 : decode cX11_mayBe 0 = .ok (.aload_n 0, 1) := by decide +kernel
theorem dX11_mayBe_1 : decode cX11_mayBe 1 = .ok (.iload_n 1, 1) := by decide +kernel
theorem dX11_mayBe_2 : decode cX11_mayBe 2 = .ok (.iload_n 3, 1) := by decide +kernel
theorem dX11_mayBe_3 : decode cX11_mayBe 3 = .ok (.invokevirtual 261, 3) := by decide +kernel
theorem dX11_mayBe_6 : decode cX11_mayBe 6 = .ok (.ifCond .ne 34, 3) := by decide +kernel
theorem dX11_mayBe_9 : decode cX11_mayBe 9 = .ok (.aload_n 0, 1) := by decide +kernel
theorem dX11_mayBe_10 : decode cX11_mayBe 10 = .ok (.iload_n 1, 1) := by decide +kernel
theorem dX11_mayBe_11 : decode cX11_mayBe 11 = .ok (.iload_n 2, 1) := by decide +kernel
theorem dX11_mayBe_12 : decode cX11_mayBe 12 = .ok (.invokevirtual 289, 3) := by decide +kernel
theorem dX11_mayBe_15 : decode cX11_mayBe 15 = .ok (.bipush (-4), 2) := by decide +kernel
theorem dX11_mayBe_17 : decode cX11_mayBe 17 = .ok (.if_icmp .eq 19, 3) := by decide +kernel
theorem dX11_mayBe_20 : decode cX11_mayBe 20 = .ok (.aload_n 0, 1) := by decide +kernel
theorem dX11_mayBe_21 : decode cX11_mayBe 21 = .ok (.iconst 1, 1) := by decide +kernel
theorem dX11_mayBe_22 : decode cX11_mayBe 22 = .ok (.iload_n 1, 1) := by decide +kernel
theorem dX11_mayBe_23 : decode cX11_mayBe 23 = .ok (.isub, 1) := by decide +kernel
theorem dX11_mayBe_24 : decode cX11_mayBe 24 = .ok (.aload_n 0, 1) := by decide +kernel
theorem dX11_mayBe_25 : decode cX11_mayBe 25 = .ok (.getfield 29, 3) := by decide +kernel
theorem dX11_mayBe_28 : decode cX11_mayBe 28 = .ok (.iload_n 3, 1) := by decide +kernel
theorem dX11_mayBe_29 : decode cX11_mayBe 29 = .ok (.iaload, 1) := by decide +kernel
theorem dX11_mayBe_30 : decode cX11_mayBe 30 = .ok (.invokevirtual 261, 3) := by decide +kernel
theorem dX11_mayBe_33 : decode cX11_mayBe 33 = .ok (.ifCond .ne 7, 3) := by decide +kernel
theorem dX11_mayBe_36 : decode cX11_mayBe 36 = .ok (.iconst 1, 1) := by decide +kernel
theorem dX11_mayBe_37 : decode cX11_mayBe 37 = .ok (.goto 4, 3) := by decide +kernel
theorem dX11_mayBe_40 : decode cX11_mayBe 40 = .ok (.iconst 0, 1) := by decide +kernel
theorem dX11_mayBe_41 : decode cX11_mayBe 41 = .ok (.ireturn, 1) := by decide +kernel
theorem dX11_beginOf_0 : decode cX11_beginOf 0 = .ok (.bipush (-4), 2) := by decide +kernel
theorem dX11_beginOf_2 : decode cX11_beginOf 2 = .ok (.istore_n 3, 1) := by decide +kernel
theorem dX11_beginOf_3 : decode cX11_beginOf 3 = .ok (.iconst 0, 1) := by decide +kernel
theorem dX11_beginOf_4 : decode cX11_beginOf 4 = .ok (.istore 4, 2) := by decide +kernel
theorem dX11_beginOf_6 : decode cX11_beginOf 6 = .ok (.iconst 1, 1) := by decide +kernel
theorem dX11_beginOf_7 : decode cX11_beginOf 7 = .ok (.istore 5, 2) := by decide +kernel
theorem dX11_beginOf_9 : decode cX11_beginOf 9 = .ok (.iload 5, 2) := by decide +kernel
theorem dX11_beginOf_11 : decode cX11_beginOf 11 = .ok (.bipush 6, 2) := by decide +kernel
theorem dX11_beginOf_13 : decode cX11_beginOf 13 = .ok (.if_icmp .ge 72, 3) := by decide +kernel
theorem dX11_beginOf_16 : decode cX11_beginOf 16 = .ok (.aload_n 0, 1) := by decide +kernel
theorem dX11_beginOf_17 : decode cX11_beginOf 17 = .ok (.iload_n 1, 1) := by decide +kernel
theorem dX11_beginOf_18 : decode cX11_beginOf 18 = .ok (.iload_n 2, 1) := by decide +kernel
theorem dX11_beginOf_19 : decode cX11_beginOf 19 = .ok (.iload 5, 2) := by decide +kernel
theorem dX11_beginOf_21 : decode cX11_beginOf 21 = .ok (.invokevirtual 326, 3) := by decide +kernel
theorem dX11_beginOf_24 : decode cX11_beginOf 24 = .ok (.ifCond .eq 20, 3) := by decide +kernel
theorem dX11_beginOf_27 : decode cX11_beginOf 27 = .ok (.aload_n 0, 1) := by decide +kernel
theorem dX11_beginOf_28 : decode cX11_beginOf 28 = .ok (.iload_n 1, 1) := by decide +kernel
theorem dX11_beginOf_29 : decode cX11_beginOf 29 = .ok (.iload_n 2, 1) := by decide +kernel
theorem dX11_beginOf_30 : decode cX11_beginOf 30 = .ok (.iload 5, 2) := by decide +kernel
theorem dX11_beginOf_32 : decode cX11_beginOf 32 = .ok (.invokevirtual 323, 3) := by decide +kernel
theorem dX11_beginOf_35 : decode cX11_beginOf 35 = .ok (.iload 4, 2) := by decide +kernel
theorem dX11_beginOf_37 : decode cX11_beginOf 37 = .ok (.if_icmp .le 7, 3) := by decide +kernel
theorem dX11_beginOf_40 : decode cX11_beginOf 40 = .ok (.iconst 1, 1) := by decide +kernel
theorem dX11_beginOf_41 : decode cX11_beginOf 41 = .ok (.goto 4, 3) := by decide +kernel
theorem dX11_beginOf_44 : decode cX11_beginOf 44 = .ok (.iconst 0, 1) := by decide +kernel
theorem dX11_beginOf_45 : decode cX11_beginOf 45 = .ok (.istore 6, 2) := by decide +kernel
theorem dX11_beginOf_47 : decode cX11_beginOf 47 = .ok (.iload 6, 2) := by decide +kernel
theorem dX11_beginOf_49 : decode cX11_beginOf 49 = .ok (.ifCond .eq 8, 3) := by decide +kernel
theorem dX11_beginOf_52 : decode cX11_beginOf 52 = .ok (.iload 5, 2) := by decide +kernel
theorem dX11_beginOf_54 : decode cX11_beginOf 54 = .ok (.goto 4, 3) := by decide +kernel
theorem dX11_beginOf_57 : decode cX11_beginOf 57 = .ok (.iload_n 3, 1) := by decide +kernel
theorem dX11_beginOf_58 : decode cX11_beginOf 58 = .ok (.istore_n 3, 1) := by decide +kernel
theorem dX11_beginOf_59 : decode cX11_beginOf 59 = .ok (.iload 6, 2) := by decide +kernel
theorem dX11_beginOf_61 : decode cX11_beginOf 61 = .ok (.ifCond .eq 14, 3) := by decide +kernel
theorem dX11_beginOf_64 : decode cX11_beginOf 64 = .ok (.aload_n 0, 1) := by decide +kernel
theorem dX11_beginOf_65 : decode cX11_beginOf 65 = .ok (.iload_n 1, 1) := by decide +kernel
theorem dX11_beginOf_66 : decode cX11_beginOf 66 = .ok (.iload_n 2, 1) := by decide +kernel
theorem dX11_beginOf_67 : decode cX11_beginOf 67 = .ok (.iload 5, 2) := by decide +kernel
theorem dX11_beginOf_69 : decode cX11_beginOf 69 = .ok (.invokevirtual 323, 3) := by decide +kernel
theorem dX11_beginOf_72 : decode cX11_beginOf 72 = .ok (.goto 5, 3) := by decide +kernel
theorem dX11_beginOf_75 : decode cX11_beginOf 75 = .ok (.iload 4, 2) := by decide +kernel
theorem dX11_beginOf_77 : decode cX11_beginOf 77 = .ok (.istore 4, 2) := by decide +kernel
theorem dX11_beginOf_79 : decode cX11_beginOf 79 = .ok (.iinc 5 1, 3) := by decide +kernel
theorem dX11_beginOf_82 : decode cX11_beginOf 82 = .ok (.goto (-73), 3) := by decide +kernel
theorem dX11_beginOf_85 : decode cX11_beginOf 85 = .ok (.iload_n 3, 1) := by decide +kernel
theorem dX11_beginOf_86 : decode cX11_beginOf 86 = .ok (.ireturn, 1) := by decide +kernel
theorem dX11_begin_0 : decode cX11_begin 0 = .ok (.aload_n 0, 1) := by decide +kernel
theorem dX11_begin_1 : decode cX11_begin 1 = .ok (.iload_n 1, 1) := by decide +kernel
theorem dX11_begin_2 : decode cX11_begin 2 = .ok (.iload_n 2, 1) := by decide +kernel
theorem dX11_begin_3 : decode cX11_begin 3 = .ok (.invokevirtual 282, 3) := by decide +kernel
theorem dX11_begin_6 : decode cX11_begin 6 = .ok (.ifCond .eq 13, 3) := by decide +kernel
theorem dX11_begin_9 : decode cX11_begin 9 = .ok (.iload_n 3, 1) := by decide +kernel
theorem dX11_begin_10 : decode cX11_begin 10 = .ok (.i2l, 1) := by decide +kernel
theorem dX11_begin_11 : decode cX11_begin 11 = .ok (.lconst 0, 1) := by decide +kernel
theorem dX11_begin_12 : decode cX11_begin 12 = .ok (.lconst 1, 1) := by decide +kernel
theorem dX11_begin_13 : decode cX11_begin 13 = .ok (.invokestatic 146, 3) := by decide +kernel
theorem dX11_begin_16 : decode cX11_begin 16 = .ok (.ifCond .ne 5, 3) := by decide +kernel
theorem dX11_begin_19 : decode cX11_begin 19 = .ok (.iconst (-1), 1) := by decide +kernel
theorem dX11_begin_20 : decode cX11_begin 20 = .ok (.ireturn, 1) := by decide +kernel
theorem dX11_begin_21 : decode cX11_begin 21 = .ok (.aload_n 0, 1) := by decide +kernel
theorem dX11_begin_22 : decode cX11_begin 22 = .ok (.iload_n 1, 1) := by decide +kernel
theorem dX11_begin_23 : decode cX11_begin 23 = .ok (.iload_n 2, 1) := by decide +kernel
theorem dX11_begin_24 : decode cX11_begin 24 = .ok (.invokevirtual 329, 3) := by decide +kernel
theorem dX11_begin_27 : decode cX11_begin 27 = .ok (.istore 4, 2) := by decide +kernel
theorem dX11_begin_29 : decode cX11_begin 29 = .ok (.iload 4, 2) := by decide +kernel
theorem dX11_begin_31 : decode cX11_begin 31 = .ok (.bipush (-4), 2) := by decide +kernel
theorem dX11_begin_33 : decode cX11_begin 33 = .ok (.if_icmp .ne 8, 3) := by decide +kernel
theorem dX11_begin_36 : decode cX11_begin 36 = .ok (.bipush (-4), 2) := by decide +kernel
theorem dX11_begin_38 : decode cX11_begin 38 = .ok (.goto 20, 3) := by decide +kernel
theorem dX11_begin_41 : decode cX11_begin 41 = .ok (.iload_n 3, 1) := by decide +kernel
theorem dX11_begin_42 : decode cX11_begin 42 = .ok (.ifCond .ne 8, 3) := by decide +kernel
theorem dX11_begin_45 : decode cX11_begin 45 = .ok (.iload 4, 2) := by decide +kernel
theorem dX11_begin_47 : decode cX11_begin 47 = .ok (.goto 11, 3) := by decide +kernel
theorem dX11_begin_50 : decode cX11_begin 50 = .ok (.aload_n 0, 1) := by decide +kernel
theorem dX11_begin_51 : decode cX11_begin 51 = .ok (.iload_n 1, 1) := by decide +kernel
theorem dX11_begin_52 : decode cX11_begin 52 = .ok (.iload_n 2, 1) := by decide +kernel
theorem dX11_begin_53 : decode cX11_begin 53 = .ok (.iload 4, 2) := by decide +kernel
theorem dX11_begin_55 : decode cX11_begin 55 = .ok (.invokevirtual 323, 3) := by decide +kernel
theorem dX11_begin_58 : decode cX11_begin 58 = .ok (.ireturn, 1) := by decide +kernel
theorem dX11_waits_0 : decode cX11_waits 0 = .ok (.aload_n 0, 1) := by decide +kernel
theorem dX11_waits_1 : decode cX11_waits 1 = .ok (.iload_n 1, 1) := by decide +kernel
theorem dX11_waits_2 : decode cX11_waits 2 = .ok (.iload_n 2, 1) := by decide +kernel
theorem dX11_waits_3 : decode cX11_waits 3 = .ok (.invokevirtual 282, 3) := by decide +kernel
theorem dX11_waits_6 : decode cX11_waits 6 = .ok (.ifCond .ne 5, 3) := by decide +kernel
theorem dX11_waits_9 : decode cX11_waits 9 = .ok (.iconst (-1), 1) := by decide +kernel
theorem dX11_waits_10 : decode cX11_waits 10 = .ok (.ireturn, 1) := by decide +kernel
theorem dX11_waits_11 : decode cX11_waits 11 = .ok (.aload_n 0, 1) := by decide +kernel
theorem dX11_waits_12 : decode cX11_waits 12 = .ok (.iload_n 1, 1) := by decide +kernel
theorem dX11_waits_13 : decode cX11_waits 13 = .ok (.iload_n 2, 1) := by decide +kernel
theorem dX11_waits_14 : decode cX11_waits 14 = .ok (.invokevirtual 289, 3) := by decide +kernel
theorem dX11_waits_17 : decode cX11_waits 17 = .ok (.istore_n 3, 1) := by decide +kernel
theorem dX11_waits_18 : decode cX11_waits 18 = .ok (.iload_n 3, 1) := by decide +kernel
theorem dX11_waits_19 : decode cX11_waits 19 = .ok (.bipush (-4), 2) := by decide +kernel
theorem dX11_waits_21 : decode cX11_waits 21 = .ok (.if_icmp .ne 6, 3) := by decide +kernel
theorem dX11_waits_24 : decode cX11_waits 24 = .ok (.bipush (-2), 2) := by decide +kernel
theorem dX11_waits_26 : decode cX11_waits 26 = .ok (.ireturn, 1) := by decide +kernel
theorem dX11_waits_27 : decode cX11_waits 27 = .ok (.aload_n 0, 1) := by decide +kernel
theorem dX11_waits_28 : decode cX11_waits 28 = .ok (.iconst 1, 1) := by decide +kernel
theorem dX11_waits_29 : decode cX11_waits 29 = .ok (.iload_n 1, 1) := by decide +kernel
theorem dX11_waits_30 : decode cX11_waits 30 = .ok (.isub, 1) := by decide +kernel
theorem dX11_waits_31 : decode cX11_waits 31 = .ok (.iload_n 3, 1) := by decide +kernel
theorem dX11_waits_32 : decode cX11_waits 32 = .ok (.invokevirtual 329, 3) := by decide +kernel
theorem dX11_waits_35 : decode cX11_waits 35 = .ok (.istore 4, 2) := by decide +kernel
theorem dX11_waits_37 : decode cX11_waits 37 = .ok (.sipush 1000, 3) := by decide +kernel
theorem dX11_waits_40 : decode cX11_waits 40 = .ok (.iload 4, 2) := by decide +kernel
theorem dX11_waits_42 : decode cX11_waits 42 = .ok (.bipush (-4), 2) := by decide +kernel
theorem dX11_waits_44 : decode cX11_waits 44 = .ok (.if_icmp .ne 7, 3) := by decide +kernel
theorem dX11_waits_47 : decode cX11_waits 47 = .ok (.iconst 0, 1) := by decide +kernel
theorem dX11_waits_48 : decode cX11_waits 48 = .ok (.goto 16, 3) := by decide +kernel
theorem dX11_waits_51 : decode cX11_waits 51 = .ok (.aload_n 0, 1) := by decide +kernel
theorem dX11_waits_52 : decode cX11_waits 52 = .ok (.iload_n 1, 1) := by decide +kernel
theorem dX11_waits_53 : decode cX11_waits 53 = .ok (.iload_n 2, 1) := by decide +kernel
theorem dX11_waits_54 : decode cX11_waits 54 = .ok (.aload_n 0, 1) := by decide +kernel
theorem dX11_waits_55 : decode cX11_waits 55 = .ok (.getfield 29, 3) := by decide +kernel
theorem dX11_waits_58 : decode cX11_waits 58 = .ok (.iload 4, 2) := by decide +kernel
theorem dX11_waits_60 : decode cX11_waits 60 = .ok (.iaload, 1) := by decide +kernel
theorem dX11_waits_61 : decode cX11_waits 61 = .ok (.invokevirtual 323, 3) := by decide +kernel
theorem dX11_waits_64 : decode cX11_waits 64 = .ok (.iadd, 1) := by decide +kernel
theorem dX11_waits_65 : decode cX11_waits 65 = .ok (.ireturn, 1) := by decide +kernel
theorem dX11_vex_0 : decode cX11_vex 0 = .ok (.iload_n 1, 1) := by decide +kernel
theorem dX11_vex_1 : decode cX11_vex 1 = .ok (.invokestatic 279, 3) := by decide +kernel
theorem dX11_vex_4 : decode cX11_vex 4 = .ok (.ifCond .eq 15, 3) := by decide +kernel
theorem dX11_vex_7 : decode cX11_vex 7 = .ok (.iload_n 2, 1) := by decide +kernel
theorem dX11_vex_8 : decode cX11_vex 8 = .ok (.i2l, 1) := by decide +kernel
theorem dX11_vex_9 : decode cX11_vex 9 = .ok (.lconst 0, 1) := by decide +kernel
theorem dX11_vex_10 : decode cX11_vex 10 = .ok (.ldc2_w 332, 3) := by decide +kernel
theorem dX11_vex_13 : decode cX11_vex 13 = .ok (.invokestatic 146, 3) := by decide +kernel
theorem dX11_vex_16 : decode cX11_vex 16 = .ok (.ifCond .ne 5, 3) := by decide +kernel
theorem dX11_vex_19 : decode cX11_vex 19 = .ok (.iconst (-1), 1) := by decide +kernel
theorem dX11_vex_20 : decode cX11_vex 20 = .ok (.ireturn, 1) := by decide +kernel
theorem dX11_vex_21 : decode cX11_vex 21 = .ok (.iconst 0, 1) := by decide +kernel
theorem dX11_vex_22 : decode cX11_vex 22 = .ok (.istore_n 3, 1) := by decide +kernel
theorem dX11_vex_23 : decode cX11_vex 23 = .ok (.iconst 0, 1) := by decide +kernel
theorem dX11_vex_24 : decode cX11_vex 24 = .ok (.istore 4, 2) := by decide +kernel
theorem dX11_vex_26 : decode cX11_vex 26 = .ok (.bipush (-4), 2) := by decide +kernel
theorem dX11_vex_28 : decode cX11_vex 28 = .ok (.istore 5, 2) := by decide +kernel
theorem dX11_vex_30 : decode cX11_vex 30 = .ok (.bipush (-4), 2) := by decide +kernel
theorem dX11_vex_32 : decode cX11_vex 32 = .ok (.istore 6, 2) := by decide +kernel
theorem dX11_vex_34 : decode cX11_vex 34 = .ok (.bipush 6, 2) := by decide +kernel
theorem dX11_vex_36 : decode cX11_vex 36 = .ok (.iconst 1, 1) := by decide +kernel
theorem dX11_vex_37 : decode cX11_vex 37 = .ok (.iload_n 1, 1) := by decide +kernel
theorem dX11_vex_38 : decode cX11_vex 38 = .ok (.isub, 1) := by decide +kernel
theorem dX11_vex_39 : decode cX11_vex 39 = .ok (.imul, 1) := by decide +kernel
theorem dX11_vex_40 : decode cX11_vex 40 = .ok (.istore 7, 2) := by decide +kernel
theorem dX11_vex_42 : decode cX11_vex 42 = .ok (.iconst 0, 1) := by decide +kernel
theorem dX11_vex_43 : decode cX11_vex 43 = .ok (.istore 8, 2) := by decide +kernel
theorem dX11_vex_45 : decode cX11_vex 45 = .ok (.iload 8, 2) := by decide +kernel
theorem dX11_vex_47 : decode cX11_vex 47 = .ok (.aload_n 0, 1) := by decide +kernel
theorem dX11_vex_48 : decode cX11_vex 48 = .ok (.getfield 129, 3) := by decide +kernel
theorem dX11_vex_51 : decode cX11_vex 51 = .ok (.if_icmp .ge 183, 3) := by decide +kernel
theorem dX11_vex_54 : decode cX11_vex 54 = .ok (.aload_n 0, 1) := by decide +kernel
theorem dX11_vex_55 : decode cX11_vex 55 = .ok (.iload_n 1, 1) := by decide +kernel
theorem dX11_vex_56 : decode cX11_vex 56 = .ok (.iload 8, 2) := by decide +kernel
theorem dX11_vex_58 : decode cX11_vex 58 = .ok (.invokevirtual 289, 3) := by decide +kernel
theorem dX11_vex_61 : decode cX11_vex 61 = .ok (.istore 9, 2) := by decide +kernel
theorem dX11_vex_63 : decode cX11_vex 63 = .ok (.iconst 1, 1) := by decide +kernel
theorem dX11_vex_64 : decode cX11_vex 64 = .ok (.istore 10, 2) := by decide +kernel
theorem dX11_vex_66 : decode cX11_vex 66 = .ok (.iload 10, 2) := by decide +kernel
theorem dX11_vex_68 : decode cX11_vex 68 = .ok (.bipush 6, 2) := by decide +kernel
theorem dX11_vex_70 : decode cX11_vex 70 = .ok (.if_icmp .ge 158, 3) := by decide +kernel
theorem dX11_vex_73 : decode cX11_vex 73 = .ok (.iload 9, 2) := by decide +kernel
theorem dX11_vex_75 : decode cX11_vex 75 = .ok (.bipush (-4), 2) := by decide +kernel
theorem dX11_vex_77 : decode cX11_vex 77 = .ok (.if_icmp .eq 151, 3) := by decide +kernel
theorem dX11_vex_80 : decode cX11_vex 80 = .ok (.aload_n 0, 1) := by decide +kernel
theorem dX11_vex_81 : decode cX11_vex 81 = .ok (.getfield 20, 3) := by decide +kernel
theorem dX11_vex_84 : decode cX11_vex 84 = .ok (.iload 7, 2) := by decide +kernel
theorem dX11_vex_86 : decode cX11_vex 86 = .ok (.aload_n 0, 1) := by decide +kernel
theorem dX11_vex_87 : decode cX11_vex 87 = .ok (.getfield 29, 3) := by decide +kernel
theorem dX11_vex_90 : decode cX11_vex 90 = .ok (.iload 10, 2) := by decide +kernel
theorem dX11_vex_92 : decode cX11_vex 92 = .ok (.iaload, 1) := by decide +kernel
theorem dX11_vex_93 : decode cX11_vex 93 = .ok (.iadd, 1) := by decide +kernel
theorem dX11_vex_94 : decode cX11_vex 94 = .ok (.iaload, 1) := by decide +kernel
theorem dX11_vex_95 : decode cX11_vex 95 = .ok (.aload_n 0, 1) := by decide +kernel
theorem dX11_vex_96 : decode cX11_vex 96 = .ok (.getfield 23, 3) := by decide +kernel
theorem dX11_vex_99 : decode cX11_vex 99 = .ok (.iload 7, 2) := by decide +kernel
theorem dX11_vex_101 : decode cX11_vex 101 = .ok (.aload_n 0, 1) := by decide +kernel
theorem dX11_vex_102 : decode cX11_vex 102 = .ok (.iconst 1, 1) := by decide +kernel
theorem dX11_vex_103 : decode cX11_vex 103 = .ok (.iload_n 1, 1) := by decide +kernel
theorem dX11_vex_104 : decode cX11_vex 104 = .ok (.isub, 1) := by decide +kernel
theorem dX11_vex_105 : decode cX11_vex 105 = .ok (.iload 9, 2) := by decide +kernel
theorem dX11_vex_107 : decode cX11_vex 107 = .ok (.invokevirtual 320, 3) := by decide +kernel
theorem dX11_vex_110 : decode cX11_vex 110 = .ok (.iadd, 1) := by decide +kernel
theorem dX11_vex_111 : decode cX11_vex 111 = .ok (.iaload, 1) := by decide +kernel
theorem dX11_vex_112 : decode cX11_vex 112 = .ok (.iadd, 1) := by decide +kernel
theorem dX11_vex_113 : decode cX11_vex 113 = .ok (.aload_n 0, 1) := by decide +kernel
theorem dX11_vex_114 : decode cX11_vex 114 = .ok (.getfield 23, 3) := by decide +kernel
theorem dX11_vex_117 : decode cX11_vex 117 = .ok (.iload 7, 2) := by decide +kernel
theorem dX11_vex_119 : decode cX11_vex 119 = .ok (.aload_n 0, 1) := by decide +kernel
theorem dX11_vex_120 : decode cX11_vex 120 = .ok (.getfield 29, 3) := by decide +kernel
theorem dX11_vex_123 : decode cX11_vex 123 = .ok (.iload 10, 2) := by decide +kernel
theorem dX11_vex_125 : decode cX11_vex 125 = .ok (.iaload, 1) := by decide +kernel
theorem dX11_vex_126 : decode cX11_vex 126 = .ok (.iadd, 1) := by decide +kernel
theorem dX11_vex_127 : decode cX11_vex 127 = .ok (.iaload, 1) := by decide +kernel
theorem dX11_vex_128 : decode cX11_vex 128 = .ok (.isub, 1) := by decide +kernel
theorem dX11_vex_129 : decode cX11_vex 129 = .ok (.istore 11, 2) := by decide +kernel
theorem dX11_vex_131 : decode cX11_vex 131 = .ok (.aload_n 0, 1) := by decide +kernel
theorem dX11_vex_132 : decode cX11_vex 132 = .ok (.getfield 20, 3) := by decide +kernel
theorem dX11_vex_135 : decode cX11_vex 135 = .ok (.bipush 6, 2) := by decide +kernel
theorem dX11_vex_137 : decode cX11_vex 137 = .ok (.iload_n 1, 1) := by decide +kernel
theorem dX11_vex_138 : decode cX11_vex 138 = .ok (.imul, 1) := by decide +kernel
theorem dX11_vex_139 : decode cX11_vex 139 = .ok (.iload 10, 2) := by decide +kernel
theorem dX11_vex_141 : decode cX11_vex 141 = .ok (.iadd, 1) := by decide +kernel
theorem dX11_vex_142 : decode cX11_vex 142 = .ok (.iaload, 1) := by decide +kernel
theorem dX11_vex_143 : decode cX11_vex 143 = .ok (.istore 12, 2) := by decide +kernel
theorem dX11_vex_145 : decode cX11_vex 145 = .ok (.aload_n 0, 1) := by decide +kernel
theorem dX11_vex_146 : decode cX11_vex 146 = .ok (.iload_n 1, 1) := by decide +kernel
theorem dX11_vex_147 : decode cX11_vex 147 = .ok (.iload 8, 2) := by decide +kernel
theorem dX11_vex_149 : decode cX11_vex 149 = .ok (.iload 10, 2) := by decide +kernel
theorem dX11_vex_151 : decode cX11_vex 151 = .ok (.invokevirtual 326, 3) := by decide +kernel
theorem dX11_vex_154 : decode cX11_vex 154 = .ok (.ifCond .eq 19, 3) := by decide +kernel
theorem dX11_vex_157 : decode cX11_vex 157 = .ok (.iload 10, 2) := by decide +kernel
theorem dX11_vex_159 : decode cX11_vex 159 = .ok (.aload_n 0, 1) := by decide +kernel
theorem dX11_vex_160 : decode cX11_vex 160 = .ok (.iload_n 1, 1) := by decide +kernel
theorem dX11_vex_161 : decode cX11_vex 161 = .ok (.iload 8, 2) := by decide +kernel
theorem dX11_vex_163 : decode cX11_vex 163 = .ok (.invokevirtual 320, 3) := by decide +kernel
theorem dX11_vex_166 : decode cX11_vex 166 = .ok (.if_icmp .eq 7, 3) := by decide +kernel
theorem dX11_vex_169 : decode cX11_vex 169 = .ok (.iconst 1, 1) := by decide +kernel
theorem dX11_vex_170 : decode cX11_vex 170 = .ok (.goto 4, 3) := by decide +kernel
theorem dX11_vex_173 : decode cX11_vex 173 = .ok (.iconst 0, 1) := by decide +kernel
theorem dX11_vex_174 : decode cX11_vex 174 = .ok (.istore 13, 2) := by decide +kernel
theorem dX11_vex_176 : decode cX11_vex 176 = .ok (.iload 13, 2) := by decide +kernel
theorem dX11_vex_178 : decode cX11_vex 178 = .ok (.ifCond .eq 44, 3) := by decide +kernel
theorem dX11_vex_181 : decode cX11_vex 181 = .ok (.iload 5, 2) := by decide +kernel
theorem dX11_vex_183 : decode cX11_vex 183 = .ok (.bipush (-4), 2) := by decide +kernel
theorem dX11_vex_185 : decode cX11_vex 185 = .ok (.if_icmp .eq 22, 3) := by decide +kernel
theorem dX11_vex_188 : decode cX11_vex 188 = .ok (.iload 11, 2) := by decide +kernel
theorem dX11_vex_190 : decode cX11_vex 190 = .ok (.iload_n 3, 1) := by decide +kernel
theorem dX11_vex_191 : decode cX11_vex 191 = .ok (.if_icmp .gt 16, 3) := by decide +kernel
theorem dX11_vex_194 : decode cX11_vex 194 = .ok (.iload 11, 2) := by decide +kernel
theorem dX11_vex_196 : decode cX11_vex 196 = .ok (.iload_n 3, 1) := by decide +kernel
theorem dX11_vex_197 : decode cX11_vex 197 = .ok (.if_icmp .ne 25, 3) := by decide +kernel
theorem dX11_vex_200 : decode cX11_vex 200 = .ok (.iload 12, 2) := by decide +kernel
theorem dX11_vex_202 : decode cX11_vex 202 = .ok (.iload 4, 2) := by decide +kernel
theorem dX11_vex_204 : decode cX11_vex 204 = .ok (.if_icmp .ge 18, 3) := by decide +kernel
theorem dX11_vex_207 : decode cX11_vex 207 = .ok (.iload 11, 2) := by decide +kernel
theorem dX11_vex_209 : decode cX11_vex 209 = .ok (.istore_n 3, 1) := by decide +kernel
theorem dX11_vex_210 : decode cX11_vex 210 = .ok (.iload 12, 2) := by decide +kernel
theorem dX11_vex_212 : decode cX11_vex 212 = .ok (.istore 4, 2) := by decide +kernel
theorem dX11_vex_214 : decode cX11_vex 214 = .ok (.iload 8, 2) := by decide +kernel
theorem dX11_vex_216 : decode cX11_vex 216 = .ok (.istore 5, 2) := by decide +kernel
theorem dX11_vex_218 : decode cX11_vex 218 = .ok (.iload 10, 2) := by decide +kernel
theorem dX11_vex_220 : decode cX11_vex 220 = .ok (.istore 6, 2) := by decide +kernel
theorem dX11_vex_222 : decode cX11_vex 222 = .ok (.iinc 10 1, 3) := by decide +kernel
theorem dX11_vex_225 : decode cX11_vex 225 = .ok (.goto (-159), 3) := by decide +kernel
theorem dX11_vex_228 : decode cX11_vex 228 = .ok (.iinc 8 1, 3) := by decide +kernel
theorem dX11_vex_231 : decode cX11_vex 231 = .ok (.goto (-186), 3) := by decide +kernel
theorem dX11_vex_234 : decode cX11_vex 234 = .ok (.iload 5, 2) := by decide +kernel
theorem dX11_vex_236 : decode cX11_vex 236 = .ok (.bipush (-4), 2) := by decide +kernel
theorem dX11_vex_238 : decode cX11_vex 238 = .ok (.if_icmp .ne 8, 3) := by decide +kernel
theorem dX11_vex_241 : decode cX11_vex 241 = .ok (.bipush (-4), 2) := by decide +kernel
theorem dX11_vex_243 : decode cX11_vex 243 = .ok (.goto 27, 3) := by decide +kernel
theorem dX11_vex_246 : decode cX11_vex 246 = .ok (.iload_n 2, 1) := by decide +kernel
theorem dX11_vex_247 : decode cX11_vex 247 = .ok (.ifCond .ne 11, 3) := by decide +kernel
theorem dX11_vex_250 : decode cX11_vex 250 = .ok (.iload_n 3, 1) := by decide +kernel
theorem dX11_vex_251 : decode cX11_vex 251 = .ok (.sipush 1000, 3) := by decide +kernel
theorem dX11_vex_254 : decode cX11_vex 254 = .ok (.iadd, 1) := by decide +kernel
theorem dX11_vex_255 : decode cX11_vex 255 = .ok (.goto 15, 3) := by decide +kernel
theorem dX11_vex_258 : decode cX11_vex 258 = .ok (.iload_n 2, 1) := by decide +kernel
theorem dX11_vex_259 : decode cX11_vex 259 = .ok (.iconst 1, 1) := by decide +kernel
theorem dX11_vex_260 : decode cX11_vex 260 = .ok (.if_icmp .ne 8, 3) := by decide +kernel
theorem dX11_vex_263 : decode cX11_vex 263 = .ok (.iload 5, 2) := by decide +kernel
theorem dX11_vex_265 : decode cX11_vex 265 = .ok (.goto 5, 3) := by decide +kernel
theorem dX11_vex_268 : decode cX11_vex 268 = .ok (.iload 6, 2) := by decide +kernel
theorem dX11_vex_270 : decode cX11_vex 270 = .ok (.ireturn, 1) := by decide +kernel
theorem dX11_want_0 : decode cX11_want 0 = .ok (.aload_n 0, 1) := by decide +kernel
theorem dX11_want_1 : decode cX11_want 1 = .ok (.iconst 0, 1) := by decide +kernel
theorem dX11_want_2 : decode cX11_want 2 = .ok (.iload_n 1, 1) := by decide +kernel
theorem dX11_want_3 : decode cX11_want 3 = .ok (.invokevirtual 282, 3) := by decide +kernel
theorem dX11_want_6 : decode cX11_want 6 = .ok (.ifCond .eq 15, 3) := by decide +kernel
theorem dX11_want_9 : decode cX11_want 9 = .ok (.iload_n 2, 1) := by decide +kernel
theorem dX11_want_10 : decode cX11_want 10 = .ok (.i2l, 1) := by decide +kernel
theorem dX11_want_11 : decode cX11_want 11 = .ok (.lconst 1, 1) := by decide +kernel
theorem dX11_want_12 : decode cX11_want 12 = .ok (.ldc2_w 255, 3) := by decide +kernel
theorem dX11_want_15 : decode cX11_want 15 = .ok (.invokestatic 146, 3) := by decide +kernel
theorem dX11_want_18 : decode cX11_want 18 = .ok (.ifCond .ne 5, 3) := by decide +kernel
theorem dX11_want_21 : decode cX11_want 21 = .ok (.iconst (-1), 1) := by decide +kernel
theorem dX11_want_22 : decode cX11_want 22 = .ok (.ireturn, 1) := by decide +kernel
theorem dX11_want_23 : decode cX11_want 23 = .ok (.aload_n 0, 1) := by decide +kernel
theorem dX11_want_24 : decode cX11_want 24 = .ok (.getfield 7, 3) := by decide +kernel
theorem dX11_want_27 : decode cX11_want 27 = .ok (.bipush 65, 2) := by decide +kernel
theorem dX11_want_29 : decode cX11_want 29 = .ok (.iaload, 1) := by decide +kernel
theorem dX11_want_30 : decode cX11_want 30 = .ok (.bipush 6, 2) := by decide +kernel
theorem dX11_want_32 : decode cX11_want 32 = .ok (.if_icmp .ne 6, 3) := by decide +kernel
theorem dX11_want_35 : decode cX11_want 35 = .ok (.bipush (-3), 2) := by decide +kernel
theorem dX11_want_37 : decode cX11_want 37 = .ok (.ireturn, 1) := by decide +kernel
theorem dX11_want_38 : decode cX11_want 38 = .ok (.bipush 66, 2) := by decide +kernel
theorem dX11_want_40 : decode cX11_want 40 = .ok (.iconst 2, 1) := by decide +kernel
theorem dX11_want_41 : decode cX11_want 41 = .ok (.aload_n 0, 1) := by decide +kernel
theorem dX11_want_42 : decode cX11_want 42 = .ok (.getfield 7, 3) := by decide +kernel
theorem dX11_want_45 : decode cX11_want 45 = .ok (.bipush 65, 2) := by decide +kernel
theorem dX11_want_47 : decode cX11_want 47 = .ok (.iaload, 1) := by decide +kernel
theorem dX11_want_48 : decode cX11_want 48 = .ok (.imul, 1) := by decide +kernel
theorem dX11_want_49 : decode cX11_want 49 = .ok (.iadd, 1) := by decide +kernel
theorem dX11_want_50 : decode cX11_want 50 = .ok (.istore_n 3, 1) := by decide +kernel
theorem dX11_want_51 : decode cX11_want 51 = .ok (.aload_n 0, 1) := by decide +kernel
theorem dX11_want_52 : decode cX11_want 52 = .ok (.getfield 7, 3) := by decide +kernel
theorem dX11_want_55 : decode cX11_want 55 = .ok (.iload_n 3, 1) := by decide +kernel
theorem dX11_want_56 : decode cX11_want 56 = .ok (.iload_n 1, 1) := by decide +kernel
theorem dX11_want_57 : decode cX11_want 57 = .ok (.iastore, 1) := by decide +kernel
theorem dX11_want_58 : decode cX11_want 58 = .ok (.aload_n 0, 1) := by decide +kernel
theorem dX11_want_59 : decode cX11_want 59 = .ok (.getfield 7, 3) := by decide +kernel
theorem dX11_want_62 : decode cX11_want 62 = .ok (.iload_n 3, 1) := by decide +kernel
theorem dX11_want_63 : decode cX11_want 63 = .ok (.iconst 1, 1) := by decide +kernel
theorem dX11_want_64 : decode cX11_want 64 = .ok (.iadd, 1) := by decide +kernel
theorem dX11_want_65 : decode cX11_want 65 = .ok (.iload_n 2, 1) := by decide +kernel
theorem dX11_want_66 : decode cX11_want 66 = .ok (.iastore, 1) := by decide +kernel
theorem dX11_want_67 : decode cX11_want 67 = .ok (.aload_n 0, 1) := by decide +kernel
theorem dX11_want_68 : decode cX11_want 68 = .ok (.getfield 7, 3) := by decide +kernel
theorem dX11_want_71 : decode cX11_want 71 = .ok (.bipush 65, 2) := by decide +kernel
theorem dX11_want_73 : decode cX11_want 73 = .ok (.dup2, 1) := by decide +kernel
theorem dX11_want_74 : decode cX11_want 74 = .ok (.iaload, 1) := by decide +kernel
theorem dX11_want_75 : decode cX11_want 75 = .ok (.iconst 1, 1) := by decide +kernel
theorem dX11_want_76 : decode cX11_want 76 = .ok (.iadd, 1) := by decide +kernel
theorem dX11_want_77 : decode cX11_want 77 = .ok (.iastore, 1) := by decide +kernel
theorem dX11_want_78 : decode cX11_want 78 = .ok (.aload_n 0, 1) := by decide +kernel
theorem dX11_want_79 : decode cX11_want 79 = .ok (.getfield 7, 3) := by decide +kernel
theorem dX11_want_82 : decode cX11_want 82 = .ok (.bipush 65, 2) := by decide +kernel
theorem dX11_want_84 : decode cX11_want 84 = .ok (.iaload, 1) := by decide +kernel
theorem dX11_want_85 : decode cX11_want 85 = .ok (.ireturn, 1) := by decide +kernel
theorem dX11_content_0 : decode cX11_content 0 = .ok (.aload_n 0, 1) := by decide +kernel
theorem dX11_content_1 : decode cX11_content 1 = .ok (.getfield 7, 3) := by decide +kernel
theorem dX11_content_4 : decode cX11_content 4 = .ok (.bipush 65, 2) := by decide +kernel
theorem dX11_content_6 : decode cX11_content 6 = .ok (.iaload, 1) := by decide +kernel
theorem dX11_content_7 : decode cX11_content 7 = .ok (.istore_n 1, 1) := by decide +kernel
theorem dX11_content_8 : decode cX11_content 8 = .ok (.aload_n 0, 1) := by decide +kernel
theorem dX11_content_9 : decode cX11_content 9 = .ok (.getfield 7, 3) := by decide +kernel
theorem dX11_content_12 : decode cX11_content 12 = .ok (.bipush 65, 2) := by decide +kernel
theorem dX11_content_14 : decode cX11_content 14 = .ok (.iconst 0, 1) := by decide +kernel
theorem dX11_content_15 : decode cX11_content 15 = .ok (.iastore, 1) := by decide +kernel
theorem dX11_content_16 : decode cX11_content 16 = .ok (.iload_n 1, 1) := by decide +kernel
theorem dX11_content_17 : decode cX11_content 17 = .ok (.ireturn, 1) := by decide +kernel
theorem dX11_bitsOf_0 : decode cX11_bitsOf 0 = .ok (.iconst 0, 1) := by decide +kernel
theorem dX11_bitsOf_1 : decode cX11_bitsOf 1 = .ok (.istore_n 1, 1) := by decide +kernel
theorem dX11_bitsOf_2 : decode cX11_bitsOf 2 = .ok (.iconst 0, 1) := by decide +kernel
theorem dX11_bitsOf_3 : decode cX11_bitsOf 3 = .ok (.istore_n 2, 1) := by decide +kernel
theorem dX11_bitsOf_4 : decode cX11_bitsOf 4 = .ok (.iload_n 2, 1) := by decide +kernel
theorem dX11_bitsOf_5 : decode cX11_bitsOf 5 = .ok (.bipush 12, 2) := by decide +kernel
theorem dX11_bitsOf_7 : decode cX11_bitsOf 7 = .ok (.if_icmp .ge 17, 3) := by decide +kernel
theorem dX11_bitsOf_10 : decode cX11_bitsOf 10 = .ok (.iload_n 1, 1) := by decide +kernel
theorem dX11_bitsOf_11 : decode cX11_bitsOf 11 = .ok (.iload_n 0, 1) := by decide +kernel
theorem dX11_bitsOf_12 : decode cX11_bitsOf 12 = .ok (.iload_n 2, 1) := by decide +kernel
theorem dX11_bitsOf_13 : decode cX11_bitsOf 13 = .ok (.ishr, 1) := by decide +kernel
theorem dX11_bitsOf_14 : decode cX11_bitsOf 14 = .ok (.iconst 1, 1) := by decide +kernel
theorem dX11_bitsOf_15 : decode cX11_bitsOf 15 = .ok (.iand, 1) := by decide +kernel
theorem dX11_bitsOf_16 : decode cX11_bitsOf 16 = .ok (.iadd, 1) := by decide +kernel
theorem dX11_bitsOf_17 : decode cX11_bitsOf 17 = .ok (.istore_n 1, 1) := by decide +kernel
theorem dX11_bitsOf_18 : decode cX11_bitsOf 18 = .ok (.iinc 2 1, 3) := by decide +kernel
theorem dX11_bitsOf_21 : decode cX11_bitsOf 21 = .ok (.goto (-17), 3) := by decide +kernel
theorem dX11_bitsOf_24 : decode cX11_bitsOf 24 = .ok (.iload_n 1, 1) := by decide +kernel
theorem dX11_bitsOf_25 : decode cX11_bitsOf 25 = .ok (.ireturn, 1) := by decide +kernel
theorem dX11_wantCost_0 : decode cX11_wantCost 0 = .ok (.aload_n 0, 1) := by decide +kernel
theorem dX11_wantCost_1 : decode cX11_wantCost 1 = .ok (.getfield 7, 3) := by decide +kernel
theorem dX11_wantCost_4 : decode cX11_wantCost 4 = .ok (.bipush 66, 2) := by decide +kernel
theorem dX11_wantCost_6 : decode cX11_wantCost 6 = .ok (.iconst 2, 1) := by decide +kernel
theorem dX11_wantCost_7 : decode cX11_wantCost 7 = .ok (.iload_n 1, 1) := by decide +kernel
theorem dX11_wantCost_8 : decode cX11_wantCost 8 = .ok (.imul, 1) := by decide +kernel
theorem dX11_wantCost_9 : decode cX11_wantCost 9 = .ok (.iadd, 1) := by decide +kernel
theorem dX11_wantCost_10 : decode cX11_wantCost 10 = .ok (.iconst 1, 1) := by decide +kernel
theorem dX11_wantCost_11 : decode cX11_wantCost 11 = .ok (.iadd, 1) := by decide +kernel
theorem dX11_wantCost_12 : decode cX11_wantCost 12 = .ok (.iaload, 1) := by decide +kernel
theorem dX11_wantCost_13 : decode cX11_wantCost 13 = .ok (.istore_n 3, 1) := by decide +kernel
theorem dX11_wantCost_14 : decode cX11_wantCost 14 = .ok (.aload_n 0, 1) := by decide +kernel
theorem dX11_wantCost_15 : decode cX11_wantCost 15 = .ok (.getfield 17, 3) := by decide +kernel
theorem dX11_wantCost_18 : decode cX11_wantCost 18 = .ok (.iload_n 2, 1) := by decide +kernel
theorem dX11_wantCost_19 : decode cX11_wantCost 19 = .ok (.iconst 4, 1) := by decide +kernel
theorem dX11_wantCost_20 : decode cX11_wantCost 20 = .ok (.irem, 1) := by decide +kernel
theorem dX11_wantCost_21 : decode cX11_wantCost 21 = .ok (.iaload, 1) := by decide +kernel
theorem dX11_wantCost_22 : decode cX11_wantCost 22 = .ok (.aload_n 0, 1) := by decide +kernel
theorem dX11_wantCost_23 : decode cX11_wantCost 23 = .ok (.getfield 20, 3) := by decide +kernel
theorem dX11_wantCost_26 : decode cX11_wantCost 26 = .ok (.iload_n 3, 1) := by decide +kernel
theorem dX11_wantCost_27 : decode cX11_wantCost 27 = .ok (.iaload, 1) := by decide +kernel
theorem dX11_wantCost_28 : decode cX11_wantCost 28 = .ok (.aload_n 0, 1) := by decide +kernel
theorem dX11_wantCost_29 : decode cX11_wantCost 29 = .ok (.getfield 20, 3) := by decide +kernel
theorem dX11_wantCost_32 : decode cX11_wantCost 32 = .ok (.bipush 6, 2) := by decide +kernel
theorem dX11_wantCost_34 : decode cX11_wantCost 34 = .ok (.aload_n 0, 1) := by decide +kernel
theorem dX11_wantCost_35 : decode cX11_wantCost 35 = .ok (.getfield 29, 3) := by decide +kernel
theorem dX11_wantCost_38 : decode cX11_wantCost 38 = .ok (.iload_n 3, 1) := by decide +kernel
theorem dX11_wantCost_39 : decode cX11_wantCost 39 = .ok (.iaload, 1) := by decide +kernel
theorem dX11_wantCost_40 : decode cX11_wantCost 40 = .ok (.iadd, 1) := by decide +kernel
theorem dX11_wantCost_41 : decode cX11_wantCost 41 = .ok (.iaload, 1) := by decide +kernel
theorem dX11_wantCost_42 : decode cX11_wantCost 42 = .ok (.iadd, 1) := by decide +kernel
theorem dX11_wantCost_43 : decode cX11_wantCost 43 = .ok (.imul, 1) := by decide +kernel
theorem dX11_wantCost_44 : decode cX11_wantCost 44 = .ok (.ireturn, 1) := by decide +kernel
theorem dX11_findRests_0 : decode cX11_findRests 0 = .ok (.sipush 4095, 3) := by decide +kernel
theorem dX11_findRests_3 : decode cX11_findRests 3 = .ok (.istore_n 2, 1) := by decide +kernel
theorem dX11_findRests_4 : decode cX11_findRests 4 = .ok (.iload_n 2, 1) := by decide +kernel
theorem dX11_findRests_5 : decode cX11_findRests 5 = .ok (.ifCond .lt 125, 3) := by decide +kernel
theorem dX11_findRests_8 : decode cX11_findRests 8 = .ok (.iload_n 2, 1) := by decide +kernel
theorem dX11_findRests_9 : decode cX11_findRests 9 = .ok (.invokestatic 334, 3) := by decide +kernel
theorem dX11_findRests_12 : decode cX11_findRests 12 = .ok (.istore_n 3, 1) := by decide +kernel
theorem dX11_findRests_13 : decode cX11_findRests 13 = .ok (.aload_n 0, 1) := by decide +kernel
theorem dX11_findRests_14 : decode cX11_findRests 14 = .ok (.getfield 77, 3) := by decide +kernel
theorem dX11_findRests_17 : decode cX11_findRests 17 = .ok (.iload_n 2, 1) := by decide +kernel
theorem dX11_findRests_18 : decode cX11_findRests 18 = .ok (.iload_n 3, 1) := by decide +kernel
theorem dX11_findRests_19 : decode cX11_findRests 19 = .ok (.aload_n 0, 1) := by decide +kernel
theorem dX11_findRests_20 : decode cX11_findRests 20 = .ok (.getfield 7, 3) := by decide +kernel
theorem dX11_findRests_23 : decode cX11_findRests 23 = .ok (.bipush 65, 2) := by decide +kernel
theorem dX11_findRests_25 : decode cX11_findRests 25 = .ok (.iaload, 1) := by decide +kernel
theorem dX11_findRests_26 : decode cX11_findRests 26 = .ok (.if_icmp .ne 7, 3) := by decide +kernel
theorem dX11_findRests_29 : decode cX11_findRests 29 = .ok (.iconst 0, 1) := by decide +kernel
theorem dX11_findRests_30 : decode cX11_findRests 30 = .ok (.goto 6, 3) := by decide +kernel
theorem dX11_findRests_33 : decode cX11_findRests 33 = .ok (.ldc_w 337, 3) := by decide +kernel
theorem dX11_findRests_36 : decode cX11_findRests 36 = .ok (.iastore, 1) := by decide +kernel
theorem dX11_findRests_37 : decode cX11_findRests 37 = .ok (.iconst 0, 1) := by decide +kernel
theorem dX11_findRests_38 : decode cX11_findRests 38 = .ok (.istore 4, 2) := by decide +kernel
theorem dX11_findRests_40 : decode cX11_findRests 40 = .ok (.iload 4, 2) := by decide +kernel
theorem dX11_findRests_42 : decode cX11_findRests 42 = .ok (.bipush 12, 2) := by decide +kernel
theorem dX11_findRests_44 : decode cX11_findRests 44 = .ok (.if_icmp .ge 80, 3) := by decide +kernel
theorem dX11_findRests_47 : decode cX11_findRests 47 = .ok (.iload_n 3, 1) := by decide +kernel
theorem dX11_findRests_48 : decode cX11_findRests 48 = .ok (.aload_n 0, 1) := by decide +kernel
theorem dX11_findRests_49 : decode cX11_findRests 49 = .ok (.getfield 7, 3) := by decide +kernel
theorem dX11_findRests_52 : decode cX11_findRests 52 = .ok (.bipush 65, 2) := by decide +kernel
theorem dX11_findRests_54 : decode cX11_findRests 54 = .ok (.iaload, 1) := by decide +kernel
theorem dX11_findRests_55 : decode cX11_findRests 55 = .ok (.if_icmp .ge 69, 3) := by decide +kernel
theorem dX11_findRests_58 : decode cX11_findRests 58 = .ok (.iload_n 2, 1) := by decide +kernel
theorem dX11_findRests_59 : decode cX11_findRests 59 = .ok (.iload 4, 2) := by decide +kernel
theorem dX11_findRests_61 : decode cX11_findRests 61 = .ok (.ishr, 1) := by decide +kernel
theorem dX11_findRests_62 : decode cX11_findRests 62 = .ok (.iconst 1, 1) := by decide +kernel
theorem dX11_findRests_63 : decode cX11_findRests 63 = .ok (.iand, 1) := by decide +kernel
theorem dX11_findRests_64 : decode cX11_findRests 64 = .ok (.ifCond .ne 54, 3) := by decide +kernel
theorem dX11_findRests_67 : decode cX11_findRests 67 = .ok (.aload_n 0, 1) := by decide +kernel
theorem dX11_findRests_68 : decode cX11_findRests 68 = .ok (.iload_n 3, 1) := by decide +kernel
theorem dX11_findRests_69 : decode cX11_findRests 69 = .ok (.iload_n 1, 1) := by decide +kernel
theorem dX11_findRests_70 : decode cX11_findRests 70 = .ok (.iload 4, 2) := by decide +kernel
theorem dX11_findRests_72 : decode cX11_findRests 72 = .ok (.iadd, 1) := by decide +kernel
theorem dX11_findRests_73 : decode cX11_findRests 73 = .ok (.invokevirtual 338, 3) := by decide +kernel
theorem dX11_findRests_76 : decode cX11_findRests 76 = .ok (.aload_n 0, 1) := by decide +kernel
theorem dX11_findRests_77 : decode cX11_findRests 77 = .ok (.getfield 77, 3) := by decide +kernel
theorem dX11_findRests_80 : decode cX11_findRests 80 = .ok (.iload_n 2, 1) := by decide +kernel
theorem dX11_findRests_81 : decode cX11_findRests 81 = .ok (.iconst 1, 1) := by decide +kernel
theorem dX11_findRests_82 : decode cX11_findRests 82 = .ok (.iload 4, 2) := by decide +kernel
theorem dX11_findRests_84 : decode cX11_findRests 84 = .ok (.ishl, 1) := by decide +kernel
theorem dX11_findRests_85 : decode cX11_findRests 85 = .ok (.ior, 1) := by decide +kernel
theorem dX11_findRests_86 : decode cX11_findRests 86 = .ok (.iaload, 1) := by decide +kernel
theorem dX11_findRests_87 : decode cX11_findRests 87 = .ok (.iadd, 1) := by decide +kernel
theorem dX11_findRests_88 : decode cX11_findRests 88 = .ok (.istore 5, 2) := by decide +kernel
theorem dX11_findRests_90 : decode cX11_findRests 90 = .ok (.aload_n 0, 1) := by decide +kernel
theorem dX11_findRests_91 : decode cX11_findRests 91 = .ok (.getfield 77, 3) := by decide +kernel
theorem dX11_findRests_94 : decode cX11_findRests 94 = .ok (.iload_n 2, 1) := by decide +kernel
theorem dX11_findRests_95 : decode cX11_findRests 95 = .ok (.iload 5, 2) := by decide +kernel
theorem dX11_findRests_97 : decode cX11_findRests 97 = .ok (.aload_n 0, 1) := by decide +kernel
theorem dX11_findRests_98 : decode cX11_findRests 98 = .ok (.getfield 77, 3) := by decide +kernel
theorem dX11_findRests_101 : decode cX11_findRests 101 = .ok (.iload_n 2, 1) := by decide +kernel
theorem dX11_findRests_102 : decode cX11_findRests 102 = .ok (.iaload, 1) := by decide +kernel
theorem dX11_findRests_103 : decode cX11_findRests 103 = .ok (.if_icmp .ge 8, 3) := by decide +kernel
theorem dX11_findRests_106 : decode cX11_findRests 106 = .ok (.iload 5, 2) := by decide +kernel
theorem dX11_findRests_108 : decode cX11_findRests 108 = .ok (.goto 9, 3) := by decide +kernel
theorem dX11_findRests_111 : decode cX11_findRests 111 = .ok (.aload_n 0, 1) := by decide +kernel
theorem dX11_findRests_112 : decode cX11_findRests 112 = .ok (.getfield 77, 3) := by decide +kernel
theorem dX11_findRests_115 : decode cX11_findRests 115 = .ok (.iload_n 2, 1) := by decide +kernel
theorem dX11_findRests_116 : decode cX11_findRests 116 = .ok (.iaload, 1) := by decide +kernel
theorem dX11_findRests_117 : decode cX11_findRests 117 = .ok (.iastore, 1) := by decide +kernel
theorem dX11_findRests_118 : decode cX11_findRests 118 = .ok (.iinc 4 1, 3) := by decide +kernel
theorem dX11_findRests_121 : decode cX11_findRests 121 = .ok (.goto (-81), 3) := by decide +kernel
theorem dX11_findRests_124 : decode cX11_findRests 124 = .ok (.iinc 2 (-1), 3) := by decide +kernel
theorem dX11_findRests_127 : decode cX11_findRests 127 = .ok (.goto (-123), 3) := by decide +kernel
theorem dX11_findRests_130 : decode cX11_findRests 130 = .ok (.return_, 1) := by decide +kernel
theorem dX11_plan_0 : decode cX11_plan 0 = .ok (.iload_n 1, 1) := by decide +kernel
theorem dX11_plan_1 : decode cX11_plan 1 = .ok (.i2l, 1) := by decide +kernel
theorem dX11_plan_2 : decode cX11_plan 2 = .ok (.lconst 0, 1) := by decide +kernel
theorem dX11_plan_3 : decode cX11_plan 3 = .ok (.ldc2_w 269, 3) := by decide +kernel
theorem dX11_plan_6 : decode cX11_plan 6 = .ok (.invokestatic 146, 3) := by decide +kernel
theorem dX11_plan_9 : decode cX11_plan 9 = .ok (.ifCond .eq 29, 3) := by decide +kernel
theorem dX11_plan_12 : decode cX11_plan 12 = .ok (.iload_n 2, 1) := by decide +kernel
theorem dX11_plan_13 : decode cX11_plan 13 = .ok (.ifCond .eq 27, 3) := by decide +kernel
theorem dX11_plan_16 : decode cX11_plan 16 = .ok (.iload_n 2, 1) := by decide +kernel
theorem dX11_plan_17 : decode cX11_plan 17 = .ok (.i2l, 1) := by decide +kernel
theorem dX11_plan_18 : decode cX11_plan 18 = .ok (.ldc2_w 251, 3) := by decide +kernel
theorem dX11_plan_21 : decode cX11_plan 21 = .ok (.bipush 9, 2) := by decide +kernel
theorem dX11_plan_23 : decode cX11_plan 23 = .ok (.aload_n 0, 1) := by decide +kernel
theorem dX11_plan_24 : decode cX11_plan 24 = .ok (.getfield 7, 3) := by decide +kernel
theorem dX11_plan_27 : decode cX11_plan 27 = .ok (.bipush 65, 2) := by decide +kernel
theorem dX11_plan_29 : decode cX11_plan 29 = .ok (.iaload, 1) := by decide +kernel
theorem dX11_plan_30 : decode cX11_plan 30 = .ok (.iadd, 1) := by decide +kernel
theorem dX11_plan_31 : decode cX11_plan 31 = .ok (.i2l, 1) := by decide +kernel
theorem dX11_plan_32 : decode cX11_plan 32 = .ok (.invokestatic 146, 3) := by decide +kernel
theorem dX11_plan_35 : decode cX11_plan 35 = .ok (.ifCond .ne 5, 3) := by decide +kernel
theorem dX11_plan_38 : decode cX11_plan 38 = .ok (.iconst (-1), 1) := by decide +kernel
theorem dX11_plan_39 : decode cX11_plan 39 = .ok (.ireturn, 1) := by decide +kernel
theorem dX11_plan_40 : decode cX11_plan 40 = .ok (.aload_n 0, 1) := by decide +kernel
theorem dX11_plan_41 : decode cX11_plan 41 = .ok (.getfield 7, 3) := by decide +kernel
theorem dX11_plan_44 : decode cX11_plan 44 = .ok (.bipush 65, 2) := by decide +kernel
theorem dX11_plan_46 : decode cX11_plan 46 = .ok (.iaload, 1) := by decide +kernel
theorem dX11_plan_47 : decode cX11_plan 47 = .ok (.ifCond .ne 6, 3) := by decide +kernel
theorem dX11_plan_50 : decode cX11_plan 50 = .ok (.bipush (-2), 2) := by decide +kernel
theorem dX11_plan_52 : decode cX11_plan 52 = .ok (.ireturn, 1) := by decide +kernel
theorem dX11_plan_53 : decode cX11_plan 53 = .ok (.aload_n 0, 1) := by decide +kernel
theorem dX11_plan_54 : decode cX11_plan 54 = .ok (.iload_n 1, 1) := by decide +kernel
theorem dX11_plan_55 : decode cX11_plan 55 = .ok (.invokevirtual 341, 3) := by decide +kernel
theorem dX11_plan_58 : decode cX11_plan 58 = .ok (.iload_n 2, 1) := by decide +kernel
theorem dX11_plan_59 : decode cX11_plan 59 = .ok (.ifCond .ne 10, 3) := by decide +kernel
theorem dX11_plan_62 : decode cX11_plan 62 = .ok (.aload_n 0, 1) := by decide +kernel
theorem dX11_plan_63 : decode cX11_plan 63 = .ok (.getfield 77, 3) := by decide +kernel
theorem dX11_plan_66 : decode cX11_plan 66 = .ok (.iconst 0, 1) := by decide +kernel
theorem dX11_plan_67 : decode cX11_plan 67 = .ok (.iaload, 1) := by decide +kernel
theorem dX11_plan_68 : decode cX11_plan 68 = .ok (.ireturn, 1) := by decide +kernel
theorem dX11_plan_69 : decode cX11_plan 69 = .ok (.iconst 0, 1) := by decide +kernel
theorem dX11_plan_70 : decode cX11_plan 70 = .ok (.istore_n 3, 1) := by decide +kernel
theorem dX11_plan_71 : decode cX11_plan 71 = .ok (.bipush (-4), 2) := by decide +kernel
theorem dX11_plan_73 : decode cX11_plan 73 = .ok (.istore 4, 2) := by decide +kernel
theorem dX11_plan_75 : decode cX11_plan 75 = .ok (.iconst 0, 1) := by decide +kernel
theorem dX11_plan_76 : decode cX11_plan 76 = .ok (.istore 5, 2) := by decide +kernel
theorem dX11_plan_78 : decode cX11_plan 78 = .ok (.iload 5, 2) := by decide +kernel
theorem dX11_plan_80 : decode cX11_plan 80 = .ok (.iload_n 2, 1) := by decide +kernel
theorem dX11_plan_81 : decode cX11_plan 81 = .ok (.bipush 10, 2) := by decide +kernel
theorem dX11_plan_83 : decode cX11_plan 83 = .ok (.isub, 1) := by decide +kernel
theorem dX11_plan_84 : decode cX11_plan 84 = .ok (.if_icmp .gt 96, 3) := by decide +kernel
theorem dX11_plan_87 : decode cX11_plan 87 = .ok (.bipush (-4), 2) := by decide +kernel
theorem dX11_plan_89 : decode cX11_plan 89 = .ok (.istore 4, 2) := by decide +kernel
theorem dX11_plan_91 : decode cX11_plan 91 = .ok (.bipush 11, 2) := by decide +kernel
theorem dX11_plan_93 : decode cX11_plan 93 = .ok (.istore 6, 2) := by decide +kernel
theorem dX11_plan_95 : decode cX11_plan 95 = .ok (.iload 6, 2) := by decide +kernel
theorem dX11_plan_97 : decode cX11_plan 97 = .ok (.ifCond .lt 70, 3) := by decide +kernel
theorem dX11_plan_100 : decode cX11_plan 100 = .ok (.iload_n 3, 1) := by decide +kernel
theorem dX11_plan_101 : decode cX11_plan 101 = .ok (.iload 6, 2) := by decide +kernel
theorem dX11_plan_103 : decode cX11_plan 103 = .ok (.ishr, 1) := by decide +kernel
theorem dX11_plan_104 : decode cX11_plan 104 = .ok (.iconst 1, 1) := by decide +kernel
theorem dX11_plan_105 : decode cX11_plan 105 = .ok (.iand, 1) := by decide +kernel
theorem dX11_plan_106 : decode cX11_plan 106 = .ok (.ifCond .ne 38, 3) := by decide +kernel
theorem dX11_plan_109 : decode cX11_plan 109 = .ok (.aload_n 0, 1) := by decide +kernel
theorem dX11_plan_110 : decode cX11_plan 110 = .ok (.iload 5, 2) := by decide +kernel
theorem dX11_plan_112 : decode cX11_plan 112 = .ok (.iload_n 1, 1) := by decide +kernel
theorem dX11_plan_113 : decode cX11_plan 113 = .ok (.iload 6, 2) := by decide +kernel
theorem dX11_plan_115 : decode cX11_plan 115 = .ok (.iadd, 1) := by decide +kernel
theorem dX11_plan_116 : decode cX11_plan 116 = .ok (.invokevirtual 338, 3) := by decide +kernel
theorem dX11_plan_119 : decode cX11_plan 119 = .ok (.aload_n 0, 1) := by decide +kernel
theorem dX11_plan_120 : decode cX11_plan 120 = .ok (.getfield 77, 3) := by decide +kernel
theorem dX11_plan_123 : decode cX11_plan 123 = .ok (.iload_n 3, 1) := by decide +kernel
theorem dX11_plan_124 : decode cX11_plan 124 = .ok (.iconst 1, 1) := by decide +kernel
theorem dX11_plan_125 : decode cX11_plan 125 = .ok (.iload 6, 2) := by decide +kernel
theorem dX11_plan_127 : decode cX11_plan 127 = .ok (.ishl, 1) := by decide +kernel
theorem dX11_plan_128 : decode cX11_plan 128 = .ok (.ior, 1) := by decide +kernel
theorem dX11_plan_129 : decode cX11_plan 129 = .ok (.iaload, 1) := by decide +kernel
theorem dX11_plan_130 : decode cX11_plan 130 = .ok (.iadd, 1) := by decide +kernel
theorem dX11_plan_131 : decode cX11_plan 131 = .ok (.aload_n 0, 1) := by decide +kernel
theorem dX11_plan_132 : decode cX11_plan 132 = .ok (.getfield 77, 3) := by decide +kernel
theorem dX11_plan_135 : decode cX11_plan 135 = .ok (.iload_n 3, 1) := by decide +kernel
theorem dX11_plan_136 : decode cX11_plan 136 = .ok (.iaload, 1) := by decide +kernel
theorem dX11_plan_137 : decode cX11_plan 137 = .ok (.if_icmp .ne 7, 3) := by decide +kernel
theorem dX11_plan_140 : decode cX11_plan 140 = .ok (.iconst 1, 1) := by decide +kernel
theorem dX11_plan_141 : decode cX11_plan 141 = .ok (.goto 4, 3) := by decide +kernel
theorem dX11_plan_144 : decode cX11_plan 144 = .ok (.iconst 0, 1) := by decide +kernel
theorem dX11_plan_145 : decode cX11_plan 145 = .ok (.istore 7, 2) := by decide +kernel
theorem dX11_plan_147 : decode cX11_plan 147 = .ok (.iload 7, 2) := by decide +kernel
theorem dX11_plan_149 : decode cX11_plan 149 = .ok (.ifCond .eq 8, 3) := by decide +kernel
theorem dX11_plan_152 : decode cX11_plan 152 = .ok (.iload 6, 2) := by decide +kernel
theorem dX11_plan_154 : decode cX11_plan 154 = .ok (.goto 5, 3) := by decide +kernel
theorem dX11_plan_157 : decode cX11_plan 157 = .ok (.iload 4, 2) := by decide +kernel
theorem dX11_plan_159 : decode cX11_plan 159 = .ok (.istore 4, 2) := by decide +kernel
theorem dX11_plan_161 : decode cX11_plan 161 = .ok (.iinc 6 (-1), 3) := by decide +kernel
theorem dX11_plan_164 : decode cX11_plan 164 = .ok (.goto (-69), 3) := by decide +kernel
theorem dX11_plan_167 : decode cX11_plan 167 = .ok (.iload_n 3, 1) := by decide +kernel
theorem dX11_plan_168 : decode cX11_plan 168 = .ok (.iconst 1, 1) := by decide +kernel
theorem dX11_plan_169 : decode cX11_plan 169 = .ok (.iload 4, 2) := by decide +kernel
theorem dX11_plan_171 : decode cX11_plan 171 = .ok (.ishl, 1) := by decide +kernel
theorem dX11_plan_172 : decode cX11_plan 172 = .ok (.ior, 1) := by decide +kernel
theorem dX11_plan_173 : decode cX11_plan 173 = .ok (.istore_n 3, 1) := by decide +kernel
theorem dX11_plan_174 : decode cX11_plan 174 = .ok (.iinc 5 1, 3) := by decide +kernel
theorem dX11_plan_177 : decode cX11_plan 177 = .ok (.goto (-99), 3) := by decide +kernel
theorem dX11_plan_180 : decode cX11_plan 180 = .ok (.iload_n 1, 1) := by decide +kernel
theorem dX11_plan_181 : decode cX11_plan 181 = .ok (.iload 4, 2) := by decide +kernel
theorem dX11_plan_183 : decode cX11_plan 183 = .ok (.iadd, 1) := by decide +kernel
theorem dX11_plan_184 : decode cX11_plan 184 = .ok (.ireturn, 1) := by decide +kernel
theorem dX11_cannot_0 : decode cX11_cannot 0 = .ok (.iload_n 1, 1) := by decide +kernel
theorem dX11_cannot_1 : decode cX11_cannot 1 = .ok (.i2l, 1) := by decide +kernel
theorem dX11_cannot_2 : decode cX11_cannot 2 = .ok (.lconst 0, 1) := by decide +kernel
theorem dX11_cannot_3 : decode cX11_cannot 3 = .ok (.lconst 1, 1) := by decide +kernel
theorem dX11_cannot_4 : decode cX11_cannot 4 = .ok (.invokestatic 146, 3) := by decide +kernel
theorem dX11_cannot_7 : decode cX11_cannot 7 = .ok (.ifCond .ne 5, 3) := by decide +kernel
theorem dX11_cannot_10 : decode cX11_cannot 10 = .ok (.iconst (-1), 1) := by decide +kernel
theorem dX11_cannot_11 : decode cX11_cannot 11 = .ok (.ireturn, 1) := by decide +kernel
theorem dX11_cannot_12 : decode cX11_cannot 12 = .ok (.iconst 0, 1) := by decide +kernel
theorem dX11_cannot_13 : decode cX11_cannot 13 = .ok (.istore_n 2, 1) := by decide +kernel
theorem dX11_cannot_14 : decode cX11_cannot 14 = .ok (.bipush (-4), 2) := by decide +kernel
theorem dX11_cannot_16 : decode cX11_cannot 16 = .ok (.istore_n 3, 1) := by decide +kernel
theorem dX11_cannot_17 : decode cX11_cannot 17 = .ok (.iconst 1, 1) := by decide +kernel
theorem dX11_cannot_18 : decode cX11_cannot 18 = .ok (.istore 4, 2) := by decide +kernel
theorem dX11_cannot_20 : decode cX11_cannot 20 = .ok (.iload 4, 2) := by decide +kernel
theorem dX11_cannot_22 : decode cX11_cannot 22 = .ok (.bipush 6, 2) := by decide +kernel
theorem dX11_cannot_24 : decode cX11_cannot 24 = .ok (.if_icmp .ge 66, 3) := by decide +kernel
theorem dX11_cannot_27 : decode cX11_cannot 27 = .ok (.aload_n 0, 1) := by decide +kernel
theorem dX11_cannot_28 : decode cX11_cannot 28 = .ok (.iconst 1, 1) := by decide +kernel
theorem dX11_cannot_29 : decode cX11_cannot 29 = .ok (.iload 4, 2) := by decide +kernel
theorem dX11_cannot_31 : decode cX11_cannot 31 = .ok (.invokevirtual 261, 3) := by decide +kernel
theorem dX11_cannot_34 : decode cX11_cannot 34 = .ok (.ifCond .ne 27, 3) := by decide +kernel
theorem dX11_cannot_37 : decode cX11_cannot 37 = .ok (.iload_n 3, 1) := by decide +kernel
theorem dX11_cannot_38 : decode cX11_cannot 38 = .ok (.bipush (-4), 2) := by decide +kernel
theorem dX11_cannot_40 : decode cX11_cannot 40 = .ok (.if_icmp .eq 17, 3) := by decide +kernel
theorem dX11_cannot_43 : decode cX11_cannot 43 = .ok (.aload_n 0, 1) := by decide +kernel
theorem dX11_cannot_44 : decode cX11_cannot 44 = .ok (.getfield 20, 3) := by decide +kernel
theorem dX11_cannot_47 : decode cX11_cannot 47 = .ok (.bipush 6, 2) := by decide +kernel
theorem dX11_cannot_49 : decode cX11_cannot 49 = .ok (.iload 4, 2) := by decide +kernel
theorem dX11_cannot_51 : decode cX11_cannot 51 = .ok (.iadd, 1) := by decide +kernel
theorem dX11_cannot_52 : decode cX11_cannot 52 = .ok (.iaload, 1) := by decide +kernel
theorem dX11_cannot_53 : decode cX11_cannot 53 = .ok (.iload_n 3, 1) := by decide +kernel
theorem dX11_cannot_54 : decode cX11_cannot 54 = .ok (.if_icmp .ge 7, 3) := by decide +kernel
theorem dX11_cannot_57 : decode cX11_cannot 57 = .ok (.iconst 1, 1) := by decide +kernel
theorem dX11_cannot_58 : decode cX11_cannot 58 = .ok (.goto 4, 3) := by decide +kernel
theorem dX11_cannot_61 : decode cX11_cannot 61 = .ok (.iconst 0, 1) := by decide +kernel
theorem dX11_cannot_62 : decode cX11_cannot 62 = .ok (.istore 5, 2) := by decide +kernel
theorem dX11_cannot_64 : decode cX11_cannot 64 = .ok (.iload 5, 2) := by decide +kernel
theorem dX11_cannot_66 : decode cX11_cannot 66 = .ok (.ifCond .eq 16, 3) := by decide +kernel
theorem dX11_cannot_69 : decode cX11_cannot 69 = .ok (.aload_n 0, 1) := by decide +kernel
theorem dX11_cannot_70 : decode cX11_cannot 70 = .ok (.getfield 20, 3) := by decide +kernel
theorem dX11_cannot_73 : decode cX11_cannot 73 = .ok (.bipush 6, 2) := by decide +kernel
theorem dX11_cannot_75 : decode cX11_cannot 75 = .ok (.iload 4, 2) := by decide +kernel
theorem dX11_cannot_77 : decode cX11_cannot 77 = .ok (.iadd, 1) := by decide +kernel
theorem dX11_cannot_78 : decode cX11_cannot 78 = .ok (.iaload, 1) := by decide +kernel
theorem dX11_cannot_79 : decode cX11_cannot 79 = .ok (.goto 4, 3) := by decide +kernel
theorem dX11_cannot_82 : decode cX11_cannot 82 = .ok (.iload_n 3, 1) := by decide +kernel
theorem dX11_cannot_83 : decode cX11_cannot 83 = .ok (.istore_n 3, 1) := by decide +kernel
theorem dX11_cannot_84 : decode cX11_cannot 84 = .ok (.iinc 4 1, 3) := by decide +kernel
theorem dX11_cannot_87 : decode cX11_cannot 87 = .ok (.goto (-67), 3) := by decide +kernel
theorem dX11_cannot_90 : decode cX11_cannot 90 = .ok (.iconst 0, 1) := by decide +kernel
theorem dX11_cannot_91 : decode cX11_cannot 91 = .ok (.istore 4, 2) := by decide +kernel
theorem dX11_cannot_93 : decode cX11_cannot 93 = .ok (.iconst 0, 1) := by decide +kernel
theorem dX11_cannot_94 : decode cX11_cannot 94 = .ok (.istore 5, 2) := by decide +kernel
theorem dX11_cannot_96 : decode cX11_cannot 96 = .ok (.iload 5, 2) := by decide +kernel
theorem dX11_cannot_98 : decode cX11_cannot 98 = .ok (.aload_n 0, 1) := by decide +kernel
theorem dX11_cannot_99 : decode cX11_cannot 99 = .ok (.getfield 7, 3) := by decide +kernel
theorem dX11_cannot_102 : decode cX11_cannot 102 = .ok (.bipush 65, 2) := by decide +kernel
theorem dX11_cannot_104 : decode cX11_cannot 104 = .ok (.iaload, 1) := by decide +kernel
theorem dX11_cannot_105 : decode cX11_cannot 105 = .ok (.if_icmp .ge 86, 3) := by decide +kernel
theorem dX11_cannot_108 : decode cX11_cannot 108 = .ok (.aload_n 0, 1) := by decide +kernel
theorem dX11_cannot_109 : decode cX11_cannot 109 = .ok (.getfield 7, 3) := by decide +kernel
theorem dX11_cannot_112 : decode cX11_cannot 112 = .ok (.bipush 66, 2) := by decide +kernel
theorem dX11_cannot_114 : decode cX11_cannot 114 = .ok (.iconst 2, 1) := by decide +kernel
theorem dX11_cannot_115 : decode cX11_cannot 115 = .ok (.iload 5, 2) := by decide +kernel
theorem dX11_cannot_117 : decode cX11_cannot 117 = .ok (.imul, 1) := by decide +kernel
theorem dX11_cannot_118 : decode cX11_cannot 118 = .ok (.iadd, 1) := by decide +kernel
theorem dX11_cannot_119 : decode cX11_cannot 119 = .ok (.iconst 1, 1) := by decide +kernel
theorem dX11_cannot_120 : decode cX11_cannot 120 = .ok (.iadd, 1) := by decide +kernel
theorem dX11_cannot_121 : decode cX11_cannot 121 = .ok (.iaload, 1) := by decide +kernel
theorem dX11_cannot_122 : decode cX11_cannot 122 = .ok (.istore 6, 2) := by decide +kernel
theorem dX11_cannot_124 : decode cX11_cannot 124 = .ok (.iload_n 2, 1) := by decide +kernel
theorem dX11_cannot_125 : decode cX11_cannot 125 = .ok (.aload_n 0, 1) := by decide +kernel
theorem dX11_cannot_126 : decode cX11_cannot 126 = .ok (.iconst 0, 1) := by decide +kernel
theorem dX11_cannot_127 : decode cX11_cannot 127 = .ok (.iload 6, 2) := by decide +kernel
theorem dX11_cannot_129 : decode cX11_cannot 129 = .ok (.invokevirtual 261, 3) := by decide +kernel
theorem dX11_cannot_132 : decode cX11_cannot 132 = .ok (.ifCond .ne 18, 3) := by decide +kernel
theorem dX11_cannot_135 : decode cX11_cannot 135 = .ok (.aload_n 0, 1) := by decide +kernel
theorem dX11_cannot_136 : decode cX11_cannot 136 = .ok (.iconst 1, 1) := by decide +kernel
theorem dX11_cannot_137 : decode cX11_cannot 137 = .ok (.aload_n 0, 1) := by decide +kernel
theorem dX11_cannot_138 : decode cX11_cannot 138 = .ok (.getfield 29, 3) := by decide +kernel
theorem dX11_cannot_141 : decode cX11_cannot 141 = .ok (.iload 6, 2) := by decide +kernel
theorem dX11_cannot_143 : decode cX11_cannot 143 = .ok (.iaload, 1) := by decide +kernel
theorem dX11_cannot_144 : decode cX11_cannot 144 = .ok (.invokevirtual 261, 3) := by decide +kernel
theorem dX11_cannot_147 : decode cX11_cannot 147 = .ok (.ifCond .eq 10, 3) := by decide +kernel
theorem dX11_cannot_150 : decode cX11_cannot 150 = .ok (.iconst 1, 1) := by decide +kernel
theorem dX11_cannot_151 : decode cX11_cannot 151 = .ok (.iload 6, 2) := by decide +kernel
theorem dX11_cannot_153 : decode cX11_cannot 153 = .ok (.ishl, 1) := by decide +kernel
theorem dX11_cannot_154 : decode cX11_cannot 154 = .ok (.goto 4, 3) := by decide +kernel
theorem dX11_cannot_157 : decode cX11_cannot 157 = .ok (.iconst 0, 1) := by decide +kernel
theorem dX11_cannot_158 : decode cX11_cannot 158 = .ok (.ior, 1) := by decide +kernel
theorem dX11_cannot_159 : decode cX11_cannot 159 = .ok (.istore_n 2, 1) := by decide +kernel
theorem dX11_cannot_160 : decode cX11_cannot 160 = .ok (.iload 4, 2) := by decide +kernel
theorem dX11_cannot_162 : decode cX11_cannot 162 = .ok (.aload_n 0, 1) := by decide +kernel
theorem dX11_cannot_163 : decode cX11_cannot 163 = .ok (.iconst 1, 1) := by decide +kernel
theorem dX11_cannot_164 : decode cX11_cannot 164 = .ok (.aload_n 0, 1) := by decide +kernel
theorem dX11_cannot_165 : decode cX11_cannot 165 = .ok (.getfield 29, 3) := by decide +kernel
theorem dX11_cannot_168 : decode cX11_cannot 168 = .ok (.iload 6, 2) := by decide +kernel
theorem dX11_cannot_170 : decode cX11_cannot 170 = .ok (.iaload, 1) := by decide +kernel
theorem dX11_cannot_171 : decode cX11_cannot 171 = .ok (.invokevirtual 261, 3) := by decide +kernel
theorem dX11_cannot_174 : decode cX11_cannot 174 = .ok (.ifCond .eq 7, 3) := by decide +kernel
theorem dX11_cannot_177 : decode cX11_cannot 177 = .ok (.iload_n 3, 1) := by decide +kernel
theorem dX11_cannot_178 : decode cX11_cannot 178 = .ok (.goto 4, 3) := by decide +kernel
theorem dX11_cannot_181 : decode cX11_cannot 181 = .ok (.iconst 0, 1) := by decide +kernel
theorem dX11_cannot_182 : decode cX11_cannot 182 = .ok (.iadd, 1) := by decide +kernel
theorem dX11_cannot_183 : decode cX11_cannot 183 = .ok (.istore 4, 2) := by decide +kernel
theorem dX11_cannot_185 : decode cX11_cannot 185 = .ok (.iinc 5 1, 3) := by decide +kernel
theorem dX11_cannot_188 : decode cX11_cannot 188 = .ok (.goto (-92), 3) := by decide +kernel
theorem dX11_cannot_191 : decode cX11_cannot 191 = .ok (.iload_n 1, 1) := by decide +kernel
theorem dX11_cannot_192 : decode cX11_cannot 192 = .ok (.ifCond .ne 7, 3) := by decide +kernel
theorem dX11_cannot_195 : decode cX11_cannot 195 = .ok (.iload_n 2, 1) := by decide +kernel
theorem dX11_cannot_196 : decode cX11_cannot 196 = .ok (.goto 16, 3) := by decide +kernel
theorem dX11_cannot_199 : decode cX11_cannot 199 = .ok (.iload_n 3, 1) := by decide +kernel
theorem dX11_cannot_200 : decode cX11_cannot 200 = .ok (.bipush (-4), 2) := by decide +kernel
theorem dX11_cannot_202 : decode cX11_cannot 202 = .ok (.if_icmp .ne 8, 3) := by decide +kernel
theorem dX11_cannot_205 : decode cX11_cannot 205 = .ok (.bipush (-4), 2) := by decide +kernel
theorem dX11_cannot_207 : decode cX11_cannot 207 = .ok (.goto 5, 3) := by decide +kernel
theorem dX11_cannot_210 : decode cX11_cannot 210 = .ok (.iload 4, 2) := by decide +kernel
theorem dX11_cannot_212 : decode cX11_cannot 212 = .ok (.ireturn, 1) := by decide +kernel
theorem dX11_fire_0 : decode cX11_fire 0 = .ok (.aload_n 0, 1) := by decide +kernel
theorem dX11_fire_1 : decode cX11_fire 1 = .ok (.iload_n 1, 1) := by decide +kernel
theorem dX11_fire_2 : decode cX11_fire 2 = .ok (.iload_n 2, 1) := by decide +kernel
theorem dX11_fire_3 : decode cX11_fire 3 = .ok (.invokevirtual 282, 3) := by decide +kernel
theorem dX11_fire_6 : decode cX11_fire 6 = .ok (.ifCond .eq 13, 3) := by decide +kernel
theorem dX11_fire_9 : decode cX11_fire 9 = .ok (.iload_n 3, 1) := by decide +kernel
theorem dX11_fire_10 : decode cX11_fire 10 = .ok (.i2l, 1) := by decide +kernel
theorem dX11_fire_11 : decode cX11_fire 11 = .ok (.lconst 0, 1) := by decide +kernel
theorem dX11_fire_12 : decode cX11_fire 12 = .ok (.lconst 1, 1) := by decide +kernel
theorem dX11_fire_13 : decode cX11_fire 13 = .ok (.invokestatic 146, 3) := by decide +kernel
theorem dX11_fire_16 : decode cX11_fire 16 = .ok (.ifCond .ne 5, 3) := by decide +kernel
theorem dX11_fire_19 : decode cX11_fire 19 = .ok (.iconst (-1), 1) := by decide +kernel
theorem dX11_fire_20 : decode cX11_fire 20 = .ok (.ireturn, 1) := by decide +kernel
theorem dX11_fire_21 : decode cX11_fire 21 = .ok (.aload_n 0, 1) := by decide +kernel
theorem dX11_fire_22 : decode cX11_fire 22 = .ok (.iload_n 1, 1) := by decide +kernel
theorem dX11_fire_23 : decode cX11_fire 23 = .ok (.iload_n 2, 1) := by decide +kernel
theorem dX11_fire_24 : decode cX11_fire 24 = .ok (.invokevirtual 320, 3) := by decide +kernel
theorem dX11_fire_27 : decode cX11_fire 27 = .ok (.istore 4, 2) := by decide +kernel
theorem dX11_fire_29 : decode cX11_fire 29 = .ok (.iload 4, 2) := by decide +kernel
theorem dX11_fire_31 : decode cX11_fire 31 = .ok (.ifCond .ne 6, 3) := by decide +kernel
theorem dX11_fire_34 : decode cX11_fire 34 = .ok (.bipush (-2), 2) := by decide +kernel
theorem dX11_fire_36 : decode cX11_fire 36 = .ok (.ireturn, 1) := by decide +kernel
theorem dX11_fire_37 : decode cX11_fire 37 = .ok (.aload_n 0, 1) := by decide +kernel
theorem dX11_fire_38 : decode cX11_fire 38 = .ok (.iload_n 1, 1) := by decide +kernel
theorem dX11_fire_39 : decode cX11_fire 39 = .ok (.iload_n 2, 1) := by decide +kernel
theorem dX11_fire_40 : decode cX11_fire 40 = .ok (.invokevirtual 289, 3) := by decide +kernel
theorem dX11_fire_43 : decode cX11_fire 43 = .ok (.istore 5, 2) := by decide +kernel
theorem dX11_fire_45 : decode cX11_fire 45 = .ok (.aload_n 0, 1) := by decide +kernel
theorem dX11_fire_46 : decode cX11_fire 46 = .ok (.getfield 20, 3) := by decide +kernel
theorem dX11_fire_49 : decode cX11_fire 49 = .ok (.bipush 6, 2) := by decide +kernel
theorem dX11_fire_51 : decode cX11_fire 51 = .ok (.iload_n 1, 1) := by decide +kernel
theorem dX11_fire_52 : decode cX11_fire 52 = .ok (.imul, 1) := by decide +kernel
theorem dX11_fire_53 : decode cX11_fire 53 = .ok (.iload 4, 2) := by decide +kernel
theorem dX11_fire_55 : decode cX11_fire 55 = .ok (.iadd, 1) := by decide +kernel
theorem dX11_fire_56 : decode cX11_fire 56 = .ok (.iaload, 1) := by decide +kernel
theorem dX11_fire_57 : decode cX11_fire 57 = .ok (.istore 6, 2) := by decide +kernel
theorem dX11_fire_59 : decode cX11_fire 59 = .ok (.aload_n 0, 1) := by decide +kernel
theorem dX11_fire_60 : decode cX11_fire 60 = .ok (.getfield 23, 3) := by decide +kernel
theorem dX11_fire_63 : decode cX11_fire 63 = .ok (.bipush 6, 2) := by decide +kernel
theorem dX11_fire_65 : decode cX11_fire 65 = .ok (.iload_n 1, 1) := by decide +kernel
theorem dX11_fire_66 : decode cX11_fire 66 = .ok (.imul, 1) := by decide +kernel
theorem dX11_fire_67 : decode cX11_fire 67 = .ok (.iload 4, 2) := by decide +kernel
theorem dX11_fire_69 : decode cX11_fire 69 = .ok (.iadd, 1) := by decide +kernel
theorem dX11_fire_70 : decode cX11_fire 70 = .ok (.iaload, 1) := by decide +kernel
theorem dX11_fire_71 : decode cX11_fire 71 = .ok (.iload 5, 2) := by decide +kernel
theorem dX11_fire_73 : decode cX11_fire 73 = .ok (.bipush (-4), 2) := by decide +kernel
theorem dX11_fire_75 : decode cX11_fire 75 = .ok (.if_icmp .ne 7, 3) := by decide +kernel
theorem dX11_fire_78 : decode cX11_fire 78 = .ok (.iconst 0, 1) := by decide +kernel
theorem dX11_fire_79 : decode cX11_fire 79 = .ok (.goto 29, 3) := by decide +kernel
theorem dX11_fire_82 : decode cX11_fire 82 = .ok (.aload_n 0, 1) := by decide +kernel
theorem dX11_fire_83 : decode cX11_fire 83 = .ok (.getfield 135, 3) := by decide +kernel
theorem dX11_fire_86 : decode cX11_fire 86 = .ok (.aload_n 0, 1) := by decide +kernel
theorem dX11_fire_87 : decode cX11_fire 87 = .ok (.getfield 23, 3) := by decide +kernel
theorem dX11_fire_90 : decode cX11_fire 90 = .ok (.bipush 6, 2) := by decide +kernel
theorem dX11_fire_92 : decode cX11_fire 92 = .ok (.iconst 1, 1) := by decide +kernel
theorem dX11_fire_93 : decode cX11_fire 93 = .ok (.iload_n 1, 1) := by decide +kernel
theorem dX11_fire_94 : decode cX11_fire 94 = .ok (.isub, 1) := by decide +kernel
theorem dX11_fire_95 : decode cX11_fire 95 = .ok (.imul, 1) := by decide +kernel
theorem dX11_fire_96 : decode cX11_fire 96 = .ok (.aload_n 0, 1) := by decide +kernel
theorem dX11_fire_97 : decode cX11_fire 97 = .ok (.iconst 1, 1) := by decide +kernel
theorem dX11_fire_98 : decode cX11_fire 98 = .ok (.iload_n 1, 1) := by decide +kernel
theorem dX11_fire_99 : decode cX11_fire 99 = .ok (.isub, 1) := by decide +kernel
theorem dX11_fire_100 : decode cX11_fire 100 = .ok (.iload 5, 2) := by decide +kernel
theorem dX11_fire_102 : decode cX11_fire 102 = .ok (.invokevirtual 320, 3) := by decide +kernel
theorem dX11_fire_105 : decode cX11_fire 105 = .ok (.iadd, 1) := by decide +kernel
theorem dX11_fire_106 : decode cX11_fire 106 = .ok (.iaload, 1) := by decide +kernel
theorem dX11_fire_107 : decode cX11_fire 107 = .ok (.iadd, 1) := by decide +kernel
theorem dX11_fire_108 : decode cX11_fire 108 = .ok (.iadd, 1) := by decide +kernel
theorem dX11_fire_109 : decode cX11_fire 109 = .ok (.istore 7, 2) := by decide +kernel
theorem dX11_fire_111 : decode cX11_fire 111 = .ok (.iload_n 3, 1) := by decide +kernel
theorem dX11_fire_112 : decode cX11_fire 112 = .ok (.ifCond .ne 21, 3) := by decide +kernel
theorem dX11_fire_115 : decode cX11_fire 115 = .ok (.iload 6, 2) := by decide +kernel
theorem dX11_fire_117 : decode cX11_fire 117 = .ok (.iload 7, 2) := by decide +kernel
theorem dX11_fire_119 : decode cX11_fire 119 = .ok (.if_icmp .gt 7, 3) := by decide +kernel
theorem dX11_fire_122 : decode cX11_fire 122 = .ok (.iconst 1, 1) := by decide +kernel
theorem dX11_fire_123 : decode cX11_fire 123 = .ok (.goto 4, 3) := by decide +kernel
theorem dX11_fire_126 : decode cX11_fire 126 = .ok (.iconst 0, 1) := by decide +kernel
theorem dX11_fire_127 : decode cX11_fire 127 = .ok (.invokestatic 265, 3) := by decide +kernel
theorem dX11_fire_130 : decode cX11_fire 130 = .ok (.goto 17, 3) := by decide +kernel
theorem dX11_fire_133 : decode cX11_fire 133 = .ok (.iload 6, 2) := by decide +kernel
