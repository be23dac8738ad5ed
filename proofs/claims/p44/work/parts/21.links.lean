/-! links (printed by wip/whole/gen/meth.py) -/
set_option maxRecDepth 100000 in
theorem ml_L_9 : Cond.methodLink RL 9 yX10_init ∈ TB := in_t1 21 rfl rfl
set_option maxRecDepth 100000 in
theorem ml_X10_18 : Cond.methodLink RX10 18 yX1_init ∈ TB := in_t1 45 rfl rfl
set_option maxRecDepth 100000 in
theorem ml_X1_32 : Cond.methodLink RX1 32 yX1_setFirst ∈ TB := in_t1 51 rfl rfl
set_option maxRecDepth 100000 in
theorem ml_X7_17 : Cond.methodLink RX7 17 yX5_init ∈ TB := in_t1 113 rfl rfl
set_option maxRecDepth 100000 in
theorem ml_X10_32 : Cond.methodLink RX10 32 yX4_init ∈ TB := in_t1 161 rfl rfl
set_option maxRecDepth 100000 in
theorem ml_X4_11 : Cond.methodLink RX4 11 yX1_init ∈ TB := in_t1 166 rfl rfl
set_option maxRecDepth 100000 in
theorem ml_X10_41 : Cond.methodLink RX10 41 yX6_init ∈ TB := in_t1 210 rfl rfl
set_option maxRecDepth 100000 in
theorem ml_X10_50 : Cond.methodLink RX10 50 yX0_init ∈ TB := in_t2 1 rfl rfl
set_option maxRecDepth 100000 in
theorem ml_X10_57 : Cond.methodLink RX10 57 yX3_init ∈ TB := in_t2 26 rfl rfl
set_option maxRecDepth 100000 in
theorem ml_X10_64 : Cond.methodLink RX10 64 yX2_init ∈ TB := in_t2 48 rfl rfl
set_option maxRecDepth 100000 in
theorem ml_L_15 : Cond.methodLink RL 15 yX10_feed ∈ TB := in_t2 134 rfl rfl
set_option maxRecDepth 100000 in
theorem ml_X10_88 : Cond.methodLink RX10 88 yX9_append ∈ TB := in_t2 138 rfl rfl
set_option maxRecDepth 100000 in
theorem ml_L_20 : Cond.methodLink RL 20 yX10_end ∈ TB := in_t2 142 rfl rfl
set_option maxRecDepth 100000 in
theorem ml_L_25 : Cond.methodLink RL 25 yX10_text ∈ TB := in_t2 146 rfl rfl
set_option maxRecDepth 100000 in
theorem ml_X10_92 : Cond.methodLink RX10 92 yX4_readAll ∈ TB := in_t2 150 rfl rfl
set_option maxRecDepth 100000 in
theorem ml_X4_29 : Cond.methodLink RX4 29 yX4_restart ∈ TB := in_t2 154 rfl rfl
set_option maxRecDepth 100000 in
theorem ml_X4_64 : Cond.methodLink RX4 64 yX1_setFirst ∈ TB := in_t2 158 rfl rfl
set_option maxRecDepth 100000 in
theorem ml_X4_67 : Cond.methodLink RX4 67 yX7_clear ∈ TB := in_t2 159 rfl rfl
set_option maxRecDepth 100000 in
theorem ml_X7_30 : Cond.methodLink RX7 30 yX5_empty ∈ TB := in_t2 163 rfl rfl
set_option maxRecDepth 100000 in
theorem ml_X4_32 : Cond.methodLink RX4 32 yX4_takeToken ∈ TB := in_t2 167 rfl rfl
set_option maxRecDepth 100000 in
theorem ml_X4_80 : Cond.methodLink RX4 80 yX9_byteAt ∈ TB := in_t2 171 rfl rfl
set_option maxRecDepth 100000 in
theorem ml_X4_87 : Cond.methodLink RX4 87 yX4_typeOf ∈ TB := in_t2 175 rfl rfl
set_option maxRecDepth 100000 in
theorem ml_X4_60 : Cond.methodLink RX4 60 yX4_fail ∈ TB := in_t2 178 rfl rfl
set_option maxRecDepth 100000 in
theorem ml_X4_42 : Cond.methodLink RX4 42 yX4_readLine ∈ TB := in_t2 182 rfl rfl
set_option maxRecDepth 100000 in
theorem ml_X4_106 : Cond.methodLink RX4 106 yX4_nameAmong ∈ TB := in_t2 187 rfl rfl
set_option maxRecDepth 100000 in
theorem ml_X4_93 : Cond.methodLink RX4 93 yJ0_length_8abf5 ∈ TB := in_t2 191 rfl rfl
set_option maxRecDepth 100000 in
theorem ml_J0_335 : Cond.methodLink RJ0 335 yJ0_coder_7d493 ∈ TB := in_t2 195 rfl rfl
set_option maxRecDepth 100000 in
theorem ml_X4_99 : Cond.methodLink RX4 99 yJ0_charAt_5068e ∈ TB := in_t2 201 rfl rfl
set_option maxRecDepth 100000 in
theorem ml_J0_492 : Cond.methodLink RJ0 492 yJ0_isLatin1_aae02 ∈ TB := in_t2 205 rfl rfl
set_option maxRecDepth 100000 in
theorem ml_J0_495 : Cond.methodLink RJ0 495 yJ1_charAt_3b067 ∈ TB := in_t2 209 rfl rfl
set_option maxRecDepth 100000 in
theorem ml_J1_9 : Cond.methodLink RJ1 9 yJ0_checkIndex_df160 ∈ TB := in_t2 212 rfl rfl
set_option maxRecDepth 100000 in
theorem ml_J0_1059 : Cond.methodLink RJ0 1059 yJ3_checkIndex_8e157 ∈ TB := in_t2 217 rfl rfl
set_option maxRecDepth 100000 in
theorem ml_J0_498 : Cond.methodLink RJ0 498 yJ2_charAt_3b067 ∈ TB := in_t2 220 rfl rfl
set_option maxRecDepth 100000 in
theorem ml_J2_67 : Cond.methodLink RJ2 67 yJ2_checkIndex_2214a ∈ TB := in_t2 223 rfl rfl
set_option maxRecDepth 100000 in
theorem ml_J2_48 : Cond.methodLink RJ2 48 yJ2_length_9d52b ∈ TB := in_t2 226 rfl rfl
set_option maxRecDepth 100000 in
theorem ml_J2_414 : Cond.methodLink RJ2 414 yJ0_checkIndex_df160 ∈ TB := in_t2 229 rfl rfl
set_option maxRecDepth 100000 in
theorem ml_J2_71 : Cond.methodLink RJ2 71 yJ2_getChar_3b067 ∈ TB := in_t2 230 rfl rfl
set_option maxRecDepth 100000 in
theorem ml_X4_119 : Cond.methodLink RX4 119 yX4_tellOnce ∈ TB := in_t2 239 rfl rfl
set_option maxRecDepth 100000 in
theorem ml_X4_103 : Cond.methodLink RX4 103 yX4_takeNumber ∈ TB := in_t3 3 rfl rfl
set_option maxRecDepth 100000 in
theorem ml_X4_132 : Cond.methodLink RX4 132 yX4_readPrices ∈ TB := in_t3 7 rfl rfl
set_option maxRecDepth 100000 in
theorem ml_X4_139 : Cond.methodLink RX4 139 yX4_readOfKinds ∈ TB := in_t3 11 rfl rfl
set_option maxRecDepth 100000 in
theorem ml_X4_168 : Cond.methodLink RX4 168 yX4_takeBank ∈ TB := in_t3 15 rfl rfl
set_option maxRecDepth 100000 in
theorem ml_X4_146 : Cond.methodLink RX4 146 yX4_readLack ∈ TB := in_t3 19 rfl rfl
set_option maxRecDepth 100000 in
theorem ml_X4_112 : Cond.methodLink RX4 112 yX4_takeNameOf ∈ TB := in_t3 24 rfl rfl
set_option maxRecDepth 100000 in
theorem ml_X4_149 : Cond.methodLink RX4 149 yX4_readTwins ∈ TB := in_t3 28 rfl rfl
set_option maxRecDepth 100000 in
theorem ml_X4_152 : Cond.methodLink RX4 152 yX4_readPaint ∈ TB := in_t3 32 rfl rfl
set_option maxRecDepth 100000 in
theorem ml_X4_155 : Cond.methodLink RX4 155 yX4_readRight ∈ TB := in_t3 36 rfl rfl
set_option maxRecDepth 100000 in
theorem ml_X4_158 : Cond.methodLink RX4 158 yX4_readThing ∈ TB := in_t3 40 rfl rfl
set_option maxRecDepth 100000 in
theorem ml_X4_188 : Cond.methodLink RX4 188 yX4_takeThing ∈ TB := in_t3 47 rfl rfl
set_option maxRecDepth 100000 in
theorem ml_X4_191 : Cond.methodLink RX4 191 yX7_setThing ∈ TB := in_t3 53 rfl rfl
set_option maxRecDepth 100000 in
theorem ml_X10_201 : Cond.methodLink RX10 201 yX10_isBank ∈ TB := in_t3 60 rfl rfl
set_option maxRecDepth 100000 in
theorem ml_X4_161 : Cond.methodLink RX4 161 yX4_readWork ∈ TB := in_t3 64 rfl rfl
set_option maxRecDepth 100000 in
theorem ml_X4_199 : Cond.methodLink RX4 199 yX5_isFull ∈ TB := in_t3 68 rfl rfl
set_option maxRecDepth 100000 in
theorem ml_X4_204 : Cond.methodLink RX4 204 yX7_lastMonth ∈ TB := in_t3 72 rfl rfl
set_option maxRecDepth 100000 in
theorem ml_X7_59 : Cond.methodLink RX7 59 yX5_cell ∈ TB := in_t3 76 rfl rfl
set_option maxRecDepth 100000 in
theorem ml_X4_207 : Cond.methodLink RX4 207 yX5_addRow ∈ TB := in_t3 80 rfl rfl
set_option maxRecDepth 100000 in
theorem ml_X5_23 : Cond.methodLink RX5 23 yX5_isFull ∈ TB := in_t3 84 rfl rfl
set_option maxRecDepth 100000 in
theorem ml_X5_27 : Cond.methodLink RX5 27 yX5_setCell ∈ TB := in_t3 85 rfl rfl
set_option maxRecDepth 100000 in
theorem ml_X4_45 : Cond.methodLink RX4 45 yX4_takeStop ∈ TB := in_t3 89 rfl rfl
set_option maxRecDepth 100000 in
theorem ml_X4_51 : Cond.methodLink RX4 51 yX4_allLotsAre ∈ TB := in_t3 93 rfl rfl
set_option maxRecDepth 100000 in
theorem ml_X4_212 : Cond.methodLink RX4 212 yX5_cell ∈ TB := in_t3 97 rfl rfl
set_option maxRecDepth 100000 in
theorem ml_X10_105 : Cond.methodLink RX10 105 yX1_copyFrom ∈ TB := in_t3 98 rfl rfl
set_option maxRecDepth 100000 in
theorem ml_X10_110 : Cond.methodLink RX10 110 yX7_copyFrom ∈ TB := in_t3 105 rfl rfl
set_option maxRecDepth 100000 in
theorem ml_X7_40 : Cond.methodLink RX7 40 yX5_copyFrom ∈ TB := in_t3 110 rfl rfl
set_option maxRecDepth 100000 in
theorem ml_X5_31 : Cond.methodLink RX5 31 yJ9_min_7cf53 ∈ TB := in_t3 114 rfl rfl
set_option maxRecDepth 100000 in
theorem ml_L_30 : Cond.methodLink RL 30 yX10_fault ∈ TB := in_t3 119 rfl rfl
set_option maxRecDepth 100000 in
theorem ml_L_34 : Cond.methodLink RL 34 yX10_rule ∈ TB := in_t3 123 rfl rfl
set_option maxRecDepth 100000 in
theorem ml_L_38 : Cond.methodLink RL 38 yX10_kind ∈ TB := in_t3 127 rfl rfl
set_option maxRecDepth 100000 in
theorem ml_X10_136 : Cond.methodLink RX10 136 yX10_isKind ∈ TB := in_t3 131 rfl rfl
set_option maxRecDepth 100000 in
theorem ml_X10_140 : Cond.methodLink RX10 140 yX1_twinOf ∈ TB := in_t3 134 rfl rfl
set_option maxRecDepth 100000 in
theorem ml_X10_147 : Cond.methodLink RX10 147 yX1_costOf ∈ TB := in_t3 139 rfl rfl
set_option maxRecDepth 100000 in
theorem ml_X10_151 : Cond.methodLink RX10 151 yX1_tasteOf ∈ TB := in_t3 147 rfl rfl
set_option maxRecDepth 100000 in
theorem ml_X10_154 : Cond.methodLink RX10 154 yX1_lacks ∈ TB := in_t3 151 rfl rfl
set_option maxRecDepth 100000 in
theorem ml_L_43 : Cond.methodLink RL 43 yX10_colour ∈ TB := in_t3 155 rfl rfl
set_option maxRecDepth 100000 in
theorem ml_L_47 : Cond.methodLink RL 47 yX10_mirror ∈ TB := in_t3 159 rfl rfl
set_option maxRecDepth 100000 in
theorem ml_X10_161 : Cond.methodLink RX10 161 yX10_isThing ∈ TB := in_t3 163 rfl rfl
set_option maxRecDepth 100000 in
theorem ml_X10_243 : Cond.methodLink RX10 243 yX10_isBuilt ∈ TB := in_t3 166 rfl rfl
set_option maxRecDepth 100000 in
theorem ml_X10_164 : Cond.methodLink RX10 164 yX1_mirrorOf ∈ TB := in_t3 167 rfl rfl
set_option maxRecDepth 100000 in
theorem ml_X1_83 : Cond.methodLink RX1 83 yX1_doorStays ∈ TB := in_t3 171 rfl rfl
set_option maxRecDepth 100000 in
theorem ml_L_51 : Cond.methodLink RL 51 yX10_work ∈ TB := in_t3 175 rfl rfl
set_option maxRecDepth 100000 in
theorem ml_X10_170 : Cond.methodLink RX10 170 yX5_cell ∈ TB := in_t3 179 rfl rfl
set_option maxRecDepth 100000 in
theorem ml_L_55 : Cond.methodLink RL 55 yX10_thing ∈ TB := in_t3 180 rfl rfl
set_option maxRecDepth 100000 in
theorem ml_X10_173 : Cond.methodLink RX10 173 yX1_isLot ∈ TB := in_t3 184 rfl rfl
set_option maxRecDepth 100000 in
theorem ml_X10_176 : Cond.methodLink RX10 176 yX7_thingAt ∈ TB := in_t3 189 rfl rfl
set_option maxRecDepth 100000 in
theorem ml_L_59 : Cond.methodLink RL 59 yX10_put ∈ TB := in_t3 193 rfl rfl
set_option maxRecDepth 100000 in
theorem ml_X10_179 : Cond.methodLink RX10 179 yX7_setThing ∈ TB := in_t3 197 rfl rfl
set_option maxRecDepth 100000 in
theorem ml_L_64 : Cond.methodLink RL 64 yX10_match ∈ TB := in_t3 198 rfl rfl
set_option maxRecDepth 100000 in
theorem ml_X10_183 : Cond.methodLink RX10 183 yX1_matchOf ∈ TB := in_t3 202 rfl rfl
set_option maxRecDepth 100000 in
theorem ml_X1_79 : Cond.methodLink RX1 79 yX1_matchBy ∈ TB := in_t3 206 rfl rfl
set_option maxRecDepth 100000 in
theorem ml_L_68 : Cond.methodLink RL 68 yX10_odd ∈ TB := in_t3 210 rfl rfl
set_option maxRecDepth 100000 in
theorem ml_X10_189 : Cond.methodLink RX10 189 yX1_unevenLots ∈ TB := in_t3 214 rfl rfl
set_option maxRecDepth 100000 in
theorem ml_X1_71 : Cond.methodLink RX1 71 yX1_matchOf ∈ TB := in_t3 218 rfl rfl
set_option maxRecDepth 100000 in
theorem ml_X1_92 : Cond.methodLink RX1 92 yX1_isEven ∈ TB := in_t3 220 rfl rfl
set_option maxRecDepth 100000 in
theorem ml_X1_86 : Cond.methodLink RX1 86 yX1_mirrorOf ∈ TB := in_t3 224 rfl rfl
set_option maxRecDepth 100000 in
theorem ml_L_72 : Cond.methodLink RL 72 yX10_third ∈ TB := in_t3 225 rfl rfl
set_option maxRecDepth 100000 in
theorem ml_L_76 : Cond.methodLink RL 76 yX10_after ∈ TB := in_t3 229 rfl rfl
set_option maxRecDepth 100000 in
theorem ml_X10_193 : Cond.methodLink RX10 193 yX6_runMonths ∈ TB := in_t3 233 rfl rfl
set_option maxRecDepth 100000 in
theorem ml_X6_35 : Cond.methodLink RX6 35 yX6_start ∈ TB := in_t3 237 rfl rfl
set_option maxRecDepth 100000 in
theorem ml_X6_38 : Cond.methodLink RX6 38 yX6_runMonth ∈ TB := in_t4 1 rfl rfl
set_option maxRecDepth 100000 in
theorem ml_X6_55 : Cond.methodLink RX6 55 yX5_cell ∈ TB := in_t4 5 rfl rfl
set_option maxRecDepth 100000 in
theorem ml_X6_59 : Cond.methodLink RX6 59 yX6_tryWork ∈ TB := in_t4 6 rfl rfl
set_option maxRecDepth 100000 in
theorem ml_X6_72 : Cond.methodLink RX6 72 yX1_isLot ∈ TB := in_t4 10 rfl rfl
set_option maxRecDepth 100000 in
theorem ml_X6_76 : Cond.methodLink RX6 76 yX1_mayBuild ∈ TB := in_t4 11 rfl rfl
set_option maxRecDepth 100000 in
theorem ml_X1_68 : Cond.methodLink RX1 68 yX1_lacks ∈ TB := in_t4 15 rfl rfl
set_option maxRecDepth 100000 in
theorem ml_X1_75 : Cond.methodLink RX1 75 yX1_twinOf ∈ TB := in_t4 16 rfl rfl
set_option maxRecDepth 100000 in
theorem ml_X6_80 : Cond.methodLink RX6 80 yX1_matchOf ∈ TB := in_t4 17 rfl rfl
set_option maxRecDepth 100000 in
theorem ml_X6_86 : Cond.methodLink RX6 86 yX1_isEven ∈ TB := in_t4 19 rfl rfl
set_option maxRecDepth 100000 in
theorem ml_X6_89 : Cond.methodLink RX6 89 yX6_build ∈ TB := in_t4 20 rfl rfl
set_option maxRecDepth 100000 in
theorem ml_X6_93 : Cond.methodLink RX6 93 yX1_costOf ∈ TB := in_t4 24 rfl rfl
set_option maxRecDepth 100000 in
theorem ml_X6_68 : Cond.methodLink RX6 68 yX6_answer ∈ TB := in_t4 25 rfl rfl
set_option maxRecDepth 100000 in
theorem ml_X6_96 : Cond.methodLink RX6 96 yX6_isEvenPair ∈ TB := in_t4 29 rfl rfl
set_option maxRecDepth 100000 in
theorem ml_X6_99 : Cond.methodLink RX6 99 yX1_mirrorOf ∈ TB := in_t4 33 rfl rfl
set_option maxRecDepth 100000 in
theorem ml_X10_198 : Cond.methodLink RX10 198 yX10_slot ∈ TB := in_t4 34 rfl rfl
set_option maxRecDepth 100000 in
theorem ml_L_80 : Cond.methodLink RL 80 yX10_paid ∈ TB := in_t4 35 rfl rfl
set_option maxRecDepth 100000 in
theorem ml_L_84 : Cond.methodLink RL 84 yX10_owes ∈ TB := in_t4 39 rfl rfl
set_option maxRecDepth 100000 in
theorem ml_X10_207 : Cond.methodLink RX10 207 yX6_lotsOwedBy ∈ TB := in_t4 43 rfl rfl
set_option maxRecDepth 100000 in
theorem ml_L_88 : Cond.methodLink RL 88 yX10_fate ∈ TB := in_t4 47 rfl rfl
set_option maxRecDepth 100000 in
theorem ml_L_92 : Cond.methodLink RL 92 yX10_uneven ∈ TB := in_t4 51 rfl rfl
set_option maxRecDepth 100000 in
theorem ml_X10_213 : Cond.methodLink RX10 213 yX6_start ∈ TB := in_t4 55 rfl rfl
set_option maxRecDepth 100000 in
theorem ml_X10_216 : Cond.methodLink RX10 216 yX6_runMonth ∈ TB := in_t4 56 rfl rfl
set_option maxRecDepth 100000 in
theorem ml_X10_219 : Cond.methodLink RX10 219 yX10_firstLot ∈ TB := in_t4 57 rfl rfl
set_option maxRecDepth 100000 in
theorem ml_L_96 : Cond.methodLink RL 96 yX10_go ∈ TB := in_t4 60 rfl rfl
set_option maxRecDepth 100000 in
theorem ml_X10_222 : Cond.methodLink RX10 222 yX6_worksDone ∈ TB := in_t4 64 rfl rfl
set_option maxRecDepth 100000 in
theorem ml_L_100 : Cond.methodLink RL 100 yX10_plot ∈ TB := in_t4 69 rfl rfl
set_option maxRecDepth 100000 in
theorem ml_X10_232 : Cond.methodLink RX10 232 yX7_lastMonth ∈ TB := in_t4 73 rfl rfl
set_option maxRecDepth 100000 in
theorem ml_X10_235 : Cond.methodLink RX10 235 yX5_isFull ∈ TB := in_t4 74 rfl rfl
set_option maxRecDepth 100000 in
theorem ml_X10_239 : Cond.methodLink RX10 239 yX5_addRow ∈ TB := in_t4 75 rfl rfl
set_option maxRecDepth 100000 in
theorem ml_L_105 : Cond.methodLink RL 105 yX10_gain ∈ TB := in_t4 76 rfl rfl
set_option maxRecDepth 100000 in
theorem ml_X10_246 : Cond.methodLink RX10 246 yX0_gainOf ∈ TB := in_t4 80 rfl rfl
set_option maxRecDepth 100000 in
theorem ml_X0_19 : Cond.methodLink RX0 19 yX1_tasteOf ∈ TB := in_t4 84 rfl rfl
set_option maxRecDepth 100000 in
theorem ml_X0_25 : Cond.methodLink RX0 25 yX1_costOf ∈ TB := in_t4 85 rfl rfl
set_option maxRecDepth 100000 in
theorem ml_X0_28 : Cond.methodLink RX0 28 yX7_kindAt ∈ TB := in_t4 86 rfl rfl
set_option maxRecDepth 100000 in
theorem ml_X7_52 : Cond.methodLink RX7 52 yX7_thingAt ∈ TB := in_t4 90 rfl rfl
set_option maxRecDepth 100000 in
theorem ml_L_109 : Cond.methodLink RL 109 yX10_begin ∈ TB := in_t4 91 rfl rfl
set_option maxRecDepth 100000 in
theorem ml_X10_250 : Cond.methodLink RX10 250 yX0_bestKind ∈ TB := in_t4 95 rfl rfl
set_option maxRecDepth 100000 in
theorem ml_X0_33 : Cond.methodLink RX0 33 yX0_gainOf ∈ TB := in_t4 99 rfl rfl
set_option maxRecDepth 100000 in
theorem ml_X0_37 : Cond.methodLink RX0 37 yX1_mayBuild ∈ TB := in_t4 100 rfl rfl
set_option maxRecDepth 100000 in
theorem ml_L_113 : Cond.methodLink RL 113 yX10_waits ∈ TB := in_t4 101 rfl rfl
set_option maxRecDepth 100000 in
theorem ml_L_117 : Cond.methodLink RL 117 yX10_vex ∈ TB := in_t4 105 rfl rfl
set_option maxRecDepth 100000 in
theorem ml_X10_253 : Cond.methodLink RX10 253 yX0_findVex ∈ TB := in_t4 109 rfl rfl
set_option maxRecDepth 100000 in
theorem ml_X0_54 : Cond.methodLink RX0 54 yX1_matchOf ∈ TB := in_t4 113 rfl rfl
set_option maxRecDepth 100000 in
theorem ml_X0_57 : Cond.methodLink RX0 57 yX0_weighVex ∈ TB := in_t4 114 rfl rfl
set_option maxRecDepth 100000 in
theorem ml_X0_61 : Cond.methodLink RX0 61 yX1_twinOf ∈ TB := in_t4 118 rfl rfl
set_option maxRecDepth 100000 in
theorem ml_L_121 : Cond.methodLink RL 121 yX10_want ∈ TB := in_t4 119 rfl rfl
set_option maxRecDepth 100000 in
theorem ml_L_125 : Cond.methodLink RL 125 yX10_content ∈ TB := in_t4 123 rfl rfl
set_option maxRecDepth 100000 in
theorem ml_X10_268 : Cond.methodLink RX10 268 yX5_empty ∈ TB := in_t4 127 rfl rfl
set_option maxRecDepth 100000 in
theorem ml_L_129 : Cond.methodLink RL 129 yX10_plan ∈ TB := in_t4 128 rfl rfl
set_option maxRecDepth 100000 in
theorem ml_X10_271 : Cond.methodLink RX10 271 yX3_findPlan ∈ TB := in_t4 132 rfl rfl
set_option maxRecDepth 100000 in
theorem ml_X3_41 : Cond.methodLink RX3 41 yJ9_min_7cf53 ∈ TB := in_t4 136 rfl rfl
set_option maxRecDepth 100000 in
theorem ml_X3_47 : Cond.methodLink RX3 47 yX5_cell ∈ TB := in_t4 137 rfl rfl
set_option maxRecDepth 100000 in
theorem ml_X3_50 : Cond.methodLink RX3 50 yX1_costOf ∈ TB := in_t4 138 rfl rfl
set_option maxRecDepth 100000 in
theorem ml_X3_55 : Cond.methodLink RX3 55 yX1_twinOf ∈ TB := in_t4 139 rfl rfl
set_option maxRecDepth 100000 in
theorem ml_X3_59 : Cond.methodLink RX3 59 yX3_taken ∈ TB := in_t4 140 rfl rfl
set_option maxRecDepth 100000 in
theorem ml_X3_62 : Cond.methodLink RX3 62 yX3_leastFrom ∈ TB := in_t4 143 rfl rfl
set_option maxRecDepth 100000 in
theorem ml_X3_76 : Cond.methodLink RX3 76 yX3_costWith ∈ TB := in_t4 148 rfl rfl
set_option maxRecDepth 100000 in
theorem ml_X3_72 : Cond.methodLink RX3 72 yX3_withOneMore ∈ TB := in_t4 152 rfl rfl
set_option maxRecDepth 100000 in
theorem ml_X3_65 : Cond.methodLink RX3 65 yX3_placeWants ∈ TB := in_t4 155 rfl rfl
set_option maxRecDepth 100000 in
theorem ml_X10_274 : Cond.methodLink RX10 274 yX3_monthOf ∈ TB := in_t4 159 rfl rfl
set_option maxRecDepth 100000 in
theorem ml_L_133 : Cond.methodLink RL 133 yX10_cannot ∈ TB := in_t4 163 rfl rfl
set_option maxRecDepth 100000 in
theorem ml_X10_277 : Cond.methodLink RX10 277 yX3_kindsBarred ∈ TB := in_t4 167 rfl rfl
set_option maxRecDepth 100000 in
theorem ml_X3_80 : Cond.methodLink RX3 80 yX1_lacks ∈ TB := in_t4 171 rfl rfl
set_option maxRecDepth 100000 in
theorem ml_X10_280 : Cond.methodLink RX10 280 yX3_costInstead ∈ TB := in_t4 172 rfl rfl
set_option maxRecDepth 100000 in
theorem ml_L_137 : Cond.methodLink RL 137 yX10_fire ∈ TB := in_t4 176 rfl rfl
set_option maxRecDepth 100000 in
theorem ml_X10_283 : Cond.methodLink RX10 283 yX7_kindAt ∈ TB := in_t4 180 rfl rfl
set_option maxRecDepth 100000 in
theorem ml_X10_286 : Cond.methodLink RX10 286 yX10_lossOfBoth ∈ TB := in_t4 181 rfl rfl
set_option maxRecDepth 100000 in
theorem ml_X10_289 : Cond.methodLink RX10 289 yJ9_min_7cf53 ∈ TB := in_t4 185 rfl rfl
set_option maxRecDepth 100000 in
theorem ml_L_141 : Cond.methodLink RL 141 yX10_quarrel ∈ TB := in_t4 186 rfl rfl
set_option maxRecDepth 100000 in
theorem ml_X10_294 : Cond.methodLink RX10 294 yX10_quarrelBy ∈ TB := in_t4 190 rfl rfl
set_option maxRecDepth 100000 in
theorem ml_X10_297 : Cond.methodLink RX10 297 yX1_matchBy ∈ TB := in_t4 194 rfl rfl
set_option maxRecDepth 100000 in
theorem ml_X10_300 : Cond.methodLink RX10 300 yX1_isEven ∈ TB := in_t4 195 rfl rfl
set_option maxRecDepth 100000 in
theorem ml_L_145 : Cond.methodLink RL 145 yX10_bend ∈ TB := in_t4 196 rfl rfl
set_option maxRecDepth 100000 in
theorem ml_L_149 : Cond.methodLink RL 149 yX10_shops ∈ TB := in_t4 200 rfl rfl
set_option maxRecDepth 100000 in
theorem ml_X10_303 : Cond.methodLink RX10 303 yX10_fewestToGo ∈ TB := in_t4 204 rfl rfl
set_option maxRecDepth 100000 in
theorem ml_L_153 : Cond.methodLink RL 153 yX10_saw ∈ TB := in_t4 207 rfl rfl
set_option maxRecDepth 100000 in
theorem ml_L_158 : Cond.methodLink RL 158 yX10_forget ∈ TB := in_t4 211 rfl rfl
set_option maxRecDepth 100000 in
theorem ml_L_162 : Cond.methodLink RL 162 yX10_histories ∈ TB := in_t4 215 rfl rfl
set_option maxRecDepth 100000 in
theorem ml_X10_311 : Cond.methodLink RX10 311 yX2_hasHistory ∈ TB := in_t4 220 rfl rfl
set_option maxRecDepth 100000 in
theorem ml_X2_19 : Cond.methodLink RX2 19 yX1_matchOf ∈ TB := in_t4 224 rfl rfl
set_option maxRecDepth 100000 in
theorem ml_X2_25 : Cond.methodLink RX2 25 yX7_thingAt ∈ TB := in_t4 225 rfl rfl
set_option maxRecDepth 100000 in
theorem ml_X2_30 : Cond.methodLink RX2 30 yX1_isEven ∈ TB := in_t4 226 rfl rfl
set_option maxRecDepth 100000 in
theorem ml_X10_314 : Cond.methodLink RX10 314 yX2_findHistories ∈ TB := in_t4 227 rfl rfl
set_option maxRecDepth 100000 in
theorem ml_X2_41 : Cond.methodLink RX2 41 yX2_fitsSeen ∈ TB := in_t4 231 rfl rfl
set_option maxRecDepth 100000 in
theorem ml_X2_64 : Cond.methodLink RX2 64 yX5_cell ∈ TB := in_t4 235 rfl rfl
set_option maxRecDepth 100000 in
theorem ml_X2_45 : Cond.methodLink RX2 45 yX2_note ∈ TB := in_t4 236 rfl rfl
set_option maxRecDepth 100000 in
theorem ml_L_167 : Cond.methodLink RL 167 yX10_began ∈ TB := in_t5 0 rfl rfl
set_option maxRecDepth 100000 in
theorem ml_X10_321 : Cond.methodLink RX10 321 yX2_onlyBeginner ∈ TB := in_t5 4 rfl rfl
set_option maxRecDepth 100000 in
theorem ml_L_171 : Cond.methodLink RL 171 yX10_keep ∈ TB := in_t5 8 rfl rfl
set_option maxRecDepth 100000 in
theorem ml_L_175 : Cond.methodLink RL 175 yX10_back ∈ TB := in_t5 12 rfl rfl
set_option maxRecDepth 100000 in
theorem ml_X10_329 : Cond.methodLink RX10 329 yX7_countThings ∈ TB := in_t5 16 rfl rfl
set_option maxRecDepth 100000 in
theorem ml_L_179 : Cond.methodLink RL 179 yX10_sheet ∈ TB := in_t5 20 rfl rfl
set_option maxRecDepth 100000 in
theorem ml_X10_332 : Cond.methodLink RX10 332 yX10_isSheet ∈ TB := in_t5 24 rfl rfl
set_option maxRecDepth 100000 in
theorem ml_X10_335 : Cond.methodLink RX10 335 yX10_isLane ∈ TB := in_t5 27 rfl rfl
set_option maxRecDepth 100000 in
theorem ml_X10_338 : Cond.methodLink RX10 338 yX8_renew ∈ TB := in_t5 30 rfl rfl
set_option maxRecDepth 100000 in
theorem ml_X8_22 : Cond.methodLink RX8 22 yJ9_min_7cf53 ∈ TB := in_t5 34 rfl rfl
set_option maxRecDepth 100000 in
theorem ml_L_183 : Cond.methodLink RL 183 yX10_lay ∈ TB := in_t5 35 rfl rfl
set_option maxRecDepth 100000 in
theorem ml_X10_341 : Cond.methodLink RX10 341 yX8_faultAt ∈ TB := in_t5 39 rfl rfl
set_option maxRecDepth 100000 in
theorem ml_X10_344 : Cond.methodLink RX10 344 yX8_setCell ∈ TB := in_t5 43 rfl rfl
set_option maxRecDepth 100000 in
theorem ml_X8_28 : Cond.methodLink RX8 28 yX8_faultAt ∈ TB := in_t5 47 rfl rfl
set_option maxRecDepth 100000 in
theorem ml_L_187 : Cond.methodLink RL 187 yX10_read ∈ TB := in_t5 48 rfl rfl
set_option maxRecDepth 100000 in
theorem ml_X10_347 : Cond.methodLink RX10 347 yX8_faultOfReading ∈ TB := in_t5 52 rfl rfl
set_option maxRecDepth 100000 in
theorem ml_X8_32 : Cond.methodLink RX8 32 yX8_wholeThings ∈ TB := in_t5 56 rfl rfl
set_option maxRecDepth 100000 in
theorem ml_X10_350 : Cond.methodLink RX10 350 yX8_wholeThings ∈ TB := in_t5 60 rfl rfl
set_option maxRecDepth 100000 in
theorem ml_X10_353 : Cond.methodLink RX10 353 yX8_cell ∈ TB := in_t5 61 rfl rfl
set_option maxRecDepth 100000 in
theorem ml_L_191 : Cond.methodLink RL 191 yX10_torn ∈ TB := in_t5 65 rfl rfl
set_option maxRecDepth 100000 in
theorem ml_L_195 : Cond.methodLink RL 195 yX10_count ∈ TB := in_t5 69 rfl rfl
set_option maxRecDepth 100000 in
theorem ml_X10_358 : Cond.methodLink RX10 358 yX1_countPairs ∈ TB := in_t5 73 rfl rfl
set_option maxRecDepth 100000 in
theorem ml_L_12 : Cond.methodLink RL 12 yX11_init ∈ TB := in_t5 79 rfl rfl
set_option maxRecDepth 100000 in
theorem ml_X11_89 : Cond.methodLink RX11 89 yX11_firstDraft ∈ TB := in_t5 83 rfl rfl
set_option maxRecDepth 100000 in
theorem ml_X11_92 : Cond.methodLink RX11 92 yX11_keepDraft ∈ TB := in_t5 87 rfl rfl
set_option maxRecDepth 100000 in
theorem ml_L_19 : Cond.methodLink RL 19 yX11_feed ∈ TB := in_t5 239 rfl rfl
set_option maxRecDepth 100000 in
theorem ml_L_24 : Cond.methodLink RL 24 yX11_end ∈ TB := in_t6 4 rfl rfl
set_option maxRecDepth 100000 in
theorem ml_X11_146 : Cond.methodLink RX11 146 yX11_in ∈ TB := in_t6 8 rfl rfl
set_option maxRecDepth 100000 in
theorem ml_L_29 : Cond.methodLink RL 29 yX11_text ∈ TB := in_t6 11 rfl rfl
set_option maxRecDepth 100000 in
theorem ml_X11_200 : Cond.methodLink RX11 200 yX11_next ∈ TB := in_t6 15 rfl rfl
set_option maxRecDepth 100000 in
theorem ml_X11_162 : Cond.methodLink RX11 162 yX11_look ∈ TB := in_t6 19 rfl rfl
set_option maxRecDepth 100000 in
theorem ml_X11_192 : Cond.methodLink RX11 192 yX11_needs ∈ TB := in_t6 27 rfl rfl
set_option maxRecDepth 100000 in
theorem ml_X11_248 : Cond.methodLink RX11 248 yX11_readLine ∈ TB := in_t6 31 rfl rfl
set_option maxRecDepth 100000 in
theorem ml_X11_242 : Cond.methodLink RX11 242 yX11_lineNow ∈ TB := in_t6 35 rfl rfl
set_option maxRecDepth 100000 in
theorem ml_X11_166 : Cond.methodLink RX11 166 yX11_is ∈ TB := in_t6 39 rfl rfl
set_option maxRecDepth 100000 in
theorem ml_X11_170 : Cond.methodLink RX11 170 yX11_ends ∈ TB := in_t6 43 rfl rfl
set_option maxRecDepth 100000 in
theorem ml_X11_174 : Cond.methodLink RX11 174 yX11_ruleNow ∈ TB := in_t6 47 rfl rfl
set_option maxRecDepth 100000 in
theorem ml_X11_245 : Cond.methodLink RX11 245 yX11_readLineOf ∈ TB := in_t6 51 rfl rfl
set_option maxRecDepth 100000 in
theorem ml_X11_203 : Cond.methodLink RX11 203 yX11_readNumber ∈ TB := in_t6 55 rfl rfl
set_option maxRecDepth 100000 in
theorem ml_X11_196 : Cond.methodLink RX11 196 yX11_looked ∈ TB := in_t6 59 rfl rfl
set_option maxRecDepth 100000 in
theorem ml_X11_228 : Cond.methodLink RX11 228 yX11_readCosts ∈ TB := in_t6 63 rfl rfl
set_option maxRecDepth 100000 in
theorem ml_X11_232 : Cond.methodLink RX11 232 yX11_readThing ∈ TB := in_t6 67 rfl rfl
set_option maxRecDepth 100000 in
theorem ml_X11_219 : Cond.methodLink RX11 219 yX11_readLot ∈ TB := in_t6 71 rfl rfl
set_option maxRecDepth 100000 in
theorem ml_X11_222 : Cond.methodLink RX11 222 yX11_readWhat ∈ TB := in_t6 75 rfl rfl
set_option maxRecDepth 100000 in
theorem ml_X11_209 : Cond.methodLink RX11 209 yX11_isNothing ∈ TB := in_t6 79 rfl rfl
set_option maxRecDepth 100000 in
theorem ml_X11_213 : Cond.methodLink RX11 213 yX11_readKind ∈ TB := in_t6 83 rfl rfl
set_option maxRecDepth 100000 in
theorem ml_X11_206 : Cond.methodLink RX11 206 yX11_kindNow ∈ TB := in_t6 87 rfl rfl
set_option maxRecDepth 100000 in
theorem ml_X11_216 : Cond.methodLink RX11 216 yX11_sideNow ∈ TB := in_t6 91 rfl rfl
set_option maxRecDepth 100000 in
theorem ml_X11_235 : Cond.methodLink RX11 235 yX11_readWork ∈ TB := in_t6 95 rfl rfl
set_option maxRecDepth 100000 in
theorem ml_X11_238 : Cond.methodLink RX11 238 yX11_readLaw ∈ TB := in_t6 99 rfl rfl
set_option maxRecDepth 100000 in
theorem ml_X11_225 : Cond.methodLink RX11 225 yX11_readColour ∈ TB := in_t6 103 rfl rfl
set_option maxRecDepth 100000 in
theorem ml_L_33 : Cond.methodLink RL 33 yX11_fault ∈ TB := in_t6 107 rfl rfl
set_option maxRecDepth 100000 in
theorem ml_L_37 : Cond.methodLink RL 37 yX11_rule ∈ TB := in_t6 111 rfl rfl
set_option maxRecDepth 100000 in
theorem ml_L_42 : Cond.methodLink RL 42 yX11_kind ∈ TB := in_t6 117 rfl rfl
set_option maxRecDepth 100000 in
theorem ml_X11_257 : Cond.methodLink RX11 257 yX11_isKind ∈ TB := in_t6 121 rfl rfl
set_option maxRecDepth 100000 in
theorem ml_X11_261 : Cond.methodLink RX11 261 yX11_doesLack ∈ TB := in_t6 125 rfl rfl
set_option maxRecDepth 100000 in
theorem ml_X11_265 : Cond.methodLink RX11 265 yX11_flag ∈ TB := in_t6 129 rfl rfl
set_option maxRecDepth 100000 in
theorem ml_L_46 : Cond.methodLink RL 46 yX11_colour ∈ TB := in_t6 132 rfl rfl
set_option maxRecDepth 100000 in
theorem ml_L_50 : Cond.methodLink RL 50 yX11_mirror ∈ TB := in_t6 137 rfl rfl
set_option maxRecDepth 100000 in
theorem ml_X11_273 : Cond.methodLink RX11 273 yX11_isThing ∈ TB := in_t6 141 rfl rfl
set_option maxRecDepth 100000 in
theorem ml_X11_276 : Cond.methodLink RX11 276 yX11_mirrorOf ∈ TB := in_t6 145 rfl rfl
set_option maxRecDepth 100000 in
theorem ml_L_54 : Cond.methodLink RL 54 yX11_work ∈ TB := in_t6 149 rfl rfl
set_option maxRecDepth 100000 in
theorem ml_L_58 : Cond.methodLink RL 58 yX11_thing ∈ TB := in_t6 153 rfl rfl
set_option maxRecDepth 100000 in
theorem ml_X11_282 : Cond.methodLink RX11 282 yX11_isLot ∈ TB := in_t6 157 rfl rfl
set_option maxRecDepth 100000 in
theorem ml_X11_279 : Cond.methodLink RX11 279 yX11_isBank ∈ TB := in_t6 161 rfl rfl
set_option maxRecDepth 100000 in
theorem ml_L_63 : Cond.methodLink RL 63 yX11_put ∈ TB := in_t6 164 rfl rfl
set_option maxRecDepth 100000 in
theorem ml_L_67 : Cond.methodLink RL 67 yX11_match ∈ TB := in_t6 168 rfl rfl
set_option maxRecDepth 100000 in
theorem ml_X11_289 : Cond.methodLink RX11 289 yX11_matchOf ∈ TB := in_t6 172 rfl rfl
set_option maxRecDepth 100000 in
theorem ml_X11_285 : Cond.methodLink RX11 285 yX11_matchBy ∈ TB := in_t6 176 rfl rfl
set_option maxRecDepth 100000 in
theorem ml_L_71 : Cond.methodLink RL 71 yX11_odd ∈ TB := in_t6 180 rfl rfl
set_option maxRecDepth 100000 in
theorem ml_X11_295 : Cond.methodLink RX11 295 yX11_asNow ∈ TB := in_t6 184 rfl rfl
set_option maxRecDepth 100000 in
theorem ml_X11_298 : Cond.methodLink RX11 298 yX11_oddLots ∈ TB := in_t6 188 rfl rfl
set_option maxRecDepth 100000 in
theorem ml_X11_292 : Cond.methodLink RX11 292 yX11_isEven ∈ TB := in_t6 192 rfl rfl
set_option maxRecDepth 100000 in
theorem ml_L_75 : Cond.methodLink RL 75 yX11_third ∈ TB := in_t6 196 rfl rfl
set_option maxRecDepth 100000 in
theorem ml_L_79 : Cond.methodLink RL 79 yX11_after ∈ TB := in_t6 200 rfl rfl
set_option maxRecDepth 100000 in
theorem ml_X11_312 : Cond.methodLink RX11 312 yX11_isMany ∈ TB := in_t6 204 rfl rfl
set_option maxRecDepth 100000 in
theorem ml_X11_315 : Cond.methodLink RX11 315 yX11_goRun ∈ TB := in_t6 208 rfl rfl
set_option maxRecDepth 100000 in
theorem ml_X11_304 : Cond.methodLink RX11 304 yX11_startRun ∈ TB := in_t6 212 rfl rfl
set_option maxRecDepth 100000 in
theorem ml_X11_307 : Cond.methodLink RX11 307 yX11_goMonth ∈ TB := in_t6 216 rfl rfl
set_option maxRecDepth 100000 in
theorem ml_X11_301 : Cond.methodLink RX11 301 yX11_works ∈ TB := in_t6 220 rfl rfl
set_option maxRecDepth 100000 in
theorem ml_L_83 : Cond.methodLink RL 83 yX11_paid ∈ TB := in_t6 224 rfl rfl
set_option maxRecDepth 100000 in
theorem ml_L_87 : Cond.methodLink RL 87 yX11_owes ∈ TB := in_t6 228 rfl rfl
set_option maxRecDepth 100000 in
theorem ml_L_91 : Cond.methodLink RL 91 yX11_fate ∈ TB := in_t6 232 rfl rfl
set_option maxRecDepth 100000 in
theorem ml_L_95 : Cond.methodLink RL 95 yX11_uneven ∈ TB := in_t6 236 rfl rfl
set_option maxRecDepth 100000 in
theorem ml_L_99 : Cond.methodLink RL 99 yX11_go ∈ TB := in_t7 0 rfl rfl
set_option maxRecDepth 100000 in
theorem ml_L_104 : Cond.methodLink RL 104 yX11_plot ∈ TB := in_t7 4 rfl rfl
set_option maxRecDepth 100000 in
theorem ml_L_108 : Cond.methodLink RL 108 yX11_gain ∈ TB := in_t7 9 rfl rfl
set_option maxRecDepth 100000 in
theorem ml_X11_323 : Cond.methodLink RX11 323 yX11_gainOf ∈ TB := in_t7 13 rfl rfl
set_option maxRecDepth 100000 in
theorem ml_X11_320 : Cond.methodLink RX11 320 yX11_kindThere ∈ TB := in_t7 17 rfl rfl
set_option maxRecDepth 100000 in
theorem ml_L_112 : Cond.methodLink RL 112 yX11_begin ∈ TB := in_t7 21 rfl rfl
set_option maxRecDepth 100000 in
theorem ml_X11_329 : Cond.methodLink RX11 329 yX11_beginOf ∈ TB := in_t7 25 rfl rfl
set_option maxRecDepth 100000 in
theorem ml_X11_326 : Cond.methodLink RX11 326 yX11_mayBe ∈ TB := in_t7 29 rfl rfl
set_option maxRecDepth 100000 in
theorem ml_L_116 : Cond.methodLink RL 116 yX11_waits ∈ TB := in_t7 33 rfl rfl
set_option maxRecDepth 100000 in
theorem ml_L_120 : Cond.methodLink RL 120 yX11_vex ∈ TB := in_t7 37 rfl rfl
set_option maxRecDepth 100000 in
theorem ml_L_124 : Cond.methodLink RL 124 yX11_want ∈ TB := in_t7 42 rfl rfl
set_option maxRecDepth 100000 in
theorem ml_L_128 : Cond.methodLink RL 128 yX11_content ∈ TB := in_t7 46 rfl rfl
set_option maxRecDepth 100000 in
theorem ml_L_132 : Cond.methodLink RL 132 yX11_plan ∈ TB := in_t7 50 rfl rfl
set_option maxRecDepth 100000 in
theorem ml_X11_341 : Cond.methodLink RX11 341 yX11_findRests ∈ TB := in_t7 54 rfl rfl
set_option maxRecDepth 100000 in
theorem ml_X11_334 : Cond.methodLink RX11 334 yX11_bitsOf ∈ TB := in_t7 58 rfl rfl
set_option maxRecDepth 100000 in
theorem ml_X11_338 : Cond.methodLink RX11 338 yX11_wantCost ∈ TB := in_t7 62 rfl rfl
set_option maxRecDepth 100000 in
theorem ml_L_136 : Cond.methodLink RL 136 yX11_cannot ∈ TB := in_t7 66 rfl rfl
set_option maxRecDepth 100000 in
theorem ml_L_140 : Cond.methodLink RL 140 yX11_fire ∈ TB := in_t7 70 rfl rfl
set_option maxRecDepth 100000 in
theorem ml_L_144 : Cond.methodLink RL 144 yX11_quarrel ∈ TB := in_t7 74 rfl rfl
set_option maxRecDepth 100000 in
theorem ml_X11_346 : Cond.methodLink RX11 346 yX11_quarrelOf ∈ TB := in_t7 79 rfl rfl
set_option maxRecDepth 100000 in
theorem ml_L_148 : Cond.methodLink RL 148 yX11_bend ∈ TB := in_t7 83 rfl rfl
set_option maxRecDepth 100000 in
theorem ml_L_152 : Cond.methodLink RL 152 yX11_shops ∈ TB := in_t7 87 rfl rfl
set_option maxRecDepth 100000 in
theorem ml_X11_349 : Cond.methodLink RX11 349 yX11_isShop ∈ TB := in_t7 91 rfl rfl
set_option maxRecDepth 100000 in
theorem ml_L_157 : Cond.methodLink RL 157 yX11_saw ∈ TB := in_t7 95 rfl rfl
set_option maxRecDepth 100000 in
theorem ml_L_161 : Cond.methodLink RL 161 yX11_forget ∈ TB := in_t7 99 rfl rfl
set_option maxRecDepth 100000 in
theorem ml_L_166 : Cond.methodLink RL 166 yX11_histories ∈ TB := in_t7 103 rfl rfl
set_option maxRecDepth 100000 in
theorem ml_X11_357 : Cond.methodLink RX11 357 yX11_isTold ∈ TB := in_t7 108 rfl rfl
set_option maxRecDepth 100000 in
theorem ml_X11_360 : Cond.methodLink RX11 360 yX11_waysOf ∈ TB := in_t7 112 rfl rfl
set_option maxRecDepth 100000 in
theorem ml_X11_352 : Cond.methodLink RX11 352 yX11_fits ∈ TB := in_t7 116 rfl rfl
set_option maxRecDepth 100000 in
theorem ml_L_170 : Cond.methodLink RL 170 yX11_began ∈ TB := in_t7 120 rfl rfl
set_option maxRecDepth 100000 in
theorem ml_L_174 : Cond.methodLink RL 174 yX11_keep ∈ TB := in_t7 124 rfl rfl
set_option maxRecDepth 100000 in
theorem ml_X11_364 : Cond.methodLink RX11 364 yX11_copies ∈ TB := in_t7 128 rfl rfl
set_option maxRecDepth 100000 in
theorem ml_L_178 : Cond.methodLink RL 178 yX11_back ∈ TB := in_t7 132 rfl rfl
set_option maxRecDepth 100000 in
theorem ml_X11_368 : Cond.methodLink RX11 368 yX11_thingMany ∈ TB := in_t7 136 rfl rfl
set_option maxRecDepth 100000 in
theorem ml_L_182 : Cond.methodLink RL 182 yX11_sheet ∈ TB := in_t7 140 rfl rfl
set_option maxRecDepth 100000 in
theorem ml_X11_371 : Cond.methodLink RX11 371 yX11_isSheet ∈ TB := in_t7 144 rfl rfl
set_option maxRecDepth 100000 in
theorem ml_L_186 : Cond.methodLink RL 186 yX11_lay ∈ TB := in_t7 147 rfl rfl
set_option maxRecDepth 100000 in
theorem ml_L_190 : Cond.methodLink RL 190 yX11_read ∈ TB := in_t7 151 rfl rfl
set_option maxRecDepth 100000 in
theorem ml_L_194 : Cond.methodLink RL 194 yX11_torn ∈ TB := in_t7 155 rfl rfl
set_option maxRecDepth 100000 in
theorem ml_L_198 : Cond.methodLink RL 198 yX11_count ∈ TB := in_t7 159 rfl rfl
set_option maxRecDepth 100000 in
theorem fl_X9_9 : Cond.fieldLink RX9 9 "HouseTwins$Tape" "bytes" "[I" ∈ TB := in_t1 33 rfl rfl
set_option maxRecDepth 100000 in
theorem fl_X10_84 : Cond.fieldLink RX10 84 "HouseTwins$Tape" "size" "I" ∈ TB := in_t1 34 rfl rfl
set_option maxRecDepth 100000 in
theorem fl_X9_15 : Cond.fieldLink RX9 15 "HouseTwins$Tape" "size" "I" ∈ TB := in_t1 35 rfl rfl
set_option maxRecDepth 100000 in
theorem fl_X4_55 : Cond.fieldLink RX4 55 "HouseTwins$Tape" "size" "I" ∈ TB := in_t1 36 rfl rfl
set_option maxRecDepth 100000 in
theorem fl_X1_35 : Cond.fieldLink RX1 35 "HouseTwins$Law" "lots" "I" ∈ TB := in_t1 55 rfl rfl
set_option maxRecDepth 100000 in
theorem fl_X0_51 : Cond.fieldLink RX0 51 "HouseTwins$Law" "lots" "I" ∈ TB := in_t1 56 rfl rfl
set_option maxRecDepth 100000 in
theorem fl_X6_63 : Cond.fieldLink RX6 63 "HouseTwins$Law" "lots" "I" ∈ TB := in_t1 57 rfl rfl
set_option maxRecDepth 100000 in
theorem fl_X10_116 : Cond.fieldLink RX10 116 "HouseTwins$Law" "lots" "I" ∈ TB := in_t1 58 rfl rfl
set_option maxRecDepth 100000 in
theorem fl_X4_123 : Cond.fieldLink RX4 123 "HouseTwins$Law" "lots" "I" ∈ TB := in_t1 59 rfl rfl
set_option maxRecDepth 100000 in
theorem fl_X1_39 : Cond.fieldLink RX1 39 "HouseTwins$Law" "bend" "I" ∈ TB := in_t1 60 rfl rfl
set_option maxRecDepth 100000 in
theorem fl_X10_119 : Cond.fieldLink RX10 119 "HouseTwins$Law" "bend" "I" ∈ TB := in_t1 61 rfl rfl
set_option maxRecDepth 100000 in
theorem fl_X4_126 : Cond.fieldLink RX4 126 "HouseTwins$Law" "bend" "I" ∈ TB := in_t1 62 rfl rfl
set_option maxRecDepth 100000 in
theorem fl_X1_42 : Cond.fieldLink RX1 42 "HouseTwins$Law" "pull" "I" ∈ TB := in_t1 63 rfl rfl
set_option maxRecDepth 100000 in
theorem fl_X10_122 : Cond.fieldLink RX10 122 "HouseTwins$Law" "pull" "I" ∈ TB := in_t1 64 rfl rfl
set_option maxRecDepth 100000 in
theorem fl_X4_129 : Cond.fieldLink RX4 129 "HouseTwins$Law" "pull" "I" ∈ TB := in_t1 65 rfl rfl
set_option maxRecDepth 100000 in
theorem fl_X1_45 : Cond.fieldLink RX1 45 "HouseTwins$Law" "rightKinds" "I" ∈ TB := in_t1 66 rfl rfl
set_option maxRecDepth 100000 in
theorem fl_X10_144 : Cond.fieldLink RX10 144 "HouseTwins$Law" "rightKinds" "I" ∈ TB := in_t1 67 rfl rfl
set_option maxRecDepth 100000 in
theorem fl_X4_182 : Cond.fieldLink RX4 182 "HouseTwins$Law" "rightKinds" "I" ∈ TB := in_t1 68 rfl rfl
set_option maxRecDepth 100000 in
theorem fl_X1_9 : Cond.fieldLink RX1 9 "HouseTwins$Law" "price" "[I" ∈ TB := in_t1 69 rfl rfl
set_option maxRecDepth 100000 in
theorem fl_X3_69 : Cond.fieldLink RX3 69 "HouseTwins$Law" "price" "[I" ∈ TB := in_t1 70 rfl rfl
set_option maxRecDepth 100000 in
theorem fl_X10_132 : Cond.fieldLink RX10 132 "HouseTwins$Law" "price" "[I" ∈ TB := in_t1 71 rfl rfl
set_option maxRecDepth 100000 in
theorem fl_X4_164 : Cond.fieldLink RX4 164 "HouseTwins$Law" "price" "[I" ∈ TB := in_t1 72 rfl rfl
set_option maxRecDepth 100000 in
theorem fl_X1_17 : Cond.fieldLink RX1 17 "HouseTwins$Law" "cost" "[[I" ∈ TB := in_t1 73 rfl rfl
set_option maxRecDepth 100000 in
theorem fl_X4_135 : Cond.fieldLink RX4 135 "HouseTwins$Law" "cost" "[[I" ∈ TB := in_t1 74 rfl rfl
set_option maxRecDepth 100000 in
theorem fl_X1_20 : Cond.fieldLink RX1 20 "HouseTwins$Law" "taste" "[[I" ∈ TB := in_t1 75 rfl rfl
set_option maxRecDepth 100000 in
theorem fl_X4_143 : Cond.fieldLink RX4 143 "HouseTwins$Law" "taste" "[[I" ∈ TB := in_t1 76 rfl rfl
set_option maxRecDepth 100000 in
theorem fl_X1_23 : Cond.fieldLink RX1 23 "HouseTwins$Law" "lackedKinds" "[I" ∈ TB := in_t1 77 rfl rfl
set_option maxRecDepth 100000 in
theorem fl_X4_173 : Cond.fieldLink RX4 173 "HouseTwins$Law" "lackedKinds" "[I" ∈ TB := in_t1 78 rfl rfl
set_option maxRecDepth 100000 in
theorem fl_X1_26 : Cond.fieldLink RX1 26 "HouseTwins$Law" "twin" "[I" ∈ TB := in_t1 79 rfl rfl
set_option maxRecDepth 100000 in
theorem fl_X4_176 : Cond.fieldLink RX4 176 "HouseTwins$Law" "twin" "[I" ∈ TB := in_t1 80 rfl rfl
set_option maxRecDepth 100000 in
theorem fl_X1_29 : Cond.fieldLink RX1 29 "HouseTwins$Law" "paint" "[I" ∈ TB := in_t1 81 rfl rfl
set_option maxRecDepth 100000 in
theorem fl_X10_158 : Cond.fieldLink RX10 158 "HouseTwins$Law" "paint" "[I" ∈ TB := in_t1 82 rfl rfl
set_option maxRecDepth 100000 in
theorem fl_X4_179 : Cond.fieldLink RX4 179 "HouseTwins$Law" "paint" "[I" ∈ TB := in_t1 83 rfl rfl
set_option maxRecDepth 100000 in
theorem fl_X5_7 : Cond.fieldLink RX5 7 "HouseTwins$Rows" "most" "I" ∈ TB := in_t1 117 rfl rfl
set_option maxRecDepth 100000 in
theorem fl_X5_13 : Cond.fieldLink RX5 13 "HouseTwins$Rows" "width" "I" ∈ TB := in_t1 118 rfl rfl
set_option maxRecDepth 100000 in
theorem fl_X10_167 : Cond.fieldLink RX10 167 "HouseTwins$Rows" "width" "I" ∈ TB := in_t1 119 rfl rfl
set_option maxRecDepth 100000 in
theorem fl_X5_16 : Cond.fieldLink RX5 16 "HouseTwins$Rows" "cells" "[I" ∈ TB := in_t1 120 rfl rfl
set_option maxRecDepth 100000 in
theorem fl_X5_20 : Cond.fieldLink RX5 20 "HouseTwins$Rows" "size" "I" ∈ TB := in_t1 121 rfl rfl
set_option maxRecDepth 100000 in
theorem fl_X3_35 : Cond.fieldLink RX3 35 "HouseTwins$Rows" "size" "I" ∈ TB := in_t1 122 rfl rfl
set_option maxRecDepth 100000 in
theorem fl_X6_49 : Cond.fieldLink RX6 49 "HouseTwins$Rows" "size" "I" ∈ TB := in_t1 123 rfl rfl
set_option maxRecDepth 100000 in
theorem fl_X2_59 : Cond.fieldLink RX2 59 "HouseTwins$Rows" "size" "I" ∈ TB := in_t1 124 rfl rfl
set_option maxRecDepth 100000 in
theorem fl_X10_129 : Cond.fieldLink RX10 129 "HouseTwins$Rows" "size" "I" ∈ TB := in_t1 125 rfl rfl
set_option maxRecDepth 100000 in
theorem fl_X7_55 : Cond.fieldLink RX7 55 "HouseTwins$Rows" "size" "I" ∈ TB := in_t1 126 rfl rfl
set_option maxRecDepth 100000 in
theorem fl_X4_211 : Cond.fieldLink RX4 211 "HouseTwins$Rows" "size" "I" ∈ TB := in_t1 127 rfl rfl
set_option maxRecDepth 100000 in
theorem fl_X7_9 : Cond.fieldLink RX7 9 "HouseTwins$Scene" "things" "[I" ∈ TB := in_t1 137 rfl rfl
set_option maxRecDepth 100000 in
theorem fl_X6_42 : Cond.fieldLink RX6 42 "HouseTwins$Scene" "things" "[I" ∈ TB := in_t1 138 rfl rfl
set_option maxRecDepth 100000 in
theorem fl_X10_186 : Cond.fieldLink RX10 186 "HouseTwins$Scene" "things" "[I" ∈ TB := in_t1 139 rfl rfl
set_option maxRecDepth 100000 in
theorem fl_X7_20 : Cond.fieldLink RX7 20 "HouseTwins$Scene" "works" "LHouseTwins$Rows;" ∈ TB := in_t1 140 rfl rfl
set_option maxRecDepth 100000 in
theorem fl_X6_45 : Cond.fieldLink RX6 45 "HouseTwins$Scene" "works" "LHouseTwins$Rows;" ∈ TB := in_t1 141 rfl rfl
set_option maxRecDepth 100000 in
theorem fl_X10_125 : Cond.fieldLink RX10 125 "HouseTwins$Scene" "works" "LHouseTwins$Rows;" ∈ TB := in_t1 142 rfl rfl
set_option maxRecDepth 100000 in
theorem fl_X4_195 : Cond.fieldLink RX4 195 "HouseTwins$Scene" "works" "LHouseTwins$Rows;" ∈ TB := in_t1 143 rfl rfl
set_option maxRecDepth 100000 in
theorem fl_X7_24 : Cond.fieldLink RX7 24 "HouseTwins$Scene" "wants" "LHouseTwins$Rows;" ∈ TB := in_t1 144 rfl rfl
set_option maxRecDepth 100000 in
theorem fl_X3_29 : Cond.fieldLink RX3 29 "HouseTwins$Scene" "wants" "LHouseTwins$Rows;" ∈ TB := in_t1 145 rfl rfl
set_option maxRecDepth 100000 in
theorem fl_X10_265 : Cond.fieldLink RX10 265 "HouseTwins$Scene" "wants" "LHouseTwins$Rows;" ∈ TB := in_t1 146 rfl rfl
set_option maxRecDepth 100000 in
theorem fl_X7_27 : Cond.fieldLink RX7 27 "HouseTwins$Scene" "seen" "LHouseTwins$Rows;" ∈ TB := in_t1 147 rfl rfl
set_option maxRecDepth 100000 in
theorem fl_X2_55 : Cond.fieldLink RX2 55 "HouseTwins$Scene" "seen" "LHouseTwins$Rows;" ∈ TB := in_t1 148 rfl rfl
set_option maxRecDepth 100000 in
theorem fl_X10_306 : Cond.fieldLink RX10 306 "HouseTwins$Scene" "seen" "LHouseTwins$Rows;" ∈ TB := in_t1 149 rfl rfl
set_option maxRecDepth 100000 in
theorem fl_X4_12 : Cond.fieldLink RX4 12 "HouseTwins$Reader" "law" "LHouseTwins$Law;" ∈ TB := in_t1 169 rfl rfl
set_option maxRecDepth 100000 in
theorem fl_X10_104 : Cond.fieldLink RX10 104 "HouseTwins$Reader" "law" "LHouseTwins$Law;" ∈ TB := in_t1 170 rfl rfl
set_option maxRecDepth 100000 in
theorem fl_X4_21 : Cond.fieldLink RX4 21 "HouseTwins$Reader" "scene" "LHouseTwins$Scene;" ∈ TB := in_t1 171 rfl rfl
set_option maxRecDepth 100000 in
theorem fl_X10_109 : Cond.fieldLink RX10 109 "HouseTwins$Reader" "scene" "LHouseTwins$Scene;" ∈ TB := in_t1 172 rfl rfl
set_option maxRecDepth 100000 in
theorem fl_X4_35 : Cond.fieldLink RX4 35 "HouseTwins$Reader" "fault" "I" ∈ TB := in_t1 173 rfl rfl
set_option maxRecDepth 100000 in
theorem fl_X10_95 : Cond.fieldLink RX10 95 "HouseTwins$Reader" "fault" "I" ∈ TB := in_t1 174 rfl rfl
set_option maxRecDepth 100000 in
theorem fl_X4_70 : Cond.fieldLink RX4 70 "HouseTwins$Reader" "place" "I" ∈ TB := in_t1 175 rfl rfl
set_option maxRecDepth 100000 in
theorem fl_X10_101 : Cond.fieldLink RX10 101 "HouseTwins$Reader" "place" "I" ∈ TB := in_t1 176 rfl rfl
set_option maxRecDepth 100000 in
theorem fl_X4_48 : Cond.fieldLink RX4 48 "HouseTwins$Reader" "lines" "I" ∈ TB := in_t1 177 rfl rfl
set_option maxRecDepth 100000 in
theorem fl_X10_113 : Cond.fieldLink RX10 113 "HouseTwins$Reader" "lines" "I" ∈ TB := in_t1 178 rfl rfl
set_option maxRecDepth 100000 in
theorem fl_X4_25 : Cond.fieldLink RX4 25 "HouseTwins$Reader" "tape" "LHouseTwins$Tape;" ∈ TB := in_t1 179 rfl rfl
set_option maxRecDepth 100000 in
theorem fl_X4_73 : Cond.fieldLink RX4 73 "HouseTwins$Reader" "next" "I" ∈ TB := in_t1 180 rfl rfl
set_option maxRecDepth 100000 in
theorem fl_X4_84 : Cond.fieldLink RX4 84 "HouseTwins$Reader" "start" "I" ∈ TB := in_t1 181 rfl rfl
set_option maxRecDepth 100000 in
theorem fl_X4_39 : Cond.fieldLink RX4 39 "HouseTwins$Reader" "type" "I" ∈ TB := in_t1 182 rfl rfl
set_option maxRecDepth 100000 in
theorem fl_X4_90 : Cond.fieldLink RX4 90 "HouseTwins$Reader" "figures" "I" ∈ TB := in_t1 183 rfl rfl
set_option maxRecDepth 100000 in
theorem fl_X4_76 : Cond.fieldLink RX4 76 "HouseTwins$Reader" "told" "J" ∈ TB := in_t1 184 rfl rfl
set_option maxRecDepth 100000 in
theorem fl_X6_9 : Cond.fieldLink RX6 9 "HouseTwins$Run" "things" "[I" ∈ TB := in_t1 214 rfl rfl
set_option maxRecDepth 100000 in
theorem fl_X10_197 : Cond.fieldLink RX10 197 "HouseTwins$Run" "things" "[I" ∈ TB := in_t1 215 rfl rfl
set_option maxRecDepth 100000 in
theorem fl_X6_15 : Cond.fieldLink RX6 15 "HouseTwins$Run" "spent" "[I" ∈ TB := in_t1 216 rfl rfl
set_option maxRecDepth 100000 in
theorem fl_X10_204 : Cond.fieldLink RX10 204 "HouseTwins$Run" "spent" "[I" ∈ TB := in_t1 217 rfl rfl
set_option maxRecDepth 100000 in
theorem fl_X6_18 : Cond.fieldLink RX6 18 "HouseTwins$Run" "fates" "[I" ∈ TB := in_t1 218 rfl rfl
set_option maxRecDepth 100000 in
theorem fl_X10_210 : Cond.fieldLink RX10 210 "HouseTwins$Run" "fates" "[I" ∈ TB := in_t1 219 rfl rfl
set_option maxRecDepth 100000 in
theorem fl_X6_27 : Cond.fieldLink RX6 27 "HouseTwins$Run" "law" "LHouseTwins$Law;" ∈ TB := in_t1 220 rfl rfl
set_option maxRecDepth 100000 in
theorem fl_X6_31 : Cond.fieldLink RX6 31 "HouseTwins$Run" "scene" "LHouseTwins$Scene;" ∈ TB := in_t1 221 rfl rfl
set_option maxRecDepth 100000 in
theorem fl_X6_21 : Cond.fieldLink RX6 21 "HouseTwins$Run" "latest" "[I" ∈ TB := in_t1 222 rfl rfl
set_option maxRecDepth 100000 in
theorem fl_X6_24 : Cond.fieldLink RX6 24 "HouseTwins$Run" "worked" "[I" ∈ TB := in_t1 223 rfl rfl
set_option maxRecDepth 100000 in
theorem fl_X0_41 : Cond.fieldLink RX0 41 "HouseTwins$Choice" "vexMost" "I" ∈ TB := in_t2 5 rfl rfl
set_option maxRecDepth 100000 in
theorem fl_X10_259 : Cond.fieldLink RX10 259 "HouseTwins$Choice" "vexMost" "I" ∈ TB := in_t2 6 rfl rfl
set_option maxRecDepth 100000 in
theorem fl_X0_45 : Cond.fieldLink RX0 45 "HouseTwins$Choice" "vexLot" "I" ∈ TB := in_t2 7 rfl rfl
set_option maxRecDepth 100000 in
theorem fl_X10_256 : Cond.fieldLink RX10 256 "HouseTwins$Choice" "vexLot" "I" ∈ TB := in_t2 8 rfl rfl
set_option maxRecDepth 100000 in
theorem fl_X0_48 : Cond.fieldLink RX0 48 "HouseTwins$Choice" "vexKind" "I" ∈ TB := in_t2 9 rfl rfl
set_option maxRecDepth 100000 in
theorem fl_X10_262 : Cond.fieldLink RX10 262 "HouseTwins$Choice" "vexKind" "I" ∈ TB := in_t2 10 rfl rfl
set_option maxRecDepth 100000 in
theorem fl_X0_9 : Cond.fieldLink RX0 9 "HouseTwins$Choice" "law" "LHouseTwins$Law;" ∈ TB := in_t2 11 rfl rfl
set_option maxRecDepth 100000 in
theorem fl_X0_15 : Cond.fieldLink RX0 15 "HouseTwins$Choice" "scene" "LHouseTwins$Scene;" ∈ TB := in_t2 12 rfl rfl
set_option maxRecDepth 100000 in
theorem fl_X3_21 : Cond.fieldLink RX3 21 "HouseTwins$Planner" "law" "LHouseTwins$Law;" ∈ TB := in_t2 30 rfl rfl
set_option maxRecDepth 100000 in
theorem fl_X3_25 : Cond.fieldLink RX3 25 "HouseTwins$Planner" "scene" "LHouseTwins$Scene;" ∈ TB := in_t2 31 rfl rfl
set_option maxRecDepth 100000 in
theorem fl_X3_11 : Cond.fieldLink RX3 11 "HouseTwins$Planner" "least" "[I" ∈ TB := in_t2 32 rfl rfl
set_option maxRecDepth 100000 in
theorem fl_X3_15 : Cond.fieldLink RX3 15 "HouseTwins$Planner" "weights" "[I" ∈ TB := in_t2 33 rfl rfl
set_option maxRecDepth 100000 in
theorem fl_X3_18 : Cond.fieldLink RX3 18 "HouseTwins$Planner" "months" "[I" ∈ TB := in_t2 34 rfl rfl
set_option maxRecDepth 100000 in
theorem fl_X2_34 : Cond.fieldLink RX2 34 "HouseTwins$Past" "found" "I" ∈ TB := in_t2 52 rfl rfl
set_option maxRecDepth 100000 in
theorem fl_X10_318 : Cond.fieldLink RX10 318 "HouseTwins$Past" "found" "I" ∈ TB := in_t2 53 rfl rfl
set_option maxRecDepth 100000 in
theorem fl_X2_49 : Cond.fieldLink RX2 49 "HouseTwins$Past" "firstMonth" "I" ∈ TB := in_t2 54 rfl rfl
set_option maxRecDepth 100000 in
theorem fl_X10_324 : Cond.fieldLink RX10 324 "HouseTwins$Past" "firstMonth" "I" ∈ TB := in_t2 55 rfl rfl
set_option maxRecDepth 100000 in
theorem fl_X2_52 : Cond.fieldLink RX2 52 "HouseTwins$Past" "lastMonth" "I" ∈ TB := in_t2 56 rfl rfl
set_option maxRecDepth 100000 in
theorem fl_X10_327 : Cond.fieldLink RX10 327 "HouseTwins$Past" "lastMonth" "I" ∈ TB := in_t2 57 rfl rfl
set_option maxRecDepth 100000 in
theorem fl_X2_38 : Cond.fieldLink RX2 38 "HouseTwins$Past" "beginners" "I" ∈ TB := in_t2 58 rfl rfl
set_option maxRecDepth 100000 in
theorem fl_X2_9 : Cond.fieldLink RX2 9 "HouseTwins$Past" "law" "LHouseTwins$Law;" ∈ TB := in_t2 59 rfl rfl
set_option maxRecDepth 100000 in
theorem fl_X2_15 : Cond.fieldLink RX2 15 "HouseTwins$Past" "scene" "LHouseTwins$Scene;" ∈ TB := in_t2 60 rfl rfl
set_option maxRecDepth 100000 in
theorem fl_X8_9 : Cond.fieldLink RX8 9 "HouseTwins$Sheet" "size" "I" ∈ TB := in_t2 82 rfl rfl
set_option maxRecDepth 100000 in
theorem fl_X10_361 : Cond.fieldLink RX10 361 "HouseTwins$Sheet" "size" "I" ∈ TB := in_t2 83 rfl rfl
set_option maxRecDepth 100000 in
theorem fl_X8_19 : Cond.fieldLink RX8 19 "HouseTwins$Sheet" "lane" "I" ∈ TB := in_t2 84 rfl rfl
set_option maxRecDepth 100000 in
theorem fl_X8_15 : Cond.fieldLink RX8 15 "HouseTwins$Sheet" "cells" "[I" ∈ TB := in_t2 85 rfl rfl
set_option maxRecDepth 100000 in
theorem fl_X10_10 : Cond.fieldLink RX10 10 "HouseTwins" "tape" "LHouseTwins$Tape;" ∈ TB := in_t2 94 rfl rfl
set_option maxRecDepth 100000 in
theorem fl_X10_19 : Cond.fieldLink RX10 19 "HouseTwins" "law" "LHouseTwins$Law;" ∈ TB := in_t2 95 rfl rfl
set_option maxRecDepth 100000 in
theorem fl_X10_26 : Cond.fieldLink RX10 26 "HouseTwins" "scene" "LHouseTwins$Scene;" ∈ TB := in_t2 96 rfl rfl
set_option maxRecDepth 100000 in
theorem fl_X10_35 : Cond.fieldLink RX10 35 "HouseTwins" "reader" "LHouseTwins$Reader;" ∈ TB := in_t2 97 rfl rfl
set_option maxRecDepth 100000 in
theorem fl_X10_44 : Cond.fieldLink RX10 44 "HouseTwins" "run" "LHouseTwins$Run;" ∈ TB := in_t2 98 rfl rfl
set_option maxRecDepth 100000 in
theorem fl_X10_51 : Cond.fieldLink RX10 51 "HouseTwins" "choice" "LHouseTwins$Choice;" ∈ TB := in_t2 99 rfl rfl
set_option maxRecDepth 100000 in
theorem fl_X10_58 : Cond.fieldLink RX10 58 "HouseTwins" "planner" "LHouseTwins$Planner;" ∈ TB := in_t2 100 rfl rfl
set_option maxRecDepth 100000 in
theorem fl_X10_65 : Cond.fieldLink RX10 65 "HouseTwins" "past" "LHouseTwins$Past;" ∈ TB := in_t2 101 rfl rfl
set_option maxRecDepth 100000 in
theorem fl_X10_69 : Cond.fieldLink RX10 69 "HouseTwins" "images" "[LHouseTwins$Scene;" ∈ TB := in_t2 102 rfl rfl
set_option maxRecDepth 100000 in
theorem fl_X10_73 : Cond.fieldLink RX10 73 "HouseTwins" "imageKept" "[Z" ∈ TB := in_t2 103 rfl rfl
set_option maxRecDepth 100000 in
theorem fl_X10_79 : Cond.fieldLink RX10 79 "HouseTwins" "sheets" "[LHouseTwins$Sheet;" ∈ TB := in_t2 104 rfl rfl
set_option maxRecDepth 100000 in
theorem fl_X10_98 : Cond.fieldLink RX10 98 "HouseTwins" "textFault" "I" ∈ TB := in_t2 105 rfl rfl
set_option maxRecDepth 100000 in
theorem fl_X10_355 : Cond.fieldLink RX10 355 "HouseTwins" "sheetFault" "I" ∈ TB := in_t2 106 rfl rfl
set_option maxRecDepth 100000 in
theorem fl_J0_38 : Cond.fieldLink RJ0 38 "java/lang/String" "COMPACT_STRINGS" "Z" ∈ TB := in_t2 199 rfl rfl
set_option maxRecDepth 100000 in
theorem fl_J0_1053 : Cond.fieldLink RJ0 1053 "jdk/internal/util/Preconditions" "SIOOBE_FORMATTER" "Ljava/util/function/BiFunction;" ∈ TB := in_t2 215 rfl rfl
set_option maxRecDepth 100000 in
theorem fl_J2_44 : Cond.fieldLink RJ2 44 "java/lang/StringUTF16" "$assertionsDisabled" "Z" ∈ TB := in_t2 233 rfl rfl
set_option maxRecDepth 100000 in
theorem fl_J2_59 : Cond.fieldLink RJ2 59 "java/lang/StringUTF16" "HI_BYTE_SHIFT" "I" ∈ TB := in_t2 235 rfl rfl
set_option maxRecDepth 100000 in
theorem fl_J2_63 : Cond.fieldLink RJ2 63 "java/lang/StringUTF16" "LO_BYTE_SHIFT" "I" ∈ TB := in_t2 237 rfl rfl
set_option maxRecDepth 100000 in
theorem fl_X11_7 : Cond.fieldLink RX11 7 "HouseTwinsModel" "st" "[I" ∈ TB := in_t5 91 rfl rfl
set_option maxRecDepth 100000 in
theorem fl_X11_13 : Cond.fieldLink RX11 13 "HouseTwinsModel" "isKept" "[Z" ∈ TB := in_t5 92 rfl rfl
set_option maxRecDepth 100000 in
theorem fl_X11_129 : Cond.fieldLink RX11 129 "HouseTwinsModel" "lots" "I" ∈ TB := in_t5 93 rfl rfl
set_option maxRecDepth 100000 in
theorem fl_X11_132 : Cond.fieldLink RX11 132 "HouseTwinsModel" "bend" "I" ∈ TB := in_t5 94 rfl rfl
set_option maxRecDepth 100000 in
theorem fl_X11_135 : Cond.fieldLink RX11 135 "HouseTwinsModel" "pull" "I" ∈ TB := in_t5 95 rfl rfl
set_option maxRecDepth 100000 in
theorem fl_X11_17 : Cond.fieldLink RX11 17 "HouseTwinsModel" "price" "[I" ∈ TB := in_t5 96 rfl rfl
set_option maxRecDepth 100000 in
theorem fl_X11_20 : Cond.fieldLink RX11 20 "HouseTwinsModel" "cost" "[I" ∈ TB := in_t5 97 rfl rfl
set_option maxRecDepth 100000 in
theorem fl_X11_23 : Cond.fieldLink RX11 23 "HouseTwinsModel" "taste" "[I" ∈ TB := in_t5 98 rfl rfl
set_option maxRecDepth 100000 in
theorem fl_X11_26 : Cond.fieldLink RX11 26 "HouseTwinsModel" "lacks" "[I" ∈ TB := in_t5 99 rfl rfl
set_option maxRecDepth 100000 in
theorem fl_X11_29 : Cond.fieldLink RX11 29 "HouseTwinsModel" "twin" "[I" ∈ TB := in_t5 100 rfl rfl
set_option maxRecDepth 100000 in
theorem fl_X11_32 : Cond.fieldLink RX11 32 "HouseTwinsModel" "paint" "[I" ∈ TB := in_t5 101 rfl rfl
set_option maxRecDepth 100000 in
theorem fl_X11_138 : Cond.fieldLink RX11 138 "HouseTwinsModel" "rights" "I" ∈ TB := in_t5 102 rfl rfl
set_option maxRecDepth 100000 in
theorem fl_X11_35 : Cond.fieldLink RX11 35 "HouseTwinsModel" "draft" "[I" ∈ TB := in_t5 103 rfl rfl
set_option maxRecDepth 100000 in
theorem fl_X11_95 : Cond.fieldLink RX11 95 "HouseTwinsModel" "dLots" "I" ∈ TB := in_t5 104 rfl rfl
set_option maxRecDepth 100000 in
theorem fl_X11_99 : Cond.fieldLink RX11 99 "HouseTwinsModel" "dBend" "I" ∈ TB := in_t5 105 rfl rfl
set_option maxRecDepth 100000 in
theorem fl_X11_102 : Cond.fieldLink RX11 102 "HouseTwinsModel" "dPull" "I" ∈ TB := in_t5 106 rfl rfl
set_option maxRecDepth 100000 in
theorem fl_X11_38 : Cond.fieldLink RX11 38 "HouseTwinsModel" "dPrice" "[I" ∈ TB := in_t5 107 rfl rfl
set_option maxRecDepth 100000 in
theorem fl_X11_41 : Cond.fieldLink RX11 41 "HouseTwinsModel" "dCost" "[I" ∈ TB := in_t5 108 rfl rfl
set_option maxRecDepth 100000 in
theorem fl_X11_44 : Cond.fieldLink RX11 44 "HouseTwinsModel" "dTaste" "[I" ∈ TB := in_t5 109 rfl rfl
set_option maxRecDepth 100000 in
theorem fl_X11_47 : Cond.fieldLink RX11 47 "HouseTwinsModel" "dLacks" "[I" ∈ TB := in_t5 110 rfl rfl
set_option maxRecDepth 100000 in
theorem fl_X11_50 : Cond.fieldLink RX11 50 "HouseTwinsModel" "dTwin" "[I" ∈ TB := in_t5 111 rfl rfl
set_option maxRecDepth 100000 in
theorem fl_X11_53 : Cond.fieldLink RX11 53 "HouseTwinsModel" "dPaint" "[I" ∈ TB := in_t5 112 rfl rfl
set_option maxRecDepth 100000 in
theorem fl_X11_105 : Cond.fieldLink RX11 105 "HouseTwinsModel" "dRights" "I" ∈ TB := in_t5 113 rfl rfl
set_option maxRecDepth 100000 in
theorem fl_X11_108 : Cond.fieldLink RX11 108 "HouseTwinsModel" "toldLines" "I" ∈ TB := in_t5 114 rfl rfl
set_option maxRecDepth 100000 in
theorem fl_X11_111 : Cond.fieldLink RX11 111 "HouseTwinsModel" "toldThings" "I" ∈ TB := in_t5 115 rfl rfl
set_option maxRecDepth 100000 in
theorem fl_X11_114 : Cond.fieldLink RX11 114 "HouseTwinsModel" "toldCosts" "I" ∈ TB := in_t5 116 rfl rfl
set_option maxRecDepth 100000 in
theorem fl_X11_117 : Cond.fieldLink RX11 117 "HouseTwinsModel" "toldTastes" "I" ∈ TB := in_t5 117 rfl rfl
set_option maxRecDepth 100000 in
theorem fl_X11_120 : Cond.fieldLink RX11 120 "HouseTwinsModel" "toldKinds" "I" ∈ TB := in_t5 118 rfl rfl
set_option maxRecDepth 100000 in
theorem fl_X11_123 : Cond.fieldLink RX11 123 "HouseTwinsModel" "toldColours" "I" ∈ TB := in_t5 119 rfl rfl
set_option maxRecDepth 100000 in
theorem fl_X11_126 : Cond.fieldLink RX11 126 "HouseTwinsModel" "highestLot" "I" ∈ TB := in_t5 120 rfl rfl
set_option maxRecDepth 100000 in
theorem fl_X11_56 : Cond.fieldLink RX11 56 "HouseTwinsModel" "tape" "[I" ∈ TB := in_t5 121 rfl rfl
set_option maxRecDepth 100000 in
theorem fl_X11_141 : Cond.fieldLink RX11 141 "HouseTwinsModel" "taped" "I" ∈ TB := in_t5 122 rfl rfl
set_option maxRecDepth 100000 in
theorem fl_X11_159 : Cond.fieldLink RX11 159 "HouseTwinsModel" "pos" "I" ∈ TB := in_t5 123 rfl rfl
set_option maxRecDepth 100000 in
theorem fl_X11_153 : Cond.fieldLink RX11 153 "HouseTwinsModel" "from" "I" ∈ TB := in_t5 124 rfl rfl
set_option maxRecDepth 100000 in
theorem fl_X11_178 : Cond.fieldLink RX11 178 "HouseTwinsModel" "sort" "I" ∈ TB := in_t5 125 rfl rfl
set_option maxRecDepth 100000 in
theorem fl_X11_189 : Cond.fieldLink RX11 189 "HouseTwinsModel" "value" "I" ∈ TB := in_t5 126 rfl rfl
set_option maxRecDepth 100000 in
theorem fl_X11_150 : Cond.fieldLink RX11 150 "HouseTwinsModel" "fault" "I" ∈ TB := in_t5 127 rfl rfl
set_option maxRecDepth 100000 in
theorem fl_X11_156 : Cond.fieldLink RX11 156 "HouseTwinsModel" "wrongAt" "I" ∈ TB := in_t5 128 rfl rfl
set_option maxRecDepth 100000 in
theorem fl_X11_59 : Cond.fieldLink RX11 59 "HouseTwinsModel" "now" "[I" ∈ TB := in_t5 129 rfl rfl
set_option maxRecDepth 100000 in
theorem fl_X11_62 : Cond.fieldLink RX11 62 "HouseTwinsModel" "latest" "[I" ∈ TB := in_t5 130 rfl rfl
set_option maxRecDepth 100000 in
theorem fl_X11_65 : Cond.fieldLink RX11 65 "HouseTwinsModel" "nowWorked" "[Z" ∈ TB := in_t5 131 rfl rfl
set_option maxRecDepth 100000 in
theorem fl_X11_68 : Cond.fieldLink RX11 68 "HouseTwinsModel" "wasWorked" "[Z" ∈ TB := in_t5 132 rfl rfl
set_option maxRecDepth 100000 in
theorem fl_X11_71 : Cond.fieldLink RX11 71 "HouseTwinsModel" "paidBy" "[I" ∈ TB := in_t5 133 rfl rfl
set_option maxRecDepth 100000 in
theorem fl_X11_74 : Cond.fieldLink RX11 74 "HouseTwinsModel" "fates" "[I" ∈ TB := in_t5 134 rfl rfl
set_option maxRecDepth 100000 in
theorem fl_X11_77 : Cond.fieldLink RX11 77 "HouseTwinsModel" "rests" "[I" ∈ TB := in_t5 135 rfl rfl
set_option maxRecDepth 100000 in
theorem fl_X11_80 : Cond.fieldLink RX11 80 "HouseTwinsModel" "lanes" "[I" ∈ TB := in_t5 136 rfl rfl
set_option maxRecDepth 100000 in
theorem fl_X11_83 : Cond.fieldLink RX11 83 "HouseTwinsModel" "sizes" "[I" ∈ TB := in_t5 137 rfl rfl
set_option maxRecDepth 100000 in
theorem fl_X11_86 : Cond.fieldLink RX11 86 "HouseTwinsModel" "cells" "[I" ∈ TB := in_t5 138 rfl rfl
set_option maxRecDepth 100000 in
theorem fl_X11_374 : Cond.fieldLink RX11 374 "HouseTwinsModel" "torn" "I" ∈ TB := in_t5 139 rfl rfl
set_option maxRecDepth 100000 in
theorem fl_J0_9 : Cond.fieldLink RJ0 9 "java/lang/String" "value" "[B" ∈ TB := in_t7 164 rfl rfl
set_option maxRecDepth 100000 in
theorem fl_J0_15 : Cond.fieldLink RJ0 15 "java/lang/String" "coder" "B" ∈ TB := in_t7 165 rfl rfl
set_option maxRecDepth 100000 in
theorem kl_X10_309 : Cond.constantLong RX10 309 (-1 : Int64) ∈ TB := in_t4 219 rfl rfl
set_option maxRecDepth 100000 in
theorem kl_X11_144 : Cond.constantLong RX11 144 (255 : Int64) ∈ TB := in_t6 3 rfl rfl
set_option maxRecDepth 100000 in
theorem kl_X11_181 : Cond.constantLong RX11 181 (97 : Int64) ∈ TB := in_t6 23 rfl rfl
set_option maxRecDepth 100000 in
theorem kl_X11_183 : Cond.constantLong RX11 183 (122 : Int64) ∈ TB := in_t6 24 rfl rfl
set_option maxRecDepth 100000 in
theorem kl_X11_185 : Cond.constantLong RX11 185 (48 : Int64) ∈ TB := in_t6 25 rfl rfl
set_option maxRecDepth 100000 in
theorem kl_X11_187 : Cond.constantLong RX11 187 (57 : Int64) ∈ TB := in_t6 26 rfl rfl
set_option maxRecDepth 100000 in
theorem kl_X11_251 : Cond.constantLong RX11 251 (10 : Int64) ∈ TB := in_t6 115 rfl rfl
set_option maxRecDepth 100000 in
theorem kl_X11_253 : Cond.constantLong RX11 253 (13 : Int64) ∈ TB := in_t6 116 rfl rfl
set_option maxRecDepth 100000 in
theorem kl_X11_255 : Cond.constantLong RX11 255 (5 : Int64) ∈ TB := in_t6 124 rfl rfl
set_option maxRecDepth 100000 in
theorem kl_X11_269 : Cond.constantLong RX11 269 (3 : Int64) ∈ TB := in_t6 136 rfl rfl
set_option maxRecDepth 100000 in
theorem kl_X11_271 : Cond.constantLong RX11 271 (63 : Int64) ∈ TB := in_t6 144 rfl rfl
set_option maxRecDepth 100000 in
theorem kl_X11_310 : Cond.constantLong RX11 310 (24 : Int64) ∈ TB := in_t6 207 rfl rfl
set_option maxRecDepth 100000 in
theorem kl_X11_318 : Cond.constantLong RX11 318 (23 : Int64) ∈ TB := in_t7 8 rfl rfl
set_option maxRecDepth 100000 in
theorem kl_X11_332 : Cond.constantLong RX11 332 (2 : Int64) ∈ TB := in_t7 41 rfl rfl
set_option maxRecDepth 100000 in
theorem kl_X11_344 : Cond.constantLong RX11 344 (6 : Int64) ∈ TB := in_t7 78 rfl rfl
set_option maxRecDepth 100000 in
theorem kl_X11_355 : Cond.constantLong RX11 355 (-1 : Int64) ∈ TB := in_t7 107 rfl rfl
set_option maxRecDepth 100000 in
theorem kl_L_13 : Cond.constantLong RL 13 (4294967295 : Int64) ∈ TB := in_t7 163 rfl rfl
set_option maxRecDepth 100000 in
theorem ki_X3_75 : Cond.constant RX3 75 (1000000 : Int32) ∈ TB := in_t4 147 rfl rfl
set_option maxRecDepth 100000 in
theorem ki_X11_337 : Cond.constant RX11 337 (99999 : Int32) ∈ TB := in_t7 61 rfl rfl
theorem nl_X10_9 : ((RX10, 9, yX9_init) : String × Nat × MethodName) ∈ nestL := List.mem_of_getElem? (i := 0) rfl
theorem nl_X10_25 : ((RX10, 25, yX7_init) : String × Nat × MethodName) ∈ nestL := List.mem_of_getElem? (i := 1) rfl
theorem nl_X4_20 : ((RX4, 20, yX7_init) : String × Nat × MethodName) ∈ nestL := List.mem_of_getElem? (i := 2) rfl
theorem nl_X10_83 : ((RX10, 83, yX8_init) : String × Nat × MethodName) ∈ nestL := List.mem_of_getElem? (i := 3) rfl
theorem nl_X4_185 : ((RX4, 185, yX10_slot) : String × Nat × MethodName) ∈ nestL := List.mem_of_getElem? (i := 4) rfl
theorem nl_X7_44 : ((RX7, 44, yX10_isSlot) : String × Nat × MethodName) ∈ nestL := List.mem_of_getElem? (i := 5) rfl
theorem nl_X7_48 : ((RX7, 48, yX10_slot) : String × Nat × MethodName) ∈ nestL := List.mem_of_getElem? (i := 6) rfl
theorem nl_X1_58 : ((RX1, 58, yX10_isKind) : String × Nat × MethodName) ∈ nestL := List.mem_of_getElem? (i := 7) rfl
theorem nl_X1_62 : ((RX1, 62, yX10_isBank) : String × Nat × MethodName) ∈ nestL := List.mem_of_getElem? (i := 8) rfl
theorem nl_X1_65 : ((RX1, 65, yX10_isBuilt) : String × Nat × MethodName) ∈ nestL := List.mem_of_getElem? (i := 9) rfl
theorem nl_X1_54 : ((RX1, 54, yX10_isSlot) : String × Nat × MethodName) ∈ nestL := List.mem_of_getElem? (i := 10) rfl
theorem nl_X1_89 : ((RX1, 89, yX10_slot) : String × Nat × MethodName) ∈ nestL := List.mem_of_getElem? (i := 11) rfl
theorem nl_X6_83 : ((RX6, 83, yX10_slot) : String × Nat × MethodName) ∈ nestL := List.mem_of_getElem? (i := 12) rfl
set_option maxRecDepth 100000 in
theorem lys0 : ∀ w ∈ u_ws RX0 TX0 5, w ∈ TB := by
  intro w hw
  obtain ⟨q, hq, rfl⟩ := List.mem_map.mp hw
  have hq := List.mem_range.mp hq
  match q, hq with
  | 0, _ => exact in_t2 13 rfl rfl
  | 1, _ => exact in_t2 15 rfl rfl
  | 2, _ => exact in_t2 17 rfl rfl
  | 3, _ => exact in_t2 19 rfl rfl
  | 4, _ => exact in_t2 21 rfl rfl
  | q + 5, h => exact absurd h (by omega)
theorem cl0 : ClsOk 0 RX0 TX0 5 tyX0 := ⟨rfl, lys0, tyX0_ok, nmX0⟩
set_option maxRecDepth 100000 in
theorem lys1 : ∀ w ∈ u_ws RX1 TX1 10, w ∈ TB := by
  intro w hw
  obtain ⟨q, hq, rfl⟩ := List.mem_map.mp hw
  have hq := List.mem_range.mp hq
  match q, hq with
  | 0, _ => exact in_t1 84 rfl rfl
  | 1, _ => exact in_t1 86 rfl rfl
  | 2, _ => exact in_t1 88 rfl rfl
  | 3, _ => exact in_t1 90 rfl rfl
  | 4, _ => exact in_t1 92 rfl rfl
  | 5, _ => exact in_t1 94 rfl rfl
  | 6, _ => exact in_t1 96 rfl rfl
  | 7, _ => exact in_t1 98 rfl rfl
  | 8, _ => exact in_t1 100 rfl rfl
  | 9, _ => exact in_t1 102 rfl rfl
  | q + 10, h => exact absurd h (by omega)
theorem cl1 : ClsOk 1 RX1 TX1 10 tyX1 := ⟨rfl, lys1, tyX1_ok, nmX1⟩
set_option maxRecDepth 100000 in
theorem lys2 : ∀ w ∈ u_ws RX2 TX2 6, w ∈ TB := by
  intro w hw
  obtain ⟨q, hq, rfl⟩ := List.mem_map.mp hw
  have hq := List.mem_range.mp hq
  match q, hq with
  | 0, _ => exact in_t2 61 rfl rfl
  | 1, _ => exact in_t2 63 rfl rfl
  | 2, _ => exact in_t2 65 rfl rfl
  | 3, _ => exact in_t2 67 rfl rfl
  | 4, _ => exact in_t2 69 rfl rfl
  | 5, _ => exact in_t2 71 rfl rfl
  | q + 6, h => exact absurd h (by omega)
theorem cl2 : ClsOk 2 RX2 TX2 6 tyX2 := ⟨rfl, lys2, tyX2_ok, nmX2⟩
set_option maxRecDepth 100000 in
theorem lys3 : ∀ w ∈ u_ws RX3 TX3 5, w ∈ TB := by
  intro w hw
  obtain ⟨q, hq, rfl⟩ := List.mem_map.mp hw
  have hq := List.mem_range.mp hq
  match q, hq with
  | 0, _ => exact in_t2 35 rfl rfl
  | 1, _ => exact in_t2 37 rfl rfl
  | 2, _ => exact in_t2 39 rfl rfl
  | 3, _ => exact in_t2 41 rfl rfl
  | 4, _ => exact in_t2 43 rfl rfl
  | q + 5, h => exact absurd h (by omega)
theorem cl3 : ClsOk 3 RX3 TX3 5 tyX3 := ⟨rfl, lys3, tyX3_ok, nmX3⟩
set_option maxRecDepth 100000 in
theorem lys4 : ∀ w ∈ u_ws RX4 TX4 11, w ∈ TB := by
  intro w hw
  obtain ⟨q, hq, rfl⟩ := List.mem_map.mp hw
  have hq := List.mem_range.mp hq
  match q, hq with
  | 0, _ => exact in_t1 185 rfl rfl
  | 1, _ => exact in_t1 187 rfl rfl
  | 2, _ => exact in_t1 189 rfl rfl
  | 3, _ => exact in_t1 191 rfl rfl
  | 4, _ => exact in_t1 193 rfl rfl
  | 5, _ => exact in_t1 195 rfl rfl
  | 6, _ => exact in_t1 197 rfl rfl
  | 7, _ => exact in_t1 199 rfl rfl
  | 8, _ => exact in_t1 201 rfl rfl
  | 9, _ => exact in_t1 203 rfl rfl
  | 10, _ => exact in_t1 205 rfl rfl
  | q + 11, h => exact absurd h (by omega)
theorem cl4 : ClsOk 4 RX4 TX4 11 tyX4 := ⟨rfl, lys4, tyX4_ok, nmX4⟩
set_option maxRecDepth 100000 in
theorem lys5 : ∀ w ∈ u_ws RX5 TX5 4, w ∈ TB := by
  intro w hw
  obtain ⟨q, hq, rfl⟩ := List.mem_map.mp hw
  have hq := List.mem_range.mp hq
  match q, hq with
  | 0, _ => exact in_t1 128 rfl rfl
  | 1, _ => exact in_t1 130 rfl rfl
  | 2, _ => exact in_t1 132 rfl rfl
  | 3, _ => exact in_t1 134 rfl rfl
  | q + 4, h => exact absurd h (by omega)
theorem cl5 : ClsOk 5 RX5 TX5 4 tyX5 := ⟨rfl, lys5, tyX5_ok, nmX5⟩
set_option maxRecDepth 100000 in
theorem lys6 : ∀ w ∈ u_ws RX6 TX6 7, w ∈ TB := by
  intro w hw
  obtain ⟨q, hq, rfl⟩ := List.mem_map.mp hw
  have hq := List.mem_range.mp hq
  match q, hq with
  | 0, _ => exact in_t1 224 rfl rfl
  | 1, _ => exact in_t1 226 rfl rfl
  | 2, _ => exact in_t1 228 rfl rfl
  | 3, _ => exact in_t1 230 rfl rfl
  | 4, _ => exact in_t1 232 rfl rfl
  | 5, _ => exact in_t1 234 rfl rfl
  | 6, _ => exact in_t1 236 rfl rfl
  | q + 7, h => exact absurd h (by omega)
theorem cl6 : ClsOk 6 RX6 TX6 7 tyX6 := ⟨rfl, lys6, tyX6_ok, nmX6⟩
set_option maxRecDepth 100000 in
theorem lys7 : ∀ w ∈ u_ws RX7 TX7 4, w ∈ TB := by
  intro w hw
  obtain ⟨q, hq, rfl⟩ := List.mem_map.mp hw
  have hq := List.mem_range.mp hq
  match q, hq with
  | 0, _ => exact in_t1 150 rfl rfl
  | 1, _ => exact in_t1 152 rfl rfl
  | 2, _ => exact in_t1 154 rfl rfl
  | 3, _ => exact in_t1 156 rfl rfl
  | q + 4, h => exact absurd h (by omega)
theorem cl7 : ClsOk 7 RX7 TX7 4 tyX7 := ⟨rfl, lys7, tyX7_ok, nmX7⟩
set_option maxRecDepth 100000 in
theorem lys8 : ∀ w ∈ u_ws RX8 TX8 3, w ∈ TB := by
  intro w hw
  obtain ⟨q, hq, rfl⟩ := List.mem_map.mp hw
  have hq := List.mem_range.mp hq
  match q, hq with
  | 0, _ => exact in_t2 86 rfl rfl
  | 1, _ => exact in_t2 88 rfl rfl
  | 2, _ => exact in_t2 90 rfl rfl
  | q + 3, h => exact absurd h (by omega)
theorem cl8 : ClsOk 8 RX8 TX8 3 tyX8 := ⟨rfl, lys8, tyX8_ok, nmX8⟩
set_option maxRecDepth 100000 in
theorem lys9 : ∀ w ∈ u_ws RX9 TX9 2, w ∈ TB := by
  intro w hw
  obtain ⟨q, hq, rfl⟩ := List.mem_map.mp hw
  have hq := List.mem_range.mp hq
  match q, hq with
  | 0, _ => exact in_t1 37 rfl rfl
  | 1, _ => exact in_t1 39 rfl rfl
  | q + 2, h => exact absurd h (by omega)
theorem cl9 : ClsOk 9 RX9 TX9 2 tyX9 := ⟨rfl, lys9, tyX9_ok, nmX9⟩
set_option maxRecDepth 100000 in
theorem lys10 : ∀ w ∈ u_ws RX10 TX10 13, w ∈ TB := by
  intro w hw
  obtain ⟨q, hq, rfl⟩ := List.mem_map.mp hw
  have hq := List.mem_range.mp hq
  match q, hq with
  | 0, _ => exact in_t2 107 rfl rfl
  | 1, _ => exact in_t2 109 rfl rfl
  | 2, _ => exact in_t2 111 rfl rfl
  | 3, _ => exact in_t2 113 rfl rfl
  | 4, _ => exact in_t2 115 rfl rfl
  | 5, _ => exact in_t2 117 rfl rfl
  | 6, _ => exact in_t2 119 rfl rfl
  | 7, _ => exact in_t2 121 rfl rfl
  | 8, _ => exact in_t2 123 rfl rfl
  | 9, _ => exact in_t2 125 rfl rfl
  | 10, _ => exact in_t2 127 rfl rfl
  | 11, _ => exact in_t2 129 rfl rfl
  | 12, _ => exact in_t2 131 rfl rfl
  | q + 13, h => exact absurd h (by omega)
theorem cl10 : ClsOk 10 RX10 TX10 13 tyX10 := ⟨rfl, lys10, tyX10_ok, nmX10⟩
set_option maxRecDepth 100000 in
theorem lys11 : ∀ w ∈ u_ws RX11 TX11 49, w ∈ TB := by
  intro w hw
  obtain ⟨q, hq, rfl⟩ := List.mem_map.mp hw
  have hq := List.mem_range.mp hq
  match q, hq with
  | 0, _ => exact in_t5 140 rfl rfl
  | 1, _ => exact in_t5 142 rfl rfl
  | 2, _ => exact in_t5 144 rfl rfl
  | 3, _ => exact in_t5 146 rfl rfl
  | 4, _ => exact in_t5 148 rfl rfl
  | 5, _ => exact in_t5 150 rfl rfl
  | 6, _ => exact in_t5 152 rfl rfl
  | 7, _ => exact in_t5 154 rfl rfl
  | 8, _ => exact in_t5 156 rfl rfl
  | 9, _ => exact in_t5 158 rfl rfl
  | 10, _ => exact in_t5 160 rfl rfl
  | 11, _ => exact in_t5 162 rfl rfl
  | 12, _ => exact in_t5 164 rfl rfl
  | 13, _ => exact in_t5 166 rfl rfl
  | 14, _ => exact in_t5 168 rfl rfl
  | 15, _ => exact in_t5 170 rfl rfl
  | 16, _ => exact in_t5 172 rfl rfl
  | 17, _ => exact in_t5 174 rfl rfl
  | 18, _ => exact in_t5 176 rfl rfl
  | 19, _ => exact in_t5 178 rfl rfl
  | 20, _ => exact in_t5 180 rfl rfl
  | 21, _ => exact in_t5 182 rfl rfl
  | 22, _ => exact in_t5 184 rfl rfl
  | 23, _ => exact in_t5 186 rfl rfl
  | 24, _ => exact in_t5 188 rfl rfl
  | 25, _ => exact in_t5 190 rfl rfl
  | 26, _ => exact in_t5 192 rfl rfl
  | 27, _ => exact in_t5 194 rfl rfl
  | 28, _ => exact in_t5 196 rfl rfl
  | 29, _ => exact in_t5 198 rfl rfl
  | 30, _ => exact in_t5 200 rfl rfl
  | 31, _ => exact in_t5 202 rfl rfl
  | 32, _ => exact in_t5 204 rfl rfl
  | 33, _ => exact in_t5 206 rfl rfl
  | 34, _ => exact in_t5 208 rfl rfl
  | 35, _ => exact in_t5 210 rfl rfl
  | 36, _ => exact in_t5 212 rfl rfl
  | 37, _ => exact in_t5 214 rfl rfl
  | 38, _ => exact in_t5 216 rfl rfl
  | 39, _ => exact in_t5 218 rfl rfl
  | 40, _ => exact in_t5 220 rfl rfl
  | 41, _ => exact in_t5 222 rfl rfl
  | 42, _ => exact in_t5 224 rfl rfl
  | 43, _ => exact in_t5 226 rfl rfl
  | 44, _ => exact in_t5 228 rfl rfl
  | 45, _ => exact in_t5 230 rfl rfl
  | 46, _ => exact in_t5 232 rfl rfl
  | 47, _ => exact in_t5 234 rfl rfl
  | 48, _ => exact in_t5 236 rfl rfl
  | q + 49, h => exact absurd h (by omega)
theorem cl11 : ClsOk 11 RX11 TX11 49 tyX11 := ⟨rfl, lys11, tyX11_ok, nmX11⟩
