/-! methods, and where the tables speak of them (printed by wip/whole/gen/meth.py) -/
theorem in_t1 {c : Cond} (i : Nat) (h : tables_1_1[i]? = some c) (hg : goodWord c = true) : c ∈ TB := by
  have h0 := List.mem_of_getElem? h
  have h1 : c ∈ tables_1 := List.mem_append_left _ h0
  exact tb_in (List.mem_append_right _ h1) hg
theorem in_t2 {c : Cond} (i : Nat) (h : tables_1_2[i]? = some c) (hg : goodWord c = true) : c ∈ TB := by
  have h0 := List.mem_of_getElem? h
  have h1 : c ∈ tables_1 := List.mem_append_right _ (List.mem_append_left _ h0)
  exact tb_in (List.mem_append_right _ h1) hg
theorem in_t3 {c : Cond} (i : Nat) (h : tables_1_3[i]? = some c) (hg : goodWord c = true) : c ∈ TB := by
  have h0 := List.mem_of_getElem? h
  have h1 : c ∈ tables_1 := List.mem_append_right _ (List.mem_append_right _ (List.mem_append_left _ h0))
  exact tb_in (List.mem_append_right _ h1) hg
theorem in_t4 {c : Cond} (i : Nat) (h : tables_1_4[i]? = some c) (hg : goodWord c = true) : c ∈ TB := by
  have h0 := List.mem_of_getElem? h
  have h1 : c ∈ tables_1 := List.mem_append_right _ (List.mem_append_right _ (List.mem_append_right _ (List.mem_append_left _ h0)))
  exact tb_in (List.mem_append_right _ h1) hg
theorem in_t5 {c : Cond} (i : Nat) (h : tables_1_5[i]? = some c) (hg : goodWord c = true) : c ∈ TB := by
  have h0 := List.mem_of_getElem? h
  have h1 : c ∈ tables_1 := List.mem_append_right _ (List.mem_append_right _ (List.mem_append_right _ (List.mem_append_right _ (List.mem_append_left _ h0))))
  exact tb_in (List.mem_append_right _ h1) hg
theorem in_t6 {c : Cond} (i : Nat) (h : tables_1_6[i]? = some c) (hg : goodWord c = true) : c ∈ TB := by
  have h0 := List.mem_of_getElem? h
  have h1 : c ∈ tables_1 := List.mem_append_right _ (List.mem_append_right _ (List.mem_append_right _ (List.mem_append_right _ (List.mem_append_right _ (List.mem_append_left _ h0)))))
  exact tb_in (List.mem_append_right _ h1) hg
theorem in_t7 {c : Cond} (i : Nat) (h : tables_1_7[i]? = some c) (hg : goodWord c = true) : c ∈ TB := by
  have h0 := List.mem_of_getElem? h
  have h1 : c ∈ tables_1 := List.mem_append_right _ (List.mem_append_right _ (List.mem_append_right _ (List.mem_append_right _ (List.mem_append_right _ (List.mem_append_right _ (h0))))))
  exact tb_in (List.mem_append_right _ h1) hg
theorem in_pv {y : MethodName} (n i : Nat) (h : lw_privs[i]? = some (y, n)) : Cond.selects y.cls y y ∈ TB := tb_in (List.mem_append_left _ (List.mem_map.mpr ⟨(y, n), List.mem_of_getElem? h, rfl⟩)) rfl
abbrev kX0_init : MD := (yX0_init, cX0_init, 3, none, 1, 20, 0, 0)
abbrev kX0_gainOf : MD := (yX0_gainOf, cX0_gainOf, 4, (some .int), 4, 85, 0, 0)
abbrev kX0_bestKind : MD := (yX0_bestKind, cX0_bestKind, 7, (some .int), 5, 108, 0, 0)
abbrev kX0_findVex : MD := (yX0_findVex, cX0_findVex, 5, none, 5, 113, 0, 0)
abbrev kX0_weighVex : MD := (yX0_weighVex, cX0_weighVex, 9, none, 4, 85, 0, 0)
abbrev kX1_init : MD := (yX1_init, cX1_init, 1, none, 1, 22, 10, 44)
abbrev kX1_setFirst : MD := (yX1_setFirst, cX1_setFirst, 3, none, 0, 0, 0, 0)
abbrev kX1_copyFrom : MD := (yX1_copyFrom, cX1_copyFrom, 3, none, 1, 68, 0, 0)
abbrev kX1_isLot : MD := (yX1_isLot, cX1_isLot, 3, (some .boolean), 2, 41, 0, 0)
abbrev kX1_twinOf : MD := (yX1_twinOf, cX1_twinOf, 2, (some .int), 1, 20, 0, 0)
abbrev kX1_costOf : MD := (yX1_costOf, cX1_costOf, 3, (some .int), 1, 20, 0, 0)
abbrev kX1_tasteOf : MD := (yX1_tasteOf, cX1_tasteOf, 3, (some .int), 1, 20, 0, 0)
abbrev kX1_lacks : MD := (yX1_lacks, cX1_lacks, 3, (some .boolean), 1, 20, 0, 0)
abbrev kX1_mayBuild : MD := (yX1_mayBuild, cX1_mayBuild, 4, (some .boolean), 2, 46, 0, 0)
abbrev kX1_matchOf : MD := (yX1_matchOf, cX1_matchOf, 3, (some .int), 1, 24, 0, 0)
abbrev kX1_matchBy : MD := (yX1_matchBy, cX1_matchBy, 5, (some .int), 0, 0, 0, 0)
abbrev kX1_countPairs : MD := (yX1_countPairs, cX1_countPairs, 3, (some .int), 2, 46, 0, 0)
abbrev kX1_mirrorOf : MD := (yX1_mirrorOf, cX1_mirrorOf, 5, (some .int), 1, 21, 0, 0)
abbrev kX1_doorStays : MD := (yX1_doorStays, cX1_doorStays, 2, (some .boolean), 0, 0, 0, 0)
abbrev kX1_isEven : MD := (yX1_isEven, cX1_isEven, 3, (some .boolean), 2, 45, 0, 0)
abbrev kX1_unevenLots : MD := (yX1_unevenLots, cX1_unevenLots, 5, (some .int), 3, 67, 0, 0)
abbrev kX2_init : MD := (yX2_init, cX2_init, 3, none, 1, 20, 0, 0)
abbrev kX2_hasHistory : MD := (yX2_hasHistory, cX2_hasHistory, 4, (some .boolean), 3, 67, 0, 0)
abbrev kX2_findHistories : MD := (yX2_findHistories, cX2_findHistories, 5, none, 3, 74, 0, 0)
abbrev kX2_note : MD := (yX2_note, cX2_note, 3, none, 0, 0, 0, 0)
abbrev kX2_fitsSeen : MD := (yX2_fitsSeen, cX2_fitsSeen, 9, (some .boolean), 2, 46, 0, 0)
abbrev kX2_onlyBeginner : MD := (yX2_onlyBeginner, cX2_onlyBeginner, 1, (some .int), 0, 0, 0, 0)
abbrev kX3_init : MD := (yX3_init, cX3_init, 3, none, 1, 20, 3, 268)
abbrev kX3_monthOf : MD := (yX3_monthOf, cX3_monthOf, 2, (some .int), 0, 0, 0, 0)
abbrev kX3_findPlan : MD := (yX3_findPlan, cX3_findPlan, 5, (some .int), 3, 72, 0, 0)
abbrev kX3_taken : MD := (yX3_taken, cX3_taken, 2, (some .int), 0, 0, 0, 0)
abbrev kX3_withOneMore : MD := (yX3_withOneMore, cX3_withOneMore, 2, (some .int), 0, 0, 0, 0)
abbrev kX3_costWith : MD := (yX3_costWith, cX3_costWith, 4, (some .int), 1, 21, 0, 0)
abbrev kX3_leastFrom : MD := (yX3_leastFrom, cX3_leastFrom, 5, (some .int), 2, 44, 0, 0)
abbrev kX3_placeWants : MD := (yX3_placeWants, cX3_placeWants, 9, none, 2, 44, 0, 0)
abbrev kX3_kindsBarred : MD := (yX3_kindsBarred, cX3_kindsBarred, 4, (some .int), 2, 42, 0, 0)
abbrev kX3_costInstead : MD := (yX3_costInstead, cX3_costInstead, 5, (some .int), 2, 42, 0, 0)
abbrev kX4_init : MD := (yX4_init, cX4_init, 2, none, 3, 62, 19, 230)
abbrev kX4_readAll : MD := (yX4_readAll, cX4_readAll, 2, none, 10, 221, 0, 0)
abbrev kX4_restart : MD := (yX4_restart, cX4_restart, 1, none, 2, 42, 0, 0)
abbrev kX4_fail : MD := (yX4_fail, cX4_fail, 3, (some .int), 0, 0, 0, 0)
abbrev kX4_takeToken : MD := (yX4_takeToken, cX4_takeToken, 1, none, 1, 22, 0, 0)
abbrev kX4_typeOf : MD := (yX4_typeOf, cX4_typeOf, 1, (some .int), 0, 0, 0, 0)
abbrev kX4_nameAmong : MD := (yX4_nameAmong, cX4_nameAmong, 6, (some .int), 5, 106, 0, 0)
abbrev kX4_takeNumber : MD := (yX4_takeNumber, cX4_takeNumber, 3, (some .int), 2, 42, 0, 0)
abbrev kX4_takeBank : MD := (yX4_takeBank, cX4_takeBank, 1, (some .int), 3, 64, 0, 0)
abbrev kX4_takeNameOf : MD := (yX4_takeNameOf, cX4_takeNameOf, 3, (some .int), 6, 131, 0, 0)
abbrev kX4_takeThing : MD := (yX4_takeThing, cX4_takeThing, 4, (some .int), 7, 153, 0, 0)
abbrev kX4_takeStop : MD := (yX4_takeStop, cX4_takeStop, 1, none, 2, 42, 0, 0)
abbrev kX4_tellOnce : MD := (yX4_tellOnce, cX4_tellOnce, 2, none, 1, 22, 0, 0)
abbrev kX4_readLine : MD := (yX4_readLine, cX4_readLine, 2, none, 9, 200, 0, 0)
abbrev kX4_readPrices : MD := (yX4_readPrices, cX4_readPrices, 2, none, 3, 64, 0, 0)
abbrev kX4_readOfKinds : MD := (yX4_readOfKinds, cX4_readOfKinds, 5, none, 4, 84, 0, 0)
abbrev kX4_readLack : MD := (yX4_readLack, cX4_readLack, 3, none, 7, 153, 0, 0)
abbrev kX4_readTwins : MD := (yX4_readTwins, cX4_readTwins, 3, none, 7, 153, 0, 0)
abbrev kX4_readPaint : MD := (yX4_readPaint, cX4_readPaint, 3, none, 3, 64, 0, 0)
abbrev kX4_readRight : MD := (yX4_readRight, cX4_readRight, 2, none, 7, 153, 0, 0)
abbrev kX4_readThing : MD := (yX4_readThing, cX4_readThing, 4, none, 8, 176, 0, 0)
abbrev kX4_readWork : MD := (yX4_readWork, cX4_readWork, 5, none, 8, 176, 0, 0)
abbrev kX4_allLotsAre : MD := (yX4_allLotsAre, cX4_allLotsAre, 3, (some .boolean), 1, 22, 0, 0)
abbrev kX5_init : MD := (yX5_init, cX5_init, 3, none, 1, 20, 1, 48)
abbrev kX5_isFull : MD := (yX5_isFull, cX5_isFull, 1, (some .boolean), 0, 0, 0, 0)
abbrev kX5_addRow : MD := (yX5_addRow, cX5_addRow, 6, none, 1, 23, 0, 0)
abbrev kX5_setCell : MD := (yX5_setCell, cX5_setCell, 4, none, 0, 0, 0, 0)
abbrev kX5_cell : MD := (yX5_cell, cX5_cell, 3, (some .int), 0, 0, 0, 0)
abbrev kX5_empty : MD := (yX5_empty, cX5_empty, 2, (some .int), 0, 0, 0, 0)
abbrev kX5_copyFrom : MD := (yX5_copyFrom, cX5_copyFrom, 2, none, 1, 68, 0, 0)
abbrev kX6_init : MD := (yX6_init, cX6_init, 3, none, 1, 20, 5, 54)
abbrev kX6_runMonths : MD := (yX6_runMonths, cX6_runMonths, 3, none, 5, 117, 0, 0)
abbrev kX6_start : MD := (yX6_start, cX6_start, 2, none, 0, 0, 0, 0)
abbrev kX6_runMonth : MD := (yX6_runMonth, cX6_runMonth, 4, none, 4, 94, 0, 0)
abbrev kX6_tryWork : MD := (yX6_tryWork, cX6_tryWork, 6, (some .int), 3, 69, 0, 0)
abbrev kX6_build : MD := (yX6_build, cX6_build, 4, none, 2, 42, 0, 0)
abbrev kX6_answer : MD := (yX6_answer, cX6_answer, 4, none, 3, 67, 0, 0)
abbrev kX6_isEvenPair : MD := (yX6_isEvenPair, cX6_isEvenPair, 3, (some .boolean), 2, 45, 0, 0)
abbrev kX6_lotsOwedBy : MD := (yX6_lotsOwedBy, cX6_lotsOwedBy, 5, (some .int), 3, 67, 0, 0)
abbrev kX6_worksDone : MD := (yX6_worksDone, cX6_worksDone, 3, (some .int), 0, 0, 0, 0)
abbrev kX7_init : MD := (yX7_init, cX7_init, 1, none, 2, 42, 7, 172)
abbrev kX7_clear : MD := (yX7_clear, cX7_clear, 2, none, 1, 21, 0, 0)
abbrev kX7_copyFrom : MD := (yX7_copyFrom, cX7_copyFrom, 2, none, 2, 89, 0, 0)
abbrev kX7_thingAt : MD := (yX7_thingAt, cX7_thingAt, 3, (some .int), 2, 41, 0, 0)
abbrev kX7_kindAt : MD := (yX7_kindAt, cX7_kindAt, 3, (some .int), 3, 63, 0, 0)
abbrev kX7_setThing : MD := (yX7_setThing, cX7_setThing, 4, none, 2, 41, 0, 0)
abbrev kX7_countThings : MD := (yX7_countThings, cX7_countThings, 3, (some .int), 0, 0, 0, 0)
abbrev kX7_lastMonth : MD := (yX7_lastMonth, cX7_lastMonth, 1, (some .int), 1, 22, 0, 0)
abbrev kX8_init : MD := (yX8_init, cX8_init, 1, none, 1, 20, 1, 40)
abbrev kX8_renew : MD := (yX8_renew, cX8_renew, 4, none, 1, 21, 0, 0)
abbrev kX8_faultAt : MD := (yX8_faultAt, cX8_faultAt, 2, (some .int), 0, 0, 0, 0)
abbrev kX8_setCell : MD := (yX8_setCell, cX8_setCell, 3, none, 1, 21, 0, 0)
abbrev kX8_cell : MD := (yX8_cell, cX8_cell, 2, (some .int), 1, 21, 0, 0)
abbrev kX8_wholeThings : MD := (yX8_wholeThings, cX8_wholeThings, 4, (some .int), 1, 21, 0, 0)
abbrev kX8_faultOfReading : MD := (yX8_faultOfReading, cX8_faultOfReading, 4, (some .int), 2, 44, 0, 0)
abbrev kX9_init : MD := (yX9_init, cX9_init, 1, none, 1, 20, 1, 400)
abbrev kX9_append : MD := (yX9_append, cX9_append, 4, none, 0, 0, 0, 0)
abbrev kX9_byteAt : MD := (yX9_byteAt, cX9_byteAt, 2, (some .int), 0, 0, 0, 0)
abbrev kX10_init : MD := (yX10_init, cX10_init, 2, none, 4, 83, 80, 1750)
abbrev kX10_feed : MD := (yX10_feed, cX10_feed, 3, (some .int), 1, 23, 0, 0)
abbrev kX10_end : MD := (yX10_end, cX10_end, 3, (some .int), 0, 0, 0, 0)
abbrev kX10_text : MD := (yX10_text, cX10_text, 2, (some .int), 11, 242, 0, 0)
abbrev kX10_fault : MD := (yX10_fault, cX10_fault, 1, (some .int), 0, 0, 0, 0)
abbrev kX10_rule : MD := (yX10_rule, cX10_rule, 2, (some .int), 0, 0, 0, 0)
abbrev kX10_kind : MD := (yX10_kind, cX10_kind, 3, (some .int), 2, 42, 0, 0)
abbrev kX10_colour : MD := (yX10_colour, cX10_colour, 2, (some .int), 0, 0, 0, 0)
abbrev kX10_mirror : MD := (yX10_mirror, cX10_mirror, 2, (some .int), 2, 45, 0, 0)
abbrev kX10_work : MD := (yX10_work, cX10_work, 4, (some .int), 1, 22, 0, 0)
abbrev kX10_thing : MD := (yX10_thing, cX10_thing, 3, (some .int), 3, 63, 0, 0)
abbrev kX10_put : MD := (yX10_put, cX10_put, 5, (some .int), 3, 64, 0, 0)
abbrev kX10_match : MD := (yX10_match, cX10_match, 3, (some .int), 3, 63, 0, 0)
abbrev kX10_odd : MD := (yX10_odd, cX10_odd, 1, (some .int), 4, 91, 0, 0)
abbrev kX10_third : MD := (yX10_third, cX10_third, 3, (some .int), 3, 63, 0, 0)
abbrev kX10_after : MD := (yX10_after, cX10_after, 4, (some .int), 6, 139, 0, 0)
abbrev kX10_paid : MD := (yX10_paid, cX10_paid, 3, (some .int), 6, 139, 0, 0)
abbrev kX10_owes : MD := (yX10_owes, cX10_owes, 3, (some .int), 6, 139, 0, 0)
abbrev kX10_fate : MD := (yX10_fate, cX10_fate, 2, (some .int), 6, 139, 0, 0)
abbrev kX10_uneven : MD := (yX10_uneven, cX10_uneven, 4, (some .int), 5, 117, 0, 0)
abbrev kX10_firstLot : MD := (yX10_firstLot, cX10_firstLot, 2, (some .int), 0, 0, 0, 0)
abbrev kX10_go : MD := (yX10_go, cX10_go, 2, (some .int), 6, 139, 0, 0)
abbrev kX10_plot : MD := (yX10_plot, cX10_plot, 6, (some .int), 3, 63, 0, 0)
abbrev kX10_gain : MD := (yX10_gain, cX10_gain, 4, (some .int), 5, 108, 0, 0)
abbrev kX10_begin : MD := (yX10_begin, cX10_begin, 5, (some .int), 6, 134, 0, 0)
abbrev kX10_waits : MD := (yX10_waits, cX10_waits, 5, (some .int), 6, 134, 0, 0)
abbrev kX10_vex : MD := (yX10_vex, cX10_vex, 3, (some .int), 6, 137, 0, 0)
abbrev kX10_want : MD := (yX10_want, cX10_want, 3, (some .int), 3, 63, 0, 0)
abbrev kX10_content : MD := (yX10_content, cX10_content, 1, (some .int), 1, 21, 0, 0)
abbrev kX10_plan : MD := (yX10_plan, cX10_plan, 6, (some .int), 4, 96, 0, 0)
abbrev kX10_cannot : MD := (yX10_cannot, cX10_cannot, 2, (some .int), 3, 66, 0, 0)
abbrev kX10_fire : MD := (yX10_fire, cX10_fire, 7, (some .int), 5, 110, 0, 0)
abbrev kX10_lossOfBoth : MD := (yX10_lossOfBoth, cX10_lossOfBoth, 6, (some .int), 4, 85, 0, 0)
abbrev kX10_quarrel : MD := (yX10_quarrel, cX10_quarrel, 2, (some .int), 5, 109, 0, 0)
abbrev kX10_quarrelBy : MD := (yX10_quarrelBy, cX10_quarrelBy, 5, (some .int), 4, 85, 0, 0)
abbrev kX10_bend : MD := (yX10_bend, cX10_bend, 5, (some .int), 5, 109, 0, 0)
abbrev kX10_shops : MD := (yX10_shops, cX10_shops, 5, (some .int), 4, 85, 0, 0)
abbrev kX10_fewestToGo : MD := (yX10_fewestToGo, cX10_fewestToGo, 4, (some .int), 0, 0, 0, 0)
abbrev kX10_saw : MD := (yX10_saw, cX10_saw, 5, (some .int), 3, 63, 0, 0)
abbrev kX10_forget : MD := (yX10_forget, cX10_forget, 1, (some .int), 1, 21, 0, 0)
abbrev kX10_histories : MD := (yX10_histories, cX10_histories, 5, (some .long), 4, 98, 0, 0)
abbrev kX10_began : MD := (yX10_began, cX10_began, 4, (some .int), 4, 98, 0, 0)
abbrev kX10_keep : MD := (yX10_keep, cX10_keep, 3, (some .int), 3, 110, 0, 0)
abbrev kX10_back : MD := (yX10_back, cX10_back, 2, (some .int), 3, 110, 0, 0)
abbrev kX10_sheet : MD := (yX10_sheet, cX10_sheet, 4, (some .int), 2, 44, 0, 0)
abbrev kX10_lay : MD := (yX10_lay, cX10_lay, 5, (some .int), 2, 43, 0, 0)
abbrev kX10_read : MD := (yX10_read, cX10_read, 10, (some .int), 3, 67, 0, 0)
abbrev kX10_torn : MD := (yX10_torn, cX10_torn, 1, (some .int), 0, 0, 0, 0)
abbrev kX10_count : MD := (yX10_count, cX10_count, 2, (some .int), 3, 68, 0, 0)
abbrev kX10_isBank : MD := (yX10_isBank, cX10_isBank, 1, (some .boolean), 0, 0, 0, 0)
abbrev kX10_isKind : MD := (yX10_isKind, cX10_isKind, 1, (some .boolean), 0, 0, 0, 0)
abbrev kX10_isBuilt : MD := (yX10_isBuilt, cX10_isBuilt, 1, (some .boolean), 0, 0, 0, 0)
abbrev kX10_isThing : MD := (yX10_isThing, cX10_isThing, 1, (some .boolean), 1, 20, 0, 0)
abbrev kX10_isSheet : MD := (yX10_isSheet, cX10_isSheet, 1, (some .boolean), 0, 0, 0, 0)
abbrev kX10_isLane : MD := (yX10_isLane, cX10_isLane, 1, (some .boolean), 0, 0, 0, 0)
abbrev kX10_isSlot : MD := (yX10_isSlot, cX10_isSlot, 2, (some .boolean), 1, 20, 0, 0)
abbrev kX10_slot : MD := (yX10_slot, cX10_slot, 2, (some .int), 0, 0, 0, 0)
abbrev kX11_init : MD := (yX11_init, cX11_init, 2, none, 1, 21, 26, 5316)
abbrev kX11_in : MD := (yX11_in, cX11_in, 6, (some .boolean), 0, 0, 0, 0)
abbrev kX11_flag : MD := (yX11_flag, cX11_flag, 1, (some .int), 0, 0, 0, 0)
abbrev kX11_firstDraft : MD := (yX11_firstDraft, cX11_firstDraft, 2, none, 0, 0, 0, 0)
abbrev kX11_keepDraft : MD := (yX11_keepDraft, cX11_keepDraft, 2, none, 0, 0, 0, 0)
abbrev kX11_feed : MD := (yX11_feed, cX11_feed, 4, (some .int), 0, 0, 0, 0)
abbrev kX11_end : MD := (yX11_end, cX11_end, 3, (some .int), 1, 25, 0, 0)
abbrev kX11_needs : MD := (yX11_needs, cX11_needs, 3, none, 0, 0, 0, 0)
abbrev kX11_look : MD := (yX11_look, cX11_look, 2, (some .int), 0, 0, 0, 0)
abbrev kX11_is : MD := (yX11_is, cX11_is, 6, (some .boolean), 1, 21, 0, 0)
abbrev kX11_ends : MD := (yX11_ends, cX11_ends, 4, (some .boolean), 1, 21, 0, 0)
abbrev kX11_ruleNow : MD := (yX11_ruleNow, cX11_ruleNow, 1, (some .int), 2, 46, 0, 0)
abbrev kX11_lineNow : MD := (yX11_lineNow, cX11_lineNow, 1, (some .int), 3, 66, 0, 0)
abbrev kX11_kindNow : MD := (yX11_kindNow, cX11_kindNow, 1, (some .int), 2, 46, 0, 0)
abbrev kX11_isNothing : MD := (yX11_isNothing, cX11_isNothing, 1, (some .boolean), 2, 46, 0, 0)
abbrev kX11_sideNow : MD := (yX11_sideNow, cX11_sideNow, 1, (some .int), 2, 46, 0, 0)
abbrev kX11_next : MD := (yX11_next, cX11_next, 2, none, 1, 25, 0, 0)
abbrev kX11_looked : MD := (yX11_looked, cX11_looked, 3, (some .int), 1, 25, 0, 0)
abbrev kX11_readNumber : MD := (yX11_readNumber, cX11_readNumber, 4, (some .int), 2, 47, 0, 0)
abbrev kX11_readLot : MD := (yX11_readLot, cX11_readLot, 2, (some .int), 3, 70, 0, 0)
abbrev kX11_readKind : MD := (yX11_readKind, cX11_readKind, 3, (some .int), 3, 66, 0, 0)
abbrev kX11_readColour : MD := (yX11_readColour, cX11_readColour, 3, (some .int), 2, 47, 0, 0)
abbrev kX11_readWhat : MD := (yX11_readWhat, cX11_readWhat, 4, (some .int), 4, 88, 0, 0)
abbrev kX11_readCosts : MD := (yX11_readCosts, cX11_readCosts, 5, none, 3, 70, 0, 0)
abbrev kX11_readThing : MD := (yX11_readThing, cX11_readThing, 3, none, 5, 111, 0, 0)
abbrev kX11_readWork : MD := (yX11_readWork, cX11_readWork, 3, none, 5, 111, 0, 0)
abbrev kX11_readLaw : MD := (yX11_readLaw, cX11_readLaw, 4, none, 4, 88, 0, 0)
abbrev kX11_readLineOf : MD := (yX11_readLineOf, cX11_readLineOf, 3, none, 6, 133, 0, 0)
abbrev kX11_readLine : MD := (yX11_readLine, cX11_readLine, 2, none, 7, 155, 0, 0)
abbrev kX11_text : MD := (yX11_text, cX11_text, 2, (some .int), 8, 176, 0, 0)
abbrev kX11_fault : MD := (yX11_fault, cX11_fault, 1, (some .int), 0, 0, 0, 0)
abbrev kX11_rule : MD := (yX11_rule, cX11_rule, 2, (some .int), 1, 25, 0, 0)
abbrev kX11_isKind : MD := (yX11_isKind, cX11_isKind, 1, (some .boolean), 1, 25, 0, 0)
abbrev kX11_doesLack : MD := (yX11_doesLack, cX11_doesLack, 3, (some .boolean), 0, 0, 0, 0)
abbrev kX11_kind : MD := (yX11_kind, cX11_kind, 3, (some .int), 2, 45, 0, 0)
abbrev kX11_colour : MD := (yX11_colour, cX11_colour, 2, (some .int), 1, 25, 0, 0)
abbrev kX11_isThing : MD := (yX11_isThing, cX11_isThing, 1, (some .boolean), 1, 25, 0, 0)
abbrev kX11_mirrorOf : MD := (yX11_mirrorOf, cX11_mirrorOf, 5, (some .int), 0, 0, 0, 0)
abbrev kX11_mirror : MD := (yX11_mirror, cX11_mirror, 2, (some .int), 2, 45, 0, 0)
abbrev kX11_work : MD := (yX11_work, cX11_work, 3, (some .int), 1, 25, 0, 0)
abbrev kX11_isBank : MD := (yX11_isBank, cX11_isBank, 1, (some .boolean), 1, 25, 0, 0)
abbrev kX11_isLot : MD := (yX11_isLot, cX11_isLot, 3, (some .boolean), 2, 45, 0, 0)
abbrev kX11_thing : MD := (yX11_thing, cX11_thing, 3, (some .int), 3, 67, 0, 0)
abbrev kX11_put : MD := (yX11_put, cX11_put, 5, (some .int), 3, 67, 0, 0)
abbrev kX11_matchBy : MD := (yX11_matchBy, cX11_matchBy, 5, (some .int), 1, 25, 0, 0)
abbrev kX11_matchOf : MD := (yX11_matchOf, cX11_matchOf, 3, (some .int), 2, 49, 0, 0)
abbrev kX11_match : MD := (yX11_match, cX11_match, 3, (some .int), 3, 71, 0, 0)
abbrev kX11_asNow : MD := (yX11_asNow, cX11_asNow, 2, none, 0, 0, 0, 0)
abbrev kX11_isEven : MD := (yX11_isEven, cX11_isEven, 3, (some .boolean), 3, 71, 0, 0)
abbrev kX11_oddLots : MD := (yX11_oddLots, cX11_oddLots, 3, (some .int), 4, 93, 0, 0)
abbrev kX11_odd : MD := (yX11_odd, cX11_odd, 1, (some .int), 5, 115, 0, 0)
abbrev kX11_third : MD := (yX11_third, cX11_third, 3, (some .int), 3, 71, 0, 0)
abbrev kX11_startRun : MD := (yX11_startRun, cX11_startRun, 2, none, 1, 21, 0, 0)
abbrev kX11_works : MD := (yX11_works, cX11_works, 7, none, 3, 71, 0, 0)
abbrev kX11_goMonth : MD := (yX11_goMonth, cX11_goMonth, 8, none, 4, 97, 0, 0)
abbrev kX11_goRun : MD := (yX11_goRun, cX11_goRun, 3, none, 5, 124, 0, 0)
abbrev kX11_isMany : MD := (yX11_isMany, cX11_isMany, 1, (some .boolean), 1, 25, 0, 0)
abbrev kX11_after : MD := (yX11_after, cX11_after, 4, (some .int), 6, 146, 0, 0)
abbrev kX11_paid : MD := (yX11_paid, cX11_paid, 3, (some .int), 6, 146, 0, 0)
abbrev kX11_owes : MD := (yX11_owes, cX11_owes, 5, (some .int), 6, 146, 0, 0)
abbrev kX11_fate : MD := (yX11_fate, cX11_fate, 2, (some .int), 6, 146, 0, 0)
abbrev kX11_uneven : MD := (yX11_uneven, cX11_uneven, 5, (some .int), 5, 124, 0, 0)
abbrev kX11_go : MD := (yX11_go, cX11_go, 3, (some .int), 6, 146, 0, 0)
abbrev kX11_plot : MD := (yX11_plot, cX11_plot, 7, (some .int), 3, 67, 0, 0)
abbrev kX11_kindThere : MD := (yX11_kindThere, cX11_kindThere, 3, (some .int), 0, 0, 0, 0)
abbrev kX11_gainOf : MD := (yX11_gainOf, cX11_gainOf, 4, (some .int), 1, 22, 0, 0)
abbrev kX11_gain : MD := (yX11_gain, cX11_gain, 4, (some .int), 3, 67, 0, 0)
abbrev kX11_mayBe : MD := (yX11_mayBe, cX11_mayBe, 4, (some .boolean), 3, 71, 0, 0)
abbrev kX11_beginOf : MD := (yX11_beginOf, cX11_beginOf, 7, (some .int), 4, 94, 0, 0)
abbrev kX11_begin : MD := (yX11_begin, cX11_begin, 5, (some .int), 5, 120, 0, 0)
abbrev kX11_waits : MD := (yX11_waits, cX11_waits, 5, (some .int), 5, 120, 0, 0)
abbrev kX11_vex : MD := (yX11_vex, cX11_vex, 14, (some .int), 4, 94, 0, 0)
abbrev kX11_want : MD := (yX11_want, cX11_want, 4, (some .int), 3, 67, 0, 0)
abbrev kX11_content : MD := (yX11_content, cX11_content, 2, (some .int), 0, 0, 0, 0)
abbrev kX11_bitsOf : MD := (yX11_bitsOf, cX11_bitsOf, 3, (some .int), 0, 0, 0, 0)
abbrev kX11_wantCost : MD := (yX11_wantCost, cX11_wantCost, 4, (some .int), 0, 0, 0, 0)
abbrev kX11_findRests : MD := (yX11_findRests, cX11_findRests, 6, none, 1, 23, 0, 0)
abbrev kX11_plan : MD := (yX11_plan, cX11_plan, 8, (some .int), 2, 48, 0, 0)
abbrev kX11_cannot : MD := (yX11_cannot, cX11_cannot, 7, (some .int), 1, 25, 0, 0)
abbrev kX11_fire : MD := (yX11_fire, cX11_fire, 8, (some .int), 3, 71, 0, 0)
abbrev kX11_quarrelOf : MD := (yX11_quarrelOf, cX11_quarrelOf, 5, (some .int), 2, 49, 0, 0)
abbrev kX11_quarrel : MD := (yX11_quarrel, cX11_quarrel, 2, (some .int), 3, 73, 0, 0)
abbrev kX11_bend : MD := (yX11_bend, cX11_bend, 3, (some .int), 3, 73, 0, 0)
abbrev kX11_isShop : MD := (yX11_isShop, cX11_isShop, 3, (some .boolean), 1, 25, 0, 0)
abbrev kX11_shops : MD := (yX11_shops, cX11_shops, 7, (some .int), 2, 47, 0, 0)
abbrev kX11_saw : MD := (yX11_saw, cX11_saw, 6, (some .int), 3, 67, 0, 0)
abbrev kX11_forget : MD := (yX11_forget, cX11_forget, 2, (some .int), 0, 0, 0, 0)
abbrev kX11_isTold : MD := (yX11_isTold, cX11_isTold, 3, (some .boolean), 3, 71, 0, 0)
abbrev kX11_fits : MD := (yX11_fits, cX11_fits, 7, (some .boolean), 1, 20, 0, 0)
abbrev kX11_waysOf : MD := (yX11_waysOf, cX11_waysOf, 8, (some .int), 3, 71, 0, 0)
abbrev kX11_histories : MD := (yX11_histories, cX11_histories, 8, (some .long), 4, 98, 0, 0)
abbrev kX11_began : MD := (yX11_began, cX11_began, 11, (some .int), 4, 98, 0, 0)
abbrev kX11_thingMany : MD := (yX11_thingMany, cX11_thingMany, 3, (some .int), 1, 20, 0, 0)
abbrev kX11_copies : MD := (yX11_copies, cX11_copies, 4, none, 0, 0, 0, 0)
abbrev kX11_keep : MD := (yX11_keep, cX11_keep, 3, (some .int), 1, 25, 0, 0)
abbrev kX11_back : MD := (yX11_back, cX11_back, 2, (some .int), 2, 42, 0, 0)
abbrev kX11_isSheet : MD := (yX11_isSheet, cX11_isSheet, 2, (some .boolean), 1, 25, 0, 0)
abbrev kX11_sheet : MD := (yX11_sheet, cX11_sheet, 5, (some .int), 2, 46, 0, 0)
abbrev kX11_lay : MD := (yX11_lay, cX11_lay, 4, (some .int), 2, 46, 0, 0)
abbrev kX11_read : MD := (yX11_read, cX11_read, 11, (some .int), 3, 67, 0, 0)
abbrev kX11_torn : MD := (yX11_torn, cX11_torn, 1, (some .int), 0, 0, 0, 0)
abbrev kX11_count : MD := (yX11_count, cX11_count, 4, (some .int), 3, 71, 0, 0)
abbrev kJ9_min_7cf53 : MD := (yJ9_min_7cf53, cJ9_min_7cf53, 2, (some .int), 0, 0, 0, 0)
abbrev kJ0_length_8abf5 : MD := (yJ0_length_8abf5, cJ0_length_8abf5, 1, (some .int), 1, 20, 0, 0)
abbrev kJ0_charAt_5068e : MD := (yJ0_charAt_5068e, cJ0_charAt_5068e, 2, (some .char), 4, 85, 0, 0)
abbrev kJ0_coder_7d493 : MD := (yJ0_coder_7d493, cJ0_coder_7d493, 1, (some .byte), 0, 0, 0, 0)
abbrev kJ0_isLatin1_aae02 : MD := (yJ0_isLatin1_aae02, cJ0_isLatin1_aae02, 1, (some .boolean), 0, 0, 0, 0)
abbrev kJ0_checkIndex_df160 : MD := (yJ0_checkIndex_df160, cJ0_checkIndex_df160, 2, none, 1, 22, 0, 0)
abbrev kJ1_charAt_3b067 : MD := (yJ1_charAt_3b067, cJ1_charAt_3b067, 2, (some .char), 2, 43, 0, 0)
abbrev kJ2_getChar_3b067 : MD := (yJ2_getChar_3b067, cJ2_getChar_3b067, 2, (some .char), 1, 20, 0, 0)
abbrev kJ2_length_9d52b : MD := (yJ2_length_9d52b, cJ2_length_9d52b, 1, (some .int), 0, 0, 0, 0)
abbrev kJ2_charAt_3b067 : MD := (yJ2_charAt_3b067, cJ2_charAt_3b067, 2, (some .char), 3, 64, 0, 0)
abbrev kJ2_checkIndex_2214a : MD := (yJ2_checkIndex_2214a, cJ2_checkIndex_2214a, 2, none, 2, 43, 0, 0)
abbrev kJ3_checkIndex_8e157 : MD := (yJ3_checkIndex_8e157, cJ3_checkIndex_8e157, 3, (some .int), 0, 0, 0, 0)
set_option maxRecDepth 100000 in
theorem okX0_init : MokI kX0_init 2 := ⟨⟨in_t2 3 rfl rfl, in_t1 8 rfl rfl, by decide +kernel, by decide +kernel, by decide +kernel, by decide +kernel⟩, in_t2 2 rfl rfl, rfl, rfl⟩
set_option maxRecDepth 100000 in
theorem okX0_gainOf : MokV kX0_gainOf 3 := ⟨⟨in_t4 83 rfl rfl, in_t1 8 rfl rfl, by decide +kernel, by decide +kernel, by decide +kernel, by decide +kernel⟩, in_t4 81 rfl rfl, in_t4 82 rfl rfl⟩
set_option maxRecDepth 100000 in
theorem okX0_bestKind : MokV kX0_bestKind 2 := ⟨⟨in_t4 98 rfl rfl, in_t1 8 rfl rfl, by decide +kernel, by decide +kernel, by decide +kernel, by decide +kernel⟩, in_t4 96 rfl rfl, in_t4 97 rfl rfl⟩
set_option maxRecDepth 100000 in
theorem okX0_findVex : MokV kX0_findVex 1 := ⟨⟨in_t4 112 rfl rfl, in_t1 8 rfl rfl, by decide +kernel, by decide +kernel, by decide +kernel, by decide +kernel⟩, in_t4 110 rfl rfl, in_t4 111 rfl rfl⟩
set_option maxRecDepth 100000 in
theorem okX0_weighVex : MokV kX0_weighVex 4 := ⟨⟨in_t4 117 rfl rfl, in_t1 8 rfl rfl, by decide +kernel, by decide +kernel, by decide +kernel, by decide +kernel⟩, in_t4 116 rfl rfl, in_pv 5 26 rfl⟩
set_option maxRecDepth 100000 in
theorem okX1_init : MokI kX1_init 0 := ⟨⟨in_t1 47 rfl rfl, in_t1 3 rfl rfl, by decide +kernel, by decide +kernel, by decide +kernel, by decide +kernel⟩, in_t1 46 rfl rfl, rfl, rfl⟩
set_option maxRecDepth 100000 in
theorem okX1_setFirst : MokV kX1_setFirst 0 := ⟨⟨in_t1 54 rfl rfl, in_t1 3 rfl rfl, by decide +kernel, by decide +kernel, by decide +kernel, by decide +kernel⟩, in_t1 52 rfl rfl, in_t1 53 rfl rfl⟩
set_option maxRecDepth 100000 in
theorem okX1_copyFrom : MokV kX1_copyFrom 1 := ⟨⟨in_t3 101 rfl rfl, in_t1 3 rfl rfl, by decide +kernel, by decide +kernel, by decide +kernel, by decide +kernel⟩, in_t3 99 rfl rfl, in_t3 100 rfl rfl⟩
set_option maxRecDepth 100000 in
theorem okX1_isLot : MokV kX1_isLot 2 := ⟨⟨in_t3 187 rfl rfl, in_t1 3 rfl rfl, by decide +kernel, by decide +kernel, by decide +kernel, by decide +kernel⟩, in_t3 185 rfl rfl, in_t3 186 rfl rfl⟩
set_option maxRecDepth 100000 in
theorem okX1_twinOf : MokV kX1_twinOf 1 := ⟨⟨in_t3 137 rfl rfl, in_t1 3 rfl rfl, by decide +kernel, by decide +kernel, by decide +kernel, by decide +kernel⟩, in_t3 135 rfl rfl, in_t3 136 rfl rfl⟩
set_option maxRecDepth 100000 in
theorem okX1_costOf : MokV kX1_costOf 2 := ⟨⟨in_t3 142 rfl rfl, in_t1 3 rfl rfl, by decide +kernel, by decide +kernel, by decide +kernel, by decide +kernel⟩, in_t3 140 rfl rfl, in_t3 141 rfl rfl⟩
set_option maxRecDepth 100000 in
theorem okX1_tasteOf : MokV kX1_tasteOf 2 := ⟨⟨in_t3 150 rfl rfl, in_t1 3 rfl rfl, by decide +kernel, by decide +kernel, by decide +kernel, by decide +kernel⟩, in_t3 148 rfl rfl, in_t3 149 rfl rfl⟩
set_option maxRecDepth 100000 in
theorem okX1_lacks : MokV kX1_lacks 2 := ⟨⟨in_t3 154 rfl rfl, in_t1 3 rfl rfl, by decide +kernel, by decide +kernel, by decide +kernel, by decide +kernel⟩, in_t3 152 rfl rfl, in_t3 153 rfl rfl⟩
set_option maxRecDepth 100000 in
theorem okX1_mayBuild : MokV kX1_mayBuild 3 := ⟨⟨in_t4 14 rfl rfl, in_t1 3 rfl rfl, by decide +kernel, by decide +kernel, by decide +kernel, by decide +kernel⟩, in_t4 12 rfl rfl, in_t4 13 rfl rfl⟩
set_option maxRecDepth 100000 in
theorem okX1_matchOf : MokV kX1_matchOf 2 := ⟨⟨in_t3 205 rfl rfl, in_t1 3 rfl rfl, by decide +kernel, by decide +kernel, by decide +kernel, by decide +kernel⟩, in_t3 203 rfl rfl, in_t3 204 rfl rfl⟩
set_option maxRecDepth 100000 in
theorem okX1_matchBy : MokV kX1_matchBy 3 := ⟨⟨in_t3 209 rfl rfl, in_t1 3 rfl rfl, by decide +kernel, by decide +kernel, by decide +kernel, by decide +kernel⟩, in_t3 207 rfl rfl, in_t3 208 rfl rfl⟩
set_option maxRecDepth 100000 in
theorem okX1_countPairs : MokV kX1_countPairs 0 := ⟨⟨in_t5 76 rfl rfl, in_t1 3 rfl rfl, by decide +kernel, by decide +kernel, by decide +kernel, by decide +kernel⟩, in_t5 74 rfl rfl, in_t5 75 rfl rfl⟩
set_option maxRecDepth 100000 in
theorem okX1_mirrorOf : MokV kX1_mirrorOf 1 := ⟨⟨in_t3 170 rfl rfl, in_t1 3 rfl rfl, by decide +kernel, by decide +kernel, by decide +kernel, by decide +kernel⟩, in_t3 168 rfl rfl, in_t3 169 rfl rfl⟩
set_option maxRecDepth 100000 in
theorem okX1_doorStays : MokV kX1_doorStays 1 := ⟨⟨in_t3 174 rfl rfl, in_t1 3 rfl rfl, by decide +kernel, by decide +kernel, by decide +kernel, by decide +kernel⟩, in_t3 173 rfl rfl, in_pv 10 21 rfl⟩
set_option maxRecDepth 100000 in
theorem okX1_isEven : MokV kX1_isEven 2 := ⟨⟨in_t3 223 rfl rfl, in_t1 3 rfl rfl, by decide +kernel, by decide +kernel, by decide +kernel, by decide +kernel⟩, in_t3 221 rfl rfl, in_t3 222 rfl rfl⟩
set_option maxRecDepth 100000 in
theorem okX1_unevenLots : MokV kX1_unevenLots 1 := ⟨⟨in_t3 217 rfl rfl, in_t1 3 rfl rfl, by decide +kernel, by decide +kernel, by decide +kernel, by decide +kernel⟩, in_t3 215 rfl rfl, in_t3 216 rfl rfl⟩
set_option maxRecDepth 100000 in
theorem okX2_init : MokI kX2_init 2 := ⟨⟨in_t2 50 rfl rfl, in_t1 10 rfl rfl, by decide +kernel, by decide +kernel, by decide +kernel, by decide +kernel⟩, in_t2 49 rfl rfl, rfl, rfl⟩
set_option maxRecDepth 100000 in
theorem okX2_hasHistory : MokV kX2_hasHistory 1 := ⟨⟨in_t4 223 rfl rfl, in_t1 10 rfl rfl, by decide +kernel, by decide +kernel, by decide +kernel, by decide +kernel⟩, in_t4 221 rfl rfl, in_t4 222 rfl rfl⟩
set_option maxRecDepth 100000 in
theorem okX2_findHistories : MokV kX2_findHistories 2 := ⟨⟨in_t4 230 rfl rfl, in_t1 10 rfl rfl, by decide +kernel, by decide +kernel, by decide +kernel, by decide +kernel⟩, in_t4 228 rfl rfl, in_t4 229 rfl rfl⟩
set_option maxRecDepth 100000 in
theorem okX2_note : MokV kX2_note 2 := ⟨⟨in_t4 239 rfl rfl, in_t1 10 rfl rfl, by decide +kernel, by decide +kernel, by decide +kernel, by decide +kernel⟩, in_t4 238 rfl rfl, in_pv 6 33 rfl⟩
set_option maxRecDepth 100000 in
theorem okX2_fitsSeen : MokV kX2_fitsSeen 3 := ⟨⟨in_t4 234 rfl rfl, in_t1 10 rfl rfl, by decide +kernel, by decide +kernel, by decide +kernel, by decide +kernel⟩, in_t4 233 rfl rfl, in_pv 6 32 rfl⟩
set_option maxRecDepth 100000 in
theorem okX2_onlyBeginner : MokV kX2_onlyBeginner 0 := ⟨⟨in_t5 7 rfl rfl, in_t1 10 rfl rfl, by decide +kernel, by decide +kernel, by decide +kernel, by decide +kernel⟩, in_t5 5 rfl rfl, in_t5 6 rfl rfl⟩
set_option maxRecDepth 100000 in
theorem okX3_init : MokI kX3_init 2 := ⟨⟨in_t2 28 rfl rfl, in_t1 9 rfl rfl, by decide +kernel, by decide +kernel, by decide +kernel, by decide +kernel⟩, in_t2 27 rfl rfl, rfl, rfl⟩
set_option maxRecDepth 100000 in
theorem okX3_monthOf : MokV kX3_monthOf 1 := ⟨⟨in_t4 162 rfl rfl, in_t1 9 rfl rfl, by decide +kernel, by decide +kernel, by decide +kernel, by decide +kernel⟩, in_t4 160 rfl rfl, in_t4 161 rfl rfl⟩
set_option maxRecDepth 100000 in
theorem okX3_findPlan : MokV kX3_findPlan 1 := ⟨⟨in_t4 135 rfl rfl, in_t1 9 rfl rfl, by decide +kernel, by decide +kernel, by decide +kernel, by decide +kernel⟩, in_t4 133 rfl rfl, in_t4 134 rfl rfl⟩
set_option maxRecDepth 100000 in
theorem okX3_taken : MokS kX3_taken 2 := ⟨⟨in_t4 142 rfl rfl, in_t1 9 rfl rfl, by decide +kernel, by decide +kernel, by decide +kernel, by decide +kernel⟩, in_t4 141 rfl rfl⟩
set_option maxRecDepth 100000 in
theorem okX3_withOneMore : MokS kX3_withOneMore 2 := ⟨⟨in_t4 154 rfl rfl, in_t1 9 rfl rfl, by decide +kernel, by decide +kernel, by decide +kernel, by decide +kernel⟩, in_t4 153 rfl rfl⟩
set_option maxRecDepth 100000 in
theorem okX3_costWith : MokV kX3_costWith 3 := ⟨⟨in_t4 151 rfl rfl, in_t1 9 rfl rfl, by decide +kernel, by decide +kernel, by decide +kernel, by decide +kernel⟩, in_t4 150 rfl rfl, in_pv 5 28 rfl⟩
set_option maxRecDepth 100000 in
theorem okX3_leastFrom : MokV kX3_leastFrom 2 := ⟨⟨in_t4 146 rfl rfl, in_t1 9 rfl rfl, by decide +kernel, by decide +kernel, by decide +kernel, by decide +kernel⟩, in_t4 145 rfl rfl, in_pv 5 27 rfl⟩
set_option maxRecDepth 100000 in
theorem okX3_placeWants : MokV kX3_placeWants 2 := ⟨⟨in_t4 158 rfl rfl, in_t1 9 rfl rfl, by decide +kernel, by decide +kernel, by decide +kernel, by decide +kernel⟩, in_t4 157 rfl rfl, in_pv 5 29 rfl⟩
set_option maxRecDepth 100000 in
theorem okX3_kindsBarred : MokV kX3_kindsBarred 0 := ⟨⟨in_t4 170 rfl rfl, in_t1 9 rfl rfl, by decide +kernel, by decide +kernel, by decide +kernel, by decide +kernel⟩, in_t4 168 rfl rfl, in_t4 169 rfl rfl⟩
set_option maxRecDepth 100000 in
theorem okX3_costInstead : MokV kX3_costInstead 0 := ⟨⟨in_t4 175 rfl rfl, in_t1 9 rfl rfl, by decide +kernel, by decide +kernel, by decide +kernel, by decide +kernel⟩, in_t4 173 rfl rfl, in_t4 174 rfl rfl⟩
set_option maxRecDepth 100000 in
theorem okX4_init : MokI kX4_init 1 := ⟨⟨in_t1 163 rfl rfl, in_t1 6 rfl rfl, by decide +kernel, by decide +kernel, by decide +kernel, by decide +kernel⟩, in_t1 162 rfl rfl, rfl, rfl⟩
set_option maxRecDepth 100000 in
theorem okX4_readAll : MokV kX4_readAll 0 := ⟨⟨in_t2 153 rfl rfl, in_t1 6 rfl rfl, by decide +kernel, by decide +kernel, by decide +kernel, by decide +kernel⟩, in_t2 151 rfl rfl, in_t2 152 rfl rfl⟩
set_option maxRecDepth 100000 in
theorem okX4_restart : MokV kX4_restart 0 := ⟨⟨in_t2 157 rfl rfl, in_t1 6 rfl rfl, by decide +kernel, by decide +kernel, by decide +kernel, by decide +kernel⟩, in_t2 156 rfl rfl, in_pv 11 0 rfl⟩
set_option maxRecDepth 100000 in
theorem okX4_fail : MokV kX4_fail 2 := ⟨⟨in_t2 181 rfl rfl, in_t1 6 rfl rfl, by decide +kernel, by decide +kernel, by decide +kernel, by decide +kernel⟩, in_t2 180 rfl rfl, in_pv 11 2 rfl⟩
set_option maxRecDepth 100000 in
theorem okX4_takeToken : MokV kX4_takeToken 0 := ⟨⟨in_t2 170 rfl rfl, in_t1 6 rfl rfl, by decide +kernel, by decide +kernel, by decide +kernel, by decide +kernel⟩, in_t2 169 rfl rfl, in_pv 11 1 rfl⟩
set_option maxRecDepth 100000 in
theorem okX4_typeOf : MokS kX4_typeOf 1 := ⟨⟨in_t2 177 rfl rfl, in_t1 6 rfl rfl, by decide +kernel, by decide +kernel, by decide +kernel, by decide +kernel⟩, in_t2 176 rfl rfl⟩
set_option maxRecDepth 100000 in
theorem okX4_nameAmong : MokV kX4_nameAmong 1 := ⟨⟨in_t2 190 rfl rfl, in_t1 6 rfl rfl, by decide +kernel, by decide +kernel, by decide +kernel, by decide +kernel⟩, in_t2 189 rfl rfl, in_pv 11 4 rfl⟩
set_option maxRecDepth 100000 in
theorem okX4_takeNumber : MokV kX4_takeNumber 2 := ⟨⟨in_t3 6 rfl rfl, in_t1 6 rfl rfl, by decide +kernel, by decide +kernel, by decide +kernel, by decide +kernel⟩, in_t3 5 rfl rfl, in_pv 11 6 rfl⟩
set_option maxRecDepth 100000 in
theorem okX4_takeBank : MokV kX4_takeBank 0 := ⟨⟨in_t3 18 rfl rfl, in_t1 6 rfl rfl, by decide +kernel, by decide +kernel, by decide +kernel, by decide +kernel⟩, in_t3 17 rfl rfl, in_pv 11 9 rfl⟩
set_option maxRecDepth 100000 in
theorem okX4_takeNameOf : MokV kX4_takeNameOf 1 := ⟨⟨in_t3 27 rfl rfl, in_t1 6 rfl rfl, by decide +kernel, by decide +kernel, by decide +kernel, by decide +kernel⟩, in_t3 26 rfl rfl, in_pv 11 11 rfl⟩
set_option maxRecDepth 100000 in
theorem okX4_takeThing : MokV kX4_takeThing 0 := ⟨⟨in_t3 50 rfl rfl, in_t1 6 rfl rfl, by decide +kernel, by decide +kernel, by decide +kernel, by decide +kernel⟩, in_t3 49 rfl rfl, in_pv 11 16 rfl⟩
set_option maxRecDepth 100000 in
theorem okX4_takeStop : MokV kX4_takeStop 0 := ⟨⟨in_t3 92 rfl rfl, in_t1 6 rfl rfl, by decide +kernel, by decide +kernel, by decide +kernel, by decide +kernel⟩, in_t3 91 rfl rfl, in_pv 11 19 rfl⟩
set_option maxRecDepth 100000 in
theorem okX4_tellOnce : MokV kX4_tellOnce 1 := ⟨⟨in_t3 2 rfl rfl, in_t1 6 rfl rfl, by decide +kernel, by decide +kernel, by decide +kernel, by decide +kernel⟩, in_t3 1 rfl rfl, in_pv 11 5 rfl⟩
set_option maxRecDepth 100000 in
theorem okX4_readLine : MokV kX4_readLine 0 := ⟨⟨in_t2 185 rfl rfl, in_t1 6 rfl rfl, by decide +kernel, by decide +kernel, by decide +kernel, by decide +kernel⟩, in_t2 184 rfl rfl, in_pv 11 3 rfl⟩
set_option maxRecDepth 100000 in
theorem okX4_readPrices : MokV kX4_readPrices 0 := ⟨⟨in_t3 10 rfl rfl, in_t1 6 rfl rfl, by decide +kernel, by decide +kernel, by decide +kernel, by decide +kernel⟩, in_t3 9 rfl rfl, in_pv 11 7 rfl⟩
set_option maxRecDepth 100000 in
theorem okX4_readOfKinds : MokV kX4_readOfKinds 2 := ⟨⟨in_t3 14 rfl rfl, in_t1 6 rfl rfl, by decide +kernel, by decide +kernel, by decide +kernel, by decide +kernel⟩, in_t3 13 rfl rfl, in_pv 11 8 rfl⟩
set_option maxRecDepth 100000 in
theorem okX4_readLack : MokV kX4_readLack 0 := ⟨⟨in_t3 22 rfl rfl, in_t1 6 rfl rfl, by decide +kernel, by decide +kernel, by decide +kernel, by decide +kernel⟩, in_t3 21 rfl rfl, in_pv 11 10 rfl⟩
set_option maxRecDepth 100000 in
theorem okX4_readTwins : MokV kX4_readTwins 0 := ⟨⟨in_t3 31 rfl rfl, in_t1 6 rfl rfl, by decide +kernel, by decide +kernel, by decide +kernel, by decide +kernel⟩, in_t3 30 rfl rfl, in_pv 11 12 rfl⟩
set_option maxRecDepth 100000 in
theorem okX4_readPaint : MokV kX4_readPaint 0 := ⟨⟨in_t3 35 rfl rfl, in_t1 6 rfl rfl, by decide +kernel, by decide +kernel, by decide +kernel, by decide +kernel⟩, in_t3 34 rfl rfl, in_pv 11 13 rfl⟩
set_option maxRecDepth 100000 in
theorem okX4_readRight : MokV kX4_readRight 0 := ⟨⟨in_t3 39 rfl rfl, in_t1 6 rfl rfl, by decide +kernel, by decide +kernel, by decide +kernel, by decide +kernel⟩, in_t3 38 rfl rfl, in_pv 11 14 rfl⟩
set_option maxRecDepth 100000 in
theorem okX4_readThing : MokV kX4_readThing 0 := ⟨⟨in_t3 43 rfl rfl, in_t1 6 rfl rfl, by decide +kernel, by decide +kernel, by decide +kernel, by decide +kernel⟩, in_t3 42 rfl rfl, in_pv 11 15 rfl⟩
set_option maxRecDepth 100000 in
theorem okX4_readWork : MokV kX4_readWork 0 := ⟨⟨in_t3 67 rfl rfl, in_t1 6 rfl rfl, by decide +kernel, by decide +kernel, by decide +kernel, by decide +kernel⟩, in_t3 66 rfl rfl, in_pv 11 17 rfl⟩
set_option maxRecDepth 100000 in
theorem okX4_allLotsAre : MokV kX4_allLotsAre 0 := ⟨⟨in_t3 96 rfl rfl, in_t1 6 rfl rfl, by decide +kernel, by decide +kernel, by decide +kernel, by decide +kernel⟩, in_t3 95 rfl rfl, in_pv 11 20 rfl⟩
set_option maxRecDepth 100000 in
theorem okX5_init : MokI kX5_init 2 := ⟨⟨in_t1 115 rfl rfl, in_t1 5 rfl rfl, by decide +kernel, by decide +kernel, by decide +kernel, by decide +kernel⟩, in_t1 114 rfl rfl, rfl, rfl⟩
set_option maxRecDepth 100000 in
theorem okX5_isFull : MokV kX5_isFull 0 := ⟨⟨in_t3 71 rfl rfl, in_t1 5 rfl rfl, by decide +kernel, by decide +kernel, by decide +kernel, by decide +kernel⟩, in_t3 69 rfl rfl, in_t3 70 rfl rfl⟩
set_option maxRecDepth 100000 in
theorem okX5_addRow : MokV kX5_addRow 4 := ⟨⟨in_t3 83 rfl rfl, in_t1 5 rfl rfl, by decide +kernel, by decide +kernel, by decide +kernel, by decide +kernel⟩, in_t3 81 rfl rfl, in_t3 82 rfl rfl⟩
set_option maxRecDepth 100000 in
theorem okX5_setCell : MokV kX5_setCell 3 := ⟨⟨in_t3 88 rfl rfl, in_t1 5 rfl rfl, by decide +kernel, by decide +kernel, by decide +kernel, by decide +kernel⟩, in_t3 87 rfl rfl, in_pv 4 18 rfl⟩
set_option maxRecDepth 100000 in
theorem okX5_cell : MokV kX5_cell 2 := ⟨⟨in_t3 79 rfl rfl, in_t1 5 rfl rfl, by decide +kernel, by decide +kernel, by decide +kernel, by decide +kernel⟩, in_t3 77 rfl rfl, in_t3 78 rfl rfl⟩
set_option maxRecDepth 100000 in
theorem okX5_empty : MokV kX5_empty 0 := ⟨⟨in_t2 166 rfl rfl, in_t1 5 rfl rfl, by decide +kernel, by decide +kernel, by decide +kernel, by decide +kernel⟩, in_t2 164 rfl rfl, in_t2 165 rfl rfl⟩
set_option maxRecDepth 100000 in
theorem okX5_copyFrom : MokV kX5_copyFrom 1 := ⟨⟨in_t3 113 rfl rfl, in_t1 5 rfl rfl, by decide +kernel, by decide +kernel, by decide +kernel, by decide +kernel⟩, in_t3 111 rfl rfl, in_t3 112 rfl rfl⟩
set_option maxRecDepth 100000 in
theorem okX6_init : MokI kX6_init 2 := ⟨⟨in_t1 212 rfl rfl, in_t1 7 rfl rfl, by decide +kernel, by decide +kernel, by decide +kernel, by decide +kernel⟩, in_t1 211 rfl rfl, rfl, rfl⟩
set_option maxRecDepth 100000 in
theorem okX6_runMonths : MokV kX6_runMonths 1 := ⟨⟨in_t3 236 rfl rfl, in_t1 7 rfl rfl, by decide +kernel, by decide +kernel, by decide +kernel, by decide +kernel⟩, in_t3 234 rfl rfl, in_t3 235 rfl rfl⟩
set_option maxRecDepth 100000 in
theorem okX6_start : MokV kX6_start 0 := ⟨⟨in_t4 0 rfl rfl, in_t1 7 rfl rfl, by decide +kernel, by decide +kernel, by decide +kernel, by decide +kernel⟩, in_t3 238 rfl rfl, in_t3 239 rfl rfl⟩
set_option maxRecDepth 100000 in
theorem okX6_runMonth : MokV kX6_runMonth 1 := ⟨⟨in_t4 4 rfl rfl, in_t1 7 rfl rfl, by decide +kernel, by decide +kernel, by decide +kernel, by decide +kernel⟩, in_t4 2 rfl rfl, in_t4 3 rfl rfl⟩
set_option maxRecDepth 100000 in
theorem okX6_tryWork : MokV kX6_tryWork 4 := ⟨⟨in_t4 9 rfl rfl, in_t1 7 rfl rfl, by decide +kernel, by decide +kernel, by decide +kernel, by decide +kernel⟩, in_t4 8 rfl rfl, in_pv 7 22 rfl⟩
set_option maxRecDepth 100000 in
theorem okX6_build : MokV kX6_build 3 := ⟨⟨in_t4 23 rfl rfl, in_t1 7 rfl rfl, by decide +kernel, by decide +kernel, by decide +kernel, by decide +kernel⟩, in_t4 22 rfl rfl, in_pv 7 23 rfl⟩
set_option maxRecDepth 100000 in
theorem okX6_answer : MokV kX6_answer 2 := ⟨⟨in_t4 28 rfl rfl, in_t1 7 rfl rfl, by decide +kernel, by decide +kernel, by decide +kernel, by decide +kernel⟩, in_t4 27 rfl rfl, in_pv 7 24 rfl⟩
set_option maxRecDepth 100000 in
theorem okX6_isEvenPair : MokV kX6_isEvenPair 2 := ⟨⟨in_t4 32 rfl rfl, in_t1 7 rfl rfl, by decide +kernel, by decide +kernel, by decide +kernel, by decide +kernel⟩, in_t4 31 rfl rfl, in_pv 7 25 rfl⟩
set_option maxRecDepth 100000 in
theorem okX6_lotsOwedBy : MokV kX6_lotsOwedBy 1 := ⟨⟨in_t4 46 rfl rfl, in_t1 7 rfl rfl, by decide +kernel, by decide +kernel, by decide +kernel, by decide +kernel⟩, in_t4 44 rfl rfl, in_t4 45 rfl rfl⟩
set_option maxRecDepth 100000 in
theorem okX6_worksDone : MokV kX6_worksDone 0 := ⟨⟨in_t4 67 rfl rfl, in_t1 7 rfl rfl, by decide +kernel, by decide +kernel, by decide +kernel, by decide +kernel⟩, in_t4 65 rfl rfl, in_t4 66 rfl rfl⟩
set_option maxRecDepth 100000 in
theorem okX7_init : MokI kX7_init 0 := ⟨⟨in_t1 109 rfl rfl, in_t1 4 rfl rfl, by decide +kernel, by decide +kernel, by decide +kernel, by decide +kernel⟩, in_t1 108 rfl rfl, rfl, rfl⟩
set_option maxRecDepth 100000 in
theorem okX7_clear : MokV kX7_clear 0 := ⟨⟨in_t2 162 rfl rfl, in_t1 4 rfl rfl, by decide +kernel, by decide +kernel, by decide +kernel, by decide +kernel⟩, in_t2 160 rfl rfl, in_t2 161 rfl rfl⟩
set_option maxRecDepth 100000 in
theorem okX7_copyFrom : MokV kX7_copyFrom 1 := ⟨⟨in_t3 108 rfl rfl, in_t1 4 rfl rfl, by decide +kernel, by decide +kernel, by decide +kernel, by decide +kernel⟩, in_t3 106 rfl rfl, in_t3 107 rfl rfl⟩
set_option maxRecDepth 100000 in
theorem okX7_thingAt : MokV kX7_thingAt 2 := ⟨⟨in_t3 192 rfl rfl, in_t1 4 rfl rfl, by decide +kernel, by decide +kernel, by decide +kernel, by decide +kernel⟩, in_t3 190 rfl rfl, in_t3 191 rfl rfl⟩
set_option maxRecDepth 100000 in
theorem okX7_kindAt : MokV kX7_kindAt 2 := ⟨⟨in_t4 89 rfl rfl, in_t1 4 rfl rfl, by decide +kernel, by decide +kernel, by decide +kernel, by decide +kernel⟩, in_t4 87 rfl rfl, in_t4 88 rfl rfl⟩
set_option maxRecDepth 100000 in
theorem okX7_setThing : MokV kX7_setThing 3 := ⟨⟨in_t3 56 rfl rfl, in_t1 4 rfl rfl, by decide +kernel, by decide +kernel, by decide +kernel, by decide +kernel⟩, in_t3 54 rfl rfl, in_t3 55 rfl rfl⟩
set_option maxRecDepth 100000 in
theorem okX7_countThings : MokV kX7_countThings 0 := ⟨⟨in_t5 19 rfl rfl, in_t1 4 rfl rfl, by decide +kernel, by decide +kernel, by decide +kernel, by decide +kernel⟩, in_t5 17 rfl rfl, in_t5 18 rfl rfl⟩
set_option maxRecDepth 100000 in
theorem okX7_lastMonth : MokV kX7_lastMonth 0 := ⟨⟨in_t3 75 rfl rfl, in_t1 4 rfl rfl, by decide +kernel, by decide +kernel, by decide +kernel, by decide +kernel⟩, in_t3 73 rfl rfl, in_t3 74 rfl rfl⟩
set_option maxRecDepth 100000 in
theorem okX8_init : MokI kX8_init 0 := ⟨⟨in_t2 80 rfl rfl, in_t1 11 rfl rfl, by decide +kernel, by decide +kernel, by decide +kernel, by decide +kernel⟩, in_t2 79 rfl rfl, rfl, rfl⟩
set_option maxRecDepth 100000 in
theorem okX8_renew : MokV kX8_renew 2 := ⟨⟨in_t5 33 rfl rfl, in_t1 11 rfl rfl, by decide +kernel, by decide +kernel, by decide +kernel, by decide +kernel⟩, in_t5 31 rfl rfl, in_t5 32 rfl rfl⟩
set_option maxRecDepth 100000 in
theorem okX8_faultAt : MokV kX8_faultAt 1 := ⟨⟨in_t5 42 rfl rfl, in_t1 11 rfl rfl, by decide +kernel, by decide +kernel, by decide +kernel, by decide +kernel⟩, in_t5 40 rfl rfl, in_t5 41 rfl rfl⟩
set_option maxRecDepth 100000 in
theorem okX8_setCell : MokV kX8_setCell 2 := ⟨⟨in_t5 46 rfl rfl, in_t1 11 rfl rfl, by decide +kernel, by decide +kernel, by decide +kernel, by decide +kernel⟩, in_t5 44 rfl rfl, in_t5 45 rfl rfl⟩
set_option maxRecDepth 100000 in
theorem okX8_cell : MokV kX8_cell 1 := ⟨⟨in_t5 64 rfl rfl, in_t1 11 rfl rfl, by decide +kernel, by decide +kernel, by decide +kernel, by decide +kernel⟩, in_t5 62 rfl rfl, in_t5 63 rfl rfl⟩
set_option maxRecDepth 100000 in
theorem okX8_wholeThings : MokV kX8_wholeThings 3 := ⟨⟨in_t5 59 rfl rfl, in_t1 11 rfl rfl, by decide +kernel, by decide +kernel, by decide +kernel, by decide +kernel⟩, in_t5 57 rfl rfl, in_t5 58 rfl rfl⟩
set_option maxRecDepth 100000 in
theorem okX8_faultOfReading : MokV kX8_faultOfReading 3 := ⟨⟨in_t5 55 rfl rfl, in_t1 11 rfl rfl, by decide +kernel, by decide +kernel, by decide +kernel, by decide +kernel⟩, in_t5 53 rfl rfl, in_t5 54 rfl rfl⟩
set_option maxRecDepth 100000 in
theorem okX9_init : MokI kX9_init 0 := ⟨⟨in_t1 31 rfl rfl, in_t1 2 rfl rfl, by decide +kernel, by decide +kernel, by decide +kernel, by decide +kernel⟩, in_t1 30 rfl rfl, rfl, rfl⟩
set_option maxRecDepth 100000 in
theorem okX9_append : MokV kX9_append 1 := ⟨⟨in_t2 141 rfl rfl, in_t1 2 rfl rfl, by decide +kernel, by decide +kernel, by decide +kernel, by decide +kernel⟩, in_t2 139 rfl rfl, in_t2 140 rfl rfl⟩
set_option maxRecDepth 100000 in
theorem okX9_byteAt : MokV kX9_byteAt 1 := ⟨⟨in_t2 174 rfl rfl, in_t1 2 rfl rfl, by decide +kernel, by decide +kernel, by decide +kernel, by decide +kernel⟩, in_t2 172 rfl rfl, in_t2 173 rfl rfl⟩
set_option maxRecDepth 100000 in
theorem okX10_init : MokI kX10_init 0 := ⟨⟨in_t1 23 rfl rfl, in_t1 1 rfl rfl, by decide +kernel, by decide +kernel, by decide +kernel, by decide +kernel⟩, in_t1 22 rfl rfl, rfl, rfl⟩
set_option maxRecDepth 100000 in
theorem okX10_feed : MokV kX10_feed 1 := ⟨⟨in_t2 137 rfl rfl, in_t1 1 rfl rfl, by decide +kernel, by decide +kernel, by decide +kernel, by decide +kernel⟩, in_t2 135 rfl rfl, in_t2 136 rfl rfl⟩
set_option maxRecDepth 100000 in
theorem okX10_end : MokV kX10_end 1 := ⟨⟨in_t2 145 rfl rfl, in_t1 1 rfl rfl, by decide +kernel, by decide +kernel, by decide +kernel, by decide +kernel⟩, in_t2 143 rfl rfl, in_t2 144 rfl rfl⟩
set_option maxRecDepth 100000 in
theorem okX10_text : MokV kX10_text 0 := ⟨⟨in_t2 149 rfl rfl, in_t1 1 rfl rfl, by decide +kernel, by decide +kernel, by decide +kernel, by decide +kernel⟩, in_t2 147 rfl rfl, in_t2 148 rfl rfl⟩
set_option maxRecDepth 100000 in
theorem okX10_fault : MokV kX10_fault 0 := ⟨⟨in_t3 122 rfl rfl, in_t1 1 rfl rfl, by decide +kernel, by decide +kernel, by decide +kernel, by decide +kernel⟩, in_t3 120 rfl rfl, in_t3 121 rfl rfl⟩
set_option maxRecDepth 100000 in
theorem okX10_rule : MokV kX10_rule 1 := ⟨⟨in_t3 126 rfl rfl, in_t1 1 rfl rfl, by decide +kernel, by decide +kernel, by decide +kernel, by decide +kernel⟩, in_t3 124 rfl rfl, in_t3 125 rfl rfl⟩
set_option maxRecDepth 100000 in
theorem okX10_kind : MokV kX10_kind 2 := ⟨⟨in_t3 130 rfl rfl, in_t1 1 rfl rfl, by decide +kernel, by decide +kernel, by decide +kernel, by decide +kernel⟩, in_t3 128 rfl rfl, in_t3 129 rfl rfl⟩
set_option maxRecDepth 100000 in
theorem okX10_colour : MokV kX10_colour 1 := ⟨⟨in_t3 158 rfl rfl, in_t1 1 rfl rfl, by decide +kernel, by decide +kernel, by decide +kernel, by decide +kernel⟩, in_t3 156 rfl rfl, in_t3 157 rfl rfl⟩
set_option maxRecDepth 100000 in
theorem okX10_mirror : MokV kX10_mirror 1 := ⟨⟨in_t3 162 rfl rfl, in_t1 1 rfl rfl, by decide +kernel, by decide +kernel, by decide +kernel, by decide +kernel⟩, in_t3 160 rfl rfl, in_t3 161 rfl rfl⟩
set_option maxRecDepth 100000 in
theorem okX10_work : MokV kX10_work 2 := ⟨⟨in_t3 178 rfl rfl, in_t1 1 rfl rfl, by decide +kernel, by decide +kernel, by decide +kernel, by decide +kernel⟩, in_t3 176 rfl rfl, in_t3 177 rfl rfl⟩
set_option maxRecDepth 100000 in
theorem okX10_thing : MokV kX10_thing 2 := ⟨⟨in_t3 183 rfl rfl, in_t1 1 rfl rfl, by decide +kernel, by decide +kernel, by decide +kernel, by decide +kernel⟩, in_t3 181 rfl rfl, in_t3 182 rfl rfl⟩
set_option maxRecDepth 100000 in
theorem okX10_put : MokV kX10_put 3 := ⟨⟨in_t3 196 rfl rfl, in_t1 1 rfl rfl, by decide +kernel, by decide +kernel, by decide +kernel, by decide +kernel⟩, in_t3 194 rfl rfl, in_t3 195 rfl rfl⟩
set_option maxRecDepth 100000 in
theorem okX10_match : MokV kX10_match 2 := ⟨⟨in_t3 201 rfl rfl, in_t1 1 rfl rfl, by decide +kernel, by decide +kernel, by decide +kernel, by decide +kernel⟩, in_t3 199 rfl rfl, in_t3 200 rfl rfl⟩
set_option maxRecDepth 100000 in
theorem okX10_odd : MokV kX10_odd 0 := ⟨⟨in_t3 213 rfl rfl, in_t1 1 rfl rfl, by decide +kernel, by decide +kernel, by decide +kernel, by decide +kernel⟩, in_t3 211 rfl rfl, in_t3 212 rfl rfl⟩
set_option maxRecDepth 100000 in
theorem okX10_third : MokV kX10_third 1 := ⟨⟨in_t3 228 rfl rfl, in_t1 1 rfl rfl, by decide +kernel, by decide +kernel, by decide +kernel, by decide +kernel⟩, in_t3 226 rfl rfl, in_t3 227 rfl rfl⟩
set_option maxRecDepth 100000 in
theorem okX10_after : MokV kX10_after 3 := ⟨⟨in_t3 232 rfl rfl, in_t1 1 rfl rfl, by decide +kernel, by decide +kernel, by decide +kernel, by decide +kernel⟩, in_t3 230 rfl rfl, in_t3 231 rfl rfl⟩
set_option maxRecDepth 100000 in
theorem okX10_paid : MokV kX10_paid 2 := ⟨⟨in_t4 38 rfl rfl, in_t1 1 rfl rfl, by decide +kernel, by decide +kernel, by decide +kernel, by decide +kernel⟩, in_t4 36 rfl rfl, in_t4 37 rfl rfl⟩
set_option maxRecDepth 100000 in
theorem okX10_owes : MokV kX10_owes 2 := ⟨⟨in_t4 42 rfl rfl, in_t1 1 rfl rfl, by decide +kernel, by decide +kernel, by decide +kernel, by decide +kernel⟩, in_t4 40 rfl rfl, in_t4 41 rfl rfl⟩
set_option maxRecDepth 100000 in
theorem okX10_fate : MokV kX10_fate 1 := ⟨⟨in_t4 50 rfl rfl, in_t1 1 rfl rfl, by decide +kernel, by decide +kernel, by decide +kernel, by decide +kernel⟩, in_t4 48 rfl rfl, in_t4 49 rfl rfl⟩
set_option maxRecDepth 100000 in
theorem okX10_uneven : MokV kX10_uneven 1 := ⟨⟨in_t4 54 rfl rfl, in_t1 1 rfl rfl, by decide +kernel, by decide +kernel, by decide +kernel, by decide +kernel⟩, in_t4 52 rfl rfl, in_t4 53 rfl rfl⟩
set_option maxRecDepth 100000 in
theorem okX10_firstLot : MokS kX10_firstLot 1 := ⟨⟨in_t4 59 rfl rfl, in_t1 1 rfl rfl, by decide +kernel, by decide +kernel, by decide +kernel, by decide +kernel⟩, in_t4 58 rfl rfl⟩
set_option maxRecDepth 100000 in
theorem okX10_go : MokV kX10_go 0 := ⟨⟨in_t4 63 rfl rfl, in_t1 1 rfl rfl, by decide +kernel, by decide +kernel, by decide +kernel, by decide +kernel⟩, in_t4 61 rfl rfl, in_t4 62 rfl rfl⟩
set_option maxRecDepth 100000 in
theorem okX10_plot : MokV kX10_plot 4 := ⟨⟨in_t4 72 rfl rfl, in_t1 1 rfl rfl, by decide +kernel, by decide +kernel, by decide +kernel, by decide +kernel⟩, in_t4 70 rfl rfl, in_t4 71 rfl rfl⟩
set_option maxRecDepth 100000 in
theorem okX10_gain : MokV kX10_gain 3 := ⟨⟨in_t4 79 rfl rfl, in_t1 1 rfl rfl, by decide +kernel, by decide +kernel, by decide +kernel, by decide +kernel⟩, in_t4 77 rfl rfl, in_t4 78 rfl rfl⟩
set_option maxRecDepth 100000 in
theorem okX10_begin : MokV kX10_begin 3 := ⟨⟨in_t4 94 rfl rfl, in_t1 1 rfl rfl, by decide +kernel, by decide +kernel, by decide +kernel, by decide +kernel⟩, in_t4 92 rfl rfl, in_t4 93 rfl rfl⟩
set_option maxRecDepth 100000 in
theorem okX10_waits : MokV kX10_waits 2 := ⟨⟨in_t4 104 rfl rfl, in_t1 1 rfl rfl, by decide +kernel, by decide +kernel, by decide +kernel, by decide +kernel⟩, in_t4 102 rfl rfl, in_t4 103 rfl rfl⟩
set_option maxRecDepth 100000 in
theorem okX10_vex : MokV kX10_vex 2 := ⟨⟨in_t4 108 rfl rfl, in_t1 1 rfl rfl, by decide +kernel, by decide +kernel, by decide +kernel, by decide +kernel⟩, in_t4 106 rfl rfl, in_t4 107 rfl rfl⟩
set_option maxRecDepth 100000 in
theorem okX10_want : MokV kX10_want 2 := ⟨⟨in_t4 122 rfl rfl, in_t1 1 rfl rfl, by decide +kernel, by decide +kernel, by decide +kernel, by decide +kernel⟩, in_t4 120 rfl rfl, in_t4 121 rfl rfl⟩
set_option maxRecDepth 100000 in
theorem okX10_content : MokV kX10_content 0 := ⟨⟨in_t4 126 rfl rfl, in_t1 1 rfl rfl, by decide +kernel, by decide +kernel, by decide +kernel, by decide +kernel⟩, in_t4 124 rfl rfl, in_t4 125 rfl rfl⟩
set_option maxRecDepth 100000 in
theorem okX10_plan : MokV kX10_plan 2 := ⟨⟨in_t4 131 rfl rfl, in_t1 1 rfl rfl, by decide +kernel, by decide +kernel, by decide +kernel, by decide +kernel⟩, in_t4 129 rfl rfl, in_t4 130 rfl rfl⟩
set_option maxRecDepth 100000 in
theorem okX10_cannot : MokV kX10_cannot 1 := ⟨⟨in_t4 166 rfl rfl, in_t1 1 rfl rfl, by decide +kernel, by decide +kernel, by decide +kernel, by decide +kernel⟩, in_t4 164 rfl rfl, in_t4 165 rfl rfl⟩
set_option maxRecDepth 100000 in
theorem okX10_fire : MokV kX10_fire 3 := ⟨⟨in_t4 179 rfl rfl, in_t1 1 rfl rfl, by decide +kernel, by decide +kernel, by decide +kernel, by decide +kernel⟩, in_t4 177 rfl rfl, in_t4 178 rfl rfl⟩
set_option maxRecDepth 100000 in
theorem okX10_lossOfBoth : MokV kX10_lossOfBoth 3 := ⟨⟨in_t4 184 rfl rfl, in_t1 1 rfl rfl, by decide +kernel, by decide +kernel, by decide +kernel, by decide +kernel⟩, in_t4 183 rfl rfl, in_pv 13 30 rfl⟩
set_option maxRecDepth 100000 in
theorem okX10_quarrel : MokV kX10_quarrel 1 := ⟨⟨in_t4 189 rfl rfl, in_t1 1 rfl rfl, by decide +kernel, by decide +kernel, by decide +kernel, by decide +kernel⟩, in_t4 187 rfl rfl, in_t4 188 rfl rfl⟩
set_option maxRecDepth 100000 in
theorem okX10_quarrelBy : MokV kX10_quarrelBy 1 := ⟨⟨in_t4 193 rfl rfl, in_t1 1 rfl rfl, by decide +kernel, by decide +kernel, by decide +kernel, by decide +kernel⟩, in_t4 192 rfl rfl, in_pv 13 31 rfl⟩
set_option maxRecDepth 100000 in
theorem okX10_bend : MokV kX10_bend 0 := ⟨⟨in_t4 199 rfl rfl, in_t1 1 rfl rfl, by decide +kernel, by decide +kernel, by decide +kernel, by decide +kernel⟩, in_t4 197 rfl rfl, in_t4 198 rfl rfl⟩
set_option maxRecDepth 100000 in
theorem okX10_shops : MokV kX10_shops 2 := ⟨⟨in_t4 203 rfl rfl, in_t1 1 rfl rfl, by decide +kernel, by decide +kernel, by decide +kernel, by decide +kernel⟩, in_t4 201 rfl rfl, in_t4 202 rfl rfl⟩
set_option maxRecDepth 100000 in
theorem okX10_fewestToGo : MokS kX10_fewestToGo 1 := ⟨⟨in_t4 206 rfl rfl, in_t1 1 rfl rfl, by decide +kernel, by decide +kernel, by decide +kernel, by decide +kernel⟩, in_t4 205 rfl rfl⟩
set_option maxRecDepth 100000 in
theorem okX10_saw : MokV kX10_saw 4 := ⟨⟨in_t4 210 rfl rfl, in_t1 1 rfl rfl, by decide +kernel, by decide +kernel, by decide +kernel, by decide +kernel⟩, in_t4 208 rfl rfl, in_t4 209 rfl rfl⟩
set_option maxRecDepth 100000 in
theorem okX10_forget : MokV kX10_forget 0 := ⟨⟨in_t4 214 rfl rfl, in_t1 1 rfl rfl, by decide +kernel, by decide +kernel, by decide +kernel, by decide +kernel⟩, in_t4 212 rfl rfl, in_t4 213 rfl rfl⟩
set_option maxRecDepth 100000 in
theorem okX10_histories : MokV kX10_histories 1 := ⟨⟨in_t4 218 rfl rfl, in_t1 1 rfl rfl, by decide +kernel, by decide +kernel, by decide +kernel, by decide +kernel⟩, in_t4 216 rfl rfl, in_t4 217 rfl rfl⟩
set_option maxRecDepth 100000 in
theorem okX10_began : MokV kX10_began 3 := ⟨⟨in_t5 3 rfl rfl, in_t1 1 rfl rfl, by decide +kernel, by decide +kernel, by decide +kernel, by decide +kernel⟩, in_t5 1 rfl rfl, in_t5 2 rfl rfl⟩
set_option maxRecDepth 100000 in
theorem okX10_keep : MokV kX10_keep 1 := ⟨⟨in_t5 11 rfl rfl, in_t1 1 rfl rfl, by decide +kernel, by decide +kernel, by decide +kernel, by decide +kernel⟩, in_t5 9 rfl rfl, in_t5 10 rfl rfl⟩
set_option maxRecDepth 100000 in
theorem okX10_back : MokV kX10_back 1 := ⟨⟨in_t5 15 rfl rfl, in_t1 1 rfl rfl, by decide +kernel, by decide +kernel, by decide +kernel, by decide +kernel⟩, in_t5 13 rfl rfl, in_t5 14 rfl rfl⟩
set_option maxRecDepth 100000 in
theorem okX10_sheet : MokV kX10_sheet 3 := ⟨⟨in_t5 23 rfl rfl, in_t1 1 rfl rfl, by decide +kernel, by decide +kernel, by decide +kernel, by decide +kernel⟩, in_t5 21 rfl rfl, in_t5 22 rfl rfl⟩
set_option maxRecDepth 100000 in
theorem okX10_lay : MokV kX10_lay 3 := ⟨⟨in_t5 38 rfl rfl, in_t1 1 rfl rfl, by decide +kernel, by decide +kernel, by decide +kernel, by decide +kernel⟩, in_t5 36 rfl rfl, in_t5 37 rfl rfl⟩
set_option maxRecDepth 100000 in
theorem okX10_read : MokV kX10_read 4 := ⟨⟨in_t5 51 rfl rfl, in_t1 1 rfl rfl, by decide +kernel, by decide +kernel, by decide +kernel, by decide +kernel⟩, in_t5 49 rfl rfl, in_t5 50 rfl rfl⟩
set_option maxRecDepth 100000 in
theorem okX10_torn : MokV kX10_torn 0 := ⟨⟨in_t5 68 rfl rfl, in_t1 1 rfl rfl, by decide +kernel, by decide +kernel, by decide +kernel, by decide +kernel⟩, in_t5 66 rfl rfl, in_t5 67 rfl rfl⟩
set_option maxRecDepth 100000 in
theorem okX10_count : MokV kX10_count 1 := ⟨⟨in_t5 72 rfl rfl, in_t1 1 rfl rfl, by decide +kernel, by decide +kernel, by decide +kernel, by decide +kernel⟩, in_t5 70 rfl rfl, in_t5 71 rfl rfl⟩
set_option maxRecDepth 100000 in
theorem okX10_isBank : MokS kX10_isBank 1 := ⟨⟨in_t3 62 rfl rfl, in_t1 1 rfl rfl, by decide +kernel, by decide +kernel, by decide +kernel, by decide +kernel⟩, in_t3 61 rfl rfl⟩
set_option maxRecDepth 100000 in
theorem okX10_isKind : MokS kX10_isKind 1 := ⟨⟨in_t3 133 rfl rfl, in_t1 1 rfl rfl, by decide +kernel, by decide +kernel, by decide +kernel, by decide +kernel⟩, in_t3 132 rfl rfl⟩
set_option maxRecDepth 100000 in
theorem okX10_isBuilt : MokS kX10_isBuilt 1 := ⟨⟨in_t3 146 rfl rfl, in_t1 1 rfl rfl, by decide +kernel, by decide +kernel, by decide +kernel, by decide +kernel⟩, in_t3 145 rfl rfl⟩
set_option maxRecDepth 100000 in
theorem okX10_isThing : MokS kX10_isThing 1 := ⟨⟨in_t3 165 rfl rfl, in_t1 1 rfl rfl, by decide +kernel, by decide +kernel, by decide +kernel, by decide +kernel⟩, in_t3 164 rfl rfl⟩
set_option maxRecDepth 100000 in
theorem okX10_isSheet : MokS kX10_isSheet 1 := ⟨⟨in_t5 26 rfl rfl, in_t1 1 rfl rfl, by decide +kernel, by decide +kernel, by decide +kernel, by decide +kernel⟩, in_t5 25 rfl rfl⟩
set_option maxRecDepth 100000 in
theorem okX10_isLane : MokS kX10_isLane 1 := ⟨⟨in_t5 29 rfl rfl, in_t1 1 rfl rfl, by decide +kernel, by decide +kernel, by decide +kernel, by decide +kernel⟩, in_t5 28 rfl rfl⟩
set_option maxRecDepth 100000 in
theorem okX10_isSlot : MokS kX10_isSlot 2 := ⟨⟨in_t3 59 rfl rfl, in_t1 1 rfl rfl, by decide +kernel, by decide +kernel, by decide +kernel, by decide +kernel⟩, in_t3 58 rfl rfl⟩
set_option maxRecDepth 100000 in
theorem okX10_slot : MokS kX10_slot 2 := ⟨⟨in_t3 46 rfl rfl, in_t1 1 rfl rfl, by decide +kernel, by decide +kernel, by decide +kernel, by decide +kernel⟩, in_t3 45 rfl rfl⟩
set_option maxRecDepth 100000 in
theorem okX11_init : MokI kX11_init 0 := ⟨⟨in_t5 81 rfl rfl, in_t1 12 rfl rfl, by decide +kernel, by decide +kernel, by decide +kernel, by decide +kernel⟩, in_t5 80 rfl rfl, rfl, rfl⟩
set_option maxRecDepth 100000 in
theorem okX11_in : MokS kX11_in 3 := ⟨⟨in_t6 10 rfl rfl, in_t1 12 rfl rfl, by decide +kernel, by decide +kernel, by decide +kernel, by decide +kernel⟩, in_t6 9 rfl rfl⟩
set_option maxRecDepth 100000 in
theorem okX11_flag : MokS kX11_flag 1 := ⟨⟨in_t6 131 rfl rfl, in_t1 12 rfl rfl, by decide +kernel, by decide +kernel, by decide +kernel, by decide +kernel⟩, in_t6 130 rfl rfl⟩
set_option maxRecDepth 100000 in
theorem okX11_firstDraft : MokV kX11_firstDraft 0 := ⟨⟨in_t5 86 rfl rfl, in_t1 12 rfl rfl, by decide +kernel, by decide +kernel, by decide +kernel, by decide +kernel⟩, in_t5 85 rfl rfl, in_pv 49 34 rfl⟩
set_option maxRecDepth 100000 in
theorem okX11_keepDraft : MokV kX11_keepDraft 0 := ⟨⟨in_t5 90 rfl rfl, in_t1 12 rfl rfl, by decide +kernel, by decide +kernel, by decide +kernel, by decide +kernel⟩, in_t5 89 rfl rfl, in_pv 49 35 rfl⟩
set_option maxRecDepth 100000 in
theorem okX11_feed : MokV kX11_feed 1 := ⟨⟨in_t6 2 rfl rfl, in_t1 12 rfl rfl, by decide +kernel, by decide +kernel, by decide +kernel, by decide +kernel⟩, in_t6 0 rfl rfl, in_t6 1 rfl rfl⟩
set_option maxRecDepth 100000 in
theorem okX11_end : MokV kX11_end 1 := ⟨⟨in_t6 7 rfl rfl, in_t1 12 rfl rfl, by decide +kernel, by decide +kernel, by decide +kernel, by decide +kernel⟩, in_t6 5 rfl rfl, in_t6 6 rfl rfl⟩
set_option maxRecDepth 100000 in
theorem okX11_needs : MokV kX11_needs 2 := ⟨⟨in_t6 30 rfl rfl, in_t1 12 rfl rfl, by decide +kernel, by decide +kernel, by decide +kernel, by decide +kernel⟩, in_t6 29 rfl rfl, in_pv 49 38 rfl⟩
set_option maxRecDepth 100000 in
theorem okX11_look : MokV kX11_look 1 := ⟨⟨in_t6 22 rfl rfl, in_t1 12 rfl rfl, by decide +kernel, by decide +kernel, by decide +kernel, by decide +kernel⟩, in_t6 21 rfl rfl, in_pv 49 37 rfl⟩
set_option maxRecDepth 100000 in
theorem okX11_is : MokV kX11_is 5 := ⟨⟨in_t6 42 rfl rfl, in_t1 12 rfl rfl, by decide +kernel, by decide +kernel, by decide +kernel, by decide +kernel⟩, in_t6 41 rfl rfl, in_pv 49 41 rfl⟩
set_option maxRecDepth 100000 in
theorem okX11_ends : MokV kX11_ends 3 := ⟨⟨in_t6 46 rfl rfl, in_t1 12 rfl rfl, by decide +kernel, by decide +kernel, by decide +kernel, by decide +kernel⟩, in_t6 45 rfl rfl, in_pv 49 42 rfl⟩
set_option maxRecDepth 100000 in
theorem okX11_ruleNow : MokV kX11_ruleNow 0 := ⟨⟨in_t6 50 rfl rfl, in_t1 12 rfl rfl, by decide +kernel, by decide +kernel, by decide +kernel, by decide +kernel⟩, in_t6 49 rfl rfl, in_pv 49 43 rfl⟩
set_option maxRecDepth 100000 in
theorem okX11_lineNow : MokV kX11_lineNow 0 := ⟨⟨in_t6 38 rfl rfl, in_t1 12 rfl rfl, by decide +kernel, by decide +kernel, by decide +kernel, by decide +kernel⟩, in_t6 37 rfl rfl, in_pv 49 40 rfl⟩
set_option maxRecDepth 100000 in
theorem okX11_kindNow : MokV kX11_kindNow 0 := ⟨⟨in_t6 90 rfl rfl, in_t1 12 rfl rfl, by decide +kernel, by decide +kernel, by decide +kernel, by decide +kernel⟩, in_t6 89 rfl rfl, in_pv 49 53 rfl⟩
set_option maxRecDepth 100000 in
theorem okX11_isNothing : MokV kX11_isNothing 0 := ⟨⟨in_t6 82 rfl rfl, in_t1 12 rfl rfl, by decide +kernel, by decide +kernel, by decide +kernel, by decide +kernel⟩, in_t6 81 rfl rfl, in_pv 49 51 rfl⟩
set_option maxRecDepth 100000 in
theorem okX11_sideNow : MokV kX11_sideNow 0 := ⟨⟨in_t6 94 rfl rfl, in_t1 12 rfl rfl, by decide +kernel, by decide +kernel, by decide +kernel, by decide +kernel⟩, in_t6 93 rfl rfl, in_pv 49 54 rfl⟩
set_option maxRecDepth 100000 in
theorem okX11_next : MokV kX11_next 0 := ⟨⟨in_t6 18 rfl rfl, in_t1 12 rfl rfl, by decide +kernel, by decide +kernel, by decide +kernel, by decide +kernel⟩, in_t6 17 rfl rfl, in_pv 49 36 rfl⟩
set_option maxRecDepth 100000 in
theorem okX11_looked : MokV kX11_looked 2 := ⟨⟨in_t6 62 rfl rfl, in_t1 12 rfl rfl, by decide +kernel, by decide +kernel, by decide +kernel, by decide +kernel⟩, in_t6 61 rfl rfl, in_pv 49 46 rfl⟩
set_option maxRecDepth 100000 in
theorem okX11_readNumber : MokV kX11_readNumber 2 := ⟨⟨in_t6 58 rfl rfl, in_t1 12 rfl rfl, by decide +kernel, by decide +kernel, by decide +kernel, by decide +kernel⟩, in_t6 57 rfl rfl, in_pv 49 45 rfl⟩
set_option maxRecDepth 100000 in
theorem okX11_readLot : MokV kX11_readLot 0 := ⟨⟨in_t6 74 rfl rfl, in_t1 12 rfl rfl, by decide +kernel, by decide +kernel, by decide +kernel, by decide +kernel⟩, in_t6 73 rfl rfl, in_pv 49 49 rfl⟩
set_option maxRecDepth 100000 in
theorem okX11_readKind : MokV kX11_readKind 1 := ⟨⟨in_t6 86 rfl rfl, in_t1 12 rfl rfl, by decide +kernel, by decide +kernel, by decide +kernel, by decide +kernel⟩, in_t6 85 rfl rfl, in_pv 49 52 rfl⟩
set_option maxRecDepth 100000 in
theorem okX11_readColour : MokV kX11_readColour 1 := ⟨⟨in_t6 106 rfl rfl, in_t1 12 rfl rfl, by decide +kernel, by decide +kernel, by decide +kernel, by decide +kernel⟩, in_t6 105 rfl rfl, in_pv 49 57 rfl⟩
set_option maxRecDepth 100000 in
theorem okX11_readWhat : MokV kX11_readWhat 0 := ⟨⟨in_t6 78 rfl rfl, in_t1 12 rfl rfl, by decide +kernel, by decide +kernel, by decide +kernel, by decide +kernel⟩, in_t6 77 rfl rfl, in_pv 49 50 rfl⟩
set_option maxRecDepth 100000 in
theorem okX11_readCosts : MokV kX11_readCosts 1 := ⟨⟨in_t6 66 rfl rfl, in_t1 12 rfl rfl, by decide +kernel, by decide +kernel, by decide +kernel, by decide +kernel⟩, in_t6 65 rfl rfl, in_pv 49 47 rfl⟩
set_option maxRecDepth 100000 in
theorem okX11_readThing : MokV kX11_readThing 0 := ⟨⟨in_t6 70 rfl rfl, in_t1 12 rfl rfl, by decide +kernel, by decide +kernel, by decide +kernel, by decide +kernel⟩, in_t6 69 rfl rfl, in_pv 49 48 rfl⟩
set_option maxRecDepth 100000 in
theorem okX11_readWork : MokV kX11_readWork 0 := ⟨⟨in_t6 98 rfl rfl, in_t1 12 rfl rfl, by decide +kernel, by decide +kernel, by decide +kernel, by decide +kernel⟩, in_t6 97 rfl rfl, in_pv 49 55 rfl⟩
set_option maxRecDepth 100000 in
theorem okX11_readLaw : MokV kX11_readLaw 1 := ⟨⟨in_t6 102 rfl rfl, in_t1 12 rfl rfl, by decide +kernel, by decide +kernel, by decide +kernel, by decide +kernel⟩, in_t6 101 rfl rfl, in_pv 49 56 rfl⟩
set_option maxRecDepth 100000 in
theorem okX11_readLineOf : MokV kX11_readLineOf 1 := ⟨⟨in_t6 54 rfl rfl, in_t1 12 rfl rfl, by decide +kernel, by decide +kernel, by decide +kernel, by decide +kernel⟩, in_t6 53 rfl rfl, in_pv 49 44 rfl⟩
set_option maxRecDepth 100000 in
theorem okX11_readLine : MokV kX11_readLine 0 := ⟨⟨in_t6 34 rfl rfl, in_t1 12 rfl rfl, by decide +kernel, by decide +kernel, by decide +kernel, by decide +kernel⟩, in_t6 33 rfl rfl, in_pv 49 39 rfl⟩
set_option maxRecDepth 100000 in
theorem okX11_text : MokV kX11_text 0 := ⟨⟨in_t6 14 rfl rfl, in_t1 12 rfl rfl, by decide +kernel, by decide +kernel, by decide +kernel, by decide +kernel⟩, in_t6 12 rfl rfl, in_t6 13 rfl rfl⟩
set_option maxRecDepth 100000 in
theorem okX11_fault : MokV kX11_fault 0 := ⟨⟨in_t6 110 rfl rfl, in_t1 12 rfl rfl, by decide +kernel, by decide +kernel, by decide +kernel, by decide +kernel⟩, in_t6 108 rfl rfl, in_t6 109 rfl rfl⟩
set_option maxRecDepth 100000 in
theorem okX11_rule : MokV kX11_rule 1 := ⟨⟨in_t6 114 rfl rfl, in_t1 12 rfl rfl, by decide +kernel, by decide +kernel, by decide +kernel, by decide +kernel⟩, in_t6 112 rfl rfl, in_t6 113 rfl rfl⟩
set_option maxRecDepth 100000 in
theorem okX11_isKind : MokS kX11_isKind 1 := ⟨⟨in_t6 123 rfl rfl, in_t1 12 rfl rfl, by decide +kernel, by decide +kernel, by decide +kernel, by decide +kernel⟩, in_t6 122 rfl rfl⟩
set_option maxRecDepth 100000 in
theorem okX11_doesLack : MokV kX11_doesLack 2 := ⟨⟨in_t6 128 rfl rfl, in_t1 12 rfl rfl, by decide +kernel, by decide +kernel, by decide +kernel, by decide +kernel⟩, in_t6 127 rfl rfl, in_pv 49 58 rfl⟩
set_option maxRecDepth 100000 in
theorem okX11_kind : MokV kX11_kind 2 := ⟨⟨in_t6 120 rfl rfl, in_t1 12 rfl rfl, by decide +kernel, by decide +kernel, by decide +kernel, by decide +kernel⟩, in_t6 118 rfl rfl, in_t6 119 rfl rfl⟩
set_option maxRecDepth 100000 in
theorem okX11_colour : MokV kX11_colour 1 := ⟨⟨in_t6 135 rfl rfl, in_t1 12 rfl rfl, by decide +kernel, by decide +kernel, by decide +kernel, by decide +kernel⟩, in_t6 133 rfl rfl, in_t6 134 rfl rfl⟩
set_option maxRecDepth 100000 in
theorem okX11_isThing : MokS kX11_isThing 1 := ⟨⟨in_t6 143 rfl rfl, in_t1 12 rfl rfl, by decide +kernel, by decide +kernel, by decide +kernel, by decide +kernel⟩, in_t6 142 rfl rfl⟩
set_option maxRecDepth 100000 in
theorem okX11_mirrorOf : MokV kX11_mirrorOf 1 := ⟨⟨in_t6 148 rfl rfl, in_t1 12 rfl rfl, by decide +kernel, by decide +kernel, by decide +kernel, by decide +kernel⟩, in_t6 147 rfl rfl, in_pv 49 59 rfl⟩
set_option maxRecDepth 100000 in
theorem okX11_mirror : MokV kX11_mirror 1 := ⟨⟨in_t6 140 rfl rfl, in_t1 12 rfl rfl, by decide +kernel, by decide +kernel, by decide +kernel, by decide +kernel⟩, in_t6 138 rfl rfl, in_t6 139 rfl rfl⟩
set_option maxRecDepth 100000 in
theorem okX11_work : MokV kX11_work 2 := ⟨⟨in_t6 152 rfl rfl, in_t1 12 rfl rfl, by decide +kernel, by decide +kernel, by decide +kernel, by decide +kernel⟩, in_t6 150 rfl rfl, in_t6 151 rfl rfl⟩
set_option maxRecDepth 100000 in
theorem okX11_isBank : MokS kX11_isBank 1 := ⟨⟨in_t6 163 rfl rfl, in_t1 12 rfl rfl, by decide +kernel, by decide +kernel, by decide +kernel, by decide +kernel⟩, in_t6 162 rfl rfl⟩
set_option maxRecDepth 100000 in
theorem okX11_isLot : MokV kX11_isLot 2 := ⟨⟨in_t6 160 rfl rfl, in_t1 12 rfl rfl, by decide +kernel, by decide +kernel, by decide +kernel, by decide +kernel⟩, in_t6 159 rfl rfl, in_pv 49 60 rfl⟩
set_option maxRecDepth 100000 in
theorem okX11_thing : MokV kX11_thing 2 := ⟨⟨in_t6 156 rfl rfl, in_t1 12 rfl rfl, by decide +kernel, by decide +kernel, by decide +kernel, by decide +kernel⟩, in_t6 154 rfl rfl, in_t6 155 rfl rfl⟩
set_option maxRecDepth 100000 in
theorem okX11_put : MokV kX11_put 3 := ⟨⟨in_t6 167 rfl rfl, in_t1 12 rfl rfl, by decide +kernel, by decide +kernel, by decide +kernel, by decide +kernel⟩, in_t6 165 rfl rfl, in_t6 166 rfl rfl⟩
set_option maxRecDepth 100000 in
theorem okX11_matchBy : MokV kX11_matchBy 3 := ⟨⟨in_t6 179 rfl rfl, in_t1 12 rfl rfl, by decide +kernel, by decide +kernel, by decide +kernel, by decide +kernel⟩, in_t6 178 rfl rfl, in_pv 49 62 rfl⟩
set_option maxRecDepth 100000 in
theorem okX11_matchOf : MokV kX11_matchOf 2 := ⟨⟨in_t6 175 rfl rfl, in_t1 12 rfl rfl, by decide +kernel, by decide +kernel, by decide +kernel, by decide +kernel⟩, in_t6 174 rfl rfl, in_pv 49 61 rfl⟩
set_option maxRecDepth 100000 in
theorem okX11_match : MokV kX11_match 2 := ⟨⟨in_t6 171 rfl rfl, in_t1 12 rfl rfl, by decide +kernel, by decide +kernel, by decide +kernel, by decide +kernel⟩, in_t6 169 rfl rfl, in_t6 170 rfl rfl⟩
set_option maxRecDepth 100000 in
theorem okX11_asNow : MokV kX11_asNow 0 := ⟨⟨in_t6 187 rfl rfl, in_t1 12 rfl rfl, by decide +kernel, by decide +kernel, by decide +kernel, by decide +kernel⟩, in_t6 186 rfl rfl, in_pv 49 63 rfl⟩
set_option maxRecDepth 100000 in
theorem okX11_isEven : MokV kX11_isEven 1 := ⟨⟨in_t6 195 rfl rfl, in_t1 12 rfl rfl, by decide +kernel, by decide +kernel, by decide +kernel, by decide +kernel⟩, in_t6 194 rfl rfl, in_pv 49 65 rfl⟩
set_option maxRecDepth 100000 in
theorem okX11_oddLots : MokV kX11_oddLots 0 := ⟨⟨in_t6 191 rfl rfl, in_t1 12 rfl rfl, by decide +kernel, by decide +kernel, by decide +kernel, by decide +kernel⟩, in_t6 190 rfl rfl, in_pv 49 64 rfl⟩
set_option maxRecDepth 100000 in
theorem okX11_odd : MokV kX11_odd 0 := ⟨⟨in_t6 183 rfl rfl, in_t1 12 rfl rfl, by decide +kernel, by decide +kernel, by decide +kernel, by decide +kernel⟩, in_t6 181 rfl rfl, in_t6 182 rfl rfl⟩
set_option maxRecDepth 100000 in
theorem okX11_third : MokV kX11_third 1 := ⟨⟨in_t6 199 rfl rfl, in_t1 12 rfl rfl, by decide +kernel, by decide +kernel, by decide +kernel, by decide +kernel⟩, in_t6 197 rfl rfl, in_t6 198 rfl rfl⟩
set_option maxRecDepth 100000 in
theorem okX11_startRun : MokV kX11_startRun 0 := ⟨⟨in_t6 215 rfl rfl, in_t1 12 rfl rfl, by decide +kernel, by decide +kernel, by decide +kernel, by decide +kernel⟩, in_t6 214 rfl rfl, in_pv 49 67 rfl⟩
set_option maxRecDepth 100000 in
theorem okX11_works : MokV kX11_works 1 := ⟨⟨in_t6 223 rfl rfl, in_t1 12 rfl rfl, by decide +kernel, by decide +kernel, by decide +kernel, by decide +kernel⟩, in_t6 222 rfl rfl, in_pv 49 69 rfl⟩
set_option maxRecDepth 100000 in
theorem okX11_goMonth : MokV kX11_goMonth 1 := ⟨⟨in_t6 219 rfl rfl, in_t1 12 rfl rfl, by decide +kernel, by decide +kernel, by decide +kernel, by decide +kernel⟩, in_t6 218 rfl rfl, in_pv 49 68 rfl⟩
set_option maxRecDepth 100000 in
theorem okX11_goRun : MokV kX11_goRun 1 := ⟨⟨in_t6 211 rfl rfl, in_t1 12 rfl rfl, by decide +kernel, by decide +kernel, by decide +kernel, by decide +kernel⟩, in_t6 210 rfl rfl, in_pv 49 66 rfl⟩
set_option maxRecDepth 100000 in
theorem okX11_isMany : MokS kX11_isMany 1 := ⟨⟨in_t6 206 rfl rfl, in_t1 12 rfl rfl, by decide +kernel, by decide +kernel, by decide +kernel, by decide +kernel⟩, in_t6 205 rfl rfl⟩
set_option maxRecDepth 100000 in
theorem okX11_after : MokV kX11_after 3 := ⟨⟨in_t6 203 rfl rfl, in_t1 12 rfl rfl, by decide +kernel, by decide +kernel, by decide +kernel, by decide +kernel⟩, in_t6 201 rfl rfl, in_t6 202 rfl rfl⟩
set_option maxRecDepth 100000 in
theorem okX11_paid : MokV kX11_paid 2 := ⟨⟨in_t6 227 rfl rfl, in_t1 12 rfl rfl, by decide +kernel, by decide +kernel, by decide +kernel, by decide +kernel⟩, in_t6 225 rfl rfl, in_t6 226 rfl rfl⟩
set_option maxRecDepth 100000 in
theorem okX11_owes : MokV kX11_owes 2 := ⟨⟨in_t6 231 rfl rfl, in_t1 12 rfl rfl, by decide +kernel, by decide +kernel, by decide +kernel, by decide +kernel⟩, in_t6 229 rfl rfl, in_t6 230 rfl rfl⟩
set_option maxRecDepth 100000 in
theorem okX11_fate : MokV kX11_fate 1 := ⟨⟨in_t6 235 rfl rfl, in_t1 12 rfl rfl, by decide +kernel, by decide +kernel, by decide +kernel, by decide +kernel⟩, in_t6 233 rfl rfl, in_t6 234 rfl rfl⟩
set_option maxRecDepth 100000 in
theorem okX11_uneven : MokV kX11_uneven 1 := ⟨⟨in_t6 239 rfl rfl, in_t1 12 rfl rfl, by decide +kernel, by decide +kernel, by decide +kernel, by decide +kernel⟩, in_t6 237 rfl rfl, in_t6 238 rfl rfl⟩
set_option maxRecDepth 100000 in
theorem okX11_go : MokV kX11_go 0 := ⟨⟨in_t7 3 rfl rfl, in_t1 12 rfl rfl, by decide +kernel, by decide +kernel, by decide +kernel, by decide +kernel⟩, in_t7 1 rfl rfl, in_t7 2 rfl rfl⟩
set_option maxRecDepth 100000 in
theorem okX11_plot : MokV kX11_plot 4 := ⟨⟨in_t7 7 rfl rfl, in_t1 12 rfl rfl, by decide +kernel, by decide +kernel, by decide +kernel, by decide +kernel⟩, in_t7 5 rfl rfl, in_t7 6 rfl rfl⟩
set_option maxRecDepth 100000 in
theorem okX11_kindThere : MokV kX11_kindThere 2 := ⟨⟨in_t7 20 rfl rfl, in_t1 12 rfl rfl, by decide +kernel, by decide +kernel, by decide +kernel, by decide +kernel⟩, in_t7 19 rfl rfl, in_pv 49 71 rfl⟩
set_option maxRecDepth 100000 in
theorem okX11_gainOf : MokV kX11_gainOf 3 := ⟨⟨in_t7 16 rfl rfl, in_t1 12 rfl rfl, by decide +kernel, by decide +kernel, by decide +kernel, by decide +kernel⟩, in_t7 15 rfl rfl, in_pv 49 70 rfl⟩
set_option maxRecDepth 100000 in
theorem okX11_gain : MokV kX11_gain 3 := ⟨⟨in_t7 12 rfl rfl, in_t1 12 rfl rfl, by decide +kernel, by decide +kernel, by decide +kernel, by decide +kernel⟩, in_t7 10 rfl rfl, in_t7 11 rfl rfl⟩
set_option maxRecDepth 100000 in
theorem okX11_mayBe : MokV kX11_mayBe 3 := ⟨⟨in_t7 32 rfl rfl, in_t1 12 rfl rfl, by decide +kernel, by decide +kernel, by decide +kernel, by decide +kernel⟩, in_t7 31 rfl rfl, in_pv 49 73 rfl⟩
set_option maxRecDepth 100000 in
theorem okX11_beginOf : MokV kX11_beginOf 2 := ⟨⟨in_t7 28 rfl rfl, in_t1 12 rfl rfl, by decide +kernel, by decide +kernel, by decide +kernel, by decide +kernel⟩, in_t7 27 rfl rfl, in_pv 49 72 rfl⟩
set_option maxRecDepth 100000 in
theorem okX11_begin : MokV kX11_begin 3 := ⟨⟨in_t7 24 rfl rfl, in_t1 12 rfl rfl, by decide +kernel, by decide +kernel, by decide +kernel, by decide +kernel⟩, in_t7 22 rfl rfl, in_t7 23 rfl rfl⟩
set_option maxRecDepth 100000 in
theorem okX11_waits : MokV kX11_waits 2 := ⟨⟨in_t7 36 rfl rfl, in_t1 12 rfl rfl, by decide +kernel, by decide +kernel, by decide +kernel, by decide +kernel⟩, in_t7 34 rfl rfl, in_t7 35 rfl rfl⟩
set_option maxRecDepth 100000 in
theorem okX11_vex : MokV kX11_vex 2 := ⟨⟨in_t7 40 rfl rfl, in_t1 12 rfl rfl, by decide +kernel, by decide +kernel, by decide +kernel, by decide +kernel⟩, in_t7 38 rfl rfl, in_t7 39 rfl rfl⟩
set_option maxRecDepth 100000 in
theorem okX11_want : MokV kX11_want 2 := ⟨⟨in_t7 45 rfl rfl, in_t1 12 rfl rfl, by decide +kernel, by decide +kernel, by decide +kernel, by decide +kernel⟩, in_t7 43 rfl rfl, in_t7 44 rfl rfl⟩
set_option maxRecDepth 100000 in
theorem okX11_content : MokV kX11_content 0 := ⟨⟨in_t7 49 rfl rfl, in_t1 12 rfl rfl, by decide +kernel, by decide +kernel, by decide +kernel, by decide +kernel⟩, in_t7 47 rfl rfl, in_t7 48 rfl rfl⟩
set_option maxRecDepth 100000 in
theorem okX11_bitsOf : MokS kX11_bitsOf 1 := ⟨⟨in_t7 60 rfl rfl, in_t1 12 rfl rfl, by decide +kernel, by decide +kernel, by decide +kernel, by decide +kernel⟩, in_t7 59 rfl rfl⟩
set_option maxRecDepth 100000 in
theorem okX11_wantCost : MokV kX11_wantCost 2 := ⟨⟨in_t7 65 rfl rfl, in_t1 12 rfl rfl, by decide +kernel, by decide +kernel, by decide +kernel, by decide +kernel⟩, in_t7 64 rfl rfl, in_pv 49 75 rfl⟩
set_option maxRecDepth 100000 in
theorem okX11_findRests : MokV kX11_findRests 1 := ⟨⟨in_t7 57 rfl rfl, in_t1 12 rfl rfl, by decide +kernel, by decide +kernel, by decide +kernel, by decide +kernel⟩, in_t7 56 rfl rfl, in_pv 49 74 rfl⟩
set_option maxRecDepth 100000 in
theorem okX11_plan : MokV kX11_plan 2 := ⟨⟨in_t7 53 rfl rfl, in_t1 12 rfl rfl, by decide +kernel, by decide +kernel, by decide +kernel, by decide +kernel⟩, in_t7 51 rfl rfl, in_t7 52 rfl rfl⟩
set_option maxRecDepth 100000 in
theorem okX11_cannot : MokV kX11_cannot 1 := ⟨⟨in_t7 69 rfl rfl, in_t1 12 rfl rfl, by decide +kernel, by decide +kernel, by decide +kernel, by decide +kernel⟩, in_t7 67 rfl rfl, in_t7 68 rfl rfl⟩
set_option maxRecDepth 100000 in
theorem okX11_fire : MokV kX11_fire 3 := ⟨⟨in_t7 73 rfl rfl, in_t1 12 rfl rfl, by decide +kernel, by decide +kernel, by decide +kernel, by decide +kernel⟩, in_t7 71 rfl rfl, in_t7 72 rfl rfl⟩
set_option maxRecDepth 100000 in
theorem okX11_quarrelOf : MokV kX11_quarrelOf 1 := ⟨⟨in_t7 82 rfl rfl, in_t1 12 rfl rfl, by decide +kernel, by decide +kernel, by decide +kernel, by decide +kernel⟩, in_t7 81 rfl rfl, in_pv 49 76 rfl⟩
set_option maxRecDepth 100000 in
theorem okX11_quarrel : MokV kX11_quarrel 1 := ⟨⟨in_t7 77 rfl rfl, in_t1 12 rfl rfl, by decide +kernel, by decide +kernel, by decide +kernel, by decide +kernel⟩, in_t7 75 rfl rfl, in_t7 76 rfl rfl⟩
set_option maxRecDepth 100000 in
theorem okX11_bend : MokV kX11_bend 0 := ⟨⟨in_t7 86 rfl rfl, in_t1 12 rfl rfl, by decide +kernel, by decide +kernel, by decide +kernel, by decide +kernel⟩, in_t7 84 rfl rfl, in_t7 85 rfl rfl⟩
set_option maxRecDepth 100000 in
theorem okX11_isShop : MokV kX11_isShop 2 := ⟨⟨in_t7 94 rfl rfl, in_t1 12 rfl rfl, by decide +kernel, by decide +kernel, by decide +kernel, by decide +kernel⟩, in_t7 93 rfl rfl, in_pv 49 77 rfl⟩
set_option maxRecDepth 100000 in
theorem okX11_shops : MokV kX11_shops 2 := ⟨⟨in_t7 90 rfl rfl, in_t1 12 rfl rfl, by decide +kernel, by decide +kernel, by decide +kernel, by decide +kernel⟩, in_t7 88 rfl rfl, in_t7 89 rfl rfl⟩
set_option maxRecDepth 100000 in
theorem okX11_saw : MokV kX11_saw 4 := ⟨⟨in_t7 98 rfl rfl, in_t1 12 rfl rfl, by decide +kernel, by decide +kernel, by decide +kernel, by decide +kernel⟩, in_t7 96 rfl rfl, in_t7 97 rfl rfl⟩
set_option maxRecDepth 100000 in
theorem okX11_forget : MokV kX11_forget 0 := ⟨⟨in_t7 102 rfl rfl, in_t1 12 rfl rfl, by decide +kernel, by decide +kernel, by decide +kernel, by decide +kernel⟩, in_t7 100 rfl rfl, in_t7 101 rfl rfl⟩
set_option maxRecDepth 100000 in
theorem okX11_isTold : MokV kX11_isTold 1 := ⟨⟨in_t7 111 rfl rfl, in_t1 12 rfl rfl, by decide +kernel, by decide +kernel, by decide +kernel, by decide +kernel⟩, in_t7 110 rfl rfl, in_pv 49 78 rfl⟩
set_option maxRecDepth 100000 in
theorem okX11_fits : MokV kX11_fits 3 := ⟨⟨in_t7 119 rfl rfl, in_t1 12 rfl rfl, by decide +kernel, by decide +kernel, by decide +kernel, by decide +kernel⟩, in_t7 118 rfl rfl, in_pv 49 80 rfl⟩
set_option maxRecDepth 100000 in
theorem okX11_waysOf : MokV kX11_waysOf 4 := ⟨⟨in_t7 115 rfl rfl, in_t1 12 rfl rfl, by decide +kernel, by decide +kernel, by decide +kernel, by decide +kernel⟩, in_t7 114 rfl rfl, in_pv 49 79 rfl⟩
set_option maxRecDepth 100000 in
theorem okX11_histories : MokV kX11_histories 1 := ⟨⟨in_t7 106 rfl rfl, in_t1 12 rfl rfl, by decide +kernel, by decide +kernel, by decide +kernel, by decide +kernel⟩, in_t7 104 rfl rfl, in_t7 105 rfl rfl⟩
set_option maxRecDepth 100000 in
theorem okX11_began : MokV kX11_began 3 := ⟨⟨in_t7 123 rfl rfl, in_t1 12 rfl rfl, by decide +kernel, by decide +kernel, by decide +kernel, by decide +kernel⟩, in_t7 121 rfl rfl, in_t7 122 rfl rfl⟩
set_option maxRecDepth 100000 in
theorem okX11_thingMany : MokV kX11_thingMany 0 := ⟨⟨in_t7 139 rfl rfl, in_t1 12 rfl rfl, by decide +kernel, by decide +kernel, by decide +kernel, by decide +kernel⟩, in_t7 138 rfl rfl, in_pv 49 82 rfl⟩
set_option maxRecDepth 100000 in
theorem okX11_copies : MokV kX11_copies 2 := ⟨⟨in_t7 131 rfl rfl, in_t1 12 rfl rfl, by decide +kernel, by decide +kernel, by decide +kernel, by decide +kernel⟩, in_t7 130 rfl rfl, in_pv 49 81 rfl⟩
set_option maxRecDepth 100000 in
theorem okX11_keep : MokV kX11_keep 1 := ⟨⟨in_t7 127 rfl rfl, in_t1 12 rfl rfl, by decide +kernel, by decide +kernel, by decide +kernel, by decide +kernel⟩, in_t7 125 rfl rfl, in_t7 126 rfl rfl⟩
set_option maxRecDepth 100000 in
theorem okX11_back : MokV kX11_back 1 := ⟨⟨in_t7 135 rfl rfl, in_t1 12 rfl rfl, by decide +kernel, by decide +kernel, by decide +kernel, by decide +kernel⟩, in_t7 133 rfl rfl, in_t7 134 rfl rfl⟩
set_option maxRecDepth 100000 in
theorem okX11_isSheet : MokS kX11_isSheet 2 := ⟨⟨in_t7 146 rfl rfl, in_t1 12 rfl rfl, by decide +kernel, by decide +kernel, by decide +kernel, by decide +kernel⟩, in_t7 145 rfl rfl⟩
set_option maxRecDepth 100000 in
theorem okX11_sheet : MokV kX11_sheet 3 := ⟨⟨in_t7 143 rfl rfl, in_t1 12 rfl rfl, by decide +kernel, by decide +kernel, by decide +kernel, by decide +kernel⟩, in_t7 141 rfl rfl, in_t7 142 rfl rfl⟩
set_option maxRecDepth 100000 in
theorem okX11_lay : MokV kX11_lay 3 := ⟨⟨in_t7 150 rfl rfl, in_t1 12 rfl rfl, by decide +kernel, by decide +kernel, by decide +kernel, by decide +kernel⟩, in_t7 148 rfl rfl, in_t7 149 rfl rfl⟩
set_option maxRecDepth 100000 in
theorem okX11_read : MokV kX11_read 4 := ⟨⟨in_t7 154 rfl rfl, in_t1 12 rfl rfl, by decide +kernel, by decide +kernel, by decide +kernel, by decide +kernel⟩, in_t7 152 rfl rfl, in_t7 153 rfl rfl⟩
set_option maxRecDepth 100000 in
theorem okX11_torn : MokV kX11_torn 0 := ⟨⟨in_t7 158 rfl rfl, in_t1 12 rfl rfl, by decide +kernel, by decide +kernel, by decide +kernel, by decide +kernel⟩, in_t7 156 rfl rfl, in_t7 157 rfl rfl⟩
set_option maxRecDepth 100000 in
theorem okX11_count : MokV kX11_count 1 := ⟨⟨in_t7 162 rfl rfl, in_t1 12 rfl rfl, by decide +kernel, by decide +kernel, by decide +kernel, by decide +kernel⟩, in_t7 160 rfl rfl, in_t7 161 rfl rfl⟩
set_option maxRecDepth 100000 in
theorem okJ0_length_8abf5 : MokV kJ0_length_8abf5 0 := ⟨⟨in_t2 194 rfl rfl, in_t1 13 rfl rfl, by decide +kernel, by decide +kernel, by decide +kernel, by decide +kernel⟩, in_t2 192 rfl rfl, in_t2 193 rfl rfl⟩
set_option maxRecDepth 100000 in
theorem okJ0_charAt_5068e : MokV kJ0_charAt_5068e 1 := ⟨⟨in_t2 204 rfl rfl, in_t1 13 rfl rfl, by decide +kernel, by decide +kernel, by decide +kernel, by decide +kernel⟩, in_t2 202 rfl rfl, in_t2 203 rfl rfl⟩
set_option maxRecDepth 100000 in
theorem okJ0_coder_7d493 : MokV kJ0_coder_7d493 0 := ⟨⟨in_t2 198 rfl rfl, in_t1 13 rfl rfl, by decide +kernel, by decide +kernel, by decide +kernel, by decide +kernel⟩, in_t2 196 rfl rfl, in_t2 197 rfl rfl⟩
set_option maxRecDepth 100000 in
theorem okJ0_isLatin1_aae02 : MokV kJ0_isLatin1_aae02 0 := ⟨⟨in_t2 208 rfl rfl, in_t1 13 rfl rfl, by decide +kernel, by decide +kernel, by decide +kernel, by decide +kernel⟩, in_t2 206 rfl rfl, in_t2 207 rfl rfl⟩
set_option maxRecDepth 100000 in
theorem okJ0_checkIndex_df160 : MokS kJ0_checkIndex_df160 2 := ⟨⟨in_t2 214 rfl rfl, in_t1 13 rfl rfl, by decide +kernel, by decide +kernel, by decide +kernel, by decide +kernel⟩, in_t2 213 rfl rfl⟩
set_option maxRecDepth 100000 in
theorem okJ1_charAt_3b067 : MokS kJ1_charAt_3b067 2 := ⟨⟨in_t2 211 rfl rfl, in_t1 14 rfl rfl, by decide +kernel, by decide +kernel, by decide +kernel, by decide +kernel⟩, in_t2 210 rfl rfl⟩
set_option maxRecDepth 100000 in
theorem okJ2_getChar_3b067 : MokS kJ2_getChar_3b067 2 := ⟨⟨in_t2 232 rfl rfl, in_t1 16 rfl rfl, by decide +kernel, by decide +kernel, by decide +kernel, by decide +kernel⟩, in_t2 231 rfl rfl⟩
set_option maxRecDepth 100000 in
theorem okJ2_length_9d52b : MokS kJ2_length_9d52b 1 := ⟨⟨in_t2 228 rfl rfl, in_t1 16 rfl rfl, by decide +kernel, by decide +kernel, by decide +kernel, by decide +kernel⟩, in_t2 227 rfl rfl⟩
set_option maxRecDepth 100000 in
theorem okJ2_charAt_3b067 : MokS kJ2_charAt_3b067 2 := ⟨⟨in_t2 222 rfl rfl, in_t1 16 rfl rfl, by decide +kernel, by decide +kernel, by decide +kernel, by decide +kernel⟩, in_t2 221 rfl rfl⟩
set_option maxRecDepth 100000 in
theorem okJ2_checkIndex_2214a : MokS kJ2_checkIndex_2214a 2 := ⟨⟨in_t2 225 rfl rfl, in_t1 16 rfl rfl, by decide +kernel, by decide +kernel, by decide +kernel, by decide +kernel⟩, in_t2 224 rfl rfl⟩
set_option maxRecDepth 100000 in
theorem okJ3_checkIndex_8e157 : MokS kJ3_checkIndex_8e157 3 := ⟨⟨in_t2 219 rfl rfl, in_t1 15 rfl rfl, by decide +kernel, by decide +kernel, by decide +kernel, by decide +kernel⟩, in_t2 218 rfl rfl⟩
