theorem ev_plot {cv1 cv2 cv3 cv4 : Nat} (he : epX10_plot (fun cr cM ct => epX11_plot (fun c2 _ _ => eqN cr c2) cM ct cv1 cv2 cv3 cv4) uM0 0 cv1 cv2 cv3 cv4 = true) (post1 : Int32 → MM → Int64 → Prop) (H : ∀ r1 M1 t1, (∀ post2 : Int32 → MM → Int64 → Prop, (∀ M2 t2, post2 r1 M2 t2) → wpX11_plot post2 M1 t1 (nI cv1) (nI cv2) (nI cv3) (nI cv4)) → post1 r1 M1 t1) : wpX10_plot post1 M0 0 (nI cv1) (nI cv2) (nI cv3) (nI cv4) :=
  spX10_plot (q := fun cr cM ct => epX11_plot (fun c2 _ _ => eqN cr c2) cM ct cv1 cv2 cv3 cv4) (fun r M tl cr cM ct hr hM ht h => H r M tl (fun post2 h2 => spX11_plot (q := fun c2 _ _ => eqN cr c2) (fun r2 M2 t2 cr2 cM2 ct2 hr2 _ _ hh => fin2 h2 ((c_eq hr hr2).mpr hh)) hM ht rfl rfl rfl rfl h)) dM0 rfl rfl rfl rfl rfl he
set_option maxRecDepth 100000 in
theorem he_plot_0 : ∀ cv2, cv2 < 2 → ∀ cv3, cv3 < 5 → ∀ cv4, cv4 < 64 → epX10_plot (fun cr cM ct => epX11_plot (fun c2 _ _ => eqN cr c2) cM ct 0 cv2 cv3 cv4) uM0 0 0 cv2 cv3 cv4 = true := by decide +kernel
set_option maxRecDepth 100000 in
theorem he_plot_1 : ∀ cv2, cv2 < 2 → ∀ cv3, cv3 < 5 → ∀ cv4, cv4 < 64 → epX10_plot (fun cr cM ct => epX11_plot (fun c2 _ _ => eqN cr c2) cM ct 1 cv2 cv3 cv4) uM0 0 1 cv2 cv3 cv4 = true := by decide +kernel
set_option maxRecDepth 100000 in
theorem he_plot_2 : ∀ cv2, cv2 < 2 → ∀ cv3, cv3 < 5 → ∀ cv4, cv4 < 64 → epX10_plot (fun cr cM ct => epX11_plot (fun c2 _ _ => eqN cr c2) cM ct 2 cv2 cv3 cv4) uM0 0 2 cv2 cv3 cv4 = true := by decide +kernel
set_option maxRecDepth 100000 in
theorem he_plot_3 : ∀ cv2, cv2 < 2 → ∀ cv3, cv3 < 5 → ∀ cv4, cv4 < 64 → epX10_plot (fun cr cM ct => epX11_plot (fun c2 _ _ => eqN cr c2) cM ct 3 cv2 cv3 cv4) uM0 0 3 cv2 cv3 cv4 = true := by decide +kernel
set_option maxRecDepth 100000 in
theorem he_plot_4 : ∀ cv2, cv2 < 2 → ∀ cv3, cv3 < 5 → ∀ cv4, cv4 < 64 → epX10_plot (fun cr cM ct => epX11_plot (fun c2 _ _ => eqN cr c2) cM ct 4 cv2 cv3 cv4) uM0 0 4 cv2 cv3 cv4 = true := by decide +kernel
set_option maxRecDepth 100000 in
theorem he_plot_5 : ∀ cv2, cv2 < 2 → ∀ cv3, cv3 < 5 → ∀ cv4, cv4 < 64 → epX10_plot (fun cr cM ct => epX11_plot (fun c2 _ _ => eqN cr c2) cM ct 5 cv2 cv3 cv4) uM0 0 5 cv2 cv3 cv4 = true := by decide +kernel
set_option maxRecDepth 100000 in
theorem he_plot_6 : ∀ cv2, cv2 < 2 → ∀ cv3, cv3 < 5 → ∀ cv4, cv4 < 64 → epX10_plot (fun cr cM ct => epX11_plot (fun c2 _ _ => eqN cr c2) cM ct 6 cv2 cv3 cv4) uM0 0 6 cv2 cv3 cv4 = true := by decide +kernel
set_option maxRecDepth 100000 in
theorem he_plot_7 : ∀ cv2, cv2 < 2 → ∀ cv3, cv3 < 5 → ∀ cv4, cv4 < 64 → epX10_plot (fun cr cM ct => epX11_plot (fun c2 _ _ => eqN cr c2) cM ct 7 cv2 cv3 cv4) uM0 0 7 cv2 cv3 cv4 = true := by decide +kernel
set_option maxRecDepth 100000 in
theorem he_plot_8 : ∀ cv2, cv2 < 2 → ∀ cv3, cv3 < 5 → ∀ cv4, cv4 < 64 → epX10_plot (fun cr cM ct => epX11_plot (fun c2 _ _ => eqN cr c2) cM ct 8 cv2 cv3 cv4) uM0 0 8 cv2 cv3 cv4 = true := by decide +kernel
set_option maxRecDepth 100000 in
theorem he_plot_9 : ∀ cv2, cv2 < 2 → ∀ cv3, cv3 < 5 → ∀ cv4, cv4 < 64 → epX10_plot (fun cr cM ct => epX11_plot (fun c2 _ _ => eqN cr c2) cM ct 9 cv2 cv3 cv4) uM0 0 9 cv2 cv3 cv4 = true := by decide +kernel
set_option maxRecDepth 100000 in
theorem he_plot_10 : ∀ cv2, cv2 < 2 → ∀ cv3, cv3 < 5 → ∀ cv4, cv4 < 64 → epX10_plot (fun cr cM ct => epX11_plot (fun c2 _ _ => eqN cr c2) cM ct 10 cv2 cv3 cv4) uM0 0 10 cv2 cv3 cv4 = true := by decide +kernel
set_option maxRecDepth 100000 in
theorem he_plot_11 : ∀ cv2, cv2 < 2 → ∀ cv3, cv3 < 5 → ∀ cv4, cv4 < 64 → epX10_plot (fun cr cM ct => epX11_plot (fun c2 _ _ => eqN cr c2) cM ct 11 cv2 cv3 cv4) uM0 0 11 cv2 cv3 cv4 = true := by decide +kernel
set_option maxRecDepth 100000 in
theorem he_plot_12 : ∀ cv2, cv2 < 2 → ∀ cv3, cv3 < 5 → ∀ cv4, cv4 < 64 → epX10_plot (fun cr cM ct => epX11_plot (fun c2 _ _ => eqN cr c2) cM ct 12 cv2 cv3 cv4) uM0 0 12 cv2 cv3 cv4 = true := by decide +kernel
set_option maxRecDepth 100000 in
theorem he_plot_13 : ∀ cv2, cv2 < 2 → ∀ cv3, cv3 < 5 → ∀ cv4, cv4 < 64 → epX10_plot (fun cr cM ct => epX11_plot (fun c2 _ _ => eqN cr c2) cM ct 13 cv2 cv3 cv4) uM0 0 13 cv2 cv3 cv4 = true := by decide +kernel
set_option maxRecDepth 100000 in
theorem he_plot_14 : ∀ cv2, cv2 < 2 → ∀ cv3, cv3 < 5 → ∀ cv4, cv4 < 64 → epX10_plot (fun cr cM ct => epX11_plot (fun c2 _ _ => eqN cr c2) cM ct 14 cv2 cv3 cv4) uM0 0 14 cv2 cv3 cv4 = true := by decide +kernel
set_option maxRecDepth 100000 in
theorem he_plot_15 : ∀ cv2, cv2 < 2 → ∀ cv3, cv3 < 5 → ∀ cv4, cv4 < 64 → epX10_plot (fun cr cM ct => epX11_plot (fun c2 _ _ => eqN cr c2) cM ct 15 cv2 cv3 cv4) uM0 0 15 cv2 cv3 cv4 = true := by decide +kernel
set_option maxRecDepth 100000 in
theorem he_plot_16 : ∀ cv2, cv2 < 2 → ∀ cv3, cv3 < 5 → ∀ cv4, cv4 < 64 → epX10_plot (fun cr cM ct => epX11_plot (fun c2 _ _ => eqN cr c2) cM ct 16 cv2 cv3 cv4) uM0 0 16 cv2 cv3 cv4 = true := by decide +kernel
set_option maxRecDepth 100000 in
theorem he_plot_17 : ∀ cv2, cv2 < 2 → ∀ cv3, cv3 < 5 → ∀ cv4, cv4 < 64 → epX10_plot (fun cr cM ct => epX11_plot (fun c2 _ _ => eqN cr c2) cM ct 17 cv2 cv3 cv4) uM0 0 17 cv2 cv3 cv4 = true := by decide +kernel
set_option maxRecDepth 100000 in
theorem he_plot_18 : ∀ cv2, cv2 < 2 → ∀ cv3, cv3 < 5 → ∀ cv4, cv4 < 64 → epX10_plot (fun cr cM ct => epX11_plot (fun c2 _ _ => eqN cr c2) cM ct 18 cv2 cv3 cv4) uM0 0 18 cv2 cv3 cv4 = true := by decide +kernel
set_option maxRecDepth 100000 in
theorem he_plot_19 : ∀ cv2, cv2 < 2 → ∀ cv3, cv3 < 5 → ∀ cv4, cv4 < 64 → epX10_plot (fun cr cM ct => epX11_plot (fun c2 _ _ => eqN cr c2) cM ct 19 cv2 cv3 cv4) uM0 0 19 cv2 cv3 cv4 = true := by decide +kernel
set_option maxRecDepth 100000 in
theorem he_plot_20 : ∀ cv2, cv2 < 2 → ∀ cv3, cv3 < 5 → ∀ cv4, cv4 < 64 → epX10_plot (fun cr cM ct => epX11_plot (fun c2 _ _ => eqN cr c2) cM ct 20 cv2 cv3 cv4) uM0 0 20 cv2 cv3 cv4 = true := by decide +kernel
set_option maxRecDepth 100000 in
theorem he_plot_21 : ∀ cv2, cv2 < 2 → ∀ cv3, cv3 < 5 → ∀ cv4, cv4 < 64 → epX10_plot (fun cr cM ct => epX11_plot (fun c2 _ _ => eqN cr c2) cM ct 21 cv2 cv3 cv4) uM0 0 21 cv2 cv3 cv4 = true := by decide +kernel
set_option maxRecDepth 100000 in
theorem he_plot_22 : ∀ cv2, cv2 < 2 → ∀ cv3, cv3 < 5 → ∀ cv4, cv4 < 64 → epX10_plot (fun cr cM ct => epX11_plot (fun c2 _ _ => eqN cr c2) cM ct 22 cv2 cv3 cv4) uM0 0 22 cv2 cv3 cv4 = true := by decide +kernel
set_option maxRecDepth 100000 in
theorem he_plot_23 : ∀ cv2, cv2 < 2 → ∀ cv3, cv3 < 5 → ∀ cv4, cv4 < 64 → epX10_plot (fun cr cM ct => epX11_plot (fun c2 _ _ => eqN cr c2) cM ct 23 cv2 cv3 cv4) uM0 0 23 cv2 cv3 cv4 = true := by decide +kernel
set_option maxHeartbeats 4000000 in
set_option maxRecDepth 20000 in
theorem p_plot (v1 v2 v3 v4 : Int32) (post1 : Int32 → MM → Int64 → Prop) (H : ∀ r1 M1 t1, (∀ post2 : Int32 → MM → Int64 → Prop, (∀ M2 t2, post2 r1 M2 t2) → wpX11_plot post2 M1 t1 v1 v2 v3 v4) → post1 r1 M1 t1) : wpX10_plot post1 M0 0 v1 v2 v3 v4 := by
  rcases tri v1 0 23 with hv1 | hv1 | hv1
  · skip
    try unfold wpX10_plot
    try unfold wpX7_lastMonth
    refine And.intro (by decide +kernel) ?_
    refine And.intro (by decide +kernel) ?_
    refine And.intro (by decide +kernel) ?_
    refine And.intro (by decide +kernel) ?_
    try unfold wpX5_cell
    refine ifp (by decide +kernel) ?_
    refine ifp (i_lt (k := 0) (by decide +kernel) (by omega)) ?_
    refine H _ _ _ (fun post2 h2 => ?_)
    try unfold wpX11_plot
    refine And.intro (by unfold vp_in; decide +kernel) ?_
    refine ifp (by decide +kernel) ?_
    try unfold wX11_plot_39
    try unfold wpX11_in
    refine ifp (lc_lt (k := 0) (by decide +kernel) (by rw [Int32.toInt_toInt64]; omega)) ?_
    refine ifp (by decide +kernel) ?_
    exact fin2 h2 (by first | rfl | decide +kernel)
  · skip
    rcases tri v2 0 1 with hv2 | hv2 | hv2
    · skip
      try unfold wpX10_plot
      try unfold wpX7_lastMonth
      refine And.intro (by decide +kernel) ?_
      refine And.intro (by decide +kernel) ?_
      refine And.intro (by decide +kernel) ?_
      refine And.intro (by decide +kernel) ?_
      try unfold wpX5_cell
      refine ifp (by decide +kernel) ?_
      refine ifn (i_nlt (k := 0) (by decide +kernel) (by omega)) ?_
      refine ifn (i_nge (k := 24) (by decide +kernel) (by omega)) ?_
      try unfold wpX1_isLot
      try unfold wpX10_isSlot
      try unfold wpX10_isBank
      refine ifp (i_lt (k := 0) (by decide +kernel) (by omega)) ?_
      refine ifp (by decide +kernel) ?_
      refine ifp (by decide +kernel) ?_
      refine ifp (by decide +kernel) ?_
      refine H _ _ _ (fun post2 h2 => ?_)
      try unfold wpX11_plot
      refine And.intro (by unfold vp_in; decide +kernel) ?_
      refine ifp (by decide +kernel) ?_
      try unfold wX11_plot_39
      try unfold wpX11_in
      refine ifn (lc_nlt (k := 0) (by decide +kernel) (by rw [Int32.toInt_toInt64]; omega)) ?_
      refine ifn (lc_ngt (k := 23) (by decide +kernel) (by rw [Int32.toInt_toInt64]; omega)) ?_
      refine ifn (by decide +kernel) ?_
      try unfold wpX11_isLot
      try unfold wpX11_isBank
      try unfold wpX11_in
      refine ifp (lc_lt (k := 0) (by decide +kernel) (by rw [Int32.toInt_toInt64]; omega)) ?_
      refine And.intro (by decide +kernel) ?_
      refine ifp (by decide +kernel) ?_
      refine ifp (by decide +kernel) ?_
      exact fin2 h2 (by first | rfl | decide +kernel)
    · skip
      rcases tri v3 0 4 with hv3 | hv3 | hv3
      · skip
        try unfold wpX10_plot
        try unfold wpX7_lastMonth
        refine And.intro (by decide +kernel) ?_
        refine And.intro (by decide +kernel) ?_
        refine And.intro (by decide +kernel) ?_
        refine And.intro (by decide +kernel) ?_
        try unfold wpX5_cell
        refine ifp (by decide +kernel) ?_
        refine ifn (i_nlt (k := 0) (by decide +kernel) (by omega)) ?_
        refine ifn (i_nge (k := 24) (by decide +kernel) (by omega)) ?_
        try unfold wpX1_isLot
        try unfold wpX10_isSlot
        try unfold wpX10_isBank
        refine ifn (i_nlt (k := 0) (by decide +kernel) (by omega)) ?_
        refine ifn (i_nge (k := 2) (by decide +kernel) (by omega)) ?_
        refine ifn (by decide +kernel) ?_
        refine ifp (i_lt (k := 0) (by decide +kernel) (by omega)) ?_
        refine ifp (by decide +kernel) ?_
        refine ifp (by decide +kernel) ?_
        refine H _ _ _ (fun post2 h2 => ?_)
        try unfold wpX11_plot
        refine And.intro (by unfold vp_in; decide +kernel) ?_
        refine ifp (by decide +kernel) ?_
        try unfold wX11_plot_39
        try unfold wpX11_in
        refine ifn (lc_nlt (k := 0) (by decide +kernel) (by rw [Int32.toInt_toInt64]; omega)) ?_
        refine ifn (lc_ngt (k := 23) (by decide +kernel) (by rw [Int32.toInt_toInt64]; omega)) ?_
        refine ifn (by decide +kernel) ?_
        try unfold wpX11_isLot
        try unfold wpX11_isBank
        try unfold wpX11_in
        refine ifn (lc_nlt (k := 0) (by decide +kernel) (by rw [Int32.toInt_toInt64]; omega)) ?_
        refine ifn (lc_ngt (k := 1) (by decide +kernel) (by rw [Int32.toInt_toInt64]; omega)) ?_
        refine And.intro (by decide +kernel) ?_
        refine ifn (by decide +kernel) ?_
        try unfold wpX11_in
        refine ifp (lc_lt (k := 0) (by decide +kernel) (by rw [Int32.toInt_toInt64]; omega)) ?_
        refine ifp (by decide +kernel) ?_
        refine ifp (by decide +kernel) ?_
        exact fin2 h2 (by first | rfl | decide +kernel)
      · skip
        rcases tri v4 0 63 with hv4 | hv4 | hv4
        · skip
          try unfold wpX10_plot
          try unfold wpX7_lastMonth
          refine And.intro (by decide +kernel) ?_
          refine And.intro (by decide +kernel) ?_
          refine And.intro (by decide +kernel) ?_
          refine And.intro (by decide +kernel) ?_
          try unfold wpX5_cell
          refine ifp (by decide +kernel) ?_
          refine ifn (i_nlt (k := 0) (by decide +kernel) (by omega)) ?_
          refine ifn (i_nge (k := 24) (by decide +kernel) (by omega)) ?_
          try unfold wpX1_isLot
          try unfold wpX10_isSlot
          try unfold wpX10_isBank
          refine ifn (i_nlt (k := 0) (by decide +kernel) (by omega)) ?_
          refine ifn (i_nge (k := 2) (by decide +kernel) (by omega)) ?_
          refine ifn (by decide +kernel) ?_
          refine ifn (i_nlt (k := 0) (by decide +kernel) (by omega)) ?_
          refine ifn (i_nge (k := 8) (by decide +kernel) (by omega)) ?_
          refine ifn (by decide +kernel) ?_
          refine And.intro (by decide +kernel) ?_
          refine ifn (i_nge (k := 5) (by decide +kernel) (by omega)) ?_
          refine ifn (by decide +kernel) ?_
          try unfold wpX10_isThing
          refine ifn (i_ne (k := 0) (by decide +kernel) (by omega)) ?_
          refine ifp (i_le (k := 0) (by decide +kernel) (by omega)) ?_
          refine ifp (by decide +kernel) ?_
          refine H _ _ _ (fun post2 h2 => ?_)
          try unfold wpX11_plot
          refine And.intro (by unfold vp_in; decide +kernel) ?_
          refine ifp (by decide +kernel) ?_
          try unfold wX11_plot_39
          try unfold wpX11_in
          refine ifn (lc_nlt (k := 0) (by decide +kernel) (by rw [Int32.toInt_toInt64]; omega)) ?_
          refine ifn (lc_ngt (k := 23) (by decide +kernel) (by rw [Int32.toInt_toInt64]; omega)) ?_
          refine ifn (by decide +kernel) ?_
          try unfold wpX11_isLot
          try unfold wpX11_isBank
          try unfold wpX11_in
          refine ifn (lc_nlt (k := 0) (by decide +kernel) (by rw [Int32.toInt_toInt64]; omega)) ?_
          refine ifn (lc_ngt (k := 1) (by decide +kernel) (by rw [Int32.toInt_toInt64]; omega)) ?_
          refine And.intro (by decide +kernel) ?_
          refine ifn (by decide +kernel) ?_
          try unfold wpX11_in
          refine ifn (lc_nlt (k := 0) (by decide +kernel) (by rw [Int32.toInt_toInt64]; omega)) ?_
          refine ifn (lc_ngt (k := 4) (by decide +kernel) (by rw [Int32.toInt_toInt64]; omega)) ?_
          refine ifn (by decide +kernel) ?_
          refine ifn (by decide +kernel) ?_
          try unfold wpX11_isThing
          refine ifn (i_ne (k := 0) (by decide +kernel) (by omega)) ?_
          try unfold wpX11_in
          refine ifp (lc_lt (k := 0) (by decide +kernel) (by rw [Int32.toInt_toInt64]; omega)) ?_
          refine ifp (by decide +kernel) ?_
          refine ifp (by decide +kernel) ?_
          exact fin2 h2 (by first | rfl | decide +kernel)
        · skip
          obtain ⟨cv1, rfl, hcv1⟩ := code_of (hi := 23) hv1 (by decide)
          obtain ⟨cv2, rfl, hcv2⟩ := code_of (hi := 1) hv2 (by decide)
          obtain ⟨cv3, rfl, hcv3⟩ := code_of (hi := 4) hv3 (by decide)
          obtain ⟨cv4, rfl, hcv4⟩ := code_of (hi := 63) hv4 (by decide)
          rcases (by omega : cv1 = 0 ∨ cv1 = 1 ∨ cv1 = 2 ∨ cv1 = 3 ∨ cv1 = 4 ∨ cv1 = 5 ∨ cv1 = 6 ∨ cv1 = 7 ∨ cv1 = 8 ∨ cv1 = 9 ∨ cv1 = 10 ∨ cv1 = 11 ∨ cv1 = 12 ∨ cv1 = 13 ∨ cv1 = 14 ∨ cv1 = 15 ∨ cv1 = 16 ∨ cv1 = 17 ∨ cv1 = 18 ∨ cv1 = 19 ∨ cv1 = 20 ∨ cv1 = 21 ∨ cv1 = 22 ∨ cv1 = 23) with h | h | h | h | h | h | h | h | h | h | h | h | h | h | h | h | h | h | h | h | h | h | h | h <;> subst h
          · exact ev_plot (he_plot_0 cv2 hcv2 cv3 hcv3 cv4 hcv4) post1 H
          · exact ev_plot (he_plot_1 cv2 hcv2 cv3 hcv3 cv4 hcv4) post1 H
          · exact ev_plot (he_plot_2 cv2 hcv2 cv3 hcv3 cv4 hcv4) post1 H
          · exact ev_plot (he_plot_3 cv2 hcv2 cv3 hcv3 cv4 hcv4) post1 H
          · exact ev_plot (he_plot_4 cv2 hcv2 cv3 hcv3 cv4 hcv4) post1 H
          · exact ev_plot (he_plot_5 cv2 hcv2 cv3 hcv3 cv4 hcv4) post1 H
          · exact ev_plot (he_plot_6 cv2 hcv2 cv3 hcv3 cv4 hcv4) post1 H
          · exact ev_plot (he_plot_7 cv2 hcv2 cv3 hcv3 cv4 hcv4) post1 H
          · exact ev_plot (he_plot_8 cv2 hcv2 cv3 hcv3 cv4 hcv4) post1 H
          · exact ev_plot (he_plot_9 cv2 hcv2 cv3 hcv3 cv4 hcv4) post1 H
          · exact ev_plot (he_plot_10 cv2 hcv2 cv3 hcv3 cv4 hcv4) post1 H
          · exact ev_plot (he_plot_11 cv2 hcv2 cv3 hcv3 cv4 hcv4) post1 H
          · exact ev_plot (he_plot_12 cv2 hcv2 cv3 hcv3 cv4 hcv4) post1 H
          · exact ev_plot (he_plot_13 cv2 hcv2 cv3 hcv3 cv4 hcv4) post1 H
          · exact ev_plot (he_plot_14 cv2 hcv2 cv3 hcv3 cv4 hcv4) post1 H
          · exact ev_plot (he_plot_15 cv2 hcv2 cv3 hcv3 cv4 hcv4) post1 H
          · exact ev_plot (he_plot_16 cv2 hcv2 cv3 hcv3 cv4 hcv4) post1 H
          · exact ev_plot (he_plot_17 cv2 hcv2 cv3 hcv3 cv4 hcv4) post1 H
          · exact ev_plot (he_plot_18 cv2 hcv2 cv3 hcv3 cv4 hcv4) post1 H
          · exact ev_plot (he_plot_19 cv2 hcv2 cv3 hcv3 cv4 hcv4) post1 H
          · exact ev_plot (he_plot_20 cv2 hcv2 cv3 hcv3 cv4 hcv4) post1 H
          · exact ev_plot (he_plot_21 cv2 hcv2 cv3 hcv3 cv4 hcv4) post1 H
          · exact ev_plot (he_plot_22 cv2 hcv2 cv3 hcv3 cv4 hcv4) post1 H
          · exact ev_plot (he_plot_23 cv2 hcv2 cv3 hcv3 cv4 hcv4) post1 H
        · skip
          try unfold wpX10_plot
          try unfold wpX7_lastMonth
          refine And.intro (by decide +kernel) ?_
          refine And.intro (by decide +kernel) ?_
          refine And.intro (by decide +kernel) ?_
          refine And.intro (by decide +kernel) ?_
          try unfold wpX5_cell
          refine ifp (by decide +kernel) ?_
          refine ifn (i_nlt (k := 0) (by decide +kernel) (by omega)) ?_
          refine ifn (i_nge (k := 24) (by decide +kernel) (by omega)) ?_
          try unfold wpX1_isLot
          try unfold wpX10_isSlot
          try unfold wpX10_isBank
          refine ifn (i_nlt (k := 0) (by decide +kernel) (by omega)) ?_
          refine ifn (i_nge (k := 2) (by decide +kernel) (by omega)) ?_
          refine ifn (by decide +kernel) ?_
          refine ifn (i_nlt (k := 0) (by decide +kernel) (by omega)) ?_
          refine ifn (i_nge (k := 8) (by decide +kernel) (by omega)) ?_
          refine ifn (by decide +kernel) ?_
          refine And.intro (by decide +kernel) ?_
          refine ifn (i_nge (k := 5) (by decide +kernel) (by omega)) ?_
          refine ifn (by decide +kernel) ?_
          try unfold wpX10_isThing
          refine ifn (i_ne (k := 0) (by decide +kernel) (by omega)) ?_
          refine ifn (i_nle (k := 0) (by decide +kernel) (by omega)) ?_
          refine ifp (i_ge (k := 64) (by decide +kernel) (by omega)) ?_
          refine ifp (by decide +kernel) ?_
          refine H _ _ _ (fun post2 h2 => ?_)
          try unfold wpX11_plot
          refine And.intro (by unfold vp_in; decide +kernel) ?_
          refine ifp (by decide +kernel) ?_
          try unfold wX11_plot_39
          try unfold wpX11_in
          refine ifn (lc_nlt (k := 0) (by decide +kernel) (by rw [Int32.toInt_toInt64]; omega)) ?_
          refine ifn (lc_ngt (k := 23) (by decide +kernel) (by rw [Int32.toInt_toInt64]; omega)) ?_
          refine ifn (by decide +kernel) ?_
          try unfold wpX11_isLot
          try unfold wpX11_isBank
          try unfold wpX11_in
          refine ifn (lc_nlt (k := 0) (by decide +kernel) (by rw [Int32.toInt_toInt64]; omega)) ?_
          refine ifn (lc_ngt (k := 1) (by decide +kernel) (by rw [Int32.toInt_toInt64]; omega)) ?_
          refine And.intro (by decide +kernel) ?_
          refine ifn (by decide +kernel) ?_
          try unfold wpX11_in
          refine ifn (lc_nlt (k := 0) (by decide +kernel) (by rw [Int32.toInt_toInt64]; omega)) ?_
          refine ifn (lc_ngt (k := 4) (by decide +kernel) (by rw [Int32.toInt_toInt64]; omega)) ?_
          refine ifn (by decide +kernel) ?_
          refine ifn (by decide +kernel) ?_
          try unfold wpX11_isThing
          refine ifn (i_ne (k := 0) (by decide +kernel) (by omega)) ?_
          try unfold wpX11_in
          refine ifn (lc_nlt (k := 0) (by decide +kernel) (by rw [Int32.toInt_toInt64]; omega)) ?_
          refine ifp (lc_gt (k := 63) (by decide +kernel) (by rw [Int32.toInt_toInt64]; omega)) ?_
          refine ifp (by decide +kernel) ?_
          refine ifp (by decide +kernel) ?_
          exact fin2 h2 (by first | rfl | decide +kernel)
      · skip
        try unfold wpX10_plot
        try unfold wpX7_lastMonth
        refine And.intro (by decide +kernel) ?_
        refine And.intro (by decide +kernel) ?_
        refine And.intro (by decide +kernel) ?_
        refine And.intro (by decide +kernel) ?_
        try unfold wpX5_cell
        refine ifp (by decide +kernel) ?_
        refine ifn (i_nlt (k := 0) (by decide +kernel) (by omega)) ?_
        refine ifn (i_nge (k := 24) (by decide +kernel) (by omega)) ?_
        try unfold wpX1_isLot
        try unfold wpX10_isSlot
        try unfold wpX10_isBank
        refine ifn (i_nlt (k := 0) (by decide +kernel) (by omega)) ?_
        refine ifn (i_nge (k := 2) (by decide +kernel) (by omega)) ?_
        refine ifn (by decide +kernel) ?_
        refine ifn (i_nlt (k := 0) (by decide +kernel) (by omega)) ?_
        refine ifs (fun hc => ?_) (fun hc => ?_)
        · have hk1 := i_ge_to (k := 8) (by decide +kernel) hc
          refine ifp (by decide +kernel) ?_
          refine ifp (by decide +kernel) ?_
          refine H _ _ _ (fun post2 h2 => ?_)
          try unfold wpX11_plot
          refine And.intro (by unfold vp_in; decide +kernel) ?_
          refine ifp (by decide +kernel) ?_
          try unfold wX11_plot_39
          try unfold wpX11_in
          refine ifn (lc_nlt (k := 0) (by decide +kernel) (by rw [Int32.toInt_toInt64]; omega)) ?_
          refine ifn (lc_ngt (k := 23) (by decide +kernel) (by rw [Int32.toInt_toInt64]; omega)) ?_
          refine ifn (by decide +kernel) ?_
          try unfold wpX11_isLot
          try unfold wpX11_isBank
          try unfold wpX11_in
          refine ifn (lc_nlt (k := 0) (by decide +kernel) (by rw [Int32.toInt_toInt64]; omega)) ?_
          refine ifn (lc_ngt (k := 1) (by decide +kernel) (by rw [Int32.toInt_toInt64]; omega)) ?_
          refine And.intro (by decide +kernel) ?_
          refine ifn (by decide +kernel) ?_
          try unfold wpX11_in
          refine ifn (lc_nlt (k := 0) (by decide +kernel) (by rw [Int32.toInt_toInt64]; omega)) ?_
          refine ifp (lc_gt (k := 4) (by decide +kernel) (by rw [Int32.toInt_toInt64]; omega)) ?_
          refine ifp (by decide +kernel) ?_
          refine ifp (by decide +kernel) ?_
          exact fin2 h2 (by first | rfl | decide +kernel)
        · have hk2 := i_nge_to (k := 8) (by decide +kernel) hc
          refine ifn (by decide +kernel) ?_
          refine And.intro (by decide +kernel) ?_
          refine ifp (i_ge (k := 5) (by decide +kernel) (by omega)) ?_
          refine ifp (by decide +kernel) ?_
          refine H _ _ _ (fun post2 h2 => ?_)
          try unfold wpX11_plot
          refine And.intro (by unfold vp_in; decide +kernel) ?_
          refine ifp (by decide +kernel) ?_
          try unfold wX11_plot_39
          try unfold wpX11_in
          refine ifn (lc_nlt (k := 0) (by decide +kernel) (by rw [Int32.toInt_toInt64]; omega)) ?_
          refine ifn (lc_ngt (k := 23) (by decide +kernel) (by rw [Int32.toInt_toInt64]; omega)) ?_
          refine ifn (by decide +kernel) ?_
          try unfold wpX11_isLot
          try unfold wpX11_isBank
          try unfold wpX11_in
          refine ifn (lc_nlt (k := 0) (by decide +kernel) (by rw [Int32.toInt_toInt64]; omega)) ?_
          refine ifn (lc_ngt (k := 1) (by decide +kernel) (by rw [Int32.toInt_toInt64]; omega)) ?_
          refine And.intro (by decide +kernel) ?_
          refine ifn (by decide +kernel) ?_
          try unfold wpX11_in
          refine ifn (lc_nlt (k := 0) (by decide +kernel) (by rw [Int32.toInt_toInt64]; omega)) ?_
          refine ifp (lc_gt (k := 4) (by decide +kernel) (by rw [Int32.toInt_toInt64]; omega)) ?_
          refine ifp (by decide +kernel) ?_
          refine ifp (by decide +kernel) ?_
          exact fin2 h2 (by first | rfl | decide +kernel)
    · skip
      try unfold wpX10_plot
      try unfold wpX7_lastMonth
      refine And.intro (by decide +kernel) ?_
      refine And.intro (by decide +kernel) ?_
      refine And.intro (by decide +kernel) ?_
      refine And.intro (by decide +kernel) ?_
      try unfold wpX5_cell
      refine ifp (by decide +kernel) ?_
      refine ifn (i_nlt (k := 0) (by decide +kernel) (by omega)) ?_
      refine ifn (i_nge (k := 24) (by decide +kernel) (by omega)) ?_
      try unfold wpX1_isLot
      try unfold wpX10_isSlot
      try unfold wpX10_isBank
      refine ifn (i_nlt (k := 0) (by decide +kernel) (by omega)) ?_
      refine ifp (i_ge (k := 2) (by decide +kernel) (by omega)) ?_
      refine ifp (by decide +kernel) ?_
      refine ifp (by decide +kernel) ?_
      refine ifp (by decide +kernel) ?_
      refine H _ _ _ (fun post2 h2 => ?_)
      try unfold wpX11_plot
      refine And.intro (by unfold vp_in; decide +kernel) ?_
      refine ifp (by decide +kernel) ?_
      try unfold wX11_plot_39
      try unfold wpX11_in
      refine ifn (lc_nlt (k := 0) (by decide +kernel) (by rw [Int32.toInt_toInt64]; omega)) ?_
      refine ifn (lc_ngt (k := 23) (by decide +kernel) (by rw [Int32.toInt_toInt64]; omega)) ?_
      refine ifn (by decide +kernel) ?_
      try unfold wpX11_isLot
      try unfold wpX11_isBank
      try unfold wpX11_in
      refine ifn (lc_nlt (k := 0) (by decide +kernel) (by rw [Int32.toInt_toInt64]; omega)) ?_
      refine ifp (lc_gt (k := 1) (by decide +kernel) (by rw [Int32.toInt_toInt64]; omega)) ?_
      refine And.intro (by decide +kernel) ?_
      refine ifp (by decide +kernel) ?_
      refine ifp (by decide +kernel) ?_
      exact fin2 h2 (by first | rfl | decide +kernel)
  · skip
    try unfold wpX10_plot
    try unfold wpX7_lastMonth
    refine And.intro (by decide +kernel) ?_
    refine And.intro (by decide +kernel) ?_
    refine And.intro (by decide +kernel) ?_
    refine And.intro (by decide +kernel) ?_
    try unfold wpX5_cell
    refine ifp (by decide +kernel) ?_
    refine ifn (i_nlt (k := 0) (by decide +kernel) (by omega)) ?_
    refine ifp (i_ge (k := 24) (by decide +kernel) (by omega)) ?_
    refine H _ _ _ (fun post2 h2 => ?_)
    try unfold wpX11_plot
    refine And.intro (by unfold vp_in; decide +kernel) ?_
    refine ifp (by decide +kernel) ?_
    try unfold wX11_plot_39
    try unfold wpX11_in
    refine ifn (lc_nlt (k := 0) (by decide +kernel) (by rw [Int32.toInt_toInt64]; omega)) ?_
    refine ifp (lc_gt (k := 23) (by decide +kernel) (by rw [Int32.toInt_toInt64]; omega)) ?_
    refine ifp (by decide +kernel) ?_
    exact fin2 h2 (by first | rfl | decide +kernel)
