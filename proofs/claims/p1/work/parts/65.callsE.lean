theorem ev_gain {cv1 cv2 cv3 : Nat} (he : epX10_gain (fun cr cM ct => epX11_gain (fun c2 _ _ => eqN cr c2) cM ct cv1 cv2 cv3) uM0 0 cv1 cv2 cv3 = true) (post1 : Int32 → MM → Int64 → Prop) (H : ∀ r1 M1 t1, (∀ post2 : Int32 → MM → Int64 → Prop, (∀ M2 t2, post2 r1 M2 t2) → wpX11_gain post2 M1 t1 (nI cv1) (nI cv2) (nI cv3)) → post1 r1 M1 t1) : wpX10_gain post1 M0 0 (nI cv1) (nI cv2) (nI cv3) :=
  spX10_gain (q := fun cr cM ct => epX11_gain (fun c2 _ _ => eqN cr c2) cM ct cv1 cv2 cv3) (fun r M tl cr cM ct hr hM ht h => H r M tl (fun post2 h2 => spX11_gain (q := fun c2 _ _ => eqN cr c2) (fun r2 M2 t2 cr2 cM2 ct2 hr2 _ _ hh => fin2 h2 ((c_eq hr hr2).mpr hh)) hM ht rfl rfl rfl h)) dM0 rfl rfl rfl rfl he
set_option maxRecDepth 100000 in
theorem he_gain : ∀ cv1, cv1 < 2 → ∀ cv2, cv2 < 5 → ∀ cv3, cv3 < 6 → epX10_gain (fun cr cM ct => epX11_gain (fun c2 _ _ => eqN cr c2) cM ct cv1 cv2 cv3) uM0 0 cv1 cv2 cv3 = true := by decide +kernel
set_option maxHeartbeats 4000000 in
set_option maxRecDepth 20000 in
theorem p_gain (v1 v2 v3 : Int32) (post1 : Int32 → MM → Int64 → Prop) (H : ∀ r1 M1 t1, (∀ post2 : Int32 → MM → Int64 → Prop, (∀ M2 t2, post2 r1 M2 t2) → wpX11_gain post2 M1 t1 v1 v2 v3) → post1 r1 M1 t1) : wpX10_gain post1 M0 0 v1 v2 v3 := by
  rcases tri v1 0 1 with hv1 | hv1 | hv1
  · skip
    try unfold wpX10_gain
    try unfold wpX1_isLot
    try unfold wpX10_isSlot
    try unfold wpX10_isBank
    refine ifp (i_lt (k := 0) (by decide +kernel) (by omega)) ?_
    refine ifp (by decide +kernel) ?_
    refine ifp (by decide +kernel) ?_
    refine ifp (by decide +kernel) ?_
    refine H _ _ _ (fun post2 h2 => ?_)
    try unfold wpX11_gain
    try unfold wpX11_isLot
    try unfold wpX11_isBank
    try unfold wpX11_in
    refine ifp (lc_lt (k := 0) (by decide +kernel) (by rw [Int32.toInt_toInt64]; omega)) ?_
    refine And.intro (by decide +kernel) ?_
    refine ifp (by decide +kernel) ?_
    refine ifp (by decide +kernel) ?_
    exact fin2 h2 (by first | rfl | decide +kernel)
  · skip
    rcases tri v2 0 4 with hv2 | hv2 | hv2
    · skip
      try unfold wpX10_gain
      try unfold wpX1_isLot
      try unfold wpX10_isSlot
      try unfold wpX10_isBank
      refine ifn (i_nlt (k := 0) (by decide +kernel) (by omega)) ?_
      refine ifn (i_nge (k := 2) (by decide +kernel) (by omega)) ?_
      refine ifn (by decide +kernel) ?_
      refine ifp (i_lt (k := 0) (by decide +kernel) (by omega)) ?_
      refine ifp (by decide +kernel) ?_
      refine ifp (by decide +kernel) ?_
      refine H _ _ _ (fun post2 h2 => ?_)
      try unfold wpX11_gain
      try unfold wpX11_isLot
      try unfold wpX11_isBank
      try unfold wpX11_in
      refine ifn (lc_nlt (k := 0) (by decide +kernel) (by rw [Int32.toInt_toInt64]; omega)) ?_
      refine ifn (lc_ngt (k := 1) (by decide +kernel) (by rw [Int32.toInt_toInt64]; omega)) ?_
      refine And.intro (by decide +kernel) ?_
      refine ifn (by decide +kernel) ?_
      try unfold wpX11_in
      refine ifp (lc_lt (k := 0) (by decide +kernel) (by rw [Int32.toInt_toInt64]; omega)) ?_
      refine ifp (by decide +kernel) ?_
      refine ifp (by decide +kernel) ?_
      exact fin2 h2 (by first | rfl | decide +kernel)
    · skip
      rcases tri v3 0 5 with hv3 | hv3 | hv3
      · skip
        try unfold wpX10_gain
        try unfold wpX1_isLot
        try unfold wpX10_isSlot
        try unfold wpX10_isBank
        refine ifn (i_nlt (k := 0) (by decide +kernel) (by omega)) ?_
        refine ifn (i_nge (k := 2) (by decide +kernel) (by omega)) ?_
        refine ifn (by decide +kernel) ?_
        refine ifn (i_nlt (k := 0) (by decide +kernel) (by omega)) ?_
        refine ifn (i_nge (k := 8) (by decide +kernel) (by omega)) ?_
        refine ifn (by decide +kernel) ?_
        refine And.intro (by decide +kernel) ?_
        refine ifn (i_nge (k := 5) (by decide +kernel) (by omega)) ?_
        refine ifn (by decide +kernel) ?_
        try unfold wpX10_isBuilt
        refine ifp (i_lt (k := 1) (by decide +kernel) (by omega)) ?_
        refine ifp (by decide +kernel) ?_
        refine H _ _ _ (fun post2 h2 => ?_)
        try unfold wpX11_gain
        try unfold wpX11_isLot
        try unfold wpX11_isBank
        try unfold wpX11_in
        refine ifn (lc_nlt (k := 0) (by decide +kernel) (by rw [Int32.toInt_toInt64]; omega)) ?_
        refine ifn (lc_ngt (k := 1) (by decide +kernel) (by rw [Int32.toInt_toInt64]; omega)) ?_
        refine And.intro (by decide +kernel) ?_
        refine ifn (by decide +kernel) ?_
        try unfold wpX11_in
        refine ifn (lc_nlt (k := 0) (by decide +kernel) (by rw [Int32.toInt_toInt64]; omega)) ?_
        refine ifn (lc_ngt (k := 4) (by decide +kernel) (by rw [Int32.toInt_toInt64]; omega)) ?_
        refine ifn (by decide +kernel) ?_
        refine ifn (by decide +kernel) ?_
        try unfold wpX11_in
        refine ifp (lc_lt (k := 1) (by decide +kernel) (by rw [Int32.toInt_toInt64]; omega)) ?_
        refine ifp (by decide +kernel) ?_
        exact fin2 h2 (by first | rfl | decide +kernel)
      · skip
        obtain ⟨cv1, rfl, hcv1⟩ := code_of (hi := 1) hv1 (by decide)
        obtain ⟨cv2, rfl, hcv2⟩ := code_of (hi := 4) hv2 (by decide)
        obtain ⟨cv3, rfl, hcv3⟩ := code_of (hi := 5) hv3 (by decide)
        exact ev_gain (he_gain cv1 hcv1 cv2 hcv2 cv3 hcv3) post1 H
      · skip
        try unfold wpX10_gain
        try unfold wpX1_isLot
        try unfold wpX10_isSlot
        try unfold wpX10_isBank
        refine ifn (i_nlt (k := 0) (by decide +kernel) (by omega)) ?_
        refine ifn (i_nge (k := 2) (by decide +kernel) (by omega)) ?_
        refine ifn (by decide +kernel) ?_
        refine ifn (i_nlt (k := 0) (by decide +kernel) (by omega)) ?_
        refine ifn (i_nge (k := 8) (by decide +kernel) (by omega)) ?_
        refine ifn (by decide +kernel) ?_
        refine And.intro (by decide +kernel) ?_
        refine ifn (i_nge (k := 5) (by decide +kernel) (by omega)) ?_
        refine ifn (by decide +kernel) ?_
        try unfold wpX10_isBuilt
        refine ifn (i_nlt (k := 1) (by decide +kernel) (by omega)) ?_
        refine ifp (i_ge (k := 6) (by decide +kernel) (by omega)) ?_
        refine ifp (by decide +kernel) ?_
        refine H _ _ _ (fun post2 h2 => ?_)
        try unfold wpX11_gain
        try unfold wpX11_isLot
        try unfold wpX11_isBank
        try unfold wpX11_in
        refine ifn (lc_nlt (k := 0) (by decide +kernel) (by rw [Int32.toInt_toInt64]; omega)) ?_
        refine ifn (lc_ngt (k := 1) (by decide +kernel) (by rw [Int32.toInt_toInt64]; omega)) ?_
        refine And.intro (by decide +kernel) ?_
        refine ifn (by decide +kernel) ?_
        try unfold wpX11_in
        refine ifn (lc_nlt (k := 0) (by decide +kernel) (by rw [Int32.toInt_toInt64]; omega)) ?_
        refine ifn (lc_ngt (k := 4) (by decide +kernel) (by rw [Int32.toInt_toInt64]; omega)) ?_
        refine ifn (by decide +kernel) ?_
        refine ifn (by decide +kernel) ?_
        try unfold wpX11_in
        refine ifn (lc_nlt (k := 1) (by decide +kernel) (by rw [Int32.toInt_toInt64]; omega)) ?_
        refine ifp (lc_gt (k := 5) (by decide +kernel) (by rw [Int32.toInt_toInt64]; omega)) ?_
        refine ifp (by decide +kernel) ?_
        exact fin2 h2 (by first | rfl | decide +kernel)
    · skip
      try unfold wpX10_gain
      try unfold wpX1_isLot
      try unfold wpX10_isSlot
      try unfold wpX10_isBank
      refine ifn (i_nlt (k := 0) (by decide +kernel) (by omega)) ?_
      refine ifn (i_nge (k := 2) (by decide +kernel) (by omega)) ?_
      refine ifn (by decide +kernel) ?_
      refine ifn (i_nlt (k := 0) (by decide +kernel) (by omega)) ?_
      refine ifs (fun hc => ?_) (fun hc => ?_)
      · have hk1 := i_ge_to (k := 8) (by decide +kernel) hc
        refine ifp (by decide +kernel) ?_
        refine ifp (by decide +kernel) ?_
        refine H _ _ _ (fun post2 h2 => ?_)
        try unfold wpX11_gain
        try unfold wpX11_isLot
        try unfold wpX11_isBank
        try unfold wpX11_in
        refine ifn (lc_nlt (k := 0) (by decide +kernel) (by rw [Int32.toInt_toInt64]; omega)) ?_
        refine ifn (lc_ngt (k := 1) (by decide +kernel) (by rw [Int32.toInt_toInt64]; omega)) ?_
        refine And.intro (by decide +kernel) ?_
        refine ifn (by decide +kernel) ?_
        try unfold wpX11_in
        refine ifn (lc_nlt (k := 0) (by decide +kernel) (by rw [Int32.toInt_toInt64]; omega)) ?_
        refine ifp (lc_gt (k := 4) (by decide +kernel) (by rw [Int32.toInt_toInt64]; omega)) ?_
        refine ifp (by decide +kernel) ?_
        refine ifp (by decide +kernel) ?_
        exact fin2 h2 (by first | rfl | decide +kernel)
      · have hk2 := i_nge_to (k := 8) (by decide +kernel) hc
        refine ifn (by decide +kernel) ?_
        refine And.intro (by decide +kernel) ?_
        refine ifp (i_ge (k := 5) (by decide +kernel) (by omega)) ?_
        refine ifp (by decide +kernel) ?_
        refine H _ _ _ (fun post2 h2 => ?_)
        try unfold wpX11_gain
        try unfold wpX11_isLot
        try unfold wpX11_isBank
        try unfold wpX11_in
        refine ifn (lc_nlt (k := 0) (by decide +kernel) (by rw [Int32.toInt_toInt64]; omega)) ?_
        refine ifn (lc_ngt (k := 1) (by decide +kernel) (by rw [Int32.toInt_toInt64]; omega)) ?_
        refine And.intro (by decide +kernel) ?_
        refine ifn (by decide +kernel) ?_
        try unfold wpX11_in
        refine ifn (lc_nlt (k := 0) (by decide +kernel) (by rw [Int32.toInt_toInt64]; omega)) ?_
        refine ifp (lc_gt (k := 4) (by decide +kernel) (by rw [Int32.toInt_toInt64]; omega)) ?_
        refine ifp (by decide +kernel) ?_
        refine ifp (by decide +kernel) ?_
        exact fin2 h2 (by first | rfl | decide +kernel)
  · skip
    try unfold wpX10_gain
    try unfold wpX1_isLot
    try unfold wpX10_isSlot
    try unfold wpX10_isBank
    refine ifn (i_nlt (k := 0) (by decide +kernel) (by omega)) ?_
    refine ifp (i_ge (k := 2) (by decide +kernel) (by omega)) ?_
    refine ifp (by decide +kernel) ?_
    refine ifp (by decide +kernel) ?_
    refine ifp (by decide +kernel) ?_
    refine H _ _ _ (fun post2 h2 => ?_)
    try unfold wpX11_gain
    try unfold wpX11_isLot
    try unfold wpX11_isBank
    try unfold wpX11_in
    refine ifn (lc_nlt (k := 0) (by decide +kernel) (by rw [Int32.toInt_toInt64]; omega)) ?_
    refine ifp (lc_gt (k := 1) (by decide +kernel) (by rw [Int32.toInt_toInt64]; omega)) ?_
    refine And.intro (by decide +kernel) ?_
    refine ifp (by decide +kernel) ?_
    refine ifp (by decide +kernel) ?_
    exact fin2 h2 (by first | rfl | decide +kernel)
theorem ev_begin {cv1 cv2 cv3 : Nat} (he : epX10_begin (fun cr cM ct => epX11_begin (fun c2 _ _ => eqN cr c2) cM ct cv1 cv2 cv3) uM0 0 cv1 cv2 cv3 = true) (post1 : Int32 → MM → Int64 → Prop) (H : ∀ r1 M1 t1, (∀ post2 : Int32 → MM → Int64 → Prop, (∀ M2 t2, post2 r1 M2 t2) → wpX11_begin post2 M1 t1 (nI cv1) (nI cv2) (nI cv3)) → post1 r1 M1 t1) : wpX10_begin post1 M0 0 (nI cv1) (nI cv2) (nI cv3) :=
  spX10_begin (q := fun cr cM ct => epX11_begin (fun c2 _ _ => eqN cr c2) cM ct cv1 cv2 cv3) (fun r M tl cr cM ct hr hM ht h => H r M tl (fun post2 h2 => spX11_begin (q := fun c2 _ _ => eqN cr c2) (fun r2 M2 t2 cr2 cM2 ct2 hr2 _ _ hh => fin2 h2 ((c_eq hr hr2).mpr hh)) hM ht rfl rfl rfl h)) dM0 rfl rfl rfl rfl he
set_option maxRecDepth 100000 in
theorem he_begin : ∀ cv1, cv1 < 2 → ∀ cv2, cv2 < 5 → ∀ cv3, cv3 < 2 → epX10_begin (fun cr cM ct => epX11_begin (fun c2 _ _ => eqN cr c2) cM ct cv1 cv2 cv3) uM0 0 cv1 cv2 cv3 = true := by decide +kernel
set_option maxHeartbeats 4000000 in
set_option maxRecDepth 20000 in
theorem p_begin (v1 v2 v3 : Int32) (post1 : Int32 → MM → Int64 → Prop) (H : ∀ r1 M1 t1, (∀ post2 : Int32 → MM → Int64 → Prop, (∀ M2 t2, post2 r1 M2 t2) → wpX11_begin post2 M1 t1 v1 v2 v3) → post1 r1 M1 t1) : wpX10_begin post1 M0 0 v1 v2 v3 := by
  rcases tri v1 0 1 with hv1 | hv1 | hv1
  · skip
    try unfold wpX10_begin
    try unfold wpX1_isLot
    try unfold wpX10_isSlot
    try unfold wpX10_isBank
    refine ifp (i_lt (k := 0) (by decide +kernel) (by omega)) ?_
    refine ifp (by decide +kernel) ?_
    refine ifp (by decide +kernel) ?_
    refine ifp (by decide +kernel) ?_
    refine H _ _ _ (fun post2 h2 => ?_)
    try unfold wpX11_begin
    try unfold wpX11_isLot
    try unfold wpX11_isBank
    try unfold wpX11_in
    refine ifp (lc_lt (k := 0) (by decide +kernel) (by rw [Int32.toInt_toInt64]; omega)) ?_
    refine And.intro (by decide +kernel) ?_
    refine ifp (by decide +kernel) ?_
    refine ifp (by decide +kernel) ?_
    exact fin2 h2 (by first | rfl | decide +kernel)
  · skip
    rcases tri v2 0 4 with hv2 | hv2 | hv2
    · skip
      try unfold wpX10_begin
      try unfold wpX1_isLot
      try unfold wpX10_isSlot
      try unfold wpX10_isBank
      refine ifn (i_nlt (k := 0) (by decide +kernel) (by omega)) ?_
      refine ifn (i_nge (k := 2) (by decide +kernel) (by omega)) ?_
      refine ifn (by decide +kernel) ?_
      refine ifp (i_lt (k := 0) (by decide +kernel) (by omega)) ?_
      refine ifp (by decide +kernel) ?_
      refine ifp (by decide +kernel) ?_
      refine H _ _ _ (fun post2 h2 => ?_)
      try unfold wpX11_begin
      try unfold wpX11_isLot
      try unfold wpX11_isBank
      try unfold wpX11_in
      refine ifn (lc_nlt (k := 0) (by decide +kernel) (by rw [Int32.toInt_toInt64]; omega)) ?_
      refine ifn (lc_ngt (k := 1) (by decide +kernel) (by rw [Int32.toInt_toInt64]; omega)) ?_
      refine And.intro (by decide +kernel) ?_
      refine ifn (by decide +kernel) ?_
      try unfold wpX11_in
      refine ifp (lc_lt (k := 0) (by decide +kernel) (by rw [Int32.toInt_toInt64]; omega)) ?_
      refine ifp (by decide +kernel) ?_
      refine ifp (by decide +kernel) ?_
      exact fin2 h2 (by first | rfl | decide +kernel)
    · skip
      rcases tri v3 0 1 with hv3 | hv3 | hv3
      · skip
        try unfold wpX10_begin
        try unfold wpX1_isLot
        try unfold wpX10_isSlot
        try unfold wpX10_isBank
        refine ifn (i_nlt (k := 0) (by decide +kernel) (by omega)) ?_
        refine ifn (i_nge (k := 2) (by decide +kernel) (by omega)) ?_
        refine ifn (by decide +kernel) ?_
        refine ifn (i_nlt (k := 0) (by decide +kernel) (by omega)) ?_
        refine ifn (i_nge (k := 8) (by decide +kernel) (by omega)) ?_
        refine ifn (by decide +kernel) ?_
        refine And.intro (by decide +kernel) ?_
        refine ifn (i_nge (k := 5) (by decide +kernel) (by omega)) ?_
        refine ifn (by decide +kernel) ?_
        refine ifp (i_lt (k := 0) (by decide +kernel) (by omega)) ?_
        refine H _ _ _ (fun post2 h2 => ?_)
        try unfold wpX11_begin
        try unfold wpX11_isLot
        try unfold wpX11_isBank
        try unfold wpX11_in
        refine ifn (lc_nlt (k := 0) (by decide +kernel) (by rw [Int32.toInt_toInt64]; omega)) ?_
        refine ifn (lc_ngt (k := 1) (by decide +kernel) (by rw [Int32.toInt_toInt64]; omega)) ?_
        refine And.intro (by decide +kernel) ?_
        refine ifn (by decide +kernel) ?_
        try unfold wpX11_in
        refine ifn (lc_nlt (k := 0) (by decide +kernel) (by rw [Int32.toInt_toInt64]; omega)) ?_
        refine ifn (lc_ngt (k := 4) (by decide +kernel) (by rw [Int32.toInt_toInt64]; omega)) ?_
        refine ifn (by decide +kernel) ?_
        refine ifn (by decide +kernel) ?_
        try unfold wpX11_in
        refine ifp (lc_lt (k := 0) (by decide +kernel) (by rw [Int32.toInt_toInt64]; omega)) ?_
        refine ifp (by decide +kernel) ?_
        exact fin2 h2 (by first | rfl | decide +kernel)
      · skip
        obtain ⟨cv1, rfl, hcv1⟩ := code_of (hi := 1) hv1 (by decide)
        obtain ⟨cv2, rfl, hcv2⟩ := code_of (hi := 4) hv2 (by decide)
        obtain ⟨cv3, rfl, hcv3⟩ := code_of (hi := 1) hv3 (by decide)
        exact ev_begin (he_begin cv1 hcv1 cv2 hcv2 cv3 hcv3) post1 H
      · skip
        try unfold wpX10_begin
        try unfold wpX1_isLot
        try unfold wpX10_isSlot
        try unfold wpX10_isBank
        refine ifn (i_nlt (k := 0) (by decide +kernel) (by omega)) ?_
        refine ifn (i_nge (k := 2) (by decide +kernel) (by omega)) ?_
        refine ifn (by decide +kernel) ?_
        refine ifn (i_nlt (k := 0) (by decide +kernel) (by omega)) ?_
        refine ifn (i_nge (k := 8) (by decide +kernel) (by omega)) ?_
        refine ifn (by decide +kernel) ?_
        refine And.intro (by decide +kernel) ?_
        refine ifn (i_nge (k := 5) (by decide +kernel) (by omega)) ?_
        refine ifn (by decide +kernel) ?_
        refine ifn (i_nlt (k := 0) (by decide +kernel) (by omega)) ?_
        refine ifn (i_nle (k := 1) (by decide +kernel) (by omega)) ?_
        refine H _ _ _ (fun post2 h2 => ?_)
        try unfold wpX11_begin
        try unfold wpX11_isLot
        try unfold wpX11_isBank
        try unfold wpX11_in
        refine ifn (lc_nlt (k := 0) (by decide +kernel) (by rw [Int32.toInt_toInt64]; omega)) ?_
        refine ifn (lc_ngt (k := 1) (by decide +kernel) (by rw [Int32.toInt_toInt64]; omega)) ?_
        refine And.intro (by decide +kernel) ?_
        refine ifn (by decide +kernel) ?_
        try unfold wpX11_in
        refine ifn (lc_nlt (k := 0) (by decide +kernel) (by rw [Int32.toInt_toInt64]; omega)) ?_
        refine ifn (lc_ngt (k := 4) (by decide +kernel) (by rw [Int32.toInt_toInt64]; omega)) ?_
        refine ifn (by decide +kernel) ?_
        refine ifn (by decide +kernel) ?_
        try unfold wpX11_in
        refine ifn (lc_nlt (k := 0) (by decide +kernel) (by rw [Int32.toInt_toInt64]; omega)) ?_
        refine ifp (lc_gt (k := 1) (by decide +kernel) (by rw [Int32.toInt_toInt64]; omega)) ?_
        refine ifp (by decide +kernel) ?_
        exact fin2 h2 (by first | rfl | decide +kernel)
    · skip
      try unfold wpX10_begin
      try unfold wpX1_isLot
      try unfold wpX10_isSlot
      try unfold wpX10_isBank
      refine ifn (i_nlt (k := 0) (by decide +kernel) (by omega)) ?_
      refine ifn (i_nge (k := 2) (by decide +kernel) (by omega)) ?_
      refine ifn (by decide +kernel) ?_
      refine ifn (i_nlt (k := 0) (by decide +kernel) (by omega)) ?_
      refine ifs (fun hc => ?_) (fun hc => ?_)
      · have hk1 := i_ge_to (k := 8) (by decide +kernel) hc
        refine ifp (by decide +kernel) ?_
        refine ifp (by decide +kernel) ?_
        refine H _ _ _ (fun post2 h2 => ?_)
        try unfold wpX11_begin
        try unfold wpX11_isLot
        try unfold wpX11_isBank
        try unfold wpX11_in
        refine ifn (lc_nlt (k := 0) (by decide +kernel) (by rw [Int32.toInt_toInt64]; omega)) ?_
        refine ifn (lc_ngt (k := 1) (by decide +kernel) (by rw [Int32.toInt_toInt64]; omega)) ?_
        refine And.intro (by decide +kernel) ?_
        refine ifn (by decide +kernel) ?_
        try unfold wpX11_in
        refine ifn (lc_nlt (k := 0) (by decide +kernel) (by rw [Int32.toInt_toInt64]; omega)) ?_
        refine ifp (lc_gt (k := 4) (by decide +kernel) (by rw [Int32.toInt_toInt64]; omega)) ?_
        refine ifp (by decide +kernel) ?_
        refine ifp (by decide +kernel) ?_
        exact fin2 h2 (by first | rfl | decide +kernel)
      · have hk2 := i_nge_to (k := 8) (by decide +kernel) hc
        refine ifn (by decide +kernel) ?_
        refine And.intro (by decide +kernel) ?_
        refine ifp (i_ge (k := 5) (by decide +kernel) (by omega)) ?_
        refine ifp (by decide +kernel) ?_
        refine H _ _ _ (fun post2 h2 => ?_)
        try unfold wpX11_begin
        try unfold wpX11_isLot
        try unfold wpX11_isBank
        try unfold wpX11_in
        refine ifn (lc_nlt (k := 0) (by decide +kernel) (by rw [Int32.toInt_toInt64]; omega)) ?_
        refine ifn (lc_ngt (k := 1) (by decide +kernel) (by rw [Int32.toInt_toInt64]; omega)) ?_
        refine And.intro (by decide +kernel) ?_
        refine ifn (by decide +kernel) ?_
        try unfold wpX11_in
        refine ifn (lc_nlt (k := 0) (by decide +kernel) (by rw [Int32.toInt_toInt64]; omega)) ?_
        refine ifp (lc_gt (k := 4) (by decide +kernel) (by rw [Int32.toInt_toInt64]; omega)) ?_
        refine ifp (by decide +kernel) ?_
        refine ifp (by decide +kernel) ?_
        exact fin2 h2 (by first | rfl | decide +kernel)
  · skip
    try unfold wpX10_begin
    try unfold wpX1_isLot
    try unfold wpX10_isSlot
    try unfold wpX10_isBank
    refine ifn (i_nlt (k := 0) (by decide +kernel) (by omega)) ?_
    refine ifp (i_ge (k := 2) (by decide +kernel) (by omega)) ?_
    refine ifp (by decide +kernel) ?_
    refine ifp (by decide +kernel) ?_
    refine ifp (by decide +kernel) ?_
    refine H _ _ _ (fun post2 h2 => ?_)
    try unfold wpX11_begin
    try unfold wpX11_isLot
    try unfold wpX11_isBank
    try unfold wpX11_in
    refine ifn (lc_nlt (k := 0) (by decide +kernel) (by rw [Int32.toInt_toInt64]; omega)) ?_
    refine ifp (lc_gt (k := 1) (by decide +kernel) (by rw [Int32.toInt_toInt64]; omega)) ?_
    refine And.intro (by decide +kernel) ?_
    refine ifp (by decide +kernel) ?_
    refine ifp (by decide +kernel) ?_
    exact fin2 h2 (by first | rfl | decide +kernel)
theorem ev_waits {cv1 cv2 : Nat} (he : epX10_waits (fun cr cM ct => epX11_waits (fun c2 _ _ => eqN cr c2) cM ct cv1 cv2) uM0 0 cv1 cv2 = true) (post1 : Int32 → MM → Int64 → Prop) (H : ∀ r1 M1 t1, (∀ post2 : Int32 → MM → Int64 → Prop, (∀ M2 t2, post2 r1 M2 t2) → wpX11_waits post2 M1 t1 (nI cv1) (nI cv2)) → post1 r1 M1 t1) : wpX10_waits post1 M0 0 (nI cv1) (nI cv2) :=
  spX10_waits (q := fun cr cM ct => epX11_waits (fun c2 _ _ => eqN cr c2) cM ct cv1 cv2) (fun r M tl cr cM ct hr hM ht h => H r M tl (fun post2 h2 => spX11_waits (q := fun c2 _ _ => eqN cr c2) (fun r2 M2 t2 cr2 cM2 ct2 hr2 _ _ hh => fin2 h2 ((c_eq hr hr2).mpr hh)) hM ht rfl rfl h)) dM0 rfl rfl rfl he
set_option maxRecDepth 100000 in
theorem he_waits : ∀ cv1, cv1 < 2 → ∀ cv2, cv2 < 5 → epX10_waits (fun cr cM ct => epX11_waits (fun c2 _ _ => eqN cr c2) cM ct cv1 cv2) uM0 0 cv1 cv2 = true := by decide +kernel
set_option maxHeartbeats 4000000 in
set_option maxRecDepth 20000 in
theorem p_waits (v1 v2 : Int32) (post1 : Int32 → MM → Int64 → Prop) (H : ∀ r1 M1 t1, (∀ post2 : Int32 → MM → Int64 → Prop, (∀ M2 t2, post2 r1 M2 t2) → wpX11_waits post2 M1 t1 v1 v2) → post1 r1 M1 t1) : wpX10_waits post1 M0 0 v1 v2 := by
  rcases tri v1 0 1 with hv1 | hv1 | hv1
  · skip
    try unfold wpX10_waits
    try unfold wpX1_isLot
    try unfold wpX10_isSlot
    try unfold wpX10_isBank
    refine ifp (i_lt (k := 0) (by decide +kernel) (by omega)) ?_
    refine ifp (by decide +kernel) ?_
    refine ifp (by decide +kernel) ?_
    refine ifp (by decide +kernel) ?_
    refine H _ _ _ (fun post2 h2 => ?_)
    try unfold wpX11_waits
    try unfold wpX11_isLot
    try unfold wpX11_isBank
    try unfold wpX11_in
    refine ifp (lc_lt (k := 0) (by decide +kernel) (by rw [Int32.toInt_toInt64]; omega)) ?_
    refine And.intro (by decide +kernel) ?_
    refine ifp (by decide +kernel) ?_
    refine ifp (by decide +kernel) ?_
    exact fin2 h2 (by first | rfl | decide +kernel)
  · skip
    rcases tri v2 0 4 with hv2 | hv2 | hv2
    · skip
      try unfold wpX10_waits
      try unfold wpX1_isLot
      try unfold wpX10_isSlot
      try unfold wpX10_isBank
      refine ifn (i_nlt (k := 0) (by decide +kernel) (by omega)) ?_
      refine ifn (i_nge (k := 2) (by decide +kernel) (by omega)) ?_
      refine ifn (by decide +kernel) ?_
      refine ifp (i_lt (k := 0) (by decide +kernel) (by omega)) ?_
      refine ifp (by decide +kernel) ?_
      refine ifp (by decide +kernel) ?_
      refine H _ _ _ (fun post2 h2 => ?_)
      try unfold wpX11_waits
      try unfold wpX11_isLot
      try unfold wpX11_isBank
      try unfold wpX11_in
      refine ifn (lc_nlt (k := 0) (by decide +kernel) (by rw [Int32.toInt_toInt64]; omega)) ?_
      refine ifn (lc_ngt (k := 1) (by decide +kernel) (by rw [Int32.toInt_toInt64]; omega)) ?_
      refine And.intro (by decide +kernel) ?_
      refine ifn (by decide +kernel) ?_
      try unfold wpX11_in
      refine ifp (lc_lt (k := 0) (by decide +kernel) (by rw [Int32.toInt_toInt64]; omega)) ?_
      refine ifp (by decide +kernel) ?_
      refine ifp (by decide +kernel) ?_
      exact fin2 h2 (by first | rfl | decide +kernel)
    · skip
      obtain ⟨cv1, rfl, hcv1⟩ := code_of (hi := 1) hv1 (by decide)
      obtain ⟨cv2, rfl, hcv2⟩ := code_of (hi := 4) hv2 (by decide)
      exact ev_waits (he_waits cv1 hcv1 cv2 hcv2) post1 H
    · skip
      try unfold wpX10_waits
      try unfold wpX1_isLot
      try unfold wpX10_isSlot
      try unfold wpX10_isBank
      refine ifn (i_nlt (k := 0) (by decide +kernel) (by omega)) ?_
      refine ifn (i_nge (k := 2) (by decide +kernel) (by omega)) ?_
      refine ifn (by decide +kernel) ?_
      refine ifn (i_nlt (k := 0) (by decide +kernel) (by omega)) ?_
      refine ifs (fun hc => ?_) (fun hc => ?_)
      · have hk1 := i_ge_to (k := 8) (by decide +kernel) hc
        refine ifp (by decide +kernel) ?_
        refine ifp (by decide +kernel) ?_
        refine H _ _ _ (fun post2 h2 => ?_)
        try unfold wpX11_waits
        try unfold wpX11_isLot
        try unfold wpX11_isBank
        try unfold wpX11_in
        refine ifn (lc_nlt (k := 0) (by decide +kernel) (by rw [Int32.toInt_toInt64]; omega)) ?_
        refine ifn (lc_ngt (k := 1) (by decide +kernel) (by rw [Int32.toInt_toInt64]; omega)) ?_
        refine And.intro (by decide +kernel) ?_
        refine ifn (by decide +kernel) ?_
        try unfold wpX11_in
        refine ifn (lc_nlt (k := 0) (by decide +kernel) (by rw [Int32.toInt_toInt64]; omega)) ?_
        refine ifp (lc_gt (k := 4) (by decide +kernel) (by rw [Int32.toInt_toInt64]; omega)) ?_
        refine ifp (by decide +kernel) ?_
        refine ifp (by decide +kernel) ?_
        exact fin2 h2 (by first | rfl | decide +kernel)
      · have hk2 := i_nge_to (k := 8) (by decide +kernel) hc
        refine ifn (by decide +kernel) ?_
        refine And.intro (by decide +kernel) ?_
        refine ifp (i_ge (k := 5) (by decide +kernel) (by omega)) ?_
        refine ifp (by decide +kernel) ?_
        refine H _ _ _ (fun post2 h2 => ?_)
        try unfold wpX11_waits
        try unfold wpX11_isLot
        try unfold wpX11_isBank
        try unfold wpX11_in
        refine ifn (lc_nlt (k := 0) (by decide +kernel) (by rw [Int32.toInt_toInt64]; omega)) ?_
        refine ifn (lc_ngt (k := 1) (by decide +kernel) (by rw [Int32.toInt_toInt64]; omega)) ?_
        refine And.intro (by decide +kernel) ?_
        refine ifn (by decide +kernel) ?_
        try unfold wpX11_in
        refine ifn (lc_nlt (k := 0) (by decide +kernel) (by rw [Int32.toInt_toInt64]; omega)) ?_
        refine ifp (lc_gt (k := 4) (by decide +kernel) (by rw [Int32.toInt_toInt64]; omega)) ?_
        refine ifp (by decide +kernel) ?_
        refine ifp (by decide +kernel) ?_
        exact fin2 h2 (by first | rfl | decide +kernel)
  · skip
    try unfold wpX10_waits
    try unfold wpX1_isLot
    try unfold wpX10_isSlot
    try unfold wpX10_isBank
    refine ifn (i_nlt (k := 0) (by decide +kernel) (by omega)) ?_
    refine ifp (i_ge (k := 2) (by decide +kernel) (by omega)) ?_
    refine ifp (by decide +kernel) ?_
    refine ifp (by decide +kernel) ?_
    refine ifp (by decide +kernel) ?_
    refine H _ _ _ (fun post2 h2 => ?_)
    try unfold wpX11_waits
    try unfold wpX11_isLot
    try unfold wpX11_isBank
    try unfold wpX11_in
    refine ifn (lc_nlt (k := 0) (by decide +kernel) (by rw [Int32.toInt_toInt64]; omega)) ?_
    refine ifp (lc_gt (k := 1) (by decide +kernel) (by rw [Int32.toInt_toInt64]; omega)) ?_
    refine And.intro (by decide +kernel) ?_
    refine ifp (by decide +kernel) ?_
    refine ifp (by decide +kernel) ?_
    exact fin2 h2 (by first | rfl | decide +kernel)
theorem ev_vex {cv1 cv2 : Nat} (he : epX10_vex (fun cr cM ct => epX11_vex (fun c2 _ _ => eqN cr c2) cM ct cv1 cv2) uM0 0 cv1 cv2 = true) (post1 : Int32 → MM → Int64 → Prop) (H : ∀ r1 M1 t1, (∀ post2 : Int32 → MM → Int64 → Prop, (∀ M2 t2, post2 r1 M2 t2) → wpX11_vex post2 M1 t1 (nI cv1) (nI cv2)) → post1 r1 M1 t1) : wpX10_vex post1 M0 0 (nI cv1) (nI cv2) :=
  spX10_vex (q := fun cr cM ct => epX11_vex (fun c2 _ _ => eqN cr c2) cM ct cv1 cv2) (fun r M tl cr cM ct hr hM ht h => H r M tl (fun post2 h2 => spX11_vex (q := fun c2 _ _ => eqN cr c2) (fun r2 M2 t2 cr2 cM2 ct2 hr2 _ _ hh => fin2 h2 ((c_eq hr hr2).mpr hh)) hM ht rfl rfl h)) dM0 rfl rfl rfl he
set_option maxRecDepth 100000 in
theorem he_vex : ∀ cv1, cv1 < 2 → ∀ cv2, cv2 < 3 → epX10_vex (fun cr cM ct => epX11_vex (fun c2 _ _ => eqN cr c2) cM ct cv1 cv2) uM0 0 cv1 cv2 = true := by decide +kernel
set_option maxHeartbeats 4000000 in
set_option maxRecDepth 20000 in
theorem p_vex (v1 v2 : Int32) (post1 : Int32 → MM → Int64 → Prop) (H : ∀ r1 M1 t1, (∀ post2 : Int32 → MM → Int64 → Prop, (∀ M2 t2, post2 r1 M2 t2) → wpX11_vex post2 M1 t1 v1 v2) → post1 r1 M1 t1) : wpX10_vex post1 M0 0 v1 v2 := by
  rcases tri v1 0 1 with hv1 | hv1 | hv1
  · skip
    try unfold wpX10_vex
    try unfold wpX10_isBank
    refine ifp (i_lt (k := 0) (by decide +kernel) (by omega)) ?_
    refine ifp (by decide +kernel) ?_
    refine H _ _ _ (fun post2 h2 => ?_)
    try unfold wpX11_vex
    try unfold wpX11_isBank
    try unfold wpX11_in
    refine ifp (lc_lt (k := 0) (by decide +kernel) (by rw [Int32.toInt_toInt64]; omega)) ?_
    refine And.intro (by decide +kernel) ?_
    refine ifp (by decide +kernel) ?_
    exact fin2 h2 (by first | rfl | decide +kernel)
  · skip
    rcases tri v2 0 2 with hv2 | hv2 | hv2
    · skip
      try unfold wpX10_vex
      try unfold wpX10_isBank
      refine ifn (i_nlt (k := 0) (by decide +kernel) (by omega)) ?_
      refine ifn (i_nge (k := 2) (by decide +kernel) (by omega)) ?_
      refine ifn (by decide +kernel) ?_
      refine ifp (i_lt (k := 0) (by decide +kernel) (by omega)) ?_
      refine H _ _ _ (fun post2 h2 => ?_)
      try unfold wpX11_vex
      try unfold wpX11_isBank
      try unfold wpX11_in
      refine ifn (lc_nlt (k := 0) (by decide +kernel) (by rw [Int32.toInt_toInt64]; omega)) ?_
      refine ifn (lc_ngt (k := 1) (by decide +kernel) (by rw [Int32.toInt_toInt64]; omega)) ?_
      refine And.intro (by decide +kernel) ?_
      refine ifn (by decide +kernel) ?_
      try unfold wpX11_in
      refine ifp (lc_lt (k := 0) (by decide +kernel) (by rw [Int32.toInt_toInt64]; omega)) ?_
      refine ifp (by decide +kernel) ?_
      exact fin2 h2 (by first | rfl | decide +kernel)
    · skip
      obtain ⟨cv1, rfl, hcv1⟩ := code_of (hi := 1) hv1 (by decide)
      obtain ⟨cv2, rfl, hcv2⟩ := code_of (hi := 2) hv2 (by decide)
      exact ev_vex (he_vex cv1 hcv1 cv2 hcv2) post1 H
    · skip
      try unfold wpX10_vex
      try unfold wpX10_isBank
      refine ifn (i_nlt (k := 0) (by decide +kernel) (by omega)) ?_
      refine ifn (i_nge (k := 2) (by decide +kernel) (by omega)) ?_
      refine ifn (by decide +kernel) ?_
      refine ifn (i_nlt (k := 0) (by decide +kernel) (by omega)) ?_
      refine ifn (i_nle (k := 2) (by decide +kernel) (by omega)) ?_
      refine H _ _ _ (fun post2 h2 => ?_)
      try unfold wpX11_vex
      try unfold wpX11_isBank
      try unfold wpX11_in
      refine ifn (lc_nlt (k := 0) (by decide +kernel) (by rw [Int32.toInt_toInt64]; omega)) ?_
      refine ifn (lc_ngt (k := 1) (by decide +kernel) (by rw [Int32.toInt_toInt64]; omega)) ?_
      refine And.intro (by decide +kernel) ?_
      refine ifn (by decide +kernel) ?_
      try unfold wpX11_in
      refine ifn (lc_nlt (k := 0) (by decide +kernel) (by rw [Int32.toInt_toInt64]; omega)) ?_
      refine ifp (lc_gt (k := 2) (by decide +kernel) (by rw [Int32.toInt_toInt64]; omega)) ?_
      refine ifp (by decide +kernel) ?_
      exact fin2 h2 (by first | rfl | decide +kernel)
  · skip
    try unfold wpX10_vex
    try unfold wpX10_isBank
    refine ifn (i_nlt (k := 0) (by decide +kernel) (by omega)) ?_
    refine ifp (i_ge (k := 2) (by decide +kernel) (by omega)) ?_
    refine ifp (by decide +kernel) ?_
    refine H _ _ _ (fun post2 h2 => ?_)
    try unfold wpX11_vex
    try unfold wpX11_isBank
    try unfold wpX11_in
    refine ifn (lc_nlt (k := 0) (by decide +kernel) (by rw [Int32.toInt_toInt64]; omega)) ?_
    refine ifp (lc_gt (k := 1) (by decide +kernel) (by rw [Int32.toInt_toInt64]; omega)) ?_
    refine And.intro (by decide +kernel) ?_
    refine ifp (by decide +kernel) ?_
    exact fin2 h2 (by first | rfl | decide +kernel)
theorem ev_want {cv1 cv2 : Nat} (he : epX10_want (fun cr cM ct => epX11_want (fun c2 _ _ => eqN cr c2) cM ct cv1 cv2) uM0 0 cv1 cv2 = true) (post1 : Int32 → MM → Int64 → Prop) (H : ∀ r1 M1 t1, (∀ post2 : Int32 → MM → Int64 → Prop, (∀ M2 t2, post2 r1 M2 t2) → wpX11_want post2 M1 t1 (nI cv1) (nI cv2)) → post1 r1 M1 t1) : wpX10_want post1 M0 0 (nI cv1) (nI cv2) :=
  spX10_want (q := fun cr cM ct => epX11_want (fun c2 _ _ => eqN cr c2) cM ct cv1 cv2) (fun r M tl cr cM ct hr hM ht h => H r M tl (fun post2 h2 => spX11_want (q := fun c2 _ _ => eqN cr c2) (fun r2 M2 t2 cr2 cM2 ct2 hr2 _ _ hh => fin2 h2 ((c_eq hr hr2).mpr hh)) hM ht rfl rfl h)) dM0 rfl rfl rfl he
set_option maxRecDepth 100000 in
theorem he_want : ∀ cv1, cv1 < 5 → ∀ cv2, cv2 < 6 → epX10_want (fun cr cM ct => epX11_want (fun c2 _ _ => eqN cr c2) cM ct cv1 cv2) uM0 0 cv1 cv2 = true := by decide +kernel
set_option maxHeartbeats 4000000 in
set_option maxRecDepth 20000 in
theorem p_want (v1 v2 : Int32) (post1 : Int32 → MM → Int64 → Prop) (H : ∀ r1 M1 t1, (∀ post2 : Int32 → MM → Int64 → Prop, (∀ M2 t2, post2 r1 M2 t2) → wpX11_want post2 M1 t1 v1 v2) → post1 r1 M1 t1) : wpX10_want post1 M0 0 v1 v2 := by
  rcases tri v1 0 4 with hv1 | hv1 | hv1
  · skip
    try unfold wpX10_want
    try unfold wpX1_isLot
    try unfold wpX10_isSlot
    try unfold wpX10_isBank
    refine ifn (by decide +kernel) ?_
    refine ifn (by decide +kernel) ?_
    refine ifn (by decide +kernel) ?_
    refine ifp (i_lt (k := 0) (by decide +kernel) (by omega)) ?_
    refine ifp (by decide +kernel) ?_
    refine ifp (by decide +kernel) ?_
    refine H _ _ _ (fun post2 h2 => ?_)
    try unfold wpX11_want
    try unfold wpX11_isLot
    try unfold wpX11_isBank
    try unfold wpX11_in
    refine ifn (by decide +kernel) ?_
    refine ifn (by decide +kernel) ?_
    refine And.intro (by decide +kernel) ?_
    refine ifn (by decide +kernel) ?_
    try unfold wpX11_in
    refine ifp (lc_lt (k := 0) (by decide +kernel) (by rw [Int32.toInt_toInt64]; omega)) ?_
    refine ifp (by decide +kernel) ?_
    refine ifp (by decide +kernel) ?_
    exact fin2 h2 (by first | rfl | decide +kernel)
  · skip
    rcases tri v2 0 5 with hv2 | hv2 | hv2
    · skip
      try unfold wpX10_want
      try unfold wpX1_isLot
      try unfold wpX10_isSlot
      try unfold wpX10_isBank
      refine ifn (by decide +kernel) ?_
      refine ifn (by decide +kernel) ?_
      refine ifn (by decide +kernel) ?_
      refine ifn (i_nlt (k := 0) (by decide +kernel) (by omega)) ?_
      refine ifn (i_nge (k := 8) (by decide +kernel) (by omega)) ?_
      refine ifn (by decide +kernel) ?_
      refine And.intro (by decide +kernel) ?_
      refine ifn (i_nge (k := 5) (by decide +kernel) (by omega)) ?_
      refine ifn (by decide +kernel) ?_
      try unfold wpX10_isBuilt
      refine ifp (i_lt (k := 1) (by decide +kernel) (by omega)) ?_
      refine ifp (by decide +kernel) ?_
      refine H _ _ _ (fun post2 h2 => ?_)
      try unfold wpX11_want
      try unfold wpX11_isLot
      try unfold wpX11_isBank
      try unfold wpX11_in
      refine ifn (by decide +kernel) ?_
      refine ifn (by decide +kernel) ?_
      refine And.intro (by decide +kernel) ?_
      refine ifn (by decide +kernel) ?_
      try unfold wpX11_in
      refine ifn (lc_nlt (k := 0) (by decide +kernel) (by rw [Int32.toInt_toInt64]; omega)) ?_
      refine ifn (lc_ngt (k := 4) (by decide +kernel) (by rw [Int32.toInt_toInt64]; omega)) ?_
      refine ifn (by decide +kernel) ?_
      refine ifn (by decide +kernel) ?_
      try unfold wpX11_in
      refine ifp (lc_lt (k := 1) (by decide +kernel) (by rw [Int32.toInt_toInt64]; omega)) ?_
      refine ifp (by decide +kernel) ?_
      exact fin2 h2 (by first | rfl | decide +kernel)
    · skip
      obtain ⟨cv1, rfl, hcv1⟩ := code_of (hi := 4) hv1 (by decide)
      obtain ⟨cv2, rfl, hcv2⟩ := code_of (hi := 5) hv2 (by decide)
      exact ev_want (he_want cv1 hcv1 cv2 hcv2) post1 H
    · skip
      try unfold wpX10_want
      try unfold wpX1_isLot
      try unfold wpX10_isSlot
      try unfold wpX10_isBank
      refine ifn (by decide +kernel) ?_
      refine ifn (by decide +kernel) ?_
      refine ifn (by decide +kernel) ?_
      refine ifn (i_nlt (k := 0) (by decide +kernel) (by omega)) ?_
      refine ifn (i_nge (k := 8) (by decide +kernel) (by omega)) ?_
      refine ifn (by decide +kernel) ?_
      refine And.intro (by decide +kernel) ?_
      refine ifn (i_nge (k := 5) (by decide +kernel) (by omega)) ?_
      refine ifn (by decide +kernel) ?_
      try unfold wpX10_isBuilt
      refine ifn (i_nlt (k := 1) (by decide +kernel) (by omega)) ?_
      refine ifp (i_ge (k := 6) (by decide +kernel) (by omega)) ?_
      refine ifp (by decide +kernel) ?_
      refine H _ _ _ (fun post2 h2 => ?_)
      try unfold wpX11_want
      try unfold wpX11_isLot
      try unfold wpX11_isBank
      try unfold wpX11_in
      refine ifn (by decide +kernel) ?_
      refine ifn (by decide +kernel) ?_
      refine And.intro (by decide +kernel) ?_
      refine ifn (by decide +kernel) ?_
      try unfold wpX11_in
      refine ifn (lc_nlt (k := 0) (by decide +kernel) (by rw [Int32.toInt_toInt64]; omega)) ?_
      refine ifn (lc_ngt (k := 4) (by decide +kernel) (by rw [Int32.toInt_toInt64]; omega)) ?_
      refine ifn (by decide +kernel) ?_
      refine ifn (by decide +kernel) ?_
      try unfold wpX11_in
      refine ifn (lc_nlt (k := 1) (by decide +kernel) (by rw [Int32.toInt_toInt64]; omega)) ?_
      refine ifp (lc_gt (k := 5) (by decide +kernel) (by rw [Int32.toInt_toInt64]; omega)) ?_
      refine ifp (by decide +kernel) ?_
      exact fin2 h2 (by first | rfl | decide +kernel)
  · skip
    try unfold wpX10_want
    try unfold wpX1_isLot
    try unfold wpX10_isSlot
    try unfold wpX10_isBank
    refine ifn (by decide +kernel) ?_
    refine ifn (by decide +kernel) ?_
    refine ifn (by decide +kernel) ?_
    refine ifn (i_nlt (k := 0) (by decide +kernel) (by omega)) ?_
    refine ifs (fun hc => ?_) (fun hc => ?_)
    · have hk1 := i_ge_to (k := 8) (by decide +kernel) hc
      refine ifp (by decide +kernel) ?_
      refine ifp (by decide +kernel) ?_
      refine H _ _ _ (fun post2 h2 => ?_)
      try unfold wpX11_want
      try unfold wpX11_isLot
      try unfold wpX11_isBank
      try unfold wpX11_in
      refine ifn (by decide +kernel) ?_
      refine ifn (by decide +kernel) ?_
      refine And.intro (by decide +kernel) ?_
      refine ifn (by decide +kernel) ?_
      try unfold wpX11_in
      refine ifn (lc_nlt (k := 0) (by decide +kernel) (by rw [Int32.toInt_toInt64]; omega)) ?_
      refine ifp (lc_gt (k := 4) (by decide +kernel) (by rw [Int32.toInt_toInt64]; omega)) ?_
      refine ifp (by decide +kernel) ?_
      refine ifp (by decide +kernel) ?_
      exact fin2 h2 (by first | rfl | decide +kernel)
    · have hk2 := i_nge_to (k := 8) (by decide +kernel) hc
      refine ifn (by decide +kernel) ?_
      refine And.intro (by decide +kernel) ?_
      refine ifp (i_ge (k := 5) (by decide +kernel) (by omega)) ?_
      refine ifp (by decide +kernel) ?_
      refine H _ _ _ (fun post2 h2 => ?_)
      try unfold wpX11_want
      try unfold wpX11_isLot
      try unfold wpX11_isBank
      try unfold wpX11_in
      refine ifn (by decide +kernel) ?_
      refine ifn (by decide +kernel) ?_
      refine And.intro (by decide +kernel) ?_
      refine ifn (by decide +kernel) ?_
      try unfold wpX11_in
      refine ifn (lc_nlt (k := 0) (by decide +kernel) (by rw [Int32.toInt_toInt64]; omega)) ?_
      refine ifp (lc_gt (k := 4) (by decide +kernel) (by rw [Int32.toInt_toInt64]; omega)) ?_
      refine ifp (by decide +kernel) ?_
      refine ifp (by decide +kernel) ?_
      exact fin2 h2 (by first | rfl | decide +kernel)
theorem ev_content (he : epX10_content (fun cr cM ct => epX11_content (fun c2 _ _ => eqN cr c2) cM ct ) uM0 0  = true) (post1 : Int32 → MM → Int64 → Prop) (H : ∀ r1 M1 t1, (∀ post2 : Int32 → MM → Int64 → Prop, (∀ M2 t2, post2 r1 M2 t2) → wpX11_content post2 M1 t1 ) → post1 r1 M1 t1) : wpX10_content post1 M0 0  :=
  spX10_content (q := fun cr cM ct => epX11_content (fun c2 _ _ => eqN cr c2) cM ct ) (fun r M tl cr cM ct hr hM ht h => H r M tl (fun post2 h2 => spX11_content (q := fun c2 _ _ => eqN cr c2) (fun r2 M2 t2 cr2 cM2 ct2 hr2 _ _ hh => fin2 h2 ((c_eq hr hr2).mpr hh)) hM ht  h)) dM0 rfl  he
set_option maxRecDepth 100000 in
theorem he_content : epX10_content (fun cr cM ct => epX11_content (fun c2 _ _ => eqN cr c2) cM ct ) uM0 0  = true := by decide +kernel
set_option maxHeartbeats 4000000 in
set_option maxRecDepth 20000 in
theorem p_content  (post1 : Int32 → MM → Int64 → Prop) (H : ∀ r1 M1 t1, (∀ post2 : Int32 → MM → Int64 → Prop, (∀ M2 t2, post2 r1 M2 t2) → wpX11_content post2 M1 t1 ) → post1 r1 M1 t1) : wpX10_content post1 M0 0  := by
  exact ev_content (he_content) post1 H
theorem ev_plan {cv1 cv2 : Nat} (he : epX10_plan (fun cr cM ct => epX11_plan (fun c2 _ _ => eqN cr c2) cM ct cv1 cv2) uM0 0 cv1 cv2 = true) (post1 : Int32 → MM → Int64 → Prop) (H : ∀ r1 M1 t1, (∀ post2 : Int32 → MM → Int64 → Prop, (∀ M2 t2, post2 r1 M2 t2) → wpX11_plan post2 M1 t1 (nI cv1) (nI cv2)) → post1 r1 M1 t1) : wpX10_plan post1 M0 0 (nI cv1) (nI cv2) :=
  spX10_plan (q := fun cr cM ct => epX11_plan (fun c2 _ _ => eqN cr c2) cM ct cv1 cv2) (fun r M tl cr cM ct hr hM ht h => H r M tl (fun post2 h2 => spX11_plan (q := fun c2 _ _ => eqN cr c2) (fun r2 M2 t2 cr2 cM2 ct2 hr2 _ _ hh => fin2 h2 ((c_eq hr hr2).mpr hh)) hM ht rfl rfl h)) dM0 rfl rfl rfl he
set_option maxRecDepth 100000 in
theorem he_plan : ∀ cv1, cv1 < 4 → ∀ cv2, cv2 < 1 → epX10_plan (fun cr cM ct => epX11_plan (fun c2 _ _ => eqN cr c2) cM ct cv1 cv2) uM0 0 cv1 cv2 = true := by decide +kernel
set_option maxHeartbeats 4000000 in
set_option maxRecDepth 20000 in
theorem p_plan (v1 v2 : Int32) (post1 : Int32 → MM → Int64 → Prop) (H : ∀ r1 M1 t1, (∀ post2 : Int32 → MM → Int64 → Prop, (∀ M2 t2, post2 r1 M2 t2) → wpX11_plan post2 M1 t1 v1 v2) → post1 r1 M1 t1) : wpX10_plan post1 M0 0 v1 v2 := by
  rcases tri v1 0 3 with hv1 | hv1 | hv1
  · skip
    try unfold wpX10_plan
    refine ifs (fun hc => ?_) (fun hc => ?_)
    · have hk1 := i_lt_to (k := 10) (by decide +kernel) hc
      try unfold wX10_plan_29
      try unfold wX10_plan_30
      refine ifp (i_lt (k := 0) (by decide +kernel) (by omega)) ?_
      refine H _ _ _ (fun post2 h2 => ?_)
      try unfold wpX11_plan
      try unfold wpX11_in
      refine ifp (lc_lt (k := 0) (by decide +kernel) (by rw [Int32.toInt_toInt64]; omega)) ?_
      refine ifp (by decide +kernel) ?_
      exact fin2 h2 (by first | rfl | decide +kernel)
    · have hk2 := i_nlt_to (k := 10) (by decide +kernel) hc
      refine ifp (i_ge (k := 10) (by decide +kernel) (by omega)) ?_
      try unfold wX10_plan_29
      try unfold wX10_plan_30
      refine ifp (i_lt (k := 0) (by decide +kernel) (by omega)) ?_
      refine H _ _ _ (fun post2 h2 => ?_)
      try unfold wpX11_plan
      try unfold wpX11_in
      refine ifp (lc_lt (k := 0) (by decide +kernel) (by rw [Int32.toInt_toInt64]; omega)) ?_
      refine ifp (by decide +kernel) ?_
      exact fin2 h2 (by first | rfl | decide +kernel)
  · skip
    rcases tri v2 0 0 with hv2 | hv2 | hv2
    · skip
      try unfold wpX10_plan
      refine ifp (i_lt (k := 10) (by decide +kernel) (by omega)) ?_
      try unfold wX10_plan_29
      try unfold wX10_plan_30
      refine ifn (i_nlt (k := 0) (by decide +kernel) (by omega)) ?_
      refine ifn (i_nge (k := 4) (by decide +kernel) (by omega)) ?_
      refine ifn (i_ne (k := 0) (by decide +kernel) (by omega)) ?_
      refine ifp (by decide +kernel) ?_
      refine H _ _ _ (fun post2 h2 => ?_)
      try unfold wpX11_plan
      try unfold wpX11_in
      refine ifn (lc_nlt (k := 0) (by decide +kernel) (by rw [Int32.toInt_toInt64]; omega)) ?_
      refine ifn (lc_ngt (k := 3) (by decide +kernel) (by rw [Int32.toInt_toInt64]; omega)) ?_
      refine ifn (by decide +kernel) ?_
      refine ifn (i_ne (k := 0) (by decide +kernel) (by omega)) ?_
      refine And.intro (by unfold vp_in; decide +kernel) ?_
      try unfold wpX11_in
      refine ifp (lc_lt (k := 10) (by decide +kernel) (by rw [Int32.toInt_toInt64]; omega)) ?_
      refine ifp (by decide +kernel) ?_
      exact fin2 h2 (by first | rfl | decide +kernel)
    · skip
      obtain ⟨cv1, rfl, hcv1⟩ := code_of (hi := 3) hv1 (by decide)
      obtain ⟨cv2, rfl, hcv2⟩ := code_of (hi := 0) hv2 (by decide)
      exact ev_plan (he_plan cv1 hcv1 cv2 hcv2) post1 H
    · skip
      try unfold wpX10_plan
      refine ifs (fun hc => ?_) (fun hc => ?_)
      · have hk1 := i_lt_to (k := 10) (by decide +kernel) hc
        try unfold wX10_plan_29
        try unfold wX10_plan_30
        refine ifn (i_nlt (k := 0) (by decide +kernel) (by omega)) ?_
        refine ifn (i_nge (k := 4) (by decide +kernel) (by omega)) ?_
        refine ifn (i_ne (k := 0) (by decide +kernel) (by omega)) ?_
        refine ifp (by decide +kernel) ?_
        refine H _ _ _ (fun post2 h2 => ?_)
        try unfold wpX11_plan
        try unfold wpX11_in
        refine ifn (lc_nlt (k := 0) (by decide +kernel) (by rw [Int32.toInt_toInt64]; omega)) ?_
        refine ifn (lc_ngt (k := 3) (by decide +kernel) (by rw [Int32.toInt_toInt64]; omega)) ?_
        refine ifn (by decide +kernel) ?_
        refine ifn (i_ne (k := 0) (by decide +kernel) (by omega)) ?_
        refine And.intro (by unfold vp_in; decide +kernel) ?_
        try unfold wpX11_in
        refine ifp (lc_lt (k := 10) (by decide +kernel) (by rw [Int32.toInt_toInt64]; omega)) ?_
        refine ifp (by decide +kernel) ?_
        exact fin2 h2 (by first | rfl | decide +kernel)
      · have hk2 := i_nlt_to (k := 10) (by decide +kernel) hc
        refine ifp (i_ge (k := 10) (by decide +kernel) (by omega)) ?_
        try unfold wX10_plan_29
        try unfold wX10_plan_30
        refine ifn (i_nlt (k := 0) (by decide +kernel) (by omega)) ?_
        refine ifn (i_nge (k := 4) (by decide +kernel) (by omega)) ?_
        refine ifn (i_ne (k := 0) (by decide +kernel) (by omega)) ?_
        refine ifp (by decide +kernel) ?_
        refine H _ _ _ (fun post2 h2 => ?_)
        try unfold wpX11_plan
        try unfold wpX11_in
        refine ifn (lc_nlt (k := 0) (by decide +kernel) (by rw [Int32.toInt_toInt64]; omega)) ?_
        refine ifn (lc_ngt (k := 3) (by decide +kernel) (by rw [Int32.toInt_toInt64]; omega)) ?_
        refine ifn (by decide +kernel) ?_
        refine ifn (i_ne (k := 0) (by decide +kernel) (by omega)) ?_
        refine And.intro (by unfold vp_in; decide +kernel) ?_
        try unfold wpX11_in
        refine ifn (lc_nlt (k := 10) (by decide +kernel) (by rw [Int32.toInt_toInt64]; omega)) ?_
        refine ifp (lc_gt (k := 9) (by decide +kernel) (by rw [Int32.toInt_toInt64]; omega)) ?_
        refine ifp (by decide +kernel) ?_
        exact fin2 h2 (by first | rfl | decide +kernel)
  · skip
    try unfold wpX10_plan
    refine ifs (fun hc => ?_) (fun hc => ?_)
    · have hk1 := i_lt_to (k := 10) (by decide +kernel) hc
      try unfold wX10_plan_29
      try unfold wX10_plan_30
      refine ifn (i_nlt (k := 0) (by decide +kernel) (by omega)) ?_
      refine ifp (i_ge (k := 4) (by decide +kernel) (by omega)) ?_
      refine H _ _ _ (fun post2 h2 => ?_)
      try unfold wpX11_plan
      try unfold wpX11_in
      refine ifn (lc_nlt (k := 0) (by decide +kernel) (by rw [Int32.toInt_toInt64]; omega)) ?_
      refine ifp (lc_gt (k := 3) (by decide +kernel) (by rw [Int32.toInt_toInt64]; omega)) ?_
      refine ifp (by decide +kernel) ?_
      exact fin2 h2 (by first | rfl | decide +kernel)
    · have hk2 := i_nlt_to (k := 10) (by decide +kernel) hc
      refine ifp (i_ge (k := 10) (by decide +kernel) (by omega)) ?_
      try unfold wX10_plan_29
      try unfold wX10_plan_30
      refine ifn (i_nlt (k := 0) (by decide +kernel) (by omega)) ?_
      refine ifp (i_ge (k := 4) (by decide +kernel) (by omega)) ?_
      refine H _ _ _ (fun post2 h2 => ?_)
      try unfold wpX11_plan
      try unfold wpX11_in
      refine ifn (lc_nlt (k := 0) (by decide +kernel) (by rw [Int32.toInt_toInt64]; omega)) ?_
      refine ifp (lc_gt (k := 3) (by decide +kernel) (by rw [Int32.toInt_toInt64]; omega)) ?_
      refine ifp (by decide +kernel) ?_
      exact fin2 h2 (by first | rfl | decide +kernel)
theorem ev_cannot {cv1 : Nat} (he : epX10_cannot (fun cr cM ct => epX11_cannot (fun c2 _ _ => eqN cr c2) cM ct cv1) uM0 0 cv1 = true) (post1 : Int32 → MM → Int64 → Prop) (H : ∀ r1 M1 t1, (∀ post2 : Int32 → MM → Int64 → Prop, (∀ M2 t2, post2 r1 M2 t2) → wpX11_cannot post2 M1 t1 (nI cv1)) → post1 r1 M1 t1) : wpX10_cannot post1 M0 0 (nI cv1) :=
  spX10_cannot (q := fun cr cM ct => epX11_cannot (fun c2 _ _ => eqN cr c2) cM ct cv1) (fun r M tl cr cM ct hr hM ht h => H r M tl (fun post2 h2 => spX11_cannot (q := fun c2 _ _ => eqN cr c2) (fun r2 M2 t2 cr2 cM2 ct2 hr2 _ _ hh => fin2 h2 ((c_eq hr hr2).mpr hh)) hM ht rfl h)) dM0 rfl rfl he
set_option maxRecDepth 100000 in
theorem he_cannot : ∀ cv1, cv1 < 2 → epX10_cannot (fun cr cM ct => epX11_cannot (fun c2 _ _ => eqN cr c2) cM ct cv1) uM0 0 cv1 = true := by decide +kernel
set_option maxHeartbeats 4000000 in
set_option maxRecDepth 20000 in
theorem p_cannot (v1 : Int32) (post1 : Int32 → MM → Int64 → Prop) (H : ∀ r1 M1 t1, (∀ post2 : Int32 → MM → Int64 → Prop, (∀ M2 t2, post2 r1 M2 t2) → wpX11_cannot post2 M1 t1 v1) → post1 r1 M1 t1) : wpX10_cannot post1 M0 0 v1 := by
  rcases tri v1 0 1 with hv1 | hv1 | hv1
  · skip
    try unfold wpX10_cannot
    refine ifp (i_lt (k := 0) (by decide +kernel) (by omega)) ?_
    refine H _ _ _ (fun post2 h2 => ?_)
    try unfold wpX11_cannot
    try unfold wpX11_in
    refine ifp (lc_lt (k := 0) (by decide +kernel) (by rw [Int32.toInt_toInt64]; omega)) ?_
    refine ifp (by decide +kernel) ?_
    exact fin2 h2 (by first | rfl | decide +kernel)
  · skip
    obtain ⟨cv1, rfl, hcv1⟩ := code_of (hi := 1) hv1 (by decide)
    exact ev_cannot (he_cannot cv1 hcv1) post1 H
  · skip
    try unfold wpX10_cannot
    refine ifn (i_nlt (k := 0) (by decide +kernel) (by omega)) ?_
    refine ifn (i_nle (k := 1) (by decide +kernel) (by omega)) ?_
    refine H _ _ _ (fun post2 h2 => ?_)
    try unfold wpX11_cannot
    try unfold wpX11_in
    refine ifn (lc_nlt (k := 0) (by decide +kernel) (by rw [Int32.toInt_toInt64]; omega)) ?_
    refine ifp (lc_gt (k := 1) (by decide +kernel) (by rw [Int32.toInt_toInt64]; omega)) ?_
    refine ifp (by decide +kernel) ?_
    exact fin2 h2 (by first | rfl | decide +kernel)
theorem ev_fire {cv1 cv2 cv3 : Nat} (he : epX10_fire (fun cr cM ct => epX11_fire (fun c2 _ _ => eqN cr c2) cM ct cv1 cv2 cv3) uM0 0 cv1 cv2 cv3 = true) (post1 : Int32 → MM → Int64 → Prop) (H : ∀ r1 M1 t1, (∀ post2 : Int32 → MM → Int64 → Prop, (∀ M2 t2, post2 r1 M2 t2) → wpX11_fire post2 M1 t1 (nI cv1) (nI cv2) (nI cv3)) → post1 r1 M1 t1) : wpX10_fire post1 M0 0 (nI cv1) (nI cv2) (nI cv3) :=
  spX10_fire (q := fun cr cM ct => epX11_fire (fun c2 _ _ => eqN cr c2) cM ct cv1 cv2 cv3) (fun r M tl cr cM ct hr hM ht h => H r M tl (fun post2 h2 => spX11_fire (q := fun c2 _ _ => eqN cr c2) (fun r2 M2 t2 cr2 cM2 ct2 hr2 _ _ hh => fin2 h2 ((c_eq hr hr2).mpr hh)) hM ht rfl rfl rfl h)) dM0 rfl rfl rfl rfl he
set_option maxRecDepth 100000 in
theorem he_fire : ∀ cv1, cv1 < 2 → ∀ cv2, cv2 < 5 → ∀ cv3, cv3 < 2 → epX10_fire (fun cr cM ct => epX11_fire (fun c2 _ _ => eqN cr c2) cM ct cv1 cv2 cv3) uM0 0 cv1 cv2 cv3 = true := by decide +kernel
set_option maxHeartbeats 4000000 in
set_option maxRecDepth 20000 in
theorem p_fire (v1 v2 v3 : Int32) (post1 : Int32 → MM → Int64 → Prop) (H : ∀ r1 M1 t1, (∀ post2 : Int32 → MM → Int64 → Prop, (∀ M2 t2, post2 r1 M2 t2) → wpX11_fire post2 M1 t1 v1 v2 v3) → post1 r1 M1 t1) : wpX10_fire post1 M0 0 v1 v2 v3 := by
  rcases tri v1 0 1 with hv1 | hv1 | hv1
  · skip
    try unfold wpX10_fire
    try unfold wpX1_isLot
    try unfold wpX10_isSlot
    try unfold wpX10_isBank
    refine ifp (i_lt (k := 0) (by decide +kernel) (by omega)) ?_
    refine ifp (by decide +kernel) ?_
    refine ifp (by decide +kernel) ?_
    refine ifp (by decide +kernel) ?_
    refine H _ _ _ (fun post2 h2 => ?_)
    try unfold wpX11_fire
    try unfold wpX11_isLot
    try unfold wpX11_isBank
    try unfold wpX11_in
    refine ifp (lc_lt (k := 0) (by decide +kernel) (by rw [Int32.toInt_toInt64]; omega)) ?_
    refine And.intro (by decide +kernel) ?_
    refine ifp (by decide +kernel) ?_
    refine ifp (by decide +kernel) ?_
    exact fin2 h2 (by first | rfl | decide +kernel)
  · skip
    rcases tri v2 0 4 with hv2 | hv2 | hv2
    · skip
      try unfold wpX10_fire
      try unfold wpX1_isLot
      try unfold wpX10_isSlot
      try unfold wpX10_isBank
      refine ifn (i_nlt (k := 0) (by decide +kernel) (by omega)) ?_
      refine ifn (i_nge (k := 2) (by decide +kernel) (by omega)) ?_
      refine ifn (by decide +kernel) ?_
      refine ifp (i_lt (k := 0) (by decide +kernel) (by omega)) ?_
      refine ifp (by decide +kernel) ?_
      refine ifp (by decide +kernel) ?_
      refine H _ _ _ (fun post2 h2 => ?_)
      try unfold wpX11_fire
      try unfold wpX11_isLot
      try unfold wpX11_isBank
      try unfold wpX11_in
      refine ifn (lc_nlt (k := 0) (by decide +kernel) (by rw [Int32.toInt_toInt64]; omega)) ?_
      refine ifn (lc_ngt (k := 1) (by decide +kernel) (by rw [Int32.toInt_toInt64]; omega)) ?_
      refine And.intro (by decide +kernel) ?_
      refine ifn (by decide +kernel) ?_
      try unfold wpX11_in
      refine ifp (lc_lt (k := 0) (by decide +kernel) (by rw [Int32.toInt_toInt64]; omega)) ?_
      refine ifp (by decide +kernel) ?_
      refine ifp (by decide +kernel) ?_
      exact fin2 h2 (by first | rfl | decide +kernel)
    · skip
      rcases tri v3 0 1 with hv3 | hv3 | hv3
      · skip
        try unfold wpX10_fire
        try unfold wpX1_isLot
        try unfold wpX10_isSlot
        try unfold wpX10_isBank
        refine ifn (i_nlt (k := 0) (by decide +kernel) (by omega)) ?_
        refine ifn (i_nge (k := 2) (by decide +kernel) (by omega)) ?_
        refine ifn (by decide +kernel) ?_
        refine ifn (i_nlt (k := 0) (by decide +kernel) (by omega)) ?_
        refine ifn (i_nge (k := 8) (by decide +kernel) (by omega)) ?_
        refine ifn (by decide +kernel) ?_
        refine And.intro (by decide +kernel) ?_
        refine ifn (i_nge (k := 5) (by decide +kernel) (by omega)) ?_
        refine ifn (by decide +kernel) ?_
        refine ifp (i_lt (k := 0) (by decide +kernel) (by omega)) ?_
        refine H _ _ _ (fun post2 h2 => ?_)
        try unfold wpX11_fire
        try unfold wpX11_isLot
        try unfold wpX11_isBank
        try unfold wpX11_in
        refine ifn (lc_nlt (k := 0) (by decide +kernel) (by rw [Int32.toInt_toInt64]; omega)) ?_
        refine ifn (lc_ngt (k := 1) (by decide +kernel) (by rw [Int32.toInt_toInt64]; omega)) ?_
        refine And.intro (by decide +kernel) ?_
        refine ifn (by decide +kernel) ?_
        try unfold wpX11_in
        refine ifn (lc_nlt (k := 0) (by decide +kernel) (by rw [Int32.toInt_toInt64]; omega)) ?_
        refine ifn (lc_ngt (k := 4) (by decide +kernel) (by rw [Int32.toInt_toInt64]; omega)) ?_
        refine ifn (by decide +kernel) ?_
        refine ifn (by decide +kernel) ?_
        try unfold wpX11_in
        refine ifp (lc_lt (k := 0) (by decide +kernel) (by rw [Int32.toInt_toInt64]; omega)) ?_
        refine ifp (by decide +kernel) ?_
        exact fin2 h2 (by first | rfl | decide +kernel)
      · skip
        obtain ⟨cv1, rfl, hcv1⟩ := code_of (hi := 1) hv1 (by decide)
        obtain ⟨cv2, rfl, hcv2⟩ := code_of (hi := 4) hv2 (by decide)
        obtain ⟨cv3, rfl, hcv3⟩ := code_of (hi := 1) hv3 (by decide)
        exact ev_fire (he_fire cv1 hcv1 cv2 hcv2 cv3 hcv3) post1 H
      · skip
        try unfold wpX10_fire
        try unfold wpX1_isLot
        try unfold wpX10_isSlot
        try unfold wpX10_isBank
        refine ifn (i_nlt (k := 0) (by decide +kernel) (by omega)) ?_
        refine ifn (i_nge (k := 2) (by decide +kernel) (by omega)) ?_
        refine ifn (by decide +kernel) ?_
        refine ifn (i_nlt (k := 0) (by decide +kernel) (by omega)) ?_
        refine ifn (i_nge (k := 8) (by decide +kernel) (by omega)) ?_
        refine ifn (by decide +kernel) ?_
        refine And.intro (by decide +kernel) ?_
        refine ifn (i_nge (k := 5) (by decide +kernel) (by omega)) ?_
        refine ifn (by decide +kernel) ?_
        refine ifn (i_nlt (k := 0) (by decide +kernel) (by omega)) ?_
        refine ifn (i_nle (k := 1) (by decide +kernel) (by omega)) ?_
        refine H _ _ _ (fun post2 h2 => ?_)
        try unfold wpX11_fire
        try unfold wpX11_isLot
        try unfold wpX11_isBank
        try unfold wpX11_in
        refine ifn (lc_nlt (k := 0) (by decide +kernel) (by rw [Int32.toInt_toInt64]; omega)) ?_
        refine ifn (lc_ngt (k := 1) (by decide +kernel) (by rw [Int32.toInt_toInt64]; omega)) ?_
        refine And.intro (by decide +kernel) ?_
        refine ifn (by decide +kernel) ?_
        try unfold wpX11_in
        refine ifn (lc_nlt (k := 0) (by decide +kernel) (by rw [Int32.toInt_toInt64]; omega)) ?_
        refine ifn (lc_ngt (k := 4) (by decide +kernel) (by rw [Int32.toInt_toInt64]; omega)) ?_
        refine ifn (by decide +kernel) ?_
        refine ifn (by decide +kernel) ?_
        try unfold wpX11_in
        refine ifn (lc_nlt (k := 0) (by decide +kernel) (by rw [Int32.toInt_toInt64]; omega)) ?_
        refine ifp (lc_gt (k := 1) (by decide +kernel) (by rw [Int32.toInt_toInt64]; omega)) ?_
        refine ifp (by decide +kernel) ?_
        exact fin2 h2 (by first | rfl | decide +kernel)
    · skip
      try unfold wpX10_fire
      try unfold wpX1_isLot
      try unfold wpX10_isSlot
      try unfold wpX10_isBank
      refine ifn (i_nlt (k := 0) (by decide +kernel) (by omega)) ?_
      refine ifn (i_nge (k := 2) (by decide +kernel) (by omega)) ?_
      refine ifn (by decide +kernel) ?_
      refine ifn (i_nlt (k := 0) (by decide +kernel) (by omega)) ?_
      refine ifs (fun hc => ?_) (fun hc => ?_)
      · have hk1 := i_ge_to (k := 8) (by decide +kernel) hc
        refine ifp (by decide +kernel) ?_
        refine ifp (by decide +kernel) ?_
        refine H _ _ _ (fun post2 h2 => ?_)
        try unfold wpX11_fire
        try unfold wpX11_isLot
        try unfold wpX11_isBank
        try unfold wpX11_in
        refine ifn (lc_nlt (k := 0) (by decide +kernel) (by rw [Int32.toInt_toInt64]; omega)) ?_
        refine ifn (lc_ngt (k := 1) (by decide +kernel) (by rw [Int32.toInt_toInt64]; omega)) ?_
        refine And.intro (by decide +kernel) ?_
        refine ifn (by decide +kernel) ?_
        try unfold wpX11_in
        refine ifn (lc_nlt (k := 0) (by decide +kernel) (by rw [Int32.toInt_toInt64]; omega)) ?_
        refine ifp (lc_gt (k := 4) (by decide +kernel) (by rw [Int32.toInt_toInt64]; omega)) ?_
        refine ifp (by decide +kernel) ?_
        refine ifp (by decide +kernel) ?_
        exact fin2 h2 (by first | rfl | decide +kernel)
      · have hk2 := i_nge_to (k := 8) (by decide +kernel) hc
        refine ifn (by decide +kernel) ?_
        refine And.intro (by decide +kernel) ?_
        refine ifp (i_ge (k := 5) (by decide +kernel) (by omega)) ?_
        refine ifp (by decide +kernel) ?_
        refine H _ _ _ (fun post2 h2 => ?_)
        try unfold wpX11_fire
        try unfold wpX11_isLot
        try unfold wpX11_isBank
        try unfold wpX11_in
        refine ifn (lc_nlt (k := 0) (by decide +kernel) (by rw [Int32.toInt_toInt64]; omega)) ?_
        refine ifn (lc_ngt (k := 1) (by decide +kernel) (by rw [Int32.toInt_toInt64]; omega)) ?_
        refine And.intro (by decide +kernel) ?_
        refine ifn (by decide +kernel) ?_
        try unfold wpX11_in
        refine ifn (lc_nlt (k := 0) (by decide +kernel) (by rw [Int32.toInt_toInt64]; omega)) ?_
        refine ifp (lc_gt (k := 4) (by decide +kernel) (by rw [Int32.toInt_toInt64]; omega)) ?_
        refine ifp (by decide +kernel) ?_
        refine ifp (by decide +kernel) ?_
        exact fin2 h2 (by first | rfl | decide +kernel)
  · skip
    try unfold wpX10_fire
    try unfold wpX1_isLot
    try unfold wpX10_isSlot
    try unfold wpX10_isBank
    refine ifn (i_nlt (k := 0) (by decide +kernel) (by omega)) ?_
    refine ifp (i_ge (k := 2) (by decide +kernel) (by omega)) ?_
    refine ifp (by decide +kernel) ?_
    refine ifp (by decide +kernel) ?_
    refine ifp (by decide +kernel) ?_
    refine H _ _ _ (fun post2 h2 => ?_)
    try unfold wpX11_fire
    try unfold wpX11_isLot
    try unfold wpX11_isBank
    try unfold wpX11_in
    refine ifn (lc_nlt (k := 0) (by decide +kernel) (by rw [Int32.toInt_toInt64]; omega)) ?_
    refine ifp (lc_gt (k := 1) (by decide +kernel) (by rw [Int32.toInt_toInt64]; omega)) ?_
    refine And.intro (by decide +kernel) ?_
    refine ifp (by decide +kernel) ?_
    refine ifp (by decide +kernel) ?_
    exact fin2 h2 (by first | rfl | decide +kernel)
theorem ev_quarrel {cv1 : Nat} (he : epX10_quarrel (fun cr cM ct => epX11_quarrel (fun c2 _ _ => eqN cr c2) cM ct cv1) uM0 0 cv1 = true) (post1 : Int32 → MM → Int64 → Prop) (H : ∀ r1 M1 t1, (∀ post2 : Int32 → MM → Int64 → Prop, (∀ M2 t2, post2 r1 M2 t2) → wpX11_quarrel post2 M1 t1 (nI cv1)) → post1 r1 M1 t1) : wpX10_quarrel post1 M0 0 (nI cv1) :=
  spX10_quarrel (q := fun cr cM ct => epX11_quarrel (fun c2 _ _ => eqN cr c2) cM ct cv1) (fun r M tl cr cM ct hr hM ht h => H r M tl (fun post2 h2 => spX11_quarrel (q := fun c2 _ _ => eqN cr c2) (fun r2 M2 t2 cr2 cM2 ct2 hr2 _ _ hh => fin2 h2 ((c_eq hr hr2).mpr hh)) hM ht rfl h)) dM0 rfl rfl he
set_option maxRecDepth 100000 in
theorem he_quarrel : ∀ cv1, cv1 < 7 → epX10_quarrel (fun cr cM ct => epX11_quarrel (fun c2 _ _ => eqN cr c2) cM ct cv1) uM0 0 cv1 = true := by decide +kernel
set_option maxHeartbeats 4000000 in
set_option maxRecDepth 20000 in
theorem p_quarrel (v1 : Int32) (post1 : Int32 → MM → Int64 → Prop) (H : ∀ r1 M1 t1, (∀ post2 : Int32 → MM → Int64 → Prop, (∀ M2 t2, post2 r1 M2 t2) → wpX11_quarrel post2 M1 t1 v1) → post1 r1 M1 t1) : wpX10_quarrel post1 M0 0 v1 := by
  rcases tri v1 0 6 with hv1 | hv1 | hv1
  · skip
    try unfold wpX10_quarrel
    refine ifp (i_lt (k := 0) (by decide +kernel) (by omega)) ?_
    refine H _ _ _ (fun post2 h2 => ?_)
    try unfold wpX11_quarrel
    try unfold wpX11_in
    refine ifp (lc_lt (k := 0) (by decide +kernel) (by rw [Int32.toInt_toInt64]; omega)) ?_
    refine ifp (by decide +kernel) ?_
    exact fin2 h2 (by first | rfl | decide +kernel)
  · skip
    obtain ⟨cv1, rfl, hcv1⟩ := code_of (hi := 6) hv1 (by decide)
    exact ev_quarrel (he_quarrel cv1 hcv1) post1 H
  · skip
    try unfold wpX10_quarrel
    refine ifn (i_nlt (k := 0) (by decide +kernel) (by omega)) ?_
    refine ifn (i_nle (k := 6) (by decide +kernel) (by omega)) ?_
    refine H _ _ _ (fun post2 h2 => ?_)
    try unfold wpX11_quarrel
    try unfold wpX11_in
    refine ifn (lc_nlt (k := 0) (by decide +kernel) (by rw [Int32.toInt_toInt64]; omega)) ?_
    refine ifp (lc_gt (k := 6) (by decide +kernel) (by rw [Int32.toInt_toInt64]; omega)) ?_
    refine ifp (by decide +kernel) ?_
    exact fin2 h2 (by first | rfl | decide +kernel)
theorem ev_bend (he : epX10_bend (fun cr cM ct => epX11_bend (fun c2 _ _ => eqN cr c2) cM ct ) uM0 0  = true) (post1 : Int32 → MM → Int64 → Prop) (H : ∀ r1 M1 t1, (∀ post2 : Int32 → MM → Int64 → Prop, (∀ M2 t2, post2 r1 M2 t2) → wpX11_bend post2 M1 t1 ) → post1 r1 M1 t1) : wpX10_bend post1 M0 0  :=
  spX10_bend (q := fun cr cM ct => epX11_bend (fun c2 _ _ => eqN cr c2) cM ct ) (fun r M tl cr cM ct hr hM ht h => H r M tl (fun post2 h2 => spX11_bend (q := fun c2 _ _ => eqN cr c2) (fun r2 M2 t2 cr2 cM2 ct2 hr2 _ _ hh => fin2 h2 ((c_eq hr hr2).mpr hh)) hM ht  h)) dM0 rfl  he
set_option maxRecDepth 100000 in
theorem he_bend : epX10_bend (fun cr cM ct => epX11_bend (fun c2 _ _ => eqN cr c2) cM ct ) uM0 0  = true := by decide +kernel
set_option maxHeartbeats 4000000 in
set_option maxRecDepth 20000 in
theorem p_bend  (post1 : Int32 → MM → Int64 → Prop) (H : ∀ r1 M1 t1, (∀ post2 : Int32 → MM → Int64 → Prop, (∀ M2 t2, post2 r1 M2 t2) → wpX11_bend post2 M1 t1 ) → post1 r1 M1 t1) : wpX10_bend post1 M0 0  := by
  exact ev_bend (he_bend) post1 H
theorem ev_shops {cv1 cv2 : Nat} (he : epX10_shops (fun cr cM ct => epX11_shops (fun c2 _ _ => eqN cr c2) cM ct cv1 cv2) uM0 0 cv1 cv2 = true) (post1 : Int32 → MM → Int64 → Prop) (H : ∀ r1 M1 t1, (∀ post2 : Int32 → MM → Int64 → Prop, (∀ M2 t2, post2 r1 M2 t2) → wpX11_shops post2 M1 t1 (nI cv1) (nI cv2)) → post1 r1 M1 t1) : wpX10_shops post1 M0 0 (nI cv1) (nI cv2) :=
  spX10_shops (q := fun cr cM ct => epX11_shops (fun c2 _ _ => eqN cr c2) cM ct cv1 cv2) (fun r M tl cr cM ct hr hM ht h => H r M tl (fun post2 h2 => spX11_shops (q := fun c2 _ _ => eqN cr c2) (fun r2 M2 t2 cr2 cM2 ct2 hr2 _ _ hh => fin2 h2 ((c_eq hr hr2).mpr hh)) hM ht rfl rfl h)) dM0 rfl rfl rfl he
set_option maxRecDepth 100000 in
theorem he_shops : ∀ cv1, cv1 < 2 → ∀ cv2, cv2 < 2 → epX10_shops (fun cr cM ct => epX11_shops (fun c2 _ _ => eqN cr c2) cM ct cv1 cv2) uM0 0 cv1 cv2 = true := by decide +kernel
set_option maxHeartbeats 4000000 in
set_option maxRecDepth 20000 in
theorem p_shops (v1 v2 : Int32) (post1 : Int32 → MM → Int64 → Prop) (H : ∀ r1 M1 t1, (∀ post2 : Int32 → MM → Int64 → Prop, (∀ M2 t2, post2 r1 M2 t2) → wpX11_shops post2 M1 t1 v1 v2) → post1 r1 M1 t1) : wpX10_shops post1 M0 0 v1 v2 := by
  rcases tri v1 0 1 with hv1 | hv1 | hv1
  · skip
    try unfold wpX10_shops
    try unfold wpX10_isBank
    refine ifp (i_lt (k := 0) (by decide +kernel) (by omega)) ?_
    refine ifp (by decide +kernel) ?_
    refine H _ _ _ (fun post2 h2 => ?_)
    try unfold wpX11_shops
    try unfold wpX11_isBank
    try unfold wpX11_in
    refine ifp (lc_lt (k := 0) (by decide +kernel) (by rw [Int32.toInt_toInt64]; omega)) ?_
    refine And.intro (by decide +kernel) ?_
    refine ifp (by decide +kernel) ?_
    exact fin2 h2 (by first | rfl | decide +kernel)
  · skip
    rcases tri v2 0 1 with hv2 | hv2 | hv2
    · skip
      try unfold wpX10_shops
      try unfold wpX10_isBank
      refine ifn (i_nlt (k := 0) (by decide +kernel) (by omega)) ?_
      refine ifn (i_nge (k := 2) (by decide +kernel) (by omega)) ?_
      refine ifn (by decide +kernel) ?_
      refine ifp (i_lt (k := 0) (by decide +kernel) (by omega)) ?_
      refine H _ _ _ (fun post2 h2 => ?_)
      try unfold wpX11_shops
      try unfold wpX11_isBank
      try unfold wpX11_in
      refine ifn (lc_nlt (k := 0) (by decide +kernel) (by rw [Int32.toInt_toInt64]; omega)) ?_
      refine ifn (lc_ngt (k := 1) (by decide +kernel) (by rw [Int32.toInt_toInt64]; omega)) ?_
      refine And.intro (by decide +kernel) ?_
      refine ifn (by decide +kernel) ?_
      try unfold wpX11_in
      refine ifp (lc_lt (k := 0) (by decide +kernel) (by rw [Int32.toInt_toInt64]; omega)) ?_
      refine ifp (by decide +kernel) ?_
      exact fin2 h2 (by first | rfl | decide +kernel)
    · skip
      obtain ⟨cv1, rfl, hcv1⟩ := code_of (hi := 1) hv1 (by decide)
      obtain ⟨cv2, rfl, hcv2⟩ := code_of (hi := 1) hv2 (by decide)
      exact ev_shops (he_shops cv1 hcv1 cv2 hcv2) post1 H
    · skip
      try unfold wpX10_shops
      try unfold wpX10_isBank
      refine ifn (i_nlt (k := 0) (by decide +kernel) (by omega)) ?_
      refine ifn (i_nge (k := 2) (by decide +kernel) (by omega)) ?_
      refine ifn (by decide +kernel) ?_
      refine ifn (i_nlt (k := 0) (by decide +kernel) (by omega)) ?_
      refine ifn (i_nle (k := 1) (by decide +kernel) (by omega)) ?_
      refine H _ _ _ (fun post2 h2 => ?_)
      try unfold wpX11_shops
      try unfold wpX11_isBank
      try unfold wpX11_in
      refine ifn (lc_nlt (k := 0) (by decide +kernel) (by rw [Int32.toInt_toInt64]; omega)) ?_
      refine ifn (lc_ngt (k := 1) (by decide +kernel) (by rw [Int32.toInt_toInt64]; omega)) ?_
      refine And.intro (by decide +kernel) ?_
      refine ifn (by decide +kernel) ?_
      try unfold wpX11_in
      refine ifn (lc_nlt (k := 0) (by decide +kernel) (by rw [Int32.toInt_toInt64]; omega)) ?_
      refine ifp (lc_gt (k := 1) (by decide +kernel) (by rw [Int32.toInt_toInt64]; omega)) ?_
      refine ifp (by decide +kernel) ?_
      exact fin2 h2 (by first | rfl | decide +kernel)
  · skip
    try unfold wpX10_shops
    try unfold wpX10_isBank
    refine ifn (i_nlt (k := 0) (by decide +kernel) (by omega)) ?_
    refine ifp (i_ge (k := 2) (by decide +kernel) (by omega)) ?_
    refine ifp (by decide +kernel) ?_
    refine H _ _ _ (fun post2 h2 => ?_)
    try unfold wpX11_shops
    try unfold wpX11_isBank
    try unfold wpX11_in
    refine ifn (lc_nlt (k := 0) (by decide +kernel) (by rw [Int32.toInt_toInt64]; omega)) ?_
    refine ifp (lc_gt (k := 1) (by decide +kernel) (by rw [Int32.toInt_toInt64]; omega)) ?_
    refine And.intro (by decide +kernel) ?_
    refine ifp (by decide +kernel) ?_
    exact fin2 h2 (by first | rfl | decide +kernel)
theorem ev_saw0 {cv1 cv2 cv3 : Nat} (he : epX10_saw (fun cr cM ct => epX11_saw (fun c2 _ _ => eqN cr c2) cM ct cv1 cv2 cv3 0) uM0 0 cv1 cv2 cv3 0 = true) (post1 : Int32 → MM → Int64 → Prop) (H : ∀ r1 M1 t1, (∀ post2 : Int32 → MM → Int64 → Prop, (∀ M2 t2, post2 r1 M2 t2) → wpX11_saw post2 M1 t1 (nI cv1) (nI cv2) (nI cv3) (0 : Int32)) → post1 r1 M1 t1) : wpX10_saw post1 M0 0 (nI cv1) (nI cv2) (nI cv3) (0 : Int32) :=
  spX10_saw (q := fun cr cM ct => epX11_saw (fun c2 _ _ => eqN cr c2) cM ct cv1 cv2 cv3 0) (fun r M tl cr cM ct hr hM ht h => H r M tl (fun post2 h2 => spX11_saw (q := fun c2 _ _ => eqN cr c2) (fun r2 M2 t2 cr2 cM2 ct2 hr2 _ _ hh => fin2 h2 ((c_eq hr hr2).mpr hh)) hM ht rfl rfl rfl rfl h)) dM0 rfl rfl rfl rfl rfl he
set_option maxRecDepth 100000 in
theorem he_saw0 : ∀ cv1, cv1 < 2 → ∀ cv2, cv2 < 5 → ∀ cv3, cv3 < 24 → epX10_saw (fun cr cM ct => epX11_saw (fun c2 _ _ => eqN cr c2) cM ct cv1 cv2 cv3 0) uM0 0 cv1 cv2 cv3 0 = true := by decide +kernel
set_option maxHeartbeats 4000000 in
set_option maxRecDepth 20000 in
theorem p_saw0 (v1 v2 v3 : Int32) (post1 : Int32 → MM → Int64 → Prop) (H : ∀ r1 M1 t1, (∀ post2 : Int32 → MM → Int64 → Prop, (∀ M2 t2, post2 r1 M2 t2) → wpX11_saw post2 M1 t1 v1 v2 v3 (0 : Int32)) → post1 r1 M1 t1) : wpX10_saw post1 M0 0 v1 v2 v3 (0 : Int32) := by
  rcases tri v1 0 1 with hv1 | hv1 | hv1
  · skip
    try unfold wpX10_saw
    try unfold wpX1_isLot
    try unfold wpX10_isSlot
    try unfold wpX10_isBank
    refine ifp (i_lt (k := 0) (by decide +kernel) (by omega)) ?_
    refine ifp (by decide +kernel) ?_
    refine ifp (by decide +kernel) ?_
    refine ifp (by decide +kernel) ?_
    refine H _ _ _ (fun post2 h2 => ?_)
    try unfold wpX11_saw
    try unfold wpX11_isLot
    try unfold wpX11_isBank
    try unfold wpX11_in
    refine ifp (lc_lt (k := 0) (by decide +kernel) (by rw [Int32.toInt_toInt64]; omega)) ?_
    refine And.intro (by decide +kernel) ?_
    refine ifp (by decide +kernel) ?_
    refine ifp (by decide +kernel) ?_
    exact fin2 h2 (by first | rfl | decide +kernel)
  · skip
    rcases tri v2 0 4 with hv2 | hv2 | hv2
    · skip
      try unfold wpX10_saw
      try unfold wpX1_isLot
      try unfold wpX10_isSlot
      try unfold wpX10_isBank
      refine ifn (i_nlt (k := 0) (by decide +kernel) (by omega)) ?_
      refine ifn (i_nge (k := 2) (by decide +kernel) (by omega)) ?_
      refine ifn (by decide +kernel) ?_
      refine ifp (i_lt (k := 0) (by decide +kernel) (by omega)) ?_
      refine ifp (by decide +kernel) ?_
      refine ifp (by decide +kernel) ?_
      refine H _ _ _ (fun post2 h2 => ?_)
      try unfold wpX11_saw
      try unfold wpX11_isLot
      try unfold wpX11_isBank
      try unfold wpX11_in
      refine ifn (lc_nlt (k := 0) (by decide +kernel) (by rw [Int32.toInt_toInt64]; omega)) ?_
      refine ifn (lc_ngt (k := 1) (by decide +kernel) (by rw [Int32.toInt_toInt64]; omega)) ?_
      refine And.intro (by decide +kernel) ?_
      refine ifn (by decide +kernel) ?_
      try unfold wpX11_in
      refine ifp (lc_lt (k := 0) (by decide +kernel) (by rw [Int32.toInt_toInt64]; omega)) ?_
      refine ifp (by decide +kernel) ?_
      refine ifp (by decide +kernel) ?_
      exact fin2 h2 (by first | rfl | decide +kernel)
    · skip
      rcases tri v3 0 23 with hv3 | hv3 | hv3
      · skip
        try unfold wpX10_saw
        try unfold wpX1_isLot
        try unfold wpX10_isSlot
        try unfold wpX10_isBank
        refine ifn (i_nlt (k := 0) (by decide +kernel) (by omega)) ?_
        refine ifn (i_nge (k := 2) (by decide +kernel) (by omega)) ?_
        refine ifn (by decide +kernel) ?_
        refine ifn (i_nlt (k := 0) (by decide +kernel) (by omega)) ?_
        refine ifn (i_nge (k := 8) (by decide +kernel) (by omega)) ?_
        refine ifn (by decide +kernel) ?_
        refine And.intro (by decide +kernel) ?_
        refine ifn (i_nge (k := 5) (by decide +kernel) (by omega)) ?_
        refine ifn (by decide +kernel) ?_
        refine ifp (i_lt (k := 0) (by decide +kernel) (by omega)) ?_
        refine H _ _ _ (fun post2 h2 => ?_)
        try unfold wpX11_saw
        try unfold wpX11_isLot
        try unfold wpX11_isBank
        try unfold wpX11_in
        refine ifn (lc_nlt (k := 0) (by decide +kernel) (by rw [Int32.toInt_toInt64]; omega)) ?_
        refine ifn (lc_ngt (k := 1) (by decide +kernel) (by rw [Int32.toInt_toInt64]; omega)) ?_
        refine And.intro (by decide +kernel) ?_
        refine ifn (by decide +kernel) ?_
        try unfold wpX11_in
        refine ifn (lc_nlt (k := 0) (by decide +kernel) (by rw [Int32.toInt_toInt64]; omega)) ?_
        refine ifn (lc_ngt (k := 4) (by decide +kernel) (by rw [Int32.toInt_toInt64]; omega)) ?_
        refine ifn (by decide +kernel) ?_
        refine ifn (by decide +kernel) ?_
        try unfold wpX11_in
        refine ifp (lc_lt (k := 0) (by decide +kernel) (by rw [Int32.toInt_toInt64]; omega)) ?_
        refine ifp (by decide +kernel) ?_
        exact fin2 h2 (by first | rfl | decide +kernel)
      · skip
        obtain ⟨cv1, rfl, hcv1⟩ := code_of (hi := 1) hv1 (by decide)
        obtain ⟨cv2, rfl, hcv2⟩ := code_of (hi := 4) hv2 (by decide)
        obtain ⟨cv3, rfl, hcv3⟩ := code_of (hi := 23) hv3 (by decide)
        exact ev_saw0 (he_saw0 cv1 hcv1 cv2 hcv2 cv3 hcv3) post1 H
      · skip
        try unfold wpX10_saw
        try unfold wpX1_isLot
        try unfold wpX10_isSlot
        try unfold wpX10_isBank
        refine ifn (i_nlt (k := 0) (by decide +kernel) (by omega)) ?_
        refine ifn (i_nge (k := 2) (by decide +kernel) (by omega)) ?_
        refine ifn (by decide +kernel) ?_
        refine ifn (i_nlt (k := 0) (by decide +kernel) (by omega)) ?_
        refine ifn (i_nge (k := 8) (by decide +kernel) (by omega)) ?_
        refine ifn (by decide +kernel) ?_
        refine And.intro (by decide +kernel) ?_
        refine ifn (i_nge (k := 5) (by decide +kernel) (by omega)) ?_
        refine ifn (by decide +kernel) ?_
        refine ifn (i_nlt (k := 0) (by decide +kernel) (by omega)) ?_
        refine ifn (i_nlt (k := 24) (by decide +kernel) (by omega)) ?_
        refine H _ _ _ (fun post2 h2 => ?_)
        try unfold wpX11_saw
        try unfold wpX11_isLot
        try unfold wpX11_isBank
        try unfold wpX11_in
        refine ifn (lc_nlt (k := 0) (by decide +kernel) (by rw [Int32.toInt_toInt64]; omega)) ?_
        refine ifn (lc_ngt (k := 1) (by decide +kernel) (by rw [Int32.toInt_toInt64]; omega)) ?_
        refine And.intro (by decide +kernel) ?_
        refine ifn (by decide +kernel) ?_
        try unfold wpX11_in
        refine ifn (lc_nlt (k := 0) (by decide +kernel) (by rw [Int32.toInt_toInt64]; omega)) ?_
        refine ifn (lc_ngt (k := 4) (by decide +kernel) (by rw [Int32.toInt_toInt64]; omega)) ?_
        refine ifn (by decide +kernel) ?_
        refine ifn (by decide +kernel) ?_
        try unfold wpX11_in
        refine ifn (lc_nlt (k := 0) (by decide +kernel) (by rw [Int32.toInt_toInt64]; omega)) ?_
        refine ifp (lc_gt (k := 23) (by decide +kernel) (by rw [Int32.toInt_toInt64]; omega)) ?_
        refine ifp (by decide +kernel) ?_
        exact fin2 h2 (by first | rfl | decide +kernel)
    · skip
      try unfold wpX10_saw
      try unfold wpX1_isLot
      try unfold wpX10_isSlot
      try unfold wpX10_isBank
      refine ifn (i_nlt (k := 0) (by decide +kernel) (by omega)) ?_
      refine ifn (i_nge (k := 2) (by decide +kernel) (by omega)) ?_
      refine ifn (by decide +kernel) ?_
      refine ifn (i_nlt (k := 0) (by decide +kernel) (by omega)) ?_
      refine ifs (fun hc => ?_) (fun hc => ?_)
      · have hk1 := i_ge_to (k := 8) (by decide +kernel) hc
        refine ifp (by decide +kernel) ?_
        refine ifp (by decide +kernel) ?_
        refine H _ _ _ (fun post2 h2 => ?_)
        try unfold wpX11_saw
        try unfold wpX11_isLot
        try unfold wpX11_isBank
        try unfold wpX11_in
        refine ifn (lc_nlt (k := 0) (by decide +kernel) (by rw [Int32.toInt_toInt64]; omega)) ?_
        refine ifn (lc_ngt (k := 1) (by decide +kernel) (by rw [Int32.toInt_toInt64]; omega)) ?_
        refine And.intro (by decide +kernel) ?_
        refine ifn (by decide +kernel) ?_
        try unfold wpX11_in
        refine ifn (lc_nlt (k := 0) (by decide +kernel) (by rw [Int32.toInt_toInt64]; omega)) ?_
        refine ifp (lc_gt (k := 4) (by decide +kernel) (by rw [Int32.toInt_toInt64]; omega)) ?_
        refine ifp (by decide +kernel) ?_
        refine ifp (by decide +kernel) ?_
        exact fin2 h2 (by first | rfl | decide +kernel)
      · have hk2 := i_nge_to (k := 8) (by decide +kernel) hc
        refine ifn (by decide +kernel) ?_
        refine And.intro (by decide +kernel) ?_
        refine ifp (i_ge (k := 5) (by decide +kernel) (by omega)) ?_
        refine ifp (by decide +kernel) ?_
        refine H _ _ _ (fun post2 h2 => ?_)
        try unfold wpX11_saw
        try unfold wpX11_isLot
        try unfold wpX11_isBank
        try unfold wpX11_in
        refine ifn (lc_nlt (k := 0) (by decide +kernel) (by rw [Int32.toInt_toInt64]; omega)) ?_
        refine ifn (lc_ngt (k := 1) (by decide +kernel) (by rw [Int32.toInt_toInt64]; omega)) ?_
        refine And.intro (by decide +kernel) ?_
        refine ifn (by decide +kernel) ?_
        try unfold wpX11_in
        refine ifn (lc_nlt (k := 0) (by decide +kernel) (by rw [Int32.toInt_toInt64]; omega)) ?_
        refine ifp (lc_gt (k := 4) (by decide +kernel) (by rw [Int32.toInt_toInt64]; omega)) ?_
        refine ifp (by decide +kernel) ?_
        refine ifp (by decide +kernel) ?_
        exact fin2 h2 (by first | rfl | decide +kernel)
  · skip
    try unfold wpX10_saw
    try unfold wpX1_isLot
    try unfold wpX10_isSlot
    try unfold wpX10_isBank
    refine ifn (i_nlt (k := 0) (by decide +kernel) (by omega)) ?_
    refine ifp (i_ge (k := 2) (by decide +kernel) (by omega)) ?_
    refine ifp (by decide +kernel) ?_
    refine ifp (by decide +kernel) ?_
    refine ifp (by decide +kernel) ?_
    refine H _ _ _ (fun post2 h2 => ?_)
    try unfold wpX11_saw
    try unfold wpX11_isLot
    try unfold wpX11_isBank
    try unfold wpX11_in
    refine ifn (lc_nlt (k := 0) (by decide +kernel) (by rw [Int32.toInt_toInt64]; omega)) ?_
    refine ifp (lc_gt (k := 1) (by decide +kernel) (by rw [Int32.toInt_toInt64]; omega)) ?_
    refine And.intro (by decide +kernel) ?_
    refine ifp (by decide +kernel) ?_
    refine ifp (by decide +kernel) ?_
    exact fin2 h2 (by first | rfl | decide +kernel)
theorem ev_saw1 {cv1 cv2 cv3 : Nat} (he : epX10_saw (fun cr cM ct => epX11_saw (fun c2 _ _ => eqN cr c2) cM ct cv1 cv2 cv3 1) uM0 0 cv1 cv2 cv3 1 = true) (post1 : Int32 → MM → Int64 → Prop) (H : ∀ r1 M1 t1, (∀ post2 : Int32 → MM → Int64 → Prop, (∀ M2 t2, post2 r1 M2 t2) → wpX11_saw post2 M1 t1 (nI cv1) (nI cv2) (nI cv3) (1 : Int32)) → post1 r1 M1 t1) : wpX10_saw post1 M0 0 (nI cv1) (nI cv2) (nI cv3) (1 : Int32) :=
  spX10_saw (q := fun cr cM ct => epX11_saw (fun c2 _ _ => eqN cr c2) cM ct cv1 cv2 cv3 1) (fun r M tl cr cM ct hr hM ht h => H r M tl (fun post2 h2 => spX11_saw (q := fun c2 _ _ => eqN cr c2) (fun r2 M2 t2 cr2 cM2 ct2 hr2 _ _ hh => fin2 h2 ((c_eq hr hr2).mpr hh)) hM ht rfl rfl rfl rfl h)) dM0 rfl rfl rfl rfl rfl he
set_option maxRecDepth 100000 in
theorem he_saw1 : ∀ cv1, cv1 < 2 → ∀ cv2, cv2 < 5 → ∀ cv3, cv3 < 24 → epX10_saw (fun cr cM ct => epX11_saw (fun c2 _ _ => eqN cr c2) cM ct cv1 cv2 cv3 1) uM0 0 cv1 cv2 cv3 1 = true := by decide +kernel
set_option maxHeartbeats 4000000 in
set_option maxRecDepth 20000 in
theorem p_saw1 (v1 v2 v3 : Int32) (post1 : Int32 → MM → Int64 → Prop) (H : ∀ r1 M1 t1, (∀ post2 : Int32 → MM → Int64 → Prop, (∀ M2 t2, post2 r1 M2 t2) → wpX11_saw post2 M1 t1 v1 v2 v3 (1 : Int32)) → post1 r1 M1 t1) : wpX10_saw post1 M0 0 v1 v2 v3 (1 : Int32) := by
  rcases tri v1 0 1 with hv1 | hv1 | hv1
  · skip
    try unfold wpX10_saw
    try unfold wpX1_isLot
    try unfold wpX10_isSlot
    try unfold wpX10_isBank
    refine ifp (i_lt (k := 0) (by decide +kernel) (by omega)) ?_
    refine ifp (by decide +kernel) ?_
    refine ifp (by decide +kernel) ?_
    refine ifp (by decide +kernel) ?_
    refine H _ _ _ (fun post2 h2 => ?_)
    try unfold wpX11_saw
    try unfold wpX11_isLot
    try unfold wpX11_isBank
    try unfold wpX11_in
    refine ifp (lc_lt (k := 0) (by decide +kernel) (by rw [Int32.toInt_toInt64]; omega)) ?_
    refine And.intro (by decide +kernel) ?_
    refine ifp (by decide +kernel) ?_
    refine ifp (by decide +kernel) ?_
    exact fin2 h2 (by first | rfl | decide +kernel)
  · skip
    rcases tri v2 0 4 with hv2 | hv2 | hv2
    · skip
      try unfold wpX10_saw
      try unfold wpX1_isLot
      try unfold wpX10_isSlot
      try unfold wpX10_isBank
      refine ifn (i_nlt (k := 0) (by decide +kernel) (by omega)) ?_
      refine ifn (i_nge (k := 2) (by decide +kernel) (by omega)) ?_
      refine ifn (by decide +kernel) ?_
      refine ifp (i_lt (k := 0) (by decide +kernel) (by omega)) ?_
      refine ifp (by decide +kernel) ?_
      refine ifp (by decide +kernel) ?_
      refine H _ _ _ (fun post2 h2 => ?_)
      try unfold wpX11_saw
      try unfold wpX11_isLot
      try unfold wpX11_isBank
      try unfold wpX11_in
      refine ifn (lc_nlt (k := 0) (by decide +kernel) (by rw [Int32.toInt_toInt64]; omega)) ?_
      refine ifn (lc_ngt (k := 1) (by decide +kernel) (by rw [Int32.toInt_toInt64]; omega)) ?_
      refine And.intro (by decide +kernel) ?_
      refine ifn (by decide +kernel) ?_
      try unfold wpX11_in
      refine ifp (lc_lt (k := 0) (by decide +kernel) (by rw [Int32.toInt_toInt64]; omega)) ?_
      refine ifp (by decide +kernel) ?_
      refine ifp (by decide +kernel) ?_
      exact fin2 h2 (by first | rfl | decide +kernel)
    · skip
      rcases tri v3 0 23 with hv3 | hv3 | hv3
      · skip
        try unfold wpX10_saw
        try unfold wpX1_isLot
        try unfold wpX10_isSlot
        try unfold wpX10_isBank
        refine ifn (i_nlt (k := 0) (by decide +kernel) (by omega)) ?_
        refine ifn (i_nge (k := 2) (by decide +kernel) (by omega)) ?_
        refine ifn (by decide +kernel) ?_
        refine ifn (i_nlt (k := 0) (by decide +kernel) (by omega)) ?_
        refine ifn (i_nge (k := 8) (by decide +kernel) (by omega)) ?_
        refine ifn (by decide +kernel) ?_
        refine And.intro (by decide +kernel) ?_
        refine ifn (i_nge (k := 5) (by decide +kernel) (by omega)) ?_
        refine ifn (by decide +kernel) ?_
        refine ifp (i_lt (k := 0) (by decide +kernel) (by omega)) ?_
        refine H _ _ _ (fun post2 h2 => ?_)
        try unfold wpX11_saw
        try unfold wpX11_isLot
        try unfold wpX11_isBank
        try unfold wpX11_in
        refine ifn (lc_nlt (k := 0) (by decide +kernel) (by rw [Int32.toInt_toInt64]; omega)) ?_
        refine ifn (lc_ngt (k := 1) (by decide +kernel) (by rw [Int32.toInt_toInt64]; omega)) ?_
        refine And.intro (by decide +kernel) ?_
        refine ifn (by decide +kernel) ?_
        try unfold wpX11_in
        refine ifn (lc_nlt (k := 0) (by decide +kernel) (by rw [Int32.toInt_toInt64]; omega)) ?_
        refine ifn (lc_ngt (k := 4) (by decide +kernel) (by rw [Int32.toInt_toInt64]; omega)) ?_
        refine ifn (by decide +kernel) ?_
        refine ifn (by decide +kernel) ?_
        try unfold wpX11_in
        refine ifp (lc_lt (k := 0) (by decide +kernel) (by rw [Int32.toInt_toInt64]; omega)) ?_
        refine ifp (by decide +kernel) ?_
        exact fin2 h2 (by first | rfl | decide +kernel)
      · skip
        obtain ⟨cv1, rfl, hcv1⟩ := code_of (hi := 1) hv1 (by decide)
        obtain ⟨cv2, rfl, hcv2⟩ := code_of (hi := 4) hv2 (by decide)
        obtain ⟨cv3, rfl, hcv3⟩ := code_of (hi := 23) hv3 (by decide)
        exact ev_saw1 (he_saw1 cv1 hcv1 cv2 hcv2 cv3 hcv3) post1 H
      · skip
        try unfold wpX10_saw
        try unfold wpX1_isLot
        try unfold wpX10_isSlot
        try unfold wpX10_isBank
        refine ifn (i_nlt (k := 0) (by decide +kernel) (by omega)) ?_
        refine ifn (i_nge (k := 2) (by decide +kernel) (by omega)) ?_
        refine ifn (by decide +kernel) ?_
        refine ifn (i_nlt (k := 0) (by decide +kernel) (by omega)) ?_
        refine ifn (i_nge (k := 8) (by decide +kernel) (by omega)) ?_
        refine ifn (by decide +kernel) ?_
        refine And.intro (by decide +kernel) ?_
        refine ifn (i_nge (k := 5) (by decide +kernel) (by omega)) ?_
        refine ifn (by decide +kernel) ?_
        refine ifn (i_nlt (k := 0) (by decide +kernel) (by omega)) ?_
        refine ifn (i_nlt (k := 24) (by decide +kernel) (by omega)) ?_
        refine H _ _ _ (fun post2 h2 => ?_)
        try unfold wpX11_saw
        try unfold wpX11_isLot
        try unfold wpX11_isBank
        try unfold wpX11_in
        refine ifn (lc_nlt (k := 0) (by decide +kernel) (by rw [Int32.toInt_toInt64]; omega)) ?_
        refine ifn (lc_ngt (k := 1) (by decide +kernel) (by rw [Int32.toInt_toInt64]; omega)) ?_
        refine And.intro (by decide +kernel) ?_
        refine ifn (by decide +kernel) ?_
        try unfold wpX11_in
        refine ifn (lc_nlt (k := 0) (by decide +kernel) (by rw [Int32.toInt_toInt64]; omega)) ?_
        refine ifn (lc_ngt (k := 4) (by decide +kernel) (by rw [Int32.toInt_toInt64]; omega)) ?_
        refine ifn (by decide +kernel) ?_
        refine ifn (by decide +kernel) ?_
        try unfold wpX11_in
        refine ifn (lc_nlt (k := 0) (by decide +kernel) (by rw [Int32.toInt_toInt64]; omega)) ?_
        refine ifp (lc_gt (k := 23) (by decide +kernel) (by rw [Int32.toInt_toInt64]; omega)) ?_
        refine ifp (by decide +kernel) ?_
        exact fin2 h2 (by first | rfl | decide +kernel)
    · skip
      try unfold wpX10_saw
      try unfold wpX1_isLot
      try unfold wpX10_isSlot
      try unfold wpX10_isBank
      refine ifn (i_nlt (k := 0) (by decide +kernel) (by omega)) ?_
      refine ifn (i_nge (k := 2) (by decide +kernel) (by omega)) ?_
      refine ifn (by decide +kernel) ?_
      refine ifn (i_nlt (k := 0) (by decide +kernel) (by omega)) ?_
      refine ifs (fun hc => ?_) (fun hc => ?_)
      · have hk1 := i_ge_to (k := 8) (by decide +kernel) hc
        refine ifp (by decide +kernel) ?_
        refine ifp (by decide +kernel) ?_
        refine H _ _ _ (fun post2 h2 => ?_)
        try unfold wpX11_saw
        try unfold wpX11_isLot
        try unfold wpX11_isBank
        try unfold wpX11_in
        refine ifn (lc_nlt (k := 0) (by decide +kernel) (by rw [Int32.toInt_toInt64]; omega)) ?_
        refine ifn (lc_ngt (k := 1) (by decide +kernel) (by rw [Int32.toInt_toInt64]; omega)) ?_
        refine And.intro (by decide +kernel) ?_
        refine ifn (by decide +kernel) ?_
        try unfold wpX11_in
        refine ifn (lc_nlt (k := 0) (by decide +kernel) (by rw [Int32.toInt_toInt64]; omega)) ?_
        refine ifp (lc_gt (k := 4) (by decide +kernel) (by rw [Int32.toInt_toInt64]; omega)) ?_
        refine ifp (by decide +kernel) ?_
        refine ifp (by decide +kernel) ?_
        exact fin2 h2 (by first | rfl | decide +kernel)
      · have hk2 := i_nge_to (k := 8) (by decide +kernel) hc
        refine ifn (by decide +kernel) ?_
        refine And.intro (by decide +kernel) ?_
        refine ifp (i_ge (k := 5) (by decide +kernel) (by omega)) ?_
        refine ifp (by decide +kernel) ?_
        refine H _ _ _ (fun post2 h2 => ?_)
        try unfold wpX11_saw
        try unfold wpX11_isLot
        try unfold wpX11_isBank
        try unfold wpX11_in
        refine ifn (lc_nlt (k := 0) (by decide +kernel) (by rw [Int32.toInt_toInt64]; omega)) ?_
        refine ifn (lc_ngt (k := 1) (by decide +kernel) (by rw [Int32.toInt_toInt64]; omega)) ?_
        refine And.intro (by decide +kernel) ?_
        refine ifn (by decide +kernel) ?_
        try unfold wpX11_in
        refine ifn (lc_nlt (k := 0) (by decide +kernel) (by rw [Int32.toInt_toInt64]; omega)) ?_
        refine ifp (lc_gt (k := 4) (by decide +kernel) (by rw [Int32.toInt_toInt64]; omega)) ?_
        refine ifp (by decide +kernel) ?_
        refine ifp (by decide +kernel) ?_
        exact fin2 h2 (by first | rfl | decide +kernel)
  · skip
    try unfold wpX10_saw
    try unfold wpX1_isLot
    try unfold wpX10_isSlot
    try unfold wpX10_isBank
    refine ifn (i_nlt (k := 0) (by decide +kernel) (by omega)) ?_
    refine ifp (i_ge (k := 2) (by decide +kernel) (by omega)) ?_
    refine ifp (by decide +kernel) ?_
    refine ifp (by decide +kernel) ?_
    refine ifp (by decide +kernel) ?_
    refine H _ _ _ (fun post2 h2 => ?_)
    try unfold wpX11_saw
    try unfold wpX11_isLot
    try unfold wpX11_isBank
    try unfold wpX11_in
    refine ifn (lc_nlt (k := 0) (by decide +kernel) (by rw [Int32.toInt_toInt64]; omega)) ?_
    refine ifp (lc_gt (k := 1) (by decide +kernel) (by rw [Int32.toInt_toInt64]; omega)) ?_
    refine And.intro (by decide +kernel) ?_
    refine ifp (by decide +kernel) ?_
    refine ifp (by decide +kernel) ?_
    exact fin2 h2 (by first | rfl | decide +kernel)
theorem ev_forget (he : epX10_forget (fun cr cM ct => epX11_forget (fun c2 _ _ => eqN cr c2) cM ct ) uM0 0  = true) (post1 : Int32 → MM → Int64 → Prop) (H : ∀ r1 M1 t1, (∀ post2 : Int32 → MM → Int64 → Prop, (∀ M2 t2, post2 r1 M2 t2) → wpX11_forget post2 M1 t1 ) → post1 r1 M1 t1) : wpX10_forget post1 M0 0  :=
  spX10_forget (q := fun cr cM ct => epX11_forget (fun c2 _ _ => eqN cr c2) cM ct ) (fun r M tl cr cM ct hr hM ht h => H r M tl (fun post2 h2 => spX11_forget (q := fun c2 _ _ => eqN cr c2) (fun r2 M2 t2 cr2 cM2 ct2 hr2 _ _ hh => fin2 h2 ((c_eq hr hr2).mpr hh)) hM ht  h)) dM0 rfl  he
set_option maxRecDepth 100000 in
theorem he_forget : epX10_forget (fun cr cM ct => epX11_forget (fun c2 _ _ => eqN cr c2) cM ct ) uM0 0  = true := by decide +kernel
set_option maxHeartbeats 4000000 in
set_option maxRecDepth 20000 in
theorem p_forget  (post1 : Int32 → MM → Int64 → Prop) (H : ∀ r1 M1 t1, (∀ post2 : Int32 → MM → Int64 → Prop, (∀ M2 t2, post2 r1 M2 t2) → wpX11_forget post2 M1 t1 ) → post1 r1 M1 t1) : wpX10_forget post1 M0 0  := by
  exact ev_forget (he_forget) post1 H
theorem ev_histories {cv1 : Nat} (he : epX10_histories (fun cr cM ct => epX11_histories (fun c2 _ _ => Nat.beq (sh64 cr) (sh64 c2)) cM ct cv1) uM0 0 cv1 = true) (post1 : Int64 → MM → Int64 → Prop) (H : ∀ r1 M1 t1, (∀ post2 : Int64 → MM → Int64 → Prop, (∀ M2 t2, post2 r1 M2 t2) → wpX11_histories post2 M1 t1 (nI cv1)) → post1 r1 M1 t1) : wpX10_histories post1 M0 0 (nI cv1) :=
  spX10_histories (q := fun cr cM ct => epX11_histories (fun c2 _ _ => Nat.beq (sh64 cr) (sh64 c2)) cM ct cv1) (fun r M tl cr cM ct hr hM ht h => H r M tl (fun post2 h2 => spX11_histories (q := fun c2 _ _ => Nat.beq (sh64 cr) (sh64 c2)) (fun r2 M2 t2 cr2 cM2 ct2 hr2 _ _ hh => fin2 h2 ((by rw [hr, hr2]; exact (cmp_2 _ _).mpr hh))) hM ht rfl h)) dM0 rfl rfl he
set_option maxRecDepth 100000 in
theorem he_histories : ∀ cv1, cv1 < 24 → epX10_histories (fun cr cM ct => epX11_histories (fun c2 _ _ => Nat.beq (sh64 cr) (sh64 c2)) cM ct cv1) uM0 0 cv1 = true := by decide +kernel
set_option maxHeartbeats 4000000 in
set_option maxRecDepth 20000 in
theorem p_histories (v1 : Int32) (post1 : Int64 → MM → Int64 → Prop) (H : ∀ r1 M1 t1, (∀ post2 : Int64 → MM → Int64 → Prop, (∀ M2 t2, post2 r1 M2 t2) → wpX11_histories post2 M1 t1 v1) → post1 r1 M1 t1) : wpX10_histories post1 M0 0 v1 := by
  rcases tri v1 0 23 with hv1 | hv1 | hv1
  · skip
    try unfold wpX10_histories
    refine ifp (i_lt (k := 0) (by decide +kernel) (by omega)) ?_
    refine H _ _ _ (fun post2 h2 => ?_)
    try unfold wpX11_histories
    try unfold wpX11_in
    refine ifp (lc_lt (k := 0) (by decide +kernel) (by rw [Int32.toInt_toInt64]; omega)) ?_
    refine ifp (by decide +kernel) ?_
    exact fin2 h2 (by first | rfl | decide +kernel)
  · skip
    obtain ⟨cv1, rfl, hcv1⟩ := code_of (hi := 23) hv1 (by decide)
    exact ev_histories (he_histories cv1 hcv1) post1 H
  · skip
    try unfold wpX10_histories
    refine ifn (i_nlt (k := 0) (by decide +kernel) (by omega)) ?_
    refine ifn (i_nlt (k := 24) (by decide +kernel) (by omega)) ?_
    refine H _ _ _ (fun post2 h2 => ?_)
    try unfold wpX11_histories
    try unfold wpX11_in
    refine ifn (lc_nlt (k := 0) (by decide +kernel) (by rw [Int32.toInt_toInt64]; omega)) ?_
    refine ifp (lc_gt (k := 23) (by decide +kernel) (by rw [Int32.toInt_toInt64]; omega)) ?_
    refine ifp (by decide +kernel) ?_
    exact fin2 h2 (by first | rfl | decide +kernel)
theorem ev_began {cv1 cv2 cv3 : Nat} (he : epX10_began (fun cr cM ct => epX11_began (fun c2 _ _ => eqN cr c2) cM ct cv1 cv2 cv3) uM0 0 cv1 cv2 cv3 = true) (post1 : Int32 → MM → Int64 → Prop) (H : ∀ r1 M1 t1, (∀ post2 : Int32 → MM → Int64 → Prop, (∀ M2 t2, post2 r1 M2 t2) → wpX11_began post2 M1 t1 (nI cv1) (nI cv2) (nI cv3)) → post1 r1 M1 t1) : wpX10_began post1 M0 0 (nI cv1) (nI cv2) (nI cv3) :=
  spX10_began (q := fun cr cM ct => epX11_began (fun c2 _ _ => eqN cr c2) cM ct cv1 cv2 cv3) (fun r M tl cr cM ct hr hM ht h => H r M tl (fun post2 h2 => spX11_began (q := fun c2 _ _ => eqN cr c2) (fun r2 M2 t2 cr2 cM2 ct2 hr2 _ _ hh => fin2 h2 ((c_eq hr hr2).mpr hh)) hM ht rfl rfl rfl h)) dM0 rfl rfl rfl rfl he
set_option maxRecDepth 100000 in
theorem he_began : ∀ cv1, cv1 < 5 → ∀ cv2, cv2 < 24 → ∀ cv3, cv3 < 3 → epX10_began (fun cr cM ct => epX11_began (fun c2 _ _ => eqN cr c2) cM ct cv1 cv2 cv3) uM0 0 cv1 cv2 cv3 = true := by decide +kernel
set_option maxHeartbeats 4000000 in
set_option maxRecDepth 20000 in
theorem p_began (v1 v2 v3 : Int32) (post1 : Int32 → MM → Int64 → Prop) (H : ∀ r1 M1 t1, (∀ post2 : Int32 → MM → Int64 → Prop, (∀ M2 t2, post2 r1 M2 t2) → wpX11_began post2 M1 t1 v1 v2 v3) → post1 r1 M1 t1) : wpX10_began post1 M0 0 v1 v2 v3 := by
  rcases tri v1 0 4 with hv1 | hv1 | hv1
  · skip
    try unfold wpX10_began
    try unfold wpX1_isLot
    try unfold wpX10_isSlot
    try unfold wpX10_isBank
    refine ifn (by decide +kernel) ?_
    refine ifn (by decide +kernel) ?_
    refine ifn (by decide +kernel) ?_
    refine ifp (i_lt (k := 0) (by decide +kernel) (by omega)) ?_
    refine ifp (by decide +kernel) ?_
    refine ifp (by decide +kernel) ?_
    refine H _ _ _ (fun post2 h2 => ?_)
    try unfold wpX11_began
    try unfold wpX11_isLot
    try unfold wpX11_isBank
    try unfold wpX11_in
    refine ifn (by decide +kernel) ?_
    refine ifn (by decide +kernel) ?_
    refine And.intro (by decide +kernel) ?_
    refine ifn (by decide +kernel) ?_
    try unfold wpX11_in
    refine ifp (lc_lt (k := 0) (by decide +kernel) (by rw [Int32.toInt_toInt64]; omega)) ?_
    refine ifp (by decide +kernel) ?_
    refine ifp (by decide +kernel) ?_
    exact fin2 h2 (by first | rfl | decide +kernel)
  · skip
    rcases tri v2 0 23 with hv2 | hv2 | hv2
    · skip
      try unfold wpX10_began
      try unfold wpX1_isLot
      try unfold wpX10_isSlot
      try unfold wpX10_isBank
      refine ifn (by decide +kernel) ?_
      refine ifn (by decide +kernel) ?_
      refine ifn (by decide +kernel) ?_
      refine ifn (i_nlt (k := 0) (by decide +kernel) (by omega)) ?_
      refine ifn (i_nge (k := 8) (by decide +kernel) (by omega)) ?_
      refine ifn (by decide +kernel) ?_
      refine And.intro (by decide +kernel) ?_
      refine ifn (i_nge (k := 5) (by decide +kernel) (by omega)) ?_
      refine ifn (by decide +kernel) ?_
      refine ifp (i_lt (k := 0) (by decide +kernel) (by omega)) ?_
      refine H _ _ _ (fun post2 h2 => ?_)
      try unfold wpX11_began
      try unfold wpX11_isLot
      try unfold wpX11_isBank
      try unfold wpX11_in
      refine ifn (by decide +kernel) ?_
      refine ifn (by decide +kernel) ?_
      refine And.intro (by decide +kernel) ?_
      refine ifn (by decide +kernel) ?_
      try unfold wpX11_in
      refine ifn (lc_nlt (k := 0) (by decide +kernel) (by rw [Int32.toInt_toInt64]; omega)) ?_
      refine ifn (lc_ngt (k := 4) (by decide +kernel) (by rw [Int32.toInt_toInt64]; omega)) ?_
      refine ifn (by decide +kernel) ?_
      refine ifn (by decide +kernel) ?_
      try unfold wpX11_in
      refine ifp (lc_lt (k := 0) (by decide +kernel) (by rw [Int32.toInt_toInt64]; omega)) ?_
      refine ifp (by decide +kernel) ?_
      exact fin2 h2 (by first | rfl | decide +kernel)
    · skip
      rcases tri v3 0 2 with hv3 | hv3 | hv3
      · skip
        try unfold wpX10_began
        try unfold wpX1_isLot
        try unfold wpX10_isSlot
        try unfold wpX10_isBank
        refine ifn (by decide +kernel) ?_
        refine ifn (by decide +kernel) ?_
        refine ifn (by decide +kernel) ?_
        refine ifn (i_nlt (k := 0) (by decide +kernel) (by omega)) ?_
        refine ifn (i_nge (k := 8) (by decide +kernel) (by omega)) ?_
        refine ifn (by decide +kernel) ?_
        refine And.intro (by decide +kernel) ?_
        refine ifn (i_nge (k := 5) (by decide +kernel) (by omega)) ?_
        refine ifn (by decide +kernel) ?_
        refine ifn (i_nlt (k := 0) (by decide +kernel) (by omega)) ?_
        refine ifn (i_nge (k := 24) (by decide +kernel) (by omega)) ?_
        refine ifp (i_lt (k := 0) (by decide +kernel) (by omega)) ?_
        refine H _ _ _ (fun post2 h2 => ?_)
        try unfold wpX11_began
        try unfold wpX11_isLot
        try unfold wpX11_isBank
        try unfold wpX11_in
        refine ifn (by decide +kernel) ?_
        refine ifn (by decide +kernel) ?_
        refine And.intro (by decide +kernel) ?_
        refine ifn (by decide +kernel) ?_
        try unfold wpX11_in
        refine ifn (lc_nlt (k := 0) (by decide +kernel) (by rw [Int32.toInt_toInt64]; omega)) ?_
        refine ifn (lc_ngt (k := 4) (by decide +kernel) (by rw [Int32.toInt_toInt64]; omega)) ?_
        refine ifn (by decide +kernel) ?_
        refine ifn (by decide +kernel) ?_
        try unfold wpX11_in
        refine ifn (lc_nlt (k := 0) (by decide +kernel) (by rw [Int32.toInt_toInt64]; omega)) ?_
        refine ifn (lc_ngt (k := 23) (by decide +kernel) (by rw [Int32.toInt_toInt64]; omega)) ?_
        refine ifn (by decide +kernel) ?_
        try unfold wpX11_in
        refine ifp (lc_lt (k := 0) (by decide +kernel) (by rw [Int32.toInt_toInt64]; omega)) ?_
        refine ifp (by decide +kernel) ?_
        exact fin2 h2 (by first | rfl | decide +kernel)
      · skip
        obtain ⟨cv1, rfl, hcv1⟩ := code_of (hi := 4) hv1 (by decide)
        obtain ⟨cv2, rfl, hcv2⟩ := code_of (hi := 23) hv2 (by decide)
        obtain ⟨cv3, rfl, hcv3⟩ := code_of (hi := 2) hv3 (by decide)
        exact ev_began (he_began cv1 hcv1 cv2 hcv2 cv3 hcv3) post1 H
      · skip
        try unfold wpX10_began
        try unfold wpX1_isLot
        try unfold wpX10_isSlot
        try unfold wpX10_isBank
        refine ifn (by decide +kernel) ?_
        refine ifn (by decide +kernel) ?_
        refine ifn (by decide +kernel) ?_
        refine ifn (i_nlt (k := 0) (by decide +kernel) (by omega)) ?_
        refine ifn (i_nge (k := 8) (by decide +kernel) (by omega)) ?_
        refine ifn (by decide +kernel) ?_
        refine And.intro (by decide +kernel) ?_
        refine ifn (i_nge (k := 5) (by decide +kernel) (by omega)) ?_
        refine ifn (by decide +kernel) ?_
        refine ifn (i_nlt (k := 0) (by decide +kernel) (by omega)) ?_
        refine ifn (i_nge (k := 24) (by decide +kernel) (by omega)) ?_
        refine ifn (i_nlt (k := 0) (by decide +kernel) (by omega)) ?_
        refine ifn (i_nle (k := 2) (by decide +kernel) (by omega)) ?_
        refine H _ _ _ (fun post2 h2 => ?_)
        try unfold wpX11_began
        try unfold wpX11_isLot
        try unfold wpX11_isBank
        try unfold wpX11_in
        refine ifn (by decide +kernel) ?_
        refine ifn (by decide +kernel) ?_
        refine And.intro (by decide +kernel) ?_
        refine ifn (by decide +kernel) ?_
        try unfold wpX11_in
        refine ifn (lc_nlt (k := 0) (by decide +kernel) (by rw [Int32.toInt_toInt64]; omega)) ?_
        refine ifn (lc_ngt (k := 4) (by decide +kernel) (by rw [Int32.toInt_toInt64]; omega)) ?_
        refine ifn (by decide +kernel) ?_
        refine ifn (by decide +kernel) ?_
        try unfold wpX11_in
        refine ifn (lc_nlt (k := 0) (by decide +kernel) (by rw [Int32.toInt_toInt64]; omega)) ?_
        refine ifn (lc_ngt (k := 23) (by decide +kernel) (by rw [Int32.toInt_toInt64]; omega)) ?_
        refine ifn (by decide +kernel) ?_
        try unfold wpX11_in
        refine ifn (lc_nlt (k := 0) (by decide +kernel) (by rw [Int32.toInt_toInt64]; omega)) ?_
        refine ifp (lc_gt (k := 2) (by decide +kernel) (by rw [Int32.toInt_toInt64]; omega)) ?_
        refine ifp (by decide +kernel) ?_
        exact fin2 h2 (by first | rfl | decide +kernel)
    · skip
      try unfold wpX10_began
      try unfold wpX1_isLot
      try unfold wpX10_isSlot
      try unfold wpX10_isBank
      refine ifn (by decide +kernel) ?_
      refine ifn (by decide +kernel) ?_
      refine ifn (by decide +kernel) ?_
      refine ifn (i_nlt (k := 0) (by decide +kernel) (by omega)) ?_
      refine ifn (i_nge (k := 8) (by decide +kernel) (by omega)) ?_
      refine ifn (by decide +kernel) ?_
      refine And.intro (by decide +kernel) ?_
      refine ifn (i_nge (k := 5) (by decide +kernel) (by omega)) ?_
      refine ifn (by decide +kernel) ?_
      refine ifn (i_nlt (k := 0) (by decide +kernel) (by omega)) ?_
      refine ifp (i_ge (k := 24) (by decide +kernel) (by omega)) ?_
      refine H _ _ _ (fun post2 h2 => ?_)
      try unfold wpX11_began
      try unfold wpX11_isLot
      try unfold wpX11_isBank
      try unfold wpX11_in
      refine ifn (by decide +kernel) ?_
      refine ifn (by decide +kernel) ?_
      refine And.intro (by decide +kernel) ?_
      refine ifn (by decide +kernel) ?_
      try unfold wpX11_in
      refine ifn (lc_nlt (k := 0) (by decide +kernel) (by rw [Int32.toInt_toInt64]; omega)) ?_
      refine ifn (lc_ngt (k := 4) (by decide +kernel) (by rw [Int32.toInt_toInt64]; omega)) ?_
      refine ifn (by decide +kernel) ?_
      refine ifn (by decide +kernel) ?_
      try unfold wpX11_in
      refine ifn (lc_nlt (k := 0) (by decide +kernel) (by rw [Int32.toInt_toInt64]; omega)) ?_
      refine ifp (lc_gt (k := 23) (by decide +kernel) (by rw [Int32.toInt_toInt64]; omega)) ?_
      refine ifp (by decide +kernel) ?_
      exact fin2 h2 (by first | rfl | decide +kernel)
  · skip
    try unfold wpX10_began
    try unfold wpX1_isLot
    try unfold wpX10_isSlot
    try unfold wpX10_isBank
    refine ifn (by decide +kernel) ?_
    refine ifn (by decide +kernel) ?_
    refine ifn (by decide +kernel) ?_
    refine ifn (i_nlt (k := 0) (by decide +kernel) (by omega)) ?_
    refine ifs (fun hc => ?_) (fun hc => ?_)
    · have hk1 := i_ge_to (k := 8) (by decide +kernel) hc
      refine ifp (by decide +kernel) ?_
      refine ifp (by decide +kernel) ?_
      refine H _ _ _ (fun post2 h2 => ?_)
      try unfold wpX11_began
      try unfold wpX11_isLot
      try unfold wpX11_isBank
      try unfold wpX11_in
      refine ifn (by decide +kernel) ?_
      refine ifn (by decide +kernel) ?_
      refine And.intro (by decide +kernel) ?_
      refine ifn (by decide +kernel) ?_
      try unfold wpX11_in
      refine ifn (lc_nlt (k := 0) (by decide +kernel) (by rw [Int32.toInt_toInt64]; omega)) ?_
      refine ifp (lc_gt (k := 4) (by decide +kernel) (by rw [Int32.toInt_toInt64]; omega)) ?_
      refine ifp (by decide +kernel) ?_
      refine ifp (by decide +kernel) ?_
      exact fin2 h2 (by first | rfl | decide +kernel)
    · have hk2 := i_nge_to (k := 8) (by decide +kernel) hc
      refine ifn (by decide +kernel) ?_
      refine And.intro (by decide +kernel) ?_
      refine ifp (i_ge (k := 5) (by decide +kernel) (by omega)) ?_
      refine ifp (by decide +kernel) ?_
      refine H _ _ _ (fun post2 h2 => ?_)
      try unfold wpX11_began
      try unfold wpX11_isLot
      try unfold wpX11_isBank
      try unfold wpX11_in
      refine ifn (by decide +kernel) ?_
      refine ifn (by decide +kernel) ?_
      refine And.intro (by decide +kernel) ?_
      refine ifn (by decide +kernel) ?_
      try unfold wpX11_in
      refine ifn (lc_nlt (k := 0) (by decide +kernel) (by rw [Int32.toInt_toInt64]; omega)) ?_
      refine ifp (lc_gt (k := 4) (by decide +kernel) (by rw [Int32.toInt_toInt64]; omega)) ?_
      refine ifp (by decide +kernel) ?_
      refine ifp (by decide +kernel) ?_
      exact fin2 h2 (by first | rfl | decide +kernel)
theorem ev_keep {cv1 : Nat} (he : epX10_keep (fun cr cM ct => epX11_keep (fun c2 _ _ => eqN cr c2) cM ct cv1) uM0 0 cv1 = true) (post1 : Int32 → MM → Int64 → Prop) (H : ∀ r1 M1 t1, (∀ post2 : Int32 → MM → Int64 → Prop, (∀ M2 t2, post2 r1 M2 t2) → wpX11_keep post2 M1 t1 (nI cv1)) → post1 r1 M1 t1) : wpX10_keep post1 M0 0 (nI cv1) :=
  spX10_keep (q := fun cr cM ct => epX11_keep (fun c2 _ _ => eqN cr c2) cM ct cv1) (fun r M tl cr cM ct hr hM ht h => H r M tl (fun post2 h2 => spX11_keep (q := fun c2 _ _ => eqN cr c2) (fun r2 M2 t2 cr2 cM2 ct2 hr2 _ _ hh => fin2 h2 ((c_eq hr hr2).mpr hh)) hM ht rfl h)) dM0 rfl rfl he
set_option maxRecDepth 100000 in
theorem he_keep : ∀ cv1, cv1 < 2 → epX10_keep (fun cr cM ct => epX11_keep (fun c2 _ _ => eqN cr c2) cM ct cv1) uM0 0 cv1 = true := by decide +kernel
set_option maxHeartbeats 4000000 in
set_option maxRecDepth 20000 in
theorem p_keep (v1 : Int32) (post1 : Int32 → MM → Int64 → Prop) (H : ∀ r1 M1 t1, (∀ post2 : Int32 → MM → Int64 → Prop, (∀ M2 t2, post2 r1 M2 t2) → wpX11_keep post2 M1 t1 v1) → post1 r1 M1 t1) : wpX10_keep post1 M0 0 v1 := by
  rcases tri v1 0 1 with hv1 | hv1 | hv1
  · skip
    try unfold wpX10_keep
    refine ifp (i_lt (k := 0) (by decide +kernel) (by omega)) ?_
    refine H _ _ _ (fun post2 h2 => ?_)
    try unfold wpX11_keep
    try unfold wpX11_in
    refine ifp (lc_lt (k := 0) (by decide +kernel) (by rw [Int32.toInt_toInt64]; omega)) ?_
    refine ifp (by decide +kernel) ?_
    exact fin2 h2 (by first | rfl | decide +kernel)
  · skip
    obtain ⟨cv1, rfl, hcv1⟩ := code_of (hi := 1) hv1 (by decide)
    exact ev_keep (he_keep cv1 hcv1) post1 H
  · skip
    try unfold wpX10_keep
    refine ifn (i_nlt (k := 0) (by decide +kernel) (by omega)) ?_
    refine ifn (i_nlt (k := 2) (by decide +kernel) (by omega)) ?_
    refine H _ _ _ (fun post2 h2 => ?_)
    try unfold wpX11_keep
    try unfold wpX11_in
    refine ifn (lc_nlt (k := 0) (by decide +kernel) (by rw [Int32.toInt_toInt64]; omega)) ?_
    refine ifp (lc_gt (k := 1) (by decide +kernel) (by rw [Int32.toInt_toInt64]; omega)) ?_
    refine ifp (by decide +kernel) ?_
    exact fin2 h2 (by first | rfl | decide +kernel)
theorem ev_back {cv1 : Nat} (he : epX10_back (fun cr cM ct => epX11_back (fun c2 _ _ => eqN cr c2) cM ct cv1) uM0 0 cv1 = true) (post1 : Int32 → MM → Int64 → Prop) (H : ∀ r1 M1 t1, (∀ post2 : Int32 → MM → Int64 → Prop, (∀ M2 t2, post2 r1 M2 t2) → wpX11_back post2 M1 t1 (nI cv1)) → post1 r1 M1 t1) : wpX10_back post1 M0 0 (nI cv1) :=
  spX10_back (q := fun cr cM ct => epX11_back (fun c2 _ _ => eqN cr c2) cM ct cv1) (fun r M tl cr cM ct hr hM ht h => H r M tl (fun post2 h2 => spX11_back (q := fun c2 _ _ => eqN cr c2) (fun r2 M2 t2 cr2 cM2 ct2 hr2 _ _ hh => fin2 h2 ((c_eq hr hr2).mpr hh)) hM ht rfl h)) dM0 rfl rfl he
set_option maxRecDepth 100000 in
theorem he_back : ∀ cv1, cv1 < 2 → epX10_back (fun cr cM ct => epX11_back (fun c2 _ _ => eqN cr c2) cM ct cv1) uM0 0 cv1 = true := by decide +kernel
set_option maxHeartbeats 4000000 in
set_option maxRecDepth 20000 in
theorem p_back (v1 : Int32) (post1 : Int32 → MM → Int64 → Prop) (H : ∀ r1 M1 t1, (∀ post2 : Int32 → MM → Int64 → Prop, (∀ M2 t2, post2 r1 M2 t2) → wpX11_back post2 M1 t1 v1) → post1 r1 M1 t1) : wpX10_back post1 M0 0 v1 := by
  rcases tri v1 0 1 with hv1 | hv1 | hv1
  · skip
    try unfold wpX10_back
    refine ifp (i_lt (k := 0) (by decide +kernel) (by omega)) ?_
    refine H _ _ _ (fun post2 h2 => ?_)
    try unfold wpX11_back
    try unfold wpX11_in
    refine ifp (lc_lt (k := 0) (by decide +kernel) (by rw [Int32.toInt_toInt64]; omega)) ?_
    refine ifp (by decide +kernel) ?_
    exact fin2 h2 (by first | rfl | decide +kernel)
  · skip
    obtain ⟨cv1, rfl, hcv1⟩ := code_of (hi := 1) hv1 (by decide)
    exact ev_back (he_back cv1 hcv1) post1 H
  · skip
    try unfold wpX10_back
    refine ifn (i_nlt (k := 0) (by decide +kernel) (by omega)) ?_
    refine ifn (i_nlt (k := 2) (by decide +kernel) (by omega)) ?_
    refine H _ _ _ (fun post2 h2 => ?_)
    try unfold wpX11_back
    try unfold wpX11_in
    refine ifn (lc_nlt (k := 0) (by decide +kernel) (by rw [Int32.toInt_toInt64]; omega)) ?_
    refine ifp (lc_gt (k := 1) (by decide +kernel) (by rw [Int32.toInt_toInt64]; omega)) ?_
    refine ifp (by decide +kernel) ?_
    exact fin2 h2 (by first | rfl | decide +kernel)
theorem ev_torn (he : epX10_torn (fun cr cM ct => epX11_torn (fun c2 _ _ => eqN cr c2) cM ct ) uM0 0  = true) (post1 : Int32 → MM → Int64 → Prop) (H : ∀ r1 M1 t1, (∀ post2 : Int32 → MM → Int64 → Prop, (∀ M2 t2, post2 r1 M2 t2) → wpX11_torn post2 M1 t1 ) → post1 r1 M1 t1) : wpX10_torn post1 M0 0  :=
  spX10_torn (q := fun cr cM ct => epX11_torn (fun c2 _ _ => eqN cr c2) cM ct ) (fun r M tl cr cM ct hr hM ht h => H r M tl (fun post2 h2 => spX11_torn (q := fun c2 _ _ => eqN cr c2) (fun r2 M2 t2 cr2 cM2 ct2 hr2 _ _ hh => fin2 h2 ((c_eq hr hr2).mpr hh)) hM ht  h)) dM0 rfl  he
set_option maxRecDepth 100000 in
theorem he_torn : epX10_torn (fun cr cM ct => epX11_torn (fun c2 _ _ => eqN cr c2) cM ct ) uM0 0  = true := by decide +kernel
set_option maxHeartbeats 4000000 in
set_option maxRecDepth 20000 in
theorem p_torn  (post1 : Int32 → MM → Int64 → Prop) (H : ∀ r1 M1 t1, (∀ post2 : Int32 → MM → Int64 → Prop, (∀ M2 t2, post2 r1 M2 t2) → wpX11_torn post2 M1 t1 ) → post1 r1 M1 t1) : wpX10_torn post1 M0 0  := by
  exact ev_torn (he_torn) post1 H
