theorem ev_third {cv1 : Nat} (he : epX10_third (fun cr cM ct => epX11_third (fun c2 _ _ => eqN cr c2) cM ct cv1) uM0 0 cv1 = true) (post1 : Int32 → MM → Int64 → Prop) (H : ∀ r1 M1 t1, (∀ post2 : Int32 → MM → Int64 → Prop, (∀ M2 t2, post2 r1 M2 t2) → wpX11_third post2 M1 t1 (nI cv1)) → post1 r1 M1 t1) : wpX10_third post1 M0 0 (nI cv1) :=
  spX10_third (q := fun cr cM ct => epX11_third (fun c2 _ _ => eqN cr c2) cM ct cv1) (fun r M tl cr cM ct hr hM ht h => H r M tl (fun post2 h2 => spX11_third (q := fun c2 _ _ => eqN cr c2) (fun r2 M2 t2 cr2 cM2 ct2 hr2 _ _ hh => fin2 h2 ((c_eq hr hr2).mpr hh)) hM ht rfl h)) dM0 rfl rfl he
set_option maxRecDepth 100000 in
theorem he_third : ∀ cv1, cv1 < 5 → epX10_third (fun cr cM ct => epX11_third (fun c2 _ _ => eqN cr c2) cM ct cv1) uM0 0 cv1 = true := by decide +kernel
set_option maxHeartbeats 4000000 in
set_option maxRecDepth 20000 in
theorem p_third (v1 : Int32) (post1 : Int32 → MM → Int64 → Prop) (H : ∀ r1 M1 t1, (∀ post2 : Int32 → MM → Int64 → Prop, (∀ M2 t2, post2 r1 M2 t2) → wpX11_third post2 M1 t1 v1) → post1 r1 M1 t1) : wpX10_third post1 M0 0 v1 := by
  rcases tri v1 0 4 with hv1 | hv1 | hv1
  · skip
    try unfold wpX10_third
    try unfold wpX1_isLot
    try unfold wpX10_isSlot
    try unfold wpX10_isBank
    refine ifn (by decide +kernel) ?_
    refine ifn (by decide +kernel) ?_
    refine ifn (by decide +kernel) ?_
    refine ifp (i_lt (k := 0) (by decide +kernel) (by omega)) ?_
    refine ifp (by decide +kernel) ?_
    refine ifp (by decide +kernel) ?_
    refine H _ _ _ (fun post2 h2 => ?_)
    try unfold wpX11_third
    try unfold wpX11_isLot
    try unfold wpX11_isBank
    try unfold wpX11_in
    refine ifn (by decide +kernel) ?_
    refine ifn (by decide +kernel) ?_
    refine And.intro (by decide +kernel) ?_
    refine ifn (by decide +kernel) ?_
    try unfold wpX11_in
    refine ifp (lc_lt (k := 0) (by decide +kernel) (by rw [Int32.toInt_toInt64]; omega)) ?_
    refine ifp (by decide +kernel) ?_
    refine ifp (by decide +kernel) ?_
    exact fin2 h2 (by first | rfl | decide +kernel)
  · skip
    obtain ⟨cv1, rfl, hcv1⟩ := code_of (hi := 4) hv1 (by decide)
    exact ev_third (he_third cv1 hcv1) post1 H
  · skip
    try unfold wpX10_third
    try unfold wpX1_isLot
    try unfold wpX10_isSlot
    try unfold wpX10_isBank
    refine ifn (by decide +kernel) ?_
    refine ifn (by decide +kernel) ?_
    refine ifn (by decide +kernel) ?_
    refine ifn (i_nlt (k := 0) (by decide +kernel) (by omega)) ?_
    refine ifs (fun hc => ?_) (fun hc => ?_)
    · have hk1 := i_ge_to (k := 8) (by decide +kernel) hc
      refine ifp (by decide +kernel) ?_
      refine ifp (by decide +kernel) ?_
      refine H _ _ _ (fun post2 h2 => ?_)
      try unfold wpX11_third
      try unfold wpX11_isLot
      try unfold wpX11_isBank
      try unfold wpX11_in
      refine ifn (by decide +kernel) ?_
      refine ifn (by decide +kernel) ?_
      refine And.intro (by decide +kernel) ?_
      refine ifn (by decide +kernel) ?_
      try unfold wpX11_in
      refine ifn (lc_nlt (k := 0) (by decide +kernel) (by rw [Int32.toInt_toInt64]; omega)) ?_
      refine ifp (lc_gt (k := 4) (by decide +kernel) (by rw [Int32.toInt_toInt64]; omega)) ?_
      refine ifp (by decide +kernel) ?_
      refine ifp (by decide +kernel) ?_
      exact fin2 h2 (by first | rfl | decide +kernel)
    · have hk2 := i_nge_to (k := 8) (by decide +kernel) hc
      refine ifn (by decide +kernel) ?_
      refine And.intro (by decide +kernel) ?_
      refine ifp (i_ge (k := 5) (by decide +kernel) (by omega)) ?_
      refine ifp (by decide +kernel) ?_
      refine H _ _ _ (fun post2 h2 => ?_)
      try unfold wpX11_third
      try unfold wpX11_isLot
      try unfold wpX11_isBank
      try unfold wpX11_in
      refine ifn (by decide +kernel) ?_
      refine ifn (by decide +kernel) ?_
      refine And.intro (by decide +kernel) ?_
      refine ifn (by decide +kernel) ?_
      try unfold wpX11_in
      refine ifn (lc_nlt (k := 0) (by decide +kernel) (by rw [Int32.toInt_toInt64]; omega)) ?_
      refine ifp (lc_gt (k := 4) (by decide +kernel) (by rw [Int32.toInt_toInt64]; omega)) ?_
      refine ifp (by decide +kernel) ?_
      refine ifp (by decide +kernel) ?_
      exact fin2 h2 (by first | rfl | decide +kernel)
theorem ev_after {cv1 cv2 cv3 : Nat} (he : epX10_after (fun cr cM ct => epX11_after (fun c2 _ _ => eqN cr c2) cM ct cv1 cv2 cv3) uM0 0 cv1 cv2 cv3 = true) (post1 : Int32 → MM → Int64 → Prop) (H : ∀ r1 M1 t1, (∀ post2 : Int32 → MM → Int64 → Prop, (∀ M2 t2, post2 r1 M2 t2) → wpX11_after post2 M1 t1 (nI cv1) (nI cv2) (nI cv3)) → post1 r1 M1 t1) : wpX10_after post1 M0 0 (nI cv1) (nI cv2) (nI cv3) :=
  spX10_after (q := fun cr cM ct => epX11_after (fun c2 _ _ => eqN cr c2) cM ct cv1 cv2 cv3) (fun r M tl cr cM ct hr hM ht h => H r M tl (fun post2 h2 => spX11_after (q := fun c2 _ _ => eqN cr c2) (fun r2 M2 t2 cr2 cM2 ct2 hr2 _ _ hh => fin2 h2 ((c_eq hr hr2).mpr hh)) hM ht rfl rfl rfl h)) dM0 rfl rfl rfl rfl he
set_option maxRecDepth 100000 in
theorem he_after : ∀ cv1, cv1 < 25 → ∀ cv2, cv2 < 2 → ∀ cv3, cv3 < 5 → epX10_after (fun cr cM ct => epX11_after (fun c2 _ _ => eqN cr c2) cM ct cv1 cv2 cv3) uM0 0 cv1 cv2 cv3 = true := by decide +kernel
set_option maxHeartbeats 4000000 in
set_option maxRecDepth 20000 in
theorem p_after (v1 v2 v3 : Int32) (post1 : Int32 → MM → Int64 → Prop) (H : ∀ r1 M1 t1, (∀ post2 : Int32 → MM → Int64 → Prop, (∀ M2 t2, post2 r1 M2 t2) → wpX11_after post2 M1 t1 v1 v2 v3) → post1 r1 M1 t1) : wpX10_after post1 M0 0 v1 v2 v3 := by
  rcases tri v1 0 24 with hv1 | hv1 | hv1
  · skip
    try unfold wpX10_after
    refine ifp (i_lt (k := 0) (by decide +kernel) (by omega)) ?_
    refine H _ _ _ (fun post2 h2 => ?_)
    try unfold wpX11_after
    try unfold wpX11_isMany
    try unfold wpX11_in
    refine ifp (lc_lt (k := 0) (by decide +kernel) (by rw [Int32.toInt_toInt64]; omega)) ?_
    refine And.intro (by decide +kernel) ?_
    refine ifp (by decide +kernel) ?_
    exact fin2 h2 (by first | rfl | decide +kernel)
  · skip
    rcases tri v2 0 1 with hv2 | hv2 | hv2
    · skip
      try unfold wpX10_after
      refine ifn (i_nlt (k := 0) (by decide +kernel) (by omega)) ?_
      refine ifn (i_ngt (k := 24) (by decide +kernel) (by omega)) ?_
      try unfold wpX1_isLot
      try unfold wpX10_isSlot
      try unfold wpX10_isBank
      refine ifp (i_lt (k := 0) (by decide +kernel) (by omega)) ?_
      refine ifp (by decide +kernel) ?_
      refine ifp (by decide +kernel) ?_
      refine ifp (by decide +kernel) ?_
      refine H _ _ _ (fun post2 h2 => ?_)
      try unfold wpX11_after
      try unfold wpX11_isMany
      try unfold wpX11_in
      refine ifn (lc_nlt (k := 0) (by decide +kernel) (by rw [Int32.toInt_toInt64]; omega)) ?_
      refine ifn (lc_ngt (k := 24) (by decide +kernel) (by rw [Int32.toInt_toInt64]; omega)) ?_
      refine And.intro (by decide +kernel) ?_
      refine ifn (by decide +kernel) ?_
      try unfold wpX11_isLot
      try unfold wpX11_isBank
      try unfold wpX11_in
      refine ifp (lc_lt (k := 0) (by decide +kernel) (by rw [Int32.toInt_toInt64]; omega)) ?_
      refine And.intro (by decide +kernel) ?_
      refine ifp (by decide +kernel) ?_
      refine ifp (by decide +kernel) ?_
      exact fin2 h2 (by first | rfl | decide +kernel)
    · skip
      rcases tri v3 0 4 with hv3 | hv3 | hv3
      · skip
        try unfold wpX10_after
        refine ifn (i_nlt (k := 0) (by decide +kernel) (by omega)) ?_
        refine ifn (i_ngt (k := 24) (by decide +kernel) (by omega)) ?_
        try unfold wpX1_isLot
        try unfold wpX10_isSlot
        try unfold wpX10_isBank
        refine ifn (i_nlt (k := 0) (by decide +kernel) (by omega)) ?_
        refine ifn (i_nge (k := 2) (by decide +kernel) (by omega)) ?_
        refine ifn (by decide +kernel) ?_
        refine ifp (i_lt (k := 0) (by decide +kernel) (by omega)) ?_
        refine ifp (by decide +kernel) ?_
        refine ifp (by decide +kernel) ?_
        refine H _ _ _ (fun post2 h2 => ?_)
        try unfold wpX11_after
        try unfold wpX11_isMany
        try unfold wpX11_in
        refine ifn (lc_nlt (k := 0) (by decide +kernel) (by rw [Int32.toInt_toInt64]; omega)) ?_
        refine ifn (lc_ngt (k := 24) (by decide +kernel) (by rw [Int32.toInt_toInt64]; omega)) ?_
        refine And.intro (by decide +kernel) ?_
        refine ifn (by decide +kernel) ?_
        try unfold wpX11_isLot
        try unfold wpX11_isBank
        try unfold wpX11_in
        refine ifn (lc_nlt (k := 0) (by decide +kernel) (by rw [Int32.toInt_toInt64]; omega)) ?_
        refine ifn (lc_ngt (k := 1) (by decide +kernel) (by rw [Int32.toInt_toInt64]; omega)) ?_
        refine And.intro (by decide +kernel) ?_
        refine ifn (by decide +kernel) ?_
        try unfold wpX11_in
        refine ifp (lc_lt (k := 0) (by decide +kernel) (by rw [Int32.toInt_toInt64]; omega)) ?_
        refine ifp (by decide +kernel) ?_
        refine ifp (by decide +kernel) ?_
        exact fin2 h2 (by first | rfl | decide +kernel)
      · skip
        obtain ⟨cv1, rfl, hcv1⟩ := code_of (hi := 24) hv1 (by decide)
        obtain ⟨cv2, rfl, hcv2⟩ := code_of (hi := 1) hv2 (by decide)
        obtain ⟨cv3, rfl, hcv3⟩ := code_of (hi := 4) hv3 (by decide)
        exact ev_after (he_after cv1 hcv1 cv2 hcv2 cv3 hcv3) post1 H
      · skip
        try unfold wpX10_after
        refine ifn (i_nlt (k := 0) (by decide +kernel) (by omega)) ?_
        refine ifn (i_ngt (k := 24) (by decide +kernel) (by omega)) ?_
        try unfold wpX1_isLot
        try unfold wpX10_isSlot
        try unfold wpX10_isBank
        refine ifn (i_nlt (k := 0) (by decide +kernel) (by omega)) ?_
        refine ifn (i_nge (k := 2) (by decide +kernel) (by omega)) ?_
        refine ifn (by decide +kernel) ?_
        refine ifn (i_nlt (k := 0) (by decide +kernel) (by omega)) ?_
        refine ifs (fun hc => ?_) (fun hc => ?_)
        · have hk1 := i_ge_to (k := 8) (by decide +kernel) hc
          refine ifp (by decide +kernel) ?_
          refine ifp (by decide +kernel) ?_
          refine H _ _ _ (fun post2 h2 => ?_)
          try unfold wpX11_after
          try unfold wpX11_isMany
          try unfold wpX11_in
          refine ifn (lc_nlt (k := 0) (by decide +kernel) (by rw [Int32.toInt_toInt64]; omega)) ?_
          refine ifn (lc_ngt (k := 24) (by decide +kernel) (by rw [Int32.toInt_toInt64]; omega)) ?_
          refine And.intro (by decide +kernel) ?_
          refine ifn (by decide +kernel) ?_
          try unfold wpX11_isLot
          try unfold wpX11_isBank
          try unfold wpX11_in
          refine ifn (lc_nlt (k := 0) (by decide +kernel) (by rw [Int32.toInt_toInt64]; omega)) ?_
          refine ifn (lc_ngt (k := 1) (by decide +kernel) (by rw [Int32.toInt_toInt64]; omega)) ?_
          refine And.intro (by decide +kernel) ?_
          refine ifn (by decide +kernel) ?_
          try unfold wpX11_in
          refine ifn (lc_nlt (k := 0) (by decide +kernel) (by rw [Int32.toInt_toInt64]; omega)) ?_
          refine ifp (lc_gt (k := 4) (by decide +kernel) (by rw [Int32.toInt_toInt64]; omega)) ?_
          refine ifp (by decide +kernel) ?_
          refine ifp (by decide +kernel) ?_
          exact fin2 h2 (by first | rfl | decide +kernel)
        · have hk2 := i_nge_to (k := 8) (by decide +kernel) hc
          refine ifn (by decide +kernel) ?_
          refine And.intro (by decide +kernel) ?_
          refine ifp (i_ge (k := 5) (by decide +kernel) (by omega)) ?_
          refine ifp (by decide +kernel) ?_
          refine H _ _ _ (fun post2 h2 => ?_)
          try unfold wpX11_after
          try unfold wpX11_isMany
          try unfold wpX11_in
          refine ifn (lc_nlt (k := 0) (by decide +kernel) (by rw [Int32.toInt_toInt64]; omega)) ?_
          refine ifn (lc_ngt (k := 24) (by decide +kernel) (by rw [Int32.toInt_toInt64]; omega)) ?_
          refine And.intro (by decide +kernel) ?_
          refine ifn (by decide +kernel) ?_
          try unfold wpX11_isLot
          try unfold wpX11_isBank
          try unfold wpX11_in
          refine ifn (lc_nlt (k := 0) (by decide +kernel) (by rw [Int32.toInt_toInt64]; omega)) ?_
          refine ifn (lc_ngt (k := 1) (by decide +kernel) (by rw [Int32.toInt_toInt64]; omega)) ?_
          refine And.intro (by decide +kernel) ?_
          refine ifn (by decide +kernel) ?_
          try unfold wpX11_in
          refine ifn (lc_nlt (k := 0) (by decide +kernel) (by rw [Int32.toInt_toInt64]; omega)) ?_
          refine ifp (lc_gt (k := 4) (by decide +kernel) (by rw [Int32.toInt_toInt64]; omega)) ?_
          refine ifp (by decide +kernel) ?_
          refine ifp (by decide +kernel) ?_
          exact fin2 h2 (by first | rfl | decide +kernel)
    · skip
      try unfold wpX10_after
      refine ifn (i_nlt (k := 0) (by decide +kernel) (by omega)) ?_
      refine ifn (i_ngt (k := 24) (by decide +kernel) (by omega)) ?_
      try unfold wpX1_isLot
      try unfold wpX10_isSlot
      try unfold wpX10_isBank
      refine ifn (i_nlt (k := 0) (by decide +kernel) (by omega)) ?_
      refine ifp (i_ge (k := 2) (by decide +kernel) (by omega)) ?_
      refine ifp (by decide +kernel) ?_
      refine ifp (by decide +kernel) ?_
      refine ifp (by decide +kernel) ?_
      refine H _ _ _ (fun post2 h2 => ?_)
      try unfold wpX11_after
      try unfold wpX11_isMany
      try unfold wpX11_in
      refine ifn (lc_nlt (k := 0) (by decide +kernel) (by rw [Int32.toInt_toInt64]; omega)) ?_
      refine ifn (lc_ngt (k := 24) (by decide +kernel) (by rw [Int32.toInt_toInt64]; omega)) ?_
      refine And.intro (by decide +kernel) ?_
      refine ifn (by decide +kernel) ?_
      try unfold wpX11_isLot
      try unfold wpX11_isBank
      try unfold wpX11_in
      refine ifn (lc_nlt (k := 0) (by decide +kernel) (by rw [Int32.toInt_toInt64]; omega)) ?_
      refine ifp (lc_gt (k := 1) (by decide +kernel) (by rw [Int32.toInt_toInt64]; omega)) ?_
      refine And.intro (by decide +kernel) ?_
      refine ifp (by decide +kernel) ?_
      refine ifp (by decide +kernel) ?_
      exact fin2 h2 (by first | rfl | decide +kernel)
  · skip
    try unfold wpX10_after
    refine ifn (i_nlt (k := 0) (by decide +kernel) (by omega)) ?_
    refine ifp (i_gt (k := 24) (by decide +kernel) (by omega)) ?_
    refine H _ _ _ (fun post2 h2 => ?_)
    try unfold wpX11_after
    try unfold wpX11_isMany
    try unfold wpX11_in
    refine ifn (lc_nlt (k := 0) (by decide +kernel) (by rw [Int32.toInt_toInt64]; omega)) ?_
    refine ifp (lc_gt (k := 24) (by decide +kernel) (by rw [Int32.toInt_toInt64]; omega)) ?_
    refine And.intro (by decide +kernel) ?_
    refine ifp (by decide +kernel) ?_
    exact fin2 h2 (by first | rfl | decide +kernel)
