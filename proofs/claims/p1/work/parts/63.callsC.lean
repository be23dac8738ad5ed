theorem ev_paid {cv1 cv2 : Nat} (he : epX10_paid (fun cr cM ct => epX11_paid (fun c2 _ _ => eqN cr c2) cM ct cv1 cv2) uM0 0 cv1 cv2 = true) (post1 : Int32 → MM → Int64 → Prop) (H : ∀ r1 M1 t1, (∀ post2 : Int32 → MM → Int64 → Prop, (∀ M2 t2, post2 r1 M2 t2) → wpX11_paid post2 M1 t1 (nI cv1) (nI cv2)) → post1 r1 M1 t1) : wpX10_paid post1 M0 0 (nI cv1) (nI cv2) :=
  spX10_paid (q := fun cr cM ct => epX11_paid (fun c2 _ _ => eqN cr c2) cM ct cv1 cv2) (fun r M tl cr cM ct hr hM ht h => H r M tl (fun post2 h2 => spX11_paid (q := fun c2 _ _ => eqN cr c2) (fun r2 M2 t2 cr2 cM2 ct2 hr2 _ _ hh => fin2 h2 ((c_eq hr hr2).mpr hh)) hM ht rfl rfl h)) dM0 rfl rfl rfl he
set_option maxRecDepth 100000 in
theorem he_paid : ∀ cv1, cv1 < 25 → ∀ cv2, cv2 < 2 → epX10_paid (fun cr cM ct => epX11_paid (fun c2 _ _ => eqN cr c2) cM ct cv1 cv2) uM0 0 cv1 cv2 = true := by decide +kernel
set_option maxHeartbeats 4000000 in
set_option maxRecDepth 20000 in
theorem p_paid (v1 v2 : Int32) (post1 : Int32 → MM → Int64 → Prop) (H : ∀ r1 M1 t1, (∀ post2 : Int32 → MM → Int64 → Prop, (∀ M2 t2, post2 r1 M2 t2) → wpX11_paid post2 M1 t1 v1 v2) → post1 r1 M1 t1) : wpX10_paid post1 M0 0 v1 v2 := by
  rcases tri v1 0 24 with hv1 | hv1 | hv1
  · skip
    try unfold wpX10_paid
    refine ifp (i_lt (k := 0) (by decide +kernel) (by omega)) ?_
    refine H _ _ _ (fun post2 h2 => ?_)
    try unfold wpX11_paid
    try unfold wpX11_isMany
    try unfold wpX11_in
    refine ifp (lc_lt (k := 0) (by decide +kernel) (by rw [Int32.toInt_toInt64]; omega)) ?_
    refine And.intro (by decide +kernel) ?_
    refine ifp (by decide +kernel) ?_
    exact fin2 h2 (by first | rfl | decide +kernel)
  · skip
    rcases tri v2 0 1 with hv2 | hv2 | hv2
    · skip
      try unfold wpX10_paid
      refine ifn (i_nlt (k := 0) (by decide +kernel) (by omega)) ?_
      refine ifn (i_ngt (k := 24) (by decide +kernel) (by omega)) ?_
      try unfold wpX10_isBank
      refine ifp (i_lt (k := 0) (by decide +kernel) (by omega)) ?_
      refine ifp (by decide +kernel) ?_
      refine H _ _ _ (fun post2 h2 => ?_)
      try unfold wpX11_paid
      try unfold wpX11_isMany
      try unfold wpX11_in
      refine ifn (lc_nlt (k := 0) (by decide +kernel) (by rw [Int32.toInt_toInt64]; omega)) ?_
      refine ifn (lc_ngt (k := 24) (by decide +kernel) (by rw [Int32.toInt_toInt64]; omega)) ?_
      refine And.intro (by decide +kernel) ?_
      refine ifn (by decide +kernel) ?_
      try unfold wpX11_isBank
      try unfold wpX11_in
      refine ifp (lc_lt (k := 0) (by decide +kernel) (by rw [Int32.toInt_toInt64]; omega)) ?_
      refine And.intro (by decide +kernel) ?_
      refine ifp (by decide +kernel) ?_
      exact fin2 h2 (by first | rfl | decide +kernel)
    · skip
      obtain ⟨cv1, rfl, hcv1⟩ := code_of (hi := 24) hv1 (by decide)
      obtain ⟨cv2, rfl, hcv2⟩ := code_of (hi := 1) hv2 (by decide)
      exact ev_paid (he_paid cv1 hcv1 cv2 hcv2) post1 H
    · skip
      try unfold wpX10_paid
      refine ifn (i_nlt (k := 0) (by decide +kernel) (by omega)) ?_
      refine ifn (i_ngt (k := 24) (by decide +kernel) (by omega)) ?_
      try unfold wpX10_isBank
      refine ifn (i_nlt (k := 0) (by decide +kernel) (by omega)) ?_
      refine ifp (i_ge (k := 2) (by decide +kernel) (by omega)) ?_
      refine ifp (by decide +kernel) ?_
      refine H _ _ _ (fun post2 h2 => ?_)
      try unfold wpX11_paid
      try unfold wpX11_isMany
      try unfold wpX11_in
      refine ifn (lc_nlt (k := 0) (by decide +kernel) (by rw [Int32.toInt_toInt64]; omega)) ?_
      refine ifn (lc_ngt (k := 24) (by decide +kernel) (by rw [Int32.toInt_toInt64]; omega)) ?_
      refine And.intro (by decide +kernel) ?_
      refine ifn (by decide +kernel) ?_
      try unfold wpX11_isBank
      try unfold wpX11_in
      refine ifn (lc_nlt (k := 0) (by decide +kernel) (by rw [Int32.toInt_toInt64]; omega)) ?_
      refine ifp (lc_gt (k := 1) (by decide +kernel) (by rw [Int32.toInt_toInt64]; omega)) ?_
      refine And.intro (by decide +kernel) ?_
      refine ifp (by decide +kernel) ?_
      exact fin2 h2 (by first | rfl | decide +kernel)
  · skip
    try unfold wpX10_paid
    refine ifn (i_nlt (k := 0) (by decide +kernel) (by omega)) ?_
    refine ifp (i_gt (k := 24) (by decide +kernel) (by omega)) ?_
    refine H _ _ _ (fun post2 h2 => ?_)
    try unfold wpX11_paid
    try unfold wpX11_isMany
    try unfold wpX11_in
    refine ifn (lc_nlt (k := 0) (by decide +kernel) (by rw [Int32.toInt_toInt64]; omega)) ?_
    refine ifp (lc_gt (k := 24) (by decide +kernel) (by rw [Int32.toInt_toInt64]; omega)) ?_
    refine And.intro (by decide +kernel) ?_
    refine ifp (by decide +kernel) ?_
    exact fin2 h2 (by first | rfl | decide +kernel)
theorem ev_owes {cv1 cv2 : Nat} (he : epX10_owes (fun cr cM ct => epX11_owes (fun c2 _ _ => eqN cr c2) cM ct cv1 cv2) uM0 0 cv1 cv2 = true) (post1 : Int32 → MM → Int64 → Prop) (H : ∀ r1 M1 t1, (∀ post2 : Int32 → MM → Int64 → Prop, (∀ M2 t2, post2 r1 M2 t2) → wpX11_owes post2 M1 t1 (nI cv1) (nI cv2)) → post1 r1 M1 t1) : wpX10_owes post1 M0 0 (nI cv1) (nI cv2) :=
  spX10_owes (q := fun cr cM ct => epX11_owes (fun c2 _ _ => eqN cr c2) cM ct cv1 cv2) (fun r M tl cr cM ct hr hM ht h => H r M tl (fun post2 h2 => spX11_owes (q := fun c2 _ _ => eqN cr c2) (fun r2 M2 t2 cr2 cM2 ct2 hr2 _ _ hh => fin2 h2 ((c_eq hr hr2).mpr hh)) hM ht rfl rfl h)) dM0 rfl rfl rfl he
set_option maxRecDepth 100000 in
theorem he_owes : ∀ cv1, cv1 < 25 → ∀ cv2, cv2 < 2 → epX10_owes (fun cr cM ct => epX11_owes (fun c2 _ _ => eqN cr c2) cM ct cv1 cv2) uM0 0 cv1 cv2 = true := by decide +kernel
set_option maxHeartbeats 4000000 in
set_option maxRecDepth 20000 in
theorem p_owes (v1 v2 : Int32) (post1 : Int32 → MM → Int64 → Prop) (H : ∀ r1 M1 t1, (∀ post2 : Int32 → MM → Int64 → Prop, (∀ M2 t2, post2 r1 M2 t2) → wpX11_owes post2 M1 t1 v1 v2) → post1 r1 M1 t1) : wpX10_owes post1 M0 0 v1 v2 := by
  rcases tri v1 0 24 with hv1 | hv1 | hv1
  · skip
    try unfold wpX10_owes
    refine ifp (i_lt (k := 0) (by decide +kernel) (by omega)) ?_
    refine H _ _ _ (fun post2 h2 => ?_)
    try unfold wpX11_owes
    try unfold wpX11_isMany
    try unfold wpX11_in
    refine ifp (lc_lt (k := 0) (by decide +kernel) (by rw [Int32.toInt_toInt64]; omega)) ?_
    refine And.intro (by decide +kernel) ?_
    refine ifp (by decide +kernel) ?_
    exact fin2 h2 (by first | rfl | decide +kernel)
  · skip
    rcases tri v2 0 1 with hv2 | hv2 | hv2
    · skip
      try unfold wpX10_owes
      refine ifn (i_nlt (k := 0) (by decide +kernel) (by omega)) ?_
      refine ifn (i_ngt (k := 24) (by decide +kernel) (by omega)) ?_
      try unfold wpX10_isBank
      refine ifp (i_lt (k := 0) (by decide +kernel) (by omega)) ?_
      refine ifp (by decide +kernel) ?_
      refine H _ _ _ (fun post2 h2 => ?_)
      try unfold wpX11_owes
      try unfold wpX11_isMany
      try unfold wpX11_in
      refine ifn (lc_nlt (k := 0) (by decide +kernel) (by rw [Int32.toInt_toInt64]; omega)) ?_
      refine ifn (lc_ngt (k := 24) (by decide +kernel) (by rw [Int32.toInt_toInt64]; omega)) ?_
      refine And.intro (by decide +kernel) ?_
      refine ifn (by decide +kernel) ?_
      try unfold wpX11_isBank
      try unfold wpX11_in
      refine ifp (lc_lt (k := 0) (by decide +kernel) (by rw [Int32.toInt_toInt64]; omega)) ?_
      refine And.intro (by decide +kernel) ?_
      refine ifp (by decide +kernel) ?_
      exact fin2 h2 (by first | rfl | decide +kernel)
    · skip
      obtain ⟨cv1, rfl, hcv1⟩ := code_of (hi := 24) hv1 (by decide)
      obtain ⟨cv2, rfl, hcv2⟩ := code_of (hi := 1) hv2 (by decide)
      exact ev_owes (he_owes cv1 hcv1 cv2 hcv2) post1 H
    · skip
      try unfold wpX10_owes
      refine ifn (i_nlt (k := 0) (by decide +kernel) (by omega)) ?_
      refine ifn (i_ngt (k := 24) (by decide +kernel) (by omega)) ?_
      try unfold wpX10_isBank
      refine ifn (i_nlt (k := 0) (by decide +kernel) (by omega)) ?_
      refine ifp (i_ge (k := 2) (by decide +kernel) (by omega)) ?_
      refine ifp (by decide +kernel) ?_
      refine H _ _ _ (fun post2 h2 => ?_)
      try unfold wpX11_owes
      try unfold wpX11_isMany
      try unfold wpX11_in
      refine ifn (lc_nlt (k := 0) (by decide +kernel) (by rw [Int32.toInt_toInt64]; omega)) ?_
      refine ifn (lc_ngt (k := 24) (by decide +kernel) (by rw [Int32.toInt_toInt64]; omega)) ?_
      refine And.intro (by decide +kernel) ?_
      refine ifn (by decide +kernel) ?_
      try unfold wpX11_isBank
      try unfold wpX11_in
      refine ifn (lc_nlt (k := 0) (by decide +kernel) (by rw [Int32.toInt_toInt64]; omega)) ?_
      refine ifp (lc_gt (k := 1) (by decide +kernel) (by rw [Int32.toInt_toInt64]; omega)) ?_
      refine And.intro (by decide +kernel) ?_
      refine ifp (by decide +kernel) ?_
      exact fin2 h2 (by first | rfl | decide +kernel)
  · skip
    try unfold wpX10_owes
    refine ifn (i_nlt (k := 0) (by decide +kernel) (by omega)) ?_
    refine ifp (i_gt (k := 24) (by decide +kernel) (by omega)) ?_
    refine H _ _ _ (fun post2 h2 => ?_)
    try unfold wpX11_owes
    try unfold wpX11_isMany
    try unfold wpX11_in
    refine ifn (lc_nlt (k := 0) (by decide +kernel) (by rw [Int32.toInt_toInt64]; omega)) ?_
    refine ifp (lc_gt (k := 24) (by decide +kernel) (by rw [Int32.toInt_toInt64]; omega)) ?_
    refine And.intro (by decide +kernel) ?_
    refine ifp (by decide +kernel) ?_
    exact fin2 h2 (by first | rfl | decide +kernel)
set_option maxHeartbeats 4000000 in
set_option maxRecDepth 20000 in
theorem p_fate (v1 : Int32) (post1 : Int32 → MM → Int64 → Prop) (H : ∀ r1 M1 t1, (∀ post2 : Int32 → MM → Int64 → Prop, (∀ M2 t2, post2 r1 M2 t2) → wpX11_fate post2 M1 t1 v1) → post1 r1 M1 t1) : wpX10_fate post1 M0 0 v1 := by
  rcases tri v1 0 2147483647 with hv1 | hv1 | hv1
  · skip
    try unfold wpX10_fate
    refine ifp (i_lt (k := 0) (by decide +kernel) (by omega)) ?_
    refine H _ _ _ (fun post2 h2 => ?_)
    try unfold wpX11_fate
    refine And.intro (by unfold vp_in; decide +kernel) ?_
    try unfold wpX11_in
    refine ifp (lc_lt (k := 0) (by decide +kernel) (by rw [Int32.toInt_toInt64]; omega)) ?_
    refine ifp (by decide +kernel) ?_
    exact fin2 h2 (by first | rfl | decide +kernel)
  · skip
    try unfold wpX10_fate
    refine ifn (i_nlt (k := 0) (by decide +kernel) (by omega)) ?_
    refine ifp (i_ge (k := 0) (by decide +kernel) (by omega)) ?_
    refine H _ _ _ (fun post2 h2 => ?_)
    try unfold wpX11_fate
    refine And.intro (by unfold vp_in; decide +kernel) ?_
    try unfold wpX11_in
    refine ifn (lc_nlt (k := 0) (by decide +kernel) (by rw [Int32.toInt_toInt64]; omega)) ?_
    refine ifp (lc_gt (k := -1) (by decide +kernel) (by rw [Int32.toInt_toInt64]; omega)) ?_
    refine ifp (by decide +kernel) ?_
    exact fin2 h2 (by first | rfl | decide +kernel)
  · skip
    try unfold wpX10_fate
    refine ifn (i_nlt (k := 0) (by decide +kernel) (by omega)) ?_
    refine ifp (i_ge (k := 0) (by decide +kernel) (by omega)) ?_
    refine H _ _ _ (fun post2 h2 => ?_)
    try unfold wpX11_fate
    refine And.intro (by unfold vp_in; decide +kernel) ?_
    try unfold wpX11_in
    refine ifn (lc_nlt (k := 0) (by decide +kernel) (by rw [Int32.toInt_toInt64]; omega)) ?_
    refine ifp (lc_gt (k := -1) (by decide +kernel) (by rw [Int32.toInt_toInt64]; omega)) ?_
    refine ifp (by decide +kernel) ?_
    exact fin2 h2 (by first | rfl | decide +kernel)
theorem ev_uneven {cv1 : Nat} (he : epX10_uneven (fun cr cM ct => epX11_uneven (fun c2 _ _ => eqN cr c2) cM ct cv1) uM0 0 cv1 = true) (post1 : Int32 → MM → Int64 → Prop) (H : ∀ r1 M1 t1, (∀ post2 : Int32 → MM → Int64 → Prop, (∀ M2 t2, post2 r1 M2 t2) → wpX11_uneven post2 M1 t1 (nI cv1)) → post1 r1 M1 t1) : wpX10_uneven post1 M0 0 (nI cv1) :=
  spX10_uneven (q := fun cr cM ct => epX11_uneven (fun c2 _ _ => eqN cr c2) cM ct cv1) (fun r M tl cr cM ct hr hM ht h => H r M tl (fun post2 h2 => spX11_uneven (q := fun c2 _ _ => eqN cr c2) (fun r2 M2 t2 cr2 cM2 ct2 hr2 _ _ hh => fin2 h2 ((c_eq hr hr2).mpr hh)) hM ht rfl h)) dM0 rfl rfl he
set_option maxRecDepth 100000 in
theorem he_uneven : ∀ cv1, cv1 < 2 → epX10_uneven (fun cr cM ct => epX11_uneven (fun c2 _ _ => eqN cr c2) cM ct cv1) uM0 0 cv1 = true := by decide +kernel
set_option maxHeartbeats 4000000 in
set_option maxRecDepth 20000 in
theorem p_uneven (v1 : Int32) (post1 : Int32 → MM → Int64 → Prop) (H : ∀ r1 M1 t1, (∀ post2 : Int32 → MM → Int64 → Prop, (∀ M2 t2, post2 r1 M2 t2) → wpX11_uneven post2 M1 t1 v1) → post1 r1 M1 t1) : wpX10_uneven post1 M0 0 v1 := by
  rcases tri v1 0 1 with hv1 | hv1 | hv1
  · skip
    try unfold wpX10_uneven
    refine ifp (i_lt (k := 0) (by decide +kernel) (by omega)) ?_
    refine H _ _ _ (fun post2 h2 => ?_)
    try unfold wpX11_uneven
    try unfold wpX11_in
    refine ifp (lc_lt (k := 0) (by decide +kernel) (by rw [Int32.toInt_toInt64]; omega)) ?_
    refine ifp (by decide +kernel) ?_
    exact fin2 h2 (by first | rfl | decide +kernel)
  · skip
    obtain ⟨cv1, rfl, hcv1⟩ := code_of (hi := 1) hv1 (by decide)
    exact ev_uneven (he_uneven cv1 hcv1) post1 H
  · skip
    try unfold wpX10_uneven
    refine ifn (i_nlt (k := 0) (by decide +kernel) (by omega)) ?_
    refine ifn (i_nle (k := 1) (by decide +kernel) (by omega)) ?_
    refine H _ _ _ (fun post2 h2 => ?_)
    try unfold wpX11_uneven
    try unfold wpX11_in
    refine ifn (lc_nlt (k := 0) (by decide +kernel) (by rw [Int32.toInt_toInt64]; omega)) ?_
    refine ifp (lc_gt (k := 1) (by decide +kernel) (by rw [Int32.toInt_toInt64]; omega)) ?_
    refine ifp (by decide +kernel) ?_
    exact fin2 h2 (by first | rfl | decide +kernel)
theorem ev_go (he : epX10_go (fun cr cM ct => epX11_go (fun c2 _ _ => eqN cr c2) cM ct ) uM0 0  = true) (post1 : Int32 → MM → Int64 → Prop) (H : ∀ r1 M1 t1, (∀ post2 : Int32 → MM → Int64 → Prop, (∀ M2 t2, post2 r1 M2 t2) → wpX11_go post2 M1 t1 ) → post1 r1 M1 t1) : wpX10_go post1 M0 0  :=
  spX10_go (q := fun cr cM ct => epX11_go (fun c2 _ _ => eqN cr c2) cM ct ) (fun r M tl cr cM ct hr hM ht h => H r M tl (fun post2 h2 => spX11_go (q := fun c2 _ _ => eqN cr c2) (fun r2 M2 t2 cr2 cM2 ct2 hr2 _ _ hh => fin2 h2 ((c_eq hr hr2).mpr hh)) hM ht  h)) dM0 rfl  he
set_option maxRecDepth 100000 in
theorem he_go : epX10_go (fun cr cM ct => epX11_go (fun c2 _ _ => eqN cr c2) cM ct ) uM0 0  = true := by decide +kernel
set_option maxHeartbeats 4000000 in
set_option maxRecDepth 20000 in
theorem p_go  (post1 : Int32 → MM → Int64 → Prop) (H : ∀ r1 M1 t1, (∀ post2 : Int32 → MM → Int64 → Prop, (∀ M2 t2, post2 r1 M2 t2) → wpX11_go post2 M1 t1 ) → post1 r1 M1 t1) : wpX10_go post1 M0 0  := by
  exact ev_go (he_go) post1 H
