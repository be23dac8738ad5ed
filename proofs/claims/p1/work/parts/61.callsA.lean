theorem ev_end {cv1 : Nat} (he : epX10_end (fun cr cM ct => epX11_end (fun c2 _ _ => eqN cr c2) cM ct cv1) uM0 0 cv1 = true) (post1 : Int32 → MM → Int64 → Prop) (H : ∀ r1 M1 t1, (∀ post2 : Int32 → MM → Int64 → Prop, (∀ M2 t2, post2 r1 M2 t2) → wpX11_end post2 M1 t1 (nI cv1)) → post1 r1 M1 t1) : wpX10_end post1 M0 0 (nI cv1) :=
  spX10_end (q := fun cr cM ct => epX11_end (fun c2 _ _ => eqN cr c2) cM ct cv1) (fun r M tl cr cM ct hr hM ht h => H r M tl (fun post2 h2 => spX11_end (q := fun c2 _ _ => eqN cr c2) (fun r2 M2 t2 cr2 cM2 ct2 hr2 _ _ hh => fin2 h2 ((c_eq hr hr2).mpr hh)) hM ht rfl h)) dM0 rfl rfl he
set_option maxRecDepth 100000 in
theorem he_end : ∀ cv1, cv1 < 1 → epX10_end (fun cr cM ct => epX11_end (fun c2 _ _ => eqN cr c2) cM ct cv1) uM0 0 cv1 = true := by decide +kernel
set_option maxHeartbeats 4000000 in
set_option maxRecDepth 20000 in
theorem p_end (v1 : Int32) (post1 : Int32 → MM → Int64 → Prop) (H : ∀ r1 M1 t1, (∀ post2 : Int32 → MM → Int64 → Prop, (∀ M2 t2, post2 r1 M2 t2) → wpX11_end post2 M1 t1 v1) → post1 r1 M1 t1) : wpX10_end post1 M0 0 v1 := by
  rcases tri v1 0 0 with hv1 | hv1 | hv1
  · skip
    try unfold wpX10_end
    refine ifp (i_lt (k := 0) (by decide +kernel) (by omega)) ?_
    refine H _ _ _ (fun post2 h2 => ?_)
    try unfold wpX11_end
    try unfold wpX11_in
    refine ifp (lc_lt (k := 0) (by decide +kernel) (by rw [Int32.toInt_toInt64]; omega)) ?_
    refine ifp (by decide +kernel) ?_
    exact fin2 h2 (by first | rfl | decide +kernel)
  · skip
    obtain ⟨cv1, rfl, hcv1⟩ := code_of (hi := 0) hv1 (by decide)
    exact ev_end (he_end cv1 hcv1) post1 H
  · skip
    try unfold wpX10_end
    refine ifn (i_nlt (k := 0) (by decide +kernel) (by omega)) ?_
    refine ifn (i_nle (k := 0) (by decide +kernel) (by omega)) ?_
    refine H _ _ _ (fun post2 h2 => ?_)
    try unfold wpX11_end
    try unfold wpX11_in
    refine ifn (lc_nlt (k := 0) (by decide +kernel) (by rw [Int32.toInt_toInt64]; omega)) ?_
    refine ifp (lc_gt (k := 0) (by decide +kernel) (by rw [Int32.toInt_toInt64]; omega)) ?_
    refine ifp (by decide +kernel) ?_
    exact fin2 h2 (by first | rfl | decide +kernel)
theorem ev_text (he : epX10_text (fun cr cM ct => epX11_text (fun c2 _ _ => eqN cr c2) cM ct ) uM0 0  = true) (post1 : Int32 → MM → Int64 → Prop) (H : ∀ r1 M1 t1, (∀ post2 : Int32 → MM → Int64 → Prop, (∀ M2 t2, post2 r1 M2 t2) → wpX11_text post2 M1 t1 ) → post1 r1 M1 t1) : wpX10_text post1 M0 0  :=
  spX10_text (q := fun cr cM ct => epX11_text (fun c2 _ _ => eqN cr c2) cM ct ) (fun r M tl cr cM ct hr hM ht h => H r M tl (fun post2 h2 => spX11_text (q := fun c2 _ _ => eqN cr c2) (fun r2 M2 t2 cr2 cM2 ct2 hr2 _ _ hh => fin2 h2 ((c_eq hr hr2).mpr hh)) hM ht  h)) dM0 rfl  he
set_option maxRecDepth 100000 in
theorem he_text : epX10_text (fun cr cM ct => epX11_text (fun c2 _ _ => eqN cr c2) cM ct ) uM0 0  = true := by decide +kernel
set_option maxHeartbeats 4000000 in
set_option maxRecDepth 20000 in
theorem p_text  (post1 : Int32 → MM → Int64 → Prop) (H : ∀ r1 M1 t1, (∀ post2 : Int32 → MM → Int64 → Prop, (∀ M2 t2, post2 r1 M2 t2) → wpX11_text post2 M1 t1 ) → post1 r1 M1 t1) : wpX10_text post1 M0 0  := by
  exact ev_text (he_text) post1 H
theorem ev_fault (he : epX10_fault (fun cr cM ct => epX11_fault (fun c2 _ _ => eqN cr c2) cM ct ) uM0 0  = true) (post1 : Int32 → MM → Int64 → Prop) (H : ∀ r1 M1 t1, (∀ post2 : Int32 → MM → Int64 → Prop, (∀ M2 t2, post2 r1 M2 t2) → wpX11_fault post2 M1 t1 ) → post1 r1 M1 t1) : wpX10_fault post1 M0 0  :=
  spX10_fault (q := fun cr cM ct => epX11_fault (fun c2 _ _ => eqN cr c2) cM ct ) (fun r M tl cr cM ct hr hM ht h => H r M tl (fun post2 h2 => spX11_fault (q := fun c2 _ _ => eqN cr c2) (fun r2 M2 t2 cr2 cM2 ct2 hr2 _ _ hh => fin2 h2 ((c_eq hr hr2).mpr hh)) hM ht  h)) dM0 rfl  he
set_option maxRecDepth 100000 in
theorem he_fault : epX10_fault (fun cr cM ct => epX11_fault (fun c2 _ _ => eqN cr c2) cM ct ) uM0 0  = true := by decide +kernel
set_option maxHeartbeats 4000000 in
set_option maxRecDepth 20000 in
theorem p_fault  (post1 : Int32 → MM → Int64 → Prop) (H : ∀ r1 M1 t1, (∀ post2 : Int32 → MM → Int64 → Prop, (∀ M2 t2, post2 r1 M2 t2) → wpX11_fault post2 M1 t1 ) → post1 r1 M1 t1) : wpX10_fault post1 M0 0  := by
  exact ev_fault (he_fault) post1 H
theorem ev_rule {cv1 : Nat} (he : epX10_rule (fun cr cM ct => epX11_rule (fun c2 _ _ => eqN cr c2) cM ct cv1) uM0 0 cv1 = true) (post1 : Int32 → MM → Int64 → Prop) (H : ∀ r1 M1 t1, (∀ post2 : Int32 → MM → Int64 → Prop, (∀ M2 t2, post2 r1 M2 t2) → wpX11_rule post2 M1 t1 (nI cv1)) → post1 r1 M1 t1) : wpX10_rule post1 M0 0 (nI cv1) :=
  spX10_rule (q := fun cr cM ct => epX11_rule (fun c2 _ _ => eqN cr c2) cM ct cv1) (fun r M tl cr cM ct hr hM ht h => H r M tl (fun post2 h2 => spX11_rule (q := fun c2 _ _ => eqN cr c2) (fun r2 M2 t2 cr2 cM2 ct2 hr2 _ _ hh => fin2 h2 ((c_eq hr hr2).mpr hh)) hM ht rfl h)) dM0 rfl rfl he
set_option maxRecDepth 100000 in
theorem he_rule : ∀ cv1, cv1 < 14 → epX10_rule (fun cr cM ct => epX11_rule (fun c2 _ _ => eqN cr c2) cM ct cv1) uM0 0 cv1 = true := by decide +kernel
set_option maxHeartbeats 4000000 in
set_option maxRecDepth 20000 in
theorem p_rule (v1 : Int32) (post1 : Int32 → MM → Int64 → Prop) (H : ∀ r1 M1 t1, (∀ post2 : Int32 → MM → Int64 → Prop, (∀ M2 t2, post2 r1 M2 t2) → wpX11_rule post2 M1 t1 v1) → post1 r1 M1 t1) : wpX10_rule post1 M0 0 v1 := by
  rcases tri v1 0 13 with hv1 | hv1 | hv1
  · skip
    try unfold wpX10_rule
    refine ifn (i_ne (k := 0) (by decide +kernel) (by omega)) ?_
    refine ifn (i_ne (k := 1) (by decide +kernel) (by omega)) ?_
    refine ifn (i_ne (k := 2) (by decide +kernel) (by omega)) ?_
    refine ifn (i_ne (k := 3) (by decide +kernel) (by omega)) ?_
    refine ifp (i_lt (k := 10) (by decide +kernel) (by omega)) ?_
    refine H _ _ _ (fun post2 h2 => ?_)
    try unfold wpX11_rule
    refine ifn (i_ne (k := 0) (by decide +kernel) (by omega)) ?_
    refine ifn (i_ne (k := 1) (by decide +kernel) (by omega)) ?_
    refine ifn (i_ne (k := 2) (by decide +kernel) (by omega)) ?_
    refine ifn (i_ne (k := 3) (by decide +kernel) (by omega)) ?_
    try unfold wpX11_in
    refine ifp (lc_lt (k := 10) (by decide +kernel) (by rw [Int32.toInt_toInt64]; omega)) ?_
    refine ifp (by decide +kernel) ?_
    exact fin2 h2 (by first | rfl | decide +kernel)
  · skip
    obtain ⟨cv1, rfl, hcv1⟩ := code_of (hi := 13) hv1 (by decide)
    exact ev_rule (he_rule cv1 hcv1) post1 H
  · skip
    try unfold wpX10_rule
    refine ifn (i_ne (k := 0) (by decide +kernel) (by omega)) ?_
    refine ifn (i_ne (k := 1) (by decide +kernel) (by omega)) ?_
    refine ifn (i_ne (k := 2) (by decide +kernel) (by omega)) ?_
    refine ifn (i_ne (k := 3) (by decide +kernel) (by omega)) ?_
    refine ifn (i_nlt (k := 10) (by decide +kernel) (by omega)) ?_
    refine ifp (i_ge (k := 14) (by decide +kernel) (by omega)) ?_
    refine H _ _ _ (fun post2 h2 => ?_)
    try unfold wpX11_rule
    refine ifn (i_ne (k := 0) (by decide +kernel) (by omega)) ?_
    refine ifn (i_ne (k := 1) (by decide +kernel) (by omega)) ?_
    refine ifn (i_ne (k := 2) (by decide +kernel) (by omega)) ?_
    refine ifn (i_ne (k := 3) (by decide +kernel) (by omega)) ?_
    try unfold wpX11_in
    refine ifn (lc_nlt (k := 10) (by decide +kernel) (by rw [Int32.toInt_toInt64]; omega)) ?_
    refine ifp (lc_gt (k := 13) (by decide +kernel) (by rw [Int32.toInt_toInt64]; omega)) ?_
    refine ifp (by decide +kernel) ?_
    exact fin2 h2 (by first | rfl | decide +kernel)
theorem ev_kind {cv1 cv2 : Nat} (he : epX10_kind (fun cr cM ct => epX11_kind (fun c2 _ _ => eqN cr c2) cM ct cv1 cv2) uM0 0 cv1 cv2 = true) (post1 : Int32 → MM → Int64 → Prop) (H : ∀ r1 M1 t1, (∀ post2 : Int32 → MM → Int64 → Prop, (∀ M2 t2, post2 r1 M2 t2) → wpX11_kind post2 M1 t1 (nI cv1) (nI cv2)) → post1 r1 M1 t1) : wpX10_kind post1 M0 0 (nI cv1) (nI cv2) :=
  spX10_kind (q := fun cr cM ct => epX11_kind (fun c2 _ _ => eqN cr c2) cM ct cv1 cv2) (fun r M tl cr cM ct hr hM ht h => H r M tl (fun post2 h2 => spX11_kind (q := fun c2 _ _ => eqN cr c2) (fun r2 M2 t2 cr2 cM2 ct2 hr2 _ _ hh => fin2 h2 ((c_eq hr hr2).mpr hh)) hM ht rfl rfl h)) dM0 rfl rfl rfl he
set_option maxRecDepth 100000 in
theorem he_kind : ∀ cv1, cv1 < 6 → ∀ cv2, cv2 < 32 → epX10_kind (fun cr cM ct => epX11_kind (fun c2 _ _ => eqN cr c2) cM ct cv1 cv2) uM0 0 cv1 cv2 = true := by decide +kernel
set_option maxHeartbeats 4000000 in
set_option maxRecDepth 20000 in
theorem p_kind (v1 v2 : Int32) (post1 : Int32 → MM → Int64 → Prop) (H : ∀ r1 M1 t1, (∀ post2 : Int32 → MM → Int64 → Prop, (∀ M2 t2, post2 r1 M2 t2) → wpX11_kind post2 M1 t1 v1 v2) → post1 r1 M1 t1) : wpX10_kind post1 M0 0 v1 v2 := by
  rcases tri v1 0 5 with hv1 | hv1 | hv1
  · skip
    try unfold wpX10_kind
    try unfold wpX10_isKind
    refine ifp (i_lt (k := 0) (by decide +kernel) (by omega)) ?_
    refine ifp (by decide +kernel) ?_
    refine H _ _ _ (fun post2 h2 => ?_)
    try unfold wpX11_kind
    try unfold wpX11_isKind
    try unfold wpX11_in
    refine ifp (lc_lt (k := 0) (by decide +kernel) (by rw [Int32.toInt_toInt64]; omega)) ?_
    refine And.intro (by decide +kernel) ?_
    refine ifp (by decide +kernel) ?_
    exact fin2 h2 (by first | rfl | decide +kernel)
  · skip
    rcases tri v2 0 31 with hv2 | hv2 | hv2
    · skip
      try unfold wpX10_kind
      try unfold wpX10_isKind
      refine ifn (i_nlt (k := 0) (by decide +kernel) (by omega)) ?_
      refine ifn (i_nge (k := 6) (by decide +kernel) (by omega)) ?_
      refine ifn (by decide +kernel) ?_
      refine ifn (i_ne (k := 0) (by decide +kernel) (by omega)) ?_
      refine ifn (i_ne (k := 1) (by decide +kernel) (by omega)) ?_
      refine ifn (i_ne (k := 10) (by decide +kernel) (by omega)) ?_
      refine ifn (i_ne (k := 11) (by decide +kernel) (by omega)) ?_
      refine ifn (i_ne (k := 20) (by decide +kernel) (by omega)) ?_
      refine ifn (i_ne (k := 21) (by decide +kernel) (by omega)) ?_
      refine ifn (i_ne (k := 30) (by decide +kernel) (by omega)) ?_
      refine ifn (i_ne (k := 31) (by decide +kernel) (by omega)) ?_
      refine H _ _ _ (fun post2 h2 => ?_)
      try unfold wpX11_kind
      try unfold wpX11_isKind
      try unfold wpX11_in
      refine ifn (lc_nlt (k := 0) (by decide +kernel) (by rw [Int32.toInt_toInt64]; omega)) ?_
      refine ifn (lc_ngt (k := 5) (by decide +kernel) (by rw [Int32.toInt_toInt64]; omega)) ?_
      refine And.intro (by decide +kernel) ?_
      refine ifn (by decide +kernel) ?_
      refine ifn (i_ne (k := 0) (by decide +kernel) (by omega)) ?_
      refine ifn (i_ne (k := 1) (by decide +kernel) (by omega)) ?_
      refine ifn (i_ne (k := 10) (by decide +kernel) (by omega)) ?_
      refine ifn (i_ne (k := 11) (by decide +kernel) (by omega)) ?_
      refine ifn (i_ne (k := 20) (by decide +kernel) (by omega)) ?_
      refine ifn (i_ne (k := 21) (by decide +kernel) (by omega)) ?_
      refine ifn (i_ne (k := 30) (by decide +kernel) (by omega)) ?_
      refine ifn (i_ne (k := 31) (by decide +kernel) (by omega)) ?_
      exact fin2 h2 (by first | rfl | decide +kernel)
    · skip
      obtain ⟨cv1, rfl, hcv1⟩ := code_of (hi := 5) hv1 (by decide)
      obtain ⟨cv2, rfl, hcv2⟩ := code_of (hi := 31) hv2 (by decide)
      exact ev_kind (he_kind cv1 hcv1 cv2 hcv2) post1 H
    · skip
      try unfold wpX10_kind
      try unfold wpX10_isKind
      refine ifn (i_nlt (k := 0) (by decide +kernel) (by omega)) ?_
      refine ifn (i_nge (k := 6) (by decide +kernel) (by omega)) ?_
      refine ifn (by decide +kernel) ?_
      refine ifn (i_ne (k := 0) (by decide +kernel) (by omega)) ?_
      refine ifn (i_ne (k := 1) (by decide +kernel) (by omega)) ?_
      refine ifn (i_ne (k := 10) (by decide +kernel) (by omega)) ?_
      refine ifn (i_ne (k := 11) (by decide +kernel) (by omega)) ?_
      refine ifn (i_ne (k := 20) (by decide +kernel) (by omega)) ?_
      refine ifn (i_ne (k := 21) (by decide +kernel) (by omega)) ?_
      refine ifn (i_ne (k := 30) (by decide +kernel) (by omega)) ?_
      refine ifn (i_ne (k := 31) (by decide +kernel) (by omega)) ?_
      refine H _ _ _ (fun post2 h2 => ?_)
      try unfold wpX11_kind
      try unfold wpX11_isKind
      try unfold wpX11_in
      refine ifn (lc_nlt (k := 0) (by decide +kernel) (by rw [Int32.toInt_toInt64]; omega)) ?_
      refine ifn (lc_ngt (k := 5) (by decide +kernel) (by rw [Int32.toInt_toInt64]; omega)) ?_
      refine And.intro (by decide +kernel) ?_
      refine ifn (by decide +kernel) ?_
      refine ifn (i_ne (k := 0) (by decide +kernel) (by omega)) ?_
      refine ifn (i_ne (k := 1) (by decide +kernel) (by omega)) ?_
      refine ifn (i_ne (k := 10) (by decide +kernel) (by omega)) ?_
      refine ifn (i_ne (k := 11) (by decide +kernel) (by omega)) ?_
      refine ifn (i_ne (k := 20) (by decide +kernel) (by omega)) ?_
      refine ifn (i_ne (k := 21) (by decide +kernel) (by omega)) ?_
      refine ifn (i_ne (k := 30) (by decide +kernel) (by omega)) ?_
      refine ifn (i_ne (k := 31) (by decide +kernel) (by omega)) ?_
      exact fin2 h2 (by first | rfl | decide +kernel)
  · skip
    try unfold wpX10_kind
    try unfold wpX10_isKind
    refine ifn (i_nlt (k := 0) (by decide +kernel) (by omega)) ?_
    refine ifp (i_ge (k := 6) (by decide +kernel) (by omega)) ?_
    refine ifp (by decide +kernel) ?_
    refine H _ _ _ (fun post2 h2 => ?_)
    try unfold wpX11_kind
    try unfold wpX11_isKind
    try unfold wpX11_in
    refine ifn (lc_nlt (k := 0) (by decide +kernel) (by rw [Int32.toInt_toInt64]; omega)) ?_
    refine ifp (lc_gt (k := 5) (by decide +kernel) (by rw [Int32.toInt_toInt64]; omega)) ?_
    refine And.intro (by decide +kernel) ?_
    refine ifp (by decide +kernel) ?_
    exact fin2 h2 (by first | rfl | decide +kernel)
theorem ev_colour {cv1 : Nat} (he : epX10_colour (fun cr cM ct => epX11_colour (fun c2 _ _ => eqN cr c2) cM ct cv1) uM0 0 cv1 = true) (post1 : Int32 → MM → Int64 → Prop) (H : ∀ r1 M1 t1, (∀ post2 : Int32 → MM → Int64 → Prop, (∀ M2 t2, post2 r1 M2 t2) → wpX11_colour post2 M1 t1 (nI cv1)) → post1 r1 M1 t1) : wpX10_colour post1 M0 0 (nI cv1) :=
  spX10_colour (q := fun cr cM ct => epX11_colour (fun c2 _ _ => eqN cr c2) cM ct cv1) (fun r M tl cr cM ct hr hM ht h => H r M tl (fun post2 h2 => spX11_colour (q := fun c2 _ _ => eqN cr c2) (fun r2 M2 t2 cr2 cM2 ct2 hr2 _ _ hh => fin2 h2 ((c_eq hr hr2).mpr hh)) hM ht rfl h)) dM0 rfl rfl he
set_option maxRecDepth 100000 in
theorem he_colour : ∀ cv1, cv1 < 4 → epX10_colour (fun cr cM ct => epX11_colour (fun c2 _ _ => eqN cr c2) cM ct cv1) uM0 0 cv1 = true := by decide +kernel
set_option maxHeartbeats 4000000 in
set_option maxRecDepth 20000 in
theorem p_colour (v1 : Int32) (post1 : Int32 → MM → Int64 → Prop) (H : ∀ r1 M1 t1, (∀ post2 : Int32 → MM → Int64 → Prop, (∀ M2 t2, post2 r1 M2 t2) → wpX11_colour post2 M1 t1 v1) → post1 r1 M1 t1) : wpX10_colour post1 M0 0 v1 := by
  rcases tri v1 0 3 with hv1 | hv1 | hv1
  · skip
    try unfold wpX10_colour
    refine ifp (i_lt (k := 0) (by decide +kernel) (by omega)) ?_
    refine H _ _ _ (fun post2 h2 => ?_)
    try unfold wpX11_colour
    try unfold wpX11_in
    refine ifp (lc_lt (k := 0) (by decide +kernel) (by rw [Int32.toInt_toInt64]; omega)) ?_
    refine ifp (by decide +kernel) ?_
    exact fin2 h2 (by first | rfl | decide +kernel)
  · skip
    obtain ⟨cv1, rfl, hcv1⟩ := code_of (hi := 3) hv1 (by decide)
    exact ev_colour (he_colour cv1 hcv1) post1 H
  · skip
    try unfold wpX10_colour
    refine ifn (i_nlt (k := 0) (by decide +kernel) (by omega)) ?_
    refine ifp (i_ge (k := 4) (by decide +kernel) (by omega)) ?_
    refine H _ _ _ (fun post2 h2 => ?_)
    try unfold wpX11_colour
    try unfold wpX11_in
    refine ifn (lc_nlt (k := 0) (by decide +kernel) (by rw [Int32.toInt_toInt64]; omega)) ?_
    refine ifp (lc_gt (k := 3) (by decide +kernel) (by rw [Int32.toInt_toInt64]; omega)) ?_
    refine ifp (by decide +kernel) ?_
    exact fin2 h2 (by first | rfl | decide +kernel)
theorem ev_mirror {cv1 : Nat} (he : epX10_mirror (fun cr cM ct => epX11_mirror (fun c2 _ _ => eqN cr c2) cM ct cv1) uM0 0 cv1 = true) (post1 : Int32 → MM → Int64 → Prop) (H : ∀ r1 M1 t1, (∀ post2 : Int32 → MM → Int64 → Prop, (∀ M2 t2, post2 r1 M2 t2) → wpX11_mirror post2 M1 t1 (nI cv1)) → post1 r1 M1 t1) : wpX10_mirror post1 M0 0 (nI cv1) :=
  spX10_mirror (q := fun cr cM ct => epX11_mirror (fun c2 _ _ => eqN cr c2) cM ct cv1) (fun r M tl cr cM ct hr hM ht h => H r M tl (fun post2 h2 => spX11_mirror (q := fun c2 _ _ => eqN cr c2) (fun r2 M2 t2 cr2 cM2 ct2 hr2 _ _ hh => fin2 h2 ((c_eq hr hr2).mpr hh)) hM ht rfl h)) dM0 rfl rfl he
set_option maxRecDepth 100000 in
theorem he_mirror : ∀ cv1, cv1 < 64 → epX10_mirror (fun cr cM ct => epX11_mirror (fun c2 _ _ => eqN cr c2) cM ct cv1) uM0 0 cv1 = true := by decide +kernel
set_option maxHeartbeats 4000000 in
set_option maxRecDepth 20000 in
theorem p_mirror (v1 : Int32) (post1 : Int32 → MM → Int64 → Prop) (H : ∀ r1 M1 t1, (∀ post2 : Int32 → MM → Int64 → Prop, (∀ M2 t2, post2 r1 M2 t2) → wpX11_mirror post2 M1 t1 v1) → post1 r1 M1 t1) : wpX10_mirror post1 M0 0 v1 := by
  rcases tri v1 0 63 with hv1 | hv1 | hv1
  · skip
    try unfold wpX10_mirror
    try unfold wpX10_isThing
    refine ifn (i_ne (k := 0) (by decide +kernel) (by omega)) ?_
    refine ifp (i_le (k := 0) (by decide +kernel) (by omega)) ?_
    refine ifp (by decide +kernel) ?_
    refine H _ _ _ (fun post2 h2 => ?_)
    try unfold wpX11_mirror
    try unfold wpX11_isThing
    refine ifn (i_ne (k := 0) (by decide +kernel) (by omega)) ?_
    try unfold wpX11_in
    refine ifp (lc_lt (k := 0) (by decide +kernel) (by rw [Int32.toInt_toInt64]; omega)) ?_
    refine ifp (by decide +kernel) ?_
    refine ifp (by decide +kernel) ?_
    exact fin2 h2 (by first | rfl | decide +kernel)
  · skip
    obtain ⟨cv1, rfl, hcv1⟩ := code_of (hi := 63) hv1 (by decide)
    exact ev_mirror (he_mirror cv1 hcv1) post1 H
  · skip
    try unfold wpX10_mirror
    try unfold wpX10_isThing
    refine ifn (i_ne (k := 0) (by decide +kernel) (by omega)) ?_
    refine ifn (i_nle (k := 0) (by decide +kernel) (by omega)) ?_
    refine ifp (i_ge (k := 64) (by decide +kernel) (by omega)) ?_
    refine ifp (by decide +kernel) ?_
    refine H _ _ _ (fun post2 h2 => ?_)
    try unfold wpX11_mirror
    try unfold wpX11_isThing
    refine ifn (i_ne (k := 0) (by decide +kernel) (by omega)) ?_
    try unfold wpX11_in
    refine ifn (lc_nlt (k := 0) (by decide +kernel) (by rw [Int32.toInt_toInt64]; omega)) ?_
    refine ifp (lc_gt (k := 63) (by decide +kernel) (by rw [Int32.toInt_toInt64]; omega)) ?_
    refine ifp (by decide +kernel) ?_
    refine ifp (by decide +kernel) ?_
    exact fin2 h2 (by first | rfl | decide +kernel)
set_option maxHeartbeats 4000000 in
set_option maxRecDepth 20000 in
theorem p_work (v1 v2 : Int32) (post1 : Int32 → MM → Int64 → Prop) (H : ∀ r1 M1 t1, (∀ post2 : Int32 → MM → Int64 → Prop, (∀ M2 t2, post2 r1 M2 t2) → wpX11_work post2 M1 t1 v1 v2) → post1 r1 M1 t1) : wpX10_work post1 M0 0 v1 v2 := by
  rcases tri v1 0 2147483647 with hv1 | hv1 | hv1
  · skip
    try unfold wpX10_work
    refine ifp (i_lt (k := 0) (by decide +kernel) (by omega)) ?_
    refine H _ _ _ (fun post2 h2 => ?_)
    try unfold wpX11_work
    refine And.intro (by unfold vp_in; decide +kernel) ?_
    try unfold wpX11_in
    refine ifp (lc_lt (k := 0) (by decide +kernel) (by rw [Int32.toInt_toInt64]; omega)) ?_
    refine ifp (by decide +kernel) ?_
    exact fin2 h2 (by first | rfl | decide +kernel)
  · skip
    try unfold wpX10_work
    refine ifn (i_nlt (k := 0) (by decide +kernel) (by omega)) ?_
    refine ifp (i_ge (k := 0) (by decide +kernel) (by omega)) ?_
    refine H _ _ _ (fun post2 h2 => ?_)
    try unfold wpX11_work
    refine And.intro (by unfold vp_in; decide +kernel) ?_
    try unfold wpX11_in
    refine ifn (lc_nlt (k := 0) (by decide +kernel) (by rw [Int32.toInt_toInt64]; omega)) ?_
    refine ifp (lc_gt (k := -1) (by decide +kernel) (by rw [Int32.toInt_toInt64]; omega)) ?_
    refine ifp (by decide +kernel) ?_
    exact fin2 h2 (by first | rfl | decide +kernel)
  · skip
    try unfold wpX10_work
    refine ifn (i_nlt (k := 0) (by decide +kernel) (by omega)) ?_
    refine ifp (i_ge (k := 0) (by decide +kernel) (by omega)) ?_
    refine H _ _ _ (fun post2 h2 => ?_)
    try unfold wpX11_work
    refine And.intro (by unfold vp_in; decide +kernel) ?_
    try unfold wpX11_in
    refine ifn (lc_nlt (k := 0) (by decide +kernel) (by rw [Int32.toInt_toInt64]; omega)) ?_
    refine ifp (lc_gt (k := -1) (by decide +kernel) (by rw [Int32.toInt_toInt64]; omega)) ?_
    refine ifp (by decide +kernel) ?_
    exact fin2 h2 (by first | rfl | decide +kernel)
theorem ev_thing {cv1 cv2 : Nat} (he : epX10_thing (fun cr cM ct => epX11_thing (fun c2 _ _ => eqN cr c2) cM ct cv1 cv2) uM0 0 cv1 cv2 = true) (post1 : Int32 → MM → Int64 → Prop) (H : ∀ r1 M1 t1, (∀ post2 : Int32 → MM → Int64 → Prop, (∀ M2 t2, post2 r1 M2 t2) → wpX11_thing post2 M1 t1 (nI cv1) (nI cv2)) → post1 r1 M1 t1) : wpX10_thing post1 M0 0 (nI cv1) (nI cv2) :=
  spX10_thing (q := fun cr cM ct => epX11_thing (fun c2 _ _ => eqN cr c2) cM ct cv1 cv2) (fun r M tl cr cM ct hr hM ht h => H r M tl (fun post2 h2 => spX11_thing (q := fun c2 _ _ => eqN cr c2) (fun r2 M2 t2 cr2 cM2 ct2 hr2 _ _ hh => fin2 h2 ((c_eq hr hr2).mpr hh)) hM ht rfl rfl h)) dM0 rfl rfl rfl he
set_option maxRecDepth 100000 in
theorem he_thing : ∀ cv1, cv1 < 2 → ∀ cv2, cv2 < 5 → epX10_thing (fun cr cM ct => epX11_thing (fun c2 _ _ => eqN cr c2) cM ct cv1 cv2) uM0 0 cv1 cv2 = true := by decide +kernel
set_option maxHeartbeats 4000000 in
set_option maxRecDepth 20000 in
theorem p_thing (v1 v2 : Int32) (post1 : Int32 → MM → Int64 → Prop) (H : ∀ r1 M1 t1, (∀ post2 : Int32 → MM → Int64 → Prop, (∀ M2 t2, post2 r1 M2 t2) → wpX11_thing post2 M1 t1 v1 v2) → post1 r1 M1 t1) : wpX10_thing post1 M0 0 v1 v2 := by
  rcases tri v1 0 1 with hv1 | hv1 | hv1
  · skip
    try unfold wpX10_thing
    try unfold wpX1_isLot
    try unfold wpX10_isSlot
    try unfold wpX10_isBank
    refine ifp (i_lt (k := 0) (by decide +kernel) (by omega)) ?_
    refine ifp (by decide +kernel) ?_
    refine ifp (by decide +kernel) ?_
    refine ifp (by decide +kernel) ?_
    refine H _ _ _ (fun post2 h2 => ?_)
    try unfold wpX11_thing
    try unfold wpX11_isLot
    try unfold wpX11_isBank
    try unfold wpX11_in
    refine ifp (lc_lt (k := 0) (by decide +kernel) (by rw [Int32.toInt_toInt64]; omega)) ?_
    refine And.intro (by decide +kernel) ?_
    refine ifp (by decide +kernel) ?_
    refine ifp (by decide +kernel) ?_
    exact fin2 h2 (by first | rfl | decide +kernel)
  · skip
    rcases tri v2 0 4 with hv2 | hv2 | hv2
    · skip
      try unfold wpX10_thing
      try unfold wpX1_isLot
      try unfold wpX10_isSlot
      try unfold wpX10_isBank
      refine ifn (i_nlt (k := 0) (by decide +kernel) (by omega)) ?_
      refine ifn (i_nge (k := 2) (by decide +kernel) (by omega)) ?_
      refine ifn (by decide +kernel) ?_
      refine ifp (i_lt (k := 0) (by decide +kernel) (by omega)) ?_
      refine ifp (by decide +kernel) ?_
      refine ifp (by decide +kernel) ?_
      refine H _ _ _ (fun post2 h2 => ?_)
      try unfold wpX11_thing
      try unfold wpX11_isLot
      try unfold wpX11_isBank
      try unfold wpX11_in
      refine ifn (lc_nlt (k := 0) (by decide +kernel) (by rw [Int32.toInt_toInt64]; omega)) ?_
      refine ifn (lc_ngt (k := 1) (by decide +kernel) (by rw [Int32.toInt_toInt64]; omega)) ?_
      refine And.intro (by decide +kernel) ?_
      refine ifn (by decide +kernel) ?_
      try unfold wpX11_in
      refine ifp (lc_lt (k := 0) (by decide +kernel) (by rw [Int32.toInt_toInt64]; omega)) ?_
      refine ifp (by decide +kernel) ?_
      refine ifp (by decide +kernel) ?_
      exact fin2 h2 (by first | rfl | decide +kernel)
    · skip
      obtain ⟨cv1, rfl, hcv1⟩ := code_of (hi := 1) hv1 (by decide)
      obtain ⟨cv2, rfl, hcv2⟩ := code_of (hi := 4) hv2 (by decide)
      exact ev_thing (he_thing cv1 hcv1 cv2 hcv2) post1 H
    · skip
      try unfold wpX10_thing
      try unfold wpX1_isLot
      try unfold wpX10_isSlot
      try unfold wpX10_isBank
      refine ifn (i_nlt (k := 0) (by decide +kernel) (by omega)) ?_
      refine ifn (i_nge (k := 2) (by decide +kernel) (by omega)) ?_
      refine ifn (by decide +kernel) ?_
      refine ifn (i_nlt (k := 0) (by decide +kernel) (by omega)) ?_
      refine ifs (fun hc => ?_) (fun hc => ?_)
      · have hk1 := i_ge_to (k := 8) (by decide +kernel) hc
        refine ifp (by decide +kernel) ?_
        refine ifp (by decide +kernel) ?_
        refine H _ _ _ (fun post2 h2 => ?_)
        try unfold wpX11_thing
        try unfold wpX11_isLot
        try unfold wpX11_isBank
        try unfold wpX11_in
        refine ifn (lc_nlt (k := 0) (by decide +kernel) (by rw [Int32.toInt_toInt64]; omega)) ?_
        refine ifn (lc_ngt (k := 1) (by decide +kernel) (by rw [Int32.toInt_toInt64]; omega)) ?_
        refine And.intro (by decide +kernel) ?_
        refine ifn (by decide +kernel) ?_
        try unfold wpX11_in
        refine ifn (lc_nlt (k := 0) (by decide +kernel) (by rw [Int32.toInt_toInt64]; omega)) ?_
        refine ifp (lc_gt (k := 4) (by decide +kernel) (by rw [Int32.toInt_toInt64]; omega)) ?_
        refine ifp (by decide +kernel) ?_
        refine ifp (by decide +kernel) ?_
        exact fin2 h2 (by first | rfl | decide +kernel)
      · have hk2 := i_nge_to (k := 8) (by decide +kernel) hc
        refine ifn (by decide +kernel) ?_
        refine And.intro (by decide +kernel) ?_
        refine ifp (i_ge (k := 5) (by decide +kernel) (by omega)) ?_
        refine ifp (by decide +kernel) ?_
        refine H _ _ _ (fun post2 h2 => ?_)
        try unfold wpX11_thing
        try unfold wpX11_isLot
        try unfold wpX11_isBank
        try unfold wpX11_in
        refine ifn (lc_nlt (k := 0) (by decide +kernel) (by rw [Int32.toInt_toInt64]; omega)) ?_
        refine ifn (lc_ngt (k := 1) (by decide +kernel) (by rw [Int32.toInt_toInt64]; omega)) ?_
        refine And.intro (by decide +kernel) ?_
        refine ifn (by decide +kernel) ?_
        try unfold wpX11_in
        refine ifn (lc_nlt (k := 0) (by decide +kernel) (by rw [Int32.toInt_toInt64]; omega)) ?_
        refine ifp (lc_gt (k := 4) (by decide +kernel) (by rw [Int32.toInt_toInt64]; omega)) ?_
        refine ifp (by decide +kernel) ?_
        refine ifp (by decide +kernel) ?_
        exact fin2 h2 (by first | rfl | decide +kernel)
  · skip
    try unfold wpX10_thing
    try unfold wpX1_isLot
    try unfold wpX10_isSlot
    try unfold wpX10_isBank
    refine ifn (i_nlt (k := 0) (by decide +kernel) (by omega)) ?_
    refine ifp (i_ge (k := 2) (by decide +kernel) (by omega)) ?_
    refine ifp (by decide +kernel) ?_
    refine ifp (by decide +kernel) ?_
    refine ifp (by decide +kernel) ?_
    refine H _ _ _ (fun post2 h2 => ?_)
    try unfold wpX11_thing
    try unfold wpX11_isLot
    try unfold wpX11_isBank
    try unfold wpX11_in
    refine ifn (lc_nlt (k := 0) (by decide +kernel) (by rw [Int32.toInt_toInt64]; omega)) ?_
    refine ifp (lc_gt (k := 1) (by decide +kernel) (by rw [Int32.toInt_toInt64]; omega)) ?_
    refine And.intro (by decide +kernel) ?_
    refine ifp (by decide +kernel) ?_
    refine ifp (by decide +kernel) ?_
    exact fin2 h2 (by first | rfl | decide +kernel)
theorem ev_put {cv1 cv2 cv3 : Nat} (he : epX10_put (fun cr cM ct => epX11_put (fun c2 _ _ => eqN cr c2) cM ct cv1 cv2 cv3) uM0 0 cv1 cv2 cv3 = true) (post1 : Int32 → MM → Int64 → Prop) (H : ∀ r1 M1 t1, (∀ post2 : Int32 → MM → Int64 → Prop, (∀ M2 t2, post2 r1 M2 t2) → wpX11_put post2 M1 t1 (nI cv1) (nI cv2) (nI cv3)) → post1 r1 M1 t1) : wpX10_put post1 M0 0 (nI cv1) (nI cv2) (nI cv3) :=
  spX10_put (q := fun cr cM ct => epX11_put (fun c2 _ _ => eqN cr c2) cM ct cv1 cv2 cv3) (fun r M tl cr cM ct hr hM ht h => H r M tl (fun post2 h2 => spX11_put (q := fun c2 _ _ => eqN cr c2) (fun r2 M2 t2 cr2 cM2 ct2 hr2 _ _ hh => fin2 h2 ((c_eq hr hr2).mpr hh)) hM ht rfl rfl rfl h)) dM0 rfl rfl rfl rfl he
set_option maxRecDepth 100000 in
theorem he_put : ∀ cv1, cv1 < 2 → ∀ cv2, cv2 < 5 → ∀ cv3, cv3 < 64 → epX10_put (fun cr cM ct => epX11_put (fun c2 _ _ => eqN cr c2) cM ct cv1 cv2 cv3) uM0 0 cv1 cv2 cv3 = true := by decide +kernel
set_option maxHeartbeats 4000000 in
set_option maxRecDepth 20000 in
theorem p_put (v1 v2 v3 : Int32) (post1 : Int32 → MM → Int64 → Prop) (H : ∀ r1 M1 t1, (∀ post2 : Int32 → MM → Int64 → Prop, (∀ M2 t2, post2 r1 M2 t2) → wpX11_put post2 M1 t1 v1 v2 v3) → post1 r1 M1 t1) : wpX10_put post1 M0 0 v1 v2 v3 := by
  rcases tri v1 0 1 with hv1 | hv1 | hv1
  · skip
    try unfold wpX10_put
    try unfold wpX1_isLot
    try unfold wpX10_isSlot
    try unfold wpX10_isBank
    refine ifp (i_lt (k := 0) (by decide +kernel) (by omega)) ?_
    refine ifp (by decide +kernel) ?_
    refine ifp (by decide +kernel) ?_
    refine ifp (by decide +kernel) ?_
    refine H _ _ _ (fun post2 h2 => ?_)
    try unfold wpX11_put
    try unfold wpX11_isLot
    try unfold wpX11_isBank
    try unfold wpX11_in
    refine ifp (lc_lt (k := 0) (by decide +kernel) (by rw [Int32.toInt_toInt64]; omega)) ?_
    refine And.intro (by decide +kernel) ?_
    refine ifp (by decide +kernel) ?_
    refine ifp (by decide +kernel) ?_
    exact fin2 h2 (by first | rfl | decide +kernel)
  · skip
    rcases tri v2 0 4 with hv2 | hv2 | hv2
    · skip
      try unfold wpX10_put
      try unfold wpX1_isLot
      try unfold wpX10_isSlot
      try unfold wpX10_isBank
      refine ifn (i_nlt (k := 0) (by decide +kernel) (by omega)) ?_
      refine ifn (i_nge (k := 2) (by decide +kernel) (by omega)) ?_
      refine ifn (by decide +kernel) ?_
      refine ifp (i_lt (k := 0) (by decide +kernel) (by omega)) ?_
      refine ifp (by decide +kernel) ?_
      refine ifp (by decide +kernel) ?_
      refine H _ _ _ (fun post2 h2 => ?_)
      try unfold wpX11_put
      try unfold wpX11_isLot
      try unfold wpX11_isBank
      try unfold wpX11_in
      refine ifn (lc_nlt (k := 0) (by decide +kernel) (by rw [Int32.toInt_toInt64]; omega)) ?_
      refine ifn (lc_ngt (k := 1) (by decide +kernel) (by rw [Int32.toInt_toInt64]; omega)) ?_
      refine And.intro (by decide +kernel) ?_
      refine ifn (by decide +kernel) ?_
      try unfold wpX11_in
      refine ifp (lc_lt (k := 0) (by decide +kernel) (by rw [Int32.toInt_toInt64]; omega)) ?_
      refine ifp (by decide +kernel) ?_
      refine ifp (by decide +kernel) ?_
      exact fin2 h2 (by first | rfl | decide +kernel)
    · skip
      rcases tri v3 0 63 with hv3 | hv3 | hv3
      · skip
        try unfold wpX10_put
        try unfold wpX1_isLot
        try unfold wpX10_isSlot
        try unfold wpX10_isBank
        refine ifn (i_nlt (k := 0) (by decide +kernel) (by omega)) ?_
        refine ifn (i_nge (k := 2) (by decide +kernel) (by omega)) ?_
        refine ifn (by decide +kernel) ?_
        refine ifn (i_nlt (k := 0) (by decide +kernel) (by omega)) ?_
        refine ifn (i_nge (k := 8) (by decide +kernel) (by omega)) ?_
        refine ifn (by decide +kernel) ?_
        refine And.intro (by decide +kernel) ?_
        refine ifn (i_nge (k := 5) (by decide +kernel) (by omega)) ?_
        refine ifn (by decide +kernel) ?_
        try unfold wpX10_isThing
        refine ifn (i_ne (k := 0) (by decide +kernel) (by omega)) ?_
        refine ifp (i_le (k := 0) (by decide +kernel) (by omega)) ?_
        refine ifp (by decide +kernel) ?_
        refine H _ _ _ (fun post2 h2 => ?_)
        try unfold wpX11_put
        try unfold wpX11_isLot
        try unfold wpX11_isBank
        try unfold wpX11_in
        refine ifn (lc_nlt (k := 0) (by decide +kernel) (by rw [Int32.toInt_toInt64]; omega)) ?_
        refine ifn (lc_ngt (k := 1) (by decide +kernel) (by rw [Int32.toInt_toInt64]; omega)) ?_
        refine And.intro (by decide +kernel) ?_
        refine ifn (by decide +kernel) ?_
        try unfold wpX11_in
        refine ifn (lc_nlt (k := 0) (by decide +kernel) (by rw [Int32.toInt_toInt64]; omega)) ?_
        refine ifn (lc_ngt (k := 4) (by decide +kernel) (by rw [Int32.toInt_toInt64]; omega)) ?_
        refine ifn (by decide +kernel) ?_
        refine ifn (by decide +kernel) ?_
        try unfold wpX11_isThing
        refine ifn (i_ne (k := 0) (by decide +kernel) (by omega)) ?_
        try unfold wpX11_in
        refine ifp (lc_lt (k := 0) (by decide +kernel) (by rw [Int32.toInt_toInt64]; omega)) ?_
        refine ifp (by decide +kernel) ?_
        refine ifp (by decide +kernel) ?_
        exact fin2 h2 (by first | rfl | decide +kernel)
      · skip
        obtain ⟨cv1, rfl, hcv1⟩ := code_of (hi := 1) hv1 (by decide)
        obtain ⟨cv2, rfl, hcv2⟩ := code_of (hi := 4) hv2 (by decide)
        obtain ⟨cv3, rfl, hcv3⟩ := code_of (hi := 63) hv3 (by decide)
        exact ev_put (he_put cv1 hcv1 cv2 hcv2 cv3 hcv3) post1 H
      · skip
        try unfold wpX10_put
        try unfold wpX1_isLot
        try unfold wpX10_isSlot
        try unfold wpX10_isBank
        refine ifn (i_nlt (k := 0) (by decide +kernel) (by omega)) ?_
        refine ifn (i_nge (k := 2) (by decide +kernel) (by omega)) ?_
        refine ifn (by decide +kernel) ?_
        refine ifn (i_nlt (k := 0) (by decide +kernel) (by omega)) ?_
        refine ifn (i_nge (k := 8) (by decide +kernel) (by omega)) ?_
        refine ifn (by decide +kernel) ?_
        refine And.intro (by decide +kernel) ?_
        refine ifn (i_nge (k := 5) (by decide +kernel) (by omega)) ?_
        refine ifn (by decide +kernel) ?_
        try unfold wpX10_isThing
        refine ifn (i_ne (k := 0) (by decide +kernel) (by omega)) ?_
        refine ifn (i_nle (k := 0) (by decide +kernel) (by omega)) ?_
        refine ifp (i_ge (k := 64) (by decide +kernel) (by omega)) ?_
        refine ifp (by decide +kernel) ?_
        refine H _ _ _ (fun post2 h2 => ?_)
        try unfold wpX11_put
        try unfold wpX11_isLot
        try unfold wpX11_isBank
        try unfold wpX11_in
        refine ifn (lc_nlt (k := 0) (by decide +kernel) (by rw [Int32.toInt_toInt64]; omega)) ?_
        refine ifn (lc_ngt (k := 1) (by decide +kernel) (by rw [Int32.toInt_toInt64]; omega)) ?_
        refine And.intro (by decide +kernel) ?_
        refine ifn (by decide +kernel) ?_
        try unfold wpX11_in
        refine ifn (lc_nlt (k := 0) (by decide +kernel) (by rw [Int32.toInt_toInt64]; omega)) ?_
        refine ifn (lc_ngt (k := 4) (by decide +kernel) (by rw [Int32.toInt_toInt64]; omega)) ?_
        refine ifn (by decide +kernel) ?_
        refine ifn (by decide +kernel) ?_
        try unfold wpX11_isThing
        refine ifn (i_ne (k := 0) (by decide +kernel) (by omega)) ?_
        try unfold wpX11_in
        refine ifn (lc_nlt (k := 0) (by decide +kernel) (by rw [Int32.toInt_toInt64]; omega)) ?_
        refine ifp (lc_gt (k := 63) (by decide +kernel) (by rw [Int32.toInt_toInt64]; omega)) ?_
        refine ifp (by decide +kernel) ?_
        refine ifp (by decide +kernel) ?_
        exact fin2 h2 (by first | rfl | decide +kernel)
    · skip
      try unfold wpX10_put
      try unfold wpX1_isLot
      try unfold wpX10_isSlot
      try unfold wpX10_isBank
      refine ifn (i_nlt (k := 0) (by decide +kernel) (by omega)) ?_
      refine ifn (i_nge (k := 2) (by decide +kernel) (by omega)) ?_
      refine ifn (by decide +kernel) ?_
      refine ifn (i_nlt (k := 0) (by decide +kernel) (by omega)) ?_
      refine ifs (fun hc => ?_) (fun hc => ?_)
      · have hk1 := i_ge_to (k := 8) (by decide +kernel) hc
        refine ifp (by decide +kernel) ?_
        refine ifp (by decide +kernel) ?_
        refine H _ _ _ (fun post2 h2 => ?_)
        try unfold wpX11_put
        try unfold wpX11_isLot
        try unfold wpX11_isBank
        try unfold wpX11_in
        refine ifn (lc_nlt (k := 0) (by decide +kernel) (by rw [Int32.toInt_toInt64]; omega)) ?_
        refine ifn (lc_ngt (k := 1) (by decide +kernel) (by rw [Int32.toInt_toInt64]; omega)) ?_
        refine And.intro (by decide +kernel) ?_
        refine ifn (by decide +kernel) ?_
        try unfold wpX11_in
        refine ifn (lc_nlt (k := 0) (by decide +kernel) (by rw [Int32.toInt_toInt64]; omega)) ?_
        refine ifp (lc_gt (k := 4) (by decide +kernel) (by rw [Int32.toInt_toInt64]; omega)) ?_
        refine ifp (by decide +kernel) ?_
        refine ifp (by decide +kernel) ?_
        exact fin2 h2 (by first | rfl | decide +kernel)
      · have hk2 := i_nge_to (k := 8) (by decide +kernel) hc
        refine ifn (by decide +kernel) ?_
        refine And.intro (by decide +kernel) ?_
        refine ifp (i_ge (k := 5) (by decide +kernel) (by omega)) ?_
        refine ifp (by decide +kernel) ?_
        refine H _ _ _ (fun post2 h2 => ?_)
        try unfold wpX11_put
        try unfold wpX11_isLot
        try unfold wpX11_isBank
        try unfold wpX11_in
        refine ifn (lc_nlt (k := 0) (by decide +kernel) (by rw [Int32.toInt_toInt64]; omega)) ?_
        refine ifn (lc_ngt (k := 1) (by decide +kernel) (by rw [Int32.toInt_toInt64]; omega)) ?_
        refine And.intro (by decide +kernel) ?_
        refine ifn (by decide +kernel) ?_
        try unfold wpX11_in
        refine ifn (lc_nlt (k := 0) (by decide +kernel) (by rw [Int32.toInt_toInt64]; omega)) ?_
        refine ifp (lc_gt (k := 4) (by decide +kernel) (by rw [Int32.toInt_toInt64]; omega)) ?_
        refine ifp (by decide +kernel) ?_
        refine ifp (by decide +kernel) ?_
        exact fin2 h2 (by first | rfl | decide +kernel)
  · skip
    try unfold wpX10_put
    try unfold wpX1_isLot
    try unfold wpX10_isSlot
    try unfold wpX10_isBank
    refine ifn (i_nlt (k := 0) (by decide +kernel) (by omega)) ?_
    refine ifp (i_ge (k := 2) (by decide +kernel) (by omega)) ?_
    refine ifp (by decide +kernel) ?_
    refine ifp (by decide +kernel) ?_
    refine ifp (by decide +kernel) ?_
    refine H _ _ _ (fun post2 h2 => ?_)
    try unfold wpX11_put
    try unfold wpX11_isLot
    try unfold wpX11_isBank
    try unfold wpX11_in
    refine ifn (lc_nlt (k := 0) (by decide +kernel) (by rw [Int32.toInt_toInt64]; omega)) ?_
    refine ifp (lc_gt (k := 1) (by decide +kernel) (by rw [Int32.toInt_toInt64]; omega)) ?_
    refine And.intro (by decide +kernel) ?_
    refine ifp (by decide +kernel) ?_
    refine ifp (by decide +kernel) ?_
    exact fin2 h2 (by first | rfl | decide +kernel)
theorem ev_match {cv1 cv2 : Nat} (he : epX10_match (fun cr cM ct => epX11_match (fun c2 _ _ => eqN cr c2) cM ct cv1 cv2) uM0 0 cv1 cv2 = true) (post1 : Int32 → MM → Int64 → Prop) (H : ∀ r1 M1 t1, (∀ post2 : Int32 → MM → Int64 → Prop, (∀ M2 t2, post2 r1 M2 t2) → wpX11_match post2 M1 t1 (nI cv1) (nI cv2)) → post1 r1 M1 t1) : wpX10_match post1 M0 0 (nI cv1) (nI cv2) :=
  spX10_match (q := fun cr cM ct => epX11_match (fun c2 _ _ => eqN cr c2) cM ct cv1 cv2) (fun r M tl cr cM ct hr hM ht h => H r M tl (fun post2 h2 => spX11_match (q := fun c2 _ _ => eqN cr c2) (fun r2 M2 t2 cr2 cM2 ct2 hr2 _ _ hh => fin2 h2 ((c_eq hr hr2).mpr hh)) hM ht rfl rfl h)) dM0 rfl rfl rfl he
set_option maxRecDepth 100000 in
theorem he_match : ∀ cv1, cv1 < 2 → ∀ cv2, cv2 < 5 → epX10_match (fun cr cM ct => epX11_match (fun c2 _ _ => eqN cr c2) cM ct cv1 cv2) uM0 0 cv1 cv2 = true := by decide +kernel
set_option maxHeartbeats 4000000 in
set_option maxRecDepth 20000 in
theorem p_match (v1 v2 : Int32) (post1 : Int32 → MM → Int64 → Prop) (H : ∀ r1 M1 t1, (∀ post2 : Int32 → MM → Int64 → Prop, (∀ M2 t2, post2 r1 M2 t2) → wpX11_match post2 M1 t1 v1 v2) → post1 r1 M1 t1) : wpX10_match post1 M0 0 v1 v2 := by
  rcases tri v1 0 1 with hv1 | hv1 | hv1
  · skip
    try unfold wpX10_match
    try unfold wpX1_isLot
    try unfold wpX10_isSlot
    try unfold wpX10_isBank
    refine ifp (i_lt (k := 0) (by decide +kernel) (by omega)) ?_
    refine ifp (by decide +kernel) ?_
    refine ifp (by decide +kernel) ?_
    refine ifp (by decide +kernel) ?_
    refine H _ _ _ (fun post2 h2 => ?_)
    try unfold wpX11_match
    try unfold wpX11_isLot
    try unfold wpX11_isBank
    try unfold wpX11_in
    refine ifp (lc_lt (k := 0) (by decide +kernel) (by rw [Int32.toInt_toInt64]; omega)) ?_
    refine And.intro (by decide +kernel) ?_
    refine ifp (by decide +kernel) ?_
    refine ifp (by decide +kernel) ?_
    exact fin2 h2 (by first | rfl | decide +kernel)
  · skip
    rcases tri v2 0 4 with hv2 | hv2 | hv2
    · skip
      try unfold wpX10_match
      try unfold wpX1_isLot
      try unfold wpX10_isSlot
      try unfold wpX10_isBank
      refine ifn (i_nlt (k := 0) (by decide +kernel) (by omega)) ?_
      refine ifn (i_nge (k := 2) (by decide +kernel) (by omega)) ?_
      refine ifn (by decide +kernel) ?_
      refine ifp (i_lt (k := 0) (by decide +kernel) (by omega)) ?_
      refine ifp (by decide +kernel) ?_
      refine ifp (by decide +kernel) ?_
      refine H _ _ _ (fun post2 h2 => ?_)
      try unfold wpX11_match
      try unfold wpX11_isLot
      try unfold wpX11_isBank
      try unfold wpX11_in
      refine ifn (lc_nlt (k := 0) (by decide +kernel) (by rw [Int32.toInt_toInt64]; omega)) ?_
      refine ifn (lc_ngt (k := 1) (by decide +kernel) (by rw [Int32.toInt_toInt64]; omega)) ?_
      refine And.intro (by decide +kernel) ?_
      refine ifn (by decide +kernel) ?_
      try unfold wpX11_in
      refine ifp (lc_lt (k := 0) (by decide +kernel) (by rw [Int32.toInt_toInt64]; omega)) ?_
      refine ifp (by decide +kernel) ?_
      refine ifp (by decide +kernel) ?_
      exact fin2 h2 (by first | rfl | decide +kernel)
    · skip
      obtain ⟨cv1, rfl, hcv1⟩ := code_of (hi := 1) hv1 (by decide)
      obtain ⟨cv2, rfl, hcv2⟩ := code_of (hi := 4) hv2 (by decide)
      exact ev_match (he_match cv1 hcv1 cv2 hcv2) post1 H
    · skip
      try unfold wpX10_match
      try unfold wpX1_isLot
      try unfold wpX10_isSlot
      try unfold wpX10_isBank
      refine ifn (i_nlt (k := 0) (by decide +kernel) (by omega)) ?_
      refine ifn (i_nge (k := 2) (by decide +kernel) (by omega)) ?_
      refine ifn (by decide +kernel) ?_
      refine ifn (i_nlt (k := 0) (by decide +kernel) (by omega)) ?_
      refine ifs (fun hc => ?_) (fun hc => ?_)
      · have hk1 := i_ge_to (k := 8) (by decide +kernel) hc
        refine ifp (by decide +kernel) ?_
        refine ifp (by decide +kernel) ?_
        refine H _ _ _ (fun post2 h2 => ?_)
        try unfold wpX11_match
        try unfold wpX11_isLot
        try unfold wpX11_isBank
        try unfold wpX11_in
        refine ifn (lc_nlt (k := 0) (by decide +kernel) (by rw [Int32.toInt_toInt64]; omega)) ?_
        refine ifn (lc_ngt (k := 1) (by decide +kernel) (by rw [Int32.toInt_toInt64]; omega)) ?_
        refine And.intro (by decide +kernel) ?_
        refine ifn (by decide +kernel) ?_
        try unfold wpX11_in
        refine ifn (lc_nlt (k := 0) (by decide +kernel) (by rw [Int32.toInt_toInt64]; omega)) ?_
        refine ifp (lc_gt (k := 4) (by decide +kernel) (by rw [Int32.toInt_toInt64]; omega)) ?_
        refine ifp (by decide +kernel) ?_
        refine ifp (by decide +kernel) ?_
        exact fin2 h2 (by first | rfl | decide +kernel)
      · have hk2 := i_nge_to (k := 8) (by decide +kernel) hc
        refine ifn (by decide +kernel) ?_
        refine And.intro (by decide +kernel) ?_
        refine ifp (i_ge (k := 5) (by decide +kernel) (by omega)) ?_
        refine ifp (by decide +kernel) ?_
        refine H _ _ _ (fun post2 h2 => ?_)
        try unfold wpX11_match
        try unfold wpX11_isLot
        try unfold wpX11_isBank
        try unfold wpX11_in
        refine ifn (lc_nlt (k := 0) (by decide +kernel) (by rw [Int32.toInt_toInt64]; omega)) ?_
        refine ifn (lc_ngt (k := 1) (by decide +kernel) (by rw [Int32.toInt_toInt64]; omega)) ?_
        refine And.intro (by decide +kernel) ?_
        refine ifn (by decide +kernel) ?_
        try unfold wpX11_in
        refine ifn (lc_nlt (k := 0) (by decide +kernel) (by rw [Int32.toInt_toInt64]; omega)) ?_
        refine ifp (lc_gt (k := 4) (by decide +kernel) (by rw [Int32.toInt_toInt64]; omega)) ?_
        refine ifp (by decide +kernel) ?_
        refine ifp (by decide +kernel) ?_
        exact fin2 h2 (by first | rfl | decide +kernel)
  · skip
    try unfold wpX10_match
    try unfold wpX1_isLot
    try unfold wpX10_isSlot
    try unfold wpX10_isBank
    refine ifn (i_nlt (k := 0) (by decide +kernel) (by omega)) ?_
    refine ifp (i_ge (k := 2) (by decide +kernel) (by omega)) ?_
    refine ifp (by decide +kernel) ?_
    refine ifp (by decide +kernel) ?_
    refine ifp (by decide +kernel) ?_
    refine H _ _ _ (fun post2 h2 => ?_)
    try unfold wpX11_match
    try unfold wpX11_isLot
    try unfold wpX11_isBank
    try unfold wpX11_in
    refine ifn (lc_nlt (k := 0) (by decide +kernel) (by rw [Int32.toInt_toInt64]; omega)) ?_
    refine ifp (lc_gt (k := 1) (by decide +kernel) (by rw [Int32.toInt_toInt64]; omega)) ?_
    refine And.intro (by decide +kernel) ?_
    refine ifp (by decide +kernel) ?_
    refine ifp (by decide +kernel) ?_
    exact fin2 h2 (by first | rfl | decide +kernel)
theorem ev_odd (he : epX10_odd (fun cr cM ct => epX11_odd (fun c2 _ _ => eqN cr c2) cM ct ) uM0 0  = true) (post1 : Int32 → MM → Int64 → Prop) (H : ∀ r1 M1 t1, (∀ post2 : Int32 → MM → Int64 → Prop, (∀ M2 t2, post2 r1 M2 t2) → wpX11_odd post2 M1 t1 ) → post1 r1 M1 t1) : wpX10_odd post1 M0 0  :=
  spX10_odd (q := fun cr cM ct => epX11_odd (fun c2 _ _ => eqN cr c2) cM ct ) (fun r M tl cr cM ct hr hM ht h => H r M tl (fun post2 h2 => spX11_odd (q := fun c2 _ _ => eqN cr c2) (fun r2 M2 t2 cr2 cM2 ct2 hr2 _ _ hh => fin2 h2 ((c_eq hr hr2).mpr hh)) hM ht  h)) dM0 rfl  he
set_option maxRecDepth 100000 in
theorem he_odd : epX10_odd (fun cr cM ct => epX11_odd (fun c2 _ _ => eqN cr c2) cM ct ) uM0 0  = true := by decide +kernel
set_option maxHeartbeats 4000000 in
set_option maxRecDepth 20000 in
theorem p_odd  (post1 : Int32 → MM → Int64 → Prop) (H : ∀ r1 M1 t1, (∀ post2 : Int32 → MM → Int64 → Prop, (∀ M2 t2, post2 r1 M2 t2) → wpX11_odd post2 M1 t1 ) → post1 r1 M1 t1) : wpX10_odd post1 M0 0  := by
  exact ev_odd (he_odd) post1 H
