theorem lm20 : (-20 : Int32) = nI 4294967276 := by decide
theorem lm14 : (-14 : Int32) = nI 4294967282 := by decide
theorem lm12 : (-12 : Int32) = nI 4294967284 := by decide
theorem lm11 : (-11 : Int32) = nI 4294967285 := by decide
theorem lm10 : (-10 : Int32) = nI 4294967286 := by decide
theorem lm8 : (-8 : Int32) = nI 4294967288 := by decide
theorem lm4 : (-4 : Int32) = nI 4294967292 := by decide
theorem lm3 : (-3 : Int32) = nI 4294967293 := by decide
theorem lm2 : (-2 : Int32) = nI 4294967294 := by decide
theorem lm1 : (-1 : Int32) = nI 4294967295 := by decide
noncomputable def eX11_firstDraft_95 (q : Nat → Nat → Bool) (cbk65 : Nat → Nat → Nat → Bool) (cM ct cv1 cs1 cs2 : Nat) : Bool :=
  (@Bool.rec (fun _ => Bool) false (wrB (fun cM2 => (cbk65 cM2 ct (aN cv1 1))) cM 93 (tN cs1) cs2) (inN cs1 (alF 93)))
set_option maxHeartbeats 4000000 in
set_option maxRecDepth 20000 in
theorem sX11_firstDraft_95 {post : MM → Int64 → Prop} {q : Nat → Nat → Bool} (hq : ∀ (M : MM) (tl : Int64) (cM ct : Nat), M = dM cM → tl = i64 ct → q cM ct = true → post M tl) {bk65 : MM → Int64 → Int32 → Prop} {cbk65 : Nat → Nat → Nat → Bool} (hbk65 : ∀ (M : MM) (tl : Int64) (x0 : Int32) (cM ct cx0 : Nat), M = dM cM → tl = i64 ct → x0 = nI cx0 → cbk65 cM ct cx0 = true → bk65 M tl x0) {M : MM} {tl : Int64} {v1 : Int32} {s1 : Int32} {s2 : Int32} {cM ct cv1 cs1 cs2 : Nat} (hM : M = dM cM) (ht : tl = i64 ct) (hv1 : v1 = nI cv1) (hs1 : s1 = nI cs1) (hs2 : s2 = nI cs2) (h : eX11_firstDraft_95 q cbk65 cM ct cv1 cs1 cs2 = true) : wX11_firstDraft_95 post bk65 M tl v1 s1 s2 := by
  unfold wX11_firstDraft_95
  refine e_and (k_in hs1 (r_al (rfl : (93 : Nat) = 93))) h (fun h => ?_)
  refine e_wr h hM (rfl : (93 : Nat) = 93) (r_nat hs1) hs2 (fun M2 cM2 hM2 h => ?_)
  exact hbk65 _ _ _ _ _ _ hM2 ht (r_add hv1 (rfl : (1 : Int32) = nI 1)) h
noncomputable def eX11_firstDraft_118 (q : Nat → Nat → Bool) (n : Nat) : Nat → Nat → Nat → Bool :=
  @Nat.rec (fun _ => Nat → Nat → Nat → Bool) (fun _ _ _ => false) (fun _ ih cM ct cv1 => (@Bool.rec (fun _ => Bool) (@Bool.rec (fun _ => Bool) false (wrB (fun cM10 => (ih cM10 ct (aN cv1 1))) cM 95 (tN cv1) cv1) (inN cv1 (alF 95))) (wrB (fun cM1 => (wrB (fun cM2 => (wrB (fun cM3 => (wrB (fun cM4 => (wrB (fun cM5 => (wrB (fun cM6 => (wrB (fun cM7 => (wrB (fun cM8 => (q cM8 ct)) cM7 81 29 4294967292)) cM6 81 28 0)) cM5 81 27 0)) cM4 81 26 0)) cM3 81 25 0)) cM2 81 24 0)) cM1 81 23 0)) cM 81 22 0) (leN 6 cv1))) n
set_option maxHeartbeats 4000000 in
set_option maxRecDepth 20000 in
theorem sX11_firstDraft_118 {post : MM → Int64 → Prop} {q : Nat → Nat → Bool} (hq : ∀ (M : MM) (tl : Int64) (cM ct : Nat), M = dM cM → tl = i64 ct → q cM ct = true → post M tl) : ∀ (n : Nat) (M : MM) (tl : Int64) (v1 : Int32) (cM ct cv1 : Nat), M = dM cM → tl = i64 ct → v1 = nI cv1 → eX11_firstDraft_118 q  n cM ct cv1 = true → wX11_firstDraft_118 post  n M tl v1 := by
  intro n
  induction n with
  | zero => intro M tl v1 cM ct cv1 hM ht hv1 h; exact Bool.noConfusion h
  | succ n ih =>
    intro M tl v1 cM ct cv1 hM ht hv1 h
    unfold wX11_firstDraft_118
    refine e_ite (c_le (rfl : (6 : Int32) = nI 6) hv1) h (fun h => ?_) (fun h => ?_)
    · refine e_wr h hM (rfl : (81 : Nat) = 81) (rfl : (22 : Nat) = 22) (rfl : (0 : Int32) = nI 0) (fun M1 cM1 hM1 h => ?_)
      refine e_wr h hM1 (rfl : (81 : Nat) = 81) (rfl : (23 : Nat) = 23) (rfl : (0 : Int32) = nI 0) (fun M2 cM2 hM2 h => ?_)
      refine e_wr h hM2 (rfl : (81 : Nat) = 81) (rfl : (24 : Nat) = 24) (rfl : (0 : Int32) = nI 0) (fun M3 cM3 hM3 h => ?_)
      refine e_wr h hM3 (rfl : (81 : Nat) = 81) (rfl : (25 : Nat) = 25) (rfl : (0 : Int32) = nI 0) (fun M4 cM4 hM4 h => ?_)
      refine e_wr h hM4 (rfl : (81 : Nat) = 81) (rfl : (26 : Nat) = 26) (rfl : (0 : Int32) = nI 0) (fun M5 cM5 hM5 h => ?_)
      refine e_wr h hM5 (rfl : (81 : Nat) = 81) (rfl : (27 : Nat) = 27) (rfl : (0 : Int32) = nI 0) (fun M6 cM6 hM6 h => ?_)
      refine e_wr h hM6 (rfl : (81 : Nat) = 81) (rfl : (28 : Nat) = 28) (rfl : (0 : Int32) = nI 0) (fun M7 cM7 hM7 h => ?_)
      refine e_wr h hM7 (rfl : (81 : Nat) = 81) (rfl : (29 : Nat) = 29) lm4 (fun M8 cM8 hM8 h => ?_)
      exact hq _ _ _ _ hM8 ht h
    · refine e_and (k_in hv1 (r_al (rfl : (95 : Nat) = 95))) h (fun h => ?_)
      refine e_wr h hM (rfl : (95 : Nat) = 95) (r_nat hv1) hv1 (fun M10 cM10 hM10 h => ?_)
      exact ih _ _ _ _ _ _ hM10 ht (r_add hv1 (rfl : (1 : Int32) = nI 1)) h
noncomputable def eX11_firstDraft_65 (q : Nat → Nat → Bool) (n : Nat) : Nat → Nat → Nat → Bool :=
  @Nat.rec (fun _ => Nat → Nat → Nat → Bool) (fun _ _ _ => false) (fun _ ih cM ct cv1 => (@Bool.rec (fun _ => Bool) (@Bool.rec (fun _ => Bool) false (wrB (fun cM6 => (@Bool.rec (fun _ => Bool) (eX11_firstDraft_95 q ih cM6 ct cv1 cv1 3) (eX11_firstDraft_95 q ih cM6 ct cv1 cv1 0) (eqN (sN cv1 (mN (b2 f_div cv1 6) 6)) 0))) cM 92 (tN cv1) 5) (inN cv1 (alF 92))) (@Bool.rec (fun _ => Bool) false (wrB (fun cM2 => (@Bool.rec (fun _ => Bool) false (wrB (fun cM4 => (eX11_firstDraft_118 q  5000 cM4 ct 0)) cM2 94 (tN 1) 0) (inN 1 (alF 94)))) cM 94 (tN 0) 0) (inN 0 (alF 94))) (leN 12 cv1))) n
set_option maxHeartbeats 4000000 in
set_option maxRecDepth 20000 in
theorem sX11_firstDraft_65 {post : MM → Int64 → Prop} {q : Nat → Nat → Bool} (hq : ∀ (M : MM) (tl : Int64) (cM ct : Nat), M = dM cM → tl = i64 ct → q cM ct = true → post M tl) : ∀ (n : Nat) (M : MM) (tl : Int64) (v1 : Int32) (cM ct cv1 : Nat), M = dM cM → tl = i64 ct → v1 = nI cv1 → eX11_firstDraft_65 q  n cM ct cv1 = true → wX11_firstDraft_65 post  n M tl v1 := by
  intro n
  induction n with
  | zero => intro M tl v1 cM ct cv1 hM ht hv1 h; exact Bool.noConfusion h
  | succ n ih =>
    intro M tl v1 cM ct cv1 hM ht hv1 h
    unfold wX11_firstDraft_65
    refine e_ite (c_le (rfl : (12 : Int32) = nI 12) hv1) h (fun h => ?_) (fun h => ?_)
    · refine e_and (k_in (rfl : (0 : Int32) = nI 0) (r_al (rfl : (94 : Nat) = 94))) h (fun h => ?_)
      refine e_wr h hM (rfl : (94 : Nat) = 94) (r_nat (rfl : (0 : Int32) = nI 0)) (rfl : (0 : Int32) = nI 0) (fun M2 cM2 hM2 h => ?_)
      refine e_and (k_in (rfl : (1 : Int32) = nI 1) (r_al (rfl : (94 : Nat) = 94))) h (fun h => ?_)
      refine e_wr h hM2 (rfl : (94 : Nat) = 94) (r_nat (rfl : (1 : Int32) = nI 1)) (rfl : (0 : Int32) = nI 0) (fun M4 cM4 hM4 h => ?_)
      exact ⟨5000, sX11_firstDraft_118 hq  5000 _ _ _ _ _ _ hM4 ht (rfl : (0 : Int32) = nI 0) h⟩
    · refine e_and (k_in hv1 (r_al (rfl : (92 : Nat) = 92))) h (fun h => ?_)
      refine e_wr h hM (rfl : (92 : Nat) = 92) (r_nat hv1) (rfl : (5 : Int32) = nI 5) (fun M6 cM6 hM6 h => ?_)
      refine e_ite (c_eq (r_sub hv1 (r_mul (r_b2 f_div hv1 (rfl : (6 : Int32) = nI 6)) (rfl : (6 : Int32) = nI 6))) (rfl : (0 : Int32) = nI 0)) h (fun h => ?_) (fun h => ?_)
      · exact sX11_firstDraft_95 hq ih hM6 ht hv1 hv1 (rfl : (0 : Int32) = nI 0) h
      · exact sX11_firstDraft_95 hq ih hM6 ht hv1 hv1 (rfl : (3 : Int32) = nI 3) h
noncomputable def eX11_firstDraft_38 (q : Nat → Nat → Bool) (n : Nat) : Nat → Nat → Nat → Bool :=
  @Nat.rec (fun _ => Nat → Nat → Nat → Bool) (fun _ _ _ => false) (fun _ ih cM ct cv1 => (@Bool.rec (fun _ => Bool) (@Bool.rec (fun _ => Bool) false (wrB (fun cM2 => (@Bool.rec (fun _ => Bool) false (wrB (fun cM4 => (ih cM4 ct (aN cv1 1))) cM2 96 (tN cv1) cv1) (inN cv1 (alF 96)))) cM 91 (tN cv1) 1) (inN cv1 (alF 91))) (eX11_firstDraft_65 q  5000 cM ct 0) (leN 4 cv1))) n
set_option maxHeartbeats 4000000 in
set_option maxRecDepth 20000 in
theorem sX11_firstDraft_38 {post : MM → Int64 → Prop} {q : Nat → Nat → Bool} (hq : ∀ (M : MM) (tl : Int64) (cM ct : Nat), M = dM cM → tl = i64 ct → q cM ct = true → post M tl) : ∀ (n : Nat) (M : MM) (tl : Int64) (v1 : Int32) (cM ct cv1 : Nat), M = dM cM → tl = i64 ct → v1 = nI cv1 → eX11_firstDraft_38 q  n cM ct cv1 = true → wX11_firstDraft_38 post  n M tl v1 := by
  intro n
  induction n with
  | zero => intro M tl v1 cM ct cv1 hM ht hv1 h; exact Bool.noConfusion h
  | succ n ih =>
    intro M tl v1 cM ct cv1 hM ht hv1 h
    unfold wX11_firstDraft_38
    refine e_ite (c_le (rfl : (4 : Int32) = nI 4) hv1) h (fun h => ?_) (fun h => ?_)
    · exact ⟨5000, sX11_firstDraft_65 hq  5000 _ _ _ _ _ _ hM ht (rfl : (0 : Int32) = nI 0) h⟩
    · refine e_and (k_in hv1 (r_al (rfl : (91 : Nat) = 91))) h (fun h => ?_)
      refine e_wr h hM (rfl : (91 : Nat) = 91) (r_nat hv1) (rfl : (1 : Int32) = nI 1) (fun M2 cM2 hM2 h => ?_)
      refine e_and (k_in hv1 (r_al (rfl : (96 : Nat) = 96))) h (fun h => ?_)
      refine e_wr h hM2 (rfl : (96 : Nat) = 96) (r_nat hv1) hv1 (fun M4 cM4 hM4 h => ?_)
      exact ih _ _ _ _ _ _ hM4 ht (r_add hv1 (rfl : (1 : Int32) = nI 1)) h
noncomputable def eX11_firstDraft_2 (q : Nat → Nat → Bool) (n : Nat) : Nat → Nat → Nat → Bool :=
  @Nat.rec (fun _ => Nat → Nat → Nat → Bool) (fun _ _ _ => false) (fun _ ih cM ct cv1 => (@Bool.rec (fun _ => Bool) (@Bool.rec (fun _ => Bool) false (wrB (fun cM5 => (ih cM5 ct (aN cv1 1))) cM 90 (tN cv1) 0) (inN cv1 (alF 90))) (wrB (fun cM1 => (wrB (fun cM2 => (wrB (fun cM3 => (eX11_firstDraft_38 q  5000 cM3 ct 0)) cM2 81 15 1)) cM1 81 14 3)) cM 81 13 5) (leN 127 cv1))) n
set_option maxHeartbeats 4000000 in
set_option maxRecDepth 20000 in
theorem sX11_firstDraft_2 {post : MM → Int64 → Prop} {q : Nat → Nat → Bool} (hq : ∀ (M : MM) (tl : Int64) (cM ct : Nat), M = dM cM → tl = i64 ct → q cM ct = true → post M tl) : ∀ (n : Nat) (M : MM) (tl : Int64) (v1 : Int32) (cM ct cv1 : Nat), M = dM cM → tl = i64 ct → v1 = nI cv1 → eX11_firstDraft_2 q  n cM ct cv1 = true → wX11_firstDraft_2 post  n M tl v1 := by
  intro n
  induction n with
  | zero => intro M tl v1 cM ct cv1 hM ht hv1 h; exact Bool.noConfusion h
  | succ n ih =>
    intro M tl v1 cM ct cv1 hM ht hv1 h
    unfold wX11_firstDraft_2
    refine e_ite (c_le (rfl : (127 : Int32) = nI 127) hv1) h (fun h => ?_) (fun h => ?_)
    · refine e_wr h hM (rfl : (81 : Nat) = 81) (rfl : (13 : Nat) = 13) (rfl : (5 : Int32) = nI 5) (fun M1 cM1 hM1 h => ?_)
      refine e_wr h hM1 (rfl : (81 : Nat) = 81) (rfl : (14 : Nat) = 14) (rfl : (3 : Int32) = nI 3) (fun M2 cM2 hM2 h => ?_)
      refine e_wr h hM2 (rfl : (81 : Nat) = 81) (rfl : (15 : Nat) = 15) (rfl : (1 : Int32) = nI 1) (fun M3 cM3 hM3 h => ?_)
      exact ⟨5000, sX11_firstDraft_38 hq  5000 _ _ _ _ _ _ hM3 ht (rfl : (0 : Int32) = nI 0) h⟩
    · refine e_and (k_in hv1 (r_al (rfl : (90 : Nat) = 90))) h (fun h => ?_)
      refine e_wr h hM (rfl : (90 : Nat) = 90) (r_nat hv1) (rfl : (0 : Int32) = nI 0) (fun M5 cM5 hM5 h => ?_)
      exact ih _ _ _ _ _ _ hM5 ht (r_add hv1 (rfl : (1 : Int32) = nI 1)) h
noncomputable def epX11_firstDraft (q : Nat → Nat → Bool) (cM ct  : Nat) : Bool :=
  (eX11_firstDraft_2 q  5000 cM ct 0)
set_option maxHeartbeats 4000000 in
set_option maxRecDepth 20000 in
theorem spX11_firstDraft {post : MM → Int64 → Prop} {q : Nat → Nat → Bool} (hq : ∀ (M : MM) (tl : Int64) (cM ct : Nat), M = dM cM → tl = i64 ct → q cM ct = true → post M tl) {M : MM} {tl : Int64} {cM ct  : Nat} (hM : M = dM cM) (ht : tl = i64 ct)  (h : epX11_firstDraft q  cM ct  = true) : wpX11_firstDraft post  M tl  := by
  unfold wpX11_firstDraft
  exact ⟨5000, sX11_firstDraft_2 hq  5000 _ _ _ _ _ _ hM ht (rfl : (0 : Int32) = nI 0) h⟩
noncomputable def eX11_keepDraft_120 (q : Nat → Nat → Bool) (cbk89 : Nat → Nat → Nat → Bool) (cM ct cv1 cs1 cs2 : Nat) : Bool :=
  (@Bool.rec (fun _ => Bool) false (wrB (fun cM2 => (@Bool.rec (fun _ => Bool) false (@Bool.rec (fun _ => Bool) false (wrB (fun cM5 => (cbk89 cM5 ct (aN cv1 1))) cM2 86 (tN cv1) (rd cM2 93 (tN cv1))) (inN cv1 (alF 86))) (inN cv1 (alF 93)))) cM 85 (tN cs1) cs2) (inN cs1 (alF 85)))
set_option maxHeartbeats 4000000 in
set_option maxRecDepth 20000 in
theorem sX11_keepDraft_120 {post : MM → Int64 → Prop} {q : Nat → Nat → Bool} (hq : ∀ (M : MM) (tl : Int64) (cM ct : Nat), M = dM cM → tl = i64 ct → q cM ct = true → post M tl) {bk89 : MM → Int64 → Int32 → Prop} {cbk89 : Nat → Nat → Nat → Bool} (hbk89 : ∀ (M : MM) (tl : Int64) (x0 : Int32) (cM ct cx0 : Nat), M = dM cM → tl = i64 ct → x0 = nI cx0 → cbk89 cM ct cx0 = true → bk89 M tl x0) {M : MM} {tl : Int64} {v1 : Int32} {s1 : Int32} {s2 : Int32} {cM ct cv1 cs1 cs2 : Nat} (hM : M = dM cM) (ht : tl = i64 ct) (hv1 : v1 = nI cv1) (hs1 : s1 = nI cs1) (hs2 : s2 = nI cs2) (h : eX11_keepDraft_120 q cbk89 cM ct cv1 cs1 cs2 = true) : wX11_keepDraft_120 post bk89 M tl v1 s1 s2 := by
  unfold wX11_keepDraft_120
  refine e_and (k_in hs1 (r_al (rfl : (85 : Nat) = 85))) h (fun h => ?_)
  refine e_wr h hM (rfl : (85 : Nat) = 85) (r_nat hs1) hs2 (fun M2 cM2 hM2 h => ?_)
  refine e_and (k_in hv1 (r_al (rfl : (93 : Nat) = 93))) h (fun h => ?_)
  refine e_and (k_in hv1 (r_al (rfl : (86 : Nat) = 86))) h (fun h => ?_)
  refine e_wr h hM2 (rfl : (86 : Nat) = 86) (r_nat hv1) (r_rd hM2 (rfl : (93 : Nat) = 93) (r_nat hv1)) (fun M5 cM5 hM5 h => ?_)
  exact hbk89 _ _ _ _ _ _ hM5 ht (r_add hv1 (rfl : (1 : Int32) = nI 1)) h
noncomputable def eX11_keepDraft_173 (q : Nat → Nat → Bool) (n : Nat) : Nat → Nat → Nat → Bool :=
  @Nat.rec (fun _ => Nat → Nat → Nat → Bool) (fun _ _ _ => false) (fun _ ih cM ct cv1 => (@Bool.rec (fun _ => Bool) (@Bool.rec (fun _ => Bool) false (@Bool.rec (fun _ => Bool) false (wrB (fun cM7 => (@Bool.rec (fun _ => Bool) false (wrB (fun cM9 => (ih cM9 ct (aN cv1 1))) cM7 81 11 (Nat.lor (rd cM7 81 11) (b2 f_shl (Nat.land (b2 f_shr (rd cM7 81 22) cv1) 1) (rd cM7 95 (tN cv1))))) (inN cv1 (alF 95)))) cM 88 (tN cv1) (rd cM 95 (tN cv1))) (inN cv1 (alF 88))) (inN cv1 (alF 95))) (@Bool.rec (fun _ => Bool) false (wrB (fun cM2 => (@Bool.rec (fun _ => Bool) false (wrB (fun cM4 => (q cM4 ct)) cM2 83 (tN 1) (b1 (vp_nar .boolean) 0)) (inN 1 (alF 83)))) cM 83 (tN 0) (b1 (vp_nar .boolean) 0)) (inN 0 (alF 83))) (leN 6 cv1))) n
set_option maxHeartbeats 4000000 in
set_option maxRecDepth 20000 in
theorem sX11_keepDraft_173 {post : MM → Int64 → Prop} {q : Nat → Nat → Bool} (hq : ∀ (M : MM) (tl : Int64) (cM ct : Nat), M = dM cM → tl = i64 ct → q cM ct = true → post M tl) : ∀ (n : Nat) (M : MM) (tl : Int64) (v1 : Int32) (cM ct cv1 : Nat), M = dM cM → tl = i64 ct → v1 = nI cv1 → eX11_keepDraft_173 q  n cM ct cv1 = true → wX11_keepDraft_173 post  n M tl v1 := by
  intro n
  induction n with
  | zero => intro M tl v1 cM ct cv1 hM ht hv1 h; exact Bool.noConfusion h
  | succ n ih =>
    intro M tl v1 cM ct cv1 hM ht hv1 h
    unfold wX11_keepDraft_173
    refine e_ite (c_le (rfl : (6 : Int32) = nI 6) hv1) h (fun h => ?_) (fun h => ?_)
    · refine e_and (k_in (rfl : (0 : Int32) = nI 0) (r_al (rfl : (83 : Nat) = 83))) h (fun h => ?_)
      refine e_wr h hM (rfl : (83 : Nat) = 83) (r_nat (rfl : (0 : Int32) = nI 0)) (r_b1 (vp_nar .boolean) (rfl : (0 : Int32) = nI 0)) (fun M2 cM2 hM2 h => ?_)
      refine e_and (k_in (rfl : (1 : Int32) = nI 1) (r_al (rfl : (83 : Nat) = 83))) h (fun h => ?_)
      refine e_wr h hM2 (rfl : (83 : Nat) = 83) (r_nat (rfl : (1 : Int32) = nI 1)) (r_b1 (vp_nar .boolean) (rfl : (0 : Int32) = nI 0)) (fun M4 cM4 hM4 h => ?_)
      exact hq _ _ _ _ hM4 ht h
    · refine e_and (k_in hv1 (r_al (rfl : (95 : Nat) = 95))) h (fun h => ?_)
      refine e_and (k_in hv1 (r_al (rfl : (88 : Nat) = 88))) h (fun h => ?_)
      refine e_wr h hM (rfl : (88 : Nat) = 88) (r_nat hv1) (r_rd hM (rfl : (95 : Nat) = 95) (r_nat hv1)) (fun M7 cM7 hM7 h => ?_)
      refine e_and (k_in hv1 (r_al (rfl : (95 : Nat) = 95))) h (fun h => ?_)
      refine e_wr h hM7 (rfl : (81 : Nat) = 81) (rfl : (11 : Nat) = 11) (r_or (r_rd hM7 (rfl : (81 : Nat) = 81) (rfl : (11 : Nat) = 11)) (r_b2 f_shl (r_and (r_b2 f_shr (r_rd hM7 (rfl : (81 : Nat) = 81) (rfl : (22 : Nat) = 22)) hv1) (rfl : (1 : Int32) = nI 1)) (r_rd hM7 (rfl : (95 : Nat) = 95) (r_nat hv1)))) (fun M9 cM9 hM9 h => ?_)
      exact ih _ _ _ _ _ _ hM9 ht (r_add hv1 (rfl : (1 : Int32) = nI 1)) h
noncomputable def eX11_keepDraft_89 (q : Nat → Nat → Bool) (n : Nat) : Nat → Nat → Nat → Bool :=
  @Nat.rec (fun _ => Nat → Nat → Nat → Bool) (fun _ _ _ => false) (fun _ ih cM ct cv1 => (@Bool.rec (fun _ => Bool) (@Bool.rec (fun _ => Bool) (@Bool.rec (fun _ => Bool) false (eX11_keepDraft_120 q ih cM ct cv1 cv1 (rd cM 92 (tN cv1))) (inN cv1 (alF 92))) (eX11_keepDraft_120 q ih cM ct cv1 cv1 (rd cM 81 15)) (eqN (sN cv1 (mN (b2 f_div cv1 6) 6)) 0)) (@Bool.rec (fun _ => Bool) false (@Bool.rec (fun _ => Bool) false (wrB (fun cM3 => (@Bool.rec (fun _ => Bool) false (@Bool.rec (fun _ => Bool) false (wrB (fun cM6 => (wrB (fun cM7 => (eX11_keepDraft_173 q  5000 cM7 ct 0)) cM6 81 11 (rd cM6 81 22))) cM3 87 (tN 1) (rd cM3 94 (tN 1))) (inN 1 (alF 87))) (inN 1 (alF 94)))) cM 87 (tN 0) (rd cM 94 (tN 0))) (inN 0 (alF 87))) (inN 0 (alF 94))) (leN 12 cv1))) n
set_option maxHeartbeats 4000000 in
set_option maxRecDepth 20000 in
theorem sX11_keepDraft_89 {post : MM → Int64 → Prop} {q : Nat → Nat → Bool} (hq : ∀ (M : MM) (tl : Int64) (cM ct : Nat), M = dM cM → tl = i64 ct → q cM ct = true → post M tl) : ∀ (n : Nat) (M : MM) (tl : Int64) (v1 : Int32) (cM ct cv1 : Nat), M = dM cM → tl = i64 ct → v1 = nI cv1 → eX11_keepDraft_89 q  n cM ct cv1 = true → wX11_keepDraft_89 post  n M tl v1 := by
  intro n
  induction n with
  | zero => intro M tl v1 cM ct cv1 hM ht hv1 h; exact Bool.noConfusion h
  | succ n ih =>
    intro M tl v1 cM ct cv1 hM ht hv1 h
    unfold wX11_keepDraft_89
    refine e_ite (c_le (rfl : (12 : Int32) = nI 12) hv1) h (fun h => ?_) (fun h => ?_)
    · refine e_and (k_in (rfl : (0 : Int32) = nI 0) (r_al (rfl : (94 : Nat) = 94))) h (fun h => ?_)
      refine e_and (k_in (rfl : (0 : Int32) = nI 0) (r_al (rfl : (87 : Nat) = 87))) h (fun h => ?_)
      refine e_wr h hM (rfl : (87 : Nat) = 87) (r_nat (rfl : (0 : Int32) = nI 0)) (r_rd hM (rfl : (94 : Nat) = 94) (r_nat (rfl : (0 : Int32) = nI 0))) (fun M3 cM3 hM3 h => ?_)
      refine e_and (k_in (rfl : (1 : Int32) = nI 1) (r_al (rfl : (94 : Nat) = 94))) h (fun h => ?_)
      refine e_and (k_in (rfl : (1 : Int32) = nI 1) (r_al (rfl : (87 : Nat) = 87))) h (fun h => ?_)
      refine e_wr h hM3 (rfl : (87 : Nat) = 87) (r_nat (rfl : (1 : Int32) = nI 1)) (r_rd hM3 (rfl : (94 : Nat) = 94) (r_nat (rfl : (1 : Int32) = nI 1))) (fun M6 cM6 hM6 h => ?_)
      refine e_wr h hM6 (rfl : (81 : Nat) = 81) (rfl : (11 : Nat) = 11) (r_rd hM6 (rfl : (81 : Nat) = 81) (rfl : (22 : Nat) = 22)) (fun M7 cM7 hM7 h => ?_)
      exact ⟨5000, sX11_keepDraft_173 hq  5000 _ _ _ _ _ _ hM7 ht (rfl : (0 : Int32) = nI 0) h⟩
    · refine e_ite (c_eq (r_sub hv1 (r_mul (r_b2 f_div hv1 (rfl : (6 : Int32) = nI 6)) (rfl : (6 : Int32) = nI 6))) (rfl : (0 : Int32) = nI 0)) h (fun h => ?_) (fun h => ?_)
      · exact sX11_keepDraft_120 hq ih hM ht hv1 hv1 (r_rd hM (rfl : (81 : Nat) = 81) (rfl : (15 : Nat) = 15)) h
      · refine e_and (k_in hv1 (r_al (rfl : (92 : Nat) = 92))) h (fun h => ?_)
        exact sX11_keepDraft_120 hq ih hM ht hv1 hv1 (r_rd hM (rfl : (92 : Nat) = 92) (r_nat hv1)) h
noncomputable def eX11_keepDraft_52 (q : Nat → Nat → Bool) (n : Nat) : Nat → Nat → Nat → Bool :=
  @Nat.rec (fun _ => Nat → Nat → Nat → Bool) (fun _ _ _ => false) (fun _ ih cM ct cv1 => (@Bool.rec (fun _ => Bool) (@Bool.rec (fun _ => Bool) false (@Bool.rec (fun _ => Bool) false (wrB (fun cM3 => (@Bool.rec (fun _ => Bool) false (@Bool.rec (fun _ => Bool) false (wrB (fun cM6 => (ih cM6 ct (aN cv1 1))) cM3 89 (tN cv1) (rd cM3 96 (tN cv1))) (inN cv1 (alF 89))) (inN cv1 (alF 96)))) cM 84 (tN cv1) (rd cM 91 (tN cv1))) (inN cv1 (alF 84))) (inN cv1 (alF 91))) (eX11_keepDraft_89 q  5000 cM ct 0) (leN 4 cv1))) n
set_option maxHeartbeats 4000000 in
set_option maxRecDepth 20000 in
theorem sX11_keepDraft_52 {post : MM → Int64 → Prop} {q : Nat → Nat → Bool} (hq : ∀ (M : MM) (tl : Int64) (cM ct : Nat), M = dM cM → tl = i64 ct → q cM ct = true → post M tl) : ∀ (n : Nat) (M : MM) (tl : Int64) (v1 : Int32) (cM ct cv1 : Nat), M = dM cM → tl = i64 ct → v1 = nI cv1 → eX11_keepDraft_52 q  n cM ct cv1 = true → wX11_keepDraft_52 post  n M tl v1 := by
  intro n
  induction n with
  | zero => intro M tl v1 cM ct cv1 hM ht hv1 h; exact Bool.noConfusion h
  | succ n ih =>
    intro M tl v1 cM ct cv1 hM ht hv1 h
    unfold wX11_keepDraft_52
    refine e_ite (c_le (rfl : (4 : Int32) = nI 4) hv1) h (fun h => ?_) (fun h => ?_)
    · exact ⟨5000, sX11_keepDraft_89 hq  5000 _ _ _ _ _ _ hM ht (rfl : (0 : Int32) = nI 0) h⟩
    · refine e_and (k_in hv1 (r_al (rfl : (91 : Nat) = 91))) h (fun h => ?_)
      refine e_and (k_in hv1 (r_al (rfl : (84 : Nat) = 84))) h (fun h => ?_)
      refine e_wr h hM (rfl : (84 : Nat) = 84) (r_nat hv1) (r_rd hM (rfl : (91 : Nat) = 91) (r_nat hv1)) (fun M3 cM3 hM3 h => ?_)
      refine e_and (k_in hv1 (r_al (rfl : (96 : Nat) = 96))) h (fun h => ?_)
      refine e_and (k_in hv1 (r_al (rfl : (89 : Nat) = 89))) h (fun h => ?_)
      refine e_wr h hM3 (rfl : (89 : Nat) = 89) (r_nat hv1) (r_rd hM3 (rfl : (96 : Nat) = 96) (r_nat hv1)) (fun M6 cM6 hM6 h => ?_)
      exact ih _ _ _ _ _ _ hM6 ht (r_add hv1 (rfl : (1 : Int32) = nI 1)) h
noncomputable def eX11_keepDraft_2 (q : Nat → Nat → Bool) (n : Nat) : Nat → Nat → Nat → Bool :=
  @Nat.rec (fun _ => Nat → Nat → Nat → Bool) (fun _ _ _ => false) (fun _ ih cM ct cv1 => (@Bool.rec (fun _ => Bool) (@Bool.rec (fun _ => Bool) false (@Bool.rec (fun _ => Bool) false (wrB (fun cM6 => (ih cM6 ct (aN cv1 1))) cM 82 (tN cv1) (rd cM 90 (tN cv1))) (inN cv1 (alF 82))) (inN cv1 (alF 90))) (wrB (fun cM1 => (wrB (fun cM2 => (wrB (fun cM3 => (eX11_keepDraft_52 q  5000 cM3 ct 0)) cM2 81 4 (rd cM2 81 15))) cM1 81 3 (rd cM1 81 14))) cM 81 2 (rd cM 81 13)) (leN 127 cv1))) n
set_option maxHeartbeats 4000000 in
set_option maxRecDepth 20000 in
theorem sX11_keepDraft_2 {post : MM → Int64 → Prop} {q : Nat → Nat → Bool} (hq : ∀ (M : MM) (tl : Int64) (cM ct : Nat), M = dM cM → tl = i64 ct → q cM ct = true → post M tl) : ∀ (n : Nat) (M : MM) (tl : Int64) (v1 : Int32) (cM ct cv1 : Nat), M = dM cM → tl = i64 ct → v1 = nI cv1 → eX11_keepDraft_2 q  n cM ct cv1 = true → wX11_keepDraft_2 post  n M tl v1 := by
  intro n
  induction n with
  | zero => intro M tl v1 cM ct cv1 hM ht hv1 h; exact Bool.noConfusion h
  | succ n ih =>
    intro M tl v1 cM ct cv1 hM ht hv1 h
    unfold wX11_keepDraft_2
    refine e_ite (c_le (rfl : (127 : Int32) = nI 127) hv1) h (fun h => ?_) (fun h => ?_)
    · refine e_wr h hM (rfl : (81 : Nat) = 81) (rfl : (2 : Nat) = 2) (r_rd hM (rfl : (81 : Nat) = 81) (rfl : (13 : Nat) = 13)) (fun M1 cM1 hM1 h => ?_)
      refine e_wr h hM1 (rfl : (81 : Nat) = 81) (rfl : (3 : Nat) = 3) (r_rd hM1 (rfl : (81 : Nat) = 81) (rfl : (14 : Nat) = 14)) (fun M2 cM2 hM2 h => ?_)
      refine e_wr h hM2 (rfl : (81 : Nat) = 81) (rfl : (4 : Nat) = 4) (r_rd hM2 (rfl : (81 : Nat) = 81) (rfl : (15 : Nat) = 15)) (fun M3 cM3 hM3 h => ?_)
      exact ⟨5000, sX11_keepDraft_52 hq  5000 _ _ _ _ _ _ hM3 ht (rfl : (0 : Int32) = nI 0) h⟩
    · refine e_and (k_in hv1 (r_al (rfl : (90 : Nat) = 90))) h (fun h => ?_)
      refine e_and (k_in hv1 (r_al (rfl : (82 : Nat) = 82))) h (fun h => ?_)
      refine e_wr h hM (rfl : (82 : Nat) = 82) (r_nat hv1) (r_rd hM (rfl : (90 : Nat) = 90) (r_nat hv1)) (fun M6 cM6 hM6 h => ?_)
      exact ih _ _ _ _ _ _ hM6 ht (r_add hv1 (rfl : (1 : Int32) = nI 1)) h
noncomputable def epX11_keepDraft (q : Nat → Nat → Bool) (cM ct  : Nat) : Bool :=
  (eX11_keepDraft_2 q  5000 cM ct 0)
set_option maxHeartbeats 4000000 in
set_option maxRecDepth 20000 in
theorem spX11_keepDraft {post : MM → Int64 → Prop} {q : Nat → Nat → Bool} (hq : ∀ (M : MM) (tl : Int64) (cM ct : Nat), M = dM cM → tl = i64 ct → q cM ct = true → post M tl) {M : MM} {tl : Int64} {cM ct  : Nat} (hM : M = dM cM) (ht : tl = i64 ct)  (h : epX11_keepDraft q  cM ct  = true) : wpX11_keepDraft post  M tl  := by
  unfold wpX11_keepDraft
  exact ⟨5000, sX11_keepDraft_2 hq  5000 _ _ _ _ _ _ hM ht (rfl : (0 : Int32) = nI 0) h⟩
