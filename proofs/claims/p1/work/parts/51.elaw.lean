theorem lm20 : (-20 : Int32) = nI 4294967276 := by decide
theorem lm14 : (-14 : Int32) = nI 4294967282 := by decide
theorem lm12 : (-12 : Int32) = nI 4294967284 := by decide
theorem lm11 : (-11 : Int32) = nI 4294967285 := by decide
theorem lm10 : (-10 : Int32) = nI 4294967286 := by decide
theorem lm8 : (-8 : Int32) = nI 4294967288 := by decide
theorem lm4 : (-4 : Int32) = nI 4294967292 := by decide
theorem lm3 : (-3 : Int32) = nI 4294967293 := by decide
theorem lm2 : (-2 : Int32) = nI 4294967294 := by decide
theorem lm1 : (-1 : Int32) = nI 4294967295 := by decide
noncomputable def eX1_setFirst_56 (q : Nat → Nat → Bool) (cbk42 : Nat → Nat → Nat → Nat → Bool) (n : Nat) : Nat → Nat → Nat → Nat → Nat → Bool :=
  @Nat.rec (fun _ => Nat → Nat → Nat → Nat → Nat → Bool) (fun _ _ _ _ _ => false) (fun _ ih cM ct cv0 cv1 cv2 => (@Bool.rec (fun _ => Bool) (@Bool.rec (fun _ => Bool) false (@Bool.rec (fun _ => Bool) false (@Bool.rec (fun _ => Bool) false (@Bool.rec (fun _ => Bool) false (@Bool.rec (fun _ => Bool) false (wrB (fun cM6 => (@Bool.rec (fun _ => Bool) false (@Bool.rec (fun _ => Bool) false (@Bool.rec (fun _ => Bool) false (@Bool.rec (fun _ => Bool) false (@Bool.rec (fun _ => Bool) false (wrB (fun cM12 => (ih cM12 ct cv0 cv1 (aN cv2 1))) cM6 (Nat.add (Nat.add (Nat.add cv0 5) 1) (tN cv1)) (tN cv2) 3) (inN cv2 (alF (Nat.add (Nat.add (Nat.add cv0 5) 1) (tN cv1))))) (kdB (Nat.add (Nat.add (Nat.add cv0 5) 1) (tN cv1)) 12)) (inN cv1 2)) (kdB (Nat.add cv0 5) 16)) (kdB cv0 1))) cM (Nat.add (Nat.add (Nat.add cv0 2) 1) (tN cv1)) (tN cv2) 5) (inN cv2 (alF (Nat.add (Nat.add (Nat.add cv0 2) 1) (tN cv1))))) (kdB (Nat.add (Nat.add (Nat.add cv0 2) 1) (tN cv1)) 12)) (inN cv1 2)) (kdB (Nat.add cv0 2) 16)) (kdB cv0 1)) (cbk42 cM ct cv0 (aN cv1 1)) (leN 6 cv2))) n
set_option maxHeartbeats 4000000 in
set_option maxRecDepth 20000 in
theorem sX1_setFirst_56 {post : MM → Int64 → Prop} {q : Nat → Nat → Bool} (hq : ∀ (M : MM) (tl : Int64) (cM ct : Nat), M = dM cM → tl = i64 ct → q cM ct = true → post M tl) {bk42 : MM → Int64 → Nat → Int32 → Prop} {cbk42 : Nat → Nat → Nat → Nat → Bool} (hbk42 : ∀ (M : MM) (tl : Int64) (x0 : Nat) (x1 : Int32) (cM ct cx0 cx1 : Nat), M = dM cM → tl = i64 ct → x0 = cx0 → x1 = nI cx1 → cbk42 cM ct cx0 cx1 = true → bk42 M tl x0 x1) : ∀ (n : Nat) (M : MM) (tl : Int64) (v0 : Nat) (v1 : Int32) (v2 : Int32) (cM ct cv0 cv1 cv2 : Nat), M = dM cM → tl = i64 ct → v0 = cv0 → v1 = nI cv1 → v2 = nI cv2 → eX1_setFirst_56 q cbk42 n cM ct cv0 cv1 cv2 = true → wX1_setFirst_56 post bk42 n M tl v0 v1 v2 := by
  intro n
  induction n with
  | zero => intro M tl v0 v1 v2 cM ct cv0 cv1 cv2 hM ht hv0 hv1 hv2 h; exact Bool.noConfusion h
  | succ n ih =>
    intro M tl v0 v1 v2 cM ct cv0 cv1 cv2 hM ht hv0 hv1 hv2 h
    unfold wX1_setFirst_56
    refine e_ite (c_le (rfl : (6 : Int32) = nI 6) hv2) h (fun h => ?_) (fun h => ?_)
    · exact hbk42 _ _ _ _ _ _ _ _ hM ht hv0 (r_add hv1 (rfl : (1 : Int32) = nI 1)) h
    · refine e_and (k_kd hv0) h (fun h => ?_)
      refine e_and (k_kd (n_add hv0 (rfl : (2 : Nat) = 2))) h (fun h => ?_)
      refine e_and (k_in hv1 (rfl : (2 : Nat) = 2)) h (fun h => ?_)
      refine e_and (k_kd (n_add (n_add (n_add hv0 (rfl : (2 : Nat) = 2)) (rfl : (1 : Nat) = 1)) (r_nat hv1))) h (fun h => ?_)
      refine e_and (k_in hv2 (r_al (n_add (n_add (n_add hv0 (rfl : (2 : Nat) = 2)) (rfl : (1 : Nat) = 1)) (r_nat hv1)))) h (fun h => ?_)
      refine e_wr h hM (n_add (n_add (n_add hv0 (rfl : (2 : Nat) = 2)) (rfl : (1 : Nat) = 1)) (r_nat hv1)) (r_nat hv2) (rfl : (5 : Int32) = nI 5) (fun M6 cM6 hM6 h => ?_)
      refine e_and (k_kd hv0) h (fun h => ?_)
      refine e_and (k_kd (n_add hv0 (rfl : (5 : Nat) = 5))) h (fun h => ?_)
      refine e_and (k_in hv1 (rfl : (2 : Nat) = 2)) h (fun h => ?_)
      refine e_and (k_kd (n_add (n_add (n_add hv0 (rfl : (5 : Nat) = 5)) (rfl : (1 : Nat) = 1)) (r_nat hv1))) h (fun h => ?_)
      refine e_and (k_in hv2 (r_al (n_add (n_add (n_add hv0 (rfl : (5 : Nat) = 5)) (rfl : (1 : Nat) = 1)) (r_nat hv1)))) h (fun h => ?_)
      refine e_wr h hM6 (n_add (n_add (n_add hv0 (rfl : (5 : Nat) = 5)) (rfl : (1 : Nat) = 1)) (r_nat hv1)) (r_nat hv2) (rfl : (3 : Int32) = nI 3) (fun M12 cM12 hM12 h => ?_)
      exact ih _ _ _ _ _ _ _ _ _ _ hM12 ht hv0 hv1 (r_add hv2 (rfl : (1 : Int32) = nI 1)) h
noncomputable def eX1_setFirst_115 (q : Nat → Nat → Bool) (n : Nat) : Nat → Nat → Nat → Nat → Bool :=
  @Nat.rec (fun _ => Nat → Nat → Nat → Nat → Bool) (fun _ _ _ _ => false) (fun _ ih cM ct cv0 cv1 => (@Bool.rec (fun _ => Bool) (@Bool.rec (fun _ => Bool) false (@Bool.rec (fun _ => Bool) false (@Bool.rec (fun _ => Bool) false (wrB (fun cM4 => (ih cM4 ct cv0 (aN cv1 1))) cM (Nat.add cv0 10) (tN cv1) cv1) (inN cv1 (alF (Nat.add cv0 10)))) (kdB (Nat.add cv0 10) 12)) (kdB cv0 1)) (q cM ct) (leN 4 cv1))) n
set_option maxHeartbeats 4000000 in
set_option maxRecDepth 20000 in
theorem sX1_setFirst_115 {post : MM → Int64 → Prop} {q : Nat → Nat → Bool} (hq : ∀ (M : MM) (tl : Int64) (cM ct : Nat), M = dM cM → tl = i64 ct → q cM ct = true → post M tl) : ∀ (n : Nat) (M : MM) (tl : Int64) (v0 : Nat) (v1 : Int32) (cM ct cv0 cv1 : Nat), M = dM cM → tl = i64 ct → v0 = cv0 → v1 = nI cv1 → eX1_setFirst_115 q  n cM ct cv0 cv1 = true → wX1_setFirst_115 post  n M tl v0 v1 := by
  intro n
  induction n with
  | zero => intro M tl v0 v1 cM ct cv0 cv1 hM ht hv0 hv1 h; exact Bool.noConfusion h
  | succ n ih =>
    intro M tl v0 v1 cM ct cv0 cv1 hM ht hv0 hv1 h
    unfold wX1_setFirst_115
    refine e_ite (c_le (rfl : (4 : Int32) = nI 4) hv1) h (fun h => ?_) (fun h => ?_)
    · exact hq _ _ _ _ hM ht h
    · refine e_and (k_kd hv0) h (fun h => ?_)
      refine e_and (k_kd (n_add hv0 (rfl : (10 : Nat) = 10))) h (fun h => ?_)
      refine e_and (k_in hv1 (r_al (n_add hv0 (rfl : (10 : Nat) = 10)))) h (fun h => ?_)
      refine e_wr h hM (n_add hv0 (rfl : (10 : Nat) = 10)) (r_nat hv1) hv1 (fun M4 cM4 hM4 h => ?_)
      exact ih _ _ _ _ _ _ _ _ hM4 ht hv0 (r_add hv1 (rfl : (1 : Int32) = nI 1)) h
noncomputable def eX1_setFirst_94 (q : Nat → Nat → Bool) (n : Nat) : Nat → Nat → Nat → Nat → Bool :=
  @Nat.rec (fun _ => Nat → Nat → Nat → Nat → Bool) (fun _ _ _ _ => false) (fun _ ih cM ct cv0 cv1 => (@Bool.rec (fun _ => Bool) (@Bool.rec (fun _ => Bool) false (@Bool.rec (fun _ => Bool) false (@Bool.rec (fun _ => Bool) false (wrB (fun cM4 => (ih cM4 ct cv0 (aN cv1 1))) cM (Nat.add cv0 9) (tN cv1) cv1) (inN cv1 (alF (Nat.add cv0 9)))) (kdB (Nat.add cv0 9) 12)) (kdB cv0 1)) (eX1_setFirst_115 q  5000 cM ct cv0 0) (leN 6 cv1))) n
set_option maxHeartbeats 4000000 in
set_option maxRecDepth 20000 in
theorem sX1_setFirst_94 {post : MM → Int64 → Prop} {q : Nat → Nat → Bool} (hq : ∀ (M : MM) (tl : Int64) (cM ct : Nat), M = dM cM → tl = i64 ct → q cM ct = true → post M tl) : ∀ (n : Nat) (M : MM) (tl : Int64) (v0 : Nat) (v1 : Int32) (cM ct cv0 cv1 : Nat), M = dM cM → tl = i64 ct → v0 = cv0 → v1 = nI cv1 → eX1_setFirst_94 q  n cM ct cv0 cv1 = true → wX1_setFirst_94 post  n M tl v0 v1 := by
  intro n
  induction n with
  | zero => intro M tl v0 v1 cM ct cv0 cv1 hM ht hv0 hv1 h; exact Bool.noConfusion h
  | succ n ih =>
    intro M tl v0 v1 cM ct cv0 cv1 hM ht hv0 hv1 h
    unfold wX1_setFirst_94
    refine e_ite (c_le (rfl : (6 : Int32) = nI 6) hv1) h (fun h => ?_) (fun h => ?_)
    · exact ⟨5000, sX1_setFirst_115 hq  5000 _ _ _ _ _ _ _ _ hM ht hv0 (rfl : (0 : Int32) = nI 0) h⟩
    · refine e_and (k_kd hv0) h (fun h => ?_)
      refine e_and (k_kd (n_add hv0 (rfl : (9 : Nat) = 9))) h (fun h => ?_)
      refine e_and (k_in hv1 (r_al (n_add hv0 (rfl : (9 : Nat) = 9)))) h (fun h => ?_)
      refine e_wr h hM (n_add hv0 (rfl : (9 : Nat) = 9)) (r_nat hv1) hv1 (fun M4 cM4 hM4 h => ?_)
      exact ih _ _ _ _ _ _ _ _ hM4 ht hv0 (r_add hv1 (rfl : (1 : Int32) = nI 1)) h
noncomputable def eX1_setFirst_42 (q : Nat → Nat → Bool) (n : Nat) : Nat → Nat → Nat → Nat → Bool :=
  @Nat.rec (fun _ => Nat → Nat → Nat → Nat → Bool) (fun _ _ _ _ => false) (fun _ ih cM ct cv0 cv1 => (@Bool.rec (fun _ => Bool) (@Bool.rec (fun _ => Bool) false (@Bool.rec (fun _ => Bool) false (@Bool.rec (fun _ => Bool) false (wrB (fun cM4 => (eX1_setFirst_56 q ih 5000 cM4 ct cv0 cv1 1)) cM (Nat.add cv0 8) (tN cv1) 0) (inN cv1 (alF (Nat.add cv0 8)))) (kdB (Nat.add cv0 8) 12)) (kdB cv0 1)) (eX1_setFirst_94 q  5000 cM ct cv0 0) (leN 2 cv1))) n
set_option maxHeartbeats 4000000 in
set_option maxRecDepth 20000 in
theorem sX1_setFirst_42 {post : MM → Int64 → Prop} {q : Nat → Nat → Bool} (hq : ∀ (M : MM) (tl : Int64) (cM ct : Nat), M = dM cM → tl = i64 ct → q cM ct = true → post M tl) : ∀ (n : Nat) (M : MM) (tl : Int64) (v0 : Nat) (v1 : Int32) (cM ct cv0 cv1 : Nat), M = dM cM → tl = i64 ct → v0 = cv0 → v1 = nI cv1 → eX1_setFirst_42 q  n cM ct cv0 cv1 = true → wX1_setFirst_42 post  n M tl v0 v1 := by
  intro n
  induction n with
  | zero => intro M tl v0 v1 cM ct cv0 cv1 hM ht hv0 hv1 h; exact Bool.noConfusion h
  | succ n ih =>
    intro M tl v0 v1 cM ct cv0 cv1 hM ht hv0 hv1 h
    unfold wX1_setFirst_42
    refine e_ite (c_le (rfl : (2 : Int32) = nI 2) hv1) h (fun h => ?_) (fun h => ?_)
    · exact ⟨5000, sX1_setFirst_94 hq  5000 _ _ _ _ _ _ _ _ hM ht hv0 (rfl : (0 : Int32) = nI 0) h⟩
    · refine e_and (k_kd hv0) h (fun h => ?_)
      refine e_and (k_kd (n_add hv0 (rfl : (8 : Nat) = 8))) h (fun h => ?_)
      refine e_and (k_in hv1 (r_al (n_add hv0 (rfl : (8 : Nat) = 8)))) h (fun h => ?_)
      refine e_wr h hM (n_add hv0 (rfl : (8 : Nat) = 8)) (r_nat hv1) (rfl : (0 : Int32) = nI 0) (fun M4 cM4 hM4 h => ?_)
      exact ⟨5000, sX1_setFirst_56 hq ih 5000 _ _ _ _ _ _ _ _ _ _ hM4 ht hv0 hv1 (rfl : (1 : Int32) = nI 1) h⟩
noncomputable def eX1_setFirst_22 (q : Nat → Nat → Bool) (n : Nat) : Nat → Nat → Nat → Nat → Bool :=
  @Nat.rec (fun _ => Nat → Nat → Nat → Nat → Bool) (fun _ _ _ _ => false) (fun _ ih cM ct cv0 cv1 => (@Bool.rec (fun _ => Bool) (@Bool.rec (fun _ => Bool) false (@Bool.rec (fun _ => Bool) false (@Bool.rec (fun _ => Bool) false (wrB (fun cM4 => (ih cM4 ct cv0 (aN cv1 1))) cM (Nat.add cv0 1) (tN cv1) 1) (inN cv1 (alF (Nat.add cv0 1)))) (kdB (Nat.add cv0 1) 12)) (kdB cv0 1)) (eX1_setFirst_42 q  5000 cM ct cv0 0) (leN 4 cv1))) n
set_option maxHeartbeats 4000000 in
set_option maxRecDepth 20000 in
theorem sX1_setFirst_22 {post : MM → Int64 → Prop} {q : Nat → Nat → Bool} (hq : ∀ (M : MM) (tl : Int64) (cM ct : Nat), M = dM cM → tl = i64 ct → q cM ct = true → post M tl) : ∀ (n : Nat) (M : MM) (tl : Int64) (v0 : Nat) (v1 : Int32) (cM ct cv0 cv1 : Nat), M = dM cM → tl = i64 ct → v0 = cv0 → v1 = nI cv1 → eX1_setFirst_22 q  n cM ct cv0 cv1 = true → wX1_setFirst_22 post  n M tl v0 v1 := by
  intro n
  induction n with
  | zero => intro M tl v0 v1 cM ct cv0 cv1 hM ht hv0 hv1 h; exact Bool.noConfusion h
  | succ n ih =>
    intro M tl v0 v1 cM ct cv0 cv1 hM ht hv0 hv1 h
    unfold wX1_setFirst_22
    refine e_ite (c_le (rfl : (4 : Int32) = nI 4) hv1) h (fun h => ?_) (fun h => ?_)
    · exact ⟨5000, sX1_setFirst_42 hq  5000 _ _ _ _ _ _ _ _ hM ht hv0 (rfl : (0 : Int32) = nI 0) h⟩
    · refine e_and (k_kd hv0) h (fun h => ?_)
      refine e_and (k_kd (n_add hv0 (rfl : (1 : Nat) = 1))) h (fun h => ?_)
      refine e_and (k_in hv1 (r_al (n_add hv0 (rfl : (1 : Nat) = 1)))) h (fun h => ?_)
      refine e_wr h hM (n_add hv0 (rfl : (1 : Nat) = 1)) (r_nat hv1) (rfl : (1 : Int32) = nI 1) (fun M4 cM4 hM4 h => ?_)
      exact ih _ _ _ _ _ _ _ _ hM4 ht hv0 (r_add hv1 (rfl : (1 : Int32) = nI 1)) h
noncomputable def epX1_setFirst (q : Nat → Nat → Bool) (cM ct cv0 : Nat) : Bool :=
  (@Bool.rec (fun _ => Bool) false (wrB (fun cM2 => (@Bool.rec (fun _ => Bool) false (wrB (fun cM4 => (@Bool.rec (fun _ => Bool) false (wrB (fun cM6 => (@Bool.rec (fun _ => Bool) false (wrB (fun cM8 => (eX1_setFirst_22 q  5000 cM8 ct cv0 0)) cM6 cv0 3 0) (kdB cv0 1))) cM4 cv0 2 1) (kdB cv0 1))) cM2 cv0 1 3) (kdB cv0 1))) cM cv0 0 5) (kdB cv0 1))
set_option maxHeartbeats 4000000 in
set_option maxRecDepth 20000 in
theorem spX1_setFirst {post : MM → Int64 → Prop} {q : Nat → Nat → Bool} (hq : ∀ (M : MM) (tl : Int64) (cM ct : Nat), M = dM cM → tl = i64 ct → q cM ct = true → post M tl) {M : MM} {tl : Int64} {v0 : Nat} {cM ct cv0 : Nat} (hM : M = dM cM) (ht : tl = i64 ct) (hv0 : v0 = cv0) (h : epX1_setFirst q  cM ct cv0 = true) : wpX1_setFirst post  M tl v0 := by
  unfold wpX1_setFirst
  refine e_and (k_kd hv0) h (fun h => ?_)
  refine e_wr h hM hv0 (rfl : (0 : Nat) = 0) (rfl : (5 : Int32) = nI 5) (fun M2 cM2 hM2 h => ?_)
  refine e_and (k_kd hv0) h (fun h => ?_)
  refine e_wr h hM2 hv0 (rfl : (1 : Nat) = 1) (rfl : (3 : Int32) = nI 3) (fun M4 cM4 hM4 h => ?_)
  refine e_and (k_kd hv0) h (fun h => ?_)
  refine e_wr h hM4 hv0 (rfl : (2 : Nat) = 2) (rfl : (1 : Int32) = nI 1) (fun M6 cM6 hM6 h => ?_)
  refine e_and (k_kd hv0) h (fun h => ?_)
  refine e_wr h hM6 hv0 (rfl : (3 : Nat) = 3) (rfl : (0 : Int32) = nI 0) (fun M8 cM8 hM8 h => ?_)
  exact ⟨5000, sX1_setFirst_22 hq  5000 _ _ _ _ _ _ _ _ hM8 ht hv0 (rfl : (0 : Int32) = nI 0) h⟩
noncomputable def eX1_copyFrom_91 (q : Nat → Nat → Bool) (n : Nat) : Nat → Nat → Nat → Nat → Nat → Bool :=
  @Nat.rec (fun _ => Nat → Nat → Nat → Nat → Nat → Bool) (fun _ _ _ _ _ => false) (fun _ ih cM ct cv0 cv1 cv2 => (@Bool.rec (fun _ => Bool) (@Bool.rec (fun _ => Bool) false (@Bool.rec (fun _ => Bool) false (@Bool.rec (fun _ => Bool) false (@Bool.rec (fun _ => Bool) false (@Bool.rec (fun _ => Bool) false (@Bool.rec (fun _ => Bool) false (@Bool.rec (fun _ => Bool) false (@Bool.rec (fun _ => Bool) false (@Bool.rec (fun _ => Bool) false (@Bool.rec (fun _ => Bool) false (cpB (fun cM11 => (@Bool.rec (fun _ => Bool) false (@Bool.rec (fun _ => Bool) false (@Bool.rec (fun _ => Bool) false (@Bool.rec (fun _ => Bool) false (@Bool.rec (fun _ => Bool) false (@Bool.rec (fun _ => Bool) false (@Bool.rec (fun _ => Bool) false (@Bool.rec (fun _ => Bool) false (@Bool.rec (fun _ => Bool) false (@Bool.rec (fun _ => Bool) false (cpB (fun cM22 => (ih cM22 ct cv0 cv1 (aN cv2 1))) cM11 (Nat.add (Nat.add (Nat.add cv1 5) 1) (tN cv2)) (Nat.add (Nat.add (Nat.add cv0 5) 1) (tN cv2)) (tN 6)) (Nat.ble (Nat.add (tN 0) (tN 6)) (alF (Nat.add (Nat.add (Nat.add cv0 5) 1) (tN cv2))))) (Nat.ble (Nat.add (tN 0) (tN 6)) (alF (Nat.add (Nat.add (Nat.add cv1 5) 1) (tN cv2))))) (kdB (Nat.add (Nat.add (Nat.add cv0 5) 1) (tN cv2)) 12)) (kdB (Nat.add (Nat.add (Nat.add cv1 5) 1) (tN cv2)) 12)) (inN cv2 2)) (kdB (Nat.add cv0 5) 16)) (kdB cv0 1)) (inN cv2 2)) (kdB (Nat.add cv1 5) 16)) (kdB cv1 1))) cM (Nat.add (Nat.add (Nat.add cv1 2) 1) (tN cv2)) (Nat.add (Nat.add (Nat.add cv0 2) 1) (tN cv2)) (tN 6)) (Nat.ble (Nat.add (tN 0) (tN 6)) (alF (Nat.add (Nat.add (Nat.add cv0 2) 1) (tN cv2))))) (Nat.ble (Nat.add (tN 0) (tN 6)) (alF (Nat.add (Nat.add (Nat.add cv1 2) 1) (tN cv2))))) (kdB (Nat.add (Nat.add (Nat.add cv0 2) 1) (tN cv2)) 12)) (kdB (Nat.add (Nat.add (Nat.add cv1 2) 1) (tN cv2)) 12)) (inN cv2 2)) (kdB (Nat.add cv0 2) 16)) (kdB cv0 1)) (inN cv2 2)) (kdB (Nat.add cv1 2) 16)) (kdB cv1 1)) (q cM ct) (leN 2 cv2))) n
set_option maxHeartbeats 4000000 in
set_option maxRecDepth 20000 in
theorem sX1_copyFrom_91 {post : MM → Int64 → Prop} {q : Nat → Nat → Bool} (hq : ∀ (M : MM) (tl : Int64) (cM ct : Nat), M = dM cM → tl = i64 ct → q cM ct = true → post M tl) : ∀ (n : Nat) (M : MM) (tl : Int64) (v0 : Nat) (v1 : Nat) (v2 : Int32) (cM ct cv0 cv1 cv2 : Nat), M = dM cM → tl = i64 ct → v0 = cv0 → v1 = cv1 → v2 = nI cv2 → eX1_copyFrom_91 q  n cM ct cv0 cv1 cv2 = true → wX1_copyFrom_91 post  n M tl v0 v1 v2 := by
  intro n
  induction n with
  | zero => intro M tl v0 v1 v2 cM ct cv0 cv1 cv2 hM ht hv0 hv1 hv2 h; exact Bool.noConfusion h
  | succ n ih =>
    intro M tl v0 v1 v2 cM ct cv0 cv1 cv2 hM ht hv0 hv1 hv2 h
    unfold wX1_copyFrom_91
    refine e_ite (c_le (rfl : (2 : Int32) = nI 2) hv2) h (fun h => ?_) (fun h => ?_)
    · exact hq _ _ _ _ hM ht h
    · refine e_and (k_kd hv1) h (fun h => ?_)
      refine e_and (k_kd (n_add hv1 (rfl : (2 : Nat) = 2))) h (fun h => ?_)
      refine e_and (k_in hv2 (rfl : (2 : Nat) = 2)) h (fun h => ?_)
      refine e_and (k_kd hv0) h (fun h => ?_)
      refine e_and (k_kd (n_add hv0 (rfl : (2 : Nat) = 2))) h (fun h => ?_)
      refine e_and (k_in hv2 (rfl : (2 : Nat) = 2)) h (fun h => ?_)
      refine e_and (k_kd (n_add (n_add (n_add hv1 (rfl : (2 : Nat) = 2)) (rfl : (1 : Nat) = 1)) (r_nat hv2))) h (fun h => ?_)
      refine e_and (k_kd (n_add (n_add (n_add hv0 (rfl : (2 : Nat) = 2)) (rfl : (1 : Nat) = 1)) (r_nat hv2))) h (fun h => ?_)
      refine e_and (k_le (n_add (r_nat (rfl : (0 : Int32) = nI 0)) (r_nat (rfl : (6 : Int32) = nI 6))) (r_al (n_add (n_add (n_add hv1 (rfl : (2 : Nat) = 2)) (rfl : (1 : Nat) = 1)) (r_nat hv2)))) h (fun h => ?_)
      refine e_and (k_le (n_add (r_nat (rfl : (0 : Int32) = nI 0)) (r_nat (rfl : (6 : Int32) = nI 6))) (r_al (n_add (n_add (n_add hv0 (rfl : (2 : Nat) = 2)) (rfl : (1 : Nat) = 1)) (r_nat hv2)))) h (fun h => ?_)
      refine e_cp h hM (n_add (n_add (n_add hv1 (rfl : (2 : Nat) = 2)) (rfl : (1 : Nat) = 1)) (r_nat hv2)) (n_add (n_add (n_add hv0 (rfl : (2 : Nat) = 2)) (rfl : (1 : Nat) = 1)) (r_nat hv2)) (r_nat (rfl : (6 : Int32) = nI 6)) (fun M11 cM11 hM11 h => ?_)
      refine e_and (k_kd hv1) h (fun h => ?_)
      refine e_and (k_kd (n_add hv1 (rfl : (5 : Nat) = 5))) h (fun h => ?_)
      refine e_and (k_in hv2 (rfl : (2 : Nat) = 2)) h (fun h => ?_)
      refine e_and (k_kd hv0) h (fun h => ?_)
      refine e_and (k_kd (n_add hv0 (rfl : (5 : Nat) = 5))) h (fun h => ?_)
      refine e_and (k_in hv2 (rfl : (2 : Nat) = 2)) h (fun h => ?_)
      refine e_and (k_kd (n_add (n_add (n_add hv1 (rfl : (5 : Nat) = 5)) (rfl : (1 : Nat) = 1)) (r_nat hv2))) h (fun h => ?_)
      refine e_and (k_kd (n_add (n_add (n_add hv0 (rfl : (5 : Nat) = 5)) (rfl : (1 : Nat) = 1)) (r_nat hv2))) h (fun h => ?_)
      refine e_and (k_le (n_add (r_nat (rfl : (0 : Int32) = nI 0)) (r_nat (rfl : (6 : Int32) = nI 6))) (r_al (n_add (n_add (n_add hv1 (rfl : (5 : Nat) = 5)) (rfl : (1 : Nat) = 1)) (r_nat hv2)))) h (fun h => ?_)
      refine e_and (k_le (n_add (r_nat (rfl : (0 : Int32) = nI 0)) (r_nat (rfl : (6 : Int32) = nI 6))) (r_al (n_add (n_add (n_add hv0 (rfl : (5 : Nat) = 5)) (rfl : (1 : Nat) = 1)) (r_nat hv2)))) h (fun h => ?_)
      refine e_cp h hM11 (n_add (n_add (n_add hv1 (rfl : (5 : Nat) = 5)) (rfl : (1 : Nat) = 1)) (r_nat hv2)) (n_add (n_add (n_add hv0 (rfl : (5 : Nat) = 5)) (rfl : (1 : Nat) = 1)) (r_nat hv2)) (r_nat (rfl : (6 : Int32) = nI 6)) (fun M22 cM22 hM22 h => ?_)
      exact ih _ _ _ _ _ _ _ _ _ _ hM22 ht hv0 hv1 (r_add hv2 (rfl : (1 : Int32) = nI 1)) h
noncomputable def epX1_copyFrom (q : Nat → Nat → Bool) (cM ct cv0 cv1 : Nat) : Bool :=
  (@Bool.rec (fun _ => Bool) false (@Bool.rec (fun _ => Bool) false (wrB (fun cM3 => (@Bool.rec (fun _ => Bool) false (@Bool.rec (fun _ => Bool) false (wrB (fun cM6 => (@Bool.rec (fun _ => Bool) false (@Bool.rec (fun _ => Bool) false (wrB (fun cM9 => (@Bool.rec (fun _ => Bool) false (@Bool.rec (fun _ => Bool) false (wrB (fun cM12 => (@Bool.rec (fun _ => Bool) false (@Bool.rec (fun _ => Bool) false (@Bool.rec (fun _ => Bool) false (@Bool.rec (fun _ => Bool) false (@Bool.rec (fun _ => Bool) false (@Bool.rec (fun _ => Bool) false (cpB (fun cM19 => (@Bool.rec (fun _ => Bool) false (@Bool.rec (fun _ => Bool) false (@Bool.rec (fun _ => Bool) false (@Bool.rec (fun _ => Bool) false (@Bool.rec (fun _ => Bool) false (@Bool.rec (fun _ => Bool) false (cpB (fun cM26 => (@Bool.rec (fun _ => Bool) false (@Bool.rec (fun _ => Bool) false (@Bool.rec (fun _ => Bool) false (@Bool.rec (fun _ => Bool) false (@Bool.rec (fun _ => Bool) false (@Bool.rec (fun _ => Bool) false (cpB (fun cM33 => (@Bool.rec (fun _ => Bool) false (@Bool.rec (fun _ => Bool) false (@Bool.rec (fun _ => Bool) false (@Bool.rec (fun _ => Bool) false (@Bool.rec (fun _ => Bool) false (@Bool.rec (fun _ => Bool) false (cpB (fun cM40 => (eX1_copyFrom_91 q  5000 cM40 ct cv0 cv1 0)) cM33 (Nat.add cv1 10) (Nat.add cv0 10) (tN 4)) (Nat.ble (Nat.add (tN 0) (tN 4)) (alF (Nat.add cv0 10)))) (Nat.ble (Nat.add (tN 0) (tN 4)) (alF (Nat.add cv1 10)))) (kdB (Nat.add cv0 10) 12)) (kdB (Nat.add cv1 10) 12)) (kdB cv0 1)) (kdB cv1 1))) cM26 (Nat.add cv1 9) (Nat.add cv0 9) (tN 6)) (Nat.ble (Nat.add (tN 0) (tN 6)) (alF (Nat.add cv0 9)))) (Nat.ble (Nat.add (tN 0) (tN 6)) (alF (Nat.add cv1 9)))) (kdB (Nat.add cv0 9) 12)) (kdB (Nat.add cv1 9) 12)) (kdB cv0 1)) (kdB cv1 1))) cM19 (Nat.add cv1 8) (Nat.add cv0 8) (tN 2)) (Nat.ble (Nat.add (tN 0) (tN 2)) (alF (Nat.add cv0 8)))) (Nat.ble (Nat.add (tN 0) (tN 2)) (alF (Nat.add cv1 8)))) (kdB (Nat.add cv0 8) 12)) (kdB (Nat.add cv1 8) 12)) (kdB cv0 1)) (kdB cv1 1))) cM12 (Nat.add cv1 1) (Nat.add cv0 1) (tN 4)) (Nat.ble (Nat.add (tN 0) (tN 4)) (alF (Nat.add cv0 1)))) (Nat.ble (Nat.add (tN 0) (tN 4)) (alF (Nat.add cv1 1)))) (kdB (Nat.add cv0 1) 12)) (kdB (Nat.add cv1 1) 12)) (kdB cv0 1)) (kdB cv1 1))) cM9 cv0 3 (rd cM9 cv1 3)) (kdB cv0 1)) (kdB cv1 1))) cM6 cv0 2 (rd cM6 cv1 2)) (kdB cv0 1)) (kdB cv1 1))) cM3 cv0 1 (rd cM3 cv1 1)) (kdB cv0 1)) (kdB cv1 1))) cM cv0 0 (rd cM cv1 0)) (kdB cv0 1)) (kdB cv1 1))
set_option maxHeartbeats 4000000 in
set_option maxRecDepth 20000 in
theorem spX1_copyFrom {post : MM → Int64 → Prop} {q : Nat → Nat → Bool} (hq : ∀ (M : MM) (tl : Int64) (cM ct : Nat), M = dM cM → tl = i64 ct → q cM ct = true → post M tl) {M : MM} {tl : Int64} {v0 : Nat} {v1 : Nat} {cM ct cv0 cv1 : Nat} (hM : M = dM cM) (ht : tl = i64 ct) (hv0 : v0 = cv0) (hv1 : v1 = cv1) (h : epX1_copyFrom q  cM ct cv0 cv1 = true) : wpX1_copyFrom post  M tl v0 v1 := by
  unfold wpX1_copyFrom
  refine e_and (k_kd hv1) h (fun h => ?_)
  refine e_and (k_kd hv0) h (fun h => ?_)
  refine e_wr h hM hv0 (rfl : (0 : Nat) = 0) (r_rd hM hv1 (rfl : (0 : Nat) = 0)) (fun M3 cM3 hM3 h => ?_)
  refine e_and (k_kd hv1) h (fun h => ?_)
  refine e_and (k_kd hv0) h (fun h => ?_)
  refine e_wr h hM3 hv0 (rfl : (1 : Nat) = 1) (r_rd hM3 hv1 (rfl : (1 : Nat) = 1)) (fun M6 cM6 hM6 h => ?_)
  refine e_and (k_kd hv1) h (fun h => ?_)
  refine e_and (k_kd hv0) h (fun h => ?_)
  refine e_wr h hM6 hv0 (rfl : (2 : Nat) = 2) (r_rd hM6 hv1 (rfl : (2 : Nat) = 2)) (fun M9 cM9 hM9 h => ?_)
  refine e_and (k_kd hv1) h (fun h => ?_)
  refine e_and (k_kd hv0) h (fun h => ?_)
  refine e_wr h hM9 hv0 (rfl : (3 : Nat) = 3) (r_rd hM9 hv1 (rfl : (3 : Nat) = 3)) (fun M12 cM12 hM12 h => ?_)
  refine e_and (k_kd hv1) h (fun h => ?_)
  refine e_and (k_kd hv0) h (fun h => ?_)
  refine e_and (k_kd (n_add hv1 (rfl : (1 : Nat) = 1))) h (fun h => ?_)
  refine e_and (k_kd (n_add hv0 (rfl : (1 : Nat) = 1))) h (fun h => ?_)
  refine e_and (k_le (n_add (r_nat (rfl : (0 : Int32) = nI 0)) (r_nat (rfl : (4 : Int32) = nI 4))) (r_al (n_add hv1 (rfl : (1 : Nat) = 1)))) h (fun h => ?_)
  refine e_and (k_le (n_add (r_nat (rfl : (0 : Int32) = nI 0)) (r_nat (rfl : (4 : Int32) = nI 4))) (r_al (n_add hv0 (rfl : (1 : Nat) = 1)))) h (fun h => ?_)
  refine e_cp h hM12 (n_add hv1 (rfl : (1 : Nat) = 1)) (n_add hv0 (rfl : (1 : Nat) = 1)) (r_nat (rfl : (4 : Int32) = nI 4)) (fun M19 cM19 hM19 h => ?_)
  refine e_and (k_kd hv1) h (fun h => ?_)
  refine e_and (k_kd hv0) h (fun h => ?_)
  refine e_and (k_kd (n_add hv1 (rfl : (8 : Nat) = 8))) h (fun h => ?_)
  refine e_and (k_kd (n_add hv0 (rfl : (8 : Nat) = 8))) h (fun h => ?_)
  refine e_and (k_le (n_add (r_nat (rfl : (0 : Int32) = nI 0)) (r_nat (rfl : (2 : Int32) = nI 2))) (r_al (n_add hv1 (rfl : (8 : Nat) = 8)))) h (fun h => ?_)
  refine e_and (k_le (n_add (r_nat (rfl : (0 : Int32) = nI 0)) (r_nat (rfl : (2 : Int32) = nI 2))) (r_al (n_add hv0 (rfl : (8 : Nat) = 8)))) h (fun h => ?_)
  refine e_cp h hM19 (n_add hv1 (rfl : (8 : Nat) = 8)) (n_add hv0 (rfl : (8 : Nat) = 8)) (r_nat (rfl : (2 : Int32) = nI 2)) (fun M26 cM26 hM26 h => ?_)
  refine e_and (k_kd hv1) h (fun h => ?_)
  refine e_and (k_kd hv0) h (fun h => ?_)
  refine e_and (k_kd (n_add hv1 (rfl : (9 : Nat) = 9))) h (fun h => ?_)
  refine e_and (k_kd (n_add hv0 (rfl : (9 : Nat) = 9))) h (fun h => ?_)
  refine e_and (k_le (n_add (r_nat (rfl : (0 : Int32) = nI 0)) (r_nat (rfl : (6 : Int32) = nI 6))) (r_al (n_add hv1 (rfl : (9 : Nat) = 9)))) h (fun h => ?_)
  refine e_and (k_le (n_add (r_nat (rfl : (0 : Int32) = nI 0)) (r_nat (rfl : (6 : Int32) = nI 6))) (r_al (n_add hv0 (rfl : (9 : Nat) = 9)))) h (fun h => ?_)
  refine e_cp h hM26 (n_add hv1 (rfl : (9 : Nat) = 9)) (n_add hv0 (rfl : (9 : Nat) = 9)) (r_nat (rfl : (6 : Int32) = nI 6)) (fun M33 cM33 hM33 h => ?_)
  refine e_and (k_kd hv1) h (fun h => ?_)
  refine e_and (k_kd hv0) h (fun h => ?_)
  refine e_and (k_kd (n_add hv1 (rfl : (10 : Nat) = 10))) h (fun h => ?_)
  refine e_and (k_kd (n_add hv0 (rfl : (10 : Nat) = 10))) h (fun h => ?_)
  refine e_and (k_le (n_add (r_nat (rfl : (0 : Int32) = nI 0)) (r_nat (rfl : (4 : Int32) = nI 4))) (r_al (n_add hv1 (rfl : (10 : Nat) = 10)))) h (fun h => ?_)
  refine e_and (k_le (n_add (r_nat (rfl : (0 : Int32) = nI 0)) (r_nat (rfl : (4 : Int32) = nI 4))) (r_al (n_add hv0 (rfl : (10 : Nat) = 10)))) h (fun h => ?_)
  refine e_cp h hM33 (n_add hv1 (rfl : (10 : Nat) = 10)) (n_add hv0 (rfl : (10 : Nat) = 10)) (r_nat (rfl : (4 : Int32) = nI 4)) (fun M40 cM40 hM40 h => ?_)
  exact ⟨5000, sX1_copyFrom_91 hq  5000 _ _ _ _ _ _ _ _ _ _ hM40 ht hv0 hv1 (rfl : (0 : Int32) = nI 0) h⟩
noncomputable def epX10_isBank (q : Nat → Nat → Nat → Bool) (cM ct cv0 : Nat) : Bool :=
  (@Bool.rec (fun _ => Bool) (@Bool.rec (fun _ => Bool) (q 1 cM ct) (q 0 cM ct) (leN 2 cv0)) (q 0 cM ct) (ltN cv0 0))
set_option maxHeartbeats 4000000 in
set_option maxRecDepth 20000 in
theorem spX10_isBank {post : Int32 → MM → Int64 → Prop} {q : Nat → Nat → Nat → Bool} (hq : ∀ (r : Int32) (M : MM) (tl : Int64) (cr cM ct : Nat), r = nI cr → M = dM cM → tl = i64 ct → q cr cM ct = true → post r M tl) {M : MM} {tl : Int64} {v0 : Int32} {cM ct cv0 : Nat} (hM : M = dM cM) (ht : tl = i64 ct) (hv0 : v0 = nI cv0) (h : epX10_isBank q  cM ct cv0 = true) : wpX10_isBank post  M tl v0 := by
  unfold wpX10_isBank
  refine e_ite (c_lt hv0 (rfl : (0 : Int32) = nI 0)) h (fun h => ?_) (fun h => ?_)
  · exact hq _ _ _ _ _ _ (rfl : (0 : Int32) = nI 0) hM ht h
  · refine e_ite (c_le (rfl : (2 : Int32) = nI 2) hv0) h (fun h => ?_) (fun h => ?_)
    · exact hq _ _ _ _ _ _ (rfl : (0 : Int32) = nI 0) hM ht h
    · exact hq _ _ _ _ _ _ (rfl : (1 : Int32) = nI 1) hM ht h
noncomputable def epX10_isSlot (q : Nat → Nat → Nat → Bool) (cM ct cv0 cv1 : Nat) : Bool :=
  (epX10_isBank (fun cr3 cM1 ct2 => (@Bool.rec (fun _ => Bool) (@Bool.rec (fun _ => Bool) (@Bool.rec (fun _ => Bool) (q 1 cM1 ct2) (q 0 cM1 ct2) (leN 8 cv1)) (q 0 cM1 ct2) (ltN cv1 0)) (q 0 cM1 ct2) (eqN cr3 0))) cM ct cv0)
set_option maxHeartbeats 4000000 in
set_option maxRecDepth 20000 in
theorem spX10_isSlot {post : Int32 → MM → Int64 → Prop} {q : Nat → Nat → Nat → Bool} (hq : ∀ (r : Int32) (M : MM) (tl : Int64) (cr cM ct : Nat), r = nI cr → M = dM cM → tl = i64 ct → q cr cM ct = true → post r M tl) {M : MM} {tl : Int64} {v0 : Int32} {v1 : Int32} {cM ct cv0 cv1 : Nat} (hM : M = dM cM) (ht : tl = i64 ct) (hv0 : v0 = nI cv0) (hv1 : v1 = nI cv1) (h : epX10_isSlot q  cM ct cv0 cv1 = true) : wpX10_isSlot post  M tl v0 v1 := by
  unfold wpX10_isSlot
  refine spX10_isBank (fun r3 M1 t2 cr3 cM1 ct2 hr3 hM1 ht2 h => ?_) hM ht hv0 h
  refine e_ite (c_eq hr3 (rfl : (0 : Int32) = nI 0)) h (fun h => ?_) (fun h => ?_)
  · exact hq _ _ _ _ _ _ (rfl : (0 : Int32) = nI 0) hM1 ht2 h
  · refine e_ite (c_lt hv1 (rfl : (0 : Int32) = nI 0)) h (fun h => ?_) (fun h => ?_)
    · exact hq _ _ _ _ _ _ (rfl : (0 : Int32) = nI 0) hM1 ht2 h
    · refine e_ite (c_le (rfl : (8 : Int32) = nI 8) hv1) h (fun h => ?_) (fun h => ?_)
      · exact hq _ _ _ _ _ _ (rfl : (0 : Int32) = nI 0) hM1 ht2 h
      · exact hq _ _ _ _ _ _ (rfl : (1 : Int32) = nI 1) hM1 ht2 h
noncomputable def epX1_isLot (q : Nat → Nat → Nat → Bool) (cM ct cv0 cv1 cv2 : Nat) : Bool :=
  (epX10_isSlot (fun cr3 cM1 ct2 => (@Bool.rec (fun _ => Bool) (@Bool.rec (fun _ => Bool) false (@Bool.rec (fun _ => Bool) (q 1 cM1 ct2) (q 0 cM1 ct2) (leN (rd cM1 cv0 0) cv2)) (kdB cv0 1)) (q 0 cM1 ct2) (eqN cr3 0))) cM ct cv1 cv2)
set_option maxHeartbeats 4000000 in
set_option maxRecDepth 20000 in
theorem spX1_isLot {post : Int32 → MM → Int64 → Prop} {q : Nat → Nat → Nat → Bool} (hq : ∀ (r : Int32) (M : MM) (tl : Int64) (cr cM ct : Nat), r = nI cr → M = dM cM → tl = i64 ct → q cr cM ct = true → post r M tl) {M : MM} {tl : Int64} {v0 : Nat} {v1 : Int32} {v2 : Int32} {cM ct cv0 cv1 cv2 : Nat} (hM : M = dM cM) (ht : tl = i64 ct) (hv0 : v0 = cv0) (hv1 : v1 = nI cv1) (hv2 : v2 = nI cv2) (h : epX1_isLot q  cM ct cv0 cv1 cv2 = true) : wpX1_isLot post  M tl v0 v1 v2 := by
  unfold wpX1_isLot
  refine spX10_isSlot (fun r3 M1 t2 cr3 cM1 ct2 hr3 hM1 ht2 h => ?_) hM ht hv1 hv2 h
  refine e_ite (c_eq hr3 (rfl : (0 : Int32) = nI 0)) h (fun h => ?_) (fun h => ?_)
  · exact hq _ _ _ _ _ _ (rfl : (0 : Int32) = nI 0) hM1 ht2 h
  · refine e_and (k_kd hv0) h (fun h => ?_)
    refine e_ite (c_le (r_rd hM1 hv0 (rfl : (0 : Nat) = 0)) hv2) h (fun h => ?_) (fun h => ?_)
    · exact hq _ _ _ _ _ _ (rfl : (0 : Int32) = nI 0) hM1 ht2 h
    · exact hq _ _ _ _ _ _ (rfl : (1 : Int32) = nI 1) hM1 ht2 h
noncomputable def epX10_isKind (q : Nat → Nat → Nat → Bool) (cM ct cv0 : Nat) : Bool :=
  (@Bool.rec (fun _ => Bool) (@Bool.rec (fun _ => Bool) (q 1 cM ct) (q 0 cM ct) (leN 6 cv0)) (q 0 cM ct) (ltN cv0 0))
set_option maxHeartbeats 4000000 in
set_option maxRecDepth 20000 in
theorem spX10_isKind {post : Int32 → MM → Int64 → Prop} {q : Nat → Nat → Nat → Bool} (hq : ∀ (r : Int32) (M : MM) (tl : Int64) (cr cM ct : Nat), r = nI cr → M = dM cM → tl = i64 ct → q cr cM ct = true → post r M tl) {M : MM} {tl : Int64} {v0 : Int32} {cM ct cv0 : Nat} (hM : M = dM cM) (ht : tl = i64 ct) (hv0 : v0 = nI cv0) (h : epX10_isKind q  cM ct cv0 = true) : wpX10_isKind post  M tl v0 := by
  unfold wpX10_isKind
  refine e_ite (c_lt hv0 (rfl : (0 : Int32) = nI 0)) h (fun h => ?_) (fun h => ?_)
  · exact hq _ _ _ _ _ _ (rfl : (0 : Int32) = nI 0) hM ht h
  · refine e_ite (c_le (rfl : (6 : Int32) = nI 6) hv0) h (fun h => ?_) (fun h => ?_)
    · exact hq _ _ _ _ _ _ (rfl : (0 : Int32) = nI 0) hM ht h
    · exact hq _ _ _ _ _ _ (rfl : (1 : Int32) = nI 1) hM ht h
noncomputable def epX1_twinOf (q : Nat → Nat → Nat → Bool) (cM ct cv0 cv1 : Nat) : Bool :=
  (epX10_isKind (fun cr3 cM1 ct2 => (@Bool.rec (fun _ => Bool) (@Bool.rec (fun _ => Bool) false (@Bool.rec (fun _ => Bool) false (@Bool.rec (fun _ => Bool) false (q (rd cM1 (Nat.add cv0 9) (tN cv1)) cM1 ct2) (inN cv1 (alF (Nat.add cv0 9)))) (kdB (Nat.add cv0 9) 12)) (kdB cv0 1)) (q 0 cM1 ct2) (eqN cr3 0))) cM ct cv1)
set_option maxHeartbeats 4000000 in
set_option maxRecDepth 20000 in
theorem spX1_twinOf {post : Int32 → MM → Int64 → Prop} {q : Nat → Nat → Nat → Bool} (hq : ∀ (r : Int32) (M : MM) (tl : Int64) (cr cM ct : Nat), r = nI cr → M = dM cM → tl = i64 ct → q cr cM ct = true → post r M tl) {M : MM} {tl : Int64} {v0 : Nat} {v1 : Int32} {cM ct cv0 cv1 : Nat} (hM : M = dM cM) (ht : tl = i64 ct) (hv0 : v0 = cv0) (hv1 : v1 = nI cv1) (h : epX1_twinOf q  cM ct cv0 cv1 = true) : wpX1_twinOf post  M tl v0 v1 := by
  unfold wpX1_twinOf
  refine spX10_isKind (fun r3 M1 t2 cr3 cM1 ct2 hr3 hM1 ht2 h => ?_) hM ht hv1 h
  refine e_ite (c_eq hr3 (rfl : (0 : Int32) = nI 0)) h (fun h => ?_) (fun h => ?_)
  · exact hq _ _ _ _ _ _ (rfl : (0 : Int32) = nI 0) hM1 ht2 h
  · refine e_and (k_kd hv0) h (fun h => ?_)
    refine e_and (k_kd (n_add hv0 (rfl : (9 : Nat) = 9))) h (fun h => ?_)
    refine e_and (k_in hv1 (r_al (n_add hv0 (rfl : (9 : Nat) = 9)))) h (fun h => ?_)
    exact hq _ _ _ _ _ _ (r_rd hM1 (n_add hv0 (rfl : (9 : Nat) = 9)) (r_nat hv1)) hM1 ht2 h
noncomputable def epX10_isBuilt (q : Nat → Nat → Nat → Bool) (cM ct cv0 : Nat) : Bool :=
  (@Bool.rec (fun _ => Bool) (@Bool.rec (fun _ => Bool) (q 1 cM ct) (q 0 cM ct) (leN 6 cv0)) (q 0 cM ct) (ltN cv0 1))
set_option maxHeartbeats 4000000 in
set_option maxRecDepth 20000 in
theorem spX10_isBuilt {post : Int32 → MM → Int64 → Prop} {q : Nat → Nat → Nat → Bool} (hq : ∀ (r : Int32) (M : MM) (tl : Int64) (cr cM ct : Nat), r = nI cr → M = dM cM → tl = i64 ct → q cr cM ct = true → post r M tl) {M : MM} {tl : Int64} {v0 : Int32} {cM ct cv0 : Nat} (hM : M = dM cM) (ht : tl = i64 ct) (hv0 : v0 = nI cv0) (h : epX10_isBuilt q  cM ct cv0 = true) : wpX10_isBuilt post  M tl v0 := by
  unfold wpX10_isBuilt
  refine e_ite (c_lt hv0 (rfl : (1 : Int32) = nI 1)) h (fun h => ?_) (fun h => ?_)
  · exact hq _ _ _ _ _ _ (rfl : (0 : Int32) = nI 0) hM ht h
  · refine e_ite (c_le (rfl : (6 : Int32) = nI 6) hv0) h (fun h => ?_) (fun h => ?_)
    · exact hq _ _ _ _ _ _ (rfl : (0 : Int32) = nI 0) hM ht h
    · exact hq _ _ _ _ _ _ (rfl : (1 : Int32) = nI 1) hM ht h
noncomputable def eX1_costOf_25 (q : Nat → Nat → Nat → Bool) (cM ct cv0 : Nat) : Bool :=
  (@Bool.rec (fun _ => Bool) false (q (rd cM cv0 2) cM ct) (kdB cv0 1))
set_option maxHeartbeats 4000000 in
set_option maxRecDepth 20000 in
theorem sX1_costOf_25 {post : Int32 → MM → Int64 → Prop} {q : Nat → Nat → Nat → Bool} (hq : ∀ (r : Int32) (M : MM) (tl : Int64) (cr cM ct : Nat), r = nI cr → M = dM cM → tl = i64 ct → q cr cM ct = true → post r M tl) {M : MM} {tl : Int64} {v0 : Nat} {cM ct cv0 : Nat} (hM : M = dM cM) (ht : tl = i64 ct) (hv0 : v0 = cv0) (h : eX1_costOf_25 q  cM ct cv0 = true) : wX1_costOf_25 post  M tl v0 := by
  unfold wX1_costOf_25
  refine e_and (k_kd hv0) h (fun h => ?_)
  exact hq _ _ _ _ _ _ (r_rd hM hv0 (rfl : (2 : Nat) = 2)) hM ht h
noncomputable def epX1_costOf (q : Nat → Nat → Nat → Bool) (cM ct cv0 cv1 cv2 : Nat) : Bool :=
  (epX10_isBank (fun cr3 cM1 ct2 => (@Bool.rec (fun _ => Bool) (epX10_isBuilt (fun cr6 cM4 ct5 => (@Bool.rec (fun _ => Bool) (@Bool.rec (fun _ => Bool) false (@Bool.rec (fun _ => Bool) false (@Bool.rec (fun _ => Bool) false (@Bool.rec (fun _ => Bool) false (@Bool.rec (fun _ => Bool) false (q (rd cM4 (Nat.add (Nat.add (Nat.add cv0 2) 1) (tN cv1)) (tN cv2)) cM4 ct5) (inN cv2 (alF (Nat.add (Nat.add (Nat.add cv0 2) 1) (tN cv1))))) (kdB (Nat.add (Nat.add (Nat.add cv0 2) 1) (tN cv1)) 12)) (inN cv1 2)) (kdB (Nat.add cv0 2) 16)) (kdB cv0 1)) (eX1_costOf_25 q  cM4 ct5 cv0) (eqN cr6 0))) cM1 ct2 cv2) (eX1_costOf_25 q  cM1 ct2 cv0) (eqN cr3 0))) cM ct cv1)
set_option maxHeartbeats 4000000 in
set_option maxRecDepth 20000 in
theorem spX1_costOf {post : Int32 → MM → Int64 → Prop} {q : Nat → Nat → Nat → Bool} (hq : ∀ (r : Int32) (M : MM) (tl : Int64) (cr cM ct : Nat), r = nI cr → M = dM cM → tl = i64 ct → q cr cM ct = true → post r M tl) {M : MM} {tl : Int64} {v0 : Nat} {v1 : Int32} {v2 : Int32} {cM ct cv0 cv1 cv2 : Nat} (hM : M = dM cM) (ht : tl = i64 ct) (hv0 : v0 = cv0) (hv1 : v1 = nI cv1) (hv2 : v2 = nI cv2) (h : epX1_costOf q  cM ct cv0 cv1 cv2 = true) : wpX1_costOf post  M tl v0 v1 v2 := by
  unfold wpX1_costOf
  refine spX10_isBank (fun r3 M1 t2 cr3 cM1 ct2 hr3 hM1 ht2 h => ?_) hM ht hv1 h
  refine e_ite (c_eq hr3 (rfl : (0 : Int32) = nI 0)) h (fun h => ?_) (fun h => ?_)
  · exact sX1_costOf_25 hq  hM1 ht2 hv0 h
  · refine spX10_isBuilt (fun r6 M4 t5 cr6 cM4 ct5 hr6 hM4 ht5 h => ?_) hM1 ht2 hv2 h
    refine e_ite (c_eq hr6 (rfl : (0 : Int32) = nI 0)) h (fun h => ?_) (fun h => ?_)
    · exact sX1_costOf_25 hq  hM4 ht5 hv0 h
    · refine e_and (k_kd hv0) h (fun h => ?_)
      refine e_and (k_kd (n_add hv0 (rfl : (2 : Nat) = 2))) h (fun h => ?_)
      refine e_and (k_in hv1 (rfl : (2 : Nat) = 2)) h (fun h => ?_)
      refine e_and (k_kd (n_add (n_add (n_add hv0 (rfl : (2 : Nat) = 2)) (rfl : (1 : Nat) = 1)) (r_nat hv1))) h (fun h => ?_)
      refine e_and (k_in hv2 (r_al (n_add (n_add (n_add hv0 (rfl : (2 : Nat) = 2)) (rfl : (1 : Nat) = 1)) (r_nat hv1)))) h (fun h => ?_)
      exact hq _ _ _ _ _ _ (r_rd hM4 (n_add (n_add (n_add hv0 (rfl : (2 : Nat) = 2)) (rfl : (1 : Nat) = 1)) (r_nat hv1)) (r_nat hv2)) hM4 ht5 h
noncomputable def epX1_tasteOf (q : Nat → Nat → Nat → Bool) (cM ct cv0 cv1 cv2 : Nat) : Bool :=
  (epX10_isBank (fun cr3 cM1 ct2 => (@Bool.rec (fun _ => Bool) (epX10_isBuilt (fun cr6 cM4 ct5 => (@Bool.rec (fun _ => Bool) (@Bool.rec (fun _ => Bool) false (@Bool.rec (fun _ => Bool) false (@Bool.rec (fun _ => Bool) false (@Bool.rec (fun _ => Bool) false (@Bool.rec (fun _ => Bool) false (q (rd cM4 (Nat.add (Nat.add (Nat.add cv0 5) 1) (tN cv1)) (tN cv2)) cM4 ct5) (inN cv2 (alF (Nat.add (Nat.add (Nat.add cv0 5) 1) (tN cv1))))) (kdB (Nat.add (Nat.add (Nat.add cv0 5) 1) (tN cv1)) 12)) (inN cv1 2)) (kdB (Nat.add cv0 5) 16)) (kdB cv0 1)) (q 0 cM4 ct5) (eqN cr6 0))) cM1 ct2 cv2) (q 0 cM1 ct2) (eqN cr3 0))) cM ct cv1)
set_option maxHeartbeats 4000000 in
set_option maxRecDepth 20000 in
theorem spX1_tasteOf {post : Int32 → MM → Int64 → Prop} {q : Nat → Nat → Nat → Bool} (hq : ∀ (r : Int32) (M : MM) (tl : Int64) (cr cM ct : Nat), r = nI cr → M = dM cM → tl = i64 ct → q cr cM ct = true → post r M tl) {M : MM} {tl : Int64} {v0 : Nat} {v1 : Int32} {v2 : Int32} {cM ct cv0 cv1 cv2 : Nat} (hM : M = dM cM) (ht : tl = i64 ct) (hv0 : v0 = cv0) (hv1 : v1 = nI cv1) (hv2 : v2 = nI cv2) (h : epX1_tasteOf q  cM ct cv0 cv1 cv2 = true) : wpX1_tasteOf post  M tl v0 v1 v2 := by
  unfold wpX1_tasteOf
  refine spX10_isBank (fun r3 M1 t2 cr3 cM1 ct2 hr3 hM1 ht2 h => ?_) hM ht hv1 h
  refine e_ite (c_eq hr3 (rfl : (0 : Int32) = nI 0)) h (fun h => ?_) (fun h => ?_)
  · exact hq _ _ _ _ _ _ (rfl : (0 : Int32) = nI 0) hM1 ht2 h
  · refine spX10_isBuilt (fun r6 M4 t5 cr6 cM4 ct5 hr6 hM4 ht5 h => ?_) hM1 ht2 hv2 h
    refine e_ite (c_eq hr6 (rfl : (0 : Int32) = nI 0)) h (fun h => ?_) (fun h => ?_)
    · exact hq _ _ _ _ _ _ (rfl : (0 : Int32) = nI 0) hM4 ht5 h
    · refine e_and (k_kd hv0) h (fun h => ?_)
      refine e_and (k_kd (n_add hv0 (rfl : (5 : Nat) = 5))) h (fun h => ?_)
      refine e_and (k_in hv1 (rfl : (2 : Nat) = 2)) h (fun h => ?_)
      refine e_and (k_kd (n_add (n_add (n_add hv0 (rfl : (5 : Nat) = 5)) (rfl : (1 : Nat) = 1)) (r_nat hv1))) h (fun h => ?_)
      refine e_and (k_in hv2 (r_al (n_add (n_add (n_add hv0 (rfl : (5 : Nat) = 5)) (rfl : (1 : Nat) = 1)) (r_nat hv1)))) h (fun h => ?_)
      exact hq _ _ _ _ _ _ (r_rd hM4 (n_add (n_add (n_add hv0 (rfl : (5 : Nat) = 5)) (rfl : (1 : Nat) = 1)) (r_nat hv1)) (r_nat hv2)) hM4 ht5 h
noncomputable def epX1_lacks (q : Nat → Nat → Nat → Bool) (cM ct cv0 cv1 cv2 : Nat) : Bool :=
  (epX10_isBank (fun cr3 cM1 ct2 => (@Bool.rec (fun _ => Bool) (epX10_isBuilt (fun cr6 cM4 ct5 => (@Bool.rec (fun _ => Bool) (@Bool.rec (fun _ => Bool) false (@Bool.rec (fun _ => Bool) false (@Bool.rec (fun _ => Bool) false (@Bool.rec (fun _ => Bool) (q 1 cM4 ct5) (q 0 cM4 ct5) (eqN (Nat.land (b2 f_shr (rd cM4 (Nat.add cv0 8) (tN cv1)) cv2) 1) 0)) (inN cv1 (alF (Nat.add cv0 8)))) (kdB (Nat.add cv0 8) 12)) (kdB cv0 1)) (q 0 cM4 ct5) (eqN cr6 0))) cM1 ct2 cv2) (q 0 cM1 ct2) (eqN cr3 0))) cM ct cv1)
set_option maxHeartbeats 4000000 in
set_option maxRecDepth 20000 in
theorem spX1_lacks {post : Int32 → MM → Int64 → Prop} {q : Nat → Nat → Nat → Bool} (hq : ∀ (r : Int32) (M : MM) (tl : Int64) (cr cM ct : Nat), r = nI cr → M = dM cM → tl = i64 ct → q cr cM ct = true → post r M tl) {M : MM} {tl : Int64} {v0 : Nat} {v1 : Int32} {v2 : Int32} {cM ct cv0 cv1 cv2 : Nat} (hM : M = dM cM) (ht : tl = i64 ct) (hv0 : v0 = cv0) (hv1 : v1 = nI cv1) (hv2 : v2 = nI cv2) (h : epX1_lacks q  cM ct cv0 cv1 cv2 = true) : wpX1_lacks post  M tl v0 v1 v2 := by
  unfold wpX1_lacks
  refine spX10_isBank (fun r3 M1 t2 cr3 cM1 ct2 hr3 hM1 ht2 h => ?_) hM ht hv1 h
  refine e_ite (c_eq hr3 (rfl : (0 : Int32) = nI 0)) h (fun h => ?_) (fun h => ?_)
  · exact hq _ _ _ _ _ _ (rfl : (0 : Int32) = nI 0) hM1 ht2 h
  · refine spX10_isBuilt (fun r6 M4 t5 cr6 cM4 ct5 hr6 hM4 ht5 h => ?_) hM1 ht2 hv2 h
    refine e_ite (c_eq hr6 (rfl : (0 : Int32) = nI 0)) h (fun h => ?_) (fun h => ?_)
    · exact hq _ _ _ _ _ _ (rfl : (0 : Int32) = nI 0) hM4 ht5 h
    · refine e_and (k_kd hv0) h (fun h => ?_)
      refine e_and (k_kd (n_add hv0 (rfl : (8 : Nat) = 8))) h (fun h => ?_)
      refine e_and (k_in hv1 (r_al (n_add hv0 (rfl : (8 : Nat) = 8)))) h (fun h => ?_)
      refine e_ite (c_eq (r_and (r_b2 f_shr (r_rd hM4 (n_add hv0 (rfl : (8 : Nat) = 8)) (r_nat hv1)) hv2) (rfl : (1 : Int32) = nI 1)) (rfl : (0 : Int32) = nI 0)) h (fun h => ?_) (fun h => ?_)
      · exact hq _ _ _ _ _ _ (rfl : (0 : Int32) = nI 0) hM4 ht5 h
      · exact hq _ _ _ _ _ _ (rfl : (1 : Int32) = nI 1) hM4 ht5 h
noncomputable def eX1_matchBy_17 (q : Nat → Nat → Nat → Bool) (cM ct cv0 cs0 : Nat) : Bool :=
  (@Bool.rec (fun _ => Bool) (@Bool.rec (fun _ => Bool) false (@Bool.rec (fun _ => Bool) (q cs0 cM ct) (q 4294967292 cM ct) (leN (rd cM cv0 0) cs0)) (kdB cv0 1)) (q 4294967292 cM ct) (ltN cs0 0))
set_option maxHeartbeats 4000000 in
set_option maxRecDepth 20000 in
theorem sX1_matchBy_17 {post : Int32 → MM → Int64 → Prop} {q : Nat → Nat → Nat → Bool} (hq : ∀ (r : Int32) (M : MM) (tl : Int64) (cr cM ct : Nat), r = nI cr → M = dM cM → tl = i64 ct → q cr cM ct = true → post r M tl) {M : MM} {tl : Int64} {v0 : Nat} {s0 : Int32} {cM ct cv0 cs0 : Nat} (hM : M = dM cM) (ht : tl = i64 ct) (hv0 : v0 = cv0) (hs0 : s0 = nI cs0) (h : eX1_matchBy_17 q  cM ct cv0 cs0 = true) : wX1_matchBy_17 post  M tl v0 s0 := by
  unfold wX1_matchBy_17
  refine e_ite (c_lt hs0 (rfl : (0 : Int32) = nI 0)) h (fun h => ?_) (fun h => ?_)
  · exact hq _ _ _ _ _ _ lm4 hM ht h
  · refine e_and (k_kd hv0) h (fun h => ?_)
    refine e_ite (c_le (r_rd hM hv0 (rfl : (0 : Nat) = 0)) hs0) h (fun h => ?_) (fun h => ?_)
    · exact hq _ _ _ _ _ _ lm4 hM ht h
    · exact hq _ _ _ _ _ _ hs0 hM ht h
noncomputable def epX1_matchBy (q : Nat → Nat → Nat → Bool) (cM ct cv0 cv1 cv2 cv3 : Nat) : Bool :=
  (@Bool.rec (fun _ => Bool) (eX1_matchBy_17 q  cM ct cv0 (aN (sN cv3 cv1) 3)) (eX1_matchBy_17 q  cM ct cv0 (sN (aN cv3 cv1) 3)) (eqN cv2 0))
set_option maxHeartbeats 4000000 in
set_option maxRecDepth 20000 in
theorem spX1_matchBy {post : Int32 → MM → Int64 → Prop} {q : Nat → Nat → Nat → Bool} (hq : ∀ (r : Int32) (M : MM) (tl : Int64) (cr cM ct : Nat), r = nI cr → M = dM cM → tl = i64 ct → q cr cM ct = true → post r M tl) {M : MM} {tl : Int64} {v0 : Nat} {v1 : Int32} {v2 : Int32} {v3 : Int32} {cM ct cv0 cv1 cv2 cv3 : Nat} (hM : M = dM cM) (ht : tl = i64 ct) (hv0 : v0 = cv0) (hv1 : v1 = nI cv1) (hv2 : v2 = nI cv2) (hv3 : v3 = nI cv3) (h : epX1_matchBy q  cM ct cv0 cv1 cv2 cv3 = true) : wpX1_matchBy post  M tl v0 v1 v2 v3 := by
  unfold wpX1_matchBy
  refine e_ite (c_eq hv2 (rfl : (0 : Int32) = nI 0)) h (fun h => ?_) (fun h => ?_)
  · exact sX1_matchBy_17 hq  hM ht hv0 (r_sub (r_add hv3 hv1) (rfl : (3 : Int32) = nI 3)) h
  · exact sX1_matchBy_17 hq  hM ht hv0 (r_add (r_sub hv3 hv1) (rfl : (3 : Int32) = nI 3)) h
noncomputable def epX1_matchOf (q : Nat → Nat → Nat → Bool) (cM ct cv0 cv1 cv2 : Nat) : Bool :=
  (@Bool.rec (fun _ => Bool) false (@Bool.rec (fun _ => Bool) false (epX1_matchBy (fun cr5 cM3 ct4 => (q cr5 cM3 ct4)) cM ct cv0 (rd cM cv0 1) cv1 cv2) (kdB cv0 1)) (kdB cv0 1))
set_option maxHeartbeats 4000000 in
set_option maxRecDepth 20000 in
theorem spX1_matchOf {post : Int32 → MM → Int64 → Prop} {q : Nat → Nat → Nat → Bool} (hq : ∀ (r : Int32) (M : MM) (tl : Int64) (cr cM ct : Nat), r = nI cr → M = dM cM → tl = i64 ct → q cr cM ct = true → post r M tl) {M : MM} {tl : Int64} {v0 : Nat} {v1 : Int32} {v2 : Int32} {cM ct cv0 cv1 cv2 : Nat} (hM : M = dM cM) (ht : tl = i64 ct) (hv0 : v0 = cv0) (hv1 : v1 = nI cv1) (hv2 : v2 = nI cv2) (h : epX1_matchOf q  cM ct cv0 cv1 cv2 = true) : wpX1_matchOf post  M tl v0 v1 v2 := by
  unfold wpX1_matchOf
  refine e_and (k_kd hv0) h (fun h => ?_)
  refine e_and (k_kd hv0) h (fun h => ?_)
  refine spX1_matchBy (fun r5 M3 t4 cr5 cM3 ct4 hr5 hM3 ht4 h => ?_) hM ht hv0 (r_rd hM hv0 (rfl : (1 : Nat) = 1)) hv1 hv2 h
  exact hq _ _ _ _ _ _ hr5 hM3 ht4 h
noncomputable def epX1_mayBuild (q : Nat → Nat → Nat → Bool) (cM ct cv0 cv1 cv2 cv3 : Nat) : Bool :=
  (@Bool.rec (fun _ => Bool) false (epX1_lacks (fun cr4 cM2 ct3 => (@Bool.rec (fun _ => Bool) (q 0 cM2 ct3) (@Bool.rec (fun _ => Bool) false (epX1_matchOf (fun cr8 cM6 ct7 => (@Bool.rec (fun _ => Bool) (@Bool.rec (fun _ => Bool) false (epX1_twinOf (fun cr12 cM10 ct11 => (@Bool.rec (fun _ => Bool) false (epX1_lacks (fun cr16 cM14 ct15 => (@Bool.rec (fun _ => Bool) (q 0 cM14 ct15) (q 1 cM14 ct15) (eqN cr16 0))) cM10 ct11 cv0 (sN 1 cv1) cr12) (kdB cv0 1))) cM6 ct7 cv0 cv3) (kdB cv0 1)) (q 1 cM6 ct7) (eqN cr8 4294967292))) cM2 ct3 cv0 cv1 cv2) (kdB cv0 1)) (eqN cr4 0))) cM ct cv0 cv1 cv3) (kdB cv0 1))
set_option maxHeartbeats 4000000 in
set_option maxRecDepth 20000 in
theorem spX1_mayBuild {post : Int32 → MM → Int64 → Prop} {q : Nat → Nat → Nat → Bool} (hq : ∀ (r : Int32) (M : MM) (tl : Int64) (cr cM ct : Nat), r = nI cr → M = dM cM → tl = i64 ct → q cr cM ct = true → post r M tl) {M : MM} {tl : Int64} {v0 : Nat} {v1 : Int32} {v2 : Int32} {v3 : Int32} {cM ct cv0 cv1 cv2 cv3 : Nat} (hM : M = dM cM) (ht : tl = i64 ct) (hv0 : v0 = cv0) (hv1 : v1 = nI cv1) (hv2 : v2 = nI cv2) (hv3 : v3 = nI cv3) (h : epX1_mayBuild q  cM ct cv0 cv1 cv2 cv3 = true) : wpX1_mayBuild post  M tl v0 v1 v2 v3 := by
  unfold wpX1_mayBuild
  refine e_and (k_kd hv0) h (fun h => ?_)
  refine spX1_lacks (fun r4 M2 t3 cr4 cM2 ct3 hr4 hM2 ht3 h => ?_) hM ht hv0 hv1 hv3 h
  refine e_ite (c_eq hr4 (rfl : (0 : Int32) = nI 0)) h (fun h => ?_) (fun h => ?_)
  · refine e_and (k_kd hv0) h (fun h => ?_)
    refine spX1_matchOf (fun r8 M6 t7 cr8 cM6 ct7 hr8 hM6 ht7 h => ?_) hM2 ht3 hv0 hv1 hv2 h
    refine e_ite (c_eq hr8 lm4) h (fun h => ?_) (fun h => ?_)
    · exact hq _ _ _ _ _ _ (rfl : (1 : Int32) = nI 1) hM6 ht7 h
    · refine e_and (k_kd hv0) h (fun h => ?_)
      refine spX1_twinOf (fun r12 M10 t11 cr12 cM10 ct11 hr12 hM10 ht11 h => ?_) hM6 ht7 hv0 hv3 h
      refine e_and (k_kd hv0) h (fun h => ?_)
      refine spX1_lacks (fun r16 M14 t15 cr16 cM14 ct15 hr16 hM14 ht15 h => ?_) hM10 ht11 hv0 (r_sub (rfl : (1 : Int32) = nI 1) hv1) hr12 h
      refine e_ite (c_eq hr16 (rfl : (0 : Int32) = nI 0)) h (fun h => ?_) (fun h => ?_)
      · exact hq _ _ _ _ _ _ (rfl : (1 : Int32) = nI 1) hM14 ht15 h
      · exact hq _ _ _ _ _ _ (rfl : (0 : Int32) = nI 0) hM14 ht15 h
  · exact hq _ _ _ _ _ _ (rfl : (0 : Int32) = nI 0) hM2 ht3 h
noncomputable def eX1_countPairs_29 (q : Nat → Nat → Nat → Bool) (cbk4 : Nat → Nat → Nat → Nat → Nat → Bool) (cM ct cv0 cv2 cs0 cs1 : Nat) : Bool :=
  (cbk4 cM ct cv0 (aN cs0 cs1) (aN cv2 1))
set_option maxHeartbeats 4000000 in
set_option maxRecDepth 20000 in
theorem sX1_countPairs_29 {post : Int32 → MM → Int64 → Prop} {q : Nat → Nat → Nat → Bool} (hq : ∀ (r : Int32) (M : MM) (tl : Int64) (cr cM ct : Nat), r = nI cr → M = dM cM → tl = i64 ct → q cr cM ct = true → post r M tl) {bk4 : MM → Int64 → Nat → Int32 → Int32 → Prop} {cbk4 : Nat → Nat → Nat → Nat → Nat → Bool} (hbk4 : ∀ (M : MM) (tl : Int64) (x0 : Nat) (x1 : Int32) (x2 : Int32) (cM ct cx0 cx1 cx2 : Nat), M = dM cM → tl = i64 ct → x0 = cx0 → x1 = nI cx1 → x2 = nI cx2 → cbk4 cM ct cx0 cx1 cx2 = true → bk4 M tl x0 x1 x2) {M : MM} {tl : Int64} {v0 : Nat} {v2 : Int32} {s0 : Int32} {s1 : Int32} {cM ct cv0 cv2 cs0 cs1 : Nat} (hM : M = dM cM) (ht : tl = i64 ct) (hv0 : v0 = cv0) (hv2 : v2 = nI cv2) (hs0 : s0 = nI cs0) (hs1 : s1 = nI cs1) (h : eX1_countPairs_29 q cbk4 cM ct cv0 cv2 cs0 cs1 = true) : wX1_countPairs_29 post bk4 M tl v0 v2 s0 s1 := by
  unfold wX1_countPairs_29
  exact hbk4 _ _ _ _ _ _ _ _ _ _ hM ht hv0 (r_add hs0 hs1) (r_add hv2 (rfl : (1 : Int32) = nI 1)) h
noncomputable def eX1_countPairs_4 (q : Nat → Nat → Nat → Bool) (n : Nat) : Nat → Nat → Nat → Nat → Nat → Bool :=
  @Nat.rec (fun _ => Nat → Nat → Nat → Nat → Nat → Bool) (fun _ _ _ _ _ => false) (fun _ ih cM ct cv0 cv1 cv2 => (@Bool.rec (fun _ => Bool) false (@Bool.rec (fun _ => Bool) (@Bool.rec (fun _ => Bool) false (epX1_matchOf (fun cr5 cM3 ct4 => (@Bool.rec (fun _ => Bool) (eX1_countPairs_29 q ih cM3 ct4 cv0 cv2 cv1 1) (eX1_countPairs_29 q ih cM3 ct4 cv0 cv2 cv1 0) (eqN cr5 4294967292))) cM ct cv0 0 cv2) (kdB cv0 1)) (q cv1 cM ct) (leN (rd cM cv0 0) cv2)) (kdB cv0 1))) n
set_option maxHeartbeats 4000000 in
set_option maxRecDepth 20000 in
theorem sX1_countPairs_4 {post : Int32 → MM → Int64 → Prop} {q : Nat → Nat → Nat → Bool} (hq : ∀ (r : Int32) (M : MM) (tl : Int64) (cr cM ct : Nat), r = nI cr → M = dM cM → tl = i64 ct → q cr cM ct = true → post r M tl) : ∀ (n : Nat) (M : MM) (tl : Int64) (v0 : Nat) (v1 : Int32) (v2 : Int32) (cM ct cv0 cv1 cv2 : Nat), M = dM cM → tl = i64 ct → v0 = cv0 → v1 = nI cv1 → v2 = nI cv2 → eX1_countPairs_4 q  n cM ct cv0 cv1 cv2 = true → wX1_countPairs_4 post  n M tl v0 v1 v2 := by
  intro n
  induction n with
  | zero => intro M tl v0 v1 v2 cM ct cv0 cv1 cv2 hM ht hv0 hv1 hv2 h; exact Bool.noConfusion h
  | succ n ih =>
    intro M tl v0 v1 v2 cM ct cv0 cv1 cv2 hM ht hv0 hv1 hv2 h
    unfold wX1_countPairs_4
    have h : (@Bool.rec (fun _ => Bool) false (@Bool.rec (fun _ => Bool) (@Bool.rec (fun _ => Bool) false (epX1_matchOf (fun cr5 cM3 ct4 => (@Bool.rec (fun _ => Bool) (eX1_countPairs_29 q (eX1_countPairs_4 q  n) cM3 ct4 cv0 cv2 cv1 1) (eX1_countPairs_29 q (eX1_countPairs_4 q  n) cM3 ct4 cv0 cv2 cv1 0) (eqN cr5 4294967292))) cM ct cv0 0 cv2) (kdB cv0 1)) (q cv1 cM ct) (leN (rd cM cv0 0) cv2)) (kdB cv0 1)) = true := h
    refine e_and (k_kd hv0) h (fun h => ?_)
    refine e_ite (c_le (r_rd hM hv0 (rfl : (0 : Nat) = 0)) hv2) h (fun h => ?_) (fun h => ?_)
    · exact hq _ _ _ _ _ _ hv1 hM ht h
    · refine e_and (k_kd hv0) h (fun h => ?_)
      refine spX1_matchOf (fun r5 M3 t4 cr5 cM3 ct4 hr5 hM3 ht4 h => ?_) hM ht hv0 (rfl : (0 : Int32) = nI 0) hv2 h
      refine e_ite (c_eq hr5 lm4) h (fun h => ?_) (fun h => ?_)
      · exact sX1_countPairs_29 hq ih hM3 ht4 hv0 hv2 hv1 (rfl : (0 : Int32) = nI 0) h
      · exact sX1_countPairs_29 hq ih hM3 ht4 hv0 hv2 hv1 (rfl : (1 : Int32) = nI 1) h
noncomputable def epX1_countPairs (q : Nat → Nat → Nat → Bool) (cM ct cv0 : Nat) : Bool :=
  (eX1_countPairs_4 q  5000 cM ct cv0 0 0)
set_option maxHeartbeats 4000000 in
set_option maxRecDepth 20000 in
theorem spX1_countPairs {post : Int32 → MM → Int64 → Prop} {q : Nat → Nat → Nat → Bool} (hq : ∀ (r : Int32) (M : MM) (tl : Int64) (cr cM ct : Nat), r = nI cr → M = dM cM → tl = i64 ct → q cr cM ct = true → post r M tl) {M : MM} {tl : Int64} {v0 : Nat} {cM ct cv0 : Nat} (hM : M = dM cM) (ht : tl = i64 ct) (hv0 : v0 = cv0) (h : epX1_countPairs q  cM ct cv0 = true) : wpX1_countPairs post  M tl v0 := by
  unfold wpX1_countPairs
  exact ⟨5000, sX1_countPairs_4 hq  5000 _ _ _ _ _ _ _ _ _ _ hM ht hv0 (rfl : (0 : Int32) = nI 0) (rfl : (0 : Int32) = nI 0) h⟩
noncomputable def epX1_doorStays (q : Nat → Nat → Nat → Bool) (cM ct cv0 cv1 : Nat) : Bool :=
  (@Bool.rec (fun _ => Bool) false (@Bool.rec (fun _ => Bool) (q 1 cM ct) (@Bool.rec (fun _ => Bool) false (@Bool.rec (fun _ => Bool) false (@Bool.rec (fun _ => Bool) false (@Bool.rec (fun _ => Bool) false (@Bool.rec (fun _ => Bool) (q 1 cM ct) (q 0 cM ct) (eqN (Nat.land (b2 f_shr (rd cM cv0 3) (rd cM (Nat.add cv0 9) (tN cv1))) 1) 0)) (inN cv1 (alF (Nat.add cv0 9)))) (kdB (Nat.add cv0 9) 12)) (kdB cv0 1)) (kdB cv0 1)) (eqN (Nat.land (b2 f_shr (rd cM cv0 3) cv1) 1) 0)) (kdB cv0 1))
set_option maxHeartbeats 4000000 in
set_option maxRecDepth 20000 in
theorem spX1_doorStays {post : Int32 → MM → Int64 → Prop} {q : Nat → Nat → Nat → Bool} (hq : ∀ (r : Int32) (M : MM) (tl : Int64) (cr cM ct : Nat), r = nI cr → M = dM cM → tl = i64 ct → q cr cM ct = true → post r M tl) {M : MM} {tl : Int64} {v0 : Nat} {v1 : Int32} {cM ct cv0 cv1 : Nat} (hM : M = dM cM) (ht : tl = i64 ct) (hv0 : v0 = cv0) (hv1 : v1 = nI cv1) (h : epX1_doorStays q  cM ct cv0 cv1 = true) : wpX1_doorStays post  M tl v0 v1 := by
  unfold wpX1_doorStays
  refine e_and (k_kd hv0) h (fun h => ?_)
  refine e_ite (c_eq (r_and (r_b2 f_shr (r_rd hM hv0 (rfl : (3 : Nat) = 3)) hv1) (rfl : (1 : Int32) = nI 1)) (rfl : (0 : Int32) = nI 0)) h (fun h => ?_) (fun h => ?_)
  · refine e_and (k_kd hv0) h (fun h => ?_)
    refine e_and (k_kd hv0) h (fun h => ?_)
    refine e_and (k_kd (n_add hv0 (rfl : (9 : Nat) = 9))) h (fun h => ?_)
    refine e_and (k_in hv1 (r_al (n_add hv0 (rfl : (9 : Nat) = 9)))) h (fun h => ?_)
    refine e_ite (c_eq (r_and (r_b2 f_shr (r_rd hM hv0 (rfl : (3 : Nat) = 3)) (r_rd hM (n_add hv0 (rfl : (9 : Nat) = 9)) (r_nat hv1))) (rfl : (1 : Int32) = nI 1)) (rfl : (0 : Int32) = nI 0)) h (fun h => ?_) (fun h => ?_)
    · exact hq _ _ _ _ _ _ (rfl : (0 : Int32) = nI 0) hM ht h
    · exact hq _ _ _ _ _ _ (rfl : (1 : Int32) = nI 1) hM ht h
  · exact hq _ _ _ _ _ _ (rfl : (1 : Int32) = nI 1) hM ht h
noncomputable def eX1_mirrorOf_35 (q : Nat → Nat → Nat → Bool) (cM ct cv0 cv1 cv2 cs0 : Nat) : Bool :=
  (@Bool.rec (fun _ => Bool) false (@Bool.rec (fun _ => Bool) false (@Bool.rec (fun _ => Bool) false (@Bool.rec (fun _ => Bool) false (@Bool.rec (fun _ => Bool) false (@Bool.rec (fun _ => Bool) false (q (aN (aN (rd cM (Nat.add cv0 9) (tN cv2)) (mN 8 (rd cM (Nat.add cv0 10) (tN (Nat.land (b2 f_shr cv1 3) 3))))) cs0) cM ct) (inN (Nat.land (b2 f_shr cv1 3) 3) (alF (Nat.add cv0 10)))) (kdB (Nat.add cv0 10) 12)) (kdB cv0 1)) (inN cv2 (alF (Nat.add cv0 9)))) (kdB (Nat.add cv0 9) 12)) (kdB cv0 1))
set_option maxHeartbeats 4000000 in
set_option maxRecDepth 20000 in
theorem sX1_mirrorOf_35 {post : Int32 → MM → Int64 → Prop} {q : Nat → Nat → Nat → Bool} (hq : ∀ (r : Int32) (M : MM) (tl : Int64) (cr cM ct : Nat), r = nI cr → M = dM cM → tl = i64 ct → q cr cM ct = true → post r M tl) {M : MM} {tl : Int64} {v0 : Nat} {v1 : Int32} {v2 : Int32} {s0 : Int32} {cM ct cv0 cv1 cv2 cs0 : Nat} (hM : M = dM cM) (ht : tl = i64 ct) (hv0 : v0 = cv0) (hv1 : v1 = nI cv1) (hv2 : v2 = nI cv2) (hs0 : s0 = nI cs0) (h : eX1_mirrorOf_35 q  cM ct cv0 cv1 cv2 cs0 = true) : wX1_mirrorOf_35 post  M tl v0 v1 v2 s0 := by
  unfold wX1_mirrorOf_35
  refine e_and (k_kd hv0) h (fun h => ?_)
  refine e_and (k_kd (n_add hv0 (rfl : (9 : Nat) = 9))) h (fun h => ?_)
  refine e_and (k_in hv2 (r_al (n_add hv0 (rfl : (9 : Nat) = 9)))) h (fun h => ?_)
  refine e_and (k_kd hv0) h (fun h => ?_)
  refine e_and (k_kd (n_add hv0 (rfl : (10 : Nat) = 10))) h (fun h => ?_)
  refine e_and (k_in (r_and (r_b2 f_shr hv1 (rfl : (3 : Int32) = nI 3)) (rfl : (3 : Int32) = nI 3)) (r_al (n_add hv0 (rfl : (10 : Nat) = 10)))) h (fun h => ?_)
  exact hq _ _ _ _ _ _ (r_add (r_add (r_rd hM (n_add hv0 (rfl : (9 : Nat) = 9)) (r_nat hv2)) (r_mul (rfl : (8 : Int32) = nI 8) (r_rd hM (n_add hv0 (rfl : (10 : Nat) = 10)) (r_nat (r_and (r_b2 f_shr hv1 (rfl : (3 : Int32) = nI 3)) (rfl : (3 : Int32) = nI 3)))))) hs0) hM ht h
noncomputable def epX1_mirrorOf (q : Nat → Nat → Nat → Bool) (cM ct cv0 cv1 : Nat) : Bool :=
  (epX10_isBuilt (fun cr3 cM1 ct2 => (@Bool.rec (fun _ => Bool) (@Bool.rec (fun _ => Bool) false (epX1_doorStays (fun cr7 cM5 ct6 => (@Bool.rec (fun _ => Bool) (eX1_mirrorOf_35 q  cM5 ct6 cv0 cv1 (Nat.land cv1 7) (Nat.land cv1 32)) (eX1_mirrorOf_35 q  cM5 ct6 cv0 cv1 (Nat.land cv1 7) (sN 32 (Nat.land cv1 32))) (eqN cr7 0))) cM1 ct2 cv0 (Nat.land cv1 7)) (kdB cv0 1)) (q 0 cM1 ct2) (eqN cr3 0))) cM ct (Nat.land cv1 7))
set_option maxHeartbeats 4000000 in
set_option maxRecDepth 20000 in
theorem spX1_mirrorOf {post : Int32 → MM → Int64 → Prop} {q : Nat → Nat → Nat → Bool} (hq : ∀ (r : Int32) (M : MM) (tl : Int64) (cr cM ct : Nat), r = nI cr → M = dM cM → tl = i64 ct → q cr cM ct = true → post r M tl) {M : MM} {tl : Int64} {v0 : Nat} {v1 : Int32} {cM ct cv0 cv1 : Nat} (hM : M = dM cM) (ht : tl = i64 ct) (hv0 : v0 = cv0) (hv1 : v1 = nI cv1) (h : epX1_mirrorOf q  cM ct cv0 cv1 = true) : wpX1_mirrorOf post  M tl v0 v1 := by
  unfold wpX1_mirrorOf
  refine spX10_isBuilt (fun r3 M1 t2 cr3 cM1 ct2 hr3 hM1 ht2 h => ?_) hM ht (r_and hv1 (rfl : (7 : Int32) = nI 7)) h
  refine e_ite (c_eq hr3 (rfl : (0 : Int32) = nI 0)) h (fun h => ?_) (fun h => ?_)
  · exact hq _ _ _ _ _ _ (rfl : (0 : Int32) = nI 0) hM1 ht2 h
  · refine e_and (k_kd hv0) h (fun h => ?_)
    refine spX1_doorStays (fun r7 M5 t6 cr7 cM5 ct6 hr7 hM5 ht6 h => ?_) hM1 ht2 hv0 (r_and hv1 (rfl : (7 : Int32) = nI 7)) h
    refine e_ite (c_eq hr7 (rfl : (0 : Int32) = nI 0)) h (fun h => ?_) (fun h => ?_)
    · exact sX1_mirrorOf_35 hq  hM5 ht6 hv0 hv1 (r_and hv1 (rfl : (7 : Int32) = nI 7)) (r_sub (rfl : (32 : Int32) = nI 32) (r_and hv1 (rfl : (32 : Int32) = nI 32))) h
    · exact sX1_mirrorOf_35 hq  hM5 ht6 hv0 hv1 (r_and hv1 (rfl : (7 : Int32) = nI 7)) (r_and hv1 (rfl : (32 : Int32) = nI 32)) h
noncomputable def epX1_isEven (q : Nat → Nat → Nat → Bool) (cM ct cv0 cv1 cv2 : Nat) : Bool :=
  (@Bool.rec (fun _ => Bool) false (epX1_mirrorOf (fun cr4 cM2 ct3 => (@Bool.rec (fun _ => Bool) (q 0 cM2 ct3) (q 1 cM2 ct3) (eqN cr4 cv2))) cM ct cv0 cv1) (kdB cv0 1))
set_option maxHeartbeats 4000000 in
set_option maxRecDepth 20000 in
theorem spX1_isEven {post : Int32 → MM → Int64 → Prop} {q : Nat → Nat → Nat → Bool} (hq : ∀ (r : Int32) (M : MM) (tl : Int64) (cr cM ct : Nat), r = nI cr → M = dM cM → tl = i64 ct → q cr cM ct = true → post r M tl) {M : MM} {tl : Int64} {v0 : Nat} {v1 : Int32} {v2 : Int32} {cM ct cv0 cv1 cv2 : Nat} (hM : M = dM cM) (ht : tl = i64 ct) (hv0 : v0 = cv0) (hv1 : v1 = nI cv1) (hv2 : v2 = nI cv2) (h : epX1_isEven q  cM ct cv0 cv1 cv2 = true) : wpX1_isEven post  M tl v0 v1 v2 := by
  unfold wpX1_isEven
  refine e_and (k_kd hv0) h (fun h => ?_)
  refine spX1_mirrorOf (fun r4 M2 t3 cr4 cM2 ct3 hr4 hM2 ht3 h => ?_) hM ht hv0 hv1 h
  refine e_ite (c_eq hr4 hv2) h (fun h => ?_) (fun h => ?_)
  · exact hq _ _ _ _ _ _ (rfl : (1 : Int32) = nI 1) hM2 ht3 h
  · exact hq _ _ _ _ _ _ (rfl : (0 : Int32) = nI 0) hM2 ht3 h
noncomputable def epX10_slot (q : Nat → Nat → Nat → Bool) (cM ct cv0 cv1 : Nat) : Bool :=
  (q (aN (mN cv0 8) cv1) cM ct)
set_option maxHeartbeats 4000000 in
set_option maxRecDepth 20000 in
theorem spX10_slot {post : Int32 → MM → Int64 → Prop} {q : Nat → Nat → Nat → Bool} (hq : ∀ (r : Int32) (M : MM) (tl : Int64) (cr cM ct : Nat), r = nI cr → M = dM cM → tl = i64 ct → q cr cM ct = true → post r M tl) {M : MM} {tl : Int64} {v0 : Int32} {v1 : Int32} {cM ct cv0 cv1 : Nat} (hM : M = dM cM) (ht : tl = i64 ct) (hv0 : v0 = nI cv0) (hv1 : v1 = nI cv1) (h : epX10_slot q  cM ct cv0 cv1 = true) : wpX10_slot post  M tl v0 v1 := by
  unfold wpX10_slot
  exact hq _ _ _ _ _ _ (r_add (r_mul hv0 (rfl : (8 : Int32) = nI 8)) hv1) hM ht h
noncomputable def eX1_unevenLots_55 (q : Nat → Nat → Nat → Bool) (cbk4 : Nat → Nat → Nat → Nat → Nat → Nat → Bool) (cM ct cv0 cv1 cv2 cv3 : Nat) : Bool :=
  (cbk4 cM ct cv0 cv1 cv2 (aN cv3 1))
set_option maxHeartbeats 4000000 in
set_option maxRecDepth 20000 in
theorem sX1_unevenLots_55 {post : Int32 → MM → Int64 → Prop} {q : Nat → Nat → Nat → Bool} (hq : ∀ (r : Int32) (M : MM) (tl : Int64) (cr cM ct : Nat), r = nI cr → M = dM cM → tl = i64 ct → q cr cM ct = true → post r M tl) {bk4 : MM → Int64 → Nat → Nat → Int32 → Int32 → Prop} {cbk4 : Nat → Nat → Nat → Nat → Nat → Nat → Bool} (hbk4 : ∀ (M : MM) (tl : Int64) (x0 : Nat) (x1 : Nat) (x2 : Int32) (x3 : Int32) (cM ct cx0 cx1 cx2 cx3 : Nat), M = dM cM → tl = i64 ct → x0 = cx0 → x1 = cx1 → x2 = nI cx2 → x3 = nI cx3 → cbk4 cM ct cx0 cx1 cx2 cx3 = true → bk4 M tl x0 x1 x2 x3) {M : MM} {tl : Int64} {v0 : Nat} {v1 : Nat} {v2 : Int32} {v3 : Int32} {cM ct cv0 cv1 cv2 cv3 : Nat} (hM : M = dM cM) (ht : tl = i64 ct) (hv0 : v0 = cv0) (hv1 : v1 = cv1) (hv2 : v2 = nI cv2) (hv3 : v3 = nI cv3) (h : eX1_unevenLots_55 q cbk4 cM ct cv0 cv1 cv2 cv3 = true) : wX1_unevenLots_55 post bk4 M tl v0 v1 v2 v3 := by
  unfold wX1_unevenLots_55
  exact hbk4 _ _ _ _ _ _ _ _ _ _ _ _ hM ht hv0 hv1 hv2 (r_add hv3 (rfl : (1 : Int32) = nI 1)) h
noncomputable def eX1_unevenLots_4 (q : Nat → Nat → Nat → Bool) (n : Nat) : Nat → Nat → Nat → Nat → Nat → Nat → Bool :=
  @Nat.rec (fun _ => Nat → Nat → Nat → Nat → Nat → Nat → Bool) (fun _ _ _ _ _ _ => false) (fun _ ih cM ct cv0 cv1 cv2 cv3 => (@Bool.rec (fun _ => Bool) false (@Bool.rec (fun _ => Bool) (@Bool.rec (fun _ => Bool) false (epX1_matchOf (fun cr5 cM3 ct4 => (@Bool.rec (fun _ => Bool) (epX10_slot (fun cr8 cM6 ct7 => (@Bool.rec (fun _ => Bool) false (@Bool.rec (fun _ => Bool) false (epX10_slot (fun cr13 cM11 ct12 => (@Bool.rec (fun _ => Bool) false (@Bool.rec (fun _ => Bool) false (@Bool.rec (fun _ => Bool) false (epX1_isEven (fun cr19 cM17 ct18 => (@Bool.rec (fun _ => Bool) (eX1_unevenLots_55 q ih cM17 ct18 cv0 cv1 cv2 cv3) (eX1_unevenLots_55 q ih cM17 ct18 cv0 cv1 (Nat.lor cv2 (b2 f_shl 1 cv3)) cv3) (eqN cr19 0))) cM11 ct12 cv0 (rd cM6 cv1 (tN cr8)) (rd cM11 cv1 (tN cr13))) (kdB cv0 1)) (inN cr13 (alF cv1))) (kdB cv1 12))) cM6 ct7 1 cr5) (inN cr8 (alF cv1))) (kdB cv1 12))) cM3 ct4 0 cv3) (eX1_unevenLots_55 q ih cM3 ct4 cv0 cv1 cv2 cv3) (eqN cr5 4294967292))) cM ct cv0 0 cv3) (kdB cv0 1)) (q cv2 cM ct) (leN (rd cM cv0 0) cv3)) (kdB cv0 1))) n
set_option maxHeartbeats 4000000 in
set_option maxRecDepth 20000 in
theorem sX1_unevenLots_4 {post : Int32 → MM → Int64 → Prop} {q : Nat → Nat → Nat → Bool} (hq : ∀ (r : Int32) (M : MM) (tl : Int64) (cr cM ct : Nat), r = nI cr → M = dM cM → tl = i64 ct → q cr cM ct = true → post r M tl) : ∀ (n : Nat) (M : MM) (tl : Int64) (v0 : Nat) (v1 : Nat) (v2 : Int32) (v3 : Int32) (cM ct cv0 cv1 cv2 cv3 : Nat), M = dM cM → tl = i64 ct → v0 = cv0 → v1 = cv1 → v2 = nI cv2 → v3 = nI cv3 → eX1_unevenLots_4 q  n cM ct cv0 cv1 cv2 cv3 = true → wX1_unevenLots_4 post  n M tl v0 v1 v2 v3 := by
  intro n
  induction n with
  | zero => intro M tl v0 v1 v2 v3 cM ct cv0 cv1 cv2 cv3 hM ht hv0 hv1 hv2 hv3 h; exact Bool.noConfusion h
  | succ n ih =>
    intro M tl v0 v1 v2 v3 cM ct cv0 cv1 cv2 cv3 hM ht hv0 hv1 hv2 hv3 h
    unfold wX1_unevenLots_4
    have h : (@Bool.rec (fun _ => Bool) false (@Bool.rec (fun _ => Bool) (@Bool.rec (fun _ => Bool) false (epX1_matchOf (fun cr5 cM3 ct4 => (@Bool.rec (fun _ => Bool) (epX10_slot (fun cr8 cM6 ct7 => (@Bool.rec (fun _ => Bool) false (@Bool.rec (fun _ => Bool) false (epX10_slot (fun cr13 cM11 ct12 => (@Bool.rec (fun _ => Bool) false (@Bool.rec (fun _ => Bool) false (@Bool.rec (fun _ => Bool) false (epX1_isEven (fun cr19 cM17 ct18 => (@Bool.rec (fun _ => Bool) (eX1_unevenLots_55 q (eX1_unevenLots_4 q  n) cM17 ct18 cv0 cv1 cv2 cv3) (eX1_unevenLots_55 q (eX1_unevenLots_4 q  n) cM17 ct18 cv0 cv1 (Nat.lor cv2 (b2 f_shl 1 cv3)) cv3) (eqN cr19 0))) cM11 ct12 cv0 (rd cM6 cv1 (tN cr8)) (rd cM11 cv1 (tN cr13))) (kdB cv0 1)) (inN cr13 (alF cv1))) (kdB cv1 12))) cM6 ct7 1 cr5) (inN cr8 (alF cv1))) (kdB cv1 12))) cM3 ct4 0 cv3) (eX1_unevenLots_55 q (eX1_unevenLots_4 q  n) cM3 ct4 cv0 cv1 cv2 cv3) (eqN cr5 4294967292))) cM ct cv0 0 cv3) (kdB cv0 1)) (q cv2 cM ct) (leN (rd cM cv0 0) cv3)) (kdB cv0 1)) = true := h
    refine e_and (k_kd hv0) h (fun h => ?_)
    refine e_ite (c_le (r_rd hM hv0 (rfl : (0 : Nat) = 0)) hv3) h (fun h => ?_) (fun h => ?_)
    · exact hq _ _ _ _ _ _ hv2 hM ht h
    · refine e_and (k_kd hv0) h (fun h => ?_)
      refine spX1_matchOf (fun r5 M3 t4 cr5 cM3 ct4 hr5 hM3 ht4 h => ?_) hM ht hv0 (rfl : (0 : Int32) = nI 0) hv3 h
      refine e_ite (c_eq hr5 lm4) h (fun h => ?_) (fun h => ?_)
      · exact sX1_unevenLots_55 hq ih hM3 ht4 hv0 hv1 hv2 hv3 h
      · refine spX10_slot (fun r8 M6 t7 cr8 cM6 ct7 hr8 hM6 ht7 h => ?_) hM3 ht4 (rfl : (0 : Int32) = nI 0) hv3 h
        refine e_and (k_kd hv1) h (fun h => ?_)
        refine e_and (k_in hr8 (r_al hv1)) h (fun h => ?_)
        refine spX10_slot (fun r13 M11 t12 cr13 cM11 ct12 hr13 hM11 ht12 h => ?_) hM6 ht7 (rfl : (1 : Int32) = nI 1) hr5 h
        refine e_and (k_kd hv1) h (fun h => ?_)
        refine e_and (k_in hr13 (r_al hv1)) h (fun h => ?_)
        refine e_and (k_kd hv0) h (fun h => ?_)
        refine spX1_isEven (fun r19 M17 t18 cr19 cM17 ct18 hr19 hM17 ht18 h => ?_) hM11 ht12 hv0 (r_rd hM6 hv1 (r_nat hr8)) (r_rd hM11 hv1 (r_nat hr13)) h
        refine e_ite (c_eq hr19 (rfl : (0 : Int32) = nI 0)) h (fun h => ?_) (fun h => ?_)
        · exact sX1_unevenLots_55 hq ih hM17 ht18 hv0 hv1 (r_or hv2 (r_b2 f_shl (rfl : (1 : Int32) = nI 1) hv3)) hv3 h
        · exact sX1_unevenLots_55 hq ih hM17 ht18 hv0 hv1 hv2 hv3 h
noncomputable def epX1_unevenLots (q : Nat → Nat → Nat → Bool) (cM ct cv0 cv1 : Nat) : Bool :=
  (eX1_unevenLots_4 q  5000 cM ct cv0 cv1 0 0)
set_option maxHeartbeats 4000000 in
set_option maxRecDepth 20000 in
theorem spX1_unevenLots {post : Int32 → MM → Int64 → Prop} {q : Nat → Nat → Nat → Bool} (hq : ∀ (r : Int32) (M : MM) (tl : Int64) (cr cM ct : Nat), r = nI cr → M = dM cM → tl = i64 ct → q cr cM ct = true → post r M tl) {M : MM} {tl : Int64} {v0 : Nat} {v1 : Nat} {cM ct cv0 cv1 : Nat} (hM : M = dM cM) (ht : tl = i64 ct) (hv0 : v0 = cv0) (hv1 : v1 = cv1) (h : epX1_unevenLots q  cM ct cv0 cv1 = true) : wpX1_unevenLots post  M tl v0 v1 := by
  unfold wpX1_unevenLots
  exact ⟨5000, sX1_unevenLots_4 hq  5000 _ _ _ _ _ _ _ _ _ _ _ _ hM ht hv0 hv1 (rfl : (0 : Int32) = nI 0) (rfl : (0 : Int32) = nI 0) h⟩
noncomputable def epX10_isThing (q : Nat → Nat → Nat → Bool) (cM ct cv0 : Nat) : Bool :=
  (@Bool.rec (fun _ => Bool) (@Bool.rec (fun _ => Bool) (@Bool.rec (fun _ => Bool) (epX10_isBuilt (fun cr3 cM1 ct2 => (@Bool.rec (fun _ => Bool) (q 1 cM1 ct2) (q 0 cM1 ct2) (eqN cr3 0))) cM ct (Nat.land cv0 7)) (q 0 cM ct) (leN 64 cv0)) (q 0 cM ct) (leN cv0 0)) (q 1 cM ct) (eqN cv0 0))
set_option maxHeartbeats 4000000 in
set_option maxRecDepth 20000 in
theorem spX10_isThing {post : Int32 → MM → Int64 → Prop} {q : Nat → Nat → Nat → Bool} (hq : ∀ (r : Int32) (M : MM) (tl : Int64) (cr cM ct : Nat), r = nI cr → M = dM cM → tl = i64 ct → q cr cM ct = true → post r M tl) {M : MM} {tl : Int64} {v0 : Int32} {cM ct cv0 : Nat} (hM : M = dM cM) (ht : tl = i64 ct) (hv0 : v0 = nI cv0) (h : epX10_isThing q  cM ct cv0 = true) : wpX10_isThing post  M tl v0 := by
  unfold wpX10_isThing
  refine e_ite (c_eq hv0 (rfl : (0 : Int32) = nI 0)) h (fun h => ?_) (fun h => ?_)
  · exact hq _ _ _ _ _ _ (rfl : (1 : Int32) = nI 1) hM ht h
  · refine e_ite (c_le hv0 (rfl : (0 : Int32) = nI 0)) h (fun h => ?_) (fun h => ?_)
    · exact hq _ _ _ _ _ _ (rfl : (0 : Int32) = nI 0) hM ht h
    · refine e_ite (c_le (rfl : (64 : Int32) = nI 64) hv0) h (fun h => ?_) (fun h => ?_)
      · exact hq _ _ _ _ _ _ (rfl : (0 : Int32) = nI 0) hM ht h
      · refine spX10_isBuilt (fun r3 M1 t2 cr3 cM1 ct2 hr3 hM1 ht2 h => ?_) hM ht (r_and hv0 (rfl : (7 : Int32) = nI 7)) h
        refine e_ite (c_eq hr3 (rfl : (0 : Int32) = nI 0)) h (fun h => ?_) (fun h => ?_)
        · exact hq _ _ _ _ _ _ (rfl : (0 : Int32) = nI 0) hM1 ht2 h
        · exact hq _ _ _ _ _ _ (rfl : (1 : Int32) = nI 1) hM1 ht2 h
noncomputable def epX10_isSheet (q : Nat → Nat → Nat → Bool) (cM ct cv0 : Nat) : Bool :=
  (@Bool.rec (fun _ => Bool) (@Bool.rec (fun _ => Bool) (q 1 cM ct) (q 0 cM ct) (leN 4 cv0)) (q 0 cM ct) (ltN cv0 0))
set_option maxHeartbeats 4000000 in
set_option maxRecDepth 20000 in
theorem spX10_isSheet {post : Int32 → MM → Int64 → Prop} {q : Nat → Nat → Nat → Bool} (hq : ∀ (r : Int32) (M : MM) (tl : Int64) (cr cM ct : Nat), r = nI cr → M = dM cM → tl = i64 ct → q cr cM ct = true → post r M tl) {M : MM} {tl : Int64} {v0 : Int32} {cM ct cv0 : Nat} (hM : M = dM cM) (ht : tl = i64 ct) (hv0 : v0 = nI cv0) (h : epX10_isSheet q  cM ct cv0 = true) : wpX10_isSheet post  M tl v0 := by
  unfold wpX10_isSheet
  refine e_ite (c_lt hv0 (rfl : (0 : Int32) = nI 0)) h (fun h => ?_) (fun h => ?_)
  · exact hq _ _ _ _ _ _ (rfl : (0 : Int32) = nI 0) hM ht h
  · refine e_ite (c_le (rfl : (4 : Int32) = nI 4) hv0) h (fun h => ?_) (fun h => ?_)
    · exact hq _ _ _ _ _ _ (rfl : (0 : Int32) = nI 0) hM ht h
    · exact hq _ _ _ _ _ _ (rfl : (1 : Int32) = nI 1) hM ht h
noncomputable def epX10_isLane (q : Nat → Nat → Nat → Bool) (cM ct cv0 : Nat) : Bool :=
  (@Bool.rec (fun _ => Bool) (@Bool.rec (fun _ => Bool) (q 1 cM ct) (q 0 cM ct) (leN 3 cv0)) (q 0 cM ct) (ltN cv0 0))
set_option maxHeartbeats 4000000 in
set_option maxRecDepth 20000 in
theorem spX10_isLane {post : Int32 → MM → Int64 → Prop} {q : Nat → Nat → Nat → Bool} (hq : ∀ (r : Int32) (M : MM) (tl : Int64) (cr cM ct : Nat), r = nI cr → M = dM cM → tl = i64 ct → q cr cM ct = true → post r M tl) {M : MM} {tl : Int64} {v0 : Int32} {cM ct cv0 : Nat} (hM : M = dM cM) (ht : tl = i64 ct) (hv0 : v0 = nI cv0) (h : epX10_isLane q  cM ct cv0 = true) : wpX10_isLane post  M tl v0 := by
  unfold wpX10_isLane
  refine e_ite (c_lt hv0 (rfl : (0 : Int32) = nI 0)) h (fun h => ?_) (fun h => ?_)
  · exact hq _ _ _ _ _ _ (rfl : (0 : Int32) = nI 0) hM ht h
  · refine e_ite (c_le (rfl : (3 : Int32) = nI 3) hv0) h (fun h => ?_) (fun h => ?_)
    · exact hq _ _ _ _ _ _ (rfl : (0 : Int32) = nI 0) hM ht h
    · exact hq _ _ _ _ _ _ (rfl : (1 : Int32) = nI 1) hM ht h
