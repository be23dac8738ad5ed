noncomputable def euX1_setFirst_56 (q : Nat → Nat → Bool) (cbk42 : Nat → Nat → Nat → Nat → Bool) (n : Nat) : Nat → Nat → Nat → Nat → Nat → Bool :=
  @Nat.rec (fun _ => Nat → Nat → Nat → Nat → Nat → Bool) (fun _ _ _ _ _ => false) (fun _ ih cM ct cv0 cv1 cv2 => (@Bool.rec (fun _ => Bool) (@Bool.rec (fun _ => Bool) false (@Bool.rec (fun _ => Bool) false (@Bool.rec (fun _ => Bool) false (@Bool.rec (fun _ => Bool) false (@Bool.rec (fun _ => Bool) false (wrB (fun cM6 => (@Bool.rec (fun _ => Bool) false (@Bool.rec (fun _ => Bool) false (@Bool.rec (fun _ => Bool) false (@Bool.rec (fun _ => Bool) false (@Bool.rec (fun _ => Bool) false (wrB (fun cM12 => (ih cM12 ct cv0 cv1 (aN cv2 1))) cM6 (Nat.add (Nat.add (Nat.add cv0 5) 1) (tN cv1)) (tN cv2) 3) (inN cv2 (alF (Nat.add (Nat.add (Nat.add cv0 5) 1) (tN cv1))))) (kdSB 3 11 (Nat.add (Nat.add (Nat.add cv0 5) 1) (tN cv1)) 12)) (inN cv1 2)) (kdSB 3 11 (Nat.add cv0 5) 16)) (kdSB 3 11 cv0 1))) cM (Nat.add (Nat.add (Nat.add cv0 2) 1) (tN cv1)) (tN cv2) 5) (inN cv2 (alF (Nat.add (Nat.add (Nat.add cv0 2) 1) (tN cv1))))) (kdSB 3 11 (Nat.add (Nat.add (Nat.add cv0 2) 1) (tN cv1)) 12)) (inN cv1 2)) (kdSB 3 11 (Nat.add cv0 2) 16)) (kdSB 3 11 cv0 1)) (cbk42 cM ct cv0 (aN cv1 1)) (leN 6 cv2))) n
set_option maxHeartbeats 4000000 in
set_option maxRecDepth 20000 in
theorem suX1_setFirst_56 {post : MM → Int64 → Prop} {q : Nat → Nat → Bool} (hq : ∀ (M : MM) (tl : Int64) (cM ct : Nat), M = dM cM → tl = i64 ct → q cM ct = true → post M tl) {bk42 : MM → Int64 → Nat → Int32 → Prop} {cbk42 : Nat → Nat → Nat → Nat → Bool} (hbk42 : ∀ (M : MM) (tl : Int64) (x0 : Nat) (x1 : Int32) (cM ct cx0 cx1 : Nat), M = dM cM → tl = i64 ct → x0 = cx0 → x1 = nI cx1 → cbk42 cM ct cx0 cx1 = true → bk42 M tl x0 x1) : ∀ (n : Nat) (M : MM) (tl : Int64) (v0 : Nat) (v1 : Int32) (v2 : Int32) (cM ct cv0 cv1 cv2 : Nat), M = dM cM → tl = i64 ct → v0 = cv0 → v1 = nI cv1 → v2 = nI cv2 → euX1_setFirst_56 q cbk42 n cM ct cv0 cv1 cv2 = true → uX1_setFirst_56 post bk42 n M tl v0 v1 v2 := by
  intro n
  induction n with
  | zero => intro M tl v0 v1 v2 cM ct cv0 cv1 cv2 hM ht hv0 hv1 hv2 h; exact Bool.noConfusion h
  | succ n ih =>
    intro M tl v0 v1 v2 cM ct cv0 cv1 cv2 hM ht hv0 hv1 hv2 h
    unfold uX1_setFirst_56
    refine e_ite (c_le (rfl : (6 : Int32) = nI 6) hv2) h (fun h => ?_) (fun h => ?_)
    · exact hbk42 _ _ _ _ _ _ _ _ hM ht hv0 (r_add hv1 (rfl : (1 : Int32) = nI 1)) h
    · refine e_and (k_kds hv0) h (fun h => ?_)
      refine e_and (k_kds (n_add hv0 (rfl : (2 : Nat) = 2))) h (fun h => ?_)
      refine e_and (k_in hv1 (rfl : (2 : Nat) = 2)) h (fun h => ?_)
      refine e_and (k_kds (n_add (n_add (n_add hv0 (rfl : (2 : Nat) = 2)) (rfl : (1 : Nat) = 1)) (r_nat hv1))) h (fun h => ?_)
      refine e_and (k_in hv2 (r_al (n_add (n_add (n_add hv0 (rfl : (2 : Nat) = 2)) (rfl : (1 : Nat) = 1)) (r_nat hv1)))) h (fun h => ?_)
      refine e_wr h hM (n_add (n_add (n_add hv0 (rfl : (2 : Nat) = 2)) (rfl : (1 : Nat) = 1)) (r_nat hv1)) (r_nat hv2) (rfl : (5 : Int32) = nI 5) (fun M6 cM6 hM6 h => ?_)
      refine e_and (k_kds hv0) h (fun h => ?_)
      refine e_and (k_kds (n_add hv0 (rfl : (5 : Nat) = 5))) h (fun h => ?_)
      refine e_and (k_in hv1 (rfl : (2 : Nat) = 2)) h (fun h => ?_)
      refine e_and (k_kds (n_add (n_add (n_add hv0 (rfl : (5 : Nat) = 5)) (rfl : (1 : Nat) = 1)) (r_nat hv1))) h (fun h => ?_)
      refine e_and (k_in hv2 (r_al (n_add (n_add (n_add hv0 (rfl : (5 : Nat) = 5)) (rfl : (1 : Nat) = 1)) (r_nat hv1)))) h (fun h => ?_)
      refine e_wr h hM6 (n_add (n_add (n_add hv0 (rfl : (5 : Nat) = 5)) (rfl : (1 : Nat) = 1)) (r_nat hv1)) (r_nat hv2) (rfl : (3 : Int32) = nI 3) (fun M12 cM12 hM12 h => ?_)
      exact ih _ _ _ _ _ _ _ _ _ _ hM12 ht hv0 hv1 (r_add hv2 (rfl : (1 : Int32) = nI 1)) h
noncomputable def euX1_setFirst_115 (q : Nat → Nat → Bool) (n : Nat) : Nat → Nat → Nat → Nat → Bool :=
  @Nat.rec (fun _ => Nat → Nat → Nat → Nat → Bool) (fun _ _ _ _ => false) (fun _ ih cM ct cv0 cv1 => (@Bool.rec (fun _ => Bool) (@Bool.rec (fun _ => Bool) false (@Bool.rec (fun _ => Bool) false (@Bool.rec (fun _ => Bool) false (wrB (fun cM4 => (ih cM4 ct cv0 (aN cv1 1))) cM (Nat.add cv0 10) (tN cv1) cv1) (inN cv1 (alF (Nat.add cv0 10)))) (kdSB 3 11 (Nat.add cv0 10) 12)) (kdSB 3 11 cv0 1)) (q cM ct) (leN 4 cv1))) n
set_option maxHeartbeats 4000000 in
set_option maxRecDepth 20000 in
theorem suX1_setFirst_115 {post : MM → Int64 → Prop} {q : Nat → Nat → Bool} (hq : ∀ (M : MM) (tl : Int64) (cM ct : Nat), M = dM cM → tl = i64 ct → q cM ct = true → post M tl) : ∀ (n : Nat) (M : MM) (tl : Int64) (v0 : Nat) (v1 : Int32) (cM ct cv0 cv1 : Nat), M = dM cM → tl = i64 ct → v0 = cv0 → v1 = nI cv1 → euX1_setFirst_115 q  n cM ct cv0 cv1 = true → uX1_setFirst_115 post  n M tl v0 v1 := by
  intro n
  induction n with
  | zero => intro M tl v0 v1 cM ct cv0 cv1 hM ht hv0 hv1 h; exact Bool.noConfusion h
  | succ n ih =>
    intro M tl v0 v1 cM ct cv0 cv1 hM ht hv0 hv1 h
    unfold uX1_setFirst_115
    refine e_ite (c_le (rfl : (4 : Int32) = nI 4) hv1) h (fun h => ?_) (fun h => ?_)
    · exact hq _ _ _ _ hM ht h
    · refine e_and (k_kds hv0) h (fun h => ?_)
      refine e_and (k_kds (n_add hv0 (rfl : (10 : Nat) = 10))) h (fun h => ?_)
      refine e_and (k_in hv1 (r_al (n_add hv0 (rfl : (10 : Nat) = 10)))) h (fun h => ?_)
      refine e_wr h hM (n_add hv0 (rfl : (10 : Nat) = 10)) (r_nat hv1) hv1 (fun M4 cM4 hM4 h => ?_)
      exact ih _ _ _ _ _ _ _ _ hM4 ht hv0 (r_add hv1 (rfl : (1 : Int32) = nI 1)) h
noncomputable def euX1_setFirst_94 (q : Nat → Nat → Bool) (n : Nat) : Nat → Nat → Nat → Nat → Bool :=
  @Nat.rec (fun _ => Nat → Nat → Nat → Nat → Bool) (fun _ _ _ _ => false) (fun _ ih cM ct cv0 cv1 => (@Bool.rec (fun _ => Bool) (@Bool.rec (fun _ => Bool) false (@Bool.rec (fun _ => Bool) false (@Bool.rec (fun _ => Bool) false (wrB (fun cM4 => (ih cM4 ct cv0 (aN cv1 1))) cM (Nat.add cv0 9) (tN cv1) cv1) (inN cv1 (alF (Nat.add cv0 9)))) (kdSB 3 11 (Nat.add cv0 9) 12)) (kdSB 3 11 cv0 1)) (euX1_setFirst_115 q  5000 cM ct cv0 0) (leN 6 cv1))) n
set_option maxHeartbeats 4000000 in
set_option maxRecDepth 20000 in
theorem suX1_setFirst_94 {post : MM → Int64 → Prop} {q : Nat → Nat → Bool} (hq : ∀ (M : MM) (tl : Int64) (cM ct : Nat), M = dM cM → tl = i64 ct → q cM ct = true → post M tl) : ∀ (n : Nat) (M : MM) (tl : Int64) (v0 : Nat) (v1 : Int32) (cM ct cv0 cv1 : Nat), M = dM cM → tl = i64 ct → v0 = cv0 → v1 = nI cv1 → euX1_setFirst_94 q  n cM ct cv0 cv1 = true → uX1_setFirst_94 post  n M tl v0 v1 := by
  intro n
  induction n with
  | zero => intro M tl v0 v1 cM ct cv0 cv1 hM ht hv0 hv1 h; exact Bool.noConfusion h
  | succ n ih =>
    intro M tl v0 v1 cM ct cv0 cv1 hM ht hv0 hv1 h
    unfold uX1_setFirst_94
    refine e_ite (c_le (rfl : (6 : Int32) = nI 6) hv1) h (fun h => ?_) (fun h => ?_)
    · exact ⟨5000, suX1_setFirst_115 hq  5000 _ _ _ _ _ _ _ _ hM ht hv0 (rfl : (0 : Int32) = nI 0) h⟩
    · refine e_and (k_kds hv0) h (fun h => ?_)
      refine e_and (k_kds (n_add hv0 (rfl : (9 : Nat) = 9))) h (fun h => ?_)
      refine e_and (k_in hv1 (r_al (n_add hv0 (rfl : (9 : Nat) = 9)))) h (fun h => ?_)
      refine e_wr h hM (n_add hv0 (rfl : (9 : Nat) = 9)) (r_nat hv1) hv1 (fun M4 cM4 hM4 h => ?_)
      exact ih _ _ _ _ _ _ _ _ hM4 ht hv0 (r_add hv1 (rfl : (1 : Int32) = nI 1)) h
noncomputable def euX1_setFirst_42 (q : Nat → Nat → Bool) (n : Nat) : Nat → Nat → Nat → Nat → Bool :=
  @Nat.rec (fun _ => Nat → Nat → Nat → Nat → Bool) (fun _ _ _ _ => false) (fun _ ih cM ct cv0 cv1 => (@Bool.rec (fun _ => Bool) (@Bool.rec (fun _ => Bool) false (@Bool.rec (fun _ => Bool) false (@Bool.rec (fun _ => Bool) false (wrB (fun cM4 => (euX1_setFirst_56 q ih 5000 cM4 ct cv0 cv1 1)) cM (Nat.add cv0 8) (tN cv1) 0) (inN cv1 (alF (Nat.add cv0 8)))) (kdSB 3 11 (Nat.add cv0 8) 12)) (kdSB 3 11 cv0 1)) (euX1_setFirst_94 q  5000 cM ct cv0 0) (leN 2 cv1))) n
set_option maxHeartbeats 4000000 in
set_option maxRecDepth 20000 in
theorem suX1_setFirst_42 {post : MM → Int64 → Prop} {q : Nat → Nat → Bool} (hq : ∀ (M : MM) (tl : Int64) (cM ct : Nat), M = dM cM → tl = i64 ct → q cM ct = true → post M tl) : ∀ (n : Nat) (M : MM) (tl : Int64) (v0 : Nat) (v1 : Int32) (cM ct cv0 cv1 : Nat), M = dM cM → tl = i64 ct → v0 = cv0 → v1 = nI cv1 → euX1_setFirst_42 q  n cM ct cv0 cv1 = true → uX1_setFirst_42 post  n M tl v0 v1 := by
  intro n
  induction n with
  | zero => intro M tl v0 v1 cM ct cv0 cv1 hM ht hv0 hv1 h; exact Bool.noConfusion h
  | succ n ih =>
    intro M tl v0 v1 cM ct cv0 cv1 hM ht hv0 hv1 h
    unfold uX1_setFirst_42
    refine e_ite (c_le (rfl : (2 : Int32) = nI 2) hv1) h (fun h => ?_) (fun h => ?_)
    · exact ⟨5000, suX1_setFirst_94 hq  5000 _ _ _ _ _ _ _ _ hM ht hv0 (rfl : (0 : Int32) = nI 0) h⟩
    · refine e_and (k_kds hv0) h (fun h => ?_)
      refine e_and (k_kds (n_add hv0 (rfl : (8 : Nat) = 8))) h (fun h => ?_)
      refine e_and (k_in hv1 (r_al (n_add hv0 (rfl : (8 : Nat) = 8)))) h (fun h => ?_)
      refine e_wr h hM (n_add hv0 (rfl : (8 : Nat) = 8)) (r_nat hv1) (rfl : (0 : Int32) = nI 0) (fun M4 cM4 hM4 h => ?_)
      exact ⟨5000, suX1_setFirst_56 hq ih 5000 _ _ _ _ _ _ _ _ _ _ hM4 ht hv0 hv1 (rfl : (1 : Int32) = nI 1) h⟩
noncomputable def euX1_setFirst_22 (q : Nat → Nat → Bool) (n : Nat) : Nat → Nat → Nat → Nat → Bool :=
  @Nat.rec (fun _ => Nat → Nat → Nat → Nat → Bool) (fun _ _ _ _ => false) (fun _ ih cM ct cv0 cv1 => (@Bool.rec (fun _ => Bool) (@Bool.rec (fun _ => Bool) false (@Bool.rec (fun _ => Bool) false (@Bool.rec (fun _ => Bool) false (wrB (fun cM4 => (ih cM4 ct cv0 (aN cv1 1))) cM (Nat.add cv0 1) (tN cv1) 1) (inN cv1 (alF (Nat.add cv0 1)))) (kdSB 3 11 (Nat.add cv0 1) 12)) (kdSB 3 11 cv0 1)) (euX1_setFirst_42 q  5000 cM ct cv0 0) (leN 4 cv1))) n
set_option maxHeartbeats 4000000 in
set_option maxRecDepth 20000 in
theorem suX1_setFirst_22 {post : MM → Int64 → Prop} {q : Nat → Nat → Bool} (hq : ∀ (M : MM) (tl : Int64) (cM ct : Nat), M = dM cM → tl = i64 ct → q cM ct = true → post M tl) : ∀ (n : Nat) (M : MM) (tl : Int64) (v0 : Nat) (v1 : Int32) (cM ct cv0 cv1 : Nat), M = dM cM → tl = i64 ct → v0 = cv0 → v1 = nI cv1 → euX1_setFirst_22 q  n cM ct cv0 cv1 = true → uX1_setFirst_22 post  n M tl v0 v1 := by
  intro n
  induction n with
  | zero => intro M tl v0 v1 cM ct cv0 cv1 hM ht hv0 hv1 h; exact Bool.noConfusion h
  | succ n ih =>
    intro M tl v0 v1 cM ct cv0 cv1 hM ht hv0 hv1 h
    unfold uX1_setFirst_22
    refine e_ite (c_le (rfl : (4 : Int32) = nI 4) hv1) h (fun h => ?_) (fun h => ?_)
    · exact ⟨5000, suX1_setFirst_42 hq  5000 _ _ _ _ _ _ _ _ hM ht hv0 (rfl : (0 : Int32) = nI 0) h⟩
    · refine e_and (k_kds hv0) h (fun h => ?_)
      refine e_and (k_kds (n_add hv0 (rfl : (1 : Nat) = 1))) h (fun h => ?_)
      refine e_and (k_in hv1 (r_al (n_add hv0 (rfl : (1 : Nat) = 1)))) h (fun h => ?_)
      refine e_wr h hM (n_add hv0 (rfl : (1 : Nat) = 1)) (r_nat hv1) (rfl : (1 : Int32) = nI 1) (fun M4 cM4 hM4 h => ?_)
      exact ih _ _ _ _ _ _ _ _ hM4 ht hv0 (r_add hv1 (rfl : (1 : Int32) = nI 1)) h
noncomputable def eupX1_setFirst (q : Nat → Nat → Bool) (cM ct cv0 : Nat) : Bool :=
  (@Bool.rec (fun _ => Bool) false (wrB (fun cM2 => (@Bool.rec (fun _ => Bool) false (wrB (fun cM4 => (@Bool.rec (fun _ => Bool) false (wrB (fun cM6 => (@Bool.rec (fun _ => Bool) false (wrB (fun cM8 => (euX1_setFirst_22 q  5000 cM8 ct cv0 0)) cM6 cv0 3 0) (kdSB 3 11 cv0 1))) cM4 cv0 2 1) (kdSB 3 11 cv0 1))) cM2 cv0 1 3) (kdSB 3 11 cv0 1))) cM cv0 0 5) (kdSB 3 11 cv0 1))
set_option maxHeartbeats 4000000 in
set_option maxRecDepth 20000 in
theorem supX1_setFirst {post : MM → Int64 → Prop} {q : Nat → Nat → Bool} (hq : ∀ (M : MM) (tl : Int64) (cM ct : Nat), M = dM cM → tl = i64 ct → q cM ct = true → post M tl) {M : MM} {tl : Int64} {v0 : Nat} {cM ct cv0 : Nat} (hM : M = dM cM) (ht : tl = i64 ct) (hv0 : v0 = cv0) (h : eupX1_setFirst q  cM ct cv0 = true) : upX1_setFirst post  M tl v0 := by
  unfold upX1_setFirst
  refine e_and (k_kds hv0) h (fun h => ?_)
  refine e_wr h hM hv0 (rfl : (0 : Nat) = 0) (rfl : (5 : Int32) = nI 5) (fun M2 cM2 hM2 h => ?_)
  refine e_and (k_kds hv0) h (fun h => ?_)
  refine e_wr h hM2 hv0 (rfl : (1 : Nat) = 1) (rfl : (3 : Int32) = nI 3) (fun M4 cM4 hM4 h => ?_)
  refine e_and (k_kds hv0) h (fun h => ?_)
  refine e_wr h hM4 hv0 (rfl : (2 : Nat) = 2) (rfl : (1 : Int32) = nI 1) (fun M6 cM6 hM6 h => ?_)
  refine e_and (k_kds hv0) h (fun h => ?_)
  refine e_wr h hM6 hv0 (rfl : (3 : Nat) = 3) (rfl : (0 : Int32) = nI 0) (fun M8 cM8 hM8 h => ?_)
  exact ⟨5000, suX1_setFirst_22 hq  5000 _ _ _ _ _ _ _ _ hM8 ht hv0 (rfl : (0 : Int32) = nI 0) h⟩
