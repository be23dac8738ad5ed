noncomputable def epX5_isFull (q : Nat → Nat → Nat → Bool) (cM ct cv0 : Nat) : Bool :=
  (@Bool.rec (fun _ => Bool) false (@Bool.rec (fun _ => Bool) false (@Bool.rec (fun _ => Bool) (q 1 cM ct) (q 0 cM ct) (ltN (rd cM cv0 3) (alF cv0))) (kdB cv0 5)) (kdB cv0 5))
set_option maxHeartbeats 4000000 in
set_option maxRecDepth 20000 in
theorem spX5_isFull {post : Int32 → MM → Int64 → Prop} {q : Nat → Nat → Nat → Bool} (hq : ∀ (r : Int32) (M : MM) (tl : Int64) (cr cM ct : Nat), r = nI cr → M = dM cM → tl = i64 ct → q cr cM ct = true → post r M tl) {M : MM} {tl : Int64} {v0 : Nat} {cM ct cv0 : Nat} (hM : M = dM cM) (ht : tl = i64 ct) (hv0 : v0 = cv0) (h : epX5_isFull q  cM ct cv0 = true) : wpX5_isFull post  M tl v0 := by
  unfold wpX5_isFull
  refine e_and (k_kd hv0) h (fun h => ?_)
  refine e_and (k_kd hv0) h (fun h => ?_)
  refine e_ite (c_lt (r_rd hM hv0 (rfl : (3 : Nat) = 3)) (r_nI (r_al hv0))) h (fun h => ?_) (fun h => ?_)
  · exact hq _ _ _ _ _ _ (rfl : (0 : Int32) = nI 0) hM ht h
  · exact hq _ _ _ _ _ _ (rfl : (1 : Int32) = nI 1) hM ht h
noncomputable def epX5_setCell (q : Nat → Nat → Bool) (cM ct cv0 cv1 cv2 cv3 : Nat) : Bool :=
  (@Bool.rec (fun _ => Bool) false (@Bool.rec (fun _ => Bool) (@Bool.rec (fun _ => Bool) false (@Bool.rec (fun _ => Bool) false (@Bool.rec (fun _ => Bool) false (@Bool.rec (fun _ => Bool) false (wrB (fun cM6 => (q cM6 ct)) cM (Nat.add cv0 1) (tN (aN (mN cv1 (wdF cv0)) cv2)) cv3) (inN (aN (mN cv1 (wdF cv0)) cv2) (alF (Nat.add cv0 1)))) (kdB (Nat.add cv0 1) 12)) (kdB cv0 5)) (kdB cv0 5)) (q cM ct) (leN (wdF cv0) cv2)) (kdB cv0 5))
set_option maxHeartbeats 4000000 in
set_option maxRecDepth 20000 in
theorem spX5_setCell {post : MM → Int64 → Prop} {q : Nat → Nat → Bool} (hq : ∀ (M : MM) (tl : Int64) (cM ct : Nat), M = dM cM → tl = i64 ct → q cM ct = true → post M tl) {M : MM} {tl : Int64} {v0 : Nat} {v1 : Int32} {v2 : Int32} {v3 : Int32} {cM ct cv0 cv1 cv2 cv3 : Nat} (hM : M = dM cM) (ht : tl = i64 ct) (hv0 : v0 = cv0) (hv1 : v1 = nI cv1) (hv2 : v2 = nI cv2) (hv3 : v3 = nI cv3) (h : epX5_setCell q  cM ct cv0 cv1 cv2 cv3 = true) : wpX5_setCell post  M tl v0 v1 v2 v3 := by
  unfold wpX5_setCell
  refine e_and (k_kd hv0) h (fun h => ?_)
  refine e_ite (c_le (r_nI (r_wd hv0)) hv2) h (fun h => ?_) (fun h => ?_)
  · exact hq _ _ _ _ hM ht h
  · refine e_and (k_kd hv0) h (fun h => ?_)
    refine e_and (k_kd hv0) h (fun h => ?_)
    refine e_and (k_kd (n_add hv0 (rfl : (1 : Nat) = 1))) h (fun h => ?_)
    refine e_and (k_in (r_add (r_mul hv1 (r_nI (r_wd hv0))) hv2) (r_al (n_add hv0 (rfl : (1 : Nat) = 1)))) h (fun h => ?_)
    refine e_wr h hM (n_add hv0 (rfl : (1 : Nat) = 1)) (r_nat (r_add (r_mul hv1 (r_nI (r_wd hv0))) hv2)) hv3 (fun M6 cM6 hM6 h => ?_)
    exact hq _ _ _ _ hM6 ht h
noncomputable def epX5_addRow (q : Nat → Nat → Bool) (cM ct cv0 cv1 cv2 cv3 cv4 : Nat) : Bool :=
  (@Bool.rec (fun _ => Bool) false (epX5_isFull (fun cr4 cM2 ct3 => (@Bool.rec (fun _ => Bool) (q cM2 ct3) (@Bool.rec (fun _ => Bool) false (@Bool.rec (fun _ => Bool) false (@Bool.rec (fun _ => Bool) false (wrB (fun cM8 => (@Bool.rec (fun _ => Bool) false (epX5_setCell (fun cM10 ct11 => (@Bool.rec (fun _ => Bool) false (epX5_setCell (fun cM13 ct14 => (@Bool.rec (fun _ => Bool) false (epX5_setCell (fun cM16 ct17 => (@Bool.rec (fun _ => Bool) false (epX5_setCell (fun cM19 ct20 => (q cM19 ct20)) cM16 ct17 cv0 (rd cM2 cv0 3) 3 cv4) (kdB cv0 5))) cM13 ct14 cv0 (rd cM2 cv0 3) 2 cv3) (kdB cv0 5))) cM10 ct11 cv0 (rd cM2 cv0 3) 1 cv2) (kdB cv0 5))) cM8 ct3 cv0 (rd cM2 cv0 3) 0 cv1) (kdB cv0 5))) cM2 cv0 3 (aN (rd cM2 cv0 3) 1)) (kdB cv0 5)) (kdB cv0 5)) (kdB cv0 5)) (eqN cr4 0))) cM ct cv0) (kdB cv0 5))
set_option maxHeartbeats 4000000 in
set_option maxRecDepth 20000 in
theorem spX5_addRow {post : MM → Int64 → Prop} {q : Nat → Nat → Bool} (hq : ∀ (M : MM) (tl : Int64) (cM ct : Nat), M = dM cM → tl = i64 ct → q cM ct = true → post M tl) {M : MM} {tl : Int64} {v0 : Nat} {v1 : Int32} {v2 : Int32} {v3 : Int32} {v4 : Int32} {cM ct cv0 cv1 cv2 cv3 cv4 : Nat} (hM : M = dM cM) (ht : tl = i64 ct) (hv0 : v0 = cv0) (hv1 : v1 = nI cv1) (hv2 : v2 = nI cv2) (hv3 : v3 = nI cv3) (hv4 : v4 = nI cv4) (h : epX5_addRow q  cM ct cv0 cv1 cv2 cv3 cv4 = true) : wpX5_addRow post  M tl v0 v1 v2 v3 v4 := by
  unfold wpX5_addRow
  refine e_and (k_kd hv0) h (fun h => ?_)
  refine spX5_isFull (fun r4 M2 t3 cr4 cM2 ct3 hr4 hM2 ht3 h => ?_) hM ht hv0 h
  refine e_ite (c_eq hr4 (rfl : (0 : Int32) = nI 0)) h (fun h => ?_) (fun h => ?_)
  · refine e_and (k_kd hv0) h (fun h => ?_)
    refine e_and (k_kd hv0) h (fun h => ?_)
    refine e_and (k_kd hv0) h (fun h => ?_)
    refine e_wr h hM2 hv0 (rfl : (3 : Nat) = 3) (r_add (r_rd hM2 hv0 (rfl : (3 : Nat) = 3)) (rfl : (1 : Int32) = nI 1)) (fun M8 cM8 hM8 h => ?_)
    refine e_and (k_kd hv0) h (fun h => ?_)
    refine spX5_setCell (fun M10 t11 cM10 ct11 hM10 ht11 h => ?_) hM8 ht3 hv0 (r_rd hM2 hv0 (rfl : (3 : Nat) = 3)) (rfl : (0 : Int32) = nI 0) hv1 h
    refine e_and (k_kd hv0) h (fun h => ?_)
    refine spX5_setCell (fun M13 t14 cM13 ct14 hM13 ht14 h => ?_) hM10 ht11 hv0 (r_rd hM2 hv0 (rfl : (3 : Nat) = 3)) (rfl : (1 : Int32) = nI 1) hv2 h
    refine e_and (k_kd hv0) h (fun h => ?_)
    refine spX5_setCell (fun M16 t17 cM16 ct17 hM16 ht17 h => ?_) hM13 ht14 hv0 (r_rd hM2 hv0 (rfl : (3 : Nat) = 3)) (rfl : (2 : Int32) = nI 2) hv3 h
    refine e_and (k_kd hv0) h (fun h => ?_)
    refine spX5_setCell (fun M19 t20 cM19 ct20 hM19 ht20 h => ?_) hM16 ht17 hv0 (r_rd hM2 hv0 (rfl : (3 : Nat) = 3)) (rfl : (3 : Int32) = nI 3) hv4 h
    exact hq _ _ _ _ hM19 ht20 h
  · exact hq _ _ _ _ hM2 ht3 h
noncomputable def epX5_cell (q : Nat → Nat → Nat → Bool) (cM ct cv0 cv1 cv2 : Nat) : Bool :=
  (@Bool.rec (fun _ => Bool) (@Bool.rec (fun _ => Bool) false (@Bool.rec (fun _ => Bool) (@Bool.rec (fun _ => Bool) (@Bool.rec (fun _ => Bool) false (@Bool.rec (fun _ => Bool) (q 0 cM ct) (@Bool.rec (fun _ => Bool) false (@Bool.rec (fun _ => Bool) false (@Bool.rec (fun _ => Bool) false (@Bool.rec (fun _ => Bool) false (q (rd cM (Nat.add cv0 1) (tN (aN (mN cv1 (wdF cv0)) cv2))) cM ct) (inN (aN (mN cv1 (wdF cv0)) cv2) (alF (Nat.add cv0 1)))) (kdB (Nat.add cv0 1) 12)) (kdB cv0 5)) (kdB cv0 5)) (ltN cv2 (wdF cv0))) (kdB cv0 5)) (q 0 cM ct) (ltN cv2 0)) (q 0 cM ct) (leN (rd cM cv0 3) cv1)) (kdB cv0 5)) (q 0 cM ct) (ltN cv1 0))
set_option maxHeartbeats 4000000 in
set_option maxRecDepth 20000 in
theorem spX5_cell {post : Int32 → MM → Int64 → Prop} {q : Nat → Nat → Nat → Bool} (hq : ∀ (r : Int32) (M : MM) (tl : Int64) (cr cM ct : Nat), r = nI cr → M = dM cM → tl = i64 ct → q cr cM ct = true → post r M tl) {M : MM} {tl : Int64} {v0 : Nat} {v1 : Int32} {v2 : Int32} {cM ct cv0 cv1 cv2 : Nat} (hM : M = dM cM) (ht : tl = i64 ct) (hv0 : v0 = cv0) (hv1 : v1 = nI cv1) (hv2 : v2 = nI cv2) (h : epX5_cell q  cM ct cv0 cv1 cv2 = true) : wpX5_cell post  M tl v0 v1 v2 := by
  unfold wpX5_cell
  refine e_ite (c_lt hv1 (rfl : (0 : Int32) = nI 0)) h (fun h => ?_) (fun h => ?_)
  · exact hq _ _ _ _ _ _ (rfl : (0 : Int32) = nI 0) hM ht h
  · refine e_and (k_kd hv0) h (fun h => ?_)
    refine e_ite (c_le (r_rd hM hv0 (rfl : (3 : Nat) = 3)) hv1) h (fun h => ?_) (fun h => ?_)
    · exact hq _ _ _ _ _ _ (rfl : (0 : Int32) = nI 0) hM ht h
    · refine e_ite (c_lt hv2 (rfl : (0 : Int32) = nI 0)) h (fun h => ?_) (fun h => ?_)
      · exact hq _ _ _ _ _ _ (rfl : (0 : Int32) = nI 0) hM ht h
      · refine e_and (k_kd hv0) h (fun h => ?_)
        refine e_ite (c_lt hv2 (r_nI (r_wd hv0))) h (fun h => ?_) (fun h => ?_)
        · refine e_and (k_kd hv0) h (fun h => ?_)
          refine e_and (k_kd hv0) h (fun h => ?_)
          refine e_and (k_kd (n_add hv0 (rfl : (1 : Nat) = 1))) h (fun h => ?_)
          refine e_and (k_in (r_add (r_mul hv1 (r_nI (r_wd hv0))) hv2) (r_al (n_add hv0 (rfl : (1 : Nat) = 1)))) h (fun h => ?_)
          exact hq _ _ _ _ _ _ (r_rd hM (n_add hv0 (rfl : (1 : Nat) = 1)) (r_nat (r_add (r_mul hv1 (r_nI (r_wd hv0))) hv2))) hM ht h
        · exact hq _ _ _ _ _ _ (rfl : (0 : Int32) = nI 0) hM ht h
noncomputable def epX5_empty (q : Nat → Nat → Nat → Bool) (cM ct cv0 : Nat) : Bool :=
  (@Bool.rec (fun _ => Bool) false (@Bool.rec (fun _ => Bool) false (wrB (fun cM3 => (q (rd cM cv0 3) cM3 ct)) cM cv0 3 0) (kdB cv0 5)) (kdB cv0 5))
set_option maxHeartbeats 4000000 in
set_option maxRecDepth 20000 in
theorem spX5_empty {post : Int32 → MM → Int64 → Prop} {q : Nat → Nat → Nat → Bool} (hq : ∀ (r : Int32) (M : MM) (tl : Int64) (cr cM ct : Nat), r = nI cr → M = dM cM → tl = i64 ct → q cr cM ct = true → post r M tl) {M : MM} {tl : Int64} {v0 : Nat} {cM ct cv0 : Nat} (hM : M = dM cM) (ht : tl = i64 ct) (hv0 : v0 = cv0) (h : epX5_empty q  cM ct cv0 = true) : wpX5_empty post  M tl v0 := by
  unfold wpX5_empty
  refine e_and (k_kd hv0) h (fun h => ?_)
  refine e_and (k_kd hv0) h (fun h => ?_)
  refine e_wr h hM hv0 (rfl : (3 : Nat) = 3) (rfl : (0 : Int32) = nI 0) (fun M3 cM3 hM3 h => ?_)
  exact hq _ _ _ _ _ _ (r_rd hM hv0 (rfl : (3 : Nat) = 3)) hM3 ht h
noncomputable def epX5_copyFrom (q : Nat → Nat → Bool) (cM ct cv0 cv1 : Nat) : Bool :=
  (@Bool.rec (fun _ => Bool) false (@Bool.rec (fun _ => Bool) false (wrB (fun cM3 => (@Bool.rec (fun _ => Bool) false (@Bool.rec (fun _ => Bool) false (@Bool.rec (fun _ => Bool) false (@Bool.rec (fun _ => Bool) false (@Bool.rec (fun _ => Bool) false (@Bool.rec (fun _ => Bool) false (@Bool.rec (fun _ => Bool) false (@Bool.rec (fun _ => Bool) false (@Bool.rec (fun _ => Bool) false (@Bool.rec (fun _ => Bool) false (@Bool.rec (fun _ => Bool) false (cpB (fun cM15 => (q cM15 ct)) cM3 (Nat.add cv1 1) (Nat.add cv0 1) (tN (@Bool.rec (fun _ => Nat) (alF (Nat.add cv0 1)) (alF (Nat.add cv1 1)) (ltN (alF (Nat.add cv1 1)) (alF (Nat.add cv0 1)))))) (Nat.ble (Nat.add (tN 0) (tN (@Bool.rec (fun _ => Nat) (alF (Nat.add cv0 1)) (alF (Nat.add cv1 1)) (ltN (alF (Nat.add cv1 1)) (alF (Nat.add cv0 1)))))) (alF (Nat.add cv0 1)))) (Nat.ble (Nat.add (tN 0) (tN (@Bool.rec (fun _ => Nat) (alF (Nat.add cv0 1)) (alF (Nat.add cv1 1)) (ltN (alF (Nat.add cv1 1)) (alF (Nat.add cv0 1)))))) (alF (Nat.add cv1 1)))) (Bool.not (ltN (@Bool.rec (fun _ => Nat) (alF (Nat.add cv0 1)) (alF (Nat.add cv1 1)) (ltN (alF (Nat.add cv1 1)) (alF (Nat.add cv0 1)))) 0))) (kdB (Nat.add cv0 1) 12)) (kdB (Nat.add cv1 1) 12)) (kdB (Nat.add cv1 1) 12)) (kdB cv1 5)) (kdB (Nat.add cv0 1) 12)) (kdB cv0 5)) (kdB cv0 5)) (kdB cv1 5))) cM cv0 3 (rd cM cv1 3)) (kdB cv0 5)) (kdB cv1 5))
set_option maxHeartbeats 4000000 in
set_option maxRecDepth 20000 in
theorem spX5_copyFrom {post : MM → Int64 → Prop} {q : Nat → Nat → Bool} (hq : ∀ (M : MM) (tl : Int64) (cM ct : Nat), M = dM cM → tl = i64 ct → q cM ct = true → post M tl) {M : MM} {tl : Int64} {v0 : Nat} {v1 : Nat} {cM ct cv0 cv1 : Nat} (hM : M = dM cM) (ht : tl = i64 ct) (hv0 : v0 = cv0) (hv1 : v1 = cv1) (h : epX5_copyFrom q  cM ct cv0 cv1 = true) : wpX5_copyFrom post  M tl v0 v1 := by
  unfold wpX5_copyFrom
  refine e_and (k_kd hv1) h (fun h => ?_)
  refine e_and (k_kd hv0) h (fun h => ?_)
  refine e_wr h hM hv0 (rfl : (3 : Nat) = 3) (r_rd hM hv1 (rfl : (3 : Nat) = 3)) (fun M3 cM3 hM3 h => ?_)
  refine e_and (k_kd hv1) h (fun h => ?_)
  refine e_and (k_kd hv0) h (fun h => ?_)
  refine e_and (k_kd hv0) h (fun h => ?_)
  refine e_and (k_kd (n_add hv0 (rfl : (1 : Nat) = 1))) h (fun h => ?_)
  refine e_and (k_kd hv1) h (fun h => ?_)
  refine e_and (k_kd (n_add hv1 (rfl : (1 : Nat) = 1))) h (fun h => ?_)
  refine e_and (k_kd (n_add hv1 (rfl : (1 : Nat) = 1))) h (fun h => ?_)
  refine e_and (k_kd (n_add hv0 (rfl : (1 : Nat) = 1))) h (fun h => ?_)
  refine e_and (k_not (c_lt (r_ite (c_lt (r_nI (r_al (n_add hv1 (rfl : (1 : Nat) = 1)))) (r_nI (r_al (n_add hv0 (rfl : (1 : Nat) = 1))))) (r_nI (r_al (n_add hv1 (rfl : (1 : Nat) = 1)))) (r_nI (r_al (n_add hv0 (rfl : (1 : Nat) = 1))))) (rfl : (0 : Int32) = nI 0))) h (fun h => ?_)
  refine e_and (k_le (n_add (r_nat (rfl : (0 : Int32) = nI 0)) (r_nat (r_ite (c_lt (r_nI (r_al (n_add hv1 (rfl : (1 : Nat) = 1)))) (r_nI (r_al (n_add hv0 (rfl : (1 : Nat) = 1))))) (r_nI (r_al (n_add hv1 (rfl : (1 : Nat) = 1)))) (r_nI (r_al (n_add hv0 (rfl : (1 : Nat) = 1))))))) (r_al (n_add hv1 (rfl : (1 : Nat) = 1)))) h (fun h => ?_)
  refine e_and (k_le (n_add (r_nat (rfl : (0 : Int32) = nI 0)) (r_nat (r_ite (c_lt (r_nI (r_al (n_add hv1 (rfl : (1 : Nat) = 1)))) (r_nI (r_al (n_add hv0 (rfl : (1 : Nat) = 1))))) (r_nI (r_al (n_add hv1 (rfl : (1 : Nat) = 1)))) (r_nI (r_al (n_add hv0 (rfl : (1 : Nat) = 1))))))) (r_al (n_add hv0 (rfl : (1 : Nat) = 1)))) h (fun h => ?_)
  refine e_cp h hM3 (n_add hv1 (rfl : (1 : Nat) = 1)) (n_add hv0 (rfl : (1 : Nat) = 1)) (r_nat (r_ite (c_lt (r_nI (r_al (n_add hv1 (rfl : (1 : Nat) = 1)))) (r_nI (r_al (n_add hv0 (rfl : (1 : Nat) = 1))))) (r_nI (r_al (n_add hv1 (rfl : (1 : Nat) = 1)))) (r_nI (r_al (n_add hv0 (rfl : (1 : Nat) = 1)))))) (fun M15 cM15 hM15 h => ?_)
  exact hq _ _ _ _ hM15 ht h
noncomputable def eX7_clear_2 (q : Nat → Nat → Bool) (n : Nat) : Nat → Nat → Nat → Nat → Bool :=
  @Nat.rec (fun _ => Nat → Nat → Nat → Nat → Bool) (fun _ _ _ _ => false) (fun _ ih cM ct cv0 cv1 => (@Bool.rec (fun _ => Bool) (@Bool.rec (fun _ => Bool) false (@Bool.rec (fun _ => Bool) false (@Bool.rec (fun _ => Bool) false (wrB (fun cM19 => (ih cM19 ct cv0 (aN cv1 1))) cM (Nat.add cv0 1) (tN cv1) 0) (inN cv1 (alF (Nat.add cv0 1)))) (kdB (Nat.add cv0 1) 12)) (kdB cv0 7)) (@Bool.rec (fun _ => Bool) false (@Bool.rec (fun _ => Bool) false (epX5_empty (fun cr5 cM3 ct4 => (@Bool.rec (fun _ => Bool) false (@Bool.rec (fun _ => Bool) false (epX5_empty (fun cr10 cM8 ct9 => (@Bool.rec (fun _ => Bool) false (@Bool.rec (fun _ => Bool) false (epX5_empty (fun cr15 cM13 ct14 => (q cM13 ct14)) cM8 ct9 (Nat.add cv0 6)) (kdB (Nat.add cv0 6) 5)) (kdB cv0 7))) cM3 ct4 (Nat.add cv0 4)) (kdB (Nat.add cv0 4) 5)) (kdB cv0 7))) cM ct (Nat.add cv0 2)) (kdB (Nat.add cv0 2) 5)) (kdB cv0 7)) (leN 16 cv1))) n
set_option maxHeartbeats 4000000 in
set_option maxRecDepth 20000 in
theorem sX7_clear_2 {post : MM → Int64 → Prop} {q : Nat → Nat → Bool} (hq : ∀ (M : MM) (tl : Int64) (cM ct : Nat), M = dM cM → tl = i64 ct → q cM ct = true → post M tl) : ∀ (n : Nat) (M : MM) (tl : Int64) (v0 : Nat) (v1 : Int32) (cM ct cv0 cv1 : Nat), M = dM cM → tl = i64 ct → v0 = cv0 → v1 = nI cv1 → eX7_clear_2 q  n cM ct cv0 cv1 = true → wX7_clear_2 post  n M tl v0 v1 := by
  intro n
  induction n with
  | zero => intro M tl v0 v1 cM ct cv0 cv1 hM ht hv0 hv1 h; exact Bool.noConfusion h
  | succ n ih =>
    intro M tl v0 v1 cM ct cv0 cv1 hM ht hv0 hv1 h
    unfold wX7_clear_2
    refine e_ite (c_le (rfl : (16 : Int32) = nI 16) hv1) h (fun h => ?_) (fun h => ?_)
    · refine e_and (k_kd hv0) h (fun h => ?_)
      refine e_and (k_kd (n_add hv0 (rfl : (2 : Nat) = 2))) h (fun h => ?_)
      refine spX5_empty (fun r5 M3 t4 cr5 cM3 ct4 hr5 hM3 ht4 h => ?_) hM ht (n_add hv0 (rfl : (2 : Nat) = 2)) h
      refine e_and (k_kd hv0) h (fun h => ?_)
      refine e_and (k_kd (n_add hv0 (rfl : (4 : Nat) = 4))) h (fun h => ?_)
      refine spX5_empty (fun r10 M8 t9 cr10 cM8 ct9 hr10 hM8 ht9 h => ?_) hM3 ht4 (n_add hv0 (rfl : (4 : Nat) = 4)) h
      refine e_and (k_kd hv0) h (fun h => ?_)
      refine e_and (k_kd (n_add hv0 (rfl : (6 : Nat) = 6))) h (fun h => ?_)
      refine spX5_empty (fun r15 M13 t14 cr15 cM13 ct14 hr15 hM13 ht14 h => ?_) hM8 ht9 (n_add hv0 (rfl : (6 : Nat) = 6)) h
      exact hq _ _ _ _ hM13 ht14 h
    · refine e_and (k_kd hv0) h (fun h => ?_)
      refine e_and (k_kd (n_add hv0 (rfl : (1 : Nat) = 1))) h (fun h => ?_)
      refine e_and (k_in hv1 (r_al (n_add hv0 (rfl : (1 : Nat) = 1)))) h (fun h => ?_)
      refine e_wr h hM (n_add hv0 (rfl : (1 : Nat) = 1)) (r_nat hv1) (rfl : (0 : Int32) = nI 0) (fun M19 cM19 hM19 h => ?_)
      exact ih _ _ _ _ _ _ _ _ hM19 ht hv0 (r_add hv1 (rfl : (1 : Int32) = nI 1)) h
noncomputable def epX7_clear (q : Nat → Nat → Bool) (cM ct cv0 : Nat) : Bool :=
  (eX7_clear_2 q  5000 cM ct cv0 0)
set_option maxHeartbeats 4000000 in
set_option maxRecDepth 20000 in
theorem spX7_clear {post : MM → Int64 → Prop} {q : Nat → Nat → Bool} (hq : ∀ (M : MM) (tl : Int64) (cM ct : Nat), M = dM cM → tl = i64 ct → q cM ct = true → post M tl) {M : MM} {tl : Int64} {v0 : Nat} {cM ct cv0 : Nat} (hM : M = dM cM) (ht : tl = i64 ct) (hv0 : v0 = cv0) (h : epX7_clear q  cM ct cv0 = true) : wpX7_clear post  M tl v0 := by
  unfold wpX7_clear
  exact ⟨5000, sX7_clear_2 hq  5000 _ _ _ _ _ _ _ _ hM ht hv0 (rfl : (0 : Int32) = nI 0) h⟩
noncomputable def epX7_copyFrom (q : Nat → Nat → Bool) (cM ct cv0 cv1 : Nat) : Bool :=
  (@Bool.rec (fun _ => Bool) false (@Bool.rec (fun _ => Bool) false (@Bool.rec (fun _ => Bool) false (@Bool.rec (fun _ => Bool) false (@Bool.rec (fun _ => Bool) false (@Bool.rec (fun _ => Bool) false (cpB (fun cM7 => (@Bool.rec (fun _ => Bool) false (@Bool.rec (fun _ => Bool) false (@Bool.rec (fun _ => Bool) false (epX5_copyFrom (fun cM11 ct12 => (@Bool.rec (fun _ => Bool) false (@Bool.rec (fun _ => Bool) false (@Bool.rec (fun _ => Bool) false (epX5_copyFrom (fun cM16 ct17 => (@Bool.rec (fun _ => Bool) false (@Bool.rec (fun _ => Bool) false (@Bool.rec (fun _ => Bool) false (epX5_copyFrom (fun cM21 ct22 => (q cM21 ct22)) cM16 ct17 (Nat.add cv0 6) (Nat.add cv1 6)) (kdB (Nat.add cv0 6) 5)) (kdB cv1 7)) (kdB cv0 7))) cM11 ct12 (Nat.add cv0 4) (Nat.add cv1 4)) (kdB (Nat.add cv0 4) 5)) (kdB cv1 7)) (kdB cv0 7))) cM7 ct (Nat.add cv0 2) (Nat.add cv1 2)) (kdB (Nat.add cv0 2) 5)) (kdB cv1 7)) (kdB cv0 7))) cM (Nat.add cv1 1) (Nat.add cv0 1) (tN 16)) (Nat.ble (Nat.add (tN 0) (tN 16)) (alF (Nat.add cv0 1)))) (Nat.ble (Nat.add (tN 0) (tN 16)) (alF (Nat.add cv1 1)))) (kdB (Nat.add cv0 1) 12)) (kdB (Nat.add cv1 1) 12)) (kdB cv0 7)) (kdB cv1 7))
set_option maxHeartbeats 4000000 in
set_option maxRecDepth 20000 in
theorem spX7_copyFrom {post : MM → Int64 → Prop} {q : Nat → Nat → Bool} (hq : ∀ (M : MM) (tl : Int64) (cM ct : Nat), M = dM cM → tl = i64 ct → q cM ct = true → post M tl) {M : MM} {tl : Int64} {v0 : Nat} {v1 : Nat} {cM ct cv0 cv1 : Nat} (hM : M = dM cM) (ht : tl = i64 ct) (hv0 : v0 = cv0) (hv1 : v1 = cv1) (h : epX7_copyFrom q  cM ct cv0 cv1 = true) : wpX7_copyFrom post  M tl v0 v1 := by
  unfold wpX7_copyFrom
  refine e_and (k_kd hv1) h (fun h => ?_)
  refine e_and (k_kd hv0) h (fun h => ?_)
  refine e_and (k_kd (n_add hv1 (rfl : (1 : Nat) = 1))) h (fun h => ?_)
  refine e_and (k_kd (n_add hv0 (rfl : (1 : Nat) = 1))) h (fun h => ?_)
  refine e_and (k_le (n_add (r_nat (rfl : (0 : Int32) = nI 0)) (r_nat (rfl : (16 : Int32) = nI 16))) (r_al (n_add hv1 (rfl : (1 : Nat) = 1)))) h (fun h => ?_)
  refine e_and (k_le (n_add (r_nat (rfl : (0 : Int32) = nI 0)) (r_nat (rfl : (16 : Int32) = nI 16))) (r_al (n_add hv0 (rfl : (1 : Nat) = 1)))) h (fun h => ?_)
  refine e_cp h hM (n_add hv1 (rfl : (1 : Nat) = 1)) (n_add hv0 (rfl : (1 : Nat) = 1)) (r_nat (rfl : (16 : Int32) = nI 16)) (fun M7 cM7 hM7 h => ?_)
  refine e_and (k_kd hv0) h (fun h => ?_)
  refine e_and (k_kd hv1) h (fun h => ?_)
  refine e_and (k_kd (n_add hv0 (rfl : (2 : Nat) = 2))) h (fun h => ?_)
  refine spX5_copyFrom (fun M11 t12 cM11 ct12 hM11 ht12 h => ?_) hM7 ht (n_add hv0 (rfl : (2 : Nat) = 2)) (n_add hv1 (rfl : (2 : Nat) = 2)) h
  refine e_and (k_kd hv0) h (fun h => ?_)
  refine e_and (k_kd hv1) h (fun h => ?_)
  refine e_and (k_kd (n_add hv0 (rfl : (4 : Nat) = 4))) h (fun h => ?_)
  refine spX5_copyFrom (fun M16 t17 cM16 ct17 hM16 ht17 h => ?_) hM11 ht12 (n_add hv0 (rfl : (4 : Nat) = 4)) (n_add hv1 (rfl : (4 : Nat) = 4)) h
  refine e_and (k_kd hv0) h (fun h => ?_)
  refine e_and (k_kd hv1) h (fun h => ?_)
  refine e_and (k_kd (n_add hv0 (rfl : (6 : Nat) = 6))) h (fun h => ?_)
  refine spX5_copyFrom (fun M21 t22 cM21 ct22 hM21 ht22 h => ?_) hM16 ht17 (n_add hv0 (rfl : (6 : Nat) = 6)) (n_add hv1 (rfl : (6 : Nat) = 6)) h
  exact hq _ _ _ _ hM21 ht22 h
noncomputable def epX7_thingAt (q : Nat → Nat → Nat → Bool) (cM ct cv0 cv1 cv2 : Nat) : Bool :=
  (epX10_isSlot (fun cr3 cM1 ct2 => (@Bool.rec (fun _ => Bool) (@Bool.rec (fun _ => Bool) false (epX10_slot (fun cr7 cM5 ct6 => (@Bool.rec (fun _ => Bool) false (@Bool.rec (fun _ => Bool) false (q (rd cM5 (Nat.add cv0 1) (tN cr7)) cM5 ct6) (inN cr7 (alF (Nat.add cv0 1)))) (kdB (Nat.add cv0 1) 12))) cM1 ct2 cv1 cv2) (kdB cv0 7)) (q 0 cM1 ct2) (eqN cr3 0))) cM ct cv1 cv2)
set_option maxHeartbeats 4000000 in
set_option maxRecDepth 20000 in
theorem spX7_thingAt {post : Int32 → MM → Int64 → Prop} {q : Nat → Nat → Nat → Bool} (hq : ∀ (r : Int32) (M : MM) (tl : Int64) (cr cM ct : Nat), r = nI cr → M = dM cM → tl = i64 ct → q cr cM ct = true → post r M tl) {M : MM} {tl : Int64} {v0 : Nat} {v1 : Int32} {v2 : Int32} {cM ct cv0 cv1 cv2 : Nat} (hM : M = dM cM) (ht : tl = i64 ct) (hv0 : v0 = cv0) (hv1 : v1 = nI cv1) (hv2 : v2 = nI cv2) (h : epX7_thingAt q  cM ct cv0 cv1 cv2 = true) : wpX7_thingAt post  M tl v0 v1 v2 := by
  unfold wpX7_thingAt
  refine spX10_isSlot (fun r3 M1 t2 cr3 cM1 ct2 hr3 hM1 ht2 h => ?_) hM ht hv1 hv2 h
  refine e_ite (c_eq hr3 (rfl : (0 : Int32) = nI 0)) h (fun h => ?_) (fun h => ?_)
  · exact hq _ _ _ _ _ _ (rfl : (0 : Int32) = nI 0) hM1 ht2 h
  · refine e_and (k_kd hv0) h (fun h => ?_)
    refine spX10_slot (fun r7 M5 t6 cr7 cM5 ct6 hr7 hM5 ht6 h => ?_) hM1 ht2 hv1 hv2 h
    refine e_and (k_kd (n_add hv0 (rfl : (1 : Nat) = 1))) h (fun h => ?_)
    refine e_and (k_in hr7 (r_al (n_add hv0 (rfl : (1 : Nat) = 1)))) h (fun h => ?_)
    exact hq _ _ _ _ _ _ (r_rd hM5 (n_add hv0 (rfl : (1 : Nat) = 1)) (r_nat hr7)) hM5 ht6 h
noncomputable def epX7_kindAt (q : Nat → Nat → Nat → Bool) (cM ct cv0 cv1 cv2 : Nat) : Bool :=
  (@Bool.rec (fun _ => Bool) false (epX7_thingAt (fun cr4 cM2 ct3 => (q (Nat.land cr4 7) cM2 ct3)) cM ct cv0 cv1 cv2) (kdB cv0 7))
set_option maxHeartbeats 4000000 in
set_option maxRecDepth 20000 in
theorem spX7_kindAt {post : Int32 → MM → Int64 → Prop} {q : Nat → Nat → Nat → Bool} (hq : ∀ (r : Int32) (M : MM) (tl : Int64) (cr cM ct : Nat), r = nI cr → M = dM cM → tl = i64 ct → q cr cM ct = true → post r M tl) {M : MM} {tl : Int64} {v0 : Nat} {v1 : Int32} {v2 : Int32} {cM ct cv0 cv1 cv2 : Nat} (hM : M = dM cM) (ht : tl = i64 ct) (hv0 : v0 = cv0) (hv1 : v1 = nI cv1) (hv2 : v2 = nI cv2) (h : epX7_kindAt q  cM ct cv0 cv1 cv2 = true) : wpX7_kindAt post  M tl v0 v1 v2 := by
  unfold wpX7_kindAt
  refine e_and (k_kd hv0) h (fun h => ?_)
  refine spX7_thingAt (fun r4 M2 t3 cr4 cM2 ct3 hr4 hM2 ht3 h => ?_) hM ht hv0 hv1 hv2 h
  exact hq _ _ _ _ _ _ (r_and hr4 (rfl : (7 : Int32) = nI 7)) hM2 ht3 h
noncomputable def epX7_setThing (q : Nat → Nat → Bool) (cM ct cv0 cv1 cv2 cv3 : Nat) : Bool :=
  (epX10_isSlot (fun cr3 cM1 ct2 => (@Bool.rec (fun _ => Bool) (@Bool.rec (fun _ => Bool) false (epX10_slot (fun cr7 cM5 ct6 => (@Bool.rec (fun _ => Bool) false (@Bool.rec (fun _ => Bool) false (wrB (fun cM10 => (q cM10 ct6)) cM5 (Nat.add cv0 1) (tN cr7) cv3) (inN cr7 (alF (Nat.add cv0 1)))) (kdB (Nat.add cv0 1) 12))) cM1 ct2 cv1 cv2) (kdB cv0 7)) (q cM1 ct2) (eqN cr3 0))) cM ct cv1 cv2)
set_option maxHeartbeats 4000000 in
set_option maxRecDepth 20000 in
theorem spX7_setThing {post : MM → Int64 → Prop} {q : Nat → Nat → Bool} (hq : ∀ (M : MM) (tl : Int64) (cM ct : Nat), M = dM cM → tl = i64 ct → q cM ct = true → post M tl) {M : MM} {tl : Int64} {v0 : Nat} {v1 : Int32} {v2 : Int32} {v3 : Int32} {cM ct cv0 cv1 cv2 cv3 : Nat} (hM : M = dM cM) (ht : tl = i64 ct) (hv0 : v0 = cv0) (hv1 : v1 = nI cv1) (hv2 : v2 = nI cv2) (hv3 : v3 = nI cv3) (h : epX7_setThing q  cM ct cv0 cv1 cv2 cv3 = true) : wpX7_setThing post  M tl v0 v1 v2 v3 := by
  unfold wpX7_setThing
  refine spX10_isSlot (fun r3 M1 t2 cr3 cM1 ct2 hr3 hM1 ht2 h => ?_) hM ht hv1 hv2 h
  refine e_ite (c_eq hr3 (rfl : (0 : Int32) = nI 0)) h (fun h => ?_) (fun h => ?_)
  · exact hq _ _ _ _ hM1 ht2 h
  · refine e_and (k_kd hv0) h (fun h => ?_)
    refine spX10_slot (fun r7 M5 t6 cr7 cM5 ct6 hr7 hM5 ht6 h => ?_) hM1 ht2 hv1 hv2 h
    refine e_and (k_kd (n_add hv0 (rfl : (1 : Nat) = 1))) h (fun h => ?_)
    refine e_and (k_in hr7 (r_al (n_add hv0 (rfl : (1 : Nat) = 1)))) h (fun h => ?_)
    refine e_wr h hM5 (n_add hv0 (rfl : (1 : Nat) = 1)) (r_nat hr7) hv3 (fun M10 cM10 hM10 h => ?_)
    exact hq _ _ _ _ hM10 ht6 h
noncomputable def eX7_countThings_25 (q : Nat → Nat → Nat → Bool) (cbk4 : Nat → Nat → Nat → Nat → Nat → Bool) (cM ct cv0 cv2 cs0 cs1 : Nat) : Bool :=
  (cbk4 cM ct cv0 (aN cs0 cs1) (aN cv2 1))
set_option maxHeartbeats 4000000 in
set_option maxRecDepth 20000 in
theorem sX7_countThings_25 {post : Int32 → MM → Int64 → Prop} {q : Nat → Nat → Nat → Bool} (hq : ∀ (r : Int32) (M : MM) (tl : Int64) (cr cM ct : Nat), r = nI cr → M = dM cM → tl = i64 ct → q cr cM ct = true → post r M tl) {bk4 : MM → Int64 → Nat → Int32 → Int32 → Prop} {cbk4 : Nat → Nat → Nat → Nat → Nat → Bool} (hbk4 : ∀ (M : MM) (tl : Int64) (x0 : Nat) (x1 : Int32) (x2 : Int32) (cM ct cx0 cx1 cx2 : Nat), M = dM cM → tl = i64 ct → x0 = cx0 → x1 = nI cx1 → x2 = nI cx2 → cbk4 cM ct cx0 cx1 cx2 = true → bk4 M tl x0 x1 x2) {M : MM} {tl : Int64} {v0 : Nat} {v2 : Int32} {s0 : Int32} {s1 : Int32} {cM ct cv0 cv2 cs0 cs1 : Nat} (hM : M = dM cM) (ht : tl = i64 ct) (hv0 : v0 = cv0) (hv2 : v2 = nI cv2) (hs0 : s0 = nI cs0) (hs1 : s1 = nI cs1) (h : eX7_countThings_25 q cbk4 cM ct cv0 cv2 cs0 cs1 = true) : wX7_countThings_25 post bk4 M tl v0 v2 s0 s1 := by
  unfold wX7_countThings_25
  exact hbk4 _ _ _ _ _ _ _ _ _ _ hM ht hv0 (r_add hs0 hs1) (r_add hv2 (rfl : (1 : Int32) = nI 1)) h
noncomputable def eX7_countThings_4 (q : Nat → Nat → Nat → Bool) (n : Nat) : Nat → Nat → Nat → Nat → Nat → Bool :=
  @Nat.rec (fun _ => Nat → Nat → Nat → Nat → Nat → Bool) (fun _ _ _ _ _ => false) (fun _ ih cM ct cv0 cv1 cv2 => (@Bool.rec (fun _ => Bool) (@Bool.rec (fun _ => Bool) false (@Bool.rec (fun _ => Bool) false (@Bool.rec (fun _ => Bool) false (@Bool.rec (fun _ => Bool) (eX7_countThings_25 q ih cM ct cv0 cv2 cv1 1) (eX7_countThings_25 q ih cM ct cv0 cv2 cv1 0) (eqN (rd cM (Nat.add cv0 1) (tN cv2)) 0)) (inN cv2 (alF (Nat.add cv0 1)))) (kdB (Nat.add cv0 1) 12)) (kdB cv0 7)) (q cv1 cM ct) (leN 16 cv2))) n
set_option maxHeartbeats 4000000 in
set_option maxRecDepth 20000 in
theorem sX7_countThings_4 {post : Int32 → MM → Int64 → Prop} {q : Nat → Nat → Nat → Bool} (hq : ∀ (r : Int32) (M : MM) (tl : Int64) (cr cM ct : Nat), r = nI cr → M = dM cM → tl = i64 ct → q cr cM ct = true → post r M tl) : ∀ (n : Nat) (M : MM) (tl : Int64) (v0 : Nat) (v1 : Int32) (v2 : Int32) (cM ct cv0 cv1 cv2 : Nat), M = dM cM → tl = i64 ct → v0 = cv0 → v1 = nI cv1 → v2 = nI cv2 → eX7_countThings_4 q  n cM ct cv0 cv1 cv2 = true → wX7_countThings_4 post  n M tl v0 v1 v2 := by
  intro n
  induction n with
  | zero => intro M tl v0 v1 v2 cM ct cv0 cv1 cv2 hM ht hv0 hv1 hv2 h; exact Bool.noConfusion h
  | succ n ih =>
    intro M tl v0 v1 v2 cM ct cv0 cv1 cv2 hM ht hv0 hv1 hv2 h
    unfold wX7_countThings_4
    refine e_ite (c_le (rfl : (16 : Int32) = nI 16) hv2) h (fun h => ?_) (fun h => ?_)
    · exact hq _ _ _ _ _ _ hv1 hM ht h
    · refine e_and (k_kd hv0) h (fun h => ?_)
      refine e_and (k_kd (n_add hv0 (rfl : (1 : Nat) = 1))) h (fun h => ?_)
      refine e_and (k_in hv2 (r_al (n_add hv0 (rfl : (1 : Nat) = 1)))) h (fun h => ?_)
      refine e_ite (c_eq (r_rd hM (n_add hv0 (rfl : (1 : Nat) = 1)) (r_nat hv2)) (rfl : (0 : Int32) = nI 0)) h (fun h => ?_) (fun h => ?_)
      · exact sX7_countThings_25 hq ih hM ht hv0 hv2 hv1 (rfl : (0 : Int32) = nI 0) h
      · exact sX7_countThings_25 hq ih hM ht hv0 hv2 hv1 (rfl : (1 : Int32) = nI 1) h
noncomputable def epX7_countThings (q : Nat → Nat → Nat → Bool) (cM ct cv0 : Nat) : Bool :=
  (eX7_countThings_4 q  5000 cM ct cv0 0 0)
set_option maxHeartbeats 4000000 in
set_option maxRecDepth 20000 in
theorem spX7_countThings {post : Int32 → MM → Int64 → Prop} {q : Nat → Nat → Nat → Bool} (hq : ∀ (r : Int32) (M : MM) (tl : Int64) (cr cM ct : Nat), r = nI cr → M = dM cM → tl = i64 ct → q cr cM ct = true → post r M tl) {M : MM} {tl : Int64} {v0 : Nat} {cM ct cv0 : Nat} (hM : M = dM cM) (ht : tl = i64 ct) (hv0 : v0 = cv0) (h : epX7_countThings q  cM ct cv0 = true) : wpX7_countThings post  M tl v0 := by
  unfold wpX7_countThings
  exact ⟨5000, sX7_countThings_4 hq  5000 _ _ _ _ _ _ _ _ _ _ hM ht hv0 (rfl : (0 : Int32) = nI 0) (rfl : (0 : Int32) = nI 0) h⟩
noncomputable def epX7_lastMonth (q : Nat → Nat → Nat → Bool) (cM ct cv0 : Nat) : Bool :=
  (@Bool.rec (fun _ => Bool) false (@Bool.rec (fun _ => Bool) false (@Bool.rec (fun _ => Bool) false (@Bool.rec (fun _ => Bool) false (epX5_cell (fun cr7 cM5 ct6 => (q cr7 cM5 ct6)) cM ct (Nat.add cv0 2) (sN (rd cM (Nat.add cv0 2) 3) 1) 0) (kdB (Nat.add cv0 2) 5)) (kdB (Nat.add cv0 2) 5)) (kdB cv0 7)) (kdB cv0 7))
set_option maxHeartbeats 4000000 in
set_option maxRecDepth 20000 in
theorem spX7_lastMonth {post : Int32 → MM → Int64 → Prop} {q : Nat → Nat → Nat → Bool} (hq : ∀ (r : Int32) (M : MM) (tl : Int64) (cr cM ct : Nat), r = nI cr → M = dM cM → tl = i64 ct → q cr cM ct = true → post r M tl) {M : MM} {tl : Int64} {v0 : Nat} {cM ct cv0 : Nat} (hM : M = dM cM) (ht : tl = i64 ct) (hv0 : v0 = cv0) (h : epX7_lastMonth q  cM ct cv0 = true) : wpX7_lastMonth post  M tl v0 := by
  unfold wpX7_lastMonth
  refine e_and (k_kd hv0) h (fun h => ?_)
  refine e_and (k_kd hv0) h (fun h => ?_)
  refine e_and (k_kd (n_add hv0 (rfl : (2 : Nat) = 2))) h (fun h => ?_)
  refine e_and (k_kd (n_add hv0 (rfl : (2 : Nat) = 2))) h (fun h => ?_)
  refine spX5_cell (fun r7 M5 t6 cr7 cM5 ct6 hr7 hM5 ht6 h => ?_) hM ht (n_add hv0 (rfl : (2 : Nat) = 2)) (r_sub (r_rd hM (n_add hv0 (rfl : (2 : Nat) = 2)) (rfl : (3 : Nat) = 3)) (rfl : (1 : Int32) = nI 1)) (rfl : (0 : Int32) = nI 0) h
  exact hq _ _ _ _ _ _ hr7 hM5 ht6 h
noncomputable def eX8_renew_17 (q : Nat → Nat → Bool) (n : Nat) : Nat → Nat → Nat → Nat → Bool :=
  @Nat.rec (fun _ => Nat → Nat → Nat → Nat → Bool) (fun _ _ _ _ => false) (fun _ ih cM ct cv0 cv3 => (@Bool.rec (fun _ => Bool) (@Bool.rec (fun _ => Bool) false (@Bool.rec (fun _ => Bool) false (@Bool.rec (fun _ => Bool) false (wrB (fun cM4 => (ih cM4 ct cv0 (aN cv3 1))) cM (Nat.add cv0 1) (tN cv3) 0) (inN cv3 (alF (Nat.add cv0 1)))) (kdB (Nat.add cv0 1) 12)) (kdB cv0 8)) (q cM ct) (leN 40 cv3))) n
set_option maxHeartbeats 4000000 in
set_option maxRecDepth 20000 in
theorem sX8_renew_17 {post : MM → Int64 → Prop} {q : Nat → Nat → Bool} (hq : ∀ (M : MM) (tl : Int64) (cM ct : Nat), M = dM cM → tl = i64 ct → q cM ct = true → post M tl) : ∀ (n : Nat) (M : MM) (tl : Int64) (v0 : Nat) (v3 : Int32) (cM ct cv0 cv3 : Nat), M = dM cM → tl = i64 ct → v0 = cv0 → v3 = nI cv3 → eX8_renew_17 q  n cM ct cv0 cv3 = true → wX8_renew_17 post  n M tl v0 v3 := by
  intro n
  induction n with
  | zero => intro M tl v0 v3 cM ct cv0 cv3 hM ht hv0 hv3 h; exact Bool.noConfusion h
  | succ n ih =>
    intro M tl v0 v3 cM ct cv0 cv3 hM ht hv0 hv3 h
    unfold wX8_renew_17
    refine e_ite (c_le (rfl : (40 : Int32) = nI 40) hv3) h (fun h => ?_) (fun h => ?_)
    · exact hq _ _ _ _ hM ht h
    · refine e_and (k_kd hv0) h (fun h => ?_)
      refine e_and (k_kd (n_add hv0 (rfl : (1 : Nat) = 1))) h (fun h => ?_)
      refine e_and (k_in hv3 (r_al (n_add hv0 (rfl : (1 : Nat) = 1)))) h (fun h => ?_)
      refine e_wr h hM (n_add hv0 (rfl : (1 : Nat) = 1)) (r_nat hv3) (rfl : (0 : Int32) = nI 0) (fun M4 cM4 hM4 h => ?_)
      exact ih _ _ _ _ _ _ _ _ hM4 ht hv0 (r_add hv3 (rfl : (1 : Int32) = nI 1)) h
noncomputable def epX8_renew (q : Nat → Nat → Bool) (cM ct cv0 cv1 cv2 : Nat) : Bool :=
  (@Bool.rec (fun _ => Bool) false (wrB (fun cM2 => (@Bool.rec (fun _ => Bool) false (wrB (fun cM4 => (eX8_renew_17 q  5000 cM4 ct cv0 0)) cM2 cv0 0 (@Bool.rec (fun _ => Nat) cv2 40 (ltN 40 cv2))) (kdB cv0 8))) cM cv0 1 cv1) (kdB cv0 8))
set_option maxHeartbeats 4000000 in
set_option maxRecDepth 20000 in
theorem spX8_renew {post : MM → Int64 → Prop} {q : Nat → Nat → Bool} (hq : ∀ (M : MM) (tl : Int64) (cM ct : Nat), M = dM cM → tl = i64 ct → q cM ct = true → post M tl) {M : MM} {tl : Int64} {v0 : Nat} {v1 : Int32} {v2 : Int32} {cM ct cv0 cv1 cv2 : Nat} (hM : M = dM cM) (ht : tl = i64 ct) (hv0 : v0 = cv0) (hv1 : v1 = nI cv1) (hv2 : v2 = nI cv2) (h : epX8_renew q  cM ct cv0 cv1 cv2 = true) : wpX8_renew post  M tl v0 v1 v2 := by
  unfold wpX8_renew
  refine e_and (k_kd hv0) h (fun h => ?_)
  refine e_wr h hM hv0 (rfl : (1 : Nat) = 1) hv1 (fun M2 cM2 hM2 h => ?_)
  refine e_and (k_kd hv0) h (fun h => ?_)
  refine e_wr h hM2 hv0 (rfl : (0 : Nat) = 0) (r_ite (c_lt (rfl : (40 : Int32) = nI 40) hv2) (rfl : (40 : Int32) = nI 40) hv2) (fun M4 cM4 hM4 h => ?_)
  exact ⟨5000, sX8_renew_17 hq  5000 _ _ _ _ _ _ _ _ hM4 ht hv0 (rfl : (0 : Int32) = nI 0) h⟩
noncomputable def epX8_faultAt (q : Nat → Nat → Nat → Bool) (cM ct cv0 cv1 : Nat) : Bool :=
  (@Bool.rec (fun _ => Bool) false (@Bool.rec (fun _ => Bool) (q 1 cM ct) (@Bool.rec (fun _ => Bool) (@Bool.rec (fun _ => Bool) false (@Bool.rec (fun _ => Bool) (q 2 cM ct) (q 0 cM ct) (ltN cv1 (rd cM cv0 0))) (kdB cv0 8)) (q 2 cM ct) (ltN cv1 0)) (leN 0 (rd cM cv0 0))) (kdB cv0 8))
set_option maxHeartbeats 4000000 in
set_option maxRecDepth 20000 in
theorem spX8_faultAt {post : Int32 → MM → Int64 → Prop} {q : Nat → Nat → Nat → Bool} (hq : ∀ (r : Int32) (M : MM) (tl : Int64) (cr cM ct : Nat), r = nI cr → M = dM cM → tl = i64 ct → q cr cM ct = true → post r M tl) {M : MM} {tl : Int64} {v0 : Nat} {v1 : Int32} {cM ct cv0 cv1 : Nat} (hM : M = dM cM) (ht : tl = i64 ct) (hv0 : v0 = cv0) (hv1 : v1 = nI cv1) (h : epX8_faultAt q  cM ct cv0 cv1 = true) : wpX8_faultAt post  M tl v0 v1 := by
  unfold wpX8_faultAt
  refine e_and (k_kd hv0) h (fun h => ?_)
  refine e_ite (c_le (rfl : (0 : Int32) = nI 0) (r_rd hM hv0 (rfl : (0 : Nat) = 0))) h (fun h => ?_) (fun h => ?_)
  · refine e_ite (c_lt hv1 (rfl : (0 : Int32) = nI 0)) h (fun h => ?_) (fun h => ?_)
    · exact hq _ _ _ _ _ _ (rfl : (2 : Int32) = nI 2) hM ht h
    · refine e_and (k_kd hv0) h (fun h => ?_)
      refine e_ite (c_lt hv1 (r_rd hM hv0 (rfl : (0 : Nat) = 0))) h (fun h => ?_) (fun h => ?_)
      · exact hq _ _ _ _ _ _ (rfl : (0 : Int32) = nI 0) hM ht h
      · exact hq _ _ _ _ _ _ (rfl : (2 : Int32) = nI 2) hM ht h
  · exact hq _ _ _ _ _ _ (rfl : (1 : Int32) = nI 1) hM ht h
noncomputable def eX8_setCell_39 (q : Nat → Nat → Bool) (cM ct cs0 cs1 cs2 : Nat) : Bool :=
  (@Bool.rec (fun _ => Bool) false (@Bool.rec (fun _ => Bool) false (wrB (fun cM3 => (q cM3 ct)) cM cs0 (tN cs1) cs2) (inN cs1 (alF cs0))) (kdB cs0 12))
set_option maxHeartbeats 4000000 in
set_option maxRecDepth 20000 in
theorem sX8_setCell_39 {post : MM → Int64 → Prop} {q : Nat → Nat → Bool} (hq : ∀ (M : MM) (tl : Int64) (cM ct : Nat), M = dM cM → tl = i64 ct → q cM ct = true → post M tl) {M : MM} {tl : Int64} {s0 : Nat} {s1 : Int32} {s2 : Int32} {cM ct cs0 cs1 cs2 : Nat} (hM : M = dM cM) (ht : tl = i64 ct) (hs0 : s0 = cs0) (hs1 : s1 = nI cs1) (hs2 : s2 = nI cs2) (h : eX8_setCell_39 q  cM ct cs0 cs1 cs2 = true) : wX8_setCell_39 post  M tl s0 s1 s2 := by
  unfold wX8_setCell_39
  refine e_and (k_kd hs0) h (fun h => ?_)
  refine e_and (k_in hs1 (r_al hs0)) h (fun h => ?_)
  refine e_wr h hM hs0 (r_nat hs1) hs2 (fun M3 cM3 hM3 h => ?_)
  exact hq _ _ _ _ hM3 ht h
noncomputable def epX8_setCell (q : Nat → Nat → Bool) (cM ct cv0 cv1 cv2 : Nat) : Bool :=
  (@Bool.rec (fun _ => Bool) false (epX8_faultAt (fun cr4 cM2 ct3 => (@Bool.rec (fun _ => Bool) (q cM2 ct3) (@Bool.rec (fun _ => Bool) false (@Bool.rec (fun _ => Bool) false (@Bool.rec (fun _ => Bool) (@Bool.rec (fun _ => Bool) false (@Bool.rec (fun _ => Bool) (eX8_setCell_39 q  cM2 ct3 (Nat.add cv0 1) cv1 cv2) (eX8_setCell_39 q  cM2 ct3 (Nat.add cv0 1) cv1 (b1 f_i16 cv2)) (eqN (rd cM2 cv0 1) 1)) (kdB cv0 8)) (eX8_setCell_39 q  cM2 ct3 (Nat.add cv0 1) cv1 (b1 f_i8 cv2)) (eqN (rd cM2 cv0 1) 0)) (kdB cv0 8)) (kdB cv0 8)) (eqN cr4 0))) cM ct cv0 cv1) (kdB cv0 8))
set_option maxHeartbeats 4000000 in
set_option maxRecDepth 20000 in
theorem spX8_setCell {post : MM → Int64 → Prop} {q : Nat → Nat → Bool} (hq : ∀ (M : MM) (tl : Int64) (cM ct : Nat), M = dM cM → tl = i64 ct → q cM ct = true → post M tl) {M : MM} {tl : Int64} {v0 : Nat} {v1 : Int32} {v2 : Int32} {cM ct cv0 cv1 cv2 : Nat} (hM : M = dM cM) (ht : tl = i64 ct) (hv0 : v0 = cv0) (hv1 : v1 = nI cv1) (hv2 : v2 = nI cv2) (h : epX8_setCell q  cM ct cv0 cv1 cv2 = true) : wpX8_setCell post  M tl v0 v1 v2 := by
  unfold wpX8_setCell
  refine e_and (k_kd hv0) h (fun h => ?_)
  refine spX8_faultAt (fun r4 M2 t3 cr4 cM2 ct3 hr4 hM2 ht3 h => ?_) hM ht hv0 hv1 h
  refine e_ite (c_eq hr4 (rfl : (0 : Int32) = nI 0)) h (fun h => ?_) (fun h => ?_)
  · refine e_and (k_kd hv0) h (fun h => ?_)
    refine e_and (k_kd hv0) h (fun h => ?_)
    refine e_ite (c_eq (r_rd hM2 hv0 (rfl : (1 : Nat) = 1)) (rfl : (0 : Int32) = nI 0)) h (fun h => ?_) (fun h => ?_)
    · exact sX8_setCell_39 hq  hM2 ht3 (n_add hv0 (rfl : (1 : Nat) = 1)) hv1 (r_b1 f_i8 hv2) h
    · refine e_and (k_kd hv0) h (fun h => ?_)
      refine e_ite (c_eq (r_rd hM2 hv0 (rfl : (1 : Nat) = 1)) (rfl : (1 : Int32) = nI 1)) h (fun h => ?_) (fun h => ?_)
      · exact sX8_setCell_39 hq  hM2 ht3 (n_add hv0 (rfl : (1 : Nat) = 1)) hv1 (r_b1 f_i16 hv2) h
      · exact sX8_setCell_39 hq  hM2 ht3 (n_add hv0 (rfl : (1 : Nat) = 1)) hv1 hv2 h
  · exact hq _ _ _ _ hM2 ht3 h
noncomputable def epX8_cell (q : Nat → Nat → Nat → Bool) (cM ct cv0 cv1 : Nat) : Bool :=
  (@Bool.rec (fun _ => Bool) false (epX8_faultAt (fun cr4 cM2 ct3 => (@Bool.rec (fun _ => Bool) (q 0 cM2 ct3) (@Bool.rec (fun _ => Bool) false (@Bool.rec (fun _ => Bool) false (@Bool.rec (fun _ => Bool) false (q (rd cM2 (Nat.add cv0 1) (tN cv1)) cM2 ct3) (inN cv1 (alF (Nat.add cv0 1)))) (kdB (Nat.add cv0 1) 12)) (kdB cv0 8)) (eqN cr4 0))) cM ct cv0 cv1) (kdB cv0 8))
set_option maxHeartbeats 4000000 in
set_option maxRecDepth 20000 in
theorem spX8_cell {post : Int32 → MM → Int64 → Prop} {q : Nat → Nat → Nat → Bool} (hq : ∀ (r : Int32) (M : MM) (tl : Int64) (cr cM ct : Nat), r = nI cr → M = dM cM → tl = i64 ct → q cr cM ct = true → post r M tl) {M : MM} {tl : Int64} {v0 : Nat} {v1 : Int32} {cM ct cv0 cv1 : Nat} (hM : M = dM cM) (ht : tl = i64 ct) (hv0 : v0 = cv0) (hv1 : v1 = nI cv1) (h : epX8_cell q  cM ct cv0 cv1 = true) : wpX8_cell post  M tl v0 v1 := by
  unfold wpX8_cell
  refine e_and (k_kd hv0) h (fun h => ?_)
  refine spX8_faultAt (fun r4 M2 t3 cr4 cM2 ct3 hr4 hM2 ht3 h => ?_) hM ht hv0 hv1 h
  refine e_ite (c_eq hr4 (rfl : (0 : Int32) = nI 0)) h (fun h => ?_) (fun h => ?_)
  · refine e_and (k_kd hv0) h (fun h => ?_)
    refine e_and (k_kd (n_add hv0 (rfl : (1 : Nat) = 1))) h (fun h => ?_)
    refine e_and (k_in hv1 (r_al (n_add hv0 (rfl : (1 : Nat) = 1)))) h (fun h => ?_)
    exact hq _ _ _ _ _ _ (r_rd hM2 (n_add hv0 (rfl : (1 : Nat) = 1)) (r_nat hv1)) hM2 ht3 h
  · exact hq _ _ _ _ _ _ (rfl : (0 : Int32) = nI 0) hM2 ht3 h
noncomputable def epX8_wholeThings (q : Nat → Nat → Nat → Bool) (cM ct cv0 cv1 cv2 cv3 : Nat) : Bool :=
  (@Bool.rec (fun _ => Bool) false (@Bool.rec (fun _ => Bool) (@Bool.rec (fun _ => Bool) false (@Bool.rec (fun _ => Bool) (q 0 cM ct) (@Bool.rec (fun _ => Bool) (@Bool.rec (fun _ => Bool) false (@Bool.rec (fun _ => Bool) (q 0 cM ct) (@Bool.rec (fun _ => Bool) false (q (@Bool.rec (fun _ => Nat) cv3 (b2 f_div (sN (rd cM cv0 0) cv2) 3) (ltN (b2 f_div (sN (rd cM cv0 0) cv2) 3) cv3)) cM ct) (kdB cv0 8)) (ltN cv2 (rd cM cv0 0))) (kdB cv0 8)) (q 0 cM ct) (ltN cv2 0)) (eqN (rd cM cv0 1) cv1)) (kdB cv0 8)) (q 0 cM ct) (ltN (rd cM cv0 0) 0)) (kdB cv0 8))
set_option maxHeartbeats 4000000 in
set_option maxRecDepth 20000 in
theorem spX8_wholeThings {post : Int32 → MM → Int64 → Prop} {q : Nat → Nat → Nat → Bool} (hq : ∀ (r : Int32) (M : MM) (tl : Int64) (cr cM ct : Nat), r = nI cr → M = dM cM → tl = i64 ct → q cr cM ct = true → post r M tl) {M : MM} {tl : Int64} {v0 : Nat} {v1 : Int32} {v2 : Int32} {v3 : Int32} {cM ct cv0 cv1 cv2 cv3 : Nat} (hM : M = dM cM) (ht : tl = i64 ct) (hv0 : v0 = cv0) (hv1 : v1 = nI cv1) (hv2 : v2 = nI cv2) (hv3 : v3 = nI cv3) (h : epX8_wholeThings q  cM ct cv0 cv1 cv2 cv3 = true) : wpX8_wholeThings post  M tl v0 v1 v2 v3 := by
  unfold wpX8_wholeThings
  refine e_and (k_kd hv0) h (fun h => ?_)
  refine e_ite (c_lt (r_rd hM hv0 (rfl : (0 : Nat) = 0)) (rfl : (0 : Int32) = nI 0)) h (fun h => ?_) (fun h => ?_)
  · exact hq _ _ _ _ _ _ (rfl : (0 : Int32) = nI 0) hM ht h
  · refine e_and (k_kd hv0) h (fun h => ?_)
    refine e_ite (c_eq (r_rd hM hv0 (rfl : (1 : Nat) = 1)) hv1) h (fun h => ?_) (fun h => ?_)
    · refine e_ite (c_lt hv2 (rfl : (0 : Int32) = nI 0)) h (fun h => ?_) (fun h => ?_)
      · exact hq _ _ _ _ _ _ (rfl : (0 : Int32) = nI 0) hM ht h
      · refine e_and (k_kd hv0) h (fun h => ?_)
        refine e_ite (c_lt hv2 (r_rd hM hv0 (rfl : (0 : Nat) = 0))) h (fun h => ?_) (fun h => ?_)
        · refine e_and (k_kd hv0) h (fun h => ?_)
          exact hq _ _ _ _ _ _ (r_ite (c_lt (r_b2 f_div (r_sub (r_rd hM hv0 (rfl : (0 : Nat) = 0)) hv2) (rfl : (3 : Int32) = nI 3)) hv3) (r_b2 f_div (r_sub (r_rd hM hv0 (rfl : (0 : Nat) = 0)) hv2) (rfl : (3 : Int32) = nI 3)) hv3) hM ht h
        · exact hq _ _ _ _ _ _ (rfl : (0 : Int32) = nI 0) hM ht h
    · exact hq _ _ _ _ _ _ (rfl : (0 : Int32) = nI 0) hM ht h
noncomputable def epX8_faultOfReading (q : Nat → Nat → Nat → Bool) (cM ct cv0 cv1 cv2 cv3 : Nat) : Bool :=
  (@Bool.rec (fun _ => Bool) false (epX8_wholeThings (fun cr4 cM2 ct3 => (@Bool.rec (fun _ => Bool) (q 0 cM2 ct3) (@Bool.rec (fun _ => Bool) false (@Bool.rec (fun _ => Bool) (q 1 cM2 ct3) (@Bool.rec (fun _ => Bool) false (@Bool.rec (fun _ => Bool) (q 3 cM2 ct3) (q 2 cM2 ct3) (eqN (rd cM2 cv0 1) cv1)) (kdB cv0 8)) (leN 0 (rd cM2 cv0 0))) (kdB cv0 8)) (ltN cr4 cv3))) cM ct cv0 cv1 cv2 cv3) (kdB cv0 8))
set_option maxHeartbeats 4000000 in
set_option maxRecDepth 20000 in
theorem spX8_faultOfReading {post : Int32 → MM → Int64 → Prop} {q : Nat → Nat → Nat → Bool} (hq : ∀ (r : Int32) (M : MM) (tl : Int64) (cr cM ct : Nat), r = nI cr → M = dM cM → tl = i64 ct → q cr cM ct = true → post r M tl) {M : MM} {tl : Int64} {v0 : Nat} {v1 : Int32} {v2 : Int32} {v3 : Int32} {cM ct cv0 cv1 cv2 cv3 : Nat} (hM : M = dM cM) (ht : tl = i64 ct) (hv0 : v0 = cv0) (hv1 : v1 = nI cv1) (hv2 : v2 = nI cv2) (hv3 : v3 = nI cv3) (h : epX8_faultOfReading q  cM ct cv0 cv1 cv2 cv3 = true) : wpX8_faultOfReading post  M tl v0 v1 v2 v3 := by
  unfold wpX8_faultOfReading
  refine e_and (k_kd hv0) h (fun h => ?_)
  refine spX8_wholeThings (fun r4 M2 t3 cr4 cM2 ct3 hr4 hM2 ht3 h => ?_) hM ht hv0 hv1 hv2 hv3 h
  refine e_ite (c_lt hr4 hv3) h (fun h => ?_) (fun h => ?_)
  · refine e_and (k_kd hv0) h (fun h => ?_)
    refine e_ite (c_le (rfl : (0 : Int32) = nI 0) (r_rd hM2 hv0 (rfl : (0 : Nat) = 0))) h (fun h => ?_) (fun h => ?_)
    · refine e_and (k_kd hv0) h (fun h => ?_)
      refine e_ite (c_eq (r_rd hM2 hv0 (rfl : (1 : Nat) = 1)) hv1) h (fun h => ?_) (fun h => ?_)
      · exact hq _ _ _ _ _ _ (rfl : (2 : Int32) = nI 2) hM2 ht3 h
      · exact hq _ _ _ _ _ _ (rfl : (3 : Int32) = nI 3) hM2 ht3 h
    · exact hq _ _ _ _ _ _ (rfl : (1 : Int32) = nI 1) hM2 ht3 h
  · exact hq _ _ _ _ _ _ (rfl : (0 : Int32) = nI 0) hM2 ht3 h
noncomputable def eX9_append_3 (q : Nat → Nat → Bool) (n : Nat) : Nat → Nat → Nat → Nat → Bool :=
  @Nat.rec (fun _ => Nat → Nat → Nat → Nat → Bool) (fun _ _ _ _ => false) (fun _ ih cM ct cv1 cv3 => (@Bool.rec (fun _ => Bool) (@Bool.rec (fun _ => Bool) (@Bool.rec (fun _ => Bool) false (wrB (fun cM2 => (wrB (fun cM3 => (ih cM3 ct cv1 (aN cv3 4294967288))) cM2 1 1 (aN (rd cM2 1 1) 1))) cM 2 (tN (rd cM 1 1)) (Nat.land (tr32 (b64i f_lushr cv1 cv3)) 255)) (inN (rd cM 1 1) (alF 2))) (q cM ct) (leN 400 (rd cM 1 1))) (q cM ct) (ltN cv3 0))) n
set_option maxHeartbeats 4000000 in
set_option maxRecDepth 20000 in
theorem sX9_append_3 {post : MM → Int64 → Prop} {q : Nat → Nat → Bool} (hq : ∀ (M : MM) (tl : Int64) (cM ct : Nat), M = dM cM → tl = i64 ct → q cM ct = true → post M tl) : ∀ (n : Nat) (M : MM) (tl : Int64) (v1 : Int64) (v3 : Int32) (cM ct cv1 cv3 : Nat), M = dM cM → tl = i64 ct → v1 = i64 cv1 → v3 = nI cv3 → eX9_append_3 q  n cM ct cv1 cv3 = true → wX9_append_3 post  n M tl v1 v3 := by
  intro n
  induction n with
  | zero => intro M tl v1 v3 cM ct cv1 cv3 hM ht hv1 hv3 h; exact Bool.noConfusion h
  | succ n ih =>
    intro M tl v1 v3 cM ct cv1 cv3 hM ht hv1 hv3 h
    unfold wX9_append_3
    refine e_ite (c_lt hv3 (rfl : (0 : Int32) = nI 0)) h (fun h => ?_) (fun h => ?_)
    · exact hq _ _ _ _ hM ht h
    · refine e_ite (c_le (rfl : (400 : Int32) = nI 400) (r_rd hM (rfl : (1 : Nat) = 1) (rfl : (1 : Nat) = 1))) h (fun h => ?_) (fun h => ?_)
      · exact hq _ _ _ _ hM ht h
      · refine e_and (k_in (r_rd hM (rfl : (1 : Nat) = 1) (rfl : (1 : Nat) = 1)) (r_al (rfl : (2 : Nat) = 2))) h (fun h => ?_)
        refine e_wr h hM (rfl : (2 : Nat) = 2) (r_nat (r_rd hM (rfl : (1 : Nat) = 1) (rfl : (1 : Nat) = 1))) (r_and (r_tr (r_b64i f_lushr hv1 hv3)) (rfl : (255 : Int32) = nI 255)) (fun M2 cM2 hM2 h => ?_)
        refine e_wr h hM2 (rfl : (1 : Nat) = 1) (rfl : (1 : Nat) = 1) (r_add (r_rd hM2 (rfl : (1 : Nat) = 1) (rfl : (1 : Nat) = 1)) (rfl : (1 : Int32) = nI 1)) (fun M3 cM3 hM3 h => ?_)
        exact ih _ _ _ _ _ _ _ _ hM3 ht hv1 (r_add hv3 lm8) h
noncomputable def epX9_append (q : Nat → Nat → Bool) (cM ct cv1 : Nat) : Bool :=
  (eX9_append_3 q  5000 cM ct cv1 56)
set_option maxHeartbeats 4000000 in
set_option maxRecDepth 20000 in
theorem spX9_append {post : MM → Int64 → Prop} {q : Nat → Nat → Bool} (hq : ∀ (M : MM) (tl : Int64) (cM ct : Nat), M = dM cM → tl = i64 ct → q cM ct = true → post M tl) {M : MM} {tl : Int64} {v1 : Int64} {cM ct cv1 : Nat} (hM : M = dM cM) (ht : tl = i64 ct) (hv1 : v1 = i64 cv1) (h : epX9_append q  cM ct cv1 = true) : wpX9_append post  M tl v1 := by
  unfold wpX9_append
  exact ⟨5000, sX9_append_3 hq  5000 _ _ _ _ _ _ _ _ hM ht hv1 (rfl : (56 : Int32) = nI 56) h⟩
noncomputable def epX9_byteAt (q : Nat → Nat → Nat → Bool) (cM ct cv1 : Nat) : Bool :=
  (@Bool.rec (fun _ => Bool) (@Bool.rec (fun _ => Bool) (@Bool.rec (fun _ => Bool) (@Bool.rec (fun _ => Bool) false (q (rd cM 2 (tN cv1)) cM ct) (inN cv1 (alF 2))) (q 4294967295 cM ct) (leN 400 cv1)) (q 4294967295 cM ct) (leN (rd cM 1 1) cv1)) (q 4294967295 cM ct) (ltN cv1 0))
set_option maxHeartbeats 4000000 in
set_option maxRecDepth 20000 in
theorem spX9_byteAt {post : Int32 → MM → Int64 → Prop} {q : Nat → Nat → Nat → Bool} (hq : ∀ (r : Int32) (M : MM) (tl : Int64) (cr cM ct : Nat), r = nI cr → M = dM cM → tl = i64 ct → q cr cM ct = true → post r M tl) {M : MM} {tl : Int64} {v1 : Int32} {cM ct cv1 : Nat} (hM : M = dM cM) (ht : tl = i64 ct) (hv1 : v1 = nI cv1) (h : epX9_byteAt q  cM ct cv1 = true) : wpX9_byteAt post  M tl v1 := by
  unfold wpX9_byteAt
  refine e_ite (c_lt hv1 (rfl : (0 : Int32) = nI 0)) h (fun h => ?_) (fun h => ?_)
  · exact hq _ _ _ _ _ _ lm1 hM ht h
  · refine e_ite (c_le (r_rd hM (rfl : (1 : Nat) = 1) (rfl : (1 : Nat) = 1)) hv1) h (fun h => ?_) (fun h => ?_)
    · exact hq _ _ _ _ _ _ lm1 hM ht h
    · refine e_ite (c_le (rfl : (400 : Int32) = nI 400) hv1) h (fun h => ?_) (fun h => ?_)
      · exact hq _ _ _ _ _ _ lm1 hM ht h
      · refine e_and (k_in hv1 (r_al (rfl : (2 : Nat) = 2))) h (fun h => ?_)
        exact hq _ _ _ _ _ _ (r_rd hM (rfl : (2 : Nat) = 2) (r_nat hv1)) hM ht h
