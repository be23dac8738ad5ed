def wpX5_isFull (post : Int32 → MM → Int64 → Prop) (M : MM) (tl : Int64) (v0 : Nat) : Prop :=
  (kd (v0) = 5 ∧ (kd (v0) = 5 ∧ (if (M v0 3) < (nI (al v0)) then post 0 M tl else post 1 M tl)))
set_option maxHeartbeats 4000000 in
set_option maxRecDepth 20000 in
theorem ctX5_isFull {E : EV} {ad : Nat → Nat} {M : MM} {tl : Int64} {Φ : Option Value → va_W → Prop} {post : Int32 → MM → Int64 → Prop} {v0 : Nat} (h : wpX5_isFull post M tl v0) (hp : ∀ r M tl, post r M tl → Φ (some (.int r)) (WM E ad M tl)) : Tm E kX5_isFull (WM E ad M tl) [.ref (ad (v0))] Φ := by
  unfold wpX5_isFull at h
  show T E kX5_isFull 0 0 (WM E ad M tl) 0 [(0, .ref (ad (v0)))] [] Φ
  refine tj_aload_n rfl dX5_isFull_0 rfl ?_
  obtain ⟨hk1, h⟩ := h
  refine gf5_size (a := v0) hk1 rfl dX5_isFull_1 fl_X5_20 ?_
  refine tj_aload_n rfl dX5_isFull_4 rfl ?_
  obtain ⟨hk2, h⟩ := h
  refine gf5_most (a := v0) hk2 rfl dX5_isFull_5 fl_X5_7 ?_
  refine tj_icmp_lt (tgt := 15) rfl rfl dX5_isFull_8 (fun hc => ?_) (fun hc => ?_)
  · rw [if_pos hc] at h
    refine tj_iconst (v := 0) rfl dX5_isFull_15 (by decide) ?_
    exact tj_ireturn (ty := .boolean) dX5_isFull_16 rfl rfl (Nat.zero_le _) (Nat.zero_le _) (hp _ _ _ h)
  · rw [if_neg hc] at h
    refine tj_iconst (v := 1) rfl dX5_isFull_11 (by decide) ?_
    refine tj_goto (tgt := 16) rfl dX5_isFull_12 ?_
    exact tj_ireturn (ty := .boolean) dX5_isFull_16 rfl rfl (Nat.zero_le _) (Nat.zero_le _) (hp _ _ _ h)
def wpX5_setCell (post : MM → Int64 → Prop) (M : MM) (tl : Int64) (v0 : Nat) (v1 : Int32) (v2 : Int32) (v3 : Int32) : Prop :=
  (kd (v0) = 5 ∧ (if (nI (wd v0)) ≤ v2 then post M tl else (kd (v0) = 5 ∧ (kd (v0) = 5 ∧ (kd (v0 + 1) = 12 ∧ (vp_in ((v1 * (nI (wd v0))) + v2) (al (v0 + 1)) ∧ (∀ M6 : MM, M6 = mset M (v0 + 1) ((v1 * (nI (wd v0))) + v2 : Int32).toNatClampNeg v3 → post M6 tl)))))))
set_option maxHeartbeats 4000000 in
set_option maxRecDepth 20000 in
theorem ctX5_setCell {E : EV} {ad : Nat → Nat} {M : MM} {tl : Int64} {Φ : Option Value → va_W → Prop} {post : MM → Int64 → Prop} {v0 : Nat} {v1 : Int32} {v2 : Int32} {v3 : Int32} (h : wpX5_setCell post M tl v0 v1 v2 v3) (hp : ∀ M tl, post M tl → Φ none (WM E ad M tl)) : Tm E kX5_setCell (WM E ad M tl) [.ref (ad (v0)), .int v1, .int v2, .int v3] Φ := by
  unfold wpX5_setCell at h
  show T E kX5_setCell 0 0 (WM E ad M tl) 0 [(0, .ref (ad (v0))), (1, .int v1), (2, .int v2), (3, .int v3)] [] Φ
  refine tj_iload_n rfl dX5_setCell_0 rfl ?_
  refine tj_aload_n rfl dX5_setCell_1 rfl ?_
  obtain ⟨hk1, h⟩ := h
  refine gf5_width (a := v0) hk1 rfl dX5_setCell_2 fl_X5_13 ?_
  refine tj_icmp_ge (tgt := 22) rfl rfl dX5_setCell_5 (fun hc => ?_) (fun hc => ?_)
  · rw [if_pos hc] at h
    exact tj_return dX5_setCell_22 rfl (Nat.zero_le _) (Nat.zero_le _) (hp _ _ h)
  · rw [if_neg hc] at h
    refine tj_aload_n rfl dX5_setCell_8 rfl ?_
    obtain ⟨hk2, h⟩ := h
    refine gf5_cells (a := v0) hk2 rfl dX5_setCell_9 fl_X5_16 ?_
    refine tj_iload_n rfl dX5_setCell_12 rfl ?_
    refine tj_aload_n rfl dX5_setCell_13 rfl ?_
    obtain ⟨hk3, h⟩ := h
    refine gf5_width (a := v0) hk3 rfl dX5_setCell_14 fl_X5_13 ?_
    refine tj_imul rfl dX5_setCell_17 ?_
    refine tj_iload_n rfl dX5_setCell_18 rfl ?_
    refine tj_iadd rfl dX5_setCell_19 ?_
    refine tj_iload_n rfl dX5_setCell_20 rfl ?_
    obtain ⟨hk4, h⟩ := h
    obtain ⟨hi5, h⟩ := h
    refine af_iast (a := v0 + 1) hk4 rfl dX5_setCell_21 hi5 ?_
    replace h := h _ rfl
    generalize mset M (v0 + 1) ((v1 * (nI (wd v0))) + v2 : Int32).toNatClampNeg v3 = M6 at h ⊢
    exact tj_return dX5_setCell_22 rfl (Nat.zero_le _) (Nat.zero_le _) (hp _ _ h)
def wpX5_addRow (post : MM → Int64 → Prop) (M : MM) (tl : Int64) (v0 : Nat) (v1 : Int32) (v2 : Int32) (v3 : Int32) (v4 : Int32) : Prop :=
  (kd (v0) = 5 ∧ wpX5_isFull (fun r4 M2 t3 => (if r4 = 0 then (kd (v0) = 5 ∧ (kd (v0) = 5 ∧ (kd (v0) = 5 ∧ (∀ M8 : MM, M8 = mset M2 v0 3 ((M2 v0 3) + 1) → (kd (v0) = 5 ∧ wpX5_setCell (fun M10 t11 => (kd (v0) = 5 ∧ wpX5_setCell (fun M13 t14 => (kd (v0) = 5 ∧ wpX5_setCell (fun M16 t17 => (kd (v0) = 5 ∧ wpX5_setCell (fun M19 t20 => post M19 t20) M16 t17 v0 (M2 v0 3) 3 v4)) M13 t14 v0 (M2 v0 3) 2 v3)) M10 t11 v0 (M2 v0 3) 1 v2)) M8 t3 v0 (M2 v0 3) 0 v1))))) else post M2 t3)) M tl v0)
set_option maxHeartbeats 4000000 in
set_option maxRecDepth 20000 in
theorem ctX5_addRow {E : EV} {ad : Nat → Nat} {M : MM} {tl : Int64} {Φ : Option Value → va_W → Prop} {post : MM → Int64 → Prop} {v0 : Nat} {v1 : Int32} {v2 : Int32} {v3 : Int32} {v4 : Int32} (h : wpX5_addRow post M tl v0 v1 v2 v3 v4) (hp : ∀ M tl, post M tl → Φ none (WM E ad M tl)) : Tm E kX5_addRow (WM E ad M tl) [.ref (ad (v0)), .int v1, .int v2, .int v3, .int v4] Φ := by
  unfold wpX5_addRow at h
  show T E kX5_addRow 0 0 (WM E ad M tl) 0 [(0, .ref (ad (v0))), (1, .int v1), (2, .int v2), (3, .int v3), (4, .int v4)] [] Φ
  refine tj_aload_n rfl dX5_addRow_0 rfl ?_
  obtain ⟨hk1, h⟩ := h
  refine cf_V5 (a := v0) (z := kX5_isFull) (As := []) hk1 rfl dX5_addRow_1 rfl ml_X5_23 okX5_isFull rfl (rm_ok rfl) (Nat.le_of_ble_eq_true rfl) (Nat.le_of_ble_eq_true rfl) rfl rfl ?_
  refine ctX5_isFull h (fun r4 M2 t3 h => ?_)
  refine tj_if_eq (tgt := 8) rfl rfl dX5_addRow_4 (fun hc => ?_) (fun hc => ?_)
  · rw [if_pos hc] at h
    refine tj_aload_n rfl dX5_addRow_8 rfl ?_
    obtain ⟨hk5, h⟩ := h
    refine gf5_size (a := v0) hk5 rfl dX5_addRow_9 fl_X5_20 ?_
    refine tj_istore (l' := [(0, _), (1, _), (2, _), (3, _), (4, _), (5, _)]) rfl dX5_addRow_12 (by decide) rfl ?_
    refine tj_aload_n rfl dX5_addRow_14 rfl ?_
    refine tj_dup rfl dX5_addRow_15 rfl ?_
    obtain ⟨hk6, h⟩ := h
    refine gf5_size (a := v0) hk6 rfl dX5_addRow_16 fl_X5_20 ?_
    refine tj_iconst (v := 1) rfl dX5_addRow_19 (by decide) ?_
    refine tj_iadd rfl dX5_addRow_20 ?_
    obtain ⟨hk7, h⟩ := h
    refine pf5_size (a := v0) hk7 rfl dX5_addRow_21 fl_X5_20 ?_
    replace h := h _ rfl
    generalize mset M2 v0 3 ((M2 v0 3) + 1) = M8 at h ⊢
    refine tj_aload_n rfl dX5_addRow_24 rfl ?_
    refine tj_iload rfl dX5_addRow_25 rfl ?_
    refine tj_iconst (v := 0) rfl dX5_addRow_27 (by decide) ?_
    refine tj_iload_n rfl dX5_addRow_28 rfl ?_
    obtain ⟨hk9, h⟩ := h
    refine cf_V5 (a := v0) (z := kX5_setCell) (As := [_, _, _]) hk9 rfl dX5_addRow_29 rfl ml_X5_27 okX5_setCell rfl (rm_ok rfl) (Nat.le_of_ble_eq_true rfl) (Nat.le_of_ble_eq_true rfl) rfl rfl ?_
    refine ctX5_setCell h (fun M10 t11 h => ?_)
    refine tj_aload_n rfl dX5_addRow_32 rfl ?_
    refine tj_iload rfl dX5_addRow_33 rfl ?_
    refine tj_iconst (v := 1) rfl dX5_addRow_35 (by decide) ?_
    refine tj_iload_n rfl dX5_addRow_36 rfl ?_
    obtain ⟨hk12, h⟩ := h
    refine cf_V5 (a := v0) (z := kX5_setCell) (As := [_, _, _]) hk12 rfl dX5_addRow_37 rfl ml_X5_27 okX5_setCell rfl (rm_ok rfl) (Nat.le_of_ble_eq_true rfl) (Nat.le_of_ble_eq_true rfl) rfl rfl ?_
    refine ctX5_setCell h (fun M13 t14 h => ?_)
    refine tj_aload_n rfl dX5_addRow_40 rfl ?_
    refine tj_iload rfl dX5_addRow_41 rfl ?_
    refine tj_iconst (v := 2) rfl dX5_addRow_43 (by decide) ?_
    refine tj_iload_n rfl dX5_addRow_44 rfl ?_
    obtain ⟨hk15, h⟩ := h
    refine cf_V5 (a := v0) (z := kX5_setCell) (As := [_, _, _]) hk15 rfl dX5_addRow_45 rfl ml_X5_27 okX5_setCell rfl (rm_ok rfl) (Nat.le_of_ble_eq_true rfl) (Nat.le_of_ble_eq_true rfl) rfl rfl ?_
    refine ctX5_setCell h (fun M16 t17 h => ?_)
    refine tj_aload_n rfl dX5_addRow_48 rfl ?_
    refine tj_iload rfl dX5_addRow_49 rfl ?_
    refine tj_iconst (v := 3) rfl dX5_addRow_51 (by decide) ?_
    refine tj_iload rfl dX5_addRow_52 rfl ?_
    obtain ⟨hk18, h⟩ := h
    refine cf_V5 (a := v0) (z := kX5_setCell) (As := [_, _, _]) hk18 rfl dX5_addRow_54 rfl ml_X5_27 okX5_setCell rfl (rm_ok rfl) (Nat.le_of_ble_eq_true rfl) (Nat.le_of_ble_eq_true rfl) rfl rfl ?_
    refine ctX5_setCell h (fun M19 t20 h => ?_)
    exact tj_return dX5_addRow_57 rfl (Nat.zero_le _) (Nat.zero_le _) (hp _ _ h)
  · rw [if_neg hc] at h
    exact tj_return dX5_addRow_7 rfl (Nat.zero_le _) (Nat.zero_le _) (hp _ _ h)
def wpX5_cell (post : Int32 → MM → Int64 → Prop) (M : MM) (tl : Int64) (v0 : Nat) (v1 : Int32) (v2 : Int32) : Prop :=
  (if v1 < 0 then post 0 M tl else (kd (v0) = 5 ∧ (if (M v0 3) ≤ v1 then post 0 M tl else (if v2 < 0 then post 0 M tl else (kd (v0) = 5 ∧ (if v2 < (nI (wd v0)) then (kd (v0) = 5 ∧ (kd (v0) = 5 ∧ (kd (v0 + 1) = 12 ∧ (vp_in ((v1 * (nI (wd v0))) + v2) (al (v0 + 1)) ∧ post (M (v0 + 1) ((v1 * (nI (wd v0))) + v2 : Int32).toNatClampNeg) M tl)))) else post 0 M tl))))))
set_option maxHeartbeats 4000000 in
set_option maxRecDepth 20000 in
theorem ctX5_cell {E : EV} {ad : Nat → Nat} {M : MM} {tl : Int64} {Φ : Option Value → va_W → Prop} {post : Int32 → MM → Int64 → Prop} {v0 : Nat} {v1 : Int32} {v2 : Int32} (h : wpX5_cell post M tl v0 v1 v2) (hp : ∀ r M tl, post r M tl → Φ (some (.int r)) (WM E ad M tl)) : Tm E kX5_cell (WM E ad M tl) [.ref (ad (v0)), .int v1, .int v2] Φ := by
  unfold wpX5_cell at h
  show T E kX5_cell 0 0 (WM E ad M tl) 0 [(0, .ref (ad (v0))), (1, .int v1), (2, .int v2)] [] Φ
  refine tj_iload_n rfl dX5_cell_0 rfl ?_
  refine tj_if_lt (tgt := 24) rfl rfl dX5_cell_1 (fun hc => ?_) (fun hc => ?_)
  · rw [if_pos hc] at h
    refine tj_iconst (v := 0) rfl dX5_cell_24 (by decide) ?_
    exact tj_ireturn (ty := .int) dX5_cell_25 rfl rfl (Nat.zero_le _) (Nat.zero_le _) (hp _ _ _ h)
  · rw [if_neg hc] at h
    refine tj_iload_n rfl dX5_cell_4 rfl ?_
    refine tj_aload_n rfl dX5_cell_5 rfl ?_
    obtain ⟨hk1, h⟩ := h
    refine gf5_size (a := v0) hk1 rfl dX5_cell_6 fl_X5_20 ?_
    refine tj_icmp_ge (tgt := 24) rfl rfl dX5_cell_9 (fun hc => ?_) (fun hc => ?_)
    · rw [if_pos hc] at h
      refine tj_iconst (v := 0) rfl dX5_cell_24 (by decide) ?_
      exact tj_ireturn (ty := .int) dX5_cell_25 rfl rfl (Nat.zero_le _) (Nat.zero_le _) (hp _ _ _ h)
    · rw [if_neg hc] at h
      refine tj_iload_n rfl dX5_cell_12 rfl ?_
      refine tj_if_lt (tgt := 24) rfl rfl dX5_cell_13 (fun hc => ?_) (fun hc => ?_)
      · rw [if_pos hc] at h
        refine tj_iconst (v := 0) rfl dX5_cell_24 (by decide) ?_
        exact tj_ireturn (ty := .int) dX5_cell_25 rfl rfl (Nat.zero_le _) (Nat.zero_le _) (hp _ _ _ h)
      · rw [if_neg hc] at h
        refine tj_iload_n rfl dX5_cell_16 rfl ?_
        refine tj_aload_n rfl dX5_cell_17 rfl ?_
        obtain ⟨hk2, h⟩ := h
        refine gf5_width (a := v0) hk2 rfl dX5_cell_18 fl_X5_13 ?_
        refine tj_icmp_lt (tgt := 26) rfl rfl dX5_cell_21 (fun hc => ?_) (fun hc => ?_)
        · rw [if_pos hc] at h
          refine tj_aload_n rfl dX5_cell_26 rfl ?_
          obtain ⟨hk3, h⟩ := h
          refine gf5_cells (a := v0) hk3 rfl dX5_cell_27 fl_X5_16 ?_
          refine tj_iload_n rfl dX5_cell_30 rfl ?_
          refine tj_aload_n rfl dX5_cell_31 rfl ?_
          obtain ⟨hk4, h⟩ := h
          refine gf5_width (a := v0) hk4 rfl dX5_cell_32 fl_X5_13 ?_
          refine tj_imul rfl dX5_cell_35 ?_
          refine tj_iload_n rfl dX5_cell_36 rfl ?_
          refine tj_iadd rfl dX5_cell_37 ?_
          obtain ⟨hk5, h⟩ := h
          obtain ⟨hi6, h⟩ := h
          refine af_iald (a := v0 + 1) hk5 rfl dX5_cell_38 hi6 ?_
          exact tj_ireturn (ty := .int) dX5_cell_39 rfl rfl (Nat.zero_le _) (Nat.zero_le _) (hp _ _ _ h)
        · rw [if_neg hc] at h
          refine tj_iconst (v := 0) rfl dX5_cell_24 (by decide) ?_
          exact tj_ireturn (ty := .int) dX5_cell_25 rfl rfl (Nat.zero_le _) (Nat.zero_le _) (hp _ _ _ h)
def wpX5_empty (post : Int32 → MM → Int64 → Prop) (M : MM) (tl : Int64) (v0 : Nat) : Prop :=
  (kd (v0) = 5 ∧ (kd (v0) = 5 ∧ (∀ M3 : MM, M3 = mset M v0 3 0 → post (M v0 3) M3 tl)))
set_option maxHeartbeats 4000000 in
set_option maxRecDepth 20000 in
theorem ctX5_empty {E : EV} {ad : Nat → Nat} {M : MM} {tl : Int64} {Φ : Option Value → va_W → Prop} {post : Int32 → MM → Int64 → Prop} {v0 : Nat} (h : wpX5_empty post M tl v0) (hp : ∀ r M tl, post r M tl → Φ (some (.int r)) (WM E ad M tl)) : Tm E kX5_empty (WM E ad M tl) [.ref (ad (v0))] Φ := by
  unfold wpX5_empty at h
  show T E kX5_empty 0 0 (WM E ad M tl) 0 [(0, .ref (ad (v0)))] [] Φ
  refine tj_aload_n rfl dX5_empty_0 rfl ?_
  obtain ⟨hk1, h⟩ := h
  refine gf5_size (a := v0) hk1 rfl dX5_empty_1 fl_X5_20 ?_
  refine tj_istore_n (l' := [(0, _), (1, _)]) rfl dX5_empty_4 (by decide) rfl ?_
  refine tj_aload_n rfl dX5_empty_5 rfl ?_
  refine tj_iconst (v := 0) rfl dX5_empty_6 (by decide) ?_
  obtain ⟨hk2, h⟩ := h
  refine pf5_size (a := v0) hk2 rfl dX5_empty_7 fl_X5_20 ?_
  replace h := h _ rfl
  generalize mset M v0 3 0 = M3 at h ⊢
  refine tj_iload_n rfl dX5_empty_10 rfl ?_
  exact tj_ireturn (ty := .int) dX5_empty_11 rfl rfl (Nat.zero_le _) (Nat.zero_le _) (hp _ _ _ h)
def wpX5_copyFrom (post : MM → Int64 → Prop) (M : MM) (tl : Int64) (v0 : Nat) (v1 : Nat) : Prop :=
  (kd (v1) = 5 ∧ (kd (v0) = 5 ∧ (∀ M3 : MM, M3 = mset M v0 3 (M v1 3) → (kd (v1) = 5 ∧ (kd (v0) = 5 ∧ (kd (v0) = 5 ∧ (kd (v0 + 1) = 12 ∧ (kd (v1) = 5 ∧ (kd (v1 + 1) = 12 ∧ (kd (v1 + 1) = 12 ∧ (kd (v0 + 1) = 12 ∧ (¬ (if (nI (al (v1 + 1))) < (nI (al (v0 + 1))) then nI (al (v1 + 1)) else nI (al (v0 + 1))) < 0 ∧ ((0 : Int32).toNatClampNeg + (if (nI (al (v1 + 1))) < (nI (al (v0 + 1))) then nI (al (v1 + 1)) else nI (al (v0 + 1)) : Int32).toNatClampNeg ≤ al (v1 + 1) ∧ ((0 : Int32).toNatClampNeg + (if (nI (al (v1 + 1))) < (nI (al (v0 + 1))) then nI (al (v1 + 1)) else nI (al (v0 + 1)) : Int32).toNatClampNeg ≤ al (v0 + 1) ∧ (∀ M15 : MM, M15 = mrow M3 (v0 + 1) (va_cpy (M3 (v1 + 1)) (M3 (v0 + 1)) (0 : Int32).toNatClampNeg (0 : Int32).toNatClampNeg (if (nI (al (v1 + 1))) < (nI (al (v0 + 1))) then nI (al (v1 + 1)) else nI (al (v0 + 1)) : Int32).toNatClampNeg) → post M15 tl)))))))))))))))
set_option maxHeartbeats 4000000 in
set_option maxRecDepth 20000 in
theorem ctX5_copyFrom {E : EV} {ad : Nat → Nat} {M : MM} {tl : Int64} {Φ : Option Value → va_W → Prop} {post : MM → Int64 → Prop} {v0 : Nat} {v1 : Nat} (h : wpX5_copyFrom post M tl v0 v1) (hp : ∀ M tl, post M tl → Φ none (WM E ad M tl)) : Tm E kX5_copyFrom (WM E ad M tl) [.ref (ad (v0)), .ref (ad (v1))] Φ := by
  unfold wpX5_copyFrom at h
  show T E kX5_copyFrom 0 0 (WM E ad M tl) 0 [(0, .ref (ad (v0))), (1, .ref (ad (v1)))] [] Φ
  refine tj_aload_n rfl dX5_copyFrom_0 rfl ?_
  refine tj_aload_n rfl dX5_copyFrom_1 rfl ?_
  obtain ⟨hk1, h⟩ := h
  refine gf5_size (a := v1) hk1 rfl dX5_copyFrom_2 fl_X5_20 ?_
  obtain ⟨hk2, h⟩ := h
  refine pf5_size (a := v0) hk2 rfl dX5_copyFrom_5 fl_X5_20 ?_
  replace h := h _ rfl
  generalize mset M v0 3 (M v1 3) = M3 at h ⊢
  refine tj_aload_n rfl dX5_copyFrom_8 rfl ?_
  obtain ⟨hk4, h⟩ := h
  refine gf5_cells (a := v1) hk4 rfl dX5_copyFrom_9 fl_X5_16 ?_
  refine tj_iconst (v := 0) rfl dX5_copyFrom_12 (by decide) ?_
  refine tj_aload_n rfl dX5_copyFrom_13 rfl ?_
  obtain ⟨hk5, h⟩ := h
  refine gf5_cells (a := v0) hk5 rfl dX5_copyFrom_14 fl_X5_16 ?_
  refine tj_iconst (v := 0) rfl dX5_copyFrom_17 (by decide) ?_
  refine tj_aload_n rfl dX5_copyFrom_18 rfl ?_
  obtain ⟨hk6, h⟩ := h
  refine gf5_cells (a := v0) hk6 rfl dX5_copyFrom_19 fl_X5_16 ?_
  obtain ⟨hk7, h⟩ := h
  refine af_alen (a := v0 + 1) hk7 rfl dX5_copyFrom_22 ?_
  refine tj_aload_n rfl dX5_copyFrom_23 rfl ?_
  obtain ⟨hk8, h⟩ := h
  refine gf5_cells (a := v1) hk8 rfl dX5_copyFrom_24 fl_X5_16 ?_
  obtain ⟨hk9, h⟩ := h
  refine af_alen (a := v1 + 1) hk9 rfl dX5_copyFrom_27 ?_
  refine tj_min ml_X5_31 rfl dX5_copyFrom_28 (Nat.le_of_ble_eq_true rfl) (Nat.le_of_ble_eq_true rfl) (Nat.zero_le _) (Nat.zero_le _) ?_
  obtain ⟨hk10, h⟩ := h
  obtain ⟨hk11, h⟩ := h
  obtain ⟨hy14, h⟩ := h
  obtain ⟨hy12, h⟩ := h
  obtain ⟨hy13, h⟩ := h
  refine tj_copy (a0 := v1 + 1) (a1 := v0 + 1) hk10 hk11 ml_X5_37 rfl dX5_copyFrom_31 (by decide) (by decide) hy14 hy12 hy13 (Nat.le_of_ble_eq_true rfl) (by decide +kernel) ?_
  replace h := h _ rfl
  generalize mrow M3 (v0 + 1) (va_cpy (M3 (v1 + 1)) (M3 (v0 + 1)) (0 : Int32).toNatClampNeg (0 : Int32).toNatClampNeg (if (nI (al (v1 + 1))) < (nI (al (v0 + 1))) then nI (al (v1 + 1)) else nI (al (v0 + 1)) : Int32).toNatClampNeg) = M15 at h ⊢
  exact tj_return dX5_copyFrom_34 rfl (Nat.zero_le _) (Nat.zero_le _) (hp _ _ h)
def wX7_clear_2 (post : MM → Int64 → Prop) : Nat → MM → Int64 → Nat → Int32 → Prop
  | 0, _, _, _, _ => False
  | n + 1, M, tl, v0, v1 =>
    (if 16 ≤ v1 then (kd (v0) = 7 ∧ (kd (v0 + 2) = 5 ∧ wpX5_empty (fun r5 M3 t4 => (kd (v0) = 7 ∧ (kd (v0 + 4) = 5 ∧ wpX5_empty (fun r10 M8 t9 => (kd (v0) = 7 ∧ (kd (v0 + 6) = 5 ∧ wpX5_empty (fun r15 M13 t14 => post M13 t14) M8 t9 (v0 + 6)))) M3 t4 (v0 + 4)))) M tl (v0 + 2))) else (kd (v0) = 7 ∧ (kd (v0 + 1) = 12 ∧ (vp_in v1 (al (v0 + 1)) ∧ (∀ M19 : MM, M19 = mset M (v0 + 1) (v1 : Int32).toNatClampNeg 0 → (wX7_clear_2 post n) M19 tl v0 (v1 + 1))))))
set_option maxHeartbeats 4000000 in
set_option maxRecDepth 20000 in
theorem bX7_clear_2 {E : EV} {ad : Nat → Nat} {Φ : Option Value → va_W → Prop} {post : MM → Int64 → Prop}  (hp : ∀ M tl, post M tl → Φ none (WM E ad M tl)) : ∀ (n : Nat) (M : MM) (tl : Int64) (v0 : Nat) (v1 : Int32), wX7_clear_2 post n M tl v0 v1 → T E kX7_clear 0 0 (WM E ad M tl) 2 [(0, .ref (ad (v0))), (1, .int v1)] [] Φ := by
  intro n
  induction n with
  | zero => intro M tl v0 v1 h; exact False.elim h
  | succ n ih =>
    intro M tl v0 v1 h
    unfold wX7_clear_2 at h
    refine tj_iload_n rfl dX7_clear_2 rfl ?_
    refine tj_bipush (v := 16) rfl dX7_clear_3 (by decide) ?_
    refine tj_icmp_ge (tgt := 21) rfl rfl dX7_clear_5 (fun hc => ?_) (fun hc => ?_)
    · rw [if_pos hc] at h
      refine tj_aload_n rfl dX7_clear_21 rfl ?_
      obtain ⟨hk1, h⟩ := h
      refine gf7_works (a := v0) hk1 rfl dX7_clear_22 fl_X7_20 ?_
      obtain ⟨hk2, h⟩ := h
      refine cf_V5 (a := v0 + 2) (z := kX5_empty) (As := []) hk2 rfl dX7_clear_25 rfl ml_X7_30 okX5_empty rfl (rm_ok rfl) (Nat.le_of_ble_eq_true rfl) (Nat.le_of_ble_eq_true rfl) rfl rfl ?_
      refine ctX5_empty h (fun r5 M3 t4 h => ?_)
      refine tj_pop rfl dX7_clear_28 rfl ?_
      refine tj_aload_n rfl dX7_clear_29 rfl ?_
      obtain ⟨hk6, h⟩ := h
      refine gf7_wants (a := v0) hk6 rfl dX7_clear_30 fl_X7_24 ?_
      obtain ⟨hk7, h⟩ := h
      refine cf_V5 (a := v0 + 4) (z := kX5_empty) (As := []) hk7 rfl dX7_clear_33 rfl ml_X7_30 okX5_empty rfl (rm_ok rfl) (Nat.le_of_ble_eq_true rfl) (Nat.le_of_ble_eq_true rfl) rfl rfl ?_
      refine ctX5_empty h (fun r10 M8 t9 h => ?_)
      refine tj_pop rfl dX7_clear_36 rfl ?_
      refine tj_aload_n rfl dX7_clear_37 rfl ?_
      obtain ⟨hk11, h⟩ := h
      refine gf7_seen (a := v0) hk11 rfl dX7_clear_38 fl_X7_27 ?_
      obtain ⟨hk12, h⟩ := h
      refine cf_V5 (a := v0 + 6) (z := kX5_empty) (As := []) hk12 rfl dX7_clear_41 rfl ml_X7_30 okX5_empty rfl (rm_ok rfl) (Nat.le_of_ble_eq_true rfl) (Nat.le_of_ble_eq_true rfl) rfl rfl ?_
      refine ctX5_empty h (fun r15 M13 t14 h => ?_)
      refine tj_pop rfl dX7_clear_44 rfl ?_
      exact tj_return dX7_clear_45 rfl (Nat.zero_le _) (Nat.zero_le _) (hp _ _ h)
    · rw [if_neg hc] at h
      refine tj_aload_n rfl dX7_clear_8 rfl ?_
      obtain ⟨hk16, h⟩ := h
      refine gf7_things (a := v0) hk16 rfl dX7_clear_9 fl_X7_9 ?_
      refine tj_iload_n rfl dX7_clear_12 rfl ?_
      refine tj_iconst (v := 0) rfl dX7_clear_13 (by decide) ?_
      obtain ⟨hk17, h⟩ := h
      obtain ⟨hi18, h⟩ := h
      refine af_iast (a := v0 + 1) hk17 rfl dX7_clear_14 hi18 ?_
      replace h := h _ rfl
      generalize mset M (v0 + 1) (v1 : Int32).toNatClampNeg 0 = M19 at h ⊢
      refine tj_iinc (v := _ + 1) (l' := [(0, _), (1, _)]) rfl dX7_clear_15 rfl (by decide) rfl rfl ?_
      refine tj_goto (tgt := 2) rfl dX7_clear_18 ?_
      exact ih _ _ _ _ h
def wpX7_clear (post : MM → Int64 → Prop) (M : MM) (tl : Int64) (v0 : Nat) : Prop :=
  (∃ n9, wX7_clear_2 post  n9 M tl v0 0)
set_option maxHeartbeats 4000000 in
set_option maxRecDepth 20000 in
theorem ctX7_clear {E : EV} {ad : Nat → Nat} {M : MM} {tl : Int64} {Φ : Option Value → va_W → Prop} {post : MM → Int64 → Prop} {v0 : Nat} (h : wpX7_clear post M tl v0) (hp : ∀ M tl, post M tl → Φ none (WM E ad M tl)) : Tm E kX7_clear (WM E ad M tl) [.ref (ad (v0))] Φ := by
  unfold wpX7_clear at h
  show T E kX7_clear 0 0 (WM E ad M tl) 0 [(0, .ref (ad (v0)))] [] Φ
  refine tj_iconst (v := 0) rfl dX7_clear_0 (by decide) ?_
  refine tj_istore_n (l' := [(0, _), (1, _)]) rfl dX7_clear_1 (by decide) rfl ?_
  obtain ⟨n9, h⟩ := h
  exact bX7_clear_2 hp  n9 _ _ _ _ h
def wpX7_copyFrom (post : MM → Int64 → Prop) (M : MM) (tl : Int64) (v0 : Nat) (v1 : Nat) : Prop :=
  (kd (v1) = 7 ∧ (kd (v0) = 7 ∧ (kd (v1 + 1) = 12 ∧ (kd (v0 + 1) = 12 ∧ ((0 : Int32).toNatClampNeg + (16 : Int32).toNatClampNeg ≤ al (v1 + 1) ∧ ((0 : Int32).toNatClampNeg + (16 : Int32).toNatClampNeg ≤ al (v0 + 1) ∧ (∀ M7 : MM, M7 = mrow M (v0 + 1) (va_cpy (M (v1 + 1)) (M (v0 + 1)) (0 : Int32).toNatClampNeg (0 : Int32).toNatClampNeg (16 : Int32).toNatClampNeg) → (kd (v0) = 7 ∧ (kd (v1) = 7 ∧ (kd (v0 + 2) = 5 ∧ wpX5_copyFrom (fun M11 t12 => (kd (v0) = 7 ∧ (kd (v1) = 7 ∧ (kd (v0 + 4) = 5 ∧ wpX5_copyFrom (fun M16 t17 => (kd (v0) = 7 ∧ (kd (v1) = 7 ∧ (kd (v0 + 6) = 5 ∧ wpX5_copyFrom (fun M21 t22 => post M21 t22) M16 t17 (v0 + 6) (v1 + 6))))) M11 t12 (v0 + 4) (v1 + 4))))) M7 tl (v0 + 2) (v1 + 2)))))))))))
set_option maxHeartbeats 4000000 in
set_option maxRecDepth 20000 in
theorem ctX7_copyFrom {E : EV} {ad : Nat → Nat} {M : MM} {tl : Int64} {Φ : Option Value → va_W → Prop} {post : MM → Int64 → Prop} {v0 : Nat} {v1 : Nat} (h : wpX7_copyFrom post M tl v0 v1) (hp : ∀ M tl, post M tl → Φ none (WM E ad M tl)) : Tm E kX7_copyFrom (WM E ad M tl) [.ref (ad (v0)), .ref (ad (v1))] Φ := by
  unfold wpX7_copyFrom at h
  show T E kX7_copyFrom 0 0 (WM E ad M tl) 0 [(0, .ref (ad (v0))), (1, .ref (ad (v1)))] [] Φ
  refine tj_aload_n rfl dX7_copyFrom_0 rfl ?_
  obtain ⟨hk1, h⟩ := h
  refine gf7_things (a := v1) hk1 rfl dX7_copyFrom_1 fl_X7_9 ?_
  refine tj_iconst (v := 0) rfl dX7_copyFrom_4 (by decide) ?_
  refine tj_aload_n rfl dX7_copyFrom_5 rfl ?_
  obtain ⟨hk2, h⟩ := h
  refine gf7_things (a := v0) hk2 rfl dX7_copyFrom_6 fl_X7_9 ?_
  refine tj_iconst (v := 0) rfl dX7_copyFrom_9 (by decide) ?_
  refine tj_bipush (v := 16) rfl dX7_copyFrom_10 (by decide) ?_
  obtain ⟨hk3, h⟩ := h
  obtain ⟨hk4, h⟩ := h
  obtain ⟨hy5, h⟩ := h
  obtain ⟨hy6, h⟩ := h
  refine tj_copy (a0 := v1 + 1) (a1 := v0 + 1) hk3 hk4 ml_X7_34 rfl dX7_copyFrom_12 (by decide) (by decide) (by decide) hy5 hy6 (Nat.le_of_ble_eq_true rfl) (by decide +kernel) ?_
  replace h := h _ rfl
  generalize mrow M (v0 + 1) (va_cpy (M (v1 + 1)) (M (v0 + 1)) (0 : Int32).toNatClampNeg (0 : Int32).toNatClampNeg (16 : Int32).toNatClampNeg) = M7 at h ⊢
  refine tj_aload_n rfl dX7_copyFrom_15 rfl ?_
  obtain ⟨hk8, h⟩ := h
  refine gf7_works (a := v0) hk8 rfl dX7_copyFrom_16 fl_X7_20 ?_
  refine tj_aload_n rfl dX7_copyFrom_19 rfl ?_
  obtain ⟨hk9, h⟩ := h
  refine gf7_works (a := v1) hk9 rfl dX7_copyFrom_20 fl_X7_20 ?_
  obtain ⟨hk10, h⟩ := h
  refine cf_V5 (a := v0 + 2) (z := kX5_copyFrom) (As := [_]) hk10 rfl dX7_copyFrom_23 rfl ml_X7_40 okX5_copyFrom rfl (rm_ok rfl) (Nat.le_of_ble_eq_true rfl) (Nat.le_of_ble_eq_true rfl) rfl rfl ?_
  refine ctX5_copyFrom h (fun M11 t12 h => ?_)
  refine tj_aload_n rfl dX7_copyFrom_26 rfl ?_
  obtain ⟨hk13, h⟩ := h
  refine gf7_wants (a := v0) hk13 rfl dX7_copyFrom_27 fl_X7_24 ?_
  refine tj_aload_n rfl dX7_copyFrom_30 rfl ?_
  obtain ⟨hk14, h⟩ := h
  refine gf7_wants (a := v1) hk14 rfl dX7_copyFrom_31 fl_X7_24 ?_
  obtain ⟨hk15, h⟩ := h
  refine cf_V5 (a := v0 + 4) (z := kX5_copyFrom) (As := [_]) hk15 rfl dX7_copyFrom_34 rfl ml_X7_40 okX5_copyFrom rfl (rm_ok rfl) (Nat.le_of_ble_eq_true rfl) (Nat.le_of_ble_eq_true rfl) rfl rfl ?_
  refine ctX5_copyFrom h (fun M16 t17 h => ?_)
  refine tj_aload_n rfl dX7_copyFrom_37 rfl ?_
  obtain ⟨hk18, h⟩ := h
  refine gf7_seen (a := v0) hk18 rfl dX7_copyFrom_38 fl_X7_27 ?_
  refine tj_aload_n rfl dX7_copyFrom_41 rfl ?_
  obtain ⟨hk19, h⟩ := h
  refine gf7_seen (a := v1) hk19 rfl dX7_copyFrom_42 fl_X7_27 ?_
  obtain ⟨hk20, h⟩ := h
  refine cf_V5 (a := v0 + 6) (z := kX5_copyFrom) (As := [_]) hk20 rfl dX7_copyFrom_45 rfl ml_X7_40 okX5_copyFrom rfl (rm_ok rfl) (Nat.le_of_ble_eq_true rfl) (Nat.le_of_ble_eq_true rfl) rfl rfl ?_
  refine ctX5_copyFrom h (fun M21 t22 h => ?_)
  exact tj_return dX7_copyFrom_48 rfl (Nat.zero_le _) (Nat.zero_le _) (hp _ _ h)
def wpX7_thingAt (post : Int32 → MM → Int64 → Prop) (M : MM) (tl : Int64) (v0 : Nat) (v1 : Int32) (v2 : Int32) : Prop :=
  wpX10_isSlot (fun r3 M1 t2 => (if r3 = 0 then post 0 M1 t2 else (kd (v0) = 7 ∧ wpX10_slot (fun r7 M5 t6 => (kd (v0 + 1) = 12 ∧ (vp_in r7 (al (v0 + 1)) ∧ post (M5 (v0 + 1) (r7 : Int32).toNatClampNeg) M5 t6))) M1 t2 v1 v2))) M tl v1 v2
set_option maxHeartbeats 4000000 in
set_option maxRecDepth 20000 in
theorem ctX7_thingAt {E : EV} {ad : Nat → Nat} {M : MM} {tl : Int64} {Φ : Option Value → va_W → Prop} {post : Int32 → MM → Int64 → Prop} {v0 : Nat} {v1 : Int32} {v2 : Int32} (h : wpX7_thingAt post M tl v0 v1 v2) (hp : ∀ r M tl, post r M tl → Φ (some (.int r)) (WM E ad M tl)) : Tm E kX7_thingAt (WM E ad M tl) [.ref (ad (v0)), .int v1, .int v2] Φ := by
  unfold wpX7_thingAt at h
  show T E kX7_thingAt 0 0 (WM E ad M tl) 0 [(0, .ref (ad (v0))), (1, .int v1), (2, .int v2)] [] Φ
  refine tj_iload_n rfl dX7_thingAt_0 rfl ?_
  refine tj_iload_n rfl dX7_thingAt_1 rfl ?_
  refine cf_SN (z := kX10_isSlot) (As := [_, _]) rfl dX7_thingAt_2 rfl nl_X7_44 okX10_isSlot rfl (rm_ok rfl) (Nat.le_of_ble_eq_true rfl) (Nat.le_of_ble_eq_true rfl) rfl ?_
  refine ctX10_isSlot h (fun r3 M1 t2 h => ?_)
  refine tj_if_eq (tgt := 21) rfl rfl dX7_thingAt_5 (fun hc => ?_) (fun hc => ?_)
  · rw [if_pos hc] at h
    refine tj_iconst (v := 0) rfl dX7_thingAt_21 (by decide) ?_
    exact tj_ireturn (ty := .int) dX7_thingAt_22 rfl rfl (Nat.zero_le _) (Nat.zero_le _) (hp _ _ _ h)
  · rw [if_neg hc] at h
    refine tj_aload_n rfl dX7_thingAt_8 rfl ?_
    obtain ⟨hk4, h⟩ := h
    refine gf7_things (a := v0) hk4 rfl dX7_thingAt_9 fl_X7_9 ?_
    refine tj_iload_n rfl dX7_thingAt_12 rfl ?_
    refine tj_iload_n rfl dX7_thingAt_13 rfl ?_
    refine cf_SN (z := kX10_slot) (As := [_, _]) rfl dX7_thingAt_14 rfl nl_X7_48 okX10_slot rfl (rm_ok rfl) (Nat.le_of_ble_eq_true rfl) (Nat.le_of_ble_eq_true rfl) rfl ?_
    refine ctX10_slot h (fun r7 M5 t6 h => ?_)
    obtain ⟨hk8, h⟩ := h
    obtain ⟨hi9, h⟩ := h
    refine af_iald (a := v0 + 1) hk8 rfl dX7_thingAt_17 hi9 ?_
    refine tj_goto (tgt := 22) rfl dX7_thingAt_18 ?_
    exact tj_ireturn (ty := .int) dX7_thingAt_22 rfl rfl (Nat.zero_le _) (Nat.zero_le _) (hp _ _ _ h)
def wpX7_kindAt (post : Int32 → MM → Int64 → Prop) (M : MM) (tl : Int64) (v0 : Nat) (v1 : Int32) (v2 : Int32) : Prop :=
  (kd (v0) = 7 ∧ wpX7_thingAt (fun r4 M2 t3 => post (r4 &&& 7) M2 t3) M tl v0 v1 v2)
set_option maxHeartbeats 4000000 in
set_option maxRecDepth 20000 in
theorem ctX7_kindAt {E : EV} {ad : Nat → Nat} {M : MM} {tl : Int64} {Φ : Option Value → va_W → Prop} {post : Int32 → MM → Int64 → Prop} {v0 : Nat} {v1 : Int32} {v2 : Int32} (h : wpX7_kindAt post M tl v0 v1 v2) (hp : ∀ r M tl, post r M tl → Φ (some (.int r)) (WM E ad M tl)) : Tm E kX7_kindAt (WM E ad M tl) [.ref (ad (v0)), .int v1, .int v2] Φ := by
  unfold wpX7_kindAt at h
  show T E kX7_kindAt 0 0 (WM E ad M tl) 0 [(0, .ref (ad (v0))), (1, .int v1), (2, .int v2)] [] Φ
  refine tj_aload_n rfl dX7_kindAt_0 rfl ?_
  refine tj_iload_n rfl dX7_kindAt_1 rfl ?_
  refine tj_iload_n rfl dX7_kindAt_2 rfl ?_
  obtain ⟨hk1, h⟩ := h
  refine cf_V7 (a := v0) (z := kX7_thingAt) (As := [_, _]) hk1 rfl dX7_kindAt_3 rfl ml_X7_52 okX7_thingAt rfl (rm_ok rfl) (Nat.le_of_ble_eq_true rfl) (Nat.le_of_ble_eq_true rfl) rfl rfl ?_
  refine ctX7_thingAt h (fun r4 M2 t3 h => ?_)
  refine tj_bipush (v := 7) rfl dX7_kindAt_6 (by decide) ?_
  refine tj_iand rfl dX7_kindAt_8 ?_
  exact tj_ireturn (ty := .int) dX7_kindAt_9 rfl rfl (Nat.zero_le _) (Nat.zero_le _) (hp _ _ _ h)
def wpX7_setThing (post : MM → Int64 → Prop) (M : MM) (tl : Int64) (v0 : Nat) (v1 : Int32) (v2 : Int32) (v3 : Int32) : Prop :=
  wpX10_isSlot (fun r3 M1 t2 => (if r3 = 0 then post M1 t2 else (kd (v0) = 7 ∧ wpX10_slot (fun r7 M5 t6 => (kd (v0 + 1) = 12 ∧ (vp_in r7 (al (v0 + 1)) ∧ (∀ M10 : MM, M10 = mset M5 (v0 + 1) (r7 : Int32).toNatClampNeg v3 → post M10 t6)))) M1 t2 v1 v2))) M tl v1 v2
set_option maxHeartbeats 4000000 in
set_option maxRecDepth 20000 in
theorem ctX7_setThing {E : EV} {ad : Nat → Nat} {M : MM} {tl : Int64} {Φ : Option Value → va_W → Prop} {post : MM → Int64 → Prop} {v0 : Nat} {v1 : Int32} {v2 : Int32} {v3 : Int32} (h : wpX7_setThing post M tl v0 v1 v2 v3) (hp : ∀ M tl, post M tl → Φ none (WM E ad M tl)) : Tm E kX7_setThing (WM E ad M tl) [.ref (ad (v0)), .int v1, .int v2, .int v3] Φ := by
  unfold wpX7_setThing at h
  show T E kX7_setThing 0 0 (WM E ad M tl) 0 [(0, .ref (ad (v0))), (1, .int v1), (2, .int v2), (3, .int v3)] [] Φ
  refine tj_iload_n rfl dX7_setThing_0 rfl ?_
  refine tj_iload_n rfl dX7_setThing_1 rfl ?_
  refine cf_SN (z := kX10_isSlot) (As := [_, _]) rfl dX7_setThing_2 rfl nl_X7_44 okX10_isSlot rfl (rm_ok rfl) (Nat.le_of_ble_eq_true rfl) (Nat.le_of_ble_eq_true rfl) rfl ?_
  refine ctX10_isSlot h (fun r3 M1 t2 h => ?_)
  refine tj_if_eq (tgt := 19) rfl rfl dX7_setThing_5 (fun hc => ?_) (fun hc => ?_)
  · rw [if_pos hc] at h
    exact tj_return dX7_setThing_19 rfl (Nat.zero_le _) (Nat.zero_le _) (hp _ _ h)
  · rw [if_neg hc] at h
    refine tj_aload_n rfl dX7_setThing_8 rfl ?_
    obtain ⟨hk4, h⟩ := h
    refine gf7_things (a := v0) hk4 rfl dX7_setThing_9 fl_X7_9 ?_
    refine tj_iload_n rfl dX7_setThing_12 rfl ?_
    refine tj_iload_n rfl dX7_setThing_13 rfl ?_
    refine cf_SN (z := kX10_slot) (As := [_, _]) rfl dX7_setThing_14 rfl nl_X7_48 okX10_slot rfl (rm_ok rfl) (Nat.le_of_ble_eq_true rfl) (Nat.le_of_ble_eq_true rfl) rfl ?_
    refine ctX10_slot h (fun r7 M5 t6 h => ?_)
    refine tj_iload_n rfl dX7_setThing_17 rfl ?_
    obtain ⟨hk8, h⟩ := h
    obtain ⟨hi9, h⟩ := h
    refine af_iast (a := v0 + 1) hk8 rfl dX7_setThing_18 hi9 ?_
    replace h := h _ rfl
    generalize mset M5 (v0 + 1) (r7 : Int32).toNatClampNeg v3 = M10 at h ⊢
    exact tj_return dX7_setThing_19 rfl (Nat.zero_le _) (Nat.zero_le _) (hp _ _ h)
def wX7_countThings_25 (post : Int32 → MM → Int64 → Prop) (bk4 : MM → Int64 → Nat → Int32 → Int32 → Prop) (M : MM) (tl : Int64) (v0 : Nat) (v2 : Int32) (s0 : Int32) (s1 : Int32) : Prop :=
  bk4 M tl v0 (s0 + s1) (v2 + 1)
set_option maxHeartbeats 4000000 in
set_option maxRecDepth 20000 in
theorem bX7_countThings_25 {E : EV} {ad : Nat → Nat} {M : MM} {tl : Int64} {Φ : Option Value → va_W → Prop} {post : Int32 → MM → Int64 → Prop} {bk4 : MM → Int64 → Nat → Int32 → Int32 → Prop} {v0 : Nat} {v2 : Int32} {s0 : Int32} {s1 : Int32} (hp : ∀ r M tl, post r M tl → Φ (some (.int r)) (WM E ad M tl)) (hb4 : ∀ (M : MM) (tl : Int64) (v0 : Nat) (v1 : Int32) (v2 : Int32), bk4 M tl v0 v1 v2 → T E kX7_countThings 0 0 (WM E ad M tl) 4 [(0, .ref (ad (v0))), (1, .int v1), (2, .int v2)] [] Φ) (h : wX7_countThings_25 post bk4 M tl v0 v2 s0 s1) : T E kX7_countThings 0 0 (WM E ad M tl) 25 [(0, .ref (ad (v0))), (2, .int v2)] [.int s1, .int s0] Φ := by
  unfold wX7_countThings_25 at h
  refine tj_iadd rfl dX7_countThings_25 ?_
  refine tj_istore_n (l' := [(0, _), (1, _), (2, _)]) rfl dX7_countThings_26 (by decide) rfl ?_
  refine tj_iinc (v := _ + 1) (l' := [(0, _), (1, _), (2, _)]) rfl dX7_countThings_27 rfl (by decide) rfl rfl ?_
  refine tj_goto (tgt := 4) rfl dX7_countThings_30 ?_
  exact hb4 _ _ _ _ _ h
def wX7_countThings_4 (post : Int32 → MM → Int64 → Prop) : Nat → MM → Int64 → Nat → Int32 → Int32 → Prop
  | 0, _, _, _, _, _ => False
  | n + 1, M, tl, v0, v1, v2 =>
    (if 16 ≤ v2 then post v1 M tl else (kd (v0) = 7 ∧ (kd (v0 + 1) = 12 ∧ (vp_in v2 (al (v0 + 1)) ∧ (if (M (v0 + 1) (v2 : Int32).toNatClampNeg) = 0 then wX7_countThings_25 post (wX7_countThings_4 post n) M tl v0 v2 v1 0 else wX7_countThings_25 post (wX7_countThings_4 post n) M tl v0 v2 v1 1)))))
set_option maxHeartbeats 4000000 in
set_option maxRecDepth 20000 in
theorem bX7_countThings_4 {E : EV} {ad : Nat → Nat} {Φ : Option Value → va_W → Prop} {post : Int32 → MM → Int64 → Prop}  (hp : ∀ r M tl, post r M tl → Φ (some (.int r)) (WM E ad M tl)) : ∀ (n : Nat) (M : MM) (tl : Int64) (v0 : Nat) (v1 : Int32) (v2 : Int32), wX7_countThings_4 post n M tl v0 v1 v2 → T E kX7_countThings 0 0 (WM E ad M tl) 4 [(0, .ref (ad (v0))), (1, .int v1), (2, .int v2)] [] Φ := by
  intro n
  induction n with
  | zero => intro M tl v0 v1 v2 h; exact False.elim h
  | succ n ih =>
    intro M tl v0 v1 v2 h
    unfold wX7_countThings_4 at h
    refine tj_iload_n rfl dX7_countThings_4 rfl ?_
    refine tj_bipush (v := 16) rfl dX7_countThings_5 (by decide) ?_
    refine tj_icmp_ge (tgt := 33) rfl rfl dX7_countThings_7 (fun hc => ?_) (fun hc => ?_)
    · rw [if_pos hc] at h
      refine tj_iload_n rfl dX7_countThings_33 rfl ?_
      exact tj_ireturn (ty := .int) dX7_countThings_34 rfl rfl (Nat.zero_le _) (Nat.zero_le _) (hp _ _ _ h)
    · rw [if_neg hc] at h
      refine tj_iload_n rfl dX7_countThings_10 rfl ?_
      refine tj_aload_n rfl dX7_countThings_11 rfl ?_
      obtain ⟨hk1, h⟩ := h
      refine gf7_things (a := v0) hk1 rfl dX7_countThings_12 fl_X7_9 ?_
      refine tj_iload_n rfl dX7_countThings_15 rfl ?_
      obtain ⟨hk2, h⟩ := h
      obtain ⟨hi3, h⟩ := h
      refine af_iald (a := v0 + 1) hk2 rfl dX7_countThings_16 hi3 ?_
      refine tj_if_ne (tgt := 24) rfl rfl dX7_countThings_17 (fun hc => ?_) (fun hc => ?_)
      · rw [if_neg hc] at h
        refine tj_iconst (v := 1) rfl dX7_countThings_24 (by decide) ?_
        exact tj_pick (l' := [(0, _), (2, _)]) [0, 2] rfl (bX7_countThings_25 hp ih h)
      · rw [if_pos hc] at h
        refine tj_iconst (v := 0) rfl dX7_countThings_20 (by decide) ?_
        refine tj_goto (tgt := 25) rfl dX7_countThings_21 ?_
        exact tj_pick (l' := [(0, _), (2, _)]) [0, 2] rfl (bX7_countThings_25 hp ih h)
def wpX7_countThings (post : Int32 → MM → Int64 → Prop) (M : MM) (tl : Int64) (v0 : Nat) : Prop :=
  (∃ n9, wX7_countThings_4 post  n9 M tl v0 0 0)
set_option maxHeartbeats 4000000 in
set_option maxRecDepth 20000 in
theorem ctX7_countThings {E : EV} {ad : Nat → Nat} {M : MM} {tl : Int64} {Φ : Option Value → va_W → Prop} {post : Int32 → MM → Int64 → Prop} {v0 : Nat} (h : wpX7_countThings post M tl v0) (hp : ∀ r M tl, post r M tl → Φ (some (.int r)) (WM E ad M tl)) : Tm E kX7_countThings (WM E ad M tl) [.ref (ad (v0))] Φ := by
  unfold wpX7_countThings at h
  show T E kX7_countThings 0 0 (WM E ad M tl) 0 [(0, .ref (ad (v0)))] [] Φ
  refine tj_iconst (v := 0) rfl dX7_countThings_0 (by decide) ?_
  refine tj_istore_n (l' := [(0, _), (1, _)]) rfl dX7_countThings_1 (by decide) rfl ?_
  refine tj_iconst (v := 0) rfl dX7_countThings_2 (by decide) ?_
  refine tj_istore_n (l' := [(0, _), (1, _), (2, _)]) rfl dX7_countThings_3 (by decide) rfl ?_
  obtain ⟨n9, h⟩ := h
  exact bX7_countThings_4 hp  n9 _ _ _ _ _ h
def wpX7_lastMonth (post : Int32 → MM → Int64 → Prop) (M : MM) (tl : Int64) (v0 : Nat) : Prop :=
  (kd (v0) = 7 ∧ (kd (v0) = 7 ∧ (kd (v0 + 2) = 5 ∧ (kd (v0 + 2) = 5 ∧ wpX5_cell (fun r7 M5 t6 => post r7 M5 t6) M tl (v0 + 2) ((M (v0 + 2) 3) - 1) 0))))
set_option maxHeartbeats 4000000 in
set_option maxRecDepth 20000 in
theorem ctX7_lastMonth {E : EV} {ad : Nat → Nat} {M : MM} {tl : Int64} {Φ : Option Value → va_W → Prop} {post : Int32 → MM → Int64 → Prop} {v0 : Nat} (h : wpX7_lastMonth post M tl v0) (hp : ∀ r M tl, post r M tl → Φ (some (.int r)) (WM E ad M tl)) : Tm E kX7_lastMonth (WM E ad M tl) [.ref (ad (v0))] Φ := by
  unfold wpX7_lastMonth at h
  show T E kX7_lastMonth 0 0 (WM E ad M tl) 0 [(0, .ref (ad (v0)))] [] Φ
  refine tj_aload_n rfl dX7_lastMonth_0 rfl ?_
  obtain ⟨hk1, h⟩ := h
  refine gf7_works (a := v0) hk1 rfl dX7_lastMonth_1 fl_X7_20 ?_
  refine tj_aload_n rfl dX7_lastMonth_4 rfl ?_
  obtain ⟨hk2, h⟩ := h
  refine gf7_works (a := v0) hk2 rfl dX7_lastMonth_5 fl_X7_20 ?_
  obtain ⟨hk3, h⟩ := h
  refine gf5_size (a := v0 + 2) hk3 rfl dX7_lastMonth_8 fl_X7_55 ?_
  refine tj_iconst (v := 1) rfl dX7_lastMonth_11 (by decide) ?_
  refine tj_isub rfl dX7_lastMonth_12 ?_
  refine tj_iconst (v := 0) rfl dX7_lastMonth_13 (by decide) ?_
  obtain ⟨hk4, h⟩ := h
  refine cf_V5 (a := v0 + 2) (z := kX5_cell) (As := [_, _]) hk4 rfl dX7_lastMonth_14 rfl ml_X7_59 okX5_cell rfl (rm_ok rfl) (Nat.le_of_ble_eq_true rfl) (Nat.le_of_ble_eq_true rfl) rfl rfl ?_
  refine ctX5_cell h (fun r7 M5 t6 h => ?_)
  exact tj_ireturn (ty := .int) dX7_lastMonth_17 rfl rfl (Nat.zero_le _) (Nat.zero_le _) (hp _ _ _ h)
def wX8_renew_17 (post : MM → Int64 → Prop) : Nat → MM → Int64 → Nat → Int32 → Prop
  | 0, _, _, _, _ => False
  | n + 1, M, tl, v0, v3 =>
    (if 40 ≤ v3 then post M tl else (kd (v0) = 8 ∧ (kd (v0 + 1) = 12 ∧ (vp_in v3 (al (v0 + 1)) ∧ (∀ M4 : MM, M4 = mset M (v0 + 1) (v3 : Int32).toNatClampNeg 0 → (wX8_renew_17 post n) M4 tl v0 (v3 + 1))))))
set_option maxHeartbeats 4000000 in
set_option maxRecDepth 20000 in
theorem bX8_renew_17 {E : EV} {ad : Nat → Nat} {Φ : Option Value → va_W → Prop} {post : MM → Int64 → Prop}  (hp : ∀ M tl, post M tl → Φ none (WM E ad M tl)) : ∀ (n : Nat) (M : MM) (tl : Int64) (v0 : Nat) (v3 : Int32), wX8_renew_17 post n M tl v0 v3 → T E kX8_renew 0 0 (WM E ad M tl) 17 [(0, .ref (ad (v0))), (3, .int v3)] [] Φ := by
  intro n
  induction n with
  | zero => intro M tl v0 v3 h; exact False.elim h
  | succ n ih =>
    intro M tl v0 v3 h
    unfold wX8_renew_17 at h
    refine tj_iload_n rfl dX8_renew_17 rfl ?_
    refine tj_bipush (v := 40) rfl dX8_renew_18 (by decide) ?_
    refine tj_icmp_ge (tgt := 36) rfl rfl dX8_renew_20 (fun hc => ?_) (fun hc => ?_)
    · rw [if_pos hc] at h
      exact tj_return dX8_renew_36 rfl (Nat.zero_le _) (Nat.zero_le _) (hp _ _ h)
    · rw [if_neg hc] at h
      refine tj_aload_n rfl dX8_renew_23 rfl ?_
      obtain ⟨hk1, h⟩ := h
      refine gf8_cells (a := v0) hk1 rfl dX8_renew_24 fl_X8_15 ?_
      refine tj_iload_n rfl dX8_renew_27 rfl ?_
      refine tj_iconst (v := 0) rfl dX8_renew_28 (by decide) ?_
      obtain ⟨hk2, h⟩ := h
      obtain ⟨hi3, h⟩ := h
      refine af_iast (a := v0 + 1) hk2 rfl dX8_renew_29 hi3 ?_
      replace h := h _ rfl
      generalize mset M (v0 + 1) (v3 : Int32).toNatClampNeg 0 = M4 at h ⊢
      refine tj_iinc (v := _ + 1) (l' := [(0, _), (3, _)]) rfl dX8_renew_30 rfl (by decide) rfl rfl ?_
      refine tj_goto (tgt := 17) rfl dX8_renew_33 ?_
      exact ih _ _ _ _ h
def wpX8_renew (post : MM → Int64 → Prop) (M : MM) (tl : Int64) (v0 : Nat) (v1 : Int32) (v2 : Int32) : Prop :=
  (kd (v0) = 8 ∧ (∀ M2 : MM, M2 = mset M v0 1 v1 → (kd (v0) = 8 ∧ (∀ M4 : MM, M4 = mset M2 v0 0 (if 40 < v2 then 40 else v2) → (∃ n9, wX8_renew_17 post  n9 M4 tl v0 0)))))
set_option maxHeartbeats 4000000 in
set_option maxRecDepth 20000 in
theorem ctX8_renew {E : EV} {ad : Nat → Nat} {M : MM} {tl : Int64} {Φ : Option Value → va_W → Prop} {post : MM → Int64 → Prop} {v0 : Nat} {v1 : Int32} {v2 : Int32} (h : wpX8_renew post M tl v0 v1 v2) (hp : ∀ M tl, post M tl → Φ none (WM E ad M tl)) : Tm E kX8_renew (WM E ad M tl) [.ref (ad (v0)), .int v1, .int v2] Φ := by
  unfold wpX8_renew at h
  show T E kX8_renew 0 0 (WM E ad M tl) 0 [(0, .ref (ad (v0))), (1, .int v1), (2, .int v2)] [] Φ
  refine tj_aload_n rfl dX8_renew_0 rfl ?_
  refine tj_iload_n rfl dX8_renew_1 rfl ?_
  obtain ⟨hk1, h⟩ := h
  refine pf8_lane (a := v0) hk1 rfl dX8_renew_2 fl_X8_19 ?_
  replace h := h _ rfl
  generalize mset M v0 1 v1 = M2 at h ⊢
  refine tj_aload_n rfl dX8_renew_5 rfl ?_
  refine tj_iload_n rfl dX8_renew_6 rfl ?_
  refine tj_bipush (v := 40) rfl dX8_renew_7 (by decide) ?_
  refine tj_min ml_X8_22 rfl dX8_renew_9 (Nat.le_of_ble_eq_true rfl) (Nat.le_of_ble_eq_true rfl) (Nat.zero_le _) (Nat.zero_le _) ?_
  obtain ⟨hk3, h⟩ := h
  refine pf8_size (a := v0) hk3 rfl dX8_renew_12 fl_X8_9 ?_
  replace h := h _ rfl
  generalize mset M2 v0 0 (if 40 < v2 then 40 else v2) = M4 at h ⊢
  refine tj_iconst (v := 0) rfl dX8_renew_15 (by decide) ?_
  refine tj_istore_n (l' := [(0, _), (1, _), (2, _), (3, _)]) rfl dX8_renew_16 (by decide) rfl ?_
  obtain ⟨n9, h⟩ := h
  exact tj_pick (l' := [(0, _), (3, _)]) [0, 3] rfl (bX8_renew_17 hp  n9 _ _ _ _ h)
def wpX8_faultAt (post : Int32 → MM → Int64 → Prop) (M : MM) (tl : Int64) (v0 : Nat) (v1 : Int32) : Prop :=
  (kd (v0) = 8 ∧ (if 0 ≤ (M v0 0) then (if v1 < 0 then post 2 M tl else (kd (v0) = 8 ∧ (if v1 < (M v0 0) then post 0 M tl else post 2 M tl))) else post 1 M tl))
set_option maxHeartbeats 4000000 in
set_option maxRecDepth 20000 in
theorem ctX8_faultAt {E : EV} {ad : Nat → Nat} {M : MM} {tl : Int64} {Φ : Option Value → va_W → Prop} {post : Int32 → MM → Int64 → Prop} {v0 : Nat} {v1 : Int32} (h : wpX8_faultAt post M tl v0 v1) (hp : ∀ r M tl, post r M tl → Φ (some (.int r)) (WM E ad M tl)) : Tm E kX8_faultAt (WM E ad M tl) [.ref (ad (v0)), .int v1] Φ := by
  unfold wpX8_faultAt at h
  show T E kX8_faultAt 0 0 (WM E ad M tl) 0 [(0, .ref (ad (v0))), (1, .int v1)] [] Φ
  refine tj_aload_n rfl dX8_faultAt_0 rfl ?_
  obtain ⟨hk1, h⟩ := h
  refine gf8_size (a := v0) hk1 rfl dX8_faultAt_1 fl_X8_9 ?_
  refine tj_if_ge (tgt := 9) rfl rfl dX8_faultAt_4 (fun hc => ?_) (fun hc => ?_)
  · rw [if_pos hc] at h
    refine tj_iload_n rfl dX8_faultAt_9 rfl ?_
    refine tj_if_lt (tgt := 21) rfl rfl dX8_faultAt_10 (fun hc => ?_) (fun hc => ?_)
    · rw [if_pos hc] at h
      refine tj_iconst (v := 2) rfl dX8_faultAt_21 (by decide) ?_
      refine tj_goto (tgt := 26) rfl dX8_faultAt_22 ?_
      exact tj_ireturn (ty := .int) dX8_faultAt_26 rfl rfl (Nat.zero_le _) (Nat.zero_le _) (hp _ _ _ h)
    · rw [if_neg hc] at h
      refine tj_iload_n rfl dX8_faultAt_13 rfl ?_
      refine tj_aload_n rfl dX8_faultAt_14 rfl ?_
      obtain ⟨hk2, h⟩ := h
      refine gf8_size (a := v0) hk2 rfl dX8_faultAt_15 fl_X8_9 ?_
      refine tj_icmp_lt (tgt := 25) rfl rfl dX8_faultAt_18 (fun hc => ?_) (fun hc => ?_)
      · rw [if_pos hc] at h
        refine tj_iconst (v := 0) rfl dX8_faultAt_25 (by decide) ?_
        exact tj_ireturn (ty := .int) dX8_faultAt_26 rfl rfl (Nat.zero_le _) (Nat.zero_le _) (hp _ _ _ h)
      · rw [if_neg hc] at h
        refine tj_iconst (v := 2) rfl dX8_faultAt_21 (by decide) ?_
        refine tj_goto (tgt := 26) rfl dX8_faultAt_22 ?_
        exact tj_ireturn (ty := .int) dX8_faultAt_26 rfl rfl (Nat.zero_le _) (Nat.zero_le _) (hp _ _ _ h)
  · rw [if_neg hc] at h
    refine tj_iconst (v := 1) rfl dX8_faultAt_7 (by decide) ?_
    exact tj_ireturn (ty := .int) dX8_faultAt_8 rfl rfl (Nat.zero_le _) (Nat.zero_le _) (hp _ _ _ h)
def wX8_setCell_39 (post : MM → Int64 → Prop) (M : MM) (tl : Int64) (s0 : Nat) (s1 : Int32) (s2 : Int32) : Prop :=
  (kd (s0) = 12 ∧ (vp_in s1 (al s0) ∧ (∀ M3 : MM, M3 = mset M s0 (s1 : Int32).toNatClampNeg s2 → post M3 tl)))
set_option maxHeartbeats 4000000 in
set_option maxRecDepth 20000 in
theorem bX8_setCell_39 {E : EV} {ad : Nat → Nat} {M : MM} {tl : Int64} {Φ : Option Value → va_W → Prop} {post : MM → Int64 → Prop} {s0 : Nat} {s1 : Int32} {s2 : Int32} (hp : ∀ M tl, post M tl → Φ none (WM E ad M tl)) (h : wX8_setCell_39 post M tl s0 s1 s2) : T E kX8_setCell 0 0 (WM E ad M tl) 39 [] [.int s2, .int s1, .ref (ad (s0))] Φ := by
  unfold wX8_setCell_39 at h
  obtain ⟨hk1, h⟩ := h
  obtain ⟨hi2, h⟩ := h
  refine af_iast (a := s0) hk1 rfl dX8_setCell_39 hi2 ?_
  replace h := h _ rfl
  generalize mset M s0 (s1 : Int32).toNatClampNeg s2 = M3 at h ⊢
  exact tj_return dX8_setCell_40 rfl (Nat.zero_le _) (Nat.zero_le _) (hp _ _ h)
def wpX8_setCell (post : MM → Int64 → Prop) (M : MM) (tl : Int64) (v0 : Nat) (v1 : Int32) (v2 : Int32) : Prop :=
  (kd (v0) = 8 ∧ wpX8_faultAt (fun r4 M2 t3 => (if r4 = 0 then (kd (v0) = 8 ∧ (kd (v0) = 8 ∧ (if (M2 v0 1) = 0 then wX8_setCell_39 post  M2 t3 (v0 + 1) v1 ((v2 : Int32).toInt8.toInt32) else (kd (v0) = 8 ∧ (if (M2 v0 1) = 1 then wX8_setCell_39 post  M2 t3 (v0 + 1) v1 ((v2 : Int32).toInt16.toInt32) else wX8_setCell_39 post  M2 t3 (v0 + 1) v1 v2))))) else post M2 t3)) M tl v0 v1)
set_option maxHeartbeats 4000000 in
set_option maxRecDepth 20000 in
theorem ctX8_setCell {E : EV} {ad : Nat → Nat} {M : MM} {tl : Int64} {Φ : Option Value → va_W → Prop} {post : MM → Int64 → Prop} {v0 : Nat} {v1 : Int32} {v2 : Int32} (h : wpX8_setCell post M tl v0 v1 v2) (hp : ∀ M tl, post M tl → Φ none (WM E ad M tl)) : Tm E kX8_setCell (WM E ad M tl) [.ref (ad (v0)), .int v1, .int v2] Φ := by
  unfold wpX8_setCell at h
  show T E kX8_setCell 0 0 (WM E ad M tl) 0 [(0, .ref (ad (v0))), (1, .int v1), (2, .int v2)] [] Φ
  refine tj_aload_n rfl dX8_setCell_0 rfl ?_
  refine tj_iload_n rfl dX8_setCell_1 rfl ?_
  obtain ⟨hk1, h⟩ := h
  refine cf_V8 (a := v0) (z := kX8_faultAt) (As := [_]) hk1 rfl dX8_setCell_2 rfl ml_X8_28 okX8_faultAt rfl (rm_ok rfl) (Nat.le_of_ble_eq_true rfl) (Nat.le_of_ble_eq_true rfl) rfl rfl ?_
  refine ctX8_faultAt h (fun r4 M2 t3 h => ?_)
  refine tj_if_ne (tgt := 40) rfl rfl dX8_setCell_5 (fun hc => ?_) (fun hc => ?_)
  · rw [if_neg hc] at h
    exact tj_return dX8_setCell_40 rfl (Nat.zero_le _) (Nat.zero_le _) (hp _ _ h)
  · rw [if_pos hc] at h
    refine tj_aload_n rfl dX8_setCell_8 rfl ?_
    obtain ⟨hk5, h⟩ := h
    refine gf8_cells (a := v0) hk5 rfl dX8_setCell_9 fl_X8_15 ?_
    refine tj_iload_n rfl dX8_setCell_12 rfl ?_
    refine tj_aload_n rfl dX8_setCell_13 rfl ?_
    obtain ⟨hk6, h⟩ := h
    refine gf8_lane (a := v0) hk6 rfl dX8_setCell_14 fl_X8_19 ?_
    refine tj_if_ne (tgt := 25) rfl rfl dX8_setCell_17 (fun hc => ?_) (fun hc => ?_)
    · rw [if_neg hc] at h
      refine tj_aload_n rfl dX8_setCell_25 rfl ?_
      obtain ⟨hk7, h⟩ := h
      refine gf8_lane (a := v0) hk7 rfl dX8_setCell_26 fl_X8_19 ?_
      refine tj_iconst (v := 1) rfl dX8_setCell_29 (by decide) ?_
      refine tj_icmp_ne (tgt := 38) rfl rfl dX8_setCell_30 (fun hc => ?_) (fun hc => ?_)
      · rw [if_neg hc] at h
        refine tj_iload_n rfl dX8_setCell_38 rfl ?_
        exact tj_pick (l' := []) [] rfl (bX8_setCell_39 hp  h)
      · rw [if_pos hc] at h
        refine tj_iload_n rfl dX8_setCell_33 rfl ?_
        refine tj_i2s rfl dX8_setCell_34 ?_
        refine tj_goto (tgt := 39) rfl dX8_setCell_35 ?_
        exact tj_pick (l' := []) [] rfl (bX8_setCell_39 hp  h)
    · rw [if_pos hc] at h
      refine tj_iload_n rfl dX8_setCell_20 rfl ?_
      refine tj_i2b rfl dX8_setCell_21 ?_
      refine tj_goto (tgt := 39) rfl dX8_setCell_22 ?_
      exact tj_pick (l' := []) [] rfl (bX8_setCell_39 hp  h)
def wpX8_cell (post : Int32 → MM → Int64 → Prop) (M : MM) (tl : Int64) (v0 : Nat) (v1 : Int32) : Prop :=
  (kd (v0) = 8 ∧ wpX8_faultAt (fun r4 M2 t3 => (if r4 = 0 then (kd (v0) = 8 ∧ (kd (v0 + 1) = 12 ∧ (vp_in v1 (al (v0 + 1)) ∧ post (M2 (v0 + 1) (v1 : Int32).toNatClampNeg) M2 t3))) else post 0 M2 t3)) M tl v0 v1)
set_option maxHeartbeats 4000000 in
set_option maxRecDepth 20000 in
theorem ctX8_cell {E : EV} {ad : Nat → Nat} {M : MM} {tl : Int64} {Φ : Option Value → va_W → Prop} {post : Int32 → MM → Int64 → Prop} {v0 : Nat} {v1 : Int32} (h : wpX8_cell post M tl v0 v1) (hp : ∀ r M tl, post r M tl → Φ (some (.int r)) (WM E ad M tl)) : Tm E kX8_cell (WM E ad M tl) [.ref (ad (v0)), .int v1] Φ := by
  unfold wpX8_cell at h
  show T E kX8_cell 0 0 (WM E ad M tl) 0 [(0, .ref (ad (v0))), (1, .int v1)] [] Φ
  refine tj_aload_n rfl dX8_cell_0 rfl ?_
  refine tj_iload_n rfl dX8_cell_1 rfl ?_
  obtain ⟨hk1, h⟩ := h
  refine cf_V8 (a := v0) (z := kX8_faultAt) (As := [_]) hk1 rfl dX8_cell_2 rfl ml_X8_28 okX8_faultAt rfl (rm_ok rfl) (Nat.le_of_ble_eq_true rfl) (Nat.le_of_ble_eq_true rfl) rfl rfl ?_
  refine ctX8_faultAt h (fun r4 M2 t3 h => ?_)
  refine tj_if_ne (tgt := 17) rfl rfl dX8_cell_5 (fun hc => ?_) (fun hc => ?_)
  · rw [if_neg hc] at h
    refine tj_iconst (v := 0) rfl dX8_cell_17 (by decide) ?_
    exact tj_ireturn (ty := .int) dX8_cell_18 rfl rfl (Nat.zero_le _) (Nat.zero_le _) (hp _ _ _ h)
  · rw [if_pos hc] at h
    refine tj_aload_n rfl dX8_cell_8 rfl ?_
    obtain ⟨hk5, h⟩ := h
    refine gf8_cells (a := v0) hk5 rfl dX8_cell_9 fl_X8_15 ?_
    refine tj_iload_n rfl dX8_cell_12 rfl ?_
    obtain ⟨hk6, h⟩ := h
    obtain ⟨hi7, h⟩ := h
    refine af_iald (a := v0 + 1) hk6 rfl dX8_cell_13 hi7 ?_
    refine tj_goto (tgt := 18) rfl dX8_cell_14 ?_
    exact tj_ireturn (ty := .int) dX8_cell_18 rfl rfl (Nat.zero_le _) (Nat.zero_le _) (hp _ _ _ h)
def wpX8_wholeThings (post : Int32 → MM → Int64 → Prop) (M : MM) (tl : Int64) (v0 : Nat) (v1 : Int32) (v2 : Int32) (v3 : Int32) : Prop :=
  (kd (v0) = 8 ∧ (if (M v0 0) < 0 then post 0 M tl else (kd (v0) = 8 ∧ (if (M v0 1) = v1 then (if v2 < 0 then post 0 M tl else (kd (v0) = 8 ∧ (if v2 < (M v0 0) then (kd (v0) = 8 ∧ post (if (((M v0 0) - v2) / 3) < v3 then ((M v0 0) - v2) / 3 else v3) M tl) else post 0 M tl))) else post 0 M tl))))
set_option maxHeartbeats 4000000 in
set_option maxRecDepth 20000 in
theorem ctX8_wholeThings {E : EV} {ad : Nat → Nat} {M : MM} {tl : Int64} {Φ : Option Value → va_W → Prop} {post : Int32 → MM → Int64 → Prop} {v0 : Nat} {v1 : Int32} {v2 : Int32} {v3 : Int32} (h : wpX8_wholeThings post M tl v0 v1 v2 v3) (hp : ∀ r M tl, post r M tl → Φ (some (.int r)) (WM E ad M tl)) : Tm E kX8_wholeThings (WM E ad M tl) [.ref (ad (v0)), .int v1, .int v2, .int v3] Φ := by
  unfold wpX8_wholeThings at h
  show T E kX8_wholeThings 0 0 (WM E ad M tl) 0 [(0, .ref (ad (v0))), (1, .int v1), (2, .int v2), (3, .int v3)] [] Φ
  refine tj_aload_n rfl dX8_wholeThings_0 rfl ?_
  obtain ⟨hk1, h⟩ := h
  refine gf8_size (a := v0) hk1 rfl dX8_wholeThings_1 fl_X8_9 ?_
  refine tj_if_lt (tgt := 27) rfl rfl dX8_wholeThings_4 (fun hc => ?_) (fun hc => ?_)
  · rw [if_pos hc] at h
    refine tj_iconst (v := 0) rfl dX8_wholeThings_27 (by decide) ?_
    exact tj_ireturn (ty := .int) dX8_wholeThings_28 rfl rfl (Nat.zero_le _) (Nat.zero_le _) (hp _ _ _ h)
  · rw [if_neg hc] at h
    refine tj_aload_n rfl dX8_wholeThings_7 rfl ?_
    obtain ⟨hk2, h⟩ := h
    refine gf8_lane (a := v0) hk2 rfl dX8_wholeThings_8 fl_X8_19 ?_
    refine tj_iload_n rfl dX8_wholeThings_11 rfl ?_
    refine tj_icmp_ne (tgt := 27) rfl rfl dX8_wholeThings_12 (fun hc => ?_) (fun hc => ?_)
    · rw [if_neg hc] at h
      refine tj_iconst (v := 0) rfl dX8_wholeThings_27 (by decide) ?_
      exact tj_ireturn (ty := .int) dX8_wholeThings_28 rfl rfl (Nat.zero_le _) (Nat.zero_le _) (hp _ _ _ h)
    · rw [if_pos hc] at h
      refine tj_iload_n rfl dX8_wholeThings_15 rfl ?_
      refine tj_if_lt (tgt := 27) rfl rfl dX8_wholeThings_16 (fun hc => ?_) (fun hc => ?_)
      · rw [if_pos hc] at h
        refine tj_iconst (v := 0) rfl dX8_wholeThings_27 (by decide) ?_
        exact tj_ireturn (ty := .int) dX8_wholeThings_28 rfl rfl (Nat.zero_le _) (Nat.zero_le _) (hp _ _ _ h)
      · rw [if_neg hc] at h
        refine tj_iload_n rfl dX8_wholeThings_19 rfl ?_
        refine tj_aload_n rfl dX8_wholeThings_20 rfl ?_
        obtain ⟨hk3, h⟩ := h
        refine gf8_size (a := v0) hk3 rfl dX8_wholeThings_21 fl_X8_9 ?_
        refine tj_icmp_lt (tgt := 29) rfl rfl dX8_wholeThings_24 (fun hc => ?_) (fun hc => ?_)
        · rw [if_pos hc] at h
          refine tj_iload_n rfl dX8_wholeThings_29 rfl ?_
          refine tj_aload_n rfl dX8_wholeThings_30 rfl ?_
          obtain ⟨hk4, h⟩ := h
          refine gf8_size (a := v0) hk4 rfl dX8_wholeThings_31 fl_X8_9 ?_
          refine tj_iload_n rfl dX8_wholeThings_34 rfl ?_
          refine tj_isub rfl dX8_wholeThings_35 ?_
          refine tj_iconst (v := 3) rfl dX8_wholeThings_36 (by decide) ?_
          refine tj_idiv rfl dX8_wholeThings_37 (by decide) ?_
          refine tj_min ml_X8_22 rfl dX8_wholeThings_38 (Nat.le_of_ble_eq_true rfl) (Nat.le_of_ble_eq_true rfl) (Nat.zero_le _) (Nat.zero_le _) ?_
          exact tj_ireturn (ty := .int) dX8_wholeThings_41 rfl rfl (Nat.zero_le _) (Nat.zero_le _) (hp _ _ _ h)
        · rw [if_neg hc] at h
          refine tj_iconst (v := 0) rfl dX8_wholeThings_27 (by decide) ?_
          exact tj_ireturn (ty := .int) dX8_wholeThings_28 rfl rfl (Nat.zero_le _) (Nat.zero_le _) (hp _ _ _ h)
def wpX8_faultOfReading (post : Int32 → MM → Int64 → Prop) (M : MM) (tl : Int64) (v0 : Nat) (v1 : Int32) (v2 : Int32) (v3 : Int32) : Prop :=
  (kd (v0) = 8 ∧ wpX8_wholeThings (fun r4 M2 t3 => (if r4 < v3 then (kd (v0) = 8 ∧ (if 0 ≤ (M2 v0 0) then (kd (v0) = 8 ∧ (if (M2 v0 1) = v1 then post 2 M2 t3 else post 3 M2 t3)) else post 1 M2 t3)) else post 0 M2 t3)) M tl v0 v1 v2 v3)
set_option maxHeartbeats 4000000 in
set_option maxRecDepth 20000 in
theorem ctX8_faultOfReading {E : EV} {ad : Nat → Nat} {M : MM} {tl : Int64} {Φ : Option Value → va_W → Prop} {post : Int32 → MM → Int64 → Prop} {v0 : Nat} {v1 : Int32} {v2 : Int32} {v3 : Int32} (h : wpX8_faultOfReading post M tl v0 v1 v2 v3) (hp : ∀ r M tl, post r M tl → Φ (some (.int r)) (WM E ad M tl)) : Tm E kX8_faultOfReading (WM E ad M tl) [.ref (ad (v0)), .int v1, .int v2, .int v3] Φ := by
  unfold wpX8_faultOfReading at h
  show T E kX8_faultOfReading 0 0 (WM E ad M tl) 0 [(0, .ref (ad (v0))), (1, .int v1), (2, .int v2), (3, .int v3)] [] Φ
  refine tj_aload_n rfl dX8_faultOfReading_0 rfl ?_
  refine tj_iload_n rfl dX8_faultOfReading_1 rfl ?_
  refine tj_iload_n rfl dX8_faultOfReading_2 rfl ?_
  refine tj_iload_n rfl dX8_faultOfReading_3 rfl ?_
  obtain ⟨hk1, h⟩ := h
  refine cf_V8 (a := v0) (z := kX8_wholeThings) (As := [_, _, _]) hk1 rfl dX8_faultOfReading_4 rfl ml_X8_32 okX8_wholeThings rfl (rm_ok rfl) (Nat.le_of_ble_eq_true rfl) (Nat.le_of_ble_eq_true rfl) rfl rfl ?_
  refine ctX8_wholeThings h (fun r4 M2 t3 h => ?_)
  refine tj_iload_n rfl dX8_faultOfReading_7 rfl ?_
  refine tj_icmp_lt (tgt := 13) rfl rfl dX8_faultOfReading_8 (fun hc => ?_) (fun hc => ?_)
  · rw [if_pos hc] at h
    refine tj_aload_n rfl dX8_faultOfReading_13 rfl ?_
    obtain ⟨hk5, h⟩ := h
    refine gf8_size (a := v0) hk5 rfl dX8_faultOfReading_14 fl_X8_9 ?_
    refine tj_if_ge (tgt := 22) rfl rfl dX8_faultOfReading_17 (fun hc => ?_) (fun hc => ?_)
    · rw [if_pos hc] at h
      refine tj_aload_n rfl dX8_faultOfReading_22 rfl ?_
      obtain ⟨hk6, h⟩ := h
      refine gf8_lane (a := v0) hk6 rfl dX8_faultOfReading_23 fl_X8_19 ?_
      refine tj_iload_n rfl dX8_faultOfReading_26 rfl ?_
      refine tj_icmp_eq (tgt := 34) rfl rfl dX8_faultOfReading_27 (fun hc => ?_) (fun hc => ?_)
      · rw [if_pos hc] at h
        refine tj_iconst (v := 2) rfl dX8_faultOfReading_34 (by decide) ?_
        exact tj_ireturn (ty := .int) dX8_faultOfReading_35 rfl rfl (Nat.zero_le _) (Nat.zero_le _) (hp _ _ _ h)
      · rw [if_neg hc] at h
        refine tj_iconst (v := 3) rfl dX8_faultOfReading_30 (by decide) ?_
        refine tj_goto (tgt := 35) rfl dX8_faultOfReading_31 ?_
        exact tj_ireturn (ty := .int) dX8_faultOfReading_35 rfl rfl (Nat.zero_le _) (Nat.zero_le _) (hp _ _ _ h)
    · rw [if_neg hc] at h
      refine tj_iconst (v := 1) rfl dX8_faultOfReading_20 (by decide) ?_
      exact tj_ireturn (ty := .int) dX8_faultOfReading_21 rfl rfl (Nat.zero_le _) (Nat.zero_le _) (hp _ _ _ h)
  · rw [if_neg hc] at h
    refine tj_iconst (v := 0) rfl dX8_faultOfReading_11 (by decide) ?_
    exact tj_ireturn (ty := .int) dX8_faultOfReading_12 rfl rfl (Nat.zero_le _) (Nat.zero_le _) (hp _ _ _ h)
def wX9_append_3 (post : MM → Int64 → Prop) : Nat → MM → Int64 → Int64 → Int32 → Prop
  | 0, _, _, _, _ => False
  | n + 1, M, tl, v1, v3 =>
    (if v3 < 0 then post M tl else (if 400 ≤ (M 1 1) then post M tl else (vp_in (M 1 1) (al 2) ∧ (∀ M2 : MM, M2 = mset M 2 (M 1 1 : Int32).toNatClampNeg (((((v1 : Int64).toUInt64 >>> ((v3 : Int32).toInt64.toUInt64 &&& Int64.toUInt64 63)).toInt64 : Int64).toInt32) &&& 255) → (∀ M3 : MM, M3 = mset M2 1 1 ((M2 1 1) + 1) → (wX9_append_3 post n) M3 tl v1 (v3 + (-8)))))))
set_option maxHeartbeats 4000000 in
set_option maxRecDepth 20000 in
theorem bX9_append_3 {E : EV} {ad : Nat → Nat} {Φ : Option Value → va_W → Prop} {post : MM → Int64 → Prop}  (hp : ∀ M tl, post M tl → Φ none (WM E ad M tl)) : ∀ (n : Nat) (M : MM) (tl : Int64) (v1 : Int64) (v3 : Int32), wX9_append_3 post n M tl v1 v3 → T E kX9_append 0 0 (WM E ad M tl) 3 [(0, .ref (ad (1))), (1, .long v1), (3, .int v3)] [] Φ := by
  intro n
  induction n with
  | zero => intro M tl v1 v3 h; exact False.elim h
  | succ n ih =>
    intro M tl v1 v3 h
    unfold wX9_append_3 at h
    refine tj_iload_n rfl dX9_append_3 rfl ?_
    refine tj_if_lt (tgt := 50) rfl rfl dX9_append_4 (fun hc => ?_) (fun hc => ?_)
    · rw [if_pos hc] at h
      exact tj_return dX9_append_50 rfl (Nat.zero_le _) (Nat.zero_le _) (hp _ _ h)
    · rw [if_neg hc] at h
      refine tj_aload_n rfl dX9_append_7 rfl ?_
      refine gf9_size (a := 1) rfl rfl dX9_append_8 fl_X9_15 ?_
      refine tj_sipush (v := 400) rfl dX9_append_11 (by decide) ?_
      refine tj_icmp_ge (tgt := 50) rfl rfl dX9_append_14 (fun hc => ?_) (fun hc => ?_)
      · rw [if_pos hc] at h
        exact tj_return dX9_append_50 rfl (Nat.zero_le _) (Nat.zero_le _) (hp _ _ h)
      · rw [if_neg hc] at h
        refine tj_aload_n rfl dX9_append_17 rfl ?_
        refine gf9_bytes (a := 1) rfl rfl dX9_append_18 fl_X9_9 ?_
        refine tj_aload_n rfl dX9_append_21 rfl ?_
        refine gf9_size (a := 1) rfl rfl dX9_append_22 fl_X9_15 ?_
        refine tj_lload_n rfl dX9_append_25 rfl ?_
        refine tj_iload_n rfl dX9_append_26 rfl ?_
        refine tj_lushr rfl dX9_append_27 ?_
        refine tj_l2i rfl dX9_append_28 ?_
        refine tj_sipush (v := 255) rfl dX9_append_29 (by decide) ?_
        refine tj_iand rfl dX9_append_32 ?_
        obtain ⟨hi1, h⟩ := h
        refine af_iast (a := 2) rfl rfl dX9_append_33 hi1 ?_
        replace h := h _ rfl
        generalize mset M 2 (M 1 1 : Int32).toNatClampNeg (((((v1 : Int64).toUInt64 >>> ((v3 : Int32).toInt64.toUInt64 &&& Int64.toUInt64 63)).toInt64 : Int64).toInt32) &&& 255) = M2 at h ⊢
        refine tj_aload_n rfl dX9_append_34 rfl ?_
        refine tj_dup rfl dX9_append_35 rfl ?_
        refine gf9_size (a := 1) rfl rfl dX9_append_36 fl_X9_15 ?_
        refine tj_iconst (v := 1) rfl dX9_append_39 (by decide) ?_
        refine tj_iadd rfl dX9_append_40 ?_
        refine pf9_size (a := 1) rfl rfl dX9_append_41 fl_X9_15 ?_
        replace h := h _ rfl
        generalize mset M2 1 1 ((M2 1 1) + 1) = M3 at h ⊢
        refine tj_iinc (v := _ + (-8)) (l' := [(0, _), (1, _), (3, _)]) rfl dX9_append_44 rfl (by decide) rfl rfl ?_
        refine tj_goto (tgt := 3) rfl dX9_append_47 ?_
        exact ih _ _ _ _ h
def wpX9_append (post : MM → Int64 → Prop) (M : MM) (tl : Int64) (v1 : Int64) : Prop :=
  (∃ n9, wX9_append_3 post  n9 M tl v1 56)
set_option maxHeartbeats 4000000 in
set_option maxRecDepth 20000 in
theorem ctX9_append {E : EV} {ad : Nat → Nat} {M : MM} {tl : Int64} {Φ : Option Value → va_W → Prop} {post : MM → Int64 → Prop} {v1 : Int64} (h : wpX9_append post M tl v1) (hp : ∀ M tl, post M tl → Φ none (WM E ad M tl)) : Tm E kX9_append (WM E ad M tl) [.ref (ad (1)), .long v1] Φ := by
  unfold wpX9_append at h
  show T E kX9_append 0 0 (WM E ad M tl) 0 [(0, .ref (ad (1))), (1, .long v1)] [] Φ
  refine tj_bipush (v := 56) rfl dX9_append_0 (by decide) ?_
  refine tj_istore_n (l' := [(0, _), (1, _), (3, _)]) rfl dX9_append_2 (by decide) rfl ?_
  obtain ⟨n9, h⟩ := h
  exact bX9_append_3 hp  n9 _ _ _ _ h
def wpX9_byteAt (post : Int32 → MM → Int64 → Prop) (M : MM) (tl : Int64) (v1 : Int32) : Prop :=
  (if v1 < 0 then post (-1) M tl else (if (M 1 1) ≤ v1 then post (-1) M tl else (if 400 ≤ v1 then post (-1) M tl else (vp_in v1 (al 2) ∧ post (M 2 (v1 : Int32).toNatClampNeg) M tl))))
set_option maxHeartbeats 4000000 in
set_option maxRecDepth 20000 in
theorem ctX9_byteAt {E : EV} {ad : Nat → Nat} {M : MM} {tl : Int64} {Φ : Option Value → va_W → Prop} {post : Int32 → MM → Int64 → Prop} {v1 : Int32} (h : wpX9_byteAt post M tl v1) (hp : ∀ r M tl, post r M tl → Φ (some (.int r)) (WM E ad M tl)) : Tm E kX9_byteAt (WM E ad M tl) [.ref (ad (1)), .int v1] Φ := by
  unfold wpX9_byteAt at h
  show T E kX9_byteAt 0 0 (WM E ad M tl) 0 [(0, .ref (ad (1))), (1, .int v1)] [] Φ
  refine tj_iload_n rfl dX9_byteAt_0 rfl ?_
  refine tj_if_lt (tgt := 28) rfl rfl dX9_byteAt_1 (fun hc => ?_) (fun hc => ?_)
  · rw [if_pos hc] at h
    refine tj_iconst (v := -1) rfl dX9_byteAt_28 (by decide) ?_
    exact tj_ireturn (ty := .int) dX9_byteAt_29 rfl rfl (Nat.zero_le _) (Nat.zero_le _) (hp _ _ _ h)
  · rw [if_neg hc] at h
    refine tj_iload_n rfl dX9_byteAt_4 rfl ?_
    refine tj_aload_n rfl dX9_byteAt_5 rfl ?_
    refine gf9_size (a := 1) rfl rfl dX9_byteAt_6 fl_X9_15 ?_
    refine tj_icmp_ge (tgt := 28) rfl rfl dX9_byteAt_9 (fun hc => ?_) (fun hc => ?_)
    · rw [if_pos hc] at h
      refine tj_iconst (v := -1) rfl dX9_byteAt_28 (by decide) ?_
      exact tj_ireturn (ty := .int) dX9_byteAt_29 rfl rfl (Nat.zero_le _) (Nat.zero_le _) (hp _ _ _ h)
    · rw [if_neg hc] at h
      refine tj_iload_n rfl dX9_byteAt_12 rfl ?_
      refine tj_sipush (v := 400) rfl dX9_byteAt_13 (by decide) ?_
      refine tj_icmp_ge (tgt := 28) rfl rfl dX9_byteAt_16 (fun hc => ?_) (fun hc => ?_)
      · rw [if_pos hc] at h
        refine tj_iconst (v := -1) rfl dX9_byteAt_28 (by decide) ?_
        exact tj_ireturn (ty := .int) dX9_byteAt_29 rfl rfl (Nat.zero_le _) (Nat.zero_le _) (hp _ _ _ h)
      · rw [if_neg hc] at h
        refine tj_aload_n rfl dX9_byteAt_19 rfl ?_
        refine gf9_bytes (a := 1) rfl rfl dX9_byteAt_20 fl_X9_9 ?_
        refine tj_iload_n rfl dX9_byteAt_23 rfl ?_
        obtain ⟨hi1, h⟩ := h
        refine af_iald (a := 2) rfl rfl dX9_byteAt_24 hi1 ?_
        refine tj_goto (tgt := 29) rfl dX9_byteAt_25 ?_
        exact tj_ireturn (ty := .int) dX9_byteAt_29 rfl rfl (Nat.zero_le _) (Nat.zero_le _) (hp _ _ _ h)
