abbrev MM : Type := Nat → Nat → Int32
theorem rm_ok {k z : MD} {cu su : Nat} (h : (Nat.ble (z.2.2.2.2.1 + 1) k.2.2.2.2.1 && (Nat.ble (8 + (z.2.2.1 + 11) + z.2.2.2.2.2.1) k.2.2.2.2.2.1 && (Nat.ble (cu + z.2.2.2.2.2.2.1) k.2.2.2.2.2.2.1 && Nat.ble (su + z.2.2.2.2.2.2.2) k.2.2.2.2.2.2.2))) = true) : RoomOk k z cu su := by
  simp only [Bool.and_eq_true] at h
  exact ⟨⟨Nat.le_of_ble_eq_true h.1, Nat.le_of_ble_eq_true h.2.1⟩, Nat.le_of_ble_eq_true h.2.2.1, Nat.le_of_ble_eq_true h.2.2.2⟩
def wX1_setFirst_56 (post : MM → Int64 → Prop) (bk42 : MM → Int64 → Nat → Int32 → Prop) : Nat → MM → Int64 → Nat → Int32 → Int32 → Prop
  | 0, _, _, _, _, _ => False
  | n + 1, M, tl, v0, v1, v2 =>
    (if 6 ≤ v2 then bk42 M tl v0 (v1 + 1) else (kd (v0) = 1 ∧ (kd (v0 + 2) = 16 ∧ (vp_in v1 2 ∧ (kd ((v0 + 2) + 1 + (v1 : Int32).toNatClampNeg) = 12 ∧ (vp_in v2 (al ((v0 + 2) + 1 + (v1 : Int32).toNatClampNeg)) ∧ (∀ M6 : MM, M6 = mset M ((v0 + 2) + 1 + (v1 : Int32).toNatClampNeg) (v2 : Int32).toNatClampNeg 5 → (kd (v0) = 1 ∧ (kd (v0 + 5) = 16 ∧ (vp_in v1 2 ∧ (kd ((v0 + 5) + 1 + (v1 : Int32).toNatClampNeg) = 12 ∧ (vp_in v2 (al ((v0 + 5) + 1 + (v1 : Int32).toNatClampNeg)) ∧ (∀ M12 : MM, M12 = mset M6 ((v0 + 5) + 1 + (v1 : Int32).toNatClampNeg) (v2 : Int32).toNatClampNeg 3 → (wX1_setFirst_56 post bk42 n) M12 tl v0 v1 (v2 + 1))))))))))))))
set_option maxHeartbeats 4000000 in
set_option maxRecDepth 20000 in
theorem bX1_setFirst_56 {E : EV} {ad : Nat → Nat} {Φ : Option Value → va_W → Prop} {post : MM → Int64 → Prop} {bk42 : MM → Int64 → Nat → Int32 → Prop}  (hp : ∀ M tl, post M tl → Φ none (WM E ad M tl)) (hb42 : ∀ (M : MM) (tl : Int64) (v0 : Nat) (v1 : Int32), bk42 M tl v0 v1 → T E kX1_setFirst 0 0 (WM E ad M tl) 42 [(0, .ref (ad (v0))), (1, .int v1)] [] Φ) : ∀ (n : Nat) (M : MM) (tl : Int64) (v0 : Nat) (v1 : Int32) (v2 : Int32), wX1_setFirst_56 post bk42 n M tl v0 v1 v2 → T E kX1_setFirst 0 0 (WM E ad M tl) 56 [(0, .ref (ad (v0))), (1, .int v1), (2, .int v2)] [] Φ := by
  intro n
  induction n with
  | zero => intro M tl v0 v1 v2 h; exact False.elim h
  | succ n ih =>
    intro M tl v0 v1 v2 h
    unfold wX1_setFirst_56 at h
    refine tj_iload_n rfl dX1_setFirst_56 rfl ?_
    refine tj_bipush (v := 6) rfl dX1_setFirst_57 (by decide) ?_
    refine tj_icmp_ge (tgt := 86) rfl rfl dX1_setFirst_59 (fun hc => ?_) (fun hc => ?_)
    · rw [if_pos hc] at h
      refine tj_iinc (v := _ + 1) (l' := [(0, _), (1, _), (2, _)]) rfl dX1_setFirst_86 rfl (by decide) rfl rfl ?_
      refine tj_goto (tgt := 42) rfl dX1_setFirst_89 ?_
      exact tj_pick (l' := [(0, _), (1, _)]) [0, 1] rfl (hb42 _ _ _ _ h)
    · rw [if_neg hc] at h
      refine tj_aload_n rfl dX1_setFirst_62 rfl ?_
      obtain ⟨hk1, h⟩ := h
      refine gf1_cost (a := v0) hk1 rfl dX1_setFirst_63 fl_X1_17 ?_
      refine tj_iload_n rfl dX1_setFirst_66 rfl ?_
      obtain ⟨hk3, h⟩ := h
      obtain ⟨hi2, h⟩ := h
      refine af_two (a := v0 + 2) hk3 rfl dX1_setFirst_67 hi2 ?_
      refine tj_iload_n rfl dX1_setFirst_68 rfl ?_
      refine tj_iconst (v := 5) rfl dX1_setFirst_69 (by decide) ?_
      obtain ⟨hk4, h⟩ := h
      obtain ⟨hi5, h⟩ := h
      refine af_iast (a := (v0 + 2) + 1 + (v1 : Int32).toNatClampNeg) hk4 rfl dX1_setFirst_70 hi5 ?_
      replace h := h _ rfl
      generalize mset M ((v0 + 2) + 1 + (v1 : Int32).toNatClampNeg) (v2 : Int32).toNatClampNeg 5 = M6 at h ⊢
      refine tj_aload_n rfl dX1_setFirst_71 rfl ?_
      obtain ⟨hk7, h⟩ := h
      refine gf1_taste (a := v0) hk7 rfl dX1_setFirst_72 fl_X1_20 ?_
      refine tj_iload_n rfl dX1_setFirst_75 rfl ?_
      obtain ⟨hk9, h⟩ := h
      obtain ⟨hi8, h⟩ := h
      refine af_two (a := v0 + 5) hk9 rfl dX1_setFirst_76 hi8 ?_
      refine tj_iload_n rfl dX1_setFirst_77 rfl ?_
      refine tj_iconst (v := 3) rfl dX1_setFirst_78 (by decide) ?_
      obtain ⟨hk10, h⟩ := h
      obtain ⟨hi11, h⟩ := h
      refine af_iast (a := (v0 + 5) + 1 + (v1 : Int32).toNatClampNeg) hk10 rfl dX1_setFirst_79 hi11 ?_
      replace h := h _ rfl
      generalize mset M6 ((v0 + 5) + 1 + (v1 : Int32).toNatClampNeg) (v2 : Int32).toNatClampNeg 3 = M12 at h ⊢
      refine tj_iinc (v := _ + 1) (l' := [(0, _), (1, _), (2, _)]) rfl dX1_setFirst_80 rfl (by decide) rfl rfl ?_
      refine tj_goto (tgt := 56) rfl dX1_setFirst_83 ?_
      exact ih _ _ _ _ _ h
def wX1_setFirst_115 (post : MM → Int64 → Prop) : Nat → MM → Int64 → Nat → Int32 → Prop
  | 0, _, _, _, _ => False
  | n + 1, M, tl, v0, v1 =>
    (if 4 ≤ v1 then post M tl else (kd (v0) = 1 ∧ (kd (v0 + 10) = 12 ∧ (vp_in v1 (al (v0 + 10)) ∧ (∀ M4 : MM, M4 = mset M (v0 + 10) (v1 : Int32).toNatClampNeg v1 → (wX1_setFirst_115 post n) M4 tl v0 (v1 + 1))))))
set_option maxHeartbeats 4000000 in
set_option maxRecDepth 20000 in
theorem bX1_setFirst_115 {E : EV} {ad : Nat → Nat} {Φ : Option Value → va_W → Prop} {post : MM → Int64 → Prop}  (hp : ∀ M tl, post M tl → Φ none (WM E ad M tl)) : ∀ (n : Nat) (M : MM) (tl : Int64) (v0 : Nat) (v1 : Int32), wX1_setFirst_115 post n M tl v0 v1 → T E kX1_setFirst 0 0 (WM E ad M tl) 115 [(0, .ref (ad (v0))), (1, .int v1)] [] Φ := by
  intro n
  induction n with
  | zero => intro M tl v0 v1 h; exact False.elim h
  | succ n ih =>
    intro M tl v0 v1 h
    unfold wX1_setFirst_115 at h
    refine tj_iload_n rfl dX1_setFirst_115 rfl ?_
    refine tj_iconst (v := 4) rfl dX1_setFirst_116 (by decide) ?_
    refine tj_icmp_ge (tgt := 133) rfl rfl dX1_setFirst_117 (fun hc => ?_) (fun hc => ?_)
    · rw [if_pos hc] at h
      exact tj_return dX1_setFirst_133 rfl (Nat.zero_le _) (Nat.zero_le _) (hp _ _ h)
    · rw [if_neg hc] at h
      refine tj_aload_n rfl dX1_setFirst_120 rfl ?_
      obtain ⟨hk1, h⟩ := h
      refine gf1_paint (a := v0) hk1 rfl dX1_setFirst_121 fl_X1_29 ?_
      refine tj_iload_n rfl dX1_setFirst_124 rfl ?_
      refine tj_iload_n rfl dX1_setFirst_125 rfl ?_
      obtain ⟨hk2, h⟩ := h
      obtain ⟨hi3, h⟩ := h
      refine af_iast (a := v0 + 10) hk2 rfl dX1_setFirst_126 hi3 ?_
      replace h := h _ rfl
      generalize mset M (v0 + 10) (v1 : Int32).toNatClampNeg v1 = M4 at h ⊢
      refine tj_iinc (v := _ + 1) (l' := [(0, _), (1, _)]) rfl dX1_setFirst_127 rfl (by decide) rfl rfl ?_
      refine tj_goto (tgt := 115) rfl dX1_setFirst_130 ?_
      exact ih _ _ _ _ h
def wX1_setFirst_94 (post : MM → Int64 → Prop) : Nat → MM → Int64 → Nat → Int32 → Prop
  | 0, _, _, _, _ => False
  | n + 1, M, tl, v0, v1 =>
    (if 6 ≤ v1 then (∃ n9, wX1_setFirst_115 post  n9 M tl v0 0) else (kd (v0) = 1 ∧ (kd (v0 + 9) = 12 ∧ (vp_in v1 (al (v0 + 9)) ∧ (∀ M4 : MM, M4 = mset M (v0 + 9) (v1 : Int32).toNatClampNeg v1 → (wX1_setFirst_94 post n) M4 tl v0 (v1 + 1))))))
set_option maxHeartbeats 4000000 in
set_option maxRecDepth 20000 in
theorem bX1_setFirst_94 {E : EV} {ad : Nat → Nat} {Φ : Option Value → va_W → Prop} {post : MM → Int64 → Prop}  (hp : ∀ M tl, post M tl → Φ none (WM E ad M tl)) : ∀ (n : Nat) (M : MM) (tl : Int64) (v0 : Nat) (v1 : Int32), wX1_setFirst_94 post n M tl v0 v1 → T E kX1_setFirst 0 0 (WM E ad M tl) 94 [(0, .ref (ad (v0))), (1, .int v1)] [] Φ := by
  intro n
  induction n with
  | zero => intro M tl v0 v1 h; exact False.elim h
  | succ n ih =>
    intro M tl v0 v1 h
    unfold wX1_setFirst_94 at h
    refine tj_iload_n rfl dX1_setFirst_94 rfl ?_
    refine tj_bipush (v := 6) rfl dX1_setFirst_95 (by decide) ?_
    refine tj_icmp_ge (tgt := 113) rfl rfl dX1_setFirst_97 (fun hc => ?_) (fun hc => ?_)
    · rw [if_pos hc] at h
      refine tj_iconst (v := 0) rfl dX1_setFirst_113 (by decide) ?_
      refine tj_istore_n (l' := [(0, _), (1, _)]) rfl dX1_setFirst_114 (by decide) rfl ?_
      obtain ⟨n9, h⟩ := h
      exact bX1_setFirst_115 hp  n9 _ _ _ _ h
    · rw [if_neg hc] at h
      refine tj_aload_n rfl dX1_setFirst_100 rfl ?_
      obtain ⟨hk1, h⟩ := h
      refine gf1_twin (a := v0) hk1 rfl dX1_setFirst_101 fl_X1_26 ?_
      refine tj_iload_n rfl dX1_setFirst_104 rfl ?_
      refine tj_iload_n rfl dX1_setFirst_105 rfl ?_
      obtain ⟨hk2, h⟩ := h
      obtain ⟨hi3, h⟩ := h
      refine af_iast (a := v0 + 9) hk2 rfl dX1_setFirst_106 hi3 ?_
      replace h := h _ rfl
      generalize mset M (v0 + 9) (v1 : Int32).toNatClampNeg v1 = M4 at h ⊢
      refine tj_iinc (v := _ + 1) (l' := [(0, _), (1, _)]) rfl dX1_setFirst_107 rfl (by decide) rfl rfl ?_
      refine tj_goto (tgt := 94) rfl dX1_setFirst_110 ?_
      exact ih _ _ _ _ h
def wX1_setFirst_42 (post : MM → Int64 → Prop) : Nat → MM → Int64 → Nat → Int32 → Prop
  | 0, _, _, _, _ => False
  | n + 1, M, tl, v0, v1 =>
    (if 2 ≤ v1 then (∃ n9, wX1_setFirst_94 post  n9 M tl v0 0) else (kd (v0) = 1 ∧ (kd (v0 + 8) = 12 ∧ (vp_in v1 (al (v0 + 8)) ∧ (∀ M4 : MM, M4 = mset M (v0 + 8) (v1 : Int32).toNatClampNeg 0 → (∃ n9, wX1_setFirst_56 post (wX1_setFirst_42 post n) n9 M4 tl v0 v1 1))))))
set_option maxHeartbeats 4000000 in
set_option maxRecDepth 20000 in
theorem bX1_setFirst_42 {E : EV} {ad : Nat → Nat} {Φ : Option Value → va_W → Prop} {post : MM → Int64 → Prop}  (hp : ∀ M tl, post M tl → Φ none (WM E ad M tl)) : ∀ (n : Nat) (M : MM) (tl : Int64) (v0 : Nat) (v1 : Int32), wX1_setFirst_42 post n M tl v0 v1 → T E kX1_setFirst 0 0 (WM E ad M tl) 42 [(0, .ref (ad (v0))), (1, .int v1)] [] Φ := by
  intro n
  induction n with
  | zero => intro M tl v0 v1 h; exact False.elim h
  | succ n ih =>
    intro M tl v0 v1 h
    unfold wX1_setFirst_42 at h
    refine tj_iload_n rfl dX1_setFirst_42 rfl ?_
    refine tj_iconst (v := 2) rfl dX1_setFirst_43 (by decide) ?_
    refine tj_icmp_ge (tgt := 92) rfl rfl dX1_setFirst_44 (fun hc => ?_) (fun hc => ?_)
    · rw [if_pos hc] at h
      refine tj_iconst (v := 0) rfl dX1_setFirst_92 (by decide) ?_
      refine tj_istore_n (l' := [(0, _), (1, _)]) rfl dX1_setFirst_93 (by decide) rfl ?_
      obtain ⟨n9, h⟩ := h
      exact bX1_setFirst_94 hp  n9 _ _ _ _ h
    · rw [if_neg hc] at h
      refine tj_aload_n rfl dX1_setFirst_47 rfl ?_
      obtain ⟨hk1, h⟩ := h
      refine gf1_lackedKinds (a := v0) hk1 rfl dX1_setFirst_48 fl_X1_23 ?_
      refine tj_iload_n rfl dX1_setFirst_51 rfl ?_
      refine tj_iconst (v := 0) rfl dX1_setFirst_52 (by decide) ?_
      obtain ⟨hk2, h⟩ := h
      obtain ⟨hi3, h⟩ := h
      refine af_iast (a := v0 + 8) hk2 rfl dX1_setFirst_53 hi3 ?_
      replace h := h _ rfl
      generalize mset M (v0 + 8) (v1 : Int32).toNatClampNeg 0 = M4 at h ⊢
      refine tj_iconst (v := 1) rfl dX1_setFirst_54 (by decide) ?_
      refine tj_istore_n (l' := [(0, _), (1, _), (2, _)]) rfl dX1_setFirst_55 (by decide) rfl ?_
      obtain ⟨n9, h⟩ := h
      exact bX1_setFirst_56 hp ih n9 _ _ _ _ _ h
def wX1_setFirst_22 (post : MM → Int64 → Prop) : Nat → MM → Int64 → Nat → Int32 → Prop
  | 0, _, _, _, _ => False
  | n + 1, M, tl, v0, v1 =>
    (if 4 ≤ v1 then (∃ n9, wX1_setFirst_42 post  n9 M tl v0 0) else (kd (v0) = 1 ∧ (kd (v0 + 1) = 12 ∧ (vp_in v1 (al (v0 + 1)) ∧ (∀ M4 : MM, M4 = mset M (v0 + 1) (v1 : Int32).toNatClampNeg 1 → (wX1_setFirst_22 post n) M4 tl v0 (v1 + 1))))))
set_option maxHeartbeats 4000000 in
set_option maxRecDepth 20000 in
theorem bX1_setFirst_22 {E : EV} {ad : Nat → Nat} {Φ : Option Value → va_W → Prop} {post : MM → Int64 → Prop}  (hp : ∀ M tl, post M tl → Φ none (WM E ad M tl)) : ∀ (n : Nat) (M : MM) (tl : Int64) (v0 : Nat) (v1 : Int32), wX1_setFirst_22 post n M tl v0 v1 → T E kX1_setFirst 0 0 (WM E ad M tl) 22 [(0, .ref (ad (v0))), (1, .int v1)] [] Φ := by
  intro n
  induction n with
  | zero => intro M tl v0 v1 h; exact False.elim h
  | succ n ih =>
    intro M tl v0 v1 h
    unfold wX1_setFirst_22 at h
    refine tj_iload_n rfl dX1_setFirst_22 rfl ?_
    refine tj_iconst (v := 4) rfl dX1_setFirst_23 (by decide) ?_
    refine tj_icmp_ge (tgt := 40) rfl rfl dX1_setFirst_24 (fun hc => ?_) (fun hc => ?_)
    · rw [if_pos hc] at h
      refine tj_iconst (v := 0) rfl dX1_setFirst_40 (by decide) ?_
      refine tj_istore_n (l' := [(0, _), (1, _)]) rfl dX1_setFirst_41 (by decide) rfl ?_
      obtain ⟨n9, h⟩ := h
      exact bX1_setFirst_42 hp  n9 _ _ _ _ h
    · rw [if_neg hc] at h
      refine tj_aload_n rfl dX1_setFirst_27 rfl ?_
      obtain ⟨hk1, h⟩ := h
      refine gf1_price (a := v0) hk1 rfl dX1_setFirst_28 fl_X1_9 ?_
      refine tj_iload_n rfl dX1_setFirst_31 rfl ?_
      refine tj_iconst (v := 1) rfl dX1_setFirst_32 (by decide) ?_
      obtain ⟨hk2, h⟩ := h
      obtain ⟨hi3, h⟩ := h
      refine af_iast (a := v0 + 1) hk2 rfl dX1_setFirst_33 hi3 ?_
      replace h := h _ rfl
      generalize mset M (v0 + 1) (v1 : Int32).toNatClampNeg 1 = M4 at h ⊢
      refine tj_iinc (v := _ + 1) (l' := [(0, _), (1, _)]) rfl dX1_setFirst_34 rfl (by decide) rfl rfl ?_
      refine tj_goto (tgt := 22) rfl dX1_setFirst_37 ?_
      exact ih _ _ _ _ h
def wpX1_setFirst (post : MM → Int64 → Prop) (M : MM) (tl : Int64) (v0 : Nat) : Prop :=
  (kd (v0) = 1 ∧ (∀ M2 : MM, M2 = mset M v0 0 5 → (kd (v0) = 1 ∧ (∀ M4 : MM, M4 = mset M2 v0 1 3 → (kd (v0) = 1 ∧ (∀ M6 : MM, M6 = mset M4 v0 2 1 → (kd (v0) = 1 ∧ (∀ M8 : MM, M8 = mset M6 v0 3 0 → (∃ n9, wX1_setFirst_22 post  n9 M8 tl v0 0)))))))))
set_option maxHeartbeats 4000000 in
set_option maxRecDepth 20000 in
theorem ctX1_setFirst {E : EV} {ad : Nat → Nat} {M : MM} {tl : Int64} {Φ : Option Value → va_W → Prop} {post : MM → Int64 → Prop} {v0 : Nat} (h : wpX1_setFirst post M tl v0) (hp : ∀ M tl, post M tl → Φ none (WM E ad M tl)) : Tm E kX1_setFirst (WM E ad M tl) [.ref (ad (v0))] Φ := by
  unfold wpX1_setFirst at h
  show T E kX1_setFirst 0 0 (WM E ad M tl) 0 [(0, .ref (ad (v0)))] [] Φ
  refine tj_aload_n rfl dX1_setFirst_0 rfl ?_
  refine tj_iconst (v := 5) rfl dX1_setFirst_1 (by decide) ?_
  obtain ⟨hk1, h⟩ := h
  refine pf1_lots (a := v0) hk1 rfl dX1_setFirst_2 fl_X1_35 ?_
  replace h := h _ rfl
  generalize mset M v0 0 5 = M2 at h ⊢
  refine tj_aload_n rfl dX1_setFirst_5 rfl ?_
  refine tj_iconst (v := 3) rfl dX1_setFirst_6 (by decide) ?_
  obtain ⟨hk3, h⟩ := h
  refine pf1_bend (a := v0) hk3 rfl dX1_setFirst_7 fl_X1_39 ?_
  replace h := h _ rfl
  generalize mset M2 v0 1 3 = M4 at h ⊢
  refine tj_aload_n rfl dX1_setFirst_10 rfl ?_
  refine tj_iconst (v := 1) rfl dX1_setFirst_11 (by decide) ?_
  obtain ⟨hk5, h⟩ := h
  refine pf1_pull (a := v0) hk5 rfl dX1_setFirst_12 fl_X1_42 ?_
  replace h := h _ rfl
  generalize mset M4 v0 2 1 = M6 at h ⊢
  refine tj_aload_n rfl dX1_setFirst_15 rfl ?_
  refine tj_iconst (v := 0) rfl dX1_setFirst_16 (by decide) ?_
  obtain ⟨hk7, h⟩ := h
  refine pf1_rightKinds (a := v0) hk7 rfl dX1_setFirst_17 fl_X1_45 ?_
  replace h := h _ rfl
  generalize mset M6 v0 3 0 = M8 at h ⊢
  refine tj_iconst (v := 0) rfl dX1_setFirst_20 (by decide) ?_
  refine tj_istore_n (l' := [(0, _), (1, _)]) rfl dX1_setFirst_21 (by decide) rfl ?_
  obtain ⟨n9, h⟩ := h
  exact bX1_setFirst_22 hp  n9 _ _ _ _ h
def wX1_copyFrom_91 (post : MM → Int64 → Prop) : Nat → MM → Int64 → Nat → Nat → Int32 → Prop
  | 0, _, _, _, _, _ => False
  | n + 1, M, tl, v0, v1, v2 =>
    (if 2 ≤ v2 then post M tl else (kd (v1) = 1 ∧ (kd (v1 + 2) = 16 ∧ (vp_in v2 2 ∧ (kd (v0) = 1 ∧ (kd (v0 + 2) = 16 ∧ (vp_in v2 2 ∧ (kd ((v1 + 2) + 1 + (v2 : Int32).toNatClampNeg) = 12 ∧ (kd ((v0 + 2) + 1 + (v2 : Int32).toNatClampNeg) = 12 ∧ ((0 : Int32).toNatClampNeg + (6 : Int32).toNatClampNeg ≤ al ((v1 + 2) + 1 + (v2 : Int32).toNatClampNeg) ∧ ((0 : Int32).toNatClampNeg + (6 : Int32).toNatClampNeg ≤ al ((v0 + 2) + 1 + (v2 : Int32).toNatClampNeg) ∧ (∀ M11 : MM, M11 = mrow M ((v0 + 2) + 1 + (v2 : Int32).toNatClampNeg) (va_cpy (M ((v1 + 2) + 1 + (v2 : Int32).toNatClampNeg)) (M ((v0 + 2) + 1 + (v2 : Int32).toNatClampNeg)) (0 : Int32).toNatClampNeg (0 : Int32).toNatClampNeg (6 : Int32).toNatClampNeg) → (kd (v1) = 1 ∧ (kd (v1 + 5) = 16 ∧ (vp_in v2 2 ∧ (kd (v0) = 1 ∧ (kd (v0 + 5) = 16 ∧ (vp_in v2 2 ∧ (kd ((v1 + 5) + 1 + (v2 : Int32).toNatClampNeg) = 12 ∧ (kd ((v0 + 5) + 1 + (v2 : Int32).toNatClampNeg) = 12 ∧ ((0 : Int32).toNatClampNeg + (6 : Int32).toNatClampNeg ≤ al ((v1 + 5) + 1 + (v2 : Int32).toNatClampNeg) ∧ ((0 : Int32).toNatClampNeg + (6 : Int32).toNatClampNeg ≤ al ((v0 + 5) + 1 + (v2 : Int32).toNatClampNeg) ∧ (∀ M22 : MM, M22 = mrow M11 ((v0 + 5) + 1 + (v2 : Int32).toNatClampNeg) (va_cpy (M11 ((v1 + 5) + 1 + (v2 : Int32).toNatClampNeg)) (M11 ((v0 + 5) + 1 + (v2 : Int32).toNatClampNeg)) (0 : Int32).toNatClampNeg (0 : Int32).toNatClampNeg (6 : Int32).toNatClampNeg) → (wX1_copyFrom_91 post n) M22 tl v0 v1 (v2 + 1))))))))))))))))))))))))
set_option maxHeartbeats 4000000 in
set_option maxRecDepth 20000 in
theorem bX1_copyFrom_91 {E : EV} {ad : Nat → Nat} {Φ : Option Value → va_W → Prop} {post : MM → Int64 → Prop}  (hp : ∀ M tl, post M tl → Φ none (WM E ad M tl)) : ∀ (n : Nat) (M : MM) (tl : Int64) (v0 : Nat) (v1 : Nat) (v2 : Int32), wX1_copyFrom_91 post n M tl v0 v1 v2 → T E kX1_copyFrom 0 0 (WM E ad M tl) 91 [(0, .ref (ad (v0))), (1, .ref (ad (v1))), (2, .int v2)] [] Φ := by
  intro n
  induction n with
  | zero => intro M tl v0 v1 v2 h; exact False.elim h
  | succ n ih =>
    intro M tl v0 v1 v2 h
    unfold wX1_copyFrom_91 at h
    refine tj_iload_n rfl dX1_copyFrom_91 rfl ?_
    refine tj_iconst (v := 2) rfl dX1_copyFrom_92 (by decide) ?_
    refine tj_icmp_ge (tgt := 140) rfl rfl dX1_copyFrom_93 (fun hc => ?_) (fun hc => ?_)
    · rw [if_pos hc] at h
      exact tj_return dX1_copyFrom_140 rfl (Nat.zero_le _) (Nat.zero_le _) (hp _ _ h)
    · rw [if_neg hc] at h
      refine tj_aload_n rfl dX1_copyFrom_96 rfl ?_
      obtain ⟨hk1, h⟩ := h
      refine gf1_cost (a := v1) hk1 rfl dX1_copyFrom_97 fl_X1_17 ?_
      refine tj_iload_n rfl dX1_copyFrom_100 rfl ?_
      obtain ⟨hk3, h⟩ := h
      obtain ⟨hi2, h⟩ := h
      refine af_two (a := v1 + 2) hk3 rfl dX1_copyFrom_101 hi2 ?_
      refine tj_iconst (v := 0) rfl dX1_copyFrom_102 (by decide) ?_
      refine tj_aload_n rfl dX1_copyFrom_103 rfl ?_
      obtain ⟨hk4, h⟩ := h
      refine gf1_cost (a := v0) hk4 rfl dX1_copyFrom_104 fl_X1_17 ?_
      refine tj_iload_n rfl dX1_copyFrom_107 rfl ?_
      obtain ⟨hk6, h⟩ := h
      obtain ⟨hi5, h⟩ := h
      refine af_two (a := v0 + 2) hk6 rfl dX1_copyFrom_108 hi5 ?_
      refine tj_iconst (v := 0) rfl dX1_copyFrom_109 (by decide) ?_
      refine tj_bipush (v := 6) rfl dX1_copyFrom_110 (by decide) ?_
      obtain ⟨hk7, h⟩ := h
      obtain ⟨hk8, h⟩ := h
      obtain ⟨hy9, h⟩ := h
      obtain ⟨hy10, h⟩ := h
      refine tj_copy (a0 := (v1 + 2) + 1 + (v2 : Int32).toNatClampNeg) (a1 := (v0 + 2) + 1 + (v2 : Int32).toNatClampNeg) hk7 hk8 ml_X1_48 rfl dX1_copyFrom_112 (by decide) (by decide) (by decide) hy9 hy10 (Nat.le_of_ble_eq_true rfl) (by decide +kernel) ?_
      replace h := h _ rfl
      generalize mrow M ((v0 + 2) + 1 + (v2 : Int32).toNatClampNeg) (va_cpy (M ((v1 + 2) + 1 + (v2 : Int32).toNatClampNeg)) (M ((v0 + 2) + 1 + (v2 : Int32).toNatClampNeg)) (0 : Int32).toNatClampNeg (0 : Int32).toNatClampNeg (6 : Int32).toNatClampNeg) = M11 at h ⊢
      refine tj_aload_n rfl dX1_copyFrom_115 rfl ?_
      obtain ⟨hk12, h⟩ := h
      refine gf1_taste (a := v1) hk12 rfl dX1_copyFrom_116 fl_X1_20 ?_
      refine tj_iload_n rfl dX1_copyFrom_119 rfl ?_
      obtain ⟨hk14, h⟩ := h
      obtain ⟨hi13, h⟩ := h
      refine af_two (a := v1 + 5) hk14 rfl dX1_copyFrom_120 hi13 ?_
      refine tj_iconst (v := 0) rfl dX1_copyFrom_121 (by decide) ?_
      refine tj_aload_n rfl dX1_copyFrom_122 rfl ?_
      obtain ⟨hk15, h⟩ := h
      refine gf1_taste (a := v0) hk15 rfl dX1_copyFrom_123 fl_X1_20 ?_
      refine tj_iload_n rfl dX1_copyFrom_126 rfl ?_
      obtain ⟨hk17, h⟩ := h
      obtain ⟨hi16, h⟩ := h
      refine af_two (a := v0 + 5) hk17 rfl dX1_copyFrom_127 hi16 ?_
      refine tj_iconst (v := 0) rfl dX1_copyFrom_128 (by decide) ?_
      refine tj_bipush (v := 6) rfl dX1_copyFrom_129 (by decide) ?_
      obtain ⟨hk18, h⟩ := h
      obtain ⟨hk19, h⟩ := h
      obtain ⟨hy20, h⟩ := h
      obtain ⟨hy21, h⟩ := h
      refine tj_copy (a0 := (v1 + 5) + 1 + (v2 : Int32).toNatClampNeg) (a1 := (v0 + 5) + 1 + (v2 : Int32).toNatClampNeg) hk18 hk19 ml_X1_48 rfl dX1_copyFrom_131 (by decide) (by decide) (by decide) hy20 hy21 (Nat.le_of_ble_eq_true rfl) (by decide +kernel) ?_
      replace h := h _ rfl
      generalize mrow M11 ((v0 + 5) + 1 + (v2 : Int32).toNatClampNeg) (va_cpy (M11 ((v1 + 5) + 1 + (v2 : Int32).toNatClampNeg)) (M11 ((v0 + 5) + 1 + (v2 : Int32).toNatClampNeg)) (0 : Int32).toNatClampNeg (0 : Int32).toNatClampNeg (6 : Int32).toNatClampNeg) = M22 at h ⊢
      refine tj_iinc (v := _ + 1) (l' := [(0, _), (1, _), (2, _)]) rfl dX1_copyFrom_134 rfl (by decide) rfl rfl ?_
      refine tj_goto (tgt := 91) rfl dX1_copyFrom_137 ?_
      exact ih _ _ _ _ _ h
def wpX1_copyFrom (post : MM → Int64 → Prop) (M : MM) (tl : Int64) (v0 : Nat) (v1 : Nat) : Prop :=
  (kd (v1) = 1 ∧ (kd (v0) = 1 ∧ (∀ M3 : MM, M3 = mset M v0 0 (M v1 0) → (kd (v1) = 1 ∧ (kd (v0) = 1 ∧ (∀ M6 : MM, M6 = mset M3 v0 1 (M3 v1 1) → (kd (v1) = 1 ∧ (kd (v0) = 1 ∧ (∀ M9 : MM, M9 = mset M6 v0 2 (M6 v1 2) → (kd (v1) = 1 ∧ (kd (v0) = 1 ∧ (∀ M12 : MM, M12 = mset M9 v0 3 (M9 v1 3) → (kd (v1) = 1 ∧ (kd (v0) = 1 ∧ (kd (v1 + 1) = 12 ∧ (kd (v0 + 1) = 12 ∧ ((0 : Int32).toNatClampNeg + (4 : Int32).toNatClampNeg ≤ al (v1 + 1) ∧ ((0 : Int32).toNatClampNeg + (4 : Int32).toNatClampNeg ≤ al (v0 + 1) ∧ (∀ M19 : MM, M19 = mrow M12 (v0 + 1) (va_cpy (M12 (v1 + 1)) (M12 (v0 + 1)) (0 : Int32).toNatClampNeg (0 : Int32).toNatClampNeg (4 : Int32).toNatClampNeg) → (kd (v1) = 1 ∧ (kd (v0) = 1 ∧ (kd (v1 + 8) = 12 ∧ (kd (v0 + 8) = 12 ∧ ((0 : Int32).toNatClampNeg + (2 : Int32).toNatClampNeg ≤ al (v1 + 8) ∧ ((0 : Int32).toNatClampNeg + (2 : Int32).toNatClampNeg ≤ al (v0 + 8) ∧ (∀ M26 : MM, M26 = mrow M19 (v0 + 8) (va_cpy (M19 (v1 + 8)) (M19 (v0 + 8)) (0 : Int32).toNatClampNeg (0 : Int32).toNatClampNeg (2 : Int32).toNatClampNeg) → (kd (v1) = 1 ∧ (kd (v0) = 1 ∧ (kd (v1 + 9) = 12 ∧ (kd (v0 + 9) = 12 ∧ ((0 : Int32).toNatClampNeg + (6 : Int32).toNatClampNeg ≤ al (v1 + 9) ∧ ((0 : Int32).toNatClampNeg + (6 : Int32).toNatClampNeg ≤ al (v0 + 9) ∧ (∀ M33 : MM, M33 = mrow M26 (v0 + 9) (va_cpy (M26 (v1 + 9)) (M26 (v0 + 9)) (0 : Int32).toNatClampNeg (0 : Int32).toNatClampNeg (6 : Int32).toNatClampNeg) → (kd (v1) = 1 ∧ (kd (v0) = 1 ∧ (kd (v1 + 10) = 12 ∧ (kd (v0 + 10) = 12 ∧ ((0 : Int32).toNatClampNeg + (4 : Int32).toNatClampNeg ≤ al (v1 + 10) ∧ ((0 : Int32).toNatClampNeg + (4 : Int32).toNatClampNeg ≤ al (v0 + 10) ∧ (∀ M40 : MM, M40 = mrow M33 (v0 + 10) (va_cpy (M33 (v1 + 10)) (M33 (v0 + 10)) (0 : Int32).toNatClampNeg (0 : Int32).toNatClampNeg (4 : Int32).toNatClampNeg) → (∃ n9, wX1_copyFrom_91 post  n9 M40 tl v0 v1 0)))))))))))))))))))))))))))))))))))))))))
set_option maxHeartbeats 4000000 in
set_option maxRecDepth 20000 in
theorem ctX1_copyFrom {E : EV} {ad : Nat → Nat} {M : MM} {tl : Int64} {Φ : Option Value → va_W → Prop} {post : MM → Int64 → Prop} {v0 : Nat} {v1 : Nat} (h : wpX1_copyFrom post M tl v0 v1) (hp : ∀ M tl, post M tl → Φ none (WM E ad M tl)) : Tm E kX1_copyFrom (WM E ad M tl) [.ref (ad (v0)), .ref (ad (v1))] Φ := by
  unfold wpX1_copyFrom at h
  show T E kX1_copyFrom 0 0 (WM E ad M tl) 0 [(0, .ref (ad (v0))), (1, .ref (ad (v1)))] [] Φ
  refine tj_aload_n rfl dX1_copyFrom_0 rfl ?_
  refine tj_aload_n rfl dX1_copyFrom_1 rfl ?_
  obtain ⟨hk1, h⟩ := h
  refine gf1_lots (a := v1) hk1 rfl dX1_copyFrom_2 fl_X1_35 ?_
  obtain ⟨hk2, h⟩ := h
  refine pf1_lots (a := v0) hk2 rfl dX1_copyFrom_5 fl_X1_35 ?_
  replace h := h _ rfl
  generalize mset M v0 0 (M v1 0) = M3 at h ⊢
  refine tj_aload_n rfl dX1_copyFrom_8 rfl ?_
  refine tj_aload_n rfl dX1_copyFrom_9 rfl ?_
  obtain ⟨hk4, h⟩ := h
  refine gf1_bend (a := v1) hk4 rfl dX1_copyFrom_10 fl_X1_39 ?_
  obtain ⟨hk5, h⟩ := h
  refine pf1_bend (a := v0) hk5 rfl dX1_copyFrom_13 fl_X1_39 ?_
  replace h := h _ rfl
  generalize mset M3 v0 1 (M3 v1 1) = M6 at h ⊢
  refine tj_aload_n rfl dX1_copyFrom_16 rfl ?_
  refine tj_aload_n rfl dX1_copyFrom_17 rfl ?_
  obtain ⟨hk7, h⟩ := h
  refine gf1_pull (a := v1) hk7 rfl dX1_copyFrom_18 fl_X1_42 ?_
  obtain ⟨hk8, h⟩ := h
  refine pf1_pull (a := v0) hk8 rfl dX1_copyFrom_21 fl_X1_42 ?_
  replace h := h _ rfl
  generalize mset M6 v0 2 (M6 v1 2) = M9 at h ⊢
  refine tj_aload_n rfl dX1_copyFrom_24 rfl ?_
  refine tj_aload_n rfl dX1_copyFrom_25 rfl ?_
  obtain ⟨hk10, h⟩ := h
  refine gf1_rightKinds (a := v1) hk10 rfl dX1_copyFrom_26 fl_X1_45 ?_
  obtain ⟨hk11, h⟩ := h
  refine pf1_rightKinds (a := v0) hk11 rfl dX1_copyFrom_29 fl_X1_45 ?_
  replace h := h _ rfl
  generalize mset M9 v0 3 (M9 v1 3) = M12 at h ⊢
  refine tj_aload_n rfl dX1_copyFrom_32 rfl ?_
  obtain ⟨hk13, h⟩ := h
  refine gf1_price (a := v1) hk13 rfl dX1_copyFrom_33 fl_X1_9 ?_
  refine tj_iconst (v := 0) rfl dX1_copyFrom_36 (by decide) ?_
  refine tj_aload_n rfl dX1_copyFrom_37 rfl ?_
  obtain ⟨hk14, h⟩ := h
  refine gf1_price (a := v0) hk14 rfl dX1_copyFrom_38 fl_X1_9 ?_
  refine tj_iconst (v := 0) rfl dX1_copyFrom_41 (by decide) ?_
  refine tj_iconst (v := 4) rfl dX1_copyFrom_42 (by decide) ?_
  obtain ⟨hk15, h⟩ := h
  obtain ⟨hk16, h⟩ := h
  obtain ⟨hy17, h⟩ := h
  obtain ⟨hy18, h⟩ := h
  refine tj_copy (a0 := v1 + 1) (a1 := v0 + 1) hk15 hk16 ml_X1_48 rfl dX1_copyFrom_43 (by decide) (by decide) (by decide) hy17 hy18 (Nat.le_of_ble_eq_true rfl) (by decide +kernel) ?_
  replace h := h _ rfl
  generalize mrow M12 (v0 + 1) (va_cpy (M12 (v1 + 1)) (M12 (v0 + 1)) (0 : Int32).toNatClampNeg (0 : Int32).toNatClampNeg (4 : Int32).toNatClampNeg) = M19 at h ⊢
  refine tj_aload_n rfl dX1_copyFrom_46 rfl ?_
  obtain ⟨hk20, h⟩ := h
  refine gf1_lackedKinds (a := v1) hk20 rfl dX1_copyFrom_47 fl_X1_23 ?_
  refine tj_iconst (v := 0) rfl dX1_copyFrom_50 (by decide) ?_
  refine tj_aload_n rfl dX1_copyFrom_51 rfl ?_
  obtain ⟨hk21, h⟩ := h
  refine gf1_lackedKinds (a := v0) hk21 rfl dX1_copyFrom_52 fl_X1_23 ?_
  refine tj_iconst (v := 0) rfl dX1_copyFrom_55 (by decide) ?_
  refine tj_iconst (v := 2) rfl dX1_copyFrom_56 (by decide) ?_
  obtain ⟨hk22, h⟩ := h
  obtain ⟨hk23, h⟩ := h
  obtain ⟨hy24, h⟩ := h
  obtain ⟨hy25, h⟩ := h
  refine tj_copy (a0 := v1 + 8) (a1 := v0 + 8) hk22 hk23 ml_X1_48 rfl dX1_copyFrom_57 (by decide) (by decide) (by decide) hy24 hy25 (Nat.le_of_ble_eq_true rfl) (by decide +kernel) ?_
  replace h := h _ rfl
  generalize mrow M19 (v0 + 8) (va_cpy (M19 (v1 + 8)) (M19 (v0 + 8)) (0 : Int32).toNatClampNeg (0 : Int32).toNatClampNeg (2 : Int32).toNatClampNeg) = M26 at h ⊢
  refine tj_aload_n rfl dX1_copyFrom_60 rfl ?_
  obtain ⟨hk27, h⟩ := h
  refine gf1_twin (a := v1) hk27 rfl dX1_copyFrom_61 fl_X1_26 ?_
  refine tj_iconst (v := 0) rfl dX1_copyFrom_64 (by decide) ?_
  refine tj_aload_n rfl dX1_copyFrom_65 rfl ?_
  obtain ⟨hk28, h⟩ := h
  refine gf1_twin (a := v0) hk28 rfl dX1_copyFrom_66 fl_X1_26 ?_
  refine tj_iconst (v := 0) rfl dX1_copyFrom_69 (by decide) ?_
  refine tj_bipush (v := 6) rfl dX1_copyFrom_70 (by decide) ?_
  obtain ⟨hk29, h⟩ := h
  obtain ⟨hk30, h⟩ := h
  obtain ⟨hy31, h⟩ := h
  obtain ⟨hy32, h⟩ := h
  refine tj_copy (a0 := v1 + 9) (a1 := v0 + 9) hk29 hk30 ml_X1_48 rfl dX1_copyFrom_72 (by decide) (by decide) (by decide) hy31 hy32 (Nat.le_of_ble_eq_true rfl) (by decide +kernel) ?_
  replace h := h _ rfl
  generalize mrow M26 (v0 + 9) (va_cpy (M26 (v1 + 9)) (M26 (v0 + 9)) (0 : Int32).toNatClampNeg (0 : Int32).toNatClampNeg (6 : Int32).toNatClampNeg) = M33 at h ⊢
  refine tj_aload_n rfl dX1_copyFrom_75 rfl ?_
  obtain ⟨hk34, h⟩ := h
  refine gf1_paint (a := v1) hk34 rfl dX1_copyFrom_76 fl_X1_29 ?_
  refine tj_iconst (v := 0) rfl dX1_copyFrom_79 (by decide) ?_
  refine tj_aload_n rfl dX1_copyFrom_80 rfl ?_
  obtain ⟨hk35, h⟩ := h
  refine gf1_paint (a := v0) hk35 rfl dX1_copyFrom_81 fl_X1_29 ?_
  refine tj_iconst (v := 0) rfl dX1_copyFrom_84 (by decide) ?_
  refine tj_iconst (v := 4) rfl dX1_copyFrom_85 (by decide) ?_
  obtain ⟨hk36, h⟩ := h
  obtain ⟨hk37, h⟩ := h
  obtain ⟨hy38, h⟩ := h
  obtain ⟨hy39, h⟩ := h
  refine tj_copy (a0 := v1 + 10) (a1 := v0 + 10) hk36 hk37 ml_X1_48 rfl dX1_copyFrom_86 (by decide) (by decide) (by decide) hy38 hy39 (Nat.le_of_ble_eq_true rfl) (by decide +kernel) ?_
  replace h := h _ rfl
  generalize mrow M33 (v0 + 10) (va_cpy (M33 (v1 + 10)) (M33 (v0 + 10)) (0 : Int32).toNatClampNeg (0 : Int32).toNatClampNeg (4 : Int32).toNatClampNeg) = M40 at h ⊢
  refine tj_iconst (v := 0) rfl dX1_copyFrom_89 (by decide) ?_
  refine tj_istore_n (l' := [(0, _), (1, _), (2, _)]) rfl dX1_copyFrom_90 (by decide) rfl ?_
  obtain ⟨n9, h⟩ := h
  exact bX1_copyFrom_91 hp  n9 _ _ _ _ _ h
def wpX10_isBank (post : Int32 → MM → Int64 → Prop) (M : MM) (tl : Int64) (v0 : Int32) : Prop :=
  (if v0 < 0 then post 0 M tl else (if 2 ≤ v0 then post 0 M tl else post 1 M tl))
set_option maxHeartbeats 4000000 in
set_option maxRecDepth 20000 in
theorem ctX10_isBank {E : EV} {ad : Nat → Nat} {M : MM} {tl : Int64} {Φ : Option Value → va_W → Prop} {post : Int32 → MM → Int64 → Prop} {v0 : Int32} (h : wpX10_isBank post M tl v0) (hp : ∀ r M tl, post r M tl → Φ (some (.int r)) (WM E ad M tl)) : Tm E kX10_isBank (WM E ad M tl) [.int v0] Φ := by
  unfold wpX10_isBank at h
  show T E kX10_isBank 0 0 (WM E ad M tl) 0 [(0, .int v0)] [] Φ
  refine tj_iload_n rfl dX10_isBank_0 rfl ?_
  refine tj_if_lt (tgt := 13) rfl rfl dX10_isBank_1 (fun hc => ?_) (fun hc => ?_)
  · rw [if_pos hc] at h
    refine tj_iconst (v := 0) rfl dX10_isBank_13 (by decide) ?_
    exact tj_ireturn (ty := .boolean) dX10_isBank_14 rfl rfl (Nat.zero_le _) (Nat.zero_le _) (hp _ _ _ h)
  · rw [if_neg hc] at h
    refine tj_iload_n rfl dX10_isBank_4 rfl ?_
    refine tj_iconst (v := 2) rfl dX10_isBank_5 (by decide) ?_
    refine tj_icmp_ge (tgt := 13) rfl rfl dX10_isBank_6 (fun hc => ?_) (fun hc => ?_)
    · rw [if_pos hc] at h
      refine tj_iconst (v := 0) rfl dX10_isBank_13 (by decide) ?_
      exact tj_ireturn (ty := .boolean) dX10_isBank_14 rfl rfl (Nat.zero_le _) (Nat.zero_le _) (hp _ _ _ h)
    · rw [if_neg hc] at h
      refine tj_iconst (v := 1) rfl dX10_isBank_9 (by decide) ?_
      refine tj_goto (tgt := 14) rfl dX10_isBank_10 ?_
      exact tj_ireturn (ty := .boolean) dX10_isBank_14 rfl rfl (Nat.zero_le _) (Nat.zero_le _) (hp _ _ _ h)
def wpX10_isSlot (post : Int32 → MM → Int64 → Prop) (M : MM) (tl : Int64) (v0 : Int32) (v1 : Int32) : Prop :=
  wpX10_isBank (fun r3 M1 t2 => (if r3 = 0 then post 0 M1 t2 else (if v1 < 0 then post 0 M1 t2 else (if 8 ≤ v1 then post 0 M1 t2 else post 1 M1 t2)))) M tl v0
set_option maxHeartbeats 4000000 in
set_option maxRecDepth 20000 in
theorem ctX10_isSlot {E : EV} {ad : Nat → Nat} {M : MM} {tl : Int64} {Φ : Option Value → va_W → Prop} {post : Int32 → MM → Int64 → Prop} {v0 : Int32} {v1 : Int32} (h : wpX10_isSlot post M tl v0 v1) (hp : ∀ r M tl, post r M tl → Φ (some (.int r)) (WM E ad M tl)) : Tm E kX10_isSlot (WM E ad M tl) [.int v0, .int v1] Φ := by
  unfold wpX10_isSlot at h
  show T E kX10_isSlot 0 0 (WM E ad M tl) 0 [(0, .int v0), (1, .int v1)] [] Φ
  refine tj_iload_n rfl dX10_isSlot_0 rfl ?_
  refine cf_S (z := kX10_isBank) (As := [_]) rfl dX10_isSlot_1 rfl ml_X10_201 okX10_isBank rfl (rm_ok rfl) (Nat.le_of_ble_eq_true rfl) (Nat.le_of_ble_eq_true rfl) rfl ?_
  refine ctX10_isBank h (fun r3 M1 t2 h => ?_)
  refine tj_if_eq (tgt := 21) rfl rfl dX10_isSlot_4 (fun hc => ?_) (fun hc => ?_)
  · rw [if_pos hc] at h
    refine tj_iconst (v := 0) rfl dX10_isSlot_21 (by decide) ?_
    exact tj_ireturn (ty := .boolean) dX10_isSlot_22 rfl rfl (Nat.zero_le _) (Nat.zero_le _) (hp _ _ _ h)
  · rw [if_neg hc] at h
    refine tj_iload_n rfl dX10_isSlot_7 rfl ?_
    refine tj_if_lt (tgt := 21) rfl rfl dX10_isSlot_8 (fun hc => ?_) (fun hc => ?_)
    · rw [if_pos hc] at h
      refine tj_iconst (v := 0) rfl dX10_isSlot_21 (by decide) ?_
      exact tj_ireturn (ty := .boolean) dX10_isSlot_22 rfl rfl (Nat.zero_le _) (Nat.zero_le _) (hp _ _ _ h)
    · rw [if_neg hc] at h
      refine tj_iload_n rfl dX10_isSlot_11 rfl ?_
      refine tj_bipush (v := 8) rfl dX10_isSlot_12 (by decide) ?_
      refine tj_icmp_ge (tgt := 21) rfl rfl dX10_isSlot_14 (fun hc => ?_) (fun hc => ?_)
      · rw [if_pos hc] at h
        refine tj_iconst (v := 0) rfl dX10_isSlot_21 (by decide) ?_
        exact tj_ireturn (ty := .boolean) dX10_isSlot_22 rfl rfl (Nat.zero_le _) (Nat.zero_le _) (hp _ _ _ h)
      · rw [if_neg hc] at h
        refine tj_iconst (v := 1) rfl dX10_isSlot_17 (by decide) ?_
        refine tj_goto (tgt := 22) rfl dX10_isSlot_18 ?_
        exact tj_ireturn (ty := .boolean) dX10_isSlot_22 rfl rfl (Nat.zero_le _) (Nat.zero_le _) (hp _ _ _ h)
def wpX1_isLot (post : Int32 → MM → Int64 → Prop) (M : MM) (tl : Int64) (v0 : Nat) (v1 : Int32) (v2 : Int32) : Prop :=
  wpX10_isSlot (fun r3 M1 t2 => (if r3 = 0 then post 0 M1 t2 else (kd (v0) = 1 ∧ (if (M1 v0 0) ≤ v2 then post 0 M1 t2 else post 1 M1 t2)))) M tl v1 v2
set_option maxHeartbeats 4000000 in
set_option maxRecDepth 20000 in
theorem ctX1_isLot {E : EV} {ad : Nat → Nat} {M : MM} {tl : Int64} {Φ : Option Value → va_W → Prop} {post : Int32 → MM → Int64 → Prop} {v0 : Nat} {v1 : Int32} {v2 : Int32} (h : wpX1_isLot post M tl v0 v1 v2) (hp : ∀ r M tl, post r M tl → Φ (some (.int r)) (WM E ad M tl)) : Tm E kX1_isLot (WM E ad M tl) [.ref (ad (v0)), .int v1, .int v2] Φ := by
  unfold wpX1_isLot at h
  show T E kX1_isLot 0 0 (WM E ad M tl) 0 [(0, .ref (ad (v0))), (1, .int v1), (2, .int v2)] [] Φ
  refine tj_iload_n rfl dX1_isLot_0 rfl ?_
  refine tj_iload_n rfl dX1_isLot_1 rfl ?_
  refine cf_SN (z := kX10_isSlot) (As := [_, _]) rfl dX1_isLot_2 rfl nl_X1_54 okX10_isSlot rfl (rm_ok rfl) (Nat.le_of_ble_eq_true rfl) (Nat.le_of_ble_eq_true rfl) rfl ?_
  refine ctX10_isSlot h (fun r3 M1 t2 h => ?_)
  refine tj_if_eq (tgt := 20) rfl rfl dX1_isLot_5 (fun hc => ?_) (fun hc => ?_)
  · rw [if_pos hc] at h
    refine tj_iconst (v := 0) rfl dX1_isLot_20 (by decide) ?_
    exact tj_ireturn (ty := .boolean) dX1_isLot_21 rfl rfl (Nat.zero_le _) (Nat.zero_le _) (hp _ _ _ h)
  · rw [if_neg hc] at h
    refine tj_iload_n rfl dX1_isLot_8 rfl ?_
    refine tj_aload_n rfl dX1_isLot_9 rfl ?_
    obtain ⟨hk4, h⟩ := h
    refine gf1_lots (a := v0) hk4 rfl dX1_isLot_10 fl_X1_35 ?_
    refine tj_icmp_ge (tgt := 20) rfl rfl dX1_isLot_13 (fun hc => ?_) (fun hc => ?_)
    · rw [if_pos hc] at h
      refine tj_iconst (v := 0) rfl dX1_isLot_20 (by decide) ?_
      exact tj_ireturn (ty := .boolean) dX1_isLot_21 rfl rfl (Nat.zero_le _) (Nat.zero_le _) (hp _ _ _ h)
    · rw [if_neg hc] at h
      refine tj_iconst (v := 1) rfl dX1_isLot_16 (by decide) ?_
      refine tj_goto (tgt := 21) rfl dX1_isLot_17 ?_
      exact tj_ireturn (ty := .boolean) dX1_isLot_21 rfl rfl (Nat.zero_le _) (Nat.zero_le _) (hp _ _ _ h)
def wpX10_isKind (post : Int32 → MM → Int64 → Prop) (M : MM) (tl : Int64) (v0 : Int32) : Prop :=
  (if v0 < 0 then post 0 M tl else (if 6 ≤ v0 then post 0 M tl else post 1 M tl))
set_option maxHeartbeats 4000000 in
set_option maxRecDepth 20000 in
theorem ctX10_isKind {E : EV} {ad : Nat → Nat} {M : MM} {tl : Int64} {Φ : Option Value → va_W → Prop} {post : Int32 → MM → Int64 → Prop} {v0 : Int32} (h : wpX10_isKind post M tl v0) (hp : ∀ r M tl, post r M tl → Φ (some (.int r)) (WM E ad M tl)) : Tm E kX10_isKind (WM E ad M tl) [.int v0] Φ := by
  unfold wpX10_isKind at h
  show T E kX10_isKind 0 0 (WM E ad M tl) 0 [(0, .int v0)] [] Φ
  refine tj_iload_n rfl dX10_isKind_0 rfl ?_
  refine tj_if_lt (tgt := 14) rfl rfl dX10_isKind_1 (fun hc => ?_) (fun hc => ?_)
  · rw [if_pos hc] at h
    refine tj_iconst (v := 0) rfl dX10_isKind_14 (by decide) ?_
    exact tj_ireturn (ty := .boolean) dX10_isKind_15 rfl rfl (Nat.zero_le _) (Nat.zero_le _) (hp _ _ _ h)
  · rw [if_neg hc] at h
    refine tj_iload_n rfl dX10_isKind_4 rfl ?_
    refine tj_bipush (v := 6) rfl dX10_isKind_5 (by decide) ?_
    refine tj_icmp_ge (tgt := 14) rfl rfl dX10_isKind_7 (fun hc => ?_) (fun hc => ?_)
    · rw [if_pos hc] at h
      refine tj_iconst (v := 0) rfl dX10_isKind_14 (by decide) ?_
      exact tj_ireturn (ty := .boolean) dX10_isKind_15 rfl rfl (Nat.zero_le _) (Nat.zero_le _) (hp _ _ _ h)
    · rw [if_neg hc] at h
      refine tj_iconst (v := 1) rfl dX10_isKind_10 (by decide) ?_
      refine tj_goto (tgt := 15) rfl dX10_isKind_11 ?_
      exact tj_ireturn (ty := .boolean) dX10_isKind_15 rfl rfl (Nat.zero_le _) (Nat.zero_le _) (hp _ _ _ h)
def wpX1_twinOf (post : Int32 → MM → Int64 → Prop) (M : MM) (tl : Int64) (v0 : Nat) (v1 : Int32) : Prop :=
  wpX10_isKind (fun r3 M1 t2 => (if r3 = 0 then post 0 M1 t2 else (kd (v0) = 1 ∧ (kd (v0 + 9) = 12 ∧ (vp_in v1 (al (v0 + 9)) ∧ post (M1 (v0 + 9) (v1 : Int32).toNatClampNeg) M1 t2))))) M tl v1
set_option maxHeartbeats 4000000 in
set_option maxRecDepth 20000 in
theorem ctX1_twinOf {E : EV} {ad : Nat → Nat} {M : MM} {tl : Int64} {Φ : Option Value → va_W → Prop} {post : Int32 → MM → Int64 → Prop} {v0 : Nat} {v1 : Int32} (h : wpX1_twinOf post M tl v0 v1) (hp : ∀ r M tl, post r M tl → Φ (some (.int r)) (WM E ad M tl)) : Tm E kX1_twinOf (WM E ad M tl) [.ref (ad (v0)), .int v1] Φ := by
  unfold wpX1_twinOf at h
  show T E kX1_twinOf 0 0 (WM E ad M tl) 0 [(0, .ref (ad (v0))), (1, .int v1)] [] Φ
  refine tj_iload_n rfl dX1_twinOf_0 rfl ?_
  refine cf_SN (z := kX10_isKind) (As := [_]) rfl dX1_twinOf_1 rfl nl_X1_58 okX10_isKind rfl (rm_ok rfl) (Nat.le_of_ble_eq_true rfl) (Nat.le_of_ble_eq_true rfl) rfl ?_
  refine ctX10_isKind h (fun r3 M1 t2 h => ?_)
  refine tj_if_eq (tgt := 16) rfl rfl dX1_twinOf_4 (fun hc => ?_) (fun hc => ?_)
  · rw [if_pos hc] at h
    refine tj_iconst (v := 0) rfl dX1_twinOf_16 (by decide) ?_
    exact tj_ireturn (ty := .int) dX1_twinOf_17 rfl rfl (Nat.zero_le _) (Nat.zero_le _) (hp _ _ _ h)
  · rw [if_neg hc] at h
    refine tj_aload_n rfl dX1_twinOf_7 rfl ?_
    obtain ⟨hk4, h⟩ := h
    refine gf1_twin (a := v0) hk4 rfl dX1_twinOf_8 fl_X1_26 ?_
    refine tj_iload_n rfl dX1_twinOf_11 rfl ?_
    obtain ⟨hk5, h⟩ := h
    obtain ⟨hi6, h⟩ := h
    refine af_iald (a := v0 + 9) hk5 rfl dX1_twinOf_12 hi6 ?_
    refine tj_goto (tgt := 17) rfl dX1_twinOf_13 ?_
    exact tj_ireturn (ty := .int) dX1_twinOf_17 rfl rfl (Nat.zero_le _) (Nat.zero_le _) (hp _ _ _ h)
def wpX10_isBuilt (post : Int32 → MM → Int64 → Prop) (M : MM) (tl : Int64) (v0 : Int32) : Prop :=
  (if v0 < 1 then post 0 M tl else (if 6 ≤ v0 then post 0 M tl else post 1 M tl))
set_option maxHeartbeats 4000000 in
set_option maxRecDepth 20000 in
theorem ctX10_isBuilt {E : EV} {ad : Nat → Nat} {M : MM} {tl : Int64} {Φ : Option Value → va_W → Prop} {post : Int32 → MM → Int64 → Prop} {v0 : Int32} (h : wpX10_isBuilt post M tl v0) (hp : ∀ r M tl, post r M tl → Φ (some (.int r)) (WM E ad M tl)) : Tm E kX10_isBuilt (WM E ad M tl) [.int v0] Φ := by
  unfold wpX10_isBuilt at h
  show T E kX10_isBuilt 0 0 (WM E ad M tl) 0 [(0, .int v0)] [] Φ
  refine tj_iload_n rfl dX10_isBuilt_0 rfl ?_
  refine tj_iconst (v := 1) rfl dX10_isBuilt_1 (by decide) ?_
  refine tj_icmp_lt (tgt := 15) rfl rfl dX10_isBuilt_2 (fun hc => ?_) (fun hc => ?_)
  · rw [if_pos hc] at h
    refine tj_iconst (v := 0) rfl dX10_isBuilt_15 (by decide) ?_
    exact tj_ireturn (ty := .boolean) dX10_isBuilt_16 rfl rfl (Nat.zero_le _) (Nat.zero_le _) (hp _ _ _ h)
  · rw [if_neg hc] at h
    refine tj_iload_n rfl dX10_isBuilt_5 rfl ?_
    refine tj_bipush (v := 6) rfl dX10_isBuilt_6 (by decide) ?_
    refine tj_icmp_ge (tgt := 15) rfl rfl dX10_isBuilt_8 (fun hc => ?_) (fun hc => ?_)
    · rw [if_pos hc] at h
      refine tj_iconst (v := 0) rfl dX10_isBuilt_15 (by decide) ?_
      exact tj_ireturn (ty := .boolean) dX10_isBuilt_16 rfl rfl (Nat.zero_le _) (Nat.zero_le _) (hp _ _ _ h)
    · rw [if_neg hc] at h
      refine tj_iconst (v := 1) rfl dX10_isBuilt_11 (by decide) ?_
      refine tj_goto (tgt := 16) rfl dX10_isBuilt_12 ?_
      exact tj_ireturn (ty := .boolean) dX10_isBuilt_16 rfl rfl (Nat.zero_le _) (Nat.zero_le _) (hp _ _ _ h)
def wX1_costOf_25 (post : Int32 → MM → Int64 → Prop) (M : MM) (tl : Int64) (v0 : Nat) : Prop :=
  (kd (v0) = 1 ∧ post (M v0 2) M tl)
set_option maxHeartbeats 4000000 in
set_option maxRecDepth 20000 in
theorem bX1_costOf_25 {E : EV} {ad : Nat → Nat} {M : MM} {tl : Int64} {Φ : Option Value → va_W → Prop} {post : Int32 → MM → Int64 → Prop} {v0 : Nat} (hp : ∀ r M tl, post r M tl → Φ (some (.int r)) (WM E ad M tl)) (h : wX1_costOf_25 post M tl v0) : T E kX1_costOf 0 0 (WM E ad M tl) 25 [(0, .ref (ad (v0)))] [] Φ := by
  unfold wX1_costOf_25 at h
  refine tj_aload_n rfl dX1_costOf_25 rfl ?_
  obtain ⟨hk1, h⟩ := h
  refine gf1_pull (a := v0) hk1 rfl dX1_costOf_26 fl_X1_42 ?_
  exact tj_ireturn (ty := .int) dX1_costOf_29 rfl rfl (Nat.zero_le _) (Nat.zero_le _) (hp _ _ _ h)
def wpX1_costOf (post : Int32 → MM → Int64 → Prop) (M : MM) (tl : Int64) (v0 : Nat) (v1 : Int32) (v2 : Int32) : Prop :=
  wpX10_isBank (fun r3 M1 t2 => (if r3 = 0 then wX1_costOf_25 post  M1 t2 v0 else wpX10_isBuilt (fun r6 M4 t5 => (if r6 = 0 then wX1_costOf_25 post  M4 t5 v0 else (kd (v0) = 1 ∧ (kd (v0 + 2) = 16 ∧ (vp_in v1 2 ∧ (kd ((v0 + 2) + 1 + (v1 : Int32).toNatClampNeg) = 12 ∧ (vp_in v2 (al ((v0 + 2) + 1 + (v1 : Int32).toNatClampNeg)) ∧ post (M4 ((v0 + 2) + 1 + (v1 : Int32).toNatClampNeg) (v2 : Int32).toNatClampNeg) M4 t5))))))) M1 t2 v2)) M tl v1
set_option maxHeartbeats 4000000 in
set_option maxRecDepth 20000 in
theorem ctX1_costOf {E : EV} {ad : Nat → Nat} {M : MM} {tl : Int64} {Φ : Option Value → va_W → Prop} {post : Int32 → MM → Int64 → Prop} {v0 : Nat} {v1 : Int32} {v2 : Int32} (h : wpX1_costOf post M tl v0 v1 v2) (hp : ∀ r M tl, post r M tl → Φ (some (.int r)) (WM E ad M tl)) : Tm E kX1_costOf (WM E ad M tl) [.ref (ad (v0)), .int v1, .int v2] Φ := by
  unfold wpX1_costOf at h
  show T E kX1_costOf 0 0 (WM E ad M tl) 0 [(0, .ref (ad (v0))), (1, .int v1), (2, .int v2)] [] Φ
  refine tj_iload_n rfl dX1_costOf_0 rfl ?_
  refine cf_SN (z := kX10_isBank) (As := [_]) rfl dX1_costOf_1 rfl nl_X1_62 okX10_isBank rfl (rm_ok rfl) (Nat.le_of_ble_eq_true rfl) (Nat.le_of_ble_eq_true rfl) rfl ?_
  refine ctX10_isBank h (fun r3 M1 t2 h => ?_)
  refine tj_if_eq (tgt := 25) rfl rfl dX1_costOf_4 (fun hc => ?_) (fun hc => ?_)
  · rw [if_pos hc] at h
    exact tj_pick (l' := [(0, _)]) [0] rfl (bX1_costOf_25 hp  h)
  · rw [if_neg hc] at h
    refine tj_iload_n rfl dX1_costOf_7 rfl ?_
    refine cf_SN (z := kX10_isBuilt) (As := [_]) rfl dX1_costOf_8 rfl nl_X1_65 okX10_isBuilt rfl (rm_ok rfl) (Nat.le_of_ble_eq_true rfl) (Nat.le_of_ble_eq_true rfl) rfl ?_
    refine ctX10_isBuilt h (fun r6 M4 t5 h => ?_)
    refine tj_if_eq (tgt := 25) rfl rfl dX1_costOf_11 (fun hc => ?_) (fun hc => ?_)
    · rw [if_pos hc] at h
      exact tj_pick (l' := [(0, _)]) [0] rfl (bX1_costOf_25 hp  h)
    · rw [if_neg hc] at h
      refine tj_aload_n rfl dX1_costOf_14 rfl ?_
      obtain ⟨hk7, h⟩ := h
      refine gf1_cost (a := v0) hk7 rfl dX1_costOf_15 fl_X1_17 ?_
      refine tj_iload_n rfl dX1_costOf_18 rfl ?_
      obtain ⟨hk9, h⟩ := h
      obtain ⟨hi8, h⟩ := h
      refine af_two (a := v0 + 2) hk9 rfl dX1_costOf_19 hi8 ?_
      refine tj_iload_n rfl dX1_costOf_20 rfl ?_
      obtain ⟨hk10, h⟩ := h
      obtain ⟨hi11, h⟩ := h
      refine af_iald (a := (v0 + 2) + 1 + (v1 : Int32).toNatClampNeg) hk10 rfl dX1_costOf_21 hi11 ?_
      refine tj_goto (tgt := 29) rfl dX1_costOf_22 ?_
      exact tj_ireturn (ty := .int) dX1_costOf_29 rfl rfl (Nat.zero_le _) (Nat.zero_le _) (hp _ _ _ h)
def wpX1_tasteOf (post : Int32 → MM → Int64 → Prop) (M : MM) (tl : Int64) (v0 : Nat) (v1 : Int32) (v2 : Int32) : Prop :=
  wpX10_isBank (fun r3 M1 t2 => (if r3 = 0 then post 0 M1 t2 else wpX10_isBuilt (fun r6 M4 t5 => (if r6 = 0 then post 0 M4 t5 else (kd (v0) = 1 ∧ (kd (v0 + 5) = 16 ∧ (vp_in v1 2 ∧ (kd ((v0 + 5) + 1 + (v1 : Int32).toNatClampNeg) = 12 ∧ (vp_in v2 (al ((v0 + 5) + 1 + (v1 : Int32).toNatClampNeg)) ∧ post (M4 ((v0 + 5) + 1 + (v1 : Int32).toNatClampNeg) (v2 : Int32).toNatClampNeg) M4 t5))))))) M1 t2 v2)) M tl v1
set_option maxHeartbeats 4000000 in
set_option maxRecDepth 20000 in
theorem ctX1_tasteOf {E : EV} {ad : Nat → Nat} {M : MM} {tl : Int64} {Φ : Option Value → va_W → Prop} {post : Int32 → MM → Int64 → Prop} {v0 : Nat} {v1 : Int32} {v2 : Int32} (h : wpX1_tasteOf post M tl v0 v1 v2) (hp : ∀ r M tl, post r M tl → Φ (some (.int r)) (WM E ad M tl)) : Tm E kX1_tasteOf (WM E ad M tl) [.ref (ad (v0)), .int v1, .int v2] Φ := by
  unfold wpX1_tasteOf at h
  show T E kX1_tasteOf 0 0 (WM E ad M tl) 0 [(0, .ref (ad (v0))), (1, .int v1), (2, .int v2)] [] Φ
  refine tj_iload_n rfl dX1_tasteOf_0 rfl ?_
  refine cf_SN (z := kX10_isBank) (As := [_]) rfl dX1_tasteOf_1 rfl nl_X1_62 okX10_isBank rfl (rm_ok rfl) (Nat.le_of_ble_eq_true rfl) (Nat.le_of_ble_eq_true rfl) rfl ?_
  refine ctX10_isBank h (fun r3 M1 t2 h => ?_)
  refine tj_if_eq (tgt := 25) rfl rfl dX1_tasteOf_4 (fun hc => ?_) (fun hc => ?_)
  · rw [if_pos hc] at h
    refine tj_iconst (v := 0) rfl dX1_tasteOf_25 (by decide) ?_
    exact tj_ireturn (ty := .int) dX1_tasteOf_26 rfl rfl (Nat.zero_le _) (Nat.zero_le _) (hp _ _ _ h)
  · rw [if_neg hc] at h
    refine tj_iload_n rfl dX1_tasteOf_7 rfl ?_
    refine cf_SN (z := kX10_isBuilt) (As := [_]) rfl dX1_tasteOf_8 rfl nl_X1_65 okX10_isBuilt rfl (rm_ok rfl) (Nat.le_of_ble_eq_true rfl) (Nat.le_of_ble_eq_true rfl) rfl ?_
    refine ctX10_isBuilt h (fun r6 M4 t5 h => ?_)
    refine tj_if_eq (tgt := 25) rfl rfl dX1_tasteOf_11 (fun hc => ?_) (fun hc => ?_)
    · rw [if_pos hc] at h
      refine tj_iconst (v := 0) rfl dX1_tasteOf_25 (by decide) ?_
      exact tj_ireturn (ty := .int) dX1_tasteOf_26 rfl rfl (Nat.zero_le _) (Nat.zero_le _) (hp _ _ _ h)
    · rw [if_neg hc] at h
      refine tj_aload_n rfl dX1_tasteOf_14 rfl ?_
      obtain ⟨hk7, h⟩ := h
      refine gf1_taste (a := v0) hk7 rfl dX1_tasteOf_15 fl_X1_20 ?_
      refine tj_iload_n rfl dX1_tasteOf_18 rfl ?_
      obtain ⟨hk9, h⟩ := h
      obtain ⟨hi8, h⟩ := h
      refine af_two (a := v0 + 5) hk9 rfl dX1_tasteOf_19 hi8 ?_
      refine tj_iload_n rfl dX1_tasteOf_20 rfl ?_
      obtain ⟨hk10, h⟩ := h
      obtain ⟨hi11, h⟩ := h
      refine af_iald (a := (v0 + 5) + 1 + (v1 : Int32).toNatClampNeg) hk10 rfl dX1_tasteOf_21 hi11 ?_
      refine tj_goto (tgt := 26) rfl dX1_tasteOf_22 ?_
      exact tj_ireturn (ty := .int) dX1_tasteOf_26 rfl rfl (Nat.zero_le _) (Nat.zero_le _) (hp _ _ _ h)
def wpX1_lacks (post : Int32 → MM → Int64 → Prop) (M : MM) (tl : Int64) (v0 : Nat) (v1 : Int32) (v2 : Int32) : Prop :=
  wpX10_isBank (fun r3 M1 t2 => (if r3 = 0 then post 0 M1 t2 else wpX10_isBuilt (fun r6 M4 t5 => (if r6 = 0 then post 0 M4 t5 else (kd (v0) = 1 ∧ (kd (v0 + 8) = 12 ∧ (vp_in v1 (al (v0 + 8)) ∧ (if (((M4 (v0 + 8) (v1 : Int32).toNatClampNeg) >>> (v2 &&& 31)) &&& 1) = 0 then post 0 M4 t5 else post 1 M4 t5)))))) M1 t2 v2)) M tl v1
set_option maxHeartbeats 4000000 in
set_option maxRecDepth 20000 in
theorem ctX1_lacks {E : EV} {ad : Nat → Nat} {M : MM} {tl : Int64} {Φ : Option Value → va_W → Prop} {post : Int32 → MM → Int64 → Prop} {v0 : Nat} {v1 : Int32} {v2 : Int32} (h : wpX1_lacks post M tl v0 v1 v2) (hp : ∀ r M tl, post r M tl → Φ (some (.int r)) (WM E ad M tl)) : Tm E kX1_lacks (WM E ad M tl) [.ref (ad (v0)), .int v1, .int v2] Φ := by
  unfold wpX1_lacks at h
  show T E kX1_lacks 0 0 (WM E ad M tl) 0 [(0, .ref (ad (v0))), (1, .int v1), (2, .int v2)] [] Φ
  refine tj_iload_n rfl dX1_lacks_0 rfl ?_
  refine cf_SN (z := kX10_isBank) (As := [_]) rfl dX1_lacks_1 rfl nl_X1_62 okX10_isBank rfl (rm_ok rfl) (Nat.le_of_ble_eq_true rfl) (Nat.le_of_ble_eq_true rfl) rfl ?_
  refine ctX10_isBank h (fun r3 M1 t2 h => ?_)
  refine tj_if_eq (tgt := 31) rfl rfl dX1_lacks_4 (fun hc => ?_) (fun hc => ?_)
  · rw [if_pos hc] at h
    refine tj_iconst (v := 0) rfl dX1_lacks_31 (by decide) ?_
    exact tj_ireturn (ty := .boolean) dX1_lacks_32 rfl rfl (Nat.zero_le _) (Nat.zero_le _) (hp _ _ _ h)
  · rw [if_neg hc] at h
    refine tj_iload_n rfl dX1_lacks_7 rfl ?_
    refine cf_SN (z := kX10_isBuilt) (As := [_]) rfl dX1_lacks_8 rfl nl_X1_65 okX10_isBuilt rfl (rm_ok rfl) (Nat.le_of_ble_eq_true rfl) (Nat.le_of_ble_eq_true rfl) rfl ?_
    refine ctX10_isBuilt h (fun r6 M4 t5 h => ?_)
    refine tj_if_eq (tgt := 31) rfl rfl dX1_lacks_11 (fun hc => ?_) (fun hc => ?_)
    · rw [if_pos hc] at h
      refine tj_iconst (v := 0) rfl dX1_lacks_31 (by decide) ?_
      exact tj_ireturn (ty := .boolean) dX1_lacks_32 rfl rfl (Nat.zero_le _) (Nat.zero_le _) (hp _ _ _ h)
    · rw [if_neg hc] at h
      refine tj_aload_n rfl dX1_lacks_14 rfl ?_
      obtain ⟨hk7, h⟩ := h
      refine gf1_lackedKinds (a := v0) hk7 rfl dX1_lacks_15 fl_X1_23 ?_
      refine tj_iload_n rfl dX1_lacks_18 rfl ?_
      obtain ⟨hk8, h⟩ := h
      obtain ⟨hi9, h⟩ := h
      refine af_iald (a := v0 + 8) hk8 rfl dX1_lacks_19 hi9 ?_
      refine tj_iload_n rfl dX1_lacks_20 rfl ?_
      refine tj_ishr rfl dX1_lacks_21 ?_
      refine tj_iconst (v := 1) rfl dX1_lacks_22 (by decide) ?_
      refine tj_iand rfl dX1_lacks_23 ?_
      refine tj_if_eq (tgt := 31) rfl rfl dX1_lacks_24 (fun hc => ?_) (fun hc => ?_)
      · rw [if_pos hc] at h
        refine tj_iconst (v := 0) rfl dX1_lacks_31 (by decide) ?_
        exact tj_ireturn (ty := .boolean) dX1_lacks_32 rfl rfl (Nat.zero_le _) (Nat.zero_le _) (hp _ _ _ h)
      · rw [if_neg hc] at h
        refine tj_iconst (v := 1) rfl dX1_lacks_27 (by decide) ?_
        refine tj_goto (tgt := 32) rfl dX1_lacks_28 ?_
        exact tj_ireturn (ty := .boolean) dX1_lacks_32 rfl rfl (Nat.zero_le _) (Nat.zero_le _) (hp _ _ _ h)
def wX1_matchBy_17 (post : Int32 → MM → Int64 → Prop) (M : MM) (tl : Int64) (v0 : Nat) (s0 : Int32) : Prop :=
  (if s0 < 0 then post (-4) M tl else (kd (v0) = 1 ∧ (if (M v0 0) ≤ s0 then post (-4) M tl else post s0 M tl)))
set_option maxHeartbeats 4000000 in
set_option maxRecDepth 20000 in
theorem bX1_matchBy_17 {E : EV} {ad : Nat → Nat} {M : MM} {tl : Int64} {Φ : Option Value → va_W → Prop} {post : Int32 → MM → Int64 → Prop} {v0 : Nat} {s0 : Int32} (hp : ∀ r M tl, post r M tl → Φ (some (.int r)) (WM E ad M tl)) (h : wX1_matchBy_17 post M tl v0 s0) : T E kX1_matchBy 0 0 (WM E ad M tl) 17 [(0, .ref (ad (v0)))] [.int s0] Φ := by
  unfold wX1_matchBy_17 at h
  refine tj_istore (l' := [(0, _), (4, _)]) rfl dX1_matchBy_17 (by decide) rfl ?_
  refine tj_iload rfl dX1_matchBy_19 rfl ?_
  refine tj_if_lt (tgt := 38) rfl rfl dX1_matchBy_21 (fun hc => ?_) (fun hc => ?_)
  · rw [if_pos hc] at h
    refine tj_bipush (v := -4) rfl dX1_matchBy_38 (by decide) ?_
    exact tj_ireturn (ty := .int) dX1_matchBy_40 rfl rfl (Nat.zero_le _) (Nat.zero_le _) (hp _ _ _ h)
  · rw [if_neg hc] at h
    refine tj_iload rfl dX1_matchBy_24 rfl ?_
    refine tj_aload_n rfl dX1_matchBy_26 rfl ?_
    obtain ⟨hk1, h⟩ := h
    refine gf1_lots (a := v0) hk1 rfl dX1_matchBy_27 fl_X1_35 ?_
    refine tj_icmp_ge (tgt := 38) rfl rfl dX1_matchBy_30 (fun hc => ?_) (fun hc => ?_)
    · rw [if_pos hc] at h
      refine tj_bipush (v := -4) rfl dX1_matchBy_38 (by decide) ?_
      exact tj_ireturn (ty := .int) dX1_matchBy_40 rfl rfl (Nat.zero_le _) (Nat.zero_le _) (hp _ _ _ h)
    · rw [if_neg hc] at h
      refine tj_iload rfl dX1_matchBy_33 rfl ?_
      refine tj_goto (tgt := 40) rfl dX1_matchBy_35 ?_
      exact tj_ireturn (ty := .int) dX1_matchBy_40 rfl rfl (Nat.zero_le _) (Nat.zero_le _) (hp _ _ _ h)
def wpX1_matchBy (post : Int32 → MM → Int64 → Prop) (M : MM) (tl : Int64) (v0 : Nat) (v1 : Int32) (v2 : Int32) (v3 : Int32) : Prop :=
  (if v2 = 0 then wX1_matchBy_17 post  M tl v0 ((v3 + v1) - 3) else wX1_matchBy_17 post  M tl v0 ((v3 - v1) + 3))
set_option maxHeartbeats 4000000 in
set_option maxRecDepth 20000 in
theorem ctX1_matchBy {E : EV} {ad : Nat → Nat} {M : MM} {tl : Int64} {Φ : Option Value → va_W → Prop} {post : Int32 → MM → Int64 → Prop} {v0 : Nat} {v1 : Int32} {v2 : Int32} {v3 : Int32} (h : wpX1_matchBy post M tl v0 v1 v2 v3) (hp : ∀ r M tl, post r M tl → Φ (some (.int r)) (WM E ad M tl)) : Tm E kX1_matchBy (WM E ad M tl) [.ref (ad (v0)), .int v1, .int v2, .int v3] Φ := by
  unfold wpX1_matchBy at h
  show T E kX1_matchBy 0 0 (WM E ad M tl) 0 [(0, .ref (ad (v0))), (1, .int v1), (2, .int v2), (3, .int v3)] [] Φ
  refine tj_iload_n rfl dX1_matchBy_0 rfl ?_
  refine tj_if_ne (tgt := 12) rfl rfl dX1_matchBy_1 (fun hc => ?_) (fun hc => ?_)
  · rw [if_neg hc] at h
    refine tj_iload_n rfl dX1_matchBy_12 rfl ?_
    refine tj_iload_n rfl dX1_matchBy_13 rfl ?_
    refine tj_isub rfl dX1_matchBy_14 ?_
    refine tj_iconst (v := 3) rfl dX1_matchBy_15 (by decide) ?_
    refine tj_iadd rfl dX1_matchBy_16 ?_
    exact tj_pick (l' := [(0, _)]) [0] rfl (bX1_matchBy_17 hp  h)
  · rw [if_pos hc] at h
    refine tj_iload_n rfl dX1_matchBy_4 rfl ?_
    refine tj_iload_n rfl dX1_matchBy_5 rfl ?_
    refine tj_iadd rfl dX1_matchBy_6 ?_
    refine tj_iconst (v := 3) rfl dX1_matchBy_7 (by decide) ?_
    refine tj_isub rfl dX1_matchBy_8 ?_
    refine tj_goto (tgt := 17) rfl dX1_matchBy_9 ?_
    exact tj_pick (l' := [(0, _)]) [0] rfl (bX1_matchBy_17 hp  h)
def wpX1_matchOf (post : Int32 → MM → Int64 → Prop) (M : MM) (tl : Int64) (v0 : Nat) (v1 : Int32) (v2 : Int32) : Prop :=
  (kd (v0) = 1 ∧ (kd (v0) = 1 ∧ wpX1_matchBy (fun r5 M3 t4 => post r5 M3 t4) M tl v0 (M v0 1) v1 v2))
set_option maxHeartbeats 4000000 in
set_option maxRecDepth 20000 in
theorem ctX1_matchOf {E : EV} {ad : Nat → Nat} {M : MM} {tl : Int64} {Φ : Option Value → va_W → Prop} {post : Int32 → MM → Int64 → Prop} {v0 : Nat} {v1 : Int32} {v2 : Int32} (h : wpX1_matchOf post M tl v0 v1 v2) (hp : ∀ r M tl, post r M tl → Φ (some (.int r)) (WM E ad M tl)) : Tm E kX1_matchOf (WM E ad M tl) [.ref (ad (v0)), .int v1, .int v2] Φ := by
  unfold wpX1_matchOf at h
  show T E kX1_matchOf 0 0 (WM E ad M tl) 0 [(0, .ref (ad (v0))), (1, .int v1), (2, .int v2)] [] Φ
  refine tj_aload_n rfl dX1_matchOf_0 rfl ?_
  refine tj_aload_n rfl dX1_matchOf_1 rfl ?_
  obtain ⟨hk1, h⟩ := h
  refine gf1_bend (a := v0) hk1 rfl dX1_matchOf_2 fl_X1_39 ?_
  refine tj_iload_n rfl dX1_matchOf_5 rfl ?_
  refine tj_iload_n rfl dX1_matchOf_6 rfl ?_
  obtain ⟨hk2, h⟩ := h
  refine cf_V1 (a := v0) (z := kX1_matchBy) (As := [_, _, _]) hk2 rfl dX1_matchOf_7 rfl ml_X1_79 okX1_matchBy rfl (rm_ok rfl) (Nat.le_of_ble_eq_true rfl) (Nat.le_of_ble_eq_true rfl) rfl rfl ?_
  refine ctX1_matchBy h (fun r5 M3 t4 h => ?_)
  exact tj_ireturn (ty := .int) dX1_matchOf_10 rfl rfl (Nat.zero_le _) (Nat.zero_le _) (hp _ _ _ h)
def wpX1_mayBuild (post : Int32 → MM → Int64 → Prop) (M : MM) (tl : Int64) (v0 : Nat) (v1 : Int32) (v2 : Int32) (v3 : Int32) : Prop :=
  (kd (v0) = 1 ∧ wpX1_lacks (fun r4 M2 t3 => (if r4 = 0 then (kd (v0) = 1 ∧ wpX1_matchOf (fun r8 M6 t7 => (if r8 = (-4) then post 1 M6 t7 else (kd (v0) = 1 ∧ wpX1_twinOf (fun r12 M10 t11 => (kd (v0) = 1 ∧ wpX1_lacks (fun r16 M14 t15 => (if r16 = 0 then post 1 M14 t15 else post 0 M14 t15)) M10 t11 v0 ((1 : Int32) - v1) r12)) M6 t7 v0 v3))) M2 t3 v0 v1 v2) else post 0 M2 t3)) M tl v0 v1 v3)
set_option maxHeartbeats 4000000 in
set_option maxRecDepth 20000 in
theorem ctX1_mayBuild {E : EV} {ad : Nat → Nat} {M : MM} {tl : Int64} {Φ : Option Value → va_W → Prop} {post : Int32 → MM → Int64 → Prop} {v0 : Nat} {v1 : Int32} {v2 : Int32} {v3 : Int32} (h : wpX1_mayBuild post M tl v0 v1 v2 v3) (hp : ∀ r M tl, post r M tl → Φ (some (.int r)) (WM E ad M tl)) : Tm E kX1_mayBuild (WM E ad M tl) [.ref (ad (v0)), .int v1, .int v2, .int v3] Φ := by
  unfold wpX1_mayBuild at h
  show T E kX1_mayBuild 0 0 (WM E ad M tl) 0 [(0, .ref (ad (v0))), (1, .int v1), (2, .int v2), (3, .int v3)] [] Φ
  refine tj_aload_n rfl dX1_mayBuild_0 rfl ?_
  refine tj_iload_n rfl dX1_mayBuild_1 rfl ?_
  refine tj_iload_n rfl dX1_mayBuild_2 rfl ?_
  obtain ⟨hk1, h⟩ := h
  refine cf_V1 (a := v0) (z := kX1_lacks) (As := [_, _]) hk1 rfl dX1_mayBuild_3 rfl ml_X1_68 okX1_lacks rfl (rm_ok rfl) (Nat.le_of_ble_eq_true rfl) (Nat.le_of_ble_eq_true rfl) rfl rfl ?_
  refine ctX1_lacks h (fun r4 M2 t3 h => ?_)
  refine tj_if_ne (tgt := 39) rfl rfl dX1_mayBuild_6 (fun hc => ?_) (fun hc => ?_)
  · rw [if_neg hc] at h
    refine tj_iconst (v := 0) rfl dX1_mayBuild_39 (by decide) ?_
    exact tj_ireturn (ty := .boolean) dX1_mayBuild_40 rfl rfl (Nat.zero_le _) (Nat.zero_le _) (hp _ _ _ h)
  · rw [if_pos hc] at h
    refine tj_aload_n rfl dX1_mayBuild_9 rfl ?_
    refine tj_iload_n rfl dX1_mayBuild_10 rfl ?_
    refine tj_iload_n rfl dX1_mayBuild_11 rfl ?_
    obtain ⟨hk5, h⟩ := h
    refine cf_V1 (a := v0) (z := kX1_matchOf) (As := [_, _]) hk5 rfl dX1_mayBuild_12 rfl ml_X1_71 okX1_matchOf rfl (rm_ok rfl) (Nat.le_of_ble_eq_true rfl) (Nat.le_of_ble_eq_true rfl) rfl rfl ?_
    refine ctX1_matchOf h (fun r8 M6 t7 h => ?_)
    refine tj_bipush (v := -4) rfl dX1_mayBuild_15 (by decide) ?_
    refine tj_icmp_eq (tgt := 35) rfl rfl dX1_mayBuild_17 (fun hc => ?_) (fun hc => ?_)
    · rw [if_pos hc] at h
      refine tj_iconst (v := 1) rfl dX1_mayBuild_35 (by decide) ?_
      refine tj_goto (tgt := 40) rfl dX1_mayBuild_36 ?_
      exact tj_ireturn (ty := .boolean) dX1_mayBuild_40 rfl rfl (Nat.zero_le _) (Nat.zero_le _) (hp _ _ _ h)
    · rw [if_neg hc] at h
      refine tj_aload_n rfl dX1_mayBuild_20 rfl ?_
      refine tj_iconst (v := 1) rfl dX1_mayBuild_21 (by decide) ?_
      refine tj_iload_n rfl dX1_mayBuild_22 rfl ?_
      refine tj_isub rfl dX1_mayBuild_23 ?_
      refine tj_aload_n rfl dX1_mayBuild_24 rfl ?_
      refine tj_iload_n rfl dX1_mayBuild_25 rfl ?_
      obtain ⟨hk9, h⟩ := h
      refine cf_V1 (a := v0) (z := kX1_twinOf) (As := [_]) hk9 rfl dX1_mayBuild_26 rfl ml_X1_75 okX1_twinOf rfl (rm_ok rfl) (Nat.le_of_ble_eq_true rfl) (Nat.le_of_ble_eq_true rfl) rfl rfl ?_
      refine ctX1_twinOf h (fun r12 M10 t11 h => ?_)
      obtain ⟨hk13, h⟩ := h
      refine cf_V1 (a := v0) (z := kX1_lacks) (As := [_, _]) hk13 rfl dX1_mayBuild_29 rfl ml_X1_68 okX1_lacks rfl (rm_ok rfl) (Nat.le_of_ble_eq_true rfl) (Nat.le_of_ble_eq_true rfl) rfl rfl ?_
      refine ctX1_lacks h (fun r16 M14 t15 h => ?_)
      refine tj_if_ne (tgt := 39) rfl rfl dX1_mayBuild_32 (fun hc => ?_) (fun hc => ?_)
      · rw [if_neg hc] at h
        refine tj_iconst (v := 0) rfl dX1_mayBuild_39 (by decide) ?_
        exact tj_ireturn (ty := .boolean) dX1_mayBuild_40 rfl rfl (Nat.zero_le _) (Nat.zero_le _) (hp _ _ _ h)
      · rw [if_pos hc] at h
        refine tj_iconst (v := 1) rfl dX1_mayBuild_35 (by decide) ?_
        refine tj_goto (tgt := 40) rfl dX1_mayBuild_36 ?_
        exact tj_ireturn (ty := .boolean) dX1_mayBuild_40 rfl rfl (Nat.zero_le _) (Nat.zero_le _) (hp _ _ _ h)
def wX1_countPairs_29 (post : Int32 → MM → Int64 → Prop) (bk4 : MM → Int64 → Nat → Int32 → Int32 → Prop) (M : MM) (tl : Int64) (v0 : Nat) (v2 : Int32) (s0 : Int32) (s1 : Int32) : Prop :=
  bk4 M tl v0 (s0 + s1) (v2 + 1)
set_option maxHeartbeats 4000000 in
set_option maxRecDepth 20000 in
theorem bX1_countPairs_29 {E : EV} {ad : Nat → Nat} {M : MM} {tl : Int64} {Φ : Option Value → va_W → Prop} {post : Int32 → MM → Int64 → Prop} {bk4 : MM → Int64 → Nat → Int32 → Int32 → Prop} {v0 : Nat} {v2 : Int32} {s0 : Int32} {s1 : Int32} (hp : ∀ r M tl, post r M tl → Φ (some (.int r)) (WM E ad M tl)) (hb4 : ∀ (M : MM) (tl : Int64) (v0 : Nat) (v1 : Int32) (v2 : Int32), bk4 M tl v0 v1 v2 → T E kX1_countPairs 0 0 (WM E ad M tl) 4 [(0, .ref (ad (v0))), (1, .int v1), (2, .int v2)] [] Φ) (h : wX1_countPairs_29 post bk4 M tl v0 v2 s0 s1) : T E kX1_countPairs 0 0 (WM E ad M tl) 29 [(0, .ref (ad (v0))), (2, .int v2)] [.int s1, .int s0] Φ := by
  unfold wX1_countPairs_29 at h
  refine tj_iadd rfl dX1_countPairs_29 ?_
  refine tj_istore_n (l' := [(0, _), (1, _), (2, _)]) rfl dX1_countPairs_30 (by decide) rfl ?_
  refine tj_iinc (v := _ + 1) (l' := [(0, _), (1, _), (2, _)]) rfl dX1_countPairs_31 rfl (by decide) rfl rfl ?_
  refine tj_goto (tgt := 4) rfl dX1_countPairs_34 ?_
  exact hb4 _ _ _ _ _ h
def wX1_countPairs_4 (post : Int32 → MM → Int64 → Prop) : Nat → MM → Int64 → Nat → Int32 → Int32 → Prop
  | 0, _, _, _, _, _ => False
  | n + 1, M, tl, v0, v1, v2 =>
    (kd (v0) = 1 ∧ (if (M v0 0) ≤ v2 then post v1 M tl else (kd (v0) = 1 ∧ wpX1_matchOf (fun r5 M3 t4 => (if r5 = (-4) then wX1_countPairs_29 post (wX1_countPairs_4 post n) M3 t4 v0 v2 v1 0 else wX1_countPairs_29 post (wX1_countPairs_4 post n) M3 t4 v0 v2 v1 1)) M tl v0 0 v2)))
set_option maxHeartbeats 4000000 in
set_option maxRecDepth 20000 in
theorem bX1_countPairs_4 {E : EV} {ad : Nat → Nat} {Φ : Option Value → va_W → Prop} {post : Int32 → MM → Int64 → Prop}  (hp : ∀ r M tl, post r M tl → Φ (some (.int r)) (WM E ad M tl)) : ∀ (n : Nat) (M : MM) (tl : Int64) (v0 : Nat) (v1 : Int32) (v2 : Int32), wX1_countPairs_4 post n M tl v0 v1 v2 → T E kX1_countPairs 0 0 (WM E ad M tl) 4 [(0, .ref (ad (v0))), (1, .int v1), (2, .int v2)] [] Φ := by
  intro n
  induction n with
  | zero => intro M tl v0 v1 v2 h; exact False.elim h
  | succ n ih =>
    intro M tl v0 v1 v2 h
    unfold wX1_countPairs_4 at h
    refine tj_iload_n rfl dX1_countPairs_4 rfl ?_
    refine tj_aload_n rfl dX1_countPairs_5 rfl ?_
    obtain ⟨hk1, h⟩ := h
    refine gf1_lots (a := v0) hk1 rfl dX1_countPairs_6 fl_X1_35 ?_
    refine tj_icmp_ge (tgt := 37) rfl rfl dX1_countPairs_9 (fun hc => ?_) (fun hc => ?_)
    · rw [if_pos hc] at h
      refine tj_iload_n rfl dX1_countPairs_37 rfl ?_
      exact tj_ireturn (ty := .int) dX1_countPairs_38 rfl rfl (Nat.zero_le _) (Nat.zero_le _) (hp _ _ _ h)
    · rw [if_neg hc] at h
      refine tj_iload_n rfl dX1_countPairs_12 rfl ?_
      refine tj_aload_n rfl dX1_countPairs_13 rfl ?_
      refine tj_iconst (v := 0) rfl dX1_countPairs_14 (by decide) ?_
      refine tj_iload_n rfl dX1_countPairs_15 rfl ?_
      obtain ⟨hk2, h⟩ := h
      refine cf_V1 (a := v0) (z := kX1_matchOf) (As := [_, _]) hk2 rfl dX1_countPairs_16 rfl ml_X1_71 okX1_matchOf rfl (rm_ok rfl) (Nat.le_of_ble_eq_true rfl) (Nat.le_of_ble_eq_true rfl) rfl rfl ?_
      refine ctX1_matchOf h (fun r5 M3 t4 h => ?_)
      refine tj_bipush (v := -4) rfl dX1_countPairs_19 (by decide) ?_
      refine tj_icmp_ne (tgt := 28) rfl rfl dX1_countPairs_21 (fun hc => ?_) (fun hc => ?_)
      · rw [if_neg hc] at h
        refine tj_iconst (v := 1) rfl dX1_countPairs_28 (by decide) ?_
        exact tj_pick (l' := [(0, _), (2, _)]) [0, 2] rfl (bX1_countPairs_29 hp ih h)
      · rw [if_pos hc] at h
        refine tj_iconst (v := 0) rfl dX1_countPairs_24 (by decide) ?_
        refine tj_goto (tgt := 29) rfl dX1_countPairs_25 ?_
        exact tj_pick (l' := [(0, _), (2, _)]) [0, 2] rfl (bX1_countPairs_29 hp ih h)
def wpX1_countPairs (post : Int32 → MM → Int64 → Prop) (M : MM) (tl : Int64) (v0 : Nat) : Prop :=
  (∃ n9, wX1_countPairs_4 post  n9 M tl v0 0 0)
set_option maxHeartbeats 4000000 in
set_option maxRecDepth 20000 in
theorem ctX1_countPairs {E : EV} {ad : Nat → Nat} {M : MM} {tl : Int64} {Φ : Option Value → va_W → Prop} {post : Int32 → MM → Int64 → Prop} {v0 : Nat} (h : wpX1_countPairs post M tl v0) (hp : ∀ r M tl, post r M tl → Φ (some (.int r)) (WM E ad M tl)) : Tm E kX1_countPairs (WM E ad M tl) [.ref (ad (v0))] Φ := by
  unfold wpX1_countPairs at h
  show T E kX1_countPairs 0 0 (WM E ad M tl) 0 [(0, .ref (ad (v0)))] [] Φ
  refine tj_iconst (v := 0) rfl dX1_countPairs_0 (by decide) ?_
  refine tj_istore_n (l' := [(0, _), (1, _)]) rfl dX1_countPairs_1 (by decide) rfl ?_
  refine tj_iconst (v := 0) rfl dX1_countPairs_2 (by decide) ?_
  refine tj_istore_n (l' := [(0, _), (1, _), (2, _)]) rfl dX1_countPairs_3 (by decide) rfl ?_
  obtain ⟨n9, h⟩ := h
  exact bX1_countPairs_4 hp  n9 _ _ _ _ _ h
def wpX1_doorStays (post : Int32 → MM → Int64 → Prop) (M : MM) (tl : Int64) (v0 : Nat) (v1 : Int32) : Prop :=
  (kd (v0) = 1 ∧ (if (((M v0 3) >>> (v1 &&& 31)) &&& 1) = 0 then (kd (v0) = 1 ∧ (kd (v0) = 1 ∧ (kd (v0 + 9) = 12 ∧ (vp_in v1 (al (v0 + 9)) ∧ (if (((M v0 3) >>> ((M (v0 + 9) (v1 : Int32).toNatClampNeg) &&& 31)) &&& 1) = 0 then post 0 M tl else post 1 M tl))))) else post 1 M tl))
set_option maxHeartbeats 4000000 in
set_option maxRecDepth 20000 in
theorem ctX1_doorStays {E : EV} {ad : Nat → Nat} {M : MM} {tl : Int64} {Φ : Option Value → va_W → Prop} {post : Int32 → MM → Int64 → Prop} {v0 : Nat} {v1 : Int32} (h : wpX1_doorStays post M tl v0 v1) (hp : ∀ r M tl, post r M tl → Φ (some (.int r)) (WM E ad M tl)) : Tm E kX1_doorStays (WM E ad M tl) [.ref (ad (v0)), .int v1] Φ := by
  unfold wpX1_doorStays at h
  show T E kX1_doorStays 0 0 (WM E ad M tl) 0 [(0, .ref (ad (v0))), (1, .int v1)] [] Φ
  refine tj_aload_n rfl dX1_doorStays_0 rfl ?_
  obtain ⟨hk1, h⟩ := h
  refine gf1_rightKinds (a := v0) hk1 rfl dX1_doorStays_1 fl_X1_45 ?_
  refine tj_iload_n rfl dX1_doorStays_4 rfl ?_
  refine tj_ishr rfl dX1_doorStays_5 ?_
  refine tj_iconst (v := 1) rfl dX1_doorStays_6 (by decide) ?_
  refine tj_iand rfl dX1_doorStays_7 ?_
  refine tj_if_ne (tgt := 27) rfl rfl dX1_doorStays_8 (fun hc => ?_) (fun hc => ?_)
  · rw [if_neg hc] at h
    refine tj_iconst (v := 1) rfl dX1_doorStays_27 (by decide) ?_
    refine tj_goto (tgt := 32) rfl dX1_doorStays_28 ?_
    exact tj_ireturn (ty := .boolean) dX1_doorStays_32 rfl rfl (Nat.zero_le _) (Nat.zero_le _) (hp _ _ _ h)
  · rw [if_pos hc] at h
    refine tj_aload_n rfl dX1_doorStays_11 rfl ?_
    obtain ⟨hk2, h⟩ := h
    refine gf1_rightKinds (a := v0) hk2 rfl dX1_doorStays_12 fl_X1_45 ?_
    refine tj_aload_n rfl dX1_doorStays_15 rfl ?_
    obtain ⟨hk3, h⟩ := h
    refine gf1_twin (a := v0) hk3 rfl dX1_doorStays_16 fl_X1_26 ?_
    refine tj_iload_n rfl dX1_doorStays_19 rfl ?_
    obtain ⟨hk4, h⟩ := h
    obtain ⟨hi5, h⟩ := h
    refine af_iald (a := v0 + 9) hk4 rfl dX1_doorStays_20 hi5 ?_
    refine tj_ishr rfl dX1_doorStays_21 ?_
    refine tj_iconst (v := 1) rfl dX1_doorStays_22 (by decide) ?_
    refine tj_iand rfl dX1_doorStays_23 ?_
    refine tj_if_eq (tgt := 31) rfl rfl dX1_doorStays_24 (fun hc => ?_) (fun hc => ?_)
    · rw [if_pos hc] at h
      refine tj_iconst (v := 0) rfl dX1_doorStays_31 (by decide) ?_
      exact tj_ireturn (ty := .boolean) dX1_doorStays_32 rfl rfl (Nat.zero_le _) (Nat.zero_le _) (hp _ _ _ h)
    · rw [if_neg hc] at h
      refine tj_iconst (v := 1) rfl dX1_doorStays_27 (by decide) ?_
      refine tj_goto (tgt := 32) rfl dX1_doorStays_28 ?_
      exact tj_ireturn (ty := .boolean) dX1_doorStays_32 rfl rfl (Nat.zero_le _) (Nat.zero_le _) (hp _ _ _ h)
def wX1_mirrorOf_35 (post : Int32 → MM → Int64 → Prop) (M : MM) (tl : Int64) (v0 : Nat) (v1 : Int32) (v2 : Int32) (s0 : Int32) : Prop :=
  (kd (v0) = 1 ∧ (kd (v0 + 9) = 12 ∧ (vp_in v2 (al (v0 + 9)) ∧ (kd (v0) = 1 ∧ (kd (v0 + 10) = 12 ∧ (vp_in ((v1 >>> (3 &&& 31)) &&& 3) (al (v0 + 10)) ∧ post (((M (v0 + 9) (v2 : Int32).toNatClampNeg) + ((8 : Int32) * (M (v0 + 10) ((v1 >>> (3 &&& 31)) &&& 3 : Int32).toNatClampNeg))) + s0) M tl))))))
set_option maxHeartbeats 4000000 in
set_option maxRecDepth 20000 in
theorem bX1_mirrorOf_35 {E : EV} {ad : Nat → Nat} {M : MM} {tl : Int64} {Φ : Option Value → va_W → Prop} {post : Int32 → MM → Int64 → Prop} {v0 : Nat} {v1 : Int32} {v2 : Int32} {s0 : Int32} (hp : ∀ r M tl, post r M tl → Φ (some (.int r)) (WM E ad M tl)) (h : wX1_mirrorOf_35 post M tl v0 v1 v2 s0) : T E kX1_mirrorOf 0 0 (WM E ad M tl) 35 [(0, .ref (ad (v0))), (1, .int v1), (2, .int v2)] [.int s0] Φ := by
  unfold wX1_mirrorOf_35 at h
  refine tj_istore (l' := [(0, _), (1, _), (2, _), (4, _)]) rfl dX1_mirrorOf_35 (by decide) rfl ?_
  refine tj_aload_n rfl dX1_mirrorOf_37 rfl ?_
  obtain ⟨hk1, h⟩ := h
  refine gf1_twin (a := v0) hk1 rfl dX1_mirrorOf_38 fl_X1_26 ?_
  refine tj_iload_n rfl dX1_mirrorOf_41 rfl ?_
  obtain ⟨hk2, h⟩ := h
  obtain ⟨hi3, h⟩ := h
  refine af_iald (a := v0 + 9) hk2 rfl dX1_mirrorOf_42 hi3 ?_
  refine tj_bipush (v := 8) rfl dX1_mirrorOf_43 (by decide) ?_
  refine tj_aload_n rfl dX1_mirrorOf_45 rfl ?_
  obtain ⟨hk4, h⟩ := h
  refine gf1_paint (a := v0) hk4 rfl dX1_mirrorOf_46 fl_X1_29 ?_
  refine tj_iload_n rfl dX1_mirrorOf_49 rfl ?_
  refine tj_iconst (v := 3) rfl dX1_mirrorOf_50 (by decide) ?_
  refine tj_ishr rfl dX1_mirrorOf_51 ?_
  refine tj_iconst (v := 3) rfl dX1_mirrorOf_52 (by decide) ?_
  refine tj_iand rfl dX1_mirrorOf_53 ?_
  obtain ⟨hk5, h⟩ := h
  obtain ⟨hi6, h⟩ := h
  refine af_iald (a := v0 + 10) hk5 rfl dX1_mirrorOf_54 hi6 ?_
  refine tj_imul rfl dX1_mirrorOf_55 ?_
  refine tj_iadd rfl dX1_mirrorOf_56 ?_
  refine tj_iload rfl dX1_mirrorOf_57 rfl ?_
  refine tj_iadd rfl dX1_mirrorOf_59 ?_
  exact tj_ireturn (ty := .int) dX1_mirrorOf_60 rfl rfl (Nat.zero_le _) (Nat.zero_le _) (hp _ _ _ h)
def wpX1_mirrorOf (post : Int32 → MM → Int64 → Prop) (M : MM) (tl : Int64) (v0 : Nat) (v1 : Int32) : Prop :=
  wpX10_isBuilt (fun r3 M1 t2 => (if r3 = 0 then post 0 M1 t2 else (kd (v0) = 1 ∧ wpX1_doorStays (fun r7 M5 t6 => (if r7 = 0 then wX1_mirrorOf_35 post  M5 t6 v0 v1 (v1 &&& 7) ((32 : Int32) - (v1 &&& 32)) else wX1_mirrorOf_35 post  M5 t6 v0 v1 (v1 &&& 7) (v1 &&& 32))) M1 t2 v0 (v1 &&& 7)))) M tl (v1 &&& 7)
set_option maxHeartbeats 4000000 in
set_option maxRecDepth 20000 in
theorem ctX1_mirrorOf {E : EV} {ad : Nat → Nat} {M : MM} {tl : Int64} {Φ : Option Value → va_W → Prop} {post : Int32 → MM → Int64 → Prop} {v0 : Nat} {v1 : Int32} (h : wpX1_mirrorOf post M tl v0 v1) (hp : ∀ r M tl, post r M tl → Φ (some (.int r)) (WM E ad M tl)) : Tm E kX1_mirrorOf (WM E ad M tl) [.ref (ad (v0)), .int v1] Φ := by
  unfold wpX1_mirrorOf at h
  show T E kX1_mirrorOf 0 0 (WM E ad M tl) 0 [(0, .ref (ad (v0))), (1, .int v1)] [] Φ
  refine tj_iload_n rfl dX1_mirrorOf_0 rfl ?_
  refine tj_bipush (v := 7) rfl dX1_mirrorOf_1 (by decide) ?_
  refine tj_iand rfl dX1_mirrorOf_3 ?_
  refine tj_istore_n (l' := [(0, _), (1, _), (2, _)]) rfl dX1_mirrorOf_4 (by decide) rfl ?_
  refine tj_iload_n rfl dX1_mirrorOf_5 rfl ?_
  refine cf_SN (z := kX10_isBuilt) (As := [_]) rfl dX1_mirrorOf_6 rfl nl_X1_65 okX10_isBuilt rfl (rm_ok rfl) (Nat.le_of_ble_eq_true rfl) (Nat.le_of_ble_eq_true rfl) rfl ?_
  refine ctX10_isBuilt h (fun r3 M1 t2 h => ?_)
  refine tj_if_ne (tgt := 14) rfl rfl dX1_mirrorOf_9 (fun hc => ?_) (fun hc => ?_)
  · rw [if_neg hc] at h
    refine tj_iload_n rfl dX1_mirrorOf_14 rfl ?_
    refine tj_bipush (v := 32) rfl dX1_mirrorOf_15 (by decide) ?_
    refine tj_iand rfl dX1_mirrorOf_17 ?_
    refine tj_istore_n (l' := [(0, _), (1, _), (2, _), (3, _)]) rfl dX1_mirrorOf_18 (by decide) rfl ?_
    refine tj_aload_n rfl dX1_mirrorOf_19 rfl ?_
    refine tj_iload_n rfl dX1_mirrorOf_20 rfl ?_
    obtain ⟨hk4, h⟩ := h
    refine cf_V1 (a := v0) (z := kX1_doorStays) (As := [_]) hk4 rfl dX1_mirrorOf_21 rfl ml_X1_83 okX1_doorStays rfl (rm_ok rfl) (Nat.le_of_ble_eq_true rfl) (Nat.le_of_ble_eq_true rfl) rfl rfl ?_
    refine ctX1_doorStays h (fun r7 M5 t6 h => ?_)
    refine tj_if_eq (tgt := 31) rfl rfl dX1_mirrorOf_24 (fun hc => ?_) (fun hc => ?_)
    · rw [if_pos hc] at h
      refine tj_bipush (v := 32) rfl dX1_mirrorOf_31 (by decide) ?_
      refine tj_iload_n rfl dX1_mirrorOf_33 rfl ?_
      refine tj_isub rfl dX1_mirrorOf_34 ?_
      exact tj_pick (l' := [(0, _), (1, _), (2, _)]) [0, 1, 2] rfl (bX1_mirrorOf_35 hp  h)
    · rw [if_neg hc] at h
      refine tj_iload_n rfl dX1_mirrorOf_27 rfl ?_
      refine tj_goto (tgt := 35) rfl dX1_mirrorOf_28 ?_
      exact tj_pick (l' := [(0, _), (1, _), (2, _)]) [0, 1, 2] rfl (bX1_mirrorOf_35 hp  h)
  · rw [if_pos hc] at h
    refine tj_iconst (v := 0) rfl dX1_mirrorOf_12 (by decide) ?_
    exact tj_ireturn (ty := .int) dX1_mirrorOf_13 rfl rfl (Nat.zero_le _) (Nat.zero_le _) (hp _ _ _ h)
def wpX1_isEven (post : Int32 → MM → Int64 → Prop) (M : MM) (tl : Int64) (v0 : Nat) (v1 : Int32) (v2 : Int32) : Prop :=
  (kd (v0) = 1 ∧ wpX1_mirrorOf (fun r4 M2 t3 => (if r4 = v2 then post 1 M2 t3 else post 0 M2 t3)) M tl v0 v1)
set_option maxHeartbeats 4000000 in
set_option maxRecDepth 20000 in
theorem ctX1_isEven {E : EV} {ad : Nat → Nat} {M : MM} {tl : Int64} {Φ : Option Value → va_W → Prop} {post : Int32 → MM → Int64 → Prop} {v0 : Nat} {v1 : Int32} {v2 : Int32} (h : wpX1_isEven post M tl v0 v1 v2) (hp : ∀ r M tl, post r M tl → Φ (some (.int r)) (WM E ad M tl)) : Tm E kX1_isEven (WM E ad M tl) [.ref (ad (v0)), .int v1, .int v2] Φ := by
  unfold wpX1_isEven at h
  show T E kX1_isEven 0 0 (WM E ad M tl) 0 [(0, .ref (ad (v0))), (1, .int v1), (2, .int v2)] [] Φ
  refine tj_aload_n rfl dX1_isEven_0 rfl ?_
  refine tj_iload_n rfl dX1_isEven_1 rfl ?_
  obtain ⟨hk1, h⟩ := h
  refine cf_V1 (a := v0) (z := kX1_mirrorOf) (As := [_]) hk1 rfl dX1_isEven_2 rfl ml_X1_86 okX1_mirrorOf rfl (rm_ok rfl) (Nat.le_of_ble_eq_true rfl) (Nat.le_of_ble_eq_true rfl) rfl rfl ?_
  refine ctX1_mirrorOf h (fun r4 M2 t3 h => ?_)
  refine tj_iload_n rfl dX1_isEven_5 rfl ?_
  refine tj_icmp_ne (tgt := 13) rfl rfl dX1_isEven_6 (fun hc => ?_) (fun hc => ?_)
  · rw [if_neg hc] at h
    refine tj_iconst (v := 0) rfl dX1_isEven_13 (by decide) ?_
    exact tj_ireturn (ty := .boolean) dX1_isEven_14 rfl rfl (Nat.zero_le _) (Nat.zero_le _) (hp _ _ _ h)
  · rw [if_pos hc] at h
    refine tj_iconst (v := 1) rfl dX1_isEven_9 (by decide) ?_
    refine tj_goto (tgt := 14) rfl dX1_isEven_10 ?_
    exact tj_ireturn (ty := .boolean) dX1_isEven_14 rfl rfl (Nat.zero_le _) (Nat.zero_le _) (hp _ _ _ h)
def wpX10_slot (post : Int32 → MM → Int64 → Prop) (M : MM) (tl : Int64) (v0 : Int32) (v1 : Int32) : Prop :=
  post ((v0 * 8) + v1) M tl
set_option maxHeartbeats 4000000 in
set_option maxRecDepth 20000 in
theorem ctX10_slot {E : EV} {ad : Nat → Nat} {M : MM} {tl : Int64} {Φ : Option Value → va_W → Prop} {post : Int32 → MM → Int64 → Prop} {v0 : Int32} {v1 : Int32} (h : wpX10_slot post M tl v0 v1) (hp : ∀ r M tl, post r M tl → Φ (some (.int r)) (WM E ad M tl)) : Tm E kX10_slot (WM E ad M tl) [.int v0, .int v1] Φ := by
  unfold wpX10_slot at h
  show T E kX10_slot 0 0 (WM E ad M tl) 0 [(0, .int v0), (1, .int v1)] [] Φ
  refine tj_iload_n rfl dX10_slot_0 rfl ?_
  refine tj_bipush (v := 8) rfl dX10_slot_1 (by decide) ?_
  refine tj_imul rfl dX10_slot_3 ?_
  refine tj_iload_n rfl dX10_slot_4 rfl ?_
  refine tj_iadd rfl dX10_slot_5 ?_
  exact tj_ireturn (ty := .int) dX10_slot_6 rfl rfl (Nat.zero_le _) (Nat.zero_le _) (hp _ _ _ h)
def wX1_unevenLots_55 (post : Int32 → MM → Int64 → Prop) (bk4 : MM → Int64 → Nat → Nat → Int32 → Int32 → Prop) (M : MM) (tl : Int64) (v0 : Nat) (v1 : Nat) (v2 : Int32) (v3 : Int32) : Prop :=
  bk4 M tl v0 v1 v2 (v3 + 1)
set_option maxHeartbeats 4000000 in
set_option maxRecDepth 20000 in
theorem bX1_unevenLots_55 {E : EV} {ad : Nat → Nat} {M : MM} {tl : Int64} {Φ : Option Value → va_W → Prop} {post : Int32 → MM → Int64 → Prop} {bk4 : MM → Int64 → Nat → Nat → Int32 → Int32 → Prop} {v0 : Nat} {v1 : Nat} {v2 : Int32} {v3 : Int32} (hp : ∀ r M tl, post r M tl → Φ (some (.int r)) (WM E ad M tl)) (hb4 : ∀ (M : MM) (tl : Int64) (v0 : Nat) (v1 : Nat) (v2 : Int32) (v3 : Int32), bk4 M tl v0 v1 v2 v3 → T E kX1_unevenLots 0 0 (WM E ad M tl) 4 [(0, .ref (ad (v0))), (1, .ref (ad (v1))), (2, .int v2), (3, .int v3)] [] Φ) (h : wX1_unevenLots_55 post bk4 M tl v0 v1 v2 v3) : T E kX1_unevenLots 0 0 (WM E ad M tl) 55 [(0, .ref (ad (v0))), (1, .ref (ad (v1))), (2, .int v2), (3, .int v3)] [] Φ := by
  unfold wX1_unevenLots_55 at h
  refine tj_iinc (v := _ + 1) (l' := [(0, _), (1, _), (2, _), (3, _)]) rfl dX1_unevenLots_55 rfl (by decide) rfl rfl ?_
  refine tj_goto (tgt := 4) rfl dX1_unevenLots_58 ?_
  exact hb4 _ _ _ _ _ _ h
def wX1_unevenLots_4 (post : Int32 → MM → Int64 → Prop) : Nat → MM → Int64 → Nat → Nat → Int32 → Int32 → Prop
  | 0, _, _, _, _, _, _ => False
  | n + 1, M, tl, v0, v1, v2, v3 =>
    (kd (v0) = 1 ∧ (if (M v0 0) ≤ v3 then post v2 M tl else (kd (v0) = 1 ∧ wpX1_matchOf (fun r5 M3 t4 => (if r5 = (-4) then wX1_unevenLots_55 post (wX1_unevenLots_4 post n) M3 t4 v0 v1 v2 v3 else wpX10_slot (fun r8 M6 t7 => (kd (v1) = 12 ∧ (vp_in r8 (al v1) ∧ wpX10_slot (fun r13 M11 t12 => (kd (v1) = 12 ∧ (vp_in r13 (al v1) ∧ (kd (v0) = 1 ∧ wpX1_isEven (fun r19 M17 t18 => (if r19 = 0 then wX1_unevenLots_55 post (wX1_unevenLots_4 post n) M17 t18 v0 v1 (v2 ||| ((1 : Int32) <<< (v3 &&& 31))) v3 else wX1_unevenLots_55 post (wX1_unevenLots_4 post n) M17 t18 v0 v1 v2 v3)) M11 t12 v0 (M6 v1 (r8 : Int32).toNatClampNeg) (M11 v1 (r13 : Int32).toNatClampNeg))))) M6 t7 1 r5))) M3 t4 0 v3)) M tl v0 0 v3)))
set_option maxHeartbeats 4000000 in
set_option maxRecDepth 20000 in
theorem bX1_unevenLots_4 {E : EV} {ad : Nat → Nat} {Φ : Option Value → va_W → Prop} {post : Int32 → MM → Int64 → Prop}  (hp : ∀ r M tl, post r M tl → Φ (some (.int r)) (WM E ad M tl)) : ∀ (n : Nat) (M : MM) (tl : Int64) (v0 : Nat) (v1 : Nat) (v2 : Int32) (v3 : Int32), wX1_unevenLots_4 post n M tl v0 v1 v2 v3 → T E kX1_unevenLots 0 0 (WM E ad M tl) 4 [(0, .ref (ad (v0))), (1, .ref (ad (v1))), (2, .int v2), (3, .int v3)] [] Φ := by
  intro n
  induction n with
  | zero => intro M tl v0 v1 v2 v3 h; exact False.elim h
  | succ n ih =>
    intro M tl v0 v1 v2 v3 h
    unfold wX1_unevenLots_4 at h
    refine tj_iload_n rfl dX1_unevenLots_4 rfl ?_
    refine tj_aload_n rfl dX1_unevenLots_5 rfl ?_
    obtain ⟨hk1, h⟩ := h
    refine gf1_lots (a := v0) hk1 rfl dX1_unevenLots_6 fl_X1_35 ?_
    refine tj_icmp_ge (tgt := 61) rfl rfl dX1_unevenLots_9 (fun hc => ?_) (fun hc => ?_)
    · rw [if_pos hc] at h
      refine tj_iload_n rfl dX1_unevenLots_61 rfl ?_
      exact tj_ireturn (ty := .int) dX1_unevenLots_62 rfl rfl (Nat.zero_le _) (Nat.zero_le _) (hp _ _ _ h)
    · rw [if_neg hc] at h
      refine tj_aload_n rfl dX1_unevenLots_12 rfl ?_
      refine tj_iconst (v := 0) rfl dX1_unevenLots_13 (by decide) ?_
      refine tj_iload_n rfl dX1_unevenLots_14 rfl ?_
      obtain ⟨hk2, h⟩ := h
      refine cf_V1 (a := v0) (z := kX1_matchOf) (As := [_, _]) hk2 rfl dX1_unevenLots_15 rfl ml_X1_71 okX1_matchOf rfl (rm_ok rfl) (Nat.le_of_ble_eq_true rfl) (Nat.le_of_ble_eq_true rfl) rfl rfl ?_
      refine ctX1_matchOf h (fun r5 M3 t4 h => ?_)
      refine tj_istore (l' := [(0, _), (1, _), (2, _), (3, _), (4, _)]) rfl dX1_unevenLots_18 (by decide) rfl ?_
      refine tj_iload rfl dX1_unevenLots_20 rfl ?_
      refine tj_bipush (v := -4) rfl dX1_unevenLots_22 (by decide) ?_
      refine tj_icmp_eq (tgt := 55) rfl rfl dX1_unevenLots_24 (fun hc => ?_) (fun hc => ?_)
      · rw [if_pos hc] at h
        exact tj_pick (l' := [(0, _), (1, _), (2, _), (3, _)]) [0, 1, 2, 3] rfl (bX1_unevenLots_55 hp ih h)
      · rw [if_neg hc] at h
        refine tj_aload_n rfl dX1_unevenLots_27 rfl ?_
        refine tj_aload_n rfl dX1_unevenLots_28 rfl ?_
        refine tj_iconst (v := 0) rfl dX1_unevenLots_29 (by decide) ?_
        refine tj_iload_n rfl dX1_unevenLots_30 rfl ?_
        refine cf_SN (z := kX10_slot) (As := [_, _]) rfl dX1_unevenLots_31 rfl nl_X1_89 okX10_slot rfl (rm_ok rfl) (Nat.le_of_ble_eq_true rfl) (Nat.le_of_ble_eq_true rfl) rfl ?_
        refine ctX10_slot h (fun r8 M6 t7 h => ?_)
        obtain ⟨hk9, h⟩ := h
        obtain ⟨hi10, h⟩ := h
        refine af_iald (a := v1) hk9 rfl dX1_unevenLots_34 hi10 ?_
        refine tj_aload_n rfl dX1_unevenLots_35 rfl ?_
        refine tj_iconst (v := 1) rfl dX1_unevenLots_36 (by decide) ?_
        refine tj_iload rfl dX1_unevenLots_37 rfl ?_
        refine cf_SN (z := kX10_slot) (As := [_, _]) rfl dX1_unevenLots_39 rfl nl_X1_89 okX10_slot rfl (rm_ok rfl) (Nat.le_of_ble_eq_true rfl) (Nat.le_of_ble_eq_true rfl) rfl ?_
        refine ctX10_slot h (fun r13 M11 t12 h => ?_)
        obtain ⟨hk14, h⟩ := h
        obtain ⟨hi15, h⟩ := h
        refine af_iald (a := v1) hk14 rfl dX1_unevenLots_42 hi15 ?_
        obtain ⟨hk16, h⟩ := h
        refine cf_V1 (a := v0) (z := kX1_isEven) (As := [_, _]) hk16 rfl dX1_unevenLots_43 rfl ml_X1_92 okX1_isEven rfl (rm_ok rfl) (Nat.le_of_ble_eq_true rfl) (Nat.le_of_ble_eq_true rfl) rfl rfl ?_
        refine ctX1_isEven h (fun r19 M17 t18 h => ?_)
        refine tj_if_ne (tgt := 55) rfl rfl dX1_unevenLots_46 (fun hc => ?_) (fun hc => ?_)
        · rw [if_neg hc] at h
          exact tj_pick (l' := [(0, _), (1, _), (2, _), (3, _)]) [0, 1, 2, 3] rfl (bX1_unevenLots_55 hp ih h)
        · rw [if_pos hc] at h
          refine tj_iload_n rfl dX1_unevenLots_49 rfl ?_
          refine tj_iconst (v := 1) rfl dX1_unevenLots_50 (by decide) ?_
          refine tj_iload_n rfl dX1_unevenLots_51 rfl ?_
          refine tj_ishl rfl dX1_unevenLots_52 ?_
          refine tj_ior rfl dX1_unevenLots_53 ?_
          refine tj_istore_n (l' := [(0, _), (1, _), (2, _), (3, _), (4, _)]) rfl dX1_unevenLots_54 (by decide) rfl ?_
          exact tj_pick (l' := [(0, _), (1, _), (2, _), (3, _)]) [0, 1, 2, 3] rfl (bX1_unevenLots_55 hp ih h)
def wpX1_unevenLots (post : Int32 → MM → Int64 → Prop) (M : MM) (tl : Int64) (v0 : Nat) (v1 : Nat) : Prop :=
  (∃ n9, wX1_unevenLots_4 post  n9 M tl v0 v1 0 0)
set_option maxHeartbeats 4000000 in
set_option maxRecDepth 20000 in
theorem ctX1_unevenLots {E : EV} {ad : Nat → Nat} {M : MM} {tl : Int64} {Φ : Option Value → va_W → Prop} {post : Int32 → MM → Int64 → Prop} {v0 : Nat} {v1 : Nat} (h : wpX1_unevenLots post M tl v0 v1) (hp : ∀ r M tl, post r M tl → Φ (some (.int r)) (WM E ad M tl)) : Tm E kX1_unevenLots (WM E ad M tl) [.ref (ad (v0)), .ref (ad (v1))] Φ := by
  unfold wpX1_unevenLots at h
  show T E kX1_unevenLots 0 0 (WM E ad M tl) 0 [(0, .ref (ad (v0))), (1, .ref (ad (v1)))] [] Φ
  refine tj_iconst (v := 0) rfl dX1_unevenLots_0 (by decide) ?_
  refine tj_istore_n (l' := [(0, _), (1, _), (2, _)]) rfl dX1_unevenLots_1 (by decide) rfl ?_
  refine tj_iconst (v := 0) rfl dX1_unevenLots_2 (by decide) ?_
  refine tj_istore_n (l' := [(0, _), (1, _), (2, _), (3, _)]) rfl dX1_unevenLots_3 (by decide) rfl ?_
  obtain ⟨n9, h⟩ := h
  exact bX1_unevenLots_4 hp  n9 _ _ _ _ _ _ h
def wpX10_isThing (post : Int32 → MM → Int64 → Prop) (M : MM) (tl : Int64) (v0 : Int32) : Prop :=
  (if v0 = 0 then post 1 M tl else (if v0 ≤ 0 then post 0 M tl else (if 64 ≤ v0 then post 0 M tl else wpX10_isBuilt (fun r3 M1 t2 => (if r3 = 0 then post 0 M1 t2 else post 1 M1 t2)) M tl (v0 &&& 7))))
set_option maxHeartbeats 4000000 in
set_option maxRecDepth 20000 in
theorem ctX10_isThing {E : EV} {ad : Nat → Nat} {M : MM} {tl : Int64} {Φ : Option Value → va_W → Prop} {post : Int32 → MM → Int64 → Prop} {v0 : Int32} (h : wpX10_isThing post M tl v0) (hp : ∀ r M tl, post r M tl → Φ (some (.int r)) (WM E ad M tl)) : Tm E kX10_isThing (WM E ad M tl) [.int v0] Φ := by
  unfold wpX10_isThing at h
  show T E kX10_isThing 0 0 (WM E ad M tl) 0 [(0, .int v0)] [] Φ
  refine tj_iload_n rfl dX10_isThing_0 rfl ?_
  refine tj_if_eq (tgt := 24) rfl rfl dX10_isThing_1 (fun hc => ?_) (fun hc => ?_)
  · rw [if_pos hc] at h
    refine tj_iconst (v := 1) rfl dX10_isThing_24 (by decide) ?_
    refine tj_goto (tgt := 29) rfl dX10_isThing_25 ?_
    exact tj_ireturn (ty := .boolean) dX10_isThing_29 rfl rfl (Nat.zero_le _) (Nat.zero_le _) (hp _ _ _ h)
  · rw [if_neg hc] at h
    refine tj_iload_n rfl dX10_isThing_4 rfl ?_
    refine tj_if_le (tgt := 28) rfl rfl dX10_isThing_5 (fun hc => ?_) (fun hc => ?_)
    · rw [if_pos hc] at h
      refine tj_iconst (v := 0) rfl dX10_isThing_28 (by decide) ?_
      exact tj_ireturn (ty := .boolean) dX10_isThing_29 rfl rfl (Nat.zero_le _) (Nat.zero_le _) (hp _ _ _ h)
    · rw [if_neg hc] at h
      refine tj_iload_n rfl dX10_isThing_8 rfl ?_
      refine tj_bipush (v := 64) rfl dX10_isThing_9 (by decide) ?_
      refine tj_icmp_ge (tgt := 28) rfl rfl dX10_isThing_11 (fun hc => ?_) (fun hc => ?_)
      · rw [if_pos hc] at h
        refine tj_iconst (v := 0) rfl dX10_isThing_28 (by decide) ?_
        exact tj_ireturn (ty := .boolean) dX10_isThing_29 rfl rfl (Nat.zero_le _) (Nat.zero_le _) (hp _ _ _ h)
      · rw [if_neg hc] at h
        refine tj_iload_n rfl dX10_isThing_14 rfl ?_
        refine tj_bipush (v := 7) rfl dX10_isThing_15 (by decide) ?_
        refine tj_iand rfl dX10_isThing_17 ?_
        refine cf_S (z := kX10_isBuilt) (As := [_]) rfl dX10_isThing_18 rfl ml_X10_243 okX10_isBuilt rfl (rm_ok rfl) (Nat.le_of_ble_eq_true rfl) (Nat.le_of_ble_eq_true rfl) rfl ?_
        refine ctX10_isBuilt h (fun r3 M1 t2 h => ?_)
        refine tj_if_eq (tgt := 28) rfl rfl dX10_isThing_21 (fun hc => ?_) (fun hc => ?_)
        · rw [if_pos hc] at h
          refine tj_iconst (v := 0) rfl dX10_isThing_28 (by decide) ?_
          exact tj_ireturn (ty := .boolean) dX10_isThing_29 rfl rfl (Nat.zero_le _) (Nat.zero_le _) (hp _ _ _ h)
        · rw [if_neg hc] at h
          refine tj_iconst (v := 1) rfl dX10_isThing_24 (by decide) ?_
          refine tj_goto (tgt := 29) rfl dX10_isThing_25 ?_
          exact tj_ireturn (ty := .boolean) dX10_isThing_29 rfl rfl (Nat.zero_le _) (Nat.zero_le _) (hp _ _ _ h)
def wpX10_isSheet (post : Int32 → MM → Int64 → Prop) (M : MM) (tl : Int64) (v0 : Int32) : Prop :=
  (if v0 < 0 then post 0 M tl else (if 4 ≤ v0 then post 0 M tl else post 1 M tl))
set_option maxHeartbeats 4000000 in
set_option maxRecDepth 20000 in
theorem ctX10_isSheet {E : EV} {ad : Nat → Nat} {M : MM} {tl : Int64} {Φ : Option Value → va_W → Prop} {post : Int32 → MM → Int64 → Prop} {v0 : Int32} (h : wpX10_isSheet post M tl v0) (hp : ∀ r M tl, post r M tl → Φ (some (.int r)) (WM E ad M tl)) : Tm E kX10_isSheet (WM E ad M tl) [.int v0] Φ := by
  unfold wpX10_isSheet at h
  show T E kX10_isSheet 0 0 (WM E ad M tl) 0 [(0, .int v0)] [] Φ
  refine tj_iload_n rfl dX10_isSheet_0 rfl ?_
  refine tj_if_lt (tgt := 13) rfl rfl dX10_isSheet_1 (fun hc => ?_) (fun hc => ?_)
  · rw [if_pos hc] at h
    refine tj_iconst (v := 0) rfl dX10_isSheet_13 (by decide) ?_
    exact tj_ireturn (ty := .boolean) dX10_isSheet_14 rfl rfl (Nat.zero_le _) (Nat.zero_le _) (hp _ _ _ h)
  · rw [if_neg hc] at h
    refine tj_iload_n rfl dX10_isSheet_4 rfl ?_
    refine tj_iconst (v := 4) rfl dX10_isSheet_5 (by decide) ?_
    refine tj_icmp_ge (tgt := 13) rfl rfl dX10_isSheet_6 (fun hc => ?_) (fun hc => ?_)
    · rw [if_pos hc] at h
      refine tj_iconst (v := 0) rfl dX10_isSheet_13 (by decide) ?_
      exact tj_ireturn (ty := .boolean) dX10_isSheet_14 rfl rfl (Nat.zero_le _) (Nat.zero_le _) (hp _ _ _ h)
    · rw [if_neg hc] at h
      refine tj_iconst (v := 1) rfl dX10_isSheet_9 (by decide) ?_
      refine tj_goto (tgt := 14) rfl dX10_isSheet_10 ?_
      exact tj_ireturn (ty := .boolean) dX10_isSheet_14 rfl rfl (Nat.zero_le _) (Nat.zero_le _) (hp _ _ _ h)
def wpX10_isLane (post : Int32 → MM → Int64 → Prop) (M : MM) (tl : Int64) (v0 : Int32) : Prop :=
  (if v0 < 0 then post 0 M tl else (if 3 ≤ v0 then post 0 M tl else post 1 M tl))
set_option maxHeartbeats 4000000 in
set_option maxRecDepth 20000 in
theorem ctX10_isLane {E : EV} {ad : Nat → Nat} {M : MM} {tl : Int64} {Φ : Option Value → va_W → Prop} {post : Int32 → MM → Int64 → Prop} {v0 : Int32} (h : wpX10_isLane post M tl v0) (hp : ∀ r M tl, post r M tl → Φ (some (.int r)) (WM E ad M tl)) : Tm E kX10_isLane (WM E ad M tl) [.int v0] Φ := by
  unfold wpX10_isLane at h
  show T E kX10_isLane 0 0 (WM E ad M tl) 0 [(0, .int v0)] [] Φ
  refine tj_iload_n rfl dX10_isLane_0 rfl ?_
  refine tj_if_lt (tgt := 13) rfl rfl dX10_isLane_1 (fun hc => ?_) (fun hc => ?_)
  · rw [if_pos hc] at h
    refine tj_iconst (v := 0) rfl dX10_isLane_13 (by decide) ?_
    exact tj_ireturn (ty := .boolean) dX10_isLane_14 rfl rfl (Nat.zero_le _) (Nat.zero_le _) (hp _ _ _ h)
  · rw [if_neg hc] at h
    refine tj_iload_n rfl dX10_isLane_4 rfl ?_
    refine tj_iconst (v := 3) rfl dX10_isLane_5 (by decide) ?_
    refine tj_icmp_ge (tgt := 13) rfl rfl dX10_isLane_6 (fun hc => ?_) (fun hc => ?_)
    · rw [if_pos hc] at h
      refine tj_iconst (v := 0) rfl dX10_isLane_13 (by decide) ?_
      exact tj_ireturn (ty := .boolean) dX10_isLane_14 rfl rfl (Nat.zero_le _) (Nat.zero_le _) (hp _ _ _ h)
    · rw [if_neg hc] at h
      refine tj_iconst (v := 1) rfl dX10_isLane_9 (by decide) ?_
      refine tj_goto (tgt := 14) rfl dX10_isLane_10 ?_
      exact tj_ireturn (ty := .boolean) dX10_isLane_14 rfl rfl (Nat.zero_le _) (Nat.zero_le _) (hp _ _ _ h)
