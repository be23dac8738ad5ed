def wX6_start_61 (post : MM → Int64 → Prop) : Nat → MM → Int64 → Int32 → Prop
  | 0, _, _, _ => False
  | n + 1, M, tl, v1 =>
    (if 2 ≤ v1 then post M tl else (vp_in v1 (al 44) ∧ (∀ M2 : MM, M2 = mset M 44 (v1 : Int32).toNatClampNeg 0 → (wX6_start_61 post n) M2 tl (v1 + 1))))
set_option maxHeartbeats 4000000 in
set_option maxRecDepth 20000 in
theorem bX6_start_61 {E : EV} {ad : Nat → Nat} {Φ : Option Value → va_W → Prop} {post : MM → Int64 → Prop}  (hp : ∀ M tl, post M tl → Φ none (WM E ad M tl)) : ∀ (n : Nat) (M : MM) (tl : Int64) (v1 : Int32), wX6_start_61 post n M tl v1 → T E kX6_start 0 0 (WM E ad M tl) 61 [(0, .ref (ad (42))), (1, .int v1)] [] Φ := by
  intro n
  induction n with
  | zero => intro M tl v1 h; exact False.elim h
  | succ n ih =>
    intro M tl v1 h
    unfold wX6_start_61 at h
    refine tj_iload_n rfl dX6_start_61 rfl ?_
    refine tj_iconst (v := 2) rfl dX6_start_62 (by decide) ?_
    refine tj_icmp_ge (tgt := 79) rfl rfl dX6_start_63 (fun hc => ?_) (fun hc => ?_)
    · rw [if_pos hc] at h
      exact tj_return dX6_start_79 rfl (Nat.zero_le _) (Nat.zero_le _) (hp _ _ h)
    · rw [if_neg hc] at h
      refine tj_aload_n rfl dX6_start_66 rfl ?_
      refine gf6_spent (a := 42) rfl rfl dX6_start_67 fl_X6_15 ?_
      refine tj_iload_n rfl dX6_start_70 rfl ?_
      refine tj_iconst (v := 0) rfl dX6_start_71 (by decide) ?_
      obtain ⟨hi1, h⟩ := h
      refine af_iast (a := 44) rfl rfl dX6_start_72 hi1 ?_
      replace h := h _ rfl
      generalize mset M 44 (v1 : Int32).toNatClampNeg 0 = M2 at h ⊢
      refine tj_iinc (v := _ + 1) (l' := [(0, _), (1, _)]) rfl dX6_start_73 rfl (by decide) rfl rfl ?_
      refine tj_goto (tgt := 61) rfl dX6_start_76 ?_
      exact ih _ _ _ h
def wX6_start_39 (post : MM → Int64 → Prop) : Nat → MM → Int64 → Int32 → Prop
  | 0, _, _, _ => False
  | n + 1, M, tl, v1 =>
    (if 8 ≤ v1 then (∃ n9, wX6_start_61 post  n9 M tl 0) else (vp_in v1 (al 46) ∧ (∀ M2 : MM, M2 = mset M 46 (v1 : Int32).toNatClampNeg (-4) → (wX6_start_39 post n) M2 tl (v1 + 1))))
set_option maxHeartbeats 4000000 in
set_option maxRecDepth 20000 in
theorem bX6_start_39 {E : EV} {ad : Nat → Nat} {Φ : Option Value → va_W → Prop} {post : MM → Int64 → Prop}  (hp : ∀ M tl, post M tl → Φ none (WM E ad M tl)) : ∀ (n : Nat) (M : MM) (tl : Int64) (v1 : Int32), wX6_start_39 post n M tl v1 → T E kX6_start 0 0 (WM E ad M tl) 39 [(0, .ref (ad (42))), (1, .int v1)] [] Φ := by
  intro n
  induction n with
  | zero => intro M tl v1 h; exact False.elim h
  | succ n ih =>
    intro M tl v1 h
    unfold wX6_start_39 at h
    refine tj_iload_n rfl dX6_start_39 rfl ?_
    refine tj_bipush (v := 8) rfl dX6_start_40 (by decide) ?_
    refine tj_icmp_ge (tgt := 59) rfl rfl dX6_start_42 (fun hc => ?_) (fun hc => ?_)
    · rw [if_pos hc] at h
      refine tj_iconst (v := 0) rfl dX6_start_59 (by decide) ?_
      refine tj_istore_n (l' := [(0, _), (1, _)]) rfl dX6_start_60 (by decide) rfl ?_
      obtain ⟨n9, h⟩ := h
      exact bX6_start_61 hp  n9 _ _ _ h
    · rw [if_neg hc] at h
      refine tj_aload_n rfl dX6_start_45 rfl ?_
      refine gf6_latest (a := 42) rfl rfl dX6_start_46 fl_X6_21 ?_
      refine tj_iload_n rfl dX6_start_49 rfl ?_
      refine tj_bipush (v := -4) rfl dX6_start_50 (by decide) ?_
      obtain ⟨hi1, h⟩ := h
      refine af_iast (a := 46) rfl rfl dX6_start_52 hi1 ?_
      replace h := h _ rfl
      generalize mset M 46 (v1 : Int32).toNatClampNeg (-4) = M2 at h ⊢
      refine tj_iinc (v := _ + 1) (l' := [(0, _), (1, _)]) rfl dX6_start_53 rfl (by decide) rfl rfl ?_
      refine tj_goto (tgt := 39) rfl dX6_start_56 ?_
      exact ih _ _ _ h
def wX6_start_2 (post : MM → Int64 → Prop) : Nat → MM → Int64 → Int32 → Prop
  | 0, _, _, _ => False
  | n + 1, M, tl, v1 =>
    (if 16 ≤ v1 then (∃ n9, wX6_start_39 post  n9 M tl 0) else (vp_in v1 (al 15) ∧ (vp_in v1 (al 43) ∧ (∀ M3 : MM, M3 = mset M 43 (v1 : Int32).toNatClampNeg (M 15 (v1 : Int32).toNatClampNeg) → (vp_in v1 (al 47) ∧ (∀ M5 : MM, M5 = mset M3 47 (v1 : Int32).toNatClampNeg (-4) → (wX6_start_2 post n) M5 tl (v1 + 1)))))))
set_option maxHeartbeats 4000000 in
set_option maxRecDepth 20000 in
theorem bX6_start_2 {E : EV} {ad : Nat → Nat} {Φ : Option Value → va_W → Prop} {post : MM → Int64 → Prop}  (hp : ∀ M tl, post M tl → Φ none (WM E ad M tl)) : ∀ (n : Nat) (M : MM) (tl : Int64) (v1 : Int32), wX6_start_2 post n M tl v1 → T E kX6_start 0 0 (WM E ad M tl) 2 [(0, .ref (ad (42))), (1, .int v1)] [] Φ := by
  intro n
  induction n with
  | zero => intro M tl v1 h; exact False.elim h
  | succ n ih =>
    intro M tl v1 h
    unfold wX6_start_2 at h
    refine tj_iload_n rfl dX6_start_2 rfl ?_
    refine tj_bipush (v := 16) rfl dX6_start_3 (by decide) ?_
    refine tj_icmp_ge (tgt := 37) rfl rfl dX6_start_5 (fun hc => ?_) (fun hc => ?_)
    · rw [if_pos hc] at h
      refine tj_iconst (v := 0) rfl dX6_start_37 (by decide) ?_
      refine tj_istore_n (l' := [(0, _), (1, _)]) rfl dX6_start_38 (by decide) rfl ?_
      obtain ⟨n9, h⟩ := h
      exact bX6_start_39 hp  n9 _ _ _ h
    · rw [if_neg hc] at h
      refine tj_aload_n rfl dX6_start_8 rfl ?_
      refine gf6_things (a := 42) rfl rfl dX6_start_9 fl_X6_9 ?_
      refine tj_iload_n rfl dX6_start_12 rfl ?_
      refine tj_aload_n rfl dX6_start_13 rfl ?_
      refine gf6_scene (a := 42) rfl rfl dX6_start_14 fl_X6_31 ?_
      refine gf7_things (a := 14) rfl rfl dX6_start_17 fl_X6_42 ?_
      refine tj_iload_n rfl dX6_start_20 rfl ?_
      obtain ⟨hi1, h⟩ := h
      refine af_iald (a := 15) rfl rfl dX6_start_21 hi1 ?_
      obtain ⟨hi2, h⟩ := h
      refine af_iast (a := 43) rfl rfl dX6_start_22 hi2 ?_
      replace h := h _ rfl
      generalize mset M 43 (v1 : Int32).toNatClampNeg (M 15 (v1 : Int32).toNatClampNeg) = M3 at h ⊢
      refine tj_aload_n rfl dX6_start_23 rfl ?_
      refine gf6_worked (a := 42) rfl rfl dX6_start_24 fl_X6_24 ?_
      refine tj_iload_n rfl dX6_start_27 rfl ?_
      refine tj_bipush (v := -4) rfl dX6_start_28 (by decide) ?_
      obtain ⟨hi4, h⟩ := h
      refine af_iast (a := 47) rfl rfl dX6_start_30 hi4 ?_
      replace h := h _ rfl
      generalize mset M3 47 (v1 : Int32).toNatClampNeg (-4) = M5 at h ⊢
      refine tj_iinc (v := _ + 1) (l' := [(0, _), (1, _)]) rfl dX6_start_31 rfl (by decide) rfl rfl ?_
      refine tj_goto (tgt := 2) rfl dX6_start_34 ?_
      exact ih _ _ _ h
def wpX6_start (post : MM → Int64 → Prop) (M : MM) (tl : Int64) : Prop :=
  (∃ n9, wX6_start_2 post  n9 M tl 0)
set_option maxHeartbeats 4000000 in
set_option maxRecDepth 20000 in
theorem ctX6_start {E : EV} {ad : Nat → Nat} {M : MM} {tl : Int64} {Φ : Option Value → va_W → Prop} {post : MM → Int64 → Prop} (h : wpX6_start post M tl ) (hp : ∀ M tl, post M tl → Φ none (WM E ad M tl)) : Tm E kX6_start (WM E ad M tl) [.ref (ad (42))] Φ := by
  unfold wpX6_start at h
  show T E kX6_start 0 0 (WM E ad M tl) 0 [(0, .ref (ad (42)))] [] Φ
  refine tj_iconst (v := 0) rfl dX6_start_0 (by decide) ?_
  refine tj_istore_n (l' := [(0, _), (1, _)]) rfl dX6_start_1 (by decide) rfl ?_
  obtain ⟨n9, h⟩ := h
  exact bX6_start_2 hp  n9 _ _ _ h
def wpX6_build (post : MM → Int64 → Prop) (M : MM) (tl : Int64) (v1 : Int32) (v2 : Int32) (v3 : Int32) : Prop :=
  (vp_in v1 (al 44) ∧ wpX1_costOf (fun r4 M2 t3 => (vp_in v1 (al 44) ∧ (∀ M6 : MM, M6 = mset M2 44 (v1 : Int32).toNatClampNeg ((M 44 (v1 : Int32).toNatClampNeg) + r4) → wpX10_slot (fun r9 M7 t8 => (vp_in r9 (al 43) ∧ (∀ M11 : MM, M11 = mset M7 43 (r9 : Int32).toNatClampNeg v3 → post M11 t8))) M6 t3 v1 v2))) M tl 3 v1 (v3 &&& 7))
set_option maxHeartbeats 4000000 in
set_option maxRecDepth 20000 in
theorem ctX6_build {E : EV} {ad : Nat → Nat} {M : MM} {tl : Int64} {Φ : Option Value → va_W → Prop} {post : MM → Int64 → Prop} {v1 : Int32} {v2 : Int32} {v3 : Int32} (h : wpX6_build post M tl v1 v2 v3) (hp : ∀ M tl, post M tl → Φ none (WM E ad M tl)) : Tm E kX6_build (WM E ad M tl) [.ref (ad (42)), .int v1, .int v2, .int v3] Φ := by
  unfold wpX6_build at h
  show T E kX6_build 0 0 (WM E ad M tl) 0 [(0, .ref (ad (42))), (1, .int v1), (2, .int v2), (3, .int v3)] [] Φ
  refine tj_aload_n rfl dX6_build_0 rfl ?_
  refine gf6_spent (a := 42) rfl rfl dX6_build_1 fl_X6_15 ?_
  refine tj_iload_n rfl dX6_build_4 rfl ?_
  refine tj_dup2 rfl dX6_build_5 rfl rfl ?_
  obtain ⟨hi1, h⟩ := h
  refine af_iald (a := 44) rfl rfl dX6_build_6 hi1 ?_
  refine tj_aload_n rfl dX6_build_7 rfl ?_
  refine gf6_law (a := 42) rfl rfl dX6_build_8 fl_X6_27 ?_
  refine tj_iload_n rfl dX6_build_11 rfl ?_
  refine tj_iload_n rfl dX6_build_12 rfl ?_
  refine tj_bipush (v := 7) rfl dX6_build_13 (by decide) ?_
  refine tj_iand rfl dX6_build_15 ?_
  refine cf_V1 (a := 3) (z := kX1_costOf) (As := [_, _]) rfl rfl dX6_build_16 rfl ml_X6_93 okX1_costOf rfl (rm_ok rfl) (Nat.le_of_ble_eq_true rfl) (Nat.le_of_ble_eq_true rfl) rfl rfl ?_
  refine ctX1_costOf h (fun r4 M2 t3 h => ?_)
  refine tj_iadd rfl dX6_build_19 ?_
  obtain ⟨hi5, h⟩ := h
  refine af_iast (a := 44) rfl rfl dX6_build_20 hi5 ?_
  replace h := h _ rfl
  generalize mset M2 44 (v1 : Int32).toNatClampNeg ((M 44 (v1 : Int32).toNatClampNeg) + r4) = M6 at h ⊢
  refine tj_aload_n rfl dX6_build_21 rfl ?_
  refine gf6_things (a := 42) rfl rfl dX6_build_22 fl_X6_9 ?_
  refine tj_iload_n rfl dX6_build_25 rfl ?_
  refine tj_iload_n rfl dX6_build_26 rfl ?_
  refine cf_SN (z := kX10_slot) (As := [_, _]) rfl dX6_build_27 rfl nl_X6_83 okX10_slot rfl (rm_ok rfl) (Nat.le_of_ble_eq_true rfl) (Nat.le_of_ble_eq_true rfl) rfl ?_
  refine ctX10_slot h (fun r9 M7 t8 h => ?_)
  refine tj_iload_n rfl dX6_build_30 rfl ?_
  obtain ⟨hi10, h⟩ := h
  refine af_iast (a := 43) rfl rfl dX6_build_31 hi10 ?_
  replace h := h _ rfl
  generalize mset M7 43 (r9 : Int32).toNatClampNeg v3 = M11 at h ⊢
  exact tj_return dX6_build_32 rfl (Nat.zero_le _) (Nat.zero_le _) (hp _ _ h)
def wX6_tryWork_133 (post : Int32 → MM → Int64 → Prop) (M : MM) (tl : Int64) (v2 : Int32) (s1 : Int32) : Prop :=
  (vp_in s1 (al 46) ∧ (∀ M2 : MM, M2 = mset M 46 (s1 : Int32).toNatClampNeg v2 → post 0 M2 tl))
set_option maxHeartbeats 4000000 in
set_option maxRecDepth 20000 in
theorem bX6_tryWork_133 {E : EV} {ad : Nat → Nat} {M : MM} {tl : Int64} {Φ : Option Value → va_W → Prop} {post : Int32 → MM → Int64 → Prop} {v2 : Int32} {s1 : Int32} (hp : ∀ r M tl, post r M tl → Φ (some (.int r)) (WM E ad M tl)) (h : wX6_tryWork_133 post M tl v2 s1) : T E kX6_tryWork 0 0 (WM E ad M tl) 133 [(2, .int v2)] [.int s1, .ref (ad (46))] Φ := by
  unfold wX6_tryWork_133 at h
  refine tj_iload_n rfl dX6_tryWork_133 rfl ?_
  obtain ⟨hi1, h⟩ := h
  refine af_iast (a := 46) rfl rfl dX6_tryWork_134 hi1 ?_
  replace h := h _ rfl
  generalize mset M 46 (s1 : Int32).toNatClampNeg v2 = M2 at h ⊢
  refine tj_iconst (v := 0) rfl dX6_tryWork_135 (by decide) ?_
  exact tj_ireturn (ty := .int) dX6_tryWork_136 rfl rfl (Nat.zero_le _) (Nat.zero_le _) (hp _ _ _ h)
def wX6_tryWork_93 (post : Int32 → MM → Int64 → Prop) (M : MM) (tl : Int64) (v1 : Int32) (v2 : Int32) (v3 : Int32) (v4 : Int32) (v5 : Int32) : Prop :=
  wpX6_build (fun M1 t2 => wpX10_slot (fun r5 M3 t4 => (vp_in r5 (al 47) ∧ (∀ M7 : MM, M7 = mset M3 47 (r5 : Int32).toNatClampNeg v1 → (if v5 = (-4) then post 0 M7 t4 else (if v2 = 0 then wX6_tryWork_133 post  M7 t4 v2 v3 else wX6_tryWork_133 post  M7 t4 v2 v5))))) M1 t2 v2 v3) M tl v2 v3 v4
set_option maxHeartbeats 4000000 in
set_option maxRecDepth 20000 in
theorem bX6_tryWork_93 {E : EV} {ad : Nat → Nat} {M : MM} {tl : Int64} {Φ : Option Value → va_W → Prop} {post : Int32 → MM → Int64 → Prop} {v1 : Int32} {v2 : Int32} {v3 : Int32} {v4 : Int32} {v5 : Int32} (hp : ∀ r M tl, post r M tl → Φ (some (.int r)) (WM E ad M tl)) (h : wX6_tryWork_93 post M tl v1 v2 v3 v4 v5) : T E kX6_tryWork 0 0 (WM E ad M tl) 93 [(0, .ref (ad (42))), (1, .int v1), (2, .int v2), (3, .int v3), (4, .int v4), (5, .int v5)] [] Φ := by
  unfold wX6_tryWork_93 at h
  refine tj_aload_n rfl dX6_tryWork_93 rfl ?_
  refine tj_iload_n rfl dX6_tryWork_94 rfl ?_
  refine tj_iload_n rfl dX6_tryWork_95 rfl ?_
  refine tj_iload rfl dX6_tryWork_96 rfl ?_
  refine cf_V6 (a := 42) (z := kX6_build) (As := [_, _, _]) rfl rfl dX6_tryWork_98 rfl ml_X6_89 okX6_build rfl (rm_ok rfl) (Nat.le_of_ble_eq_true rfl) (Nat.le_of_ble_eq_true rfl) rfl rfl ?_
  refine ctX6_build h (fun M1 t2 h => ?_)
  refine tj_aload_n rfl dX6_tryWork_101 rfl ?_
  refine gf6_worked (a := 42) rfl rfl dX6_tryWork_102 fl_X6_24 ?_
  refine tj_iload_n rfl dX6_tryWork_105 rfl ?_
  refine tj_iload_n rfl dX6_tryWork_106 rfl ?_
  refine cf_SN (z := kX10_slot) (As := [_, _]) rfl dX6_tryWork_107 rfl nl_X6_83 okX10_slot rfl (rm_ok rfl) (Nat.le_of_ble_eq_true rfl) (Nat.le_of_ble_eq_true rfl) rfl ?_
  refine ctX10_slot h (fun r5 M3 t4 h => ?_)
  refine tj_iload_n rfl dX6_tryWork_110 rfl ?_
  obtain ⟨hi6, h⟩ := h
  refine af_iast (a := 47) rfl rfl dX6_tryWork_111 hi6 ?_
  replace h := h _ rfl
  generalize mset M3 47 (r5 : Int32).toNatClampNeg v1 = M7 at h ⊢
  refine tj_iload rfl dX6_tryWork_112 rfl ?_
  refine tj_bipush (v := -4) rfl dX6_tryWork_114 (by decide) ?_
  refine tj_icmp_eq (tgt := 135) rfl rfl dX6_tryWork_116 (fun hc => ?_) (fun hc => ?_)
  · rw [if_pos hc] at h
    refine tj_iconst (v := 0) rfl dX6_tryWork_135 (by decide) ?_
    exact tj_ireturn (ty := .int) dX6_tryWork_136 rfl rfl (Nat.zero_le _) (Nat.zero_le _) (hp _ _ _ h)
  · rw [if_neg hc] at h
    refine tj_aload_n rfl dX6_tryWork_119 rfl ?_
    refine gf6_latest (a := 42) rfl rfl dX6_tryWork_120 fl_X6_21 ?_
    refine tj_iload_n rfl dX6_tryWork_123 rfl ?_
    refine tj_if_ne (tgt := 131) rfl rfl dX6_tryWork_124 (fun hc => ?_) (fun hc => ?_)
    · rw [if_neg hc] at h
      refine tj_iload rfl dX6_tryWork_131 rfl ?_
      exact tj_pick (l' := [(2, _)]) [2] rfl (bX6_tryWork_133 hp  h)
    · rw [if_pos hc] at h
      refine tj_iload_n rfl dX6_tryWork_127 rfl ?_
      refine tj_goto (tgt := 133) rfl dX6_tryWork_128 ?_
      exact tj_pick (l' := [(2, _)]) [2] rfl (bX6_tryWork_133 hp  h)
def wpX6_tryWork (post : Int32 → MM → Int64 → Prop) (M : MM) (tl : Int64) (v1 : Int32) (v2 : Int32) (v3 : Int32) (v4 : Int32) : Prop :=
  wpX1_isLot (fun r3 M1 t2 => (if r3 = 0 then post 2 M1 t2 else wpX1_mayBuild (fun r6 M4 t5 => (if r6 = 0 then post 2 M4 t5 else wpX1_matchOf (fun r9 M7 t8 => (if r9 = (-4) then wX6_tryWork_93 post  M7 t8 v1 v2 v3 v4 r9 else wpX10_slot (fun r12 M10 t11 => (vp_in r12 (al 47) ∧ (if (M10 47 (r12 : Int32).toNatClampNeg) = v1 then wpX10_slot (fun r16 M14 t15 => (vp_in r16 (al 43) ∧ wpX1_isEven (fun r20 M18 t19 => (if r20 = 0 then post 1 M18 t19 else wX6_tryWork_93 post  M18 t19 v1 v2 v3 v4 r9)) M14 t15 3 v4 (M14 43 (r16 : Int32).toNatClampNeg))) M10 t11 ((1 : Int32) - v2) r9 else wX6_tryWork_93 post  M10 t11 v1 v2 v3 v4 r9))) M7 t8 ((1 : Int32) - v2) r9)) M4 t5 3 v2 v3)) M1 t2 3 v2 v3 (v4 &&& 7))) M tl 3 v2 v3
set_option maxHeartbeats 4000000 in
set_option maxRecDepth 20000 in
theorem ctX6_tryWork {E : EV} {ad : Nat → Nat} {M : MM} {tl : Int64} {Φ : Option Value → va_W → Prop} {post : Int32 → MM → Int64 → Prop} {v1 : Int32} {v2 : Int32} {v3 : Int32} {v4 : Int32} (h : wpX6_tryWork post M tl v1 v2 v3 v4) (hp : ∀ r M tl, post r M tl → Φ (some (.int r)) (WM E ad M tl)) : Tm E kX6_tryWork (WM E ad M tl) [.ref (ad (42)), .int v1, .int v2, .int v3, .int v4] Φ := by
  unfold wpX6_tryWork at h
  show T E kX6_tryWork 0 0 (WM E ad M tl) 0 [(0, .ref (ad (42))), (1, .int v1), (2, .int v2), (3, .int v3), (4, .int v4)] [] Φ
  refine tj_aload_n rfl dX6_tryWork_0 rfl ?_
  refine gf6_law (a := 42) rfl rfl dX6_tryWork_1 fl_X6_27 ?_
  refine tj_iload_n rfl dX6_tryWork_4 rfl ?_
  refine tj_iload_n rfl dX6_tryWork_5 rfl ?_
  refine cf_V1 (a := 3) (z := kX1_isLot) (As := [_, _]) rfl rfl dX6_tryWork_6 rfl ml_X6_72 okX1_isLot rfl (rm_ok rfl) (Nat.le_of_ble_eq_true rfl) (Nat.le_of_ble_eq_true rfl) rfl rfl ?_
  refine ctX1_isLot h (fun r3 M1 t2 h => ?_)
  refine tj_if_eq (tgt := 29) rfl rfl dX6_tryWork_9 (fun hc => ?_) (fun hc => ?_)
  · rw [if_pos hc] at h
    refine tj_iconst (v := 2) rfl dX6_tryWork_29 (by decide) ?_
    exact tj_ireturn (ty := .int) dX6_tryWork_30 rfl rfl (Nat.zero_le _) (Nat.zero_le _) (hp _ _ _ h)
  · rw [if_neg hc] at h
    refine tj_aload_n rfl dX6_tryWork_12 rfl ?_
    refine gf6_law (a := 42) rfl rfl dX6_tryWork_13 fl_X6_27 ?_
    refine tj_iload_n rfl dX6_tryWork_16 rfl ?_
    refine tj_iload_n rfl dX6_tryWork_17 rfl ?_
    refine tj_iload rfl dX6_tryWork_18 rfl ?_
    refine tj_bipush (v := 7) rfl dX6_tryWork_20 (by decide) ?_
    refine tj_iand rfl dX6_tryWork_22 ?_
    refine cf_V1 (a := 3) (z := kX1_mayBuild) (As := [_, _, _]) rfl rfl dX6_tryWork_23 rfl ml_X6_76 okX1_mayBuild rfl (rm_ok rfl) (Nat.le_of_ble_eq_true rfl) (Nat.le_of_ble_eq_true rfl) rfl rfl ?_
    refine ctX1_mayBuild h (fun r6 M4 t5 h => ?_)
    refine tj_if_ne (tgt := 31) rfl rfl dX6_tryWork_26 (fun hc => ?_) (fun hc => ?_)
    · rw [if_neg hc] at h
      refine tj_aload_n rfl dX6_tryWork_31 rfl ?_
      refine gf6_law (a := 42) rfl rfl dX6_tryWork_32 fl_X6_27 ?_
      refine tj_iload_n rfl dX6_tryWork_35 rfl ?_
      refine tj_iload_n rfl dX6_tryWork_36 rfl ?_
      refine cf_V1 (a := 3) (z := kX1_matchOf) (As := [_, _]) rfl rfl dX6_tryWork_37 rfl ml_X6_80 okX1_matchOf rfl (rm_ok rfl) (Nat.le_of_ble_eq_true rfl) (Nat.le_of_ble_eq_true rfl) rfl rfl ?_
      refine ctX1_matchOf h (fun r9 M7 t8 h => ?_)
      refine tj_istore (l' := [(0, _), (1, _), (2, _), (3, _), (4, _), (5, _)]) rfl dX6_tryWork_40 (by decide) rfl ?_
      refine tj_iload rfl dX6_tryWork_42 rfl ?_
      refine tj_bipush (v := -4) rfl dX6_tryWork_44 (by decide) ?_
      refine tj_icmp_eq (tgt := 93) rfl rfl dX6_tryWork_46 (fun hc => ?_) (fun hc => ?_)
      · rw [if_pos hc] at h
        exact bX6_tryWork_93 hp  h
      · rw [if_neg hc] at h
        refine tj_aload_n rfl dX6_tryWork_49 rfl ?_
        refine gf6_worked (a := 42) rfl rfl dX6_tryWork_50 fl_X6_24 ?_
        refine tj_iconst (v := 1) rfl dX6_tryWork_53 (by decide) ?_
        refine tj_iload_n rfl dX6_tryWork_54 rfl ?_
        refine tj_isub rfl dX6_tryWork_55 ?_
        refine tj_iload rfl dX6_tryWork_56 rfl ?_
        refine cf_SN (z := kX10_slot) (As := [_, _]) rfl dX6_tryWork_58 rfl nl_X6_83 okX10_slot rfl (rm_ok rfl) (Nat.le_of_ble_eq_true rfl) (Nat.le_of_ble_eq_true rfl) rfl ?_
        refine ctX10_slot h (fun r12 M10 t11 h => ?_)
        obtain ⟨hi13, h⟩ := h
        refine af_iald (a := 47) rfl rfl dX6_tryWork_61 hi13 ?_
        refine tj_iload_n rfl dX6_tryWork_62 rfl ?_
        refine tj_icmp_ne (tgt := 93) rfl rfl dX6_tryWork_63 (fun hc => ?_) (fun hc => ?_)
        · rw [if_neg hc] at h
          exact bX6_tryWork_93 hp  h
        · rw [if_pos hc] at h
          refine tj_aload_n rfl dX6_tryWork_66 rfl ?_
          refine gf6_law (a := 42) rfl rfl dX6_tryWork_67 fl_X6_27 ?_
          refine tj_iload rfl dX6_tryWork_70 rfl ?_
          refine tj_aload_n rfl dX6_tryWork_72 rfl ?_
          refine gf6_things (a := 42) rfl rfl dX6_tryWork_73 fl_X6_9 ?_
          refine tj_iconst (v := 1) rfl dX6_tryWork_76 (by decide) ?_
          refine tj_iload_n rfl dX6_tryWork_77 rfl ?_
          refine tj_isub rfl dX6_tryWork_78 ?_
          refine tj_iload rfl dX6_tryWork_79 rfl ?_
          refine cf_SN (z := kX10_slot) (As := [_, _]) rfl dX6_tryWork_81 rfl nl_X6_83 okX10_slot rfl (rm_ok rfl) (Nat.le_of_ble_eq_true rfl) (Nat.le_of_ble_eq_true rfl) rfl ?_
          refine ctX10_slot h (fun r16 M14 t15 h => ?_)
          obtain ⟨hi17, h⟩ := h
          refine af_iald (a := 43) rfl rfl dX6_tryWork_84 hi17 ?_
          refine cf_V1 (a := 3) (z := kX1_isEven) (As := [_, _]) rfl rfl dX6_tryWork_85 rfl ml_X6_86 okX1_isEven rfl (rm_ok rfl) (Nat.le_of_ble_eq_true rfl) (Nat.le_of_ble_eq_true rfl) rfl rfl ?_
          refine ctX1_isEven h (fun r20 M18 t19 h => ?_)
          refine tj_if_ne (tgt := 93) rfl rfl dX6_tryWork_88 (fun hc => ?_) (fun hc => ?_)
          · rw [if_neg hc] at h
            exact bX6_tryWork_93 hp  h
          · rw [if_pos hc] at h
            refine tj_iconst (v := 1) rfl dX6_tryWork_91 (by decide) ?_
            exact tj_ireturn (ty := .int) dX6_tryWork_92 rfl rfl (Nat.zero_le _) (Nat.zero_le _) (hp _ _ _ h)
    · rw [if_pos hc] at h
      refine tj_iconst (v := 2) rfl dX6_tryWork_29 (by decide) ?_
      exact tj_ireturn (ty := .int) dX6_tryWork_30 rfl rfl (Nat.zero_le _) (Nat.zero_le _) (hp _ _ _ h)
def wpX6_isEvenPair (post : Int32 → MM → Int64 → Prop) (M : MM) (tl : Int64) (v1 : Int32) (v2 : Int32) : Prop :=
  wpX10_slot (fun r3 M1 t2 => (vp_in r3 (al 43) ∧ wpX1_mirrorOf (fun r7 M5 t6 => wpX10_slot (fun r10 M8 t9 => (vp_in r10 (al 43) ∧ (if r7 = (M8 43 (r10 : Int32).toNatClampNeg) then post 1 M8 t9 else post 0 M8 t9))) M5 t6 1 v2) M1 t2 3 (M1 43 (r3 : Int32).toNatClampNeg))) M tl 0 v1
set_option maxHeartbeats 4000000 in
set_option maxRecDepth 20000 in
theorem ctX6_isEvenPair {E : EV} {ad : Nat → Nat} {M : MM} {tl : Int64} {Φ : Option Value → va_W → Prop} {post : Int32 → MM → Int64 → Prop} {v1 : Int32} {v2 : Int32} (h : wpX6_isEvenPair post M tl v1 v2) (hp : ∀ r M tl, post r M tl → Φ (some (.int r)) (WM E ad M tl)) : Tm E kX6_isEvenPair (WM E ad M tl) [.ref (ad (42)), .int v1, .int v2] Φ := by
  unfold wpX6_isEvenPair at h
  show T E kX6_isEvenPair 0 0 (WM E ad M tl) 0 [(0, .ref (ad (42))), (1, .int v1), (2, .int v2)] [] Φ
  refine tj_aload_n rfl dX6_isEvenPair_0 rfl ?_
  refine gf6_law (a := 42) rfl rfl dX6_isEvenPair_1 fl_X6_27 ?_
  refine tj_aload_n rfl dX6_isEvenPair_4 rfl ?_
  refine gf6_things (a := 42) rfl rfl dX6_isEvenPair_5 fl_X6_9 ?_
  refine tj_iconst (v := 0) rfl dX6_isEvenPair_8 (by decide) ?_
  refine tj_iload_n rfl dX6_isEvenPair_9 rfl ?_
  refine cf_SN (z := kX10_slot) (As := [_, _]) rfl dX6_isEvenPair_10 rfl nl_X6_83 okX10_slot rfl (rm_ok rfl) (Nat.le_of_ble_eq_true rfl) (Nat.le_of_ble_eq_true rfl) rfl ?_
  refine ctX10_slot h (fun r3 M1 t2 h => ?_)
  obtain ⟨hi4, h⟩ := h
  refine af_iald (a := 43) rfl rfl dX6_isEvenPair_13 hi4 ?_
  refine cf_V1 (a := 3) (z := kX1_mirrorOf) (As := [_]) rfl rfl dX6_isEvenPair_14 rfl ml_X6_99 okX1_mirrorOf rfl (rm_ok rfl) (Nat.le_of_ble_eq_true rfl) (Nat.le_of_ble_eq_true rfl) rfl rfl ?_
  refine ctX1_mirrorOf h (fun r7 M5 t6 h => ?_)
  refine tj_aload_n rfl dX6_isEvenPair_17 rfl ?_
  refine gf6_things (a := 42) rfl rfl dX6_isEvenPair_18 fl_X6_9 ?_
  refine tj_iconst (v := 1) rfl dX6_isEvenPair_21 (by decide) ?_
  refine tj_iload_n rfl dX6_isEvenPair_22 rfl ?_
  refine cf_SN (z := kX10_slot) (As := [_, _]) rfl dX6_isEvenPair_23 rfl nl_X6_83 okX10_slot rfl (rm_ok rfl) (Nat.le_of_ble_eq_true rfl) (Nat.le_of_ble_eq_true rfl) rfl ?_
  refine ctX10_slot h (fun r10 M8 t9 h => ?_)
  obtain ⟨hi11, h⟩ := h
  refine af_iald (a := 43) rfl rfl dX6_isEvenPair_26 hi11 ?_
  refine tj_icmp_ne (tgt := 34) rfl rfl dX6_isEvenPair_27 (fun hc => ?_) (fun hc => ?_)
  · rw [if_neg hc] at h
    refine tj_iconst (v := 0) rfl dX6_isEvenPair_34 (by decide) ?_
    exact tj_ireturn (ty := .boolean) dX6_isEvenPair_35 rfl rfl (Nat.zero_le _) (Nat.zero_le _) (hp _ _ _ h)
  · rw [if_pos hc] at h
    refine tj_iconst (v := 1) rfl dX6_isEvenPair_30 (by decide) ?_
    refine tj_goto (tgt := 35) rfl dX6_isEvenPair_31 ?_
    exact tj_ireturn (ty := .boolean) dX6_isEvenPair_35 rfl rfl (Nat.zero_le _) (Nat.zero_le _) (hp _ _ _ h)
def wpX6_answer (post : MM → Int64 → Prop) (M : MM) (tl : Int64) (v1 : Int32) (v2 : Int32) : Prop :=
  wpX1_matchOf (fun r3 M1 t2 => (if r3 = (-4) then post M1 t2 else (vp_in v2 (al 46) ∧ (if (M1 46 (v2 : Int32).toNatClampNeg) = (-4) then post M1 t2 else wpX6_isEvenPair (fun r7 M5 t6 => (if r7 = 0 then wpX10_slot (fun r10 M8 t9 => (vp_in r10 (al 47) ∧ (if (M8 47 (r10 : Int32).toNatClampNeg) = v1 then post M8 t9 else wpX10_slot (fun r14 M12 t13 => (vp_in r14 (al 47) ∧ (if (M12 47 (r14 : Int32).toNatClampNeg) = v1 then post M12 t13 else (vp_in v2 (al 46) ∧ (if (M12 46 (v2 : Int32).toNatClampNeg) = 0 then wpX10_slot (fun r28 M26 t27 => (vp_in r28 (al 43) ∧ wpX1_mirrorOf (fun r32 M30 t31 => wpX6_build (fun M33 t34 => post M33 t34) M30 t31 1 r3 r32) M26 t27 3 (M26 43 (r28 : Int32).toNatClampNeg))) M12 t13 0 v2 else wpX10_slot (fun r19 M17 t18 => (vp_in r19 (al 43) ∧ wpX1_mirrorOf (fun r23 M21 t22 => wpX6_build (fun M24 t25 => post M24 t25) M21 t22 0 v2 r23) M17 t18 3 (M17 43 (r19 : Int32).toNatClampNeg))) M12 t13 1 r3))))) M8 t9 1 r3))) M5 t6 0 v2 else post M5 t6)) M1 t2 v2 r3)))) M tl 3 0 v2
set_option maxHeartbeats 4000000 in
set_option maxRecDepth 20000 in
theorem ctX6_answer {E : EV} {ad : Nat → Nat} {M : MM} {tl : Int64} {Φ : Option Value → va_W → Prop} {post : MM → Int64 → Prop} {v1 : Int32} {v2 : Int32} (h : wpX6_answer post M tl v1 v2) (hp : ∀ M tl, post M tl → Φ none (WM E ad M tl)) : Tm E kX6_answer (WM E ad M tl) [.ref (ad (42)), .int v1, .int v2] Φ := by
  unfold wpX6_answer at h
  show T E kX6_answer 0 0 (WM E ad M tl) 0 [(0, .ref (ad (42))), (1, .int v1), (2, .int v2)] [] Φ
  refine tj_aload_n rfl dX6_answer_0 rfl ?_
  refine gf6_law (a := 42) rfl rfl dX6_answer_1 fl_X6_27 ?_
  refine tj_iconst (v := 0) rfl dX6_answer_4 (by decide) ?_
  refine tj_iload_n rfl dX6_answer_5 rfl ?_
  refine cf_V1 (a := 3) (z := kX1_matchOf) (As := [_, _]) rfl rfl dX6_answer_6 rfl ml_X6_80 okX1_matchOf rfl (rm_ok rfl) (Nat.le_of_ble_eq_true rfl) (Nat.le_of_ble_eq_true rfl) rfl rfl ?_
  refine ctX1_matchOf h (fun r3 M1 t2 h => ?_)
  refine tj_istore_n (l' := [(0, _), (1, _), (2, _), (3, _)]) rfl dX6_answer_9 (by decide) rfl ?_
  refine tj_iload_n rfl dX6_answer_10 rfl ?_
  refine tj_bipush (v := -4) rfl dX6_answer_11 (by decide) ?_
  refine tj_icmp_eq (tgt := 36) rfl rfl dX6_answer_13 (fun hc => ?_) (fun hc => ?_)
  · rw [if_pos hc] at h
    exact tj_return dX6_answer_36 rfl (Nat.zero_le _) (Nat.zero_le _) (hp _ _ h)
  · rw [if_neg hc] at h
    refine tj_aload_n rfl dX6_answer_16 rfl ?_
    refine gf6_latest (a := 42) rfl rfl dX6_answer_17 fl_X6_21 ?_
    refine tj_iload_n rfl dX6_answer_20 rfl ?_
    obtain ⟨hi4, h⟩ := h
    refine af_iald (a := 46) rfl rfl dX6_answer_21 hi4 ?_
    refine tj_bipush (v := -4) rfl dX6_answer_22 (by decide) ?_
    refine tj_icmp_eq (tgt := 36) rfl rfl dX6_answer_24 (fun hc => ?_) (fun hc => ?_)
    · rw [if_pos hc] at h
      exact tj_return dX6_answer_36 rfl (Nat.zero_le _) (Nat.zero_le _) (hp _ _ h)
    · rw [if_neg hc] at h
      refine tj_aload_n rfl dX6_answer_27 rfl ?_
      refine tj_iload_n rfl dX6_answer_28 rfl ?_
      refine tj_iload_n rfl dX6_answer_29 rfl ?_
      refine cf_V6 (a := 42) (z := kX6_isEvenPair) (As := [_, _]) rfl rfl dX6_answer_30 rfl ml_X6_96 okX6_isEvenPair rfl (rm_ok rfl) (Nat.le_of_ble_eq_true rfl) (Nat.le_of_ble_eq_true rfl) rfl rfl ?_
      refine ctX6_isEvenPair h (fun r7 M5 t6 h => ?_)
      refine tj_if_eq (tgt := 37) rfl rfl dX6_answer_33 (fun hc => ?_) (fun hc => ?_)
      · rw [if_pos hc] at h
        refine tj_aload_n rfl dX6_answer_37 rfl ?_
        refine gf6_worked (a := 42) rfl rfl dX6_answer_38 fl_X6_24 ?_
        refine tj_iconst (v := 0) rfl dX6_answer_41 (by decide) ?_
        refine tj_iload_n rfl dX6_answer_42 rfl ?_
        refine cf_SN (z := kX10_slot) (As := [_, _]) rfl dX6_answer_43 rfl nl_X6_83 okX10_slot rfl (rm_ok rfl) (Nat.le_of_ble_eq_true rfl) (Nat.le_of_ble_eq_true rfl) rfl ?_
        refine ctX10_slot h (fun r10 M8 t9 h => ?_)
        obtain ⟨hi11, h⟩ := h
        refine af_iald (a := 47) rfl rfl dX6_answer_46 hi11 ?_
        refine tj_iload_n rfl dX6_answer_47 rfl ?_
        refine tj_icmp_eq (tgt := 65) rfl rfl dX6_answer_48 (fun hc => ?_) (fun hc => ?_)
        · rw [if_pos hc] at h
          exact tj_return dX6_answer_65 rfl (Nat.zero_le _) (Nat.zero_le _) (hp _ _ h)
        · rw [if_neg hc] at h
          refine tj_aload_n rfl dX6_answer_51 rfl ?_
          refine gf6_worked (a := 42) rfl rfl dX6_answer_52 fl_X6_24 ?_
          refine tj_iconst (v := 1) rfl dX6_answer_55 (by decide) ?_
          refine tj_iload_n rfl dX6_answer_56 rfl ?_
          refine cf_SN (z := kX10_slot) (As := [_, _]) rfl dX6_answer_57 rfl nl_X6_83 okX10_slot rfl (rm_ok rfl) (Nat.le_of_ble_eq_true rfl) (Nat.le_of_ble_eq_true rfl) rfl ?_
          refine ctX10_slot h (fun r14 M12 t13 h => ?_)
          obtain ⟨hi15, h⟩ := h
          refine af_iald (a := 47) rfl rfl dX6_answer_60 hi15 ?_
          refine tj_iload_n rfl dX6_answer_61 rfl ?_
          refine tj_icmp_ne (tgt := 66) rfl rfl dX6_answer_62 (fun hc => ?_) (fun hc => ?_)
          · rw [if_neg hc] at h
            refine tj_aload_n rfl dX6_answer_66 rfl ?_
            refine gf6_latest (a := 42) rfl rfl dX6_answer_67 fl_X6_21 ?_
            refine tj_iload_n rfl dX6_answer_70 rfl ?_
            obtain ⟨hi16, h⟩ := h
            refine af_iald (a := 46) rfl rfl dX6_answer_71 hi16 ?_
            refine tj_if_ne (tgt := 101) rfl rfl dX6_answer_72 (fun hc => ?_) (fun hc => ?_)
            · rw [if_neg hc] at h
              refine tj_aload_n rfl dX6_answer_101 rfl ?_
              refine tj_iconst (v := 0) rfl dX6_answer_102 (by decide) ?_
              refine tj_iload_n rfl dX6_answer_103 rfl ?_
              refine tj_aload_n rfl dX6_answer_104 rfl ?_
              refine gf6_law (a := 42) rfl rfl dX6_answer_105 fl_X6_27 ?_
              refine tj_aload_n rfl dX6_answer_108 rfl ?_
              refine gf6_things (a := 42) rfl rfl dX6_answer_109 fl_X6_9 ?_
              refine tj_iconst (v := 1) rfl dX6_answer_112 (by decide) ?_
              refine tj_iload_n rfl dX6_answer_113 rfl ?_
              refine cf_SN (z := kX10_slot) (As := [_, _]) rfl dX6_answer_114 rfl nl_X6_83 okX10_slot rfl (rm_ok rfl) (Nat.le_of_ble_eq_true rfl) (Nat.le_of_ble_eq_true rfl) rfl ?_
              refine ctX10_slot h (fun r19 M17 t18 h => ?_)
              obtain ⟨hi20, h⟩ := h
              refine af_iald (a := 43) rfl rfl dX6_answer_117 hi20 ?_
              refine cf_V1 (a := 3) (z := kX1_mirrorOf) (As := [_]) rfl rfl dX6_answer_118 rfl ml_X6_99 okX1_mirrorOf rfl (rm_ok rfl) (Nat.le_of_ble_eq_true rfl) (Nat.le_of_ble_eq_true rfl) rfl rfl ?_
              refine ctX1_mirrorOf h (fun r23 M21 t22 h => ?_)
              refine cf_V6 (a := 42) (z := kX6_build) (As := [_, _, _]) rfl rfl dX6_answer_121 rfl ml_X6_89 okX6_build rfl (rm_ok rfl) (Nat.le_of_ble_eq_true rfl) (Nat.le_of_ble_eq_true rfl) rfl rfl ?_
              refine ctX6_build h (fun M24 t25 h => ?_)
              exact tj_return dX6_answer_124 rfl (Nat.zero_le _) (Nat.zero_le _) (hp _ _ h)
            · rw [if_pos hc] at h
              refine tj_aload_n rfl dX6_answer_75 rfl ?_
              refine tj_iconst (v := 1) rfl dX6_answer_76 (by decide) ?_
              refine tj_iload_n rfl dX6_answer_77 rfl ?_
              refine tj_aload_n rfl dX6_answer_78 rfl ?_
              refine gf6_law (a := 42) rfl rfl dX6_answer_79 fl_X6_27 ?_
              refine tj_aload_n rfl dX6_answer_82 rfl ?_
              refine gf6_things (a := 42) rfl rfl dX6_answer_83 fl_X6_9 ?_
              refine tj_iconst (v := 0) rfl dX6_answer_86 (by decide) ?_
              refine tj_iload_n rfl dX6_answer_87 rfl ?_
              refine cf_SN (z := kX10_slot) (As := [_, _]) rfl dX6_answer_88 rfl nl_X6_83 okX10_slot rfl (rm_ok rfl) (Nat.le_of_ble_eq_true rfl) (Nat.le_of_ble_eq_true rfl) rfl ?_
              refine ctX10_slot h (fun r28 M26 t27 h => ?_)
              obtain ⟨hi29, h⟩ := h
              refine af_iald (a := 43) rfl rfl dX6_answer_91 hi29 ?_
              refine cf_V1 (a := 3) (z := kX1_mirrorOf) (As := [_]) rfl rfl dX6_answer_92 rfl ml_X6_99 okX1_mirrorOf rfl (rm_ok rfl) (Nat.le_of_ble_eq_true rfl) (Nat.le_of_ble_eq_true rfl) rfl rfl ?_
              refine ctX1_mirrorOf h (fun r32 M30 t31 h => ?_)
              refine cf_V6 (a := 42) (z := kX6_build) (As := [_, _, _]) rfl rfl dX6_answer_95 rfl ml_X6_89 okX6_build rfl (rm_ok rfl) (Nat.le_of_ble_eq_true rfl) (Nat.le_of_ble_eq_true rfl) rfl rfl ?_
              refine ctX6_build h (fun M33 t34 h => ?_)
              refine tj_goto (tgt := 124) rfl dX6_answer_98 ?_
              exact tj_return dX6_answer_124 rfl (Nat.zero_le _) (Nat.zero_le _) (hp _ _ h)
          · rw [if_pos hc] at h
            exact tj_return dX6_answer_65 rfl (Nat.zero_le _) (Nat.zero_le _) (hp _ _ h)
      · rw [if_neg hc] at h
        exact tj_return dX6_answer_36 rfl (Nat.zero_le _) (Nat.zero_le _) (hp _ _ h)
def wX6_runMonth_63 (post : MM → Int64 → Prop) (bk10 : MM → Int64 → Int32 → Int32 → Prop) (M : MM) (tl : Int64) (v1 : Int32) (v3 : Int32) : Prop :=
  bk10 M tl v1 (v3 + 1)
set_option maxHeartbeats 4000000 in
set_option maxRecDepth 20000 in
theorem bX6_runMonth_63 {E : EV} {ad : Nat → Nat} {M : MM} {tl : Int64} {Φ : Option Value → va_W → Prop} {post : MM → Int64 → Prop} {bk10 : MM → Int64 → Int32 → Int32 → Prop} {v1 : Int32} {v3 : Int32} (hp : ∀ M tl, post M tl → Φ none (WM E ad M tl)) (hb10 : ∀ (M : MM) (tl : Int64) (v1 : Int32) (v3 : Int32), bk10 M tl v1 v3 → T E kX6_runMonth 0 0 (WM E ad M tl) 10 [(0, .ref (ad (42))), (1, .int v1), (2, .ref (ad (16))), (3, .int v3)] [] Φ) (h : wX6_runMonth_63 post bk10 M tl v1 v3) : T E kX6_runMonth 0 0 (WM E ad M tl) 63 [(0, .ref (ad (42))), (1, .int v1), (2, .ref (ad (16))), (3, .int v3)] [] Φ := by
  unfold wX6_runMonth_63 at h
  refine tj_iinc (v := _ + 1) (l' := [(0, _), (1, _), (2, _), (3, _)]) rfl dX6_runMonth_63 rfl (by decide) rfl rfl ?_
  refine tj_goto (tgt := 10) rfl dX6_runMonth_66 ?_
  exact hb10 _ _ _ _ h
def wX6_runMonth_71 (post : MM → Int64 → Prop) : Nat → MM → Int64 → Int32 → Int32 → Prop
  | 0, _, _, _, _ => False
  | n + 1, M, tl, v1, v3 =>
    (if (M 3 0) ≤ v3 then post M tl else wpX6_answer (fun M1 t2 => (wX6_runMonth_71 post n) M1 t2 v1 (v3 + 1)) M tl v1 v3)
set_option maxHeartbeats 4000000 in
set_option maxRecDepth 20000 in
theorem bX6_runMonth_71 {E : EV} {ad : Nat → Nat} {Φ : Option Value → va_W → Prop} {post : MM → Int64 → Prop}  (hp : ∀ M tl, post M tl → Φ none (WM E ad M tl)) : ∀ (n : Nat) (M : MM) (tl : Int64) (v1 : Int32) (v3 : Int32), wX6_runMonth_71 post n M tl v1 v3 → T E kX6_runMonth 0 0 (WM E ad M tl) 71 [(0, .ref (ad (42))), (1, .int v1), (3, .int v3)] [] Φ := by
  intro n
  induction n with
  | zero => intro M tl v1 v3 h; exact False.elim h
  | succ n ih =>
    intro M tl v1 v3 h
    unfold wX6_runMonth_71 at h
    refine tj_iload_n rfl dX6_runMonth_71 rfl ?_
    refine tj_aload_n rfl dX6_runMonth_72 rfl ?_
    refine gf6_law (a := 42) rfl rfl dX6_runMonth_73 fl_X6_27 ?_
    refine gf1_lots (a := 3) rfl rfl dX6_runMonth_76 fl_X6_63 ?_
    refine tj_icmp_ge (tgt := 94) rfl rfl dX6_runMonth_79 (fun hc => ?_) (fun hc => ?_)
    · rw [if_pos hc] at h
      exact tj_return dX6_runMonth_94 rfl (Nat.zero_le _) (Nat.zero_le _) (hp _ _ h)
    · rw [if_neg hc] at h
      refine tj_aload_n rfl dX6_runMonth_82 rfl ?_
      refine tj_iload_n rfl dX6_runMonth_83 rfl ?_
      refine tj_iload_n rfl dX6_runMonth_84 rfl ?_
      refine cf_V6 (a := 42) (z := kX6_answer) (As := [_, _]) rfl rfl dX6_runMonth_85 rfl ml_X6_68 okX6_answer rfl (rm_ok rfl) (Nat.le_of_ble_eq_true rfl) (Nat.le_of_ble_eq_true rfl) rfl rfl ?_
      refine ctX6_answer h (fun M1 t2 h => ?_)
      refine tj_iinc (v := _ + 1) (l' := [(0, _), (1, _), (3, _)]) rfl dX6_runMonth_88 rfl (by decide) rfl rfl ?_
      refine tj_goto (tgt := 71) rfl dX6_runMonth_91 ?_
      exact ih _ _ _ _ h
def wX6_runMonth_69 (post : MM → Int64 → Prop) (M : MM) (tl : Int64) (v1 : Int32) : Prop :=
  (∃ n9, wX6_runMonth_71 post  n9 M tl v1 0)
set_option maxHeartbeats 4000000 in
set_option maxRecDepth 20000 in
theorem bX6_runMonth_69 {E : EV} {ad : Nat → Nat} {M : MM} {tl : Int64} {Φ : Option Value → va_W → Prop} {post : MM → Int64 → Prop} {v1 : Int32} (hp : ∀ M tl, post M tl → Φ none (WM E ad M tl)) (h : wX6_runMonth_69 post M tl v1) : T E kX6_runMonth 0 0 (WM E ad M tl) 69 [(0, .ref (ad (42))), (1, .int v1)] [] Φ := by
  unfold wX6_runMonth_69 at h
  refine tj_iconst (v := 0) rfl dX6_runMonth_69 (by decide) ?_
  refine tj_istore_n (l' := [(0, _), (1, _), (3, _)]) rfl dX6_runMonth_70 (by decide) rfl ?_
  obtain ⟨n9, h⟩ := h
  exact bX6_runMonth_71 hp  n9 _ _ _ _ h
def wX6_runMonth_10 (post : MM → Int64 → Prop) : Nat → MM → Int64 → Int32 → Int32 → Prop
  | 0, _, _, _, _ => False
  | n + 1, M, tl, v1, v3 =>
    (if (M 16 3) ≤ v3 then wX6_runMonth_69 post  M tl v1 else (if 12 ≤ v3 then wX6_runMonth_69 post  M tl v1 else wpX5_cell (fun r3 M1 t2 => (if r3 = v1 then wpX5_cell (fun r6 M4 t5 => wpX5_cell (fun r9 M7 t8 => wpX5_cell (fun r12 M10 t11 => wpX6_tryWork (fun r15 M13 t14 => (vp_in v3 (al 45) ∧ (∀ M17 : MM, M17 = mset M13 45 (v3 : Int32).toNatClampNeg r15 → wX6_runMonth_63 post (wX6_runMonth_10 post n) M17 t14 v1 v3))) M10 t11 v1 r6 r9 r12) M7 t8 16 v3 3) M4 t5 16 v3 2) M1 t2 16 v3 1 else wX6_runMonth_63 post (wX6_runMonth_10 post n) M1 t2 v1 v3)) M tl 16 v3 0))
set_option maxHeartbeats 4000000 in
set_option maxRecDepth 20000 in
theorem bX6_runMonth_10 {E : EV} {ad : Nat → Nat} {Φ : Option Value → va_W → Prop} {post : MM → Int64 → Prop}  (hp : ∀ M tl, post M tl → Φ none (WM E ad M tl)) : ∀ (n : Nat) (M : MM) (tl : Int64) (v1 : Int32) (v3 : Int32), wX6_runMonth_10 post n M tl v1 v3 → T E kX6_runMonth 0 0 (WM E ad M tl) 10 [(0, .ref (ad (42))), (1, .int v1), (2, .ref (ad (16))), (3, .int v3)] [] Φ := by
  intro n
  induction n with
  | zero => intro M tl v1 v3 h; exact False.elim h
  | succ n ih =>
    intro M tl v1 v3 h
    unfold wX6_runMonth_10 at h
    refine tj_iload_n rfl dX6_runMonth_10 rfl ?_
    refine tj_aload_n rfl dX6_runMonth_11 rfl ?_
    refine gf5_size (a := 16) rfl rfl dX6_runMonth_12 fl_X6_49 ?_
    refine tj_icmp_ge (tgt := 69) rfl rfl dX6_runMonth_15 (fun hc => ?_) (fun hc => ?_)
    · rw [if_pos hc] at h
      exact tj_pick (l' := [(0, _), (1, _)]) [0, 1] rfl (bX6_runMonth_69 hp  h)
    · rw [if_neg hc] at h
      refine tj_iload_n rfl dX6_runMonth_18 rfl ?_
      refine tj_bipush (v := 12) rfl dX6_runMonth_19 (by decide) ?_
      refine tj_icmp_ge (tgt := 69) rfl rfl dX6_runMonth_21 (fun hc => ?_) (fun hc => ?_)
      · rw [if_pos hc] at h
        exact tj_pick (l' := [(0, _), (1, _)]) [0, 1] rfl (bX6_runMonth_69 hp  h)
      · rw [if_neg hc] at h
        refine tj_aload_n rfl dX6_runMonth_24 rfl ?_
        refine tj_iload_n rfl dX6_runMonth_25 rfl ?_
        refine tj_iconst (v := 0) rfl dX6_runMonth_26 (by decide) ?_
        refine cf_V5 (a := 16) (z := kX5_cell) (As := [_, _]) rfl rfl dX6_runMonth_27 rfl ml_X6_55 okX5_cell rfl (rm_ok rfl) (Nat.le_of_ble_eq_true rfl) (Nat.le_of_ble_eq_true rfl) rfl rfl ?_
        refine ctX5_cell h (fun r3 M1 t2 h => ?_)
        refine tj_iload_n rfl dX6_runMonth_30 rfl ?_
        refine tj_icmp_ne (tgt := 63) rfl rfl dX6_runMonth_31 (fun hc => ?_) (fun hc => ?_)
        · rw [if_neg hc] at h
          exact bX6_runMonth_63 hp ih h
        · rw [if_pos hc] at h
          refine tj_aload_n rfl dX6_runMonth_34 rfl ?_
          refine gf6_fates (a := 42) rfl rfl dX6_runMonth_35 fl_X6_18 ?_
          refine tj_iload_n rfl dX6_runMonth_38 rfl ?_
          refine tj_aload_n rfl dX6_runMonth_39 rfl ?_
          refine tj_iload_n rfl dX6_runMonth_40 rfl ?_
          refine tj_aload_n rfl dX6_runMonth_41 rfl ?_
          refine tj_iload_n rfl dX6_runMonth_42 rfl ?_
          refine tj_iconst (v := 1) rfl dX6_runMonth_43 (by decide) ?_
          refine cf_V5 (a := 16) (z := kX5_cell) (As := [_, _]) rfl rfl dX6_runMonth_44 rfl ml_X6_55 okX5_cell rfl (rm_ok rfl) (Nat.le_of_ble_eq_true rfl) (Nat.le_of_ble_eq_true rfl) rfl rfl ?_
          refine ctX5_cell h (fun r6 M4 t5 h => ?_)
          refine tj_aload_n rfl dX6_runMonth_47 rfl ?_
          refine tj_iload_n rfl dX6_runMonth_48 rfl ?_
          refine tj_iconst (v := 2) rfl dX6_runMonth_49 (by decide) ?_
          refine cf_V5 (a := 16) (z := kX5_cell) (As := [_, _]) rfl rfl dX6_runMonth_50 rfl ml_X6_55 okX5_cell rfl (rm_ok rfl) (Nat.le_of_ble_eq_true rfl) (Nat.le_of_ble_eq_true rfl) rfl rfl ?_
          refine ctX5_cell h (fun r9 M7 t8 h => ?_)
          refine tj_aload_n rfl dX6_runMonth_53 rfl ?_
          refine tj_iload_n rfl dX6_runMonth_54 rfl ?_
          refine tj_iconst (v := 3) rfl dX6_runMonth_55 (by decide) ?_
          refine cf_V5 (a := 16) (z := kX5_cell) (As := [_, _]) rfl rfl dX6_runMonth_56 rfl ml_X6_55 okX5_cell rfl (rm_ok rfl) (Nat.le_of_ble_eq_true rfl) (Nat.le_of_ble_eq_true rfl) rfl rfl ?_
          refine ctX5_cell h (fun r12 M10 t11 h => ?_)
          refine cf_V6 (a := 42) (z := kX6_tryWork) (As := [_, _, _, _]) rfl rfl dX6_runMonth_59 rfl ml_X6_59 okX6_tryWork rfl (rm_ok rfl) (Nat.le_of_ble_eq_true rfl) (Nat.le_of_ble_eq_true rfl) rfl rfl ?_
          refine ctX6_tryWork h (fun r15 M13 t14 h => ?_)
          obtain ⟨hi16, h⟩ := h
          refine af_iast (a := 45) rfl rfl dX6_runMonth_62 hi16 ?_
          replace h := h _ rfl
          generalize mset M13 45 (v3 : Int32).toNatClampNeg r15 = M17 at h ⊢
          exact bX6_runMonth_63 hp ih h
def wpX6_runMonth (post : MM → Int64 → Prop) (M : MM) (tl : Int64) (v1 : Int32) : Prop :=
  (∃ n9, wX6_runMonth_10 post  n9 M tl v1 0)
set_option maxHeartbeats 4000000 in
set_option maxRecDepth 20000 in
theorem ctX6_runMonth {E : EV} {ad : Nat → Nat} {M : MM} {tl : Int64} {Φ : Option Value → va_W → Prop} {post : MM → Int64 → Prop} {v1 : Int32} (h : wpX6_runMonth post M tl v1) (hp : ∀ M tl, post M tl → Φ none (WM E ad M tl)) : Tm E kX6_runMonth (WM E ad M tl) [.ref (ad (42)), .int v1] Φ := by
  unfold wpX6_runMonth at h
  show T E kX6_runMonth 0 0 (WM E ad M tl) 0 [(0, .ref (ad (42))), (1, .int v1)] [] Φ
  refine tj_aload_n rfl dX6_runMonth_0 rfl ?_
  refine gf6_scene (a := 42) rfl rfl dX6_runMonth_1 fl_X6_31 ?_
  refine gf7_works (a := 14) rfl rfl dX6_runMonth_4 fl_X6_45 ?_
  refine tj_astore_n (l' := [(0, _), (1, _), (2, _)]) rfl dX6_runMonth_7 (by decide) rfl ?_
  refine tj_iconst (v := 0) rfl dX6_runMonth_8 (by decide) ?_
  refine tj_istore_n (l' := [(0, _), (1, _), (2, _), (3, _)]) rfl dX6_runMonth_9 (by decide) rfl ?_
  obtain ⟨n9, h⟩ := h
  exact bX6_runMonth_10 hp  n9 _ _ _ _ h
def wX6_runMonths_6 (post : MM → Int64 → Prop) : Nat → MM → Int64 → Int32 → Int32 → Prop
  | 0, _, _, _, _ => False
  | n + 1, M, tl, v1, v2 =>
    (if v1 ≤ v2 then post M tl else wpX6_runMonth (fun M1 t2 => (wX6_runMonths_6 post n) M1 t2 v1 (v2 + 1)) M tl v2)
set_option maxHeartbeats 4000000 in
set_option maxRecDepth 20000 in
theorem bX6_runMonths_6 {E : EV} {ad : Nat → Nat} {Φ : Option Value → va_W → Prop} {post : MM → Int64 → Prop}  (hp : ∀ M tl, post M tl → Φ none (WM E ad M tl)) : ∀ (n : Nat) (M : MM) (tl : Int64) (v1 : Int32) (v2 : Int32), wX6_runMonths_6 post n M tl v1 v2 → T E kX6_runMonths 0 0 (WM E ad M tl) 6 [(0, .ref (ad (42))), (1, .int v1), (2, .int v2)] [] Φ := by
  intro n
  induction n with
  | zero => intro M tl v1 v2 h; exact False.elim h
  | succ n ih =>
    intro M tl v1 v2 h
    unfold wX6_runMonths_6 at h
    refine tj_iload_n rfl dX6_runMonths_6 rfl ?_
    refine tj_iload_n rfl dX6_runMonths_7 rfl ?_
    refine tj_icmp_ge (tgt := 22) rfl rfl dX6_runMonths_8 (fun hc => ?_) (fun hc => ?_)
    · rw [if_pos hc] at h
      exact tj_return dX6_runMonths_22 rfl (Nat.zero_le _) (Nat.zero_le _) (hp _ _ h)
    · rw [if_neg hc] at h
      refine tj_aload_n rfl dX6_runMonths_11 rfl ?_
      refine tj_iload_n rfl dX6_runMonths_12 rfl ?_
      refine cf_V6 (a := 42) (z := kX6_runMonth) (As := [_]) rfl rfl dX6_runMonths_13 rfl ml_X6_38 okX6_runMonth rfl (rm_ok rfl) (Nat.le_of_ble_eq_true rfl) (Nat.le_of_ble_eq_true rfl) rfl rfl ?_
      refine ctX6_runMonth h (fun M1 t2 h => ?_)
      refine tj_iinc (v := _ + 1) (l' := [(0, _), (1, _), (2, _)]) rfl dX6_runMonths_16 rfl (by decide) rfl rfl ?_
      refine tj_goto (tgt := 6) rfl dX6_runMonths_19 ?_
      exact ih _ _ _ _ h
def wpX6_runMonths (post : MM → Int64 → Prop) (M : MM) (tl : Int64) (v1 : Int32) : Prop :=
  wpX6_start (fun M1 t2 => (∃ n9, wX6_runMonths_6 post  n9 M1 t2 v1 0)) M tl 
set_option maxHeartbeats 4000000 in
set_option maxRecDepth 20000 in
theorem ctX6_runMonths {E : EV} {ad : Nat → Nat} {M : MM} {tl : Int64} {Φ : Option Value → va_W → Prop} {post : MM → Int64 → Prop} {v1 : Int32} (h : wpX6_runMonths post M tl v1) (hp : ∀ M tl, post M tl → Φ none (WM E ad M tl)) : Tm E kX6_runMonths (WM E ad M tl) [.ref (ad (42)), .int v1] Φ := by
  unfold wpX6_runMonths at h
  show T E kX6_runMonths 0 0 (WM E ad M tl) 0 [(0, .ref (ad (42))), (1, .int v1)] [] Φ
  refine tj_aload_n rfl dX6_runMonths_0 rfl ?_
  refine cf_V6 (a := 42) (z := kX6_start) (As := []) rfl rfl dX6_runMonths_1 rfl ml_X6_35 okX6_start rfl (rm_ok rfl) (Nat.le_of_ble_eq_true rfl) (Nat.le_of_ble_eq_true rfl) rfl rfl ?_
  refine ctX6_start h (fun M1 t2 h => ?_)
  refine tj_iconst (v := 0) rfl dX6_runMonths_4 (by decide) ?_
  refine tj_istore_n (l' := [(0, _), (1, _), (2, _)]) rfl dX6_runMonths_5 (by decide) rfl ?_
  obtain ⟨n9, h⟩ := h
  exact bX6_runMonths_6 hp  n9 _ _ _ _ h
def wX6_lotsOwedBy_70 (post : Int32 → MM → Int64 → Prop) (bk4 : MM → Int64 → Int32 → Int32 → Int32 → Prop) (M : MM) (tl : Int64) (v1 : Int32) (v2 : Int32) (v3 : Int32) : Prop :=
  bk4 M tl v1 v2 (v3 + 1)
set_option maxHeartbeats 4000000 in
set_option maxRecDepth 20000 in
theorem bX6_lotsOwedBy_70 {E : EV} {ad : Nat → Nat} {M : MM} {tl : Int64} {Φ : Option Value → va_W → Prop} {post : Int32 → MM → Int64 → Prop} {bk4 : MM → Int64 → Int32 → Int32 → Int32 → Prop} {v1 : Int32} {v2 : Int32} {v3 : Int32} (hp : ∀ r M tl, post r M tl → Φ (some (.int r)) (WM E ad M tl)) (hb4 : ∀ (M : MM) (tl : Int64) (v1 : Int32) (v2 : Int32) (v3 : Int32), bk4 M tl v1 v2 v3 → T E kX6_lotsOwedBy 0 0 (WM E ad M tl) 4 [(0, .ref (ad (42))), (1, .int v1), (2, .int v2), (3, .int v3)] [] Φ) (h : wX6_lotsOwedBy_70 post bk4 M tl v1 v2 v3) : T E kX6_lotsOwedBy 0 0 (WM E ad M tl) 70 [(0, .ref (ad (42))), (1, .int v1), (2, .int v2), (3, .int v3)] [] Φ := by
  unfold wX6_lotsOwedBy_70 at h
  refine tj_iinc (v := _ + 1) (l' := [(0, _), (1, _), (2, _), (3, _)]) rfl dX6_lotsOwedBy_70 rfl (by decide) rfl rfl ?_
  refine tj_goto (tgt := 4) rfl dX6_lotsOwedBy_73 ?_
  exact hb4 _ _ _ _ _ h
def wX6_lotsOwedBy_67 (post : Int32 → MM → Int64 → Prop) (bk4 : MM → Int64 → Int32 → Int32 → Int32 → Prop) (M : MM) (tl : Int64) (v1 : Int32) (v3 : Int32) (s0 : Int32) (s1 : Int32) (s2 : Int32) : Prop :=
  wX6_lotsOwedBy_70 post bk4 M tl v1 (s0 ||| (s1 <<< (s2 &&& 31))) v3
set_option maxHeartbeats 4000000 in
set_option maxRecDepth 20000 in
theorem bX6_lotsOwedBy_67 {E : EV} {ad : Nat → Nat} {M : MM} {tl : Int64} {Φ : Option Value → va_W → Prop} {post : Int32 → MM → Int64 → Prop} {bk4 : MM → Int64 → Int32 → Int32 → Int32 → Prop} {v1 : Int32} {v3 : Int32} {s0 : Int32} {s1 : Int32} {s2 : Int32} (hp : ∀ r M tl, post r M tl → Φ (some (.int r)) (WM E ad M tl)) (hb4 : ∀ (M : MM) (tl : Int64) (v1 : Int32) (v2 : Int32) (v3 : Int32), bk4 M tl v1 v2 v3 → T E kX6_lotsOwedBy 0 0 (WM E ad M tl) 4 [(0, .ref (ad (42))), (1, .int v1), (2, .int v2), (3, .int v3)] [] Φ) (h : wX6_lotsOwedBy_67 post bk4 M tl v1 v3 s0 s1 s2) : T E kX6_lotsOwedBy 0 0 (WM E ad M tl) 67 [(0, .ref (ad (42))), (1, .int v1), (3, .int v3)] [.int s2, .int s1, .int s0] Φ := by
  unfold wX6_lotsOwedBy_67 at h
  refine tj_ishl rfl dX6_lotsOwedBy_67 ?_
  refine tj_ior rfl dX6_lotsOwedBy_68 ?_
  refine tj_istore_n (l' := [(0, _), (1, _), (2, _), (3, _)]) rfl dX6_lotsOwedBy_69 (by decide) rfl ?_
  exact bX6_lotsOwedBy_70 hp hb4 h
def wX6_lotsOwedBy_4 (post : Int32 → MM → Int64 → Prop) : Nat → MM → Int64 → Int32 → Int32 → Int32 → Prop
  | 0, _, _, _, _, _ => False
  | n + 1, M, tl, v1, v2, v3 =>
    (if (M 3 0) ≤ v3 then post v2 M tl else wpX1_matchOf (fun r3 M1 t2 => (if r3 = (-4) then wX6_lotsOwedBy_70 post (wX6_lotsOwedBy_4 post n) M1 t2 v1 v2 v3 else (vp_in v3 (al 46) ∧ (if (M1 46 (v3 : Int32).toNatClampNeg) = ((1 : Int32) - v1) then wpX6_isEvenPair (fun r7 M5 t6 => (if r7 = 0 then (if v1 = 0 then wX6_lotsOwedBy_67 post (wX6_lotsOwedBy_4 post n) M5 t6 v1 v3 v2 1 v3 else wX6_lotsOwedBy_67 post (wX6_lotsOwedBy_4 post n) M5 t6 v1 v3 v2 1 r3) else wX6_lotsOwedBy_70 post (wX6_lotsOwedBy_4 post n) M5 t6 v1 v2 v3)) M1 t2 v3 r3 else wX6_lotsOwedBy_70 post (wX6_lotsOwedBy_4 post n) M1 t2 v1 v2 v3)))) M tl 3 0 v3)
set_option maxHeartbeats 4000000 in
set_option maxRecDepth 20000 in
theorem bX6_lotsOwedBy_4 {E : EV} {ad : Nat → Nat} {Φ : Option Value → va_W → Prop} {post : Int32 → MM → Int64 → Prop}  (hp : ∀ r M tl, post r M tl → Φ (some (.int r)) (WM E ad M tl)) : ∀ (n : Nat) (M : MM) (tl : Int64) (v1 : Int32) (v2 : Int32) (v3 : Int32), wX6_lotsOwedBy_4 post n M tl v1 v2 v3 → T E kX6_lotsOwedBy 0 0 (WM E ad M tl) 4 [(0, .ref (ad (42))), (1, .int v1), (2, .int v2), (3, .int v3)] [] Φ := by
  intro n
  induction n with
  | zero => intro M tl v1 v2 v3 h; exact False.elim h
  | succ n ih =>
    intro M tl v1 v2 v3 h
    unfold wX6_lotsOwedBy_4 at h
    refine tj_iload_n rfl dX6_lotsOwedBy_4 rfl ?_
    refine tj_aload_n rfl dX6_lotsOwedBy_5 rfl ?_
    refine gf6_law (a := 42) rfl rfl dX6_lotsOwedBy_6 fl_X6_27 ?_
    refine gf1_lots (a := 3) rfl rfl dX6_lotsOwedBy_9 fl_X6_63 ?_
    refine tj_icmp_ge (tgt := 76) rfl rfl dX6_lotsOwedBy_12 (fun hc => ?_) (fun hc => ?_)
    · rw [if_pos hc] at h
      refine tj_iload_n rfl dX6_lotsOwedBy_76 rfl ?_
      exact tj_ireturn (ty := .int) dX6_lotsOwedBy_77 rfl rfl (Nat.zero_le _) (Nat.zero_le _) (hp _ _ _ h)
    · rw [if_neg hc] at h
      refine tj_aload_n rfl dX6_lotsOwedBy_15 rfl ?_
      refine gf6_law (a := 42) rfl rfl dX6_lotsOwedBy_16 fl_X6_27 ?_
      refine tj_iconst (v := 0) rfl dX6_lotsOwedBy_19 (by decide) ?_
      refine tj_iload_n rfl dX6_lotsOwedBy_20 rfl ?_
      refine cf_V1 (a := 3) (z := kX1_matchOf) (As := [_, _]) rfl rfl dX6_lotsOwedBy_21 rfl ml_X6_80 okX1_matchOf rfl (rm_ok rfl) (Nat.le_of_ble_eq_true rfl) (Nat.le_of_ble_eq_true rfl) rfl rfl ?_
      refine ctX1_matchOf h (fun r3 M1 t2 h => ?_)
      refine tj_istore (l' := [(0, _), (1, _), (2, _), (3, _), (4, _)]) rfl dX6_lotsOwedBy_24 (by decide) rfl ?_
      refine tj_iload rfl dX6_lotsOwedBy_26 rfl ?_
      refine tj_bipush (v := -4) rfl dX6_lotsOwedBy_28 (by decide) ?_
      refine tj_icmp_eq (tgt := 70) rfl rfl dX6_lotsOwedBy_30 (fun hc => ?_) (fun hc => ?_)
      · rw [if_pos hc] at h
        exact tj_pick (l' := [(0, _), (1, _), (2, _), (3, _)]) [0, 1, 2, 3] rfl (bX6_lotsOwedBy_70 hp ih h)
      · rw [if_neg hc] at h
        refine tj_aload_n rfl dX6_lotsOwedBy_33 rfl ?_
        refine gf6_latest (a := 42) rfl rfl dX6_lotsOwedBy_34 fl_X6_21 ?_
        refine tj_iload_n rfl dX6_lotsOwedBy_37 rfl ?_
        obtain ⟨hi4, h⟩ := h
        refine af_iald (a := 46) rfl rfl dX6_lotsOwedBy_38 hi4 ?_
        refine tj_iconst (v := 1) rfl dX6_lotsOwedBy_39 (by decide) ?_
        refine tj_iload_n rfl dX6_lotsOwedBy_40 rfl ?_
        refine tj_isub rfl dX6_lotsOwedBy_41 ?_
        refine tj_icmp_ne (tgt := 70) rfl rfl dX6_lotsOwedBy_42 (fun hc => ?_) (fun hc => ?_)
        · rw [if_neg hc] at h
          exact tj_pick (l' := [(0, _), (1, _), (2, _), (3, _)]) [0, 1, 2, 3] rfl (bX6_lotsOwedBy_70 hp ih h)
        · rw [if_pos hc] at h
          refine tj_aload_n rfl dX6_lotsOwedBy_45 rfl ?_
          refine tj_iload_n rfl dX6_lotsOwedBy_46 rfl ?_
          refine tj_iload rfl dX6_lotsOwedBy_47 rfl ?_
          refine cf_V6 (a := 42) (z := kX6_isEvenPair) (As := [_, _]) rfl rfl dX6_lotsOwedBy_49 rfl ml_X6_96 okX6_isEvenPair rfl (rm_ok rfl) (Nat.le_of_ble_eq_true rfl) (Nat.le_of_ble_eq_true rfl) rfl rfl ?_
          refine ctX6_isEvenPair h (fun r7 M5 t6 h => ?_)
          refine tj_if_ne (tgt := 70) rfl rfl dX6_lotsOwedBy_52 (fun hc => ?_) (fun hc => ?_)
          · rw [if_neg hc] at h
            exact tj_pick (l' := [(0, _), (1, _), (2, _), (3, _)]) [0, 1, 2, 3] rfl (bX6_lotsOwedBy_70 hp ih h)
          · rw [if_pos hc] at h
            refine tj_iload_n rfl dX6_lotsOwedBy_55 rfl ?_
            refine tj_iconst (v := 1) rfl dX6_lotsOwedBy_56 (by decide) ?_
            refine tj_iload_n rfl dX6_lotsOwedBy_57 rfl ?_
            refine tj_if_ne (tgt := 65) rfl rfl dX6_lotsOwedBy_58 (fun hc => ?_) (fun hc => ?_)
            · rw [if_neg hc] at h
              refine tj_iload rfl dX6_lotsOwedBy_65 rfl ?_
              exact tj_pick (l' := [(0, _), (1, _), (3, _)]) [0, 1, 3] rfl (bX6_lotsOwedBy_67 hp ih h)
            · rw [if_pos hc] at h
              refine tj_iload_n rfl dX6_lotsOwedBy_61 rfl ?_
              refine tj_goto (tgt := 67) rfl dX6_lotsOwedBy_62 ?_
              exact tj_pick (l' := [(0, _), (1, _), (3, _)]) [0, 1, 3] rfl (bX6_lotsOwedBy_67 hp ih h)
def wpX6_lotsOwedBy (post : Int32 → MM → Int64 → Prop) (M : MM) (tl : Int64) (v1 : Int32) : Prop :=
  (∃ n9, wX6_lotsOwedBy_4 post  n9 M tl v1 0 0)
set_option maxHeartbeats 4000000 in
set_option maxRecDepth 20000 in
theorem ctX6_lotsOwedBy {E : EV} {ad : Nat → Nat} {M : MM} {tl : Int64} {Φ : Option Value → va_W → Prop} {post : Int32 → MM → Int64 → Prop} {v1 : Int32} (h : wpX6_lotsOwedBy post M tl v1) (hp : ∀ r M tl, post r M tl → Φ (some (.int r)) (WM E ad M tl)) : Tm E kX6_lotsOwedBy (WM E ad M tl) [.ref (ad (42)), .int v1] Φ := by
  unfold wpX6_lotsOwedBy at h
  show T E kX6_lotsOwedBy 0 0 (WM E ad M tl) 0 [(0, .ref (ad (42))), (1, .int v1)] [] Φ
  refine tj_iconst (v := 0) rfl dX6_lotsOwedBy_0 (by decide) ?_
  refine tj_istore_n (l' := [(0, _), (1, _), (2, _)]) rfl dX6_lotsOwedBy_1 (by decide) rfl ?_
  refine tj_iconst (v := 0) rfl dX6_lotsOwedBy_2 (by decide) ?_
  refine tj_istore_n (l' := [(0, _), (1, _), (2, _), (3, _)]) rfl dX6_lotsOwedBy_3 (by decide) rfl ?_
  obtain ⟨n9, h⟩ := h
  exact bX6_lotsOwedBy_4 hp  n9 _ _ _ _ _ h
def wX6_worksDone_39 (post : Int32 → MM → Int64 → Prop) (bk4 : MM → Int64 → Int32 → Int32 → Prop) (M : MM) (tl : Int64) (v2 : Int32) (s0 : Int32) (s1 : Int32) : Prop :=
  bk4 M tl (s0 + s1) (v2 + 1)
set_option maxHeartbeats 4000000 in
set_option maxRecDepth 20000 in
theorem bX6_worksDone_39 {E : EV} {ad : Nat → Nat} {M : MM} {tl : Int64} {Φ : Option Value → va_W → Prop} {post : Int32 → MM → Int64 → Prop} {bk4 : MM → Int64 → Int32 → Int32 → Prop} {v2 : Int32} {s0 : Int32} {s1 : Int32} (hp : ∀ r M tl, post r M tl → Φ (some (.int r)) (WM E ad M tl)) (hb4 : ∀ (M : MM) (tl : Int64) (v1 : Int32) (v2 : Int32), bk4 M tl v1 v2 → T E kX6_worksDone 0 0 (WM E ad M tl) 4 [(0, .ref (ad (42))), (1, .int v1), (2, .int v2)] [] Φ) (h : wX6_worksDone_39 post bk4 M tl v2 s0 s1) : T E kX6_worksDone 0 0 (WM E ad M tl) 39 [(0, .ref (ad (42))), (2, .int v2)] [.int s1, .int s0] Φ := by
  unfold wX6_worksDone_39 at h
  refine tj_iadd rfl dX6_worksDone_39 ?_
  refine tj_istore_n (l' := [(0, _), (1, _), (2, _)]) rfl dX6_worksDone_40 (by decide) rfl ?_
  refine tj_iinc (v := _ + 1) (l' := [(0, _), (1, _), (2, _)]) rfl dX6_worksDone_41 rfl (by decide) rfl rfl ?_
  refine tj_goto (tgt := 4) rfl dX6_worksDone_44 ?_
  exact hb4 _ _ _ _ h
def wX6_worksDone_4 (post : Int32 → MM → Int64 → Prop) : Nat → MM → Int64 → Int32 → Int32 → Prop
  | 0, _, _, _, _ => False
  | n + 1, M, tl, v1, v2 =>
    (if (M 16 3) ≤ v2 then post v1 M tl else (if 12 ≤ v2 then post v1 M tl else (vp_in v2 (al 45) ∧ (if (M 45 (v2 : Int32).toNatClampNeg) = 0 then wX6_worksDone_39 post (wX6_worksDone_4 post n) M tl v2 v1 1 else wX6_worksDone_39 post (wX6_worksDone_4 post n) M tl v2 v1 0))))
set_option maxHeartbeats 4000000 in
set_option maxRecDepth 20000 in
theorem bX6_worksDone_4 {E : EV} {ad : Nat → Nat} {Φ : Option Value → va_W → Prop} {post : Int32 → MM → Int64 → Prop}  (hp : ∀ r M tl, post r M tl → Φ (some (.int r)) (WM E ad M tl)) : ∀ (n : Nat) (M : MM) (tl : Int64) (v1 : Int32) (v2 : Int32), wX6_worksDone_4 post n M tl v1 v2 → T E kX6_worksDone 0 0 (WM E ad M tl) 4 [(0, .ref (ad (42))), (1, .int v1), (2, .int v2)] [] Φ := by
  intro n
  induction n with
  | zero => intro M tl v1 v2 h; exact False.elim h
  | succ n ih =>
    intro M tl v1 v2 h
    unfold wX6_worksDone_4 at h
    refine tj_iload_n rfl dX6_worksDone_4 rfl ?_
    refine tj_aload_n rfl dX6_worksDone_5 rfl ?_
    refine gf6_scene (a := 42) rfl rfl dX6_worksDone_6 fl_X6_31 ?_
    refine gf7_works (a := 14) rfl rfl dX6_worksDone_9 fl_X6_45 ?_
    refine gf5_size (a := 16) rfl rfl dX6_worksDone_12 fl_X6_49 ?_
    refine tj_icmp_ge (tgt := 47) rfl rfl dX6_worksDone_15 (fun hc => ?_) (fun hc => ?_)
    · rw [if_pos hc] at h
      refine tj_iload_n rfl dX6_worksDone_47 rfl ?_
      exact tj_ireturn (ty := .int) dX6_worksDone_48 rfl rfl (Nat.zero_le _) (Nat.zero_le _) (hp _ _ _ h)
    · rw [if_neg hc] at h
      refine tj_iload_n rfl dX6_worksDone_18 rfl ?_
      refine tj_bipush (v := 12) rfl dX6_worksDone_19 (by decide) ?_
      refine tj_icmp_ge (tgt := 47) rfl rfl dX6_worksDone_21 (fun hc => ?_) (fun hc => ?_)
      · rw [if_pos hc] at h
        refine tj_iload_n rfl dX6_worksDone_47 rfl ?_
        exact tj_ireturn (ty := .int) dX6_worksDone_48 rfl rfl (Nat.zero_le _) (Nat.zero_le _) (hp _ _ _ h)
      · rw [if_neg hc] at h
        refine tj_iload_n rfl dX6_worksDone_24 rfl ?_
        refine tj_aload_n rfl dX6_worksDone_25 rfl ?_
        refine gf6_fates (a := 42) rfl rfl dX6_worksDone_26 fl_X6_18 ?_
        refine tj_iload_n rfl dX6_worksDone_29 rfl ?_
        obtain ⟨hi1, h⟩ := h
        refine af_iald (a := 45) rfl rfl dX6_worksDone_30 hi1 ?_
        refine tj_if_ne (tgt := 38) rfl rfl dX6_worksDone_31 (fun hc => ?_) (fun hc => ?_)
        · rw [if_neg hc] at h
          refine tj_iconst (v := 0) rfl dX6_worksDone_38 (by decide) ?_
          exact tj_pick (l' := [(0, _), (2, _)]) [0, 2] rfl (bX6_worksDone_39 hp ih h)
        · rw [if_pos hc] at h
          refine tj_iconst (v := 1) rfl dX6_worksDone_34 (by decide) ?_
          refine tj_goto (tgt := 39) rfl dX6_worksDone_35 ?_
          exact tj_pick (l' := [(0, _), (2, _)]) [0, 2] rfl (bX6_worksDone_39 hp ih h)
def wpX6_worksDone (post : Int32 → MM → Int64 → Prop) (M : MM) (tl : Int64) : Prop :=
  (∃ n9, wX6_worksDone_4 post  n9 M tl 0 0)
set_option maxHeartbeats 4000000 in
set_option maxRecDepth 20000 in
theorem ctX6_worksDone {E : EV} {ad : Nat → Nat} {M : MM} {tl : Int64} {Φ : Option Value → va_W → Prop} {post : Int32 → MM → Int64 → Prop} (h : wpX6_worksDone post M tl ) (hp : ∀ r M tl, post r M tl → Φ (some (.int r)) (WM E ad M tl)) : Tm E kX6_worksDone (WM E ad M tl) [.ref (ad (42))] Φ := by
  unfold wpX6_worksDone at h
  show T E kX6_worksDone 0 0 (WM E ad M tl) 0 [(0, .ref (ad (42)))] [] Φ
  refine tj_iconst (v := 0) rfl dX6_worksDone_0 (by decide) ?_
  refine tj_istore_n (l' := [(0, _), (1, _)]) rfl dX6_worksDone_1 (by decide) rfl ?_
  refine tj_iconst (v := 0) rfl dX6_worksDone_2 (by decide) ?_
  refine tj_istore_n (l' := [(0, _), (1, _), (2, _)]) rfl dX6_worksDone_3 (by decide) rfl ?_
  obtain ⟨n9, h⟩ := h
  exact bX6_worksDone_4 hp  n9 _ _ _ _ h
def wpX0_gainOf (post : Int32 → MM → Int64 → Prop) (M : MM) (tl : Int64) (v1 : Int32) (v2 : Int32) (v3 : Int32) : Prop :=
  wpX1_tasteOf (fun r3 M1 t2 => wpX1_costOf (fun r6 M4 t5 => wpX7_kindAt (fun r9 M7 t8 => wpX1_tasteOf (fun r12 M10 t11 => post ((r3 - r6) - r12) M10 t11) M7 t8 3 v1 r9) M4 t5 14 v1 v2) M1 t2 3 v1 v3) M tl 3 v1 v3
set_option maxHeartbeats 4000000 in
set_option maxRecDepth 20000 in
theorem ctX0_gainOf {E : EV} {ad : Nat → Nat} {M : MM} {tl : Int64} {Φ : Option Value → va_W → Prop} {post : Int32 → MM → Int64 → Prop} {v1 : Int32} {v2 : Int32} {v3 : Int32} (h : wpX0_gainOf post M tl v1 v2 v3) (hp : ∀ r M tl, post r M tl → Φ (some (.int r)) (WM E ad M tl)) : Tm E kX0_gainOf (WM E ad M tl) [.ref (ad (48)), .int v1, .int v2, .int v3] Φ := by
  unfold wpX0_gainOf at h
  show T E kX0_gainOf 0 0 (WM E ad M tl) 0 [(0, .ref (ad (48))), (1, .int v1), (2, .int v2), (3, .int v3)] [] Φ
  refine tj_aload_n rfl dX0_gainOf_0 rfl ?_
  refine gf0_law (a := 48) rfl rfl dX0_gainOf_1 fl_X0_9 ?_
  refine tj_iload_n rfl dX0_gainOf_4 rfl ?_
  refine tj_iload_n rfl dX0_gainOf_5 rfl ?_
  refine cf_V1 (a := 3) (z := kX1_tasteOf) (As := [_, _]) rfl rfl dX0_gainOf_6 rfl ml_X0_19 okX1_tasteOf rfl (rm_ok rfl) (Nat.le_of_ble_eq_true rfl) (Nat.le_of_ble_eq_true rfl) rfl rfl ?_
  refine ctX1_tasteOf h (fun r3 M1 t2 h => ?_)
  refine tj_aload_n rfl dX0_gainOf_9 rfl ?_
  refine gf0_law (a := 48) rfl rfl dX0_gainOf_10 fl_X0_9 ?_
  refine tj_iload_n rfl dX0_gainOf_13 rfl ?_
  refine tj_iload_n rfl dX0_gainOf_14 rfl ?_
  refine cf_V1 (a := 3) (z := kX1_costOf) (As := [_, _]) rfl rfl dX0_gainOf_15 rfl ml_X0_25 okX1_costOf rfl (rm_ok rfl) (Nat.le_of_ble_eq_true rfl) (Nat.le_of_ble_eq_true rfl) rfl rfl ?_
  refine ctX1_costOf h (fun r6 M4 t5 h => ?_)
  refine tj_isub rfl dX0_gainOf_18 ?_
  refine tj_aload_n rfl dX0_gainOf_19 rfl ?_
  refine gf0_law (a := 48) rfl rfl dX0_gainOf_20 fl_X0_9 ?_
  refine tj_iload_n rfl dX0_gainOf_23 rfl ?_
  refine tj_aload_n rfl dX0_gainOf_24 rfl ?_
  refine gf0_scene (a := 48) rfl rfl dX0_gainOf_25 fl_X0_15 ?_
  refine tj_iload_n rfl dX0_gainOf_28 rfl ?_
  refine tj_iload_n rfl dX0_gainOf_29 rfl ?_
  refine cf_V7 (a := 14) (z := kX7_kindAt) (As := [_, _]) rfl rfl dX0_gainOf_30 rfl ml_X0_28 okX7_kindAt rfl (rm_ok rfl) (Nat.le_of_ble_eq_true rfl) (Nat.le_of_ble_eq_true rfl) rfl rfl ?_
  refine ctX7_kindAt h (fun r9 M7 t8 h => ?_)
  refine cf_V1 (a := 3) (z := kX1_tasteOf) (As := [_, _]) rfl rfl dX0_gainOf_33 rfl ml_X0_19 okX1_tasteOf rfl (rm_ok rfl) (Nat.le_of_ble_eq_true rfl) (Nat.le_of_ble_eq_true rfl) rfl rfl ?_
  refine ctX1_tasteOf h (fun r12 M10 t11 h => ?_)
  refine tj_isub rfl dX0_gainOf_36 ?_
  exact tj_ireturn (ty := .int) dX0_gainOf_37 rfl rfl (Nat.zero_le _) (Nat.zero_le _) (hp _ _ _ h)
def wX0_bestKind_53 (post : Int32 → MM → Int64 → Prop) (bk8 : MM → Int64 → Int32 → Int32 → Int32 → Int32 → Int32 → Prop) (M : MM) (tl : Int64) (v1 : Int32) (v2 : Int32) (v3 : Int32) (v4 : Int32) (v5 : Int32) : Prop :=
  bk8 M tl v1 v2 v3 v4 (v5 + 1)
set_option maxHeartbeats 4000000 in
set_option maxRecDepth 20000 in
theorem bX0_bestKind_53 {E : EV} {ad : Nat → Nat} {M : MM} {tl : Int64} {Φ : Option Value → va_W → Prop} {post : Int32 → MM → Int64 → Prop} {bk8 : MM → Int64 → Int32 → Int32 → Int32 → Int32 → Int32 → Prop} {v1 : Int32} {v2 : Int32} {v3 : Int32} {v4 : Int32} {v5 : Int32} (hp : ∀ r M tl, post r M tl → Φ (some (.int r)) (WM E ad M tl)) (hb8 : ∀ (M : MM) (tl : Int64) (v1 : Int32) (v2 : Int32) (v3 : Int32) (v4 : Int32) (v5 : Int32), bk8 M tl v1 v2 v3 v4 v5 → T E kX0_bestKind 0 0 (WM E ad M tl) 8 [(0, .ref (ad (48))), (1, .int v1), (2, .int v2), (3, .int v3), (4, .int v4), (5, .int v5)] [] Φ) (h : wX0_bestKind_53 post bk8 M tl v1 v2 v3 v4 v5) : T E kX0_bestKind 0 0 (WM E ad M tl) 53 [(0, .ref (ad (48))), (1, .int v1), (2, .int v2), (3, .int v3), (4, .int v4), (5, .int v5)] [] Φ := by
  unfold wX0_bestKind_53 at h
  refine tj_iinc (v := _ + 1) (l' := [(0, _), (1, _), (2, _), (3, _), (4, _), (5, _)]) rfl dX0_bestKind_53 rfl (by decide) rfl rfl ?_
  refine tj_goto (tgt := 8) rfl dX0_bestKind_56 ?_
  exact hb8 _ _ _ _ _ _ _ h
def wX0_bestKind_8 (post : Int32 → MM → Int64 → Prop) : Nat → MM → Int64 → Int32 → Int32 → Int32 → Int32 → Int32 → Prop
  | 0, _, _, _, _, _, _, _ => False
  | n + 1, M, tl, v1, v2, v3, v4, v5 =>
    (if 6 ≤ v5 then post v3 M tl else wpX0_gainOf (fun r3 M1 t2 => (if r3 ≤ v4 then wX0_bestKind_53 post (wX0_bestKind_8 post n) M1 t2 v1 v2 v3 v4 v5 else wpX1_mayBuild (fun r6 M4 t5 => (if r6 = 0 then wX0_bestKind_53 post (wX0_bestKind_8 post n) M4 t5 v1 v2 v3 v4 v5 else wX0_bestKind_53 post (wX0_bestKind_8 post n) M4 t5 v1 v2 v5 r3 v5)) M1 t2 3 v1 v2 v5)) M tl v1 v2 v5)
set_option maxHeartbeats 4000000 in
set_option maxRecDepth 20000 in
theorem bX0_bestKind_8 {E : EV} {ad : Nat → Nat} {Φ : Option Value → va_W → Prop} {post : Int32 → MM → Int64 → Prop}  (hp : ∀ r M tl, post r M tl → Φ (some (.int r)) (WM E ad M tl)) : ∀ (n : Nat) (M : MM) (tl : Int64) (v1 : Int32) (v2 : Int32) (v3 : Int32) (v4 : Int32) (v5 : Int32), wX0_bestKind_8 post n M tl v1 v2 v3 v4 v5 → T E kX0_bestKind 0 0 (WM E ad M tl) 8 [(0, .ref (ad (48))), (1, .int v1), (2, .int v2), (3, .int v3), (4, .int v4), (5, .int v5)] [] Φ := by
  intro n
  induction n with
  | zero => intro M tl v1 v2 v3 v4 v5 h; exact False.elim h
  | succ n ih =>
    intro M tl v1 v2 v3 v4 v5 h
    unfold wX0_bestKind_8 at h
    refine tj_iload rfl dX0_bestKind_8 rfl ?_
    refine tj_bipush (v := 6) rfl dX0_bestKind_10 (by decide) ?_
    refine tj_icmp_ge (tgt := 59) rfl rfl dX0_bestKind_12 (fun hc => ?_) (fun hc => ?_)
    · rw [if_pos hc] at h
      refine tj_iload_n rfl dX0_bestKind_59 rfl ?_
      exact tj_ireturn (ty := .int) dX0_bestKind_60 rfl rfl (Nat.zero_le _) (Nat.zero_le _) (hp _ _ _ h)
    · rw [if_neg hc] at h
      refine tj_aload_n rfl dX0_bestKind_15 rfl ?_
      refine tj_iload_n rfl dX0_bestKind_16 rfl ?_
      refine tj_iload_n rfl dX0_bestKind_17 rfl ?_
      refine tj_iload rfl dX0_bestKind_18 rfl ?_
      refine cf_V0 (a := 48) (z := kX0_gainOf) (As := [_, _, _]) rfl rfl dX0_bestKind_20 rfl ml_X0_33 okX0_gainOf rfl (rm_ok rfl) (Nat.le_of_ble_eq_true rfl) (Nat.le_of_ble_eq_true rfl) rfl rfl ?_
      refine ctX0_gainOf h (fun r3 M1 t2 h => ?_)
      refine tj_istore (l' := [(0, _), (1, _), (2, _), (3, _), (4, _), (5, _), (6, _)]) rfl dX0_bestKind_23 (by decide) rfl ?_
      refine tj_iload rfl dX0_bestKind_25 rfl ?_
      refine tj_iload rfl dX0_bestKind_27 rfl ?_
      refine tj_icmp_le (tgt := 53) rfl rfl dX0_bestKind_29 (fun hc => ?_) (fun hc => ?_)
      · rw [if_pos hc] at h
        exact tj_pick (l' := [(0, _), (1, _), (2, _), (3, _), (4, _), (5, _)]) [0, 1, 2, 3, 4, 5] rfl (bX0_bestKind_53 hp ih h)
      · rw [if_neg hc] at h
        refine tj_aload_n rfl dX0_bestKind_32 rfl ?_
        refine gf0_law (a := 48) rfl rfl dX0_bestKind_33 fl_X0_9 ?_
        refine tj_iload_n rfl dX0_bestKind_36 rfl ?_
        refine tj_iload_n rfl dX0_bestKind_37 rfl ?_
        refine tj_iload rfl dX0_bestKind_38 rfl ?_
        refine cf_V1 (a := 3) (z := kX1_mayBuild) (As := [_, _, _]) rfl rfl dX0_bestKind_40 rfl ml_X0_37 okX1_mayBuild rfl (rm_ok rfl) (Nat.le_of_ble_eq_true rfl) (Nat.le_of_ble_eq_true rfl) rfl rfl ?_
        refine ctX1_mayBuild h (fun r6 M4 t5 h => ?_)
        refine tj_if_eq (tgt := 53) rfl rfl dX0_bestKind_43 (fun hc => ?_) (fun hc => ?_)
        · rw [if_pos hc] at h
          exact tj_pick (l' := [(0, _), (1, _), (2, _), (3, _), (4, _), (5, _)]) [0, 1, 2, 3, 4, 5] rfl (bX0_bestKind_53 hp ih h)
        · rw [if_neg hc] at h
          refine tj_iload rfl dX0_bestKind_46 rfl ?_
          refine tj_istore (l' := [(0, _), (1, _), (2, _), (3, _), (4, _), (5, _), (6, _)]) rfl dX0_bestKind_48 (by decide) rfl ?_
          refine tj_iload rfl dX0_bestKind_50 rfl ?_
          refine tj_istore_n (l' := [(0, _), (1, _), (2, _), (3, _), (4, _), (5, _), (6, _)]) rfl dX0_bestKind_52 (by decide) rfl ?_
          exact tj_pick (l' := [(0, _), (1, _), (2, _), (3, _), (4, _), (5, _)]) [0, 1, 2, 3, 4, 5] rfl (bX0_bestKind_53 hp ih h)
def wpX0_bestKind (post : Int32 → MM → Int64 → Prop) (M : MM) (tl : Int64) (v1 : Int32) (v2 : Int32) : Prop :=
  (∃ n9, wX0_bestKind_8 post  n9 M tl v1 v2 0 0 1)
set_option maxHeartbeats 4000000 in
set_option maxRecDepth 20000 in
theorem ctX0_bestKind {E : EV} {ad : Nat → Nat} {M : MM} {tl : Int64} {Φ : Option Value → va_W → Prop} {post : Int32 → MM → Int64 → Prop} {v1 : Int32} {v2 : Int32} (h : wpX0_bestKind post M tl v1 v2) (hp : ∀ r M tl, post r M tl → Φ (some (.int r)) (WM E ad M tl)) : Tm E kX0_bestKind (WM E ad M tl) [.ref (ad (48)), .int v1, .int v2] Φ := by
  unfold wpX0_bestKind at h
  show T E kX0_bestKind 0 0 (WM E ad M tl) 0 [(0, .ref (ad (48))), (1, .int v1), (2, .int v2)] [] Φ
  refine tj_iconst (v := 0) rfl dX0_bestKind_0 (by decide) ?_
  refine tj_istore_n (l' := [(0, _), (1, _), (2, _), (3, _)]) rfl dX0_bestKind_1 (by decide) rfl ?_
  refine tj_iconst (v := 0) rfl dX0_bestKind_2 (by decide) ?_
  refine tj_istore (l' := [(0, _), (1, _), (2, _), (3, _), (4, _)]) rfl dX0_bestKind_3 (by decide) rfl ?_
  refine tj_iconst (v := 1) rfl dX0_bestKind_5 (by decide) ?_
  refine tj_istore (l' := [(0, _), (1, _), (2, _), (3, _), (4, _), (5, _)]) rfl dX0_bestKind_6 (by decide) rfl ?_
  obtain ⟨n9, h⟩ := h
  exact bX0_bestKind_8 hp  n9 _ _ _ _ _ _ _ h
def wX0_weighVex_125 (post : MM → Int64 → Prop) (M : MM) (tl : Int64) (v2 : Int32) (v4 : Int32) (v7 : Int32) : Prop :=
  (∀ M1 : MM, M1 = mset M 48 0 v7 → (∀ M2 : MM, M2 = mset M1 48 1 v2 → (∀ M3 : MM, M3 = mset M2 48 2 v4 → post M3 tl)))
set_option maxHeartbeats 4000000 in
set_option maxRecDepth 20000 in
theorem bX0_weighVex_125 {E : EV} {ad : Nat → Nat} {M : MM} {tl : Int64} {Φ : Option Value → va_W → Prop} {post : MM → Int64 → Prop} {v2 : Int32} {v4 : Int32} {v7 : Int32} (hp : ∀ M tl, post M tl → Φ none (WM E ad M tl)) (h : wX0_weighVex_125 post M tl v2 v4 v7) : T E kX0_weighVex 0 0 (WM E ad M tl) 125 [(0, .ref (ad (48))), (2, .int v2), (4, .int v4), (7, .int v7)] [] Φ := by
  unfold wX0_weighVex_125 at h
  refine tj_aload_n rfl dX0_weighVex_125 rfl ?_
  refine tj_iload rfl dX0_weighVex_126 rfl ?_
  refine pf0_vexMost (a := 48) rfl rfl dX0_weighVex_128 fl_X0_41 ?_
  replace h := h _ rfl
  generalize mset M 48 0 v7 = M1 at h ⊢
  refine tj_aload_n rfl dX0_weighVex_131 rfl ?_
  refine tj_iload_n rfl dX0_weighVex_132 rfl ?_
  refine pf0_vexLot (a := 48) rfl rfl dX0_weighVex_133 fl_X0_45 ?_
  replace h := h _ rfl
  generalize mset M1 48 1 v2 = M2 at h ⊢
  refine tj_aload_n rfl dX0_weighVex_136 rfl ?_
  refine tj_iload rfl dX0_weighVex_137 rfl ?_
  refine pf0_vexKind (a := 48) rfl rfl dX0_weighVex_139 fl_X0_48 ?_
  replace h := h _ rfl
  generalize mset M2 48 2 v4 = M3 at h ⊢
  exact tj_return dX0_weighVex_142 rfl (Nat.zero_le _) (Nat.zero_le _) (hp _ _ h)
def wX0_weighVex_100 (post : MM → Int64 → Prop) (M : MM) (tl : Int64) (v2 : Int32) (v4 : Int32) (v7 : Int32) (s0 : Int32) : Prop :=
  (if (M 48 1) = (-4) then wX0_weighVex_125 post  M tl v2 v4 v7 else (if (M 48 0) < v7 then wX0_weighVex_125 post  M tl v2 v4 v7 else (if s0 = 0 then post M tl else wX0_weighVex_125 post  M tl v2 v4 v7)))
set_option maxHeartbeats 4000000 in
set_option maxRecDepth 20000 in
theorem bX0_weighVex_100 {E : EV} {ad : Nat → Nat} {M : MM} {tl : Int64} {Φ : Option Value → va_W → Prop} {post : MM → Int64 → Prop} {v2 : Int32} {v4 : Int32} {v7 : Int32} {s0 : Int32} (hp : ∀ M tl, post M tl → Φ none (WM E ad M tl)) (h : wX0_weighVex_100 post M tl v2 v4 v7 s0) : T E kX0_weighVex 0 0 (WM E ad M tl) 100 [(0, .ref (ad (48))), (2, .int v2), (4, .int v4), (7, .int v7)] [.int s0] Φ := by
  unfold wX0_weighVex_100 at h
  refine tj_istore (l' := [(0, _), (2, _), (4, _), (7, _), (8, _)]) rfl dX0_weighVex_100 (by decide) rfl ?_
  refine tj_aload_n rfl dX0_weighVex_102 rfl ?_
  refine gf0_vexLot (a := 48) rfl rfl dX0_weighVex_103 fl_X0_45 ?_
  refine tj_bipush (v := -4) rfl dX0_weighVex_106 (by decide) ?_
  refine tj_icmp_eq (tgt := 125) rfl rfl dX0_weighVex_108 (fun hc => ?_) (fun hc => ?_)
  · rw [if_pos hc] at h
    exact tj_pick (l' := [(0, _), (2, _), (4, _), (7, _)]) [0, 1, 2, 3] rfl (bX0_weighVex_125 hp  h)
  · rw [if_neg hc] at h
    refine tj_iload rfl dX0_weighVex_111 rfl ?_
    refine tj_aload_n rfl dX0_weighVex_113 rfl ?_
    refine gf0_vexMost (a := 48) rfl rfl dX0_weighVex_114 fl_X0_41 ?_
    refine tj_icmp_gt (tgt := 125) rfl rfl dX0_weighVex_117 (fun hc => ?_) (fun hc => ?_)
    · rw [if_pos hc] at h
      exact tj_pick (l' := [(0, _), (2, _), (4, _), (7, _)]) [0, 1, 2, 3] rfl (bX0_weighVex_125 hp  h)
    · rw [if_neg hc] at h
      refine tj_iload rfl dX0_weighVex_120 rfl ?_
      refine tj_if_eq (tgt := 142) rfl rfl dX0_weighVex_122 (fun hc => ?_) (fun hc => ?_)
      · rw [if_pos hc] at h
        exact tj_return dX0_weighVex_142 rfl (Nat.zero_le _) (Nat.zero_le _) (hp _ _ h)
      · rw [if_neg hc] at h
        exact tj_pick (l' := [(0, _), (2, _), (4, _), (7, _)]) [0, 1, 2, 3] rfl (bX0_weighVex_125 hp  h)
def wX0_weighVex_99 (post : MM → Int64 → Prop) (M : MM) (tl : Int64) (v2 : Int32) (v4 : Int32) (v7 : Int32) : Prop :=
  wX0_weighVex_100 post  M tl v2 v4 v7 0
set_option maxHeartbeats 4000000 in
set_option maxRecDepth 20000 in
theorem bX0_weighVex_99 {E : EV} {ad : Nat → Nat} {M : MM} {tl : Int64} {Φ : Option Value → va_W → Prop} {post : MM → Int64 → Prop} {v2 : Int32} {v4 : Int32} {v7 : Int32} (hp : ∀ M tl, post M tl → Φ none (WM E ad M tl)) (h : wX0_weighVex_99 post M tl v2 v4 v7) : T E kX0_weighVex 0 0 (WM E ad M tl) 99 [(0, .ref (ad (48))), (2, .int v2), (4, .int v4), (7, .int v7)] [] Φ := by
  unfold wX0_weighVex_99 at h
  refine tj_iconst (v := 0) rfl dX0_weighVex_99 (by decide) ?_
  exact bX0_weighVex_100 hp  h
def wpX0_weighVex (post : MM → Int64 → Prop) (M : MM) (tl : Int64) (v1 : Int32) (v2 : Int32) (v3 : Int32) (v4 : Int32) : Prop :=
  wpX1_twinOf (fun r3 M1 t2 => wpX1_costOf (fun r6 M4 t5 => wpX7_kindAt (fun r9 M7 t8 => wpX1_tasteOf (fun r12 M10 t11 => wpX1_tasteOf (fun r15 M13 t14 => (if ((r6 + r12) - r15) = (M13 48 0) then wpX1_costOf (fun r18 M16 t17 => wpX1_costOf (fun r21 M19 t20 => (if r21 ≤ r18 then wX0_weighVex_99 post  M19 t20 v2 v4 ((r6 + r12) - r15) else wX0_weighVex_100 post  M19 t20 v2 v4 ((r6 + r12) - r15) 1)) M16 t17 3 v1 (M16 48 2)) M13 t14 3 v1 v4 else wX0_weighVex_99 post  M13 t14 v2 v4 ((r6 + r12) - r15))) M10 t11 3 ((1 : Int32) - v1) r3) M7 t8 3 ((1 : Int32) - v1) r9) M4 t5 14 ((1 : Int32) - v1) v3) M1 t2 3 ((1 : Int32) - v1) r3) M tl 3 v4
set_option maxHeartbeats 4000000 in
set_option maxRecDepth 20000 in
theorem ctX0_weighVex {E : EV} {ad : Nat → Nat} {M : MM} {tl : Int64} {Φ : Option Value → va_W → Prop} {post : MM → Int64 → Prop} {v1 : Int32} {v2 : Int32} {v3 : Int32} {v4 : Int32} (h : wpX0_weighVex post M tl v1 v2 v3 v4) (hp : ∀ M tl, post M tl → Φ none (WM E ad M tl)) : Tm E kX0_weighVex (WM E ad M tl) [.ref (ad (48)), .int v1, .int v2, .int v3, .int v4] Φ := by
  unfold wpX0_weighVex at h
  show T E kX0_weighVex 0 0 (WM E ad M tl) 0 [(0, .ref (ad (48))), (1, .int v1), (2, .int v2), (3, .int v3), (4, .int v4)] [] Φ
  refine tj_iconst (v := 1) rfl dX0_weighVex_0 (by decide) ?_
  refine tj_iload_n rfl dX0_weighVex_1 rfl ?_
  refine tj_isub rfl dX0_weighVex_2 ?_
  refine tj_istore (l' := [(0, _), (1, _), (2, _), (3, _), (4, _), (5, _)]) rfl dX0_weighVex_3 (by decide) rfl ?_
  refine tj_aload_n rfl dX0_weighVex_5 rfl ?_
  refine gf0_law (a := 48) rfl rfl dX0_weighVex_6 fl_X0_9 ?_
  refine tj_iload rfl dX0_weighVex_9 rfl ?_
  refine cf_V1 (a := 3) (z := kX1_twinOf) (As := [_]) rfl rfl dX0_weighVex_11 rfl ml_X0_61 okX1_twinOf rfl (rm_ok rfl) (Nat.le_of_ble_eq_true rfl) (Nat.le_of_ble_eq_true rfl) rfl rfl ?_
  refine ctX1_twinOf h (fun r3 M1 t2 h => ?_)
  refine tj_istore (l' := [(0, _), (1, _), (2, _), (3, _), (4, _), (5, _), (6, _)]) rfl dX0_weighVex_14 (by decide) rfl ?_
  refine tj_aload_n rfl dX0_weighVex_16 rfl ?_
  refine gf0_law (a := 48) rfl rfl dX0_weighVex_17 fl_X0_9 ?_
  refine tj_iload rfl dX0_weighVex_20 rfl ?_
  refine tj_iload rfl dX0_weighVex_22 rfl ?_
  refine cf_V1 (a := 3) (z := kX1_costOf) (As := [_, _]) rfl rfl dX0_weighVex_24 rfl ml_X0_25 okX1_costOf rfl (rm_ok rfl) (Nat.le_of_ble_eq_true rfl) (Nat.le_of_ble_eq_true rfl) rfl rfl ?_
  refine ctX1_costOf h (fun r6 M4 t5 h => ?_)
  refine tj_aload_n rfl dX0_weighVex_27 rfl ?_
  refine gf0_law (a := 48) rfl rfl dX0_weighVex_28 fl_X0_9 ?_
  refine tj_iload rfl dX0_weighVex_31 rfl ?_
  refine tj_aload_n rfl dX0_weighVex_33 rfl ?_
  refine gf0_scene (a := 48) rfl rfl dX0_weighVex_34 fl_X0_15 ?_
  refine tj_iload rfl dX0_weighVex_37 rfl ?_
  refine tj_iload_n rfl dX0_weighVex_39 rfl ?_
  refine cf_V7 (a := 14) (z := kX7_kindAt) (As := [_, _]) rfl rfl dX0_weighVex_40 rfl ml_X0_28 okX7_kindAt rfl (rm_ok rfl) (Nat.le_of_ble_eq_true rfl) (Nat.le_of_ble_eq_true rfl) rfl rfl ?_
  refine ctX7_kindAt h (fun r9 M7 t8 h => ?_)
  refine cf_V1 (a := 3) (z := kX1_tasteOf) (As := [_, _]) rfl rfl dX0_weighVex_43 rfl ml_X0_19 okX1_tasteOf rfl (rm_ok rfl) (Nat.le_of_ble_eq_true rfl) (Nat.le_of_ble_eq_true rfl) rfl rfl ?_
  refine ctX1_tasteOf h (fun r12 M10 t11 h => ?_)
  refine tj_iadd rfl dX0_weighVex_46 ?_
  refine tj_aload_n rfl dX0_weighVex_47 rfl ?_
  refine gf0_law (a := 48) rfl rfl dX0_weighVex_48 fl_X0_9 ?_
  refine tj_iload rfl dX0_weighVex_51 rfl ?_
  refine tj_iload rfl dX0_weighVex_53 rfl ?_
  refine cf_V1 (a := 3) (z := kX1_tasteOf) (As := [_, _]) rfl rfl dX0_weighVex_55 rfl ml_X0_19 okX1_tasteOf rfl (rm_ok rfl) (Nat.le_of_ble_eq_true rfl) (Nat.le_of_ble_eq_true rfl) rfl rfl ?_
  refine ctX1_tasteOf h (fun r15 M13 t14 h => ?_)
  refine tj_isub rfl dX0_weighVex_58 ?_
  refine tj_istore (l' := [(0, _), (1, _), (2, _), (3, _), (4, _), (5, _), (6, _), (7, _)]) rfl dX0_weighVex_59 (by decide) rfl ?_
  refine tj_iload rfl dX0_weighVex_61 rfl ?_
  refine tj_aload_n rfl dX0_weighVex_63 rfl ?_
  refine gf0_vexMost (a := 48) rfl rfl dX0_weighVex_64 fl_X0_41 ?_
  refine tj_icmp_ne (tgt := 99) rfl rfl dX0_weighVex_67 (fun hc => ?_) (fun hc => ?_)
  · rw [if_neg hc] at h
    exact tj_pick (l' := [(0, _), (2, _), (4, _), (7, _)]) [0, 2, 4, 7] rfl (bX0_weighVex_99 hp  h)
  · rw [if_pos hc] at h
    refine tj_aload_n rfl dX0_weighVex_70 rfl ?_
    refine gf0_law (a := 48) rfl rfl dX0_weighVex_71 fl_X0_9 ?_
    refine tj_iload_n rfl dX0_weighVex_74 rfl ?_
    refine tj_iload rfl dX0_weighVex_75 rfl ?_
    refine cf_V1 (a := 3) (z := kX1_costOf) (As := [_, _]) rfl rfl dX0_weighVex_77 rfl ml_X0_25 okX1_costOf rfl (rm_ok rfl) (Nat.le_of_ble_eq_true rfl) (Nat.le_of_ble_eq_true rfl) rfl rfl ?_
    refine ctX1_costOf h (fun r18 M16 t17 h => ?_)
    refine tj_aload_n rfl dX0_weighVex_80 rfl ?_
    refine gf0_law (a := 48) rfl rfl dX0_weighVex_81 fl_X0_9 ?_
    refine tj_iload_n rfl dX0_weighVex_84 rfl ?_
    refine tj_aload_n rfl dX0_weighVex_85 rfl ?_
    refine gf0_vexKind (a := 48) rfl rfl dX0_weighVex_86 fl_X0_48 ?_
    refine cf_V1 (a := 3) (z := kX1_costOf) (As := [_, _]) rfl rfl dX0_weighVex_89 rfl ml_X0_25 okX1_costOf rfl (rm_ok rfl) (Nat.le_of_ble_eq_true rfl) (Nat.le_of_ble_eq_true rfl) rfl rfl ?_
    refine ctX1_costOf h (fun r21 M19 t20 h => ?_)
    refine tj_icmp_ge (tgt := 99) rfl rfl dX0_weighVex_92 (fun hc => ?_) (fun hc => ?_)
    · rw [if_pos hc] at h
      exact tj_pick (l' := [(0, _), (2, _), (4, _), (7, _)]) [0, 2, 4, 7] rfl (bX0_weighVex_99 hp  h)
    · rw [if_neg hc] at h
      refine tj_iconst (v := 1) rfl dX0_weighVex_95 (by decide) ?_
      refine tj_goto (tgt := 100) rfl dX0_weighVex_96 ?_
      exact tj_pick (l' := [(0, _), (2, _), (4, _), (7, _)]) [0, 2, 4, 7] rfl (bX0_weighVex_100 hp  h)
def wX0_findVex_92 (post : MM → Int64 → Prop) (bk18 : MM → Int64 → Int32 → Int32 → Prop) (bk42 : MM → Int64 → Int32 → Int32 → Int32 → Int32 → Prop) (M : MM) (tl : Int64) (v1 : Int32) (v2 : Int32) (v3 : Int32) (v4 : Int32) : Prop :=
  bk42 M tl v1 v2 v3 (v4 + 1)
set_option maxHeartbeats 4000000 in
set_option maxRecDepth 20000 in
theorem bX0_findVex_92 {E : EV} {ad : Nat → Nat} {M : MM} {tl : Int64} {Φ : Option Value → va_W → Prop} {post : MM → Int64 → Prop} {bk18 : MM → Int64 → Int32 → Int32 → Prop} {bk42 : MM → Int64 → Int32 → Int32 → Int32 → Int32 → Prop} {v1 : Int32} {v2 : Int32} {v3 : Int32} {v4 : Int32} (hp : ∀ M tl, post M tl → Φ none (WM E ad M tl)) (hb18 : ∀ (M : MM) (tl : Int64) (v1 : Int32) (v2 : Int32), bk18 M tl v1 v2 → T E kX0_findVex 0 0 (WM E ad M tl) 18 [(0, .ref (ad (48))), (1, .int v1), (2, .int v2)] [] Φ) (hb42 : ∀ (M : MM) (tl : Int64) (v1 : Int32) (v2 : Int32) (v3 : Int32) (v4 : Int32), bk42 M tl v1 v2 v3 v4 → T E kX0_findVex 0 0 (WM E ad M tl) 42 [(0, .ref (ad (48))), (1, .int v1), (2, .int v2), (3, .int v3), (4, .int v4)] [] Φ) (h : wX0_findVex_92 post bk18 bk42 M tl v1 v2 v3 v4) : T E kX0_findVex 0 0 (WM E ad M tl) 92 [(0, .ref (ad (48))), (1, .int v1), (2, .int v2), (3, .int v3), (4, .int v4)] [] Φ := by
  unfold wX0_findVex_92 at h
  refine tj_iinc (v := _ + 1) (l' := [(0, _), (1, _), (2, _), (3, _), (4, _)]) rfl dX0_findVex_92 rfl (by decide) rfl rfl ?_
  refine tj_goto (tgt := 42) rfl dX0_findVex_95 ?_
  exact hb42 _ _ _ _ _ _ h
def wX0_findVex_98 (post : MM → Int64 → Prop) (bk18 : MM → Int64 → Int32 → Int32 → Prop) (M : MM) (tl : Int64) (v1 : Int32) (v2 : Int32) : Prop :=
  bk18 M tl v1 (v2 + 1)
set_option maxHeartbeats 4000000 in
set_option maxRecDepth 20000 in
theorem bX0_findVex_98 {E : EV} {ad : Nat → Nat} {M : MM} {tl : Int64} {Φ : Option Value → va_W → Prop} {post : MM → Int64 → Prop} {bk18 : MM → Int64 → Int32 → Int32 → Prop} {v1 : Int32} {v2 : Int32} (hp : ∀ M tl, post M tl → Φ none (WM E ad M tl)) (hb18 : ∀ (M : MM) (tl : Int64) (v1 : Int32) (v2 : Int32), bk18 M tl v1 v2 → T E kX0_findVex 0 0 (WM E ad M tl) 18 [(0, .ref (ad (48))), (1, .int v1), (2, .int v2)] [] Φ) (h : wX0_findVex_98 post bk18 M tl v1 v2) : T E kX0_findVex 0 0 (WM E ad M tl) 98 [(0, .ref (ad (48))), (1, .int v1), (2, .int v2)] [] Φ := by
  unfold wX0_findVex_98 at h
  refine tj_iinc (v := _ + 1) (l' := [(0, _), (1, _), (2, _)]) rfl dX0_findVex_98 rfl (by decide) rfl rfl ?_
  refine tj_goto (tgt := 18) rfl dX0_findVex_101 ?_
  exact hb18 _ _ _ _ h
def wX0_findVex_42 (post : MM → Int64 → Prop) (bk18 : MM → Int64 → Int32 → Int32 → Prop) : Nat → MM → Int64 → Int32 → Int32 → Int32 → Int32 → Prop
  | 0, _, _, _, _, _, _ => False
  | n + 1, M, tl, v1, v2, v3, v4 =>
    (if 6 ≤ v4 then wX0_findVex_98 post bk18 M tl v1 v2 else (if v3 = (-4) then wX0_findVex_98 post bk18 M tl v1 v2 else wpX7_kindAt (fun r3 M1 t2 => (if v4 = r3 then wX0_findVex_92 post bk18 (wX0_findVex_42 post bk18 n) M1 t2 v1 v2 v3 v4 else wpX1_mayBuild (fun r6 M4 t5 => (if r6 = 0 then wX0_findVex_92 post bk18 (wX0_findVex_42 post bk18 n) M4 t5 v1 v2 v3 v4 else wpX0_weighVex (fun M7 t8 => wX0_findVex_92 post bk18 (wX0_findVex_42 post bk18 n) M7 t8 v1 v2 v3 v4) M4 t5 v1 v2 v3 v4)) M1 t2 3 v1 v2 v4)) M tl 14 v1 v2))
set_option maxHeartbeats 4000000 in
set_option maxRecDepth 20000 in
theorem bX0_findVex_42 {E : EV} {ad : Nat → Nat} {Φ : Option Value → va_W → Prop} {post : MM → Int64 → Prop} {bk18 : MM → Int64 → Int32 → Int32 → Prop}  (hp : ∀ M tl, post M tl → Φ none (WM E ad M tl)) (hb18 : ∀ (M : MM) (tl : Int64) (v1 : Int32) (v2 : Int32), bk18 M tl v1 v2 → T E kX0_findVex 0 0 (WM E ad M tl) 18 [(0, .ref (ad (48))), (1, .int v1), (2, .int v2)] [] Φ) : ∀ (n : Nat) (M : MM) (tl : Int64) (v1 : Int32) (v2 : Int32) (v3 : Int32) (v4 : Int32), wX0_findVex_42 post bk18 n M tl v1 v2 v3 v4 → T E kX0_findVex 0 0 (WM E ad M tl) 42 [(0, .ref (ad (48))), (1, .int v1), (2, .int v2), (3, .int v3), (4, .int v4)] [] Φ := by
  intro n
  induction n with
  | zero => intro M tl v1 v2 v3 v4 h; exact False.elim h
  | succ n ih =>
    intro M tl v1 v2 v3 v4 h
    unfold wX0_findVex_42 at h
    refine tj_iload rfl dX0_findVex_42 rfl ?_
    refine tj_bipush (v := 6) rfl dX0_findVex_44 (by decide) ?_
    refine tj_icmp_ge (tgt := 98) rfl rfl dX0_findVex_46 (fun hc => ?_) (fun hc => ?_)
    · rw [if_pos hc] at h
      exact tj_pick (l' := [(0, _), (1, _), (2, _)]) [0, 1, 2] rfl (bX0_findVex_98 hp hb18 h)
    · rw [if_neg hc] at h
      refine tj_iload_n rfl dX0_findVex_49 rfl ?_
      refine tj_bipush (v := -4) rfl dX0_findVex_50 (by decide) ?_
      refine tj_icmp_eq (tgt := 98) rfl rfl dX0_findVex_52 (fun hc => ?_) (fun hc => ?_)
      · rw [if_pos hc] at h
        exact tj_pick (l' := [(0, _), (1, _), (2, _)]) [0, 1, 2] rfl (bX0_findVex_98 hp hb18 h)
      · rw [if_neg hc] at h
        refine tj_iload rfl dX0_findVex_55 rfl ?_
        refine tj_aload_n rfl dX0_findVex_57 rfl ?_
        refine gf0_scene (a := 48) rfl rfl dX0_findVex_58 fl_X0_15 ?_
        refine tj_iload_n rfl dX0_findVex_61 rfl ?_
        refine tj_iload_n rfl dX0_findVex_62 rfl ?_
        refine cf_V7 (a := 14) (z := kX7_kindAt) (As := [_, _]) rfl rfl dX0_findVex_63 rfl ml_X0_28 okX7_kindAt rfl (rm_ok rfl) (Nat.le_of_ble_eq_true rfl) (Nat.le_of_ble_eq_true rfl) rfl rfl ?_
        refine ctX7_kindAt h (fun r3 M1 t2 h => ?_)
        refine tj_icmp_eq (tgt := 92) rfl rfl dX0_findVex_66 (fun hc => ?_) (fun hc => ?_)
        · rw [if_pos hc] at h
          exact bX0_findVex_92 hp hb18 ih h
        · rw [if_neg hc] at h
          refine tj_aload_n rfl dX0_findVex_69 rfl ?_
          refine gf0_law (a := 48) rfl rfl dX0_findVex_70 fl_X0_9 ?_
          refine tj_iload_n rfl dX0_findVex_73 rfl ?_
          refine tj_iload_n rfl dX0_findVex_74 rfl ?_
          refine tj_iload rfl dX0_findVex_75 rfl ?_
          refine cf_V1 (a := 3) (z := kX1_mayBuild) (As := [_, _, _]) rfl rfl dX0_findVex_77 rfl ml_X0_37 okX1_mayBuild rfl (rm_ok rfl) (Nat.le_of_ble_eq_true rfl) (Nat.le_of_ble_eq_true rfl) rfl rfl ?_
          refine ctX1_mayBuild h (fun r6 M4 t5 h => ?_)
          refine tj_if_eq (tgt := 92) rfl rfl dX0_findVex_80 (fun hc => ?_) (fun hc => ?_)
          · rw [if_pos hc] at h
            exact bX0_findVex_92 hp hb18 ih h
          · rw [if_neg hc] at h
            refine tj_aload_n rfl dX0_findVex_83 rfl ?_
            refine tj_iload_n rfl dX0_findVex_84 rfl ?_
            refine tj_iload_n rfl dX0_findVex_85 rfl ?_
            refine tj_iload_n rfl dX0_findVex_86 rfl ?_
            refine tj_iload rfl dX0_findVex_87 rfl ?_
            refine cf_V0 (a := 48) (z := kX0_weighVex) (As := [_, _, _, _]) rfl rfl dX0_findVex_89 rfl ml_X0_57 okX0_weighVex rfl (rm_ok rfl) (Nat.le_of_ble_eq_true rfl) (Nat.le_of_ble_eq_true rfl) rfl rfl ?_
            refine ctX0_weighVex h (fun M7 t8 h => ?_)
            exact bX0_findVex_92 hp hb18 ih h
def wX0_findVex_18 (post : MM → Int64 → Prop) : Nat → MM → Int64 → Int32 → Int32 → Prop
  | 0, _, _, _, _ => False
  | n + 1, M, tl, v1, v2 =>
    (if (M 3 0) ≤ v2 then post M tl else wpX1_matchOf (fun r3 M1 t2 => (∃ n9, wX0_findVex_42 post (wX0_findVex_18 post n) n9 M1 t2 v1 v2 r3 1)) M tl 3 v1 v2)
set_option maxHeartbeats 4000000 in
set_option maxRecDepth 20000 in
theorem bX0_findVex_18 {E : EV} {ad : Nat → Nat} {Φ : Option Value → va_W → Prop} {post : MM → Int64 → Prop}  (hp : ∀ M tl, post M tl → Φ none (WM E ad M tl)) : ∀ (n : Nat) (M : MM) (tl : Int64) (v1 : Int32) (v2 : Int32), wX0_findVex_18 post n M tl v1 v2 → T E kX0_findVex 0 0 (WM E ad M tl) 18 [(0, .ref (ad (48))), (1, .int v1), (2, .int v2)] [] Φ := by
  intro n
  induction n with
  | zero => intro M tl v1 v2 h; exact False.elim h
  | succ n ih =>
    intro M tl v1 v2 h
    unfold wX0_findVex_18 at h
    refine tj_iload_n rfl dX0_findVex_18 rfl ?_
    refine tj_aload_n rfl dX0_findVex_19 rfl ?_
    refine gf0_law (a := 48) rfl rfl dX0_findVex_20 fl_X0_9 ?_
    refine gf1_lots (a := 3) rfl rfl dX0_findVex_23 fl_X0_51 ?_
    refine tj_icmp_ge (tgt := 104) rfl rfl dX0_findVex_26 (fun hc => ?_) (fun hc => ?_)
    · rw [if_pos hc] at h
      exact tj_return dX0_findVex_104 rfl (Nat.zero_le _) (Nat.zero_le _) (hp _ _ h)
    · rw [if_neg hc] at h
      refine tj_aload_n rfl dX0_findVex_29 rfl ?_
      refine gf0_law (a := 48) rfl rfl dX0_findVex_30 fl_X0_9 ?_
      refine tj_iload_n rfl dX0_findVex_33 rfl ?_
      refine tj_iload_n rfl dX0_findVex_34 rfl ?_
      refine cf_V1 (a := 3) (z := kX1_matchOf) (As := [_, _]) rfl rfl dX0_findVex_35 rfl ml_X0_54 okX1_matchOf rfl (rm_ok rfl) (Nat.le_of_ble_eq_true rfl) (Nat.le_of_ble_eq_true rfl) rfl rfl ?_
      refine ctX1_matchOf h (fun r3 M1 t2 h => ?_)
      refine tj_istore_n (l' := [(0, _), (1, _), (2, _), (3, _)]) rfl dX0_findVex_38 (by decide) rfl ?_
      refine tj_iconst (v := 1) rfl dX0_findVex_39 (by decide) ?_
      refine tj_istore (l' := [(0, _), (1, _), (2, _), (3, _), (4, _)]) rfl dX0_findVex_40 (by decide) rfl ?_
      obtain ⟨n9, h⟩ := h
      exact bX0_findVex_42 hp ih n9 _ _ _ _ _ _ h
def wpX0_findVex (post : MM → Int64 → Prop) (M : MM) (tl : Int64) (v1 : Int32) : Prop :=
  (∀ M1 : MM, M1 = mset M 48 0 0 → (∀ M2 : MM, M2 = mset M1 48 1 (-4) → (∀ M3 : MM, M3 = mset M2 48 2 0 → (∃ n9, wX0_findVex_18 post  n9 M3 tl v1 0))))
set_option maxHeartbeats 4000000 in
set_option maxRecDepth 20000 in
theorem ctX0_findVex {E : EV} {ad : Nat → Nat} {M : MM} {tl : Int64} {Φ : Option Value → va_W → Prop} {post : MM → Int64 → Prop} {v1 : Int32} (h : wpX0_findVex post M tl v1) (hp : ∀ M tl, post M tl → Φ none (WM E ad M tl)) : Tm E kX0_findVex (WM E ad M tl) [.ref (ad (48)), .int v1] Φ := by
  unfold wpX0_findVex at h
  show T E kX0_findVex 0 0 (WM E ad M tl) 0 [(0, .ref (ad (48))), (1, .int v1)] [] Φ
  refine tj_aload_n rfl dX0_findVex_0 rfl ?_
  refine tj_iconst (v := 0) rfl dX0_findVex_1 (by decide) ?_
  refine pf0_vexMost (a := 48) rfl rfl dX0_findVex_2 fl_X0_41 ?_
  replace h := h _ rfl
  generalize mset M 48 0 0 = M1 at h ⊢
  refine tj_aload_n rfl dX0_findVex_5 rfl ?_
  refine tj_bipush (v := -4) rfl dX0_findVex_6 (by decide) ?_
  refine pf0_vexLot (a := 48) rfl rfl dX0_findVex_8 fl_X0_45 ?_
  replace h := h _ rfl
  generalize mset M1 48 1 (-4) = M2 at h ⊢
  refine tj_aload_n rfl dX0_findVex_11 rfl ?_
  refine tj_iconst (v := 0) rfl dX0_findVex_12 (by decide) ?_
  refine pf0_vexKind (a := 48) rfl rfl dX0_findVex_13 fl_X0_48 ?_
  replace h := h _ rfl
  generalize mset M2 48 2 0 = M3 at h ⊢
  refine tj_iconst (v := 0) rfl dX0_findVex_16 (by decide) ?_
  refine tj_istore_n (l' := [(0, _), (1, _), (2, _)]) rfl dX0_findVex_17 (by decide) rfl ?_
  obtain ⟨n9, h⟩ := h
  exact bX0_findVex_18 hp  n9 _ _ _ _ h
def wpX2_hasHistory (post : Int32 → MM → Int64 → Prop) (M : MM) (tl : Int64) (v1 : Int32) : Prop :=
  wpX1_matchOf (fun r3 M1 t2 => wpX7_thingAt (fun r6 M4 t5 => (if r3 = (-4) then post 0 M4 t5 else (if r6 = 0 then post 0 M4 t5 else wpX7_thingAt (fun r9 M7 t8 => wpX1_isEven (fun r12 M10 t11 => (if r12 = 0 then post 0 M10 t11 else post 1 M10 t11)) M7 t8 3 r6 r9) M4 t5 14 1 r3))) M1 t2 14 0 v1) M tl 3 0 v1
set_option maxHeartbeats 4000000 in
set_option maxRecDepth 20000 in
theorem ctX2_hasHistory {E : EV} {ad : Nat → Nat} {M : MM} {tl : Int64} {Φ : Option Value → va_W → Prop} {post : Int32 → MM → Int64 → Prop} {v1 : Int32} (h : wpX2_hasHistory post M tl v1) (hp : ∀ r M tl, post r M tl → Φ (some (.int r)) (WM E ad M tl)) : Tm E kX2_hasHistory (WM E ad M tl) [.ref (ad (53)), .int v1] Φ := by
  unfold wpX2_hasHistory at h
  show T E kX2_hasHistory 0 0 (WM E ad M tl) 0 [(0, .ref (ad (53))), (1, .int v1)] [] Φ
  refine tj_aload_n rfl dX2_hasHistory_0 rfl ?_
  refine gf2_law (a := 53) rfl rfl dX2_hasHistory_1 fl_X2_9 ?_
  refine tj_iconst (v := 0) rfl dX2_hasHistory_4 (by decide) ?_
  refine tj_iload_n rfl dX2_hasHistory_5 rfl ?_
  refine cf_V1 (a := 3) (z := kX1_matchOf) (As := [_, _]) rfl rfl dX2_hasHistory_6 rfl ml_X2_19 okX1_matchOf rfl (rm_ok rfl) (Nat.le_of_ble_eq_true rfl) (Nat.le_of_ble_eq_true rfl) rfl rfl ?_
  refine ctX1_matchOf h (fun r3 M1 t2 h => ?_)
  refine tj_istore_n (l' := [(0, _), (1, _), (2, _)]) rfl dX2_hasHistory_9 (by decide) rfl ?_
  refine tj_aload_n rfl dX2_hasHistory_10 rfl ?_
  refine gf2_scene (a := 53) rfl rfl dX2_hasHistory_11 fl_X2_15 ?_
  refine tj_iconst (v := 0) rfl dX2_hasHistory_14 (by decide) ?_
  refine tj_iload_n rfl dX2_hasHistory_15 rfl ?_
  refine cf_V7 (a := 14) (z := kX7_thingAt) (As := [_, _]) rfl rfl dX2_hasHistory_16 rfl ml_X2_25 okX7_thingAt rfl (rm_ok rfl) (Nat.le_of_ble_eq_true rfl) (Nat.le_of_ble_eq_true rfl) rfl rfl ?_
  refine ctX7_thingAt h (fun r6 M4 t5 h => ?_)
  refine tj_istore_n (l' := [(0, _), (1, _), (2, _), (3, _)]) rfl dX2_hasHistory_19 (by decide) rfl ?_
  refine tj_iload_n rfl dX2_hasHistory_20 rfl ?_
  refine tj_bipush (v := -4) rfl dX2_hasHistory_21 (by decide) ?_
  refine tj_icmp_eq (tgt := 54) rfl rfl dX2_hasHistory_23 (fun hc => ?_) (fun hc => ?_)
  · rw [if_pos hc] at h
    refine tj_iconst (v := 0) rfl dX2_hasHistory_54 (by decide) ?_
    exact tj_ireturn (ty := .boolean) dX2_hasHistory_55 rfl rfl (Nat.zero_le _) (Nat.zero_le _) (hp _ _ _ h)
  · rw [if_neg hc] at h
    refine tj_iload_n rfl dX2_hasHistory_26 rfl ?_
    refine tj_if_eq (tgt := 54) rfl rfl dX2_hasHistory_27 (fun hc => ?_) (fun hc => ?_)
    · rw [if_pos hc] at h
      refine tj_iconst (v := 0) rfl dX2_hasHistory_54 (by decide) ?_
      exact tj_ireturn (ty := .boolean) dX2_hasHistory_55 rfl rfl (Nat.zero_le _) (Nat.zero_le _) (hp _ _ _ h)
    · rw [if_neg hc] at h
      refine tj_aload_n rfl dX2_hasHistory_30 rfl ?_
      refine gf2_law (a := 53) rfl rfl dX2_hasHistory_31 fl_X2_9 ?_
      refine tj_iload_n rfl dX2_hasHistory_34 rfl ?_
      refine tj_aload_n rfl dX2_hasHistory_35 rfl ?_
      refine gf2_scene (a := 53) rfl rfl dX2_hasHistory_36 fl_X2_15 ?_
      refine tj_iconst (v := 1) rfl dX2_hasHistory_39 (by decide) ?_
      refine tj_iload_n rfl dX2_hasHistory_40 rfl ?_
      refine cf_V7 (a := 14) (z := kX7_thingAt) (As := [_, _]) rfl rfl dX2_hasHistory_41 rfl ml_X2_25 okX7_thingAt rfl (rm_ok rfl) (Nat.le_of_ble_eq_true rfl) (Nat.le_of_ble_eq_true rfl) rfl rfl ?_
      refine ctX7_thingAt h (fun r9 M7 t8 h => ?_)
      refine cf_V1 (a := 3) (z := kX1_isEven) (As := [_, _]) rfl rfl dX2_hasHistory_44 rfl ml_X2_30 okX1_isEven rfl (rm_ok rfl) (Nat.le_of_ble_eq_true rfl) (Nat.le_of_ble_eq_true rfl) rfl rfl ?_
      refine ctX1_isEven h (fun r12 M10 t11 h => ?_)
      refine tj_if_eq (tgt := 54) rfl rfl dX2_hasHistory_47 (fun hc => ?_) (fun hc => ?_)
      · rw [if_pos hc] at h
        refine tj_iconst (v := 0) rfl dX2_hasHistory_54 (by decide) ?_
        exact tj_ireturn (ty := .boolean) dX2_hasHistory_55 rfl rfl (Nat.zero_le _) (Nat.zero_le _) (hp _ _ _ h)
      · rw [if_neg hc] at h
        refine tj_iconst (v := 1) rfl dX2_hasHistory_50 (by decide) ?_
        refine tj_goto (tgt := 55) rfl dX2_hasHistory_51 ?_
        exact tj_ireturn (ty := .boolean) dX2_hasHistory_55 rfl rfl (Nat.zero_le _) (Nat.zero_le _) (hp _ _ _ h)
def wX2_fitsSeen_125 (post : Int32 → MM → Int64 → Prop) (bk23 : MM → Int64 → Int32 → Int32 → Int32 → Int32 → Int32 → Prop) (M : MM) (tl : Int64) (v1 : Int32) (v2 : Int32) (v3 : Int32) (v4 : Int32) (v6 : Int32) : Prop :=
  bk23 M tl v1 v2 v3 v4 (v6 + 1)
set_option maxHeartbeats 4000000 in
set_option maxRecDepth 20000 in
theorem bX2_fitsSeen_125 {E : EV} {ad : Nat → Nat} {M : MM} {tl : Int64} {Φ : Option Value → va_W → Prop} {post : Int32 → MM → Int64 → Prop} {bk23 : MM → Int64 → Int32 → Int32 → Int32 → Int32 → Int32 → Prop} {v1 : Int32} {v2 : Int32} {v3 : Int32} {v4 : Int32} {v6 : Int32} (hp : ∀ r M tl, post r M tl → Φ (some (.int r)) (WM E ad M tl)) (hb23 : ∀ (M : MM) (tl : Int64) (v1 : Int32) (v2 : Int32) (v3 : Int32) (v4 : Int32) (v6 : Int32), bk23 M tl v1 v2 v3 v4 v6 → T E kX2_fitsSeen 0 0 (WM E ad M tl) 23 [(1, .int v1), (2, .int v2), (3, .int v3), (4, .int v4), (5, .ref (ad (20))), (6, .int v6)] [] Φ) (h : wX2_fitsSeen_125 post bk23 M tl v1 v2 v3 v4 v6) : T E kX2_fitsSeen 0 0 (WM E ad M tl) 125 [(1, .int v1), (2, .int v2), (3, .int v3), (4, .int v4), (5, .ref (ad (20))), (6, .int v6)] [] Φ := by
  unfold wX2_fitsSeen_125 at h
  refine tj_iinc (v := _ + 1) (l' := [(1, _), (2, _), (3, _), (4, _), (5, _), (6, _)]) rfl dX2_fitsSeen_125 rfl (by decide) rfl rfl ?_
  refine tj_goto (tgt := 23) rfl dX2_fitsSeen_128 ?_
  exact hb23 _ _ _ _ _ _ _ h
def wX2_fitsSeen_120 (post : Int32 → MM → Int64 → Prop) (bk23 : MM → Int64 → Int32 → Int32 → Int32 → Int32 → Int32 → Prop) (M : MM) (tl : Int64) (v1 : Int32) (v2 : Int32) (v3 : Int32) (v4 : Int32) (v6 : Int32) (s0 : Int32) (s1 : Int32) : Prop :=
  (if s0 = s1 then wX2_fitsSeen_125 post bk23 M tl v1 v2 v3 v4 v6 else post 0 M tl)
set_option maxHeartbeats 4000000 in
set_option maxRecDepth 20000 in
theorem bX2_fitsSeen_120 {E : EV} {ad : Nat → Nat} {M : MM} {tl : Int64} {Φ : Option Value → va_W → Prop} {post : Int32 → MM → Int64 → Prop} {bk23 : MM → Int64 → Int32 → Int32 → Int32 → Int32 → Int32 → Prop} {v1 : Int32} {v2 : Int32} {v3 : Int32} {v4 : Int32} {v6 : Int32} {s0 : Int32} {s1 : Int32} (hp : ∀ r M tl, post r M tl → Φ (some (.int r)) (WM E ad M tl)) (hb23 : ∀ (M : MM) (tl : Int64) (v1 : Int32) (v2 : Int32) (v3 : Int32) (v4 : Int32) (v6 : Int32), bk23 M tl v1 v2 v3 v4 v6 → T E kX2_fitsSeen 0 0 (WM E ad M tl) 23 [(1, .int v1), (2, .int v2), (3, .int v3), (4, .int v4), (5, .ref (ad (20))), (6, .int v6)] [] Φ) (h : wX2_fitsSeen_120 post bk23 M tl v1 v2 v3 v4 v6 s0 s1) : T E kX2_fitsSeen 0 0 (WM E ad M tl) 120 [(1, .int v1), (2, .int v2), (3, .int v3), (4, .int v4), (5, .ref (ad (20))), (6, .int v6)] [.int s1, .int s0] Φ := by
  unfold wX2_fitsSeen_120 at h
  refine tj_icmp_eq (tgt := 125) rfl rfl dX2_fitsSeen_120 (fun hc => ?_) (fun hc => ?_)
  · rw [if_pos hc] at h
    exact bX2_fitsSeen_125 hp hb23 h
  · rw [if_neg hc] at h
    refine tj_iconst (v := 0) rfl dX2_fitsSeen_123 (by decide) ?_
    exact tj_ireturn (ty := .boolean) dX2_fitsSeen_124 rfl rfl (Nat.zero_le _) (Nat.zero_le _) (hp _ _ _ h)
def wX2_fitsSeen_99 (post : Int32 → MM → Int64 → Prop) (bk23 : MM → Int64 → Int32 → Int32 → Int32 → Int32 → Int32 → Prop) (M : MM) (tl : Int64) (v1 : Int32) (v2 : Int32) (v3 : Int32) (v4 : Int32) (v6 : Int32) (s0 : Int32) : Prop :=
  wpX5_cell (fun r3 M1 t2 => (if r3 = 1 then wX2_fitsSeen_120 post bk23 M1 t2 v1 v2 v3 v4 v6 s0 1 else wX2_fitsSeen_120 post bk23 M1 t2 v1 v2 v3 v4 v6 s0 0)) M tl 20 v6 3
set_option maxHeartbeats 4000000 in
set_option maxRecDepth 20000 in
theorem bX2_fitsSeen_99 {E : EV} {ad : Nat → Nat} {M : MM} {tl : Int64} {Φ : Option Value → va_W → Prop} {post : Int32 → MM → Int64 → Prop} {bk23 : MM → Int64 → Int32 → Int32 → Int32 → Int32 → Int32 → Prop} {v1 : Int32} {v2 : Int32} {v3 : Int32} {v4 : Int32} {v6 : Int32} {s0 : Int32} (hp : ∀ r M tl, post r M tl → Φ (some (.int r)) (WM E ad M tl)) (hb23 : ∀ (M : MM) (tl : Int64) (v1 : Int32) (v2 : Int32) (v3 : Int32) (v4 : Int32) (v6 : Int32), bk23 M tl v1 v2 v3 v4 v6 → T E kX2_fitsSeen 0 0 (WM E ad M tl) 23 [(1, .int v1), (2, .int v2), (3, .int v3), (4, .int v4), (5, .ref (ad (20))), (6, .int v6)] [] Φ) (h : wX2_fitsSeen_99 post bk23 M tl v1 v2 v3 v4 v6 s0) : T E kX2_fitsSeen 0 0 (WM E ad M tl) 99 [(1, .int v1), (2, .int v2), (3, .int v3), (4, .int v4), (5, .ref (ad (20))), (6, .int v6)] [.int s0] Φ := by
  unfold wX2_fitsSeen_99 at h
  refine tj_istore (l' := [(1, _), (2, _), (3, _), (4, _), (5, _), (6, _), (8, _)]) rfl dX2_fitsSeen_99 (by decide) rfl ?_
  refine tj_iload rfl dX2_fitsSeen_101 rfl ?_
  refine tj_aload rfl dX2_fitsSeen_103 rfl ?_
  refine tj_iload rfl dX2_fitsSeen_105 rfl ?_
  refine tj_iconst (v := 3) rfl dX2_fitsSeen_107 (by decide) ?_
  refine cf_V5 (a := 20) (z := kX5_cell) (As := [_, _]) rfl rfl dX2_fitsSeen_108 rfl ml_X2_64 okX5_cell rfl (rm_ok rfl) (Nat.le_of_ble_eq_true rfl) (Nat.le_of_ble_eq_true rfl) rfl rfl ?_
  refine ctX5_cell h (fun r3 M1 t2 h => ?_)
  refine tj_iconst (v := 1) rfl dX2_fitsSeen_111 (by decide) ?_
  refine tj_icmp_ne (tgt := 119) rfl rfl dX2_fitsSeen_112 (fun hc => ?_) (fun hc => ?_)
  · rw [if_neg hc] at h
    refine tj_iconst (v := 0) rfl dX2_fitsSeen_119 (by decide) ?_
    exact tj_pick (l' := [(1, _), (2, _), (3, _), (4, _), (5, _), (6, _)]) [0, 1, 2, 3, 4, 5] rfl (bX2_fitsSeen_120 hp hb23 h)
  · rw [if_pos hc] at h
    refine tj_iconst (v := 1) rfl dX2_fitsSeen_115 (by decide) ?_
    refine tj_goto (tgt := 120) rfl dX2_fitsSeen_116 ?_
    exact tj_pick (l' := [(1, _), (2, _), (3, _), (4, _), (5, _), (6, _)]) [0, 1, 2, 3, 4, 5] rfl (bX2_fitsSeen_120 hp hb23 h)
def wX2_fitsSeen_83 (post : Int32 → MM → Int64 → Prop) (bk23 : MM → Int64 → Int32 → Int32 → Int32 → Int32 → Int32 → Prop) (M : MM) (tl : Int64) (v1 : Int32) (v2 : Int32) (v3 : Int32) (v4 : Int32) (v6 : Int32) (s0 : Int32) : Prop :=
  wpX5_cell (fun r3 M1 t2 => (if r3 < s0 then wX2_fitsSeen_99 post bk23 M1 t2 v1 v2 v3 v4 v6 0 else wX2_fitsSeen_99 post bk23 M1 t2 v1 v2 v3 v4 v6 1)) M tl 20 v6 2
set_option maxHeartbeats 4000000 in
set_option maxRecDepth 20000 in
theorem bX2_fitsSeen_83 {E : EV} {ad : Nat → Nat} {M : MM} {tl : Int64} {Φ : Option Value → va_W → Prop} {post : Int32 → MM → Int64 → Prop} {bk23 : MM → Int64 → Int32 → Int32 → Int32 → Int32 → Int32 → Prop} {v1 : Int32} {v2 : Int32} {v3 : Int32} {v4 : Int32} {v6 : Int32} {s0 : Int32} (hp : ∀ r M tl, post r M tl → Φ (some (.int r)) (WM E ad M tl)) (hb23 : ∀ (M : MM) (tl : Int64) (v1 : Int32) (v2 : Int32) (v3 : Int32) (v4 : Int32) (v6 : Int32), bk23 M tl v1 v2 v3 v4 v6 → T E kX2_fitsSeen 0 0 (WM E ad M tl) 23 [(1, .int v1), (2, .int v2), (3, .int v3), (4, .int v4), (5, .ref (ad (20))), (6, .int v6)] [] Φ) (h : wX2_fitsSeen_83 post bk23 M tl v1 v2 v3 v4 v6 s0) : T E kX2_fitsSeen 0 0 (WM E ad M tl) 83 [(1, .int v1), (2, .int v2), (3, .int v3), (4, .int v4), (5, .ref (ad (20))), (6, .int v6)] [.int s0] Φ := by
  unfold wX2_fitsSeen_83 at h
  refine tj_aload rfl dX2_fitsSeen_83 rfl ?_
  refine tj_iload rfl dX2_fitsSeen_85 rfl ?_
  refine tj_iconst (v := 2) rfl dX2_fitsSeen_87 (by decide) ?_
  refine cf_V5 (a := 20) (z := kX5_cell) (As := [_, _]) rfl rfl dX2_fitsSeen_88 rfl ml_X2_64 okX5_cell rfl (rm_ok rfl) (Nat.le_of_ble_eq_true rfl) (Nat.le_of_ble_eq_true rfl) rfl rfl ?_
  refine ctX5_cell h (fun r3 M1 t2 h => ?_)
  refine tj_icmp_gt (tgt := 98) rfl rfl dX2_fitsSeen_91 (fun hc => ?_) (fun hc => ?_)
  · rw [if_pos hc] at h
    refine tj_iconst (v := 0) rfl dX2_fitsSeen_98 (by decide) ?_
    exact bX2_fitsSeen_99 hp hb23 h
  · rw [if_neg hc] at h
    refine tj_iconst (v := 1) rfl dX2_fitsSeen_94 (by decide) ?_
    refine tj_goto (tgt := 99) rfl dX2_fitsSeen_95 ?_
    exact bX2_fitsSeen_99 hp hb23 h
def wX2_fitsSeen_70 (post : Int32 → MM → Int64 → Prop) (bk23 : MM → Int64 → Int32 → Int32 → Int32 → Int32 → Int32 → Prop) (M : MM) (tl : Int64) (v1 : Int32) (v2 : Int32) (v3 : Int32) (v4 : Int32) (v6 : Int32) (v7 : Int32) (s0 : Int32) (s1 : Int32) : Prop :=
  (if s0 = s1 then (if v7 = 0 then wX2_fitsSeen_83 post bk23 M tl v1 v2 v3 v4 v6 v3 else wX2_fitsSeen_83 post bk23 M tl v1 v2 v3 v4 v6 v2) else wX2_fitsSeen_125 post bk23 M tl v1 v2 v3 v4 v6)
set_option maxHeartbeats 4000000 in
set_option maxRecDepth 20000 in
theorem bX2_fitsSeen_70 {E : EV} {ad : Nat → Nat} {M : MM} {tl : Int64} {Φ : Option Value → va_W → Prop} {post : Int32 → MM → Int64 → Prop} {bk23 : MM → Int64 → Int32 → Int32 → Int32 → Int32 → Int32 → Prop} {v1 : Int32} {v2 : Int32} {v3 : Int32} {v4 : Int32} {v6 : Int32} {v7 : Int32} {s0 : Int32} {s1 : Int32} (hp : ∀ r M tl, post r M tl → Φ (some (.int r)) (WM E ad M tl)) (hb23 : ∀ (M : MM) (tl : Int64) (v1 : Int32) (v2 : Int32) (v3 : Int32) (v4 : Int32) (v6 : Int32), bk23 M tl v1 v2 v3 v4 v6 → T E kX2_fitsSeen 0 0 (WM E ad M tl) 23 [(1, .int v1), (2, .int v2), (3, .int v3), (4, .int v4), (5, .ref (ad (20))), (6, .int v6)] [] Φ) (h : wX2_fitsSeen_70 post bk23 M tl v1 v2 v3 v4 v6 v7 s0 s1) : T E kX2_fitsSeen 0 0 (WM E ad M tl) 70 [(1, .int v1), (2, .int v2), (3, .int v3), (4, .int v4), (5, .ref (ad (20))), (6, .int v6), (7, .int v7)] [.int s1, .int s0] Φ := by
  unfold wX2_fitsSeen_70 at h
  refine tj_icmp_ne (tgt := 125) rfl rfl dX2_fitsSeen_70 (fun hc => ?_) (fun hc => ?_)
  · rw [if_neg hc] at h
    exact tj_pick (l' := [(1, _), (2, _), (3, _), (4, _), (5, _), (6, _)]) [0, 1, 2, 3, 4, 5] rfl (bX2_fitsSeen_125 hp hb23 h)
  · rw [if_pos hc] at h
    refine tj_iload rfl dX2_fitsSeen_73 rfl ?_
    refine tj_if_eq (tgt := 82) rfl rfl dX2_fitsSeen_75 (fun hc => ?_) (fun hc => ?_)
    · rw [if_pos hc] at h
      refine tj_iload_n rfl dX2_fitsSeen_82 rfl ?_
      exact tj_pick (l' := [(1, _), (2, _), (3, _), (4, _), (5, _), (6, _)]) [0, 1, 2, 3, 4, 5] rfl (bX2_fitsSeen_83 hp hb23 h)
    · rw [if_neg hc] at h
      refine tj_iload_n rfl dX2_fitsSeen_78 rfl ?_
      refine tj_goto (tgt := 83) rfl dX2_fitsSeen_79 ?_
      exact tj_pick (l' := [(1, _), (2, _), (3, _), (4, _), (5, _), (6, _)]) [0, 1, 2, 3, 4, 5] rfl (bX2_fitsSeen_83 hp hb23 h)
def wX2_fitsSeen_49 (post : Int32 → MM → Int64 → Prop) (bk23 : MM → Int64 → Int32 → Int32 → Int32 → Int32 → Int32 → Prop) (M : MM) (tl : Int64) (v1 : Int32) (v2 : Int32) (v3 : Int32) (v4 : Int32) (v6 : Int32) (s0 : Int32) : Prop :=
  wpX5_cell (fun r3 M1 t2 => (if s0 = 0 then wX2_fitsSeen_70 post bk23 M1 t2 v1 v2 v3 v4 v6 s0 r3 v4 else wX2_fitsSeen_70 post bk23 M1 t2 v1 v2 v3 v4 v6 s0 r3 v1)) M tl 20 v6 1
set_option maxHeartbeats 4000000 in
set_option maxRecDepth 20000 in
theorem bX2_fitsSeen_49 {E : EV} {ad : Nat → Nat} {M : MM} {tl : Int64} {Φ : Option Value → va_W → Prop} {post : Int32 → MM → Int64 → Prop} {bk23 : MM → Int64 → Int32 → Int32 → Int32 → Int32 → Int32 → Prop} {v1 : Int32} {v2 : Int32} {v3 : Int32} {v4 : Int32} {v6 : Int32} {s0 : Int32} (hp : ∀ r M tl, post r M tl → Φ (some (.int r)) (WM E ad M tl)) (hb23 : ∀ (M : MM) (tl : Int64) (v1 : Int32) (v2 : Int32) (v3 : Int32) (v4 : Int32) (v6 : Int32), bk23 M tl v1 v2 v3 v4 v6 → T E kX2_fitsSeen 0 0 (WM E ad M tl) 23 [(1, .int v1), (2, .int v2), (3, .int v3), (4, .int v4), (5, .ref (ad (20))), (6, .int v6)] [] Φ) (h : wX2_fitsSeen_49 post bk23 M tl v1 v2 v3 v4 v6 s0) : T E kX2_fitsSeen 0 0 (WM E ad M tl) 49 [(1, .int v1), (2, .int v2), (3, .int v3), (4, .int v4), (5, .ref (ad (20))), (6, .int v6)] [.int s0] Φ := by
  unfold wX2_fitsSeen_49 at h
  refine tj_istore (l' := [(1, _), (2, _), (3, _), (4, _), (5, _), (6, _), (7, _)]) rfl dX2_fitsSeen_49 (by decide) rfl ?_
  refine tj_aload rfl dX2_fitsSeen_51 rfl ?_
  refine tj_iload rfl dX2_fitsSeen_53 rfl ?_
  refine tj_iconst (v := 1) rfl dX2_fitsSeen_55 (by decide) ?_
  refine cf_V5 (a := 20) (z := kX5_cell) (As := [_, _]) rfl rfl dX2_fitsSeen_56 rfl ml_X2_64 okX5_cell rfl (rm_ok rfl) (Nat.le_of_ble_eq_true rfl) (Nat.le_of_ble_eq_true rfl) rfl rfl ?_
  refine ctX5_cell h (fun r3 M1 t2 h => ?_)
  refine tj_iload rfl dX2_fitsSeen_59 rfl ?_
  refine tj_if_eq (tgt := 68) rfl rfl dX2_fitsSeen_61 (fun hc => ?_) (fun hc => ?_)
  · rw [if_pos hc] at h
    refine tj_iload rfl dX2_fitsSeen_68 rfl ?_
    exact bX2_fitsSeen_70 hp hb23 h
  · rw [if_neg hc] at h
    refine tj_iload_n rfl dX2_fitsSeen_64 rfl ?_
    refine tj_goto (tgt := 70) rfl dX2_fitsSeen_65 ?_
    exact bX2_fitsSeen_70 hp hb23 h
def wX2_fitsSeen_23 (post : Int32 → MM → Int64 → Prop) : Nat → MM → Int64 → Int32 → Int32 → Int32 → Int32 → Int32 → Prop
  | 0, _, _, _, _, _, _, _ => False
  | n + 1, M, tl, v1, v2, v3, v4, v6 =>
    (if (M 20 3) ≤ v6 then post 1 M tl else wpX5_cell (fun r3 M1 t2 => (if r3 = 0 then wX2_fitsSeen_49 post (wX2_fitsSeen_23 post n) M1 t2 v1 v2 v3 v4 v6 1 else wX2_fitsSeen_49 post (wX2_fitsSeen_23 post n) M1 t2 v1 v2 v3 v4 v6 0)) M tl 20 v6 0)
set_option maxHeartbeats 4000000 in
set_option maxRecDepth 20000 in
theorem bX2_fitsSeen_23 {E : EV} {ad : Nat → Nat} {Φ : Option Value → va_W → Prop} {post : Int32 → MM → Int64 → Prop}  (hp : ∀ r M tl, post r M tl → Φ (some (.int r)) (WM E ad M tl)) : ∀ (n : Nat) (M : MM) (tl : Int64) (v1 : Int32) (v2 : Int32) (v3 : Int32) (v4 : Int32) (v6 : Int32), wX2_fitsSeen_23 post n M tl v1 v2 v3 v4 v6 → T E kX2_fitsSeen 0 0 (WM E ad M tl) 23 [(1, .int v1), (2, .int v2), (3, .int v3), (4, .int v4), (5, .ref (ad (20))), (6, .int v6)] [] Φ := by
  intro n
  induction n with
  | zero => intro M tl v1 v2 v3 v4 v6 h; exact False.elim h
  | succ n ih =>
    intro M tl v1 v2 v3 v4 v6 h
    unfold wX2_fitsSeen_23 at h
    refine tj_iload rfl dX2_fitsSeen_23 rfl ?_
    refine tj_aload rfl dX2_fitsSeen_25 rfl ?_
    refine gf5_size (a := 20) rfl rfl dX2_fitsSeen_27 fl_X2_59 ?_
    refine tj_icmp_ge (tgt := 131) rfl rfl dX2_fitsSeen_30 (fun hc => ?_) (fun hc => ?_)
    · rw [if_pos hc] at h
      refine tj_iconst (v := 1) rfl dX2_fitsSeen_131 (by decide) ?_
      exact tj_ireturn (ty := .boolean) dX2_fitsSeen_132 rfl rfl (Nat.zero_le _) (Nat.zero_le _) (hp _ _ _ h)
    · rw [if_neg hc] at h
      refine tj_aload rfl dX2_fitsSeen_33 rfl ?_
      refine tj_iload rfl dX2_fitsSeen_35 rfl ?_
      refine tj_iconst (v := 0) rfl dX2_fitsSeen_37 (by decide) ?_
      refine cf_V5 (a := 20) (z := kX5_cell) (As := [_, _]) rfl rfl dX2_fitsSeen_38 rfl ml_X2_64 okX5_cell rfl (rm_ok rfl) (Nat.le_of_ble_eq_true rfl) (Nat.le_of_ble_eq_true rfl) rfl rfl ?_
      refine ctX5_cell h (fun r3 M1 t2 h => ?_)
      refine tj_if_ne (tgt := 48) rfl rfl dX2_fitsSeen_41 (fun hc => ?_) (fun hc => ?_)
      · rw [if_neg hc] at h
        refine tj_iconst (v := 0) rfl dX2_fitsSeen_48 (by decide) ?_
        exact bX2_fitsSeen_49 hp ih h
      · rw [if_pos hc] at h
        refine tj_iconst (v := 1) rfl dX2_fitsSeen_44 (by decide) ?_
        refine tj_goto (tgt := 49) rfl dX2_fitsSeen_45 ?_
        exact bX2_fitsSeen_49 hp ih h
def wpX2_fitsSeen (post : Int32 → MM → Int64 → Prop) (M : MM) (tl : Int64) (v1 : Int32) (v2 : Int32) (v3 : Int32) : Prop :=
  wpX1_matchOf (fun r3 M1 t2 => (∃ n9, wX2_fitsSeen_23 post  n9 M1 t2 v1 v2 v3 r3 0)) M tl 3 0 v1
set_option maxHeartbeats 4000000 in
set_option maxRecDepth 20000 in
theorem ctX2_fitsSeen {E : EV} {ad : Nat → Nat} {M : MM} {tl : Int64} {Φ : Option Value → va_W → Prop} {post : Int32 → MM → Int64 → Prop} {v1 : Int32} {v2 : Int32} {v3 : Int32} (h : wpX2_fitsSeen post M tl v1 v2 v3) (hp : ∀ r M tl, post r M tl → Φ (some (.int r)) (WM E ad M tl)) : Tm E kX2_fitsSeen (WM E ad M tl) [.ref (ad (53)), .int v1, .int v2, .int v3] Φ := by
  unfold wpX2_fitsSeen at h
  show T E kX2_fitsSeen 0 0 (WM E ad M tl) 0 [(0, .ref (ad (53))), (1, .int v1), (2, .int v2), (3, .int v3)] [] Φ
  refine tj_aload_n rfl dX2_fitsSeen_0 rfl ?_
  refine gf2_law (a := 53) rfl rfl dX2_fitsSeen_1 fl_X2_9 ?_
  refine tj_iconst (v := 0) rfl dX2_fitsSeen_4 (by decide) ?_
  refine tj_iload_n rfl dX2_fitsSeen_5 rfl ?_
  refine cf_V1 (a := 3) (z := kX1_matchOf) (As := [_, _]) rfl rfl dX2_fitsSeen_6 rfl ml_X2_19 okX1_matchOf rfl (rm_ok rfl) (Nat.le_of_ble_eq_true rfl) (Nat.le_of_ble_eq_true rfl) rfl rfl ?_
  refine ctX1_matchOf h (fun r3 M1 t2 h => ?_)
  refine tj_istore (l' := [(0, _), (1, _), (2, _), (3, _), (4, _)]) rfl dX2_fitsSeen_9 (by decide) rfl ?_
  refine tj_aload_n rfl dX2_fitsSeen_11 rfl ?_
  refine gf2_scene (a := 53) rfl rfl dX2_fitsSeen_12 fl_X2_15 ?_
  refine gf7_seen (a := 14) rfl rfl dX2_fitsSeen_15 fl_X2_55 ?_
  refine tj_astore (l' := [(0, _), (1, _), (2, _), (3, _), (4, _), (5, _)]) rfl dX2_fitsSeen_18 (by decide) rfl ?_
  refine tj_iconst (v := 0) rfl dX2_fitsSeen_20 (by decide) ?_
  refine tj_istore (l' := [(0, _), (1, _), (2, _), (3, _), (4, _), (5, _), (6, _)]) rfl dX2_fitsSeen_21 (by decide) rfl ?_
  obtain ⟨n9, h⟩ := h
  exact tj_pick (l' := [(1, _), (2, _), (3, _), (4, _), (5, _), (6, _)]) [1, 2, 3, 4, 5, 6] rfl (bX2_fitsSeen_23 hp  n9 _ _ _ _ _ _ _ h)
def wX2_note_12 (post : MM → Int64 → Prop) (M : MM) (tl : Int64) (v1 : Int32) (v2 : Int32) : Prop :=
  (∀ M1 : MM, M1 = mset M 53 2 v2 → (∀ M2 : MM, M2 = mset M1 53 3 ((M1 53 3) ||| ((1 : Int32) <<< (v1 &&& 31))) → (∀ M3 : MM, M3 = mset M2 53 0 ((M2 53 0) + 1) → post M3 tl)))
set_option maxHeartbeats 4000000 in
set_option maxRecDepth 20000 in
theorem bX2_note_12 {E : EV} {ad : Nat → Nat} {M : MM} {tl : Int64} {Φ : Option Value → va_W → Prop} {post : MM → Int64 → Prop} {v1 : Int32} {v2 : Int32} (hp : ∀ M tl, post M tl → Φ none (WM E ad M tl)) (h : wX2_note_12 post M tl v1 v2) : T E kX2_note 0 0 (WM E ad M tl) 12 [(0, .ref (ad (53))), (1, .int v1), (2, .int v2)] [] Φ := by
  unfold wX2_note_12 at h
  refine tj_aload_n rfl dX2_note_12 rfl ?_
  refine tj_iload_n rfl dX2_note_13 rfl ?_
  refine pf2_lastMonth (a := 53) rfl rfl dX2_note_14 fl_X2_52 ?_
  replace h := h _ rfl
  generalize mset M 53 2 v2 = M1 at h ⊢
  refine tj_aload_n rfl dX2_note_17 rfl ?_
  refine tj_dup rfl dX2_note_18 rfl ?_
  refine gf2_beginners (a := 53) rfl rfl dX2_note_19 fl_X2_38 ?_
  refine tj_iconst (v := 1) rfl dX2_note_22 (by decide) ?_
  refine tj_iload_n rfl dX2_note_23 rfl ?_
  refine tj_ishl rfl dX2_note_24 ?_
  refine tj_ior rfl dX2_note_25 ?_
  refine pf2_beginners (a := 53) rfl rfl dX2_note_26 fl_X2_38 ?_
  replace h := h _ rfl
  generalize mset M1 53 3 ((M1 53 3) ||| ((1 : Int32) <<< (v1 &&& 31))) = M2 at h ⊢
  refine tj_aload_n rfl dX2_note_29 rfl ?_
  refine tj_dup rfl dX2_note_30 rfl ?_
  refine gf2_found (a := 53) rfl rfl dX2_note_31 fl_X2_34 ?_
  refine tj_iconst (v := 1) rfl dX2_note_34 (by decide) ?_
  refine tj_iadd rfl dX2_note_35 ?_
  refine pf2_found (a := 53) rfl rfl dX2_note_36 fl_X2_34 ?_
  replace h := h _ rfl
  generalize mset M2 53 0 ((M2 53 0) + 1) = M3 at h ⊢
  exact tj_return dX2_note_39 rfl (Nat.zero_le _) (Nat.zero_le _) (hp _ _ h)
def wpX2_note (post : MM → Int64 → Prop) (M : MM) (tl : Int64) (v1 : Int32) (v2 : Int32) : Prop :=
  (if (M 53 0) = 0 then (∀ M1 : MM, M1 = mset M 53 1 v2 → wX2_note_12 post  M1 tl v1 v2) else wX2_note_12 post  M tl v1 v2)
set_option maxHeartbeats 4000000 in
set_option maxRecDepth 20000 in
theorem ctX2_note {E : EV} {ad : Nat → Nat} {M : MM} {tl : Int64} {Φ : Option Value → va_W → Prop} {post : MM → Int64 → Prop} {v1 : Int32} {v2 : Int32} (h : wpX2_note post M tl v1 v2) (hp : ∀ M tl, post M tl → Φ none (WM E ad M tl)) : Tm E kX2_note (WM E ad M tl) [.ref (ad (53)), .int v1, .int v2] Φ := by
  unfold wpX2_note at h
  show T E kX2_note 0 0 (WM E ad M tl) 0 [(0, .ref (ad (53))), (1, .int v1), (2, .int v2)] [] Φ
  refine tj_aload_n rfl dX2_note_0 rfl ?_
  refine gf2_found (a := 53) rfl rfl dX2_note_1 fl_X2_34 ?_
  refine tj_if_ne (tgt := 12) rfl rfl dX2_note_4 (fun hc => ?_) (fun hc => ?_)
  · rw [if_neg hc] at h
    exact bX2_note_12 hp  h
  · rw [if_pos hc] at h
    refine tj_aload_n rfl dX2_note_7 rfl ?_
    refine tj_iload_n rfl dX2_note_8 rfl ?_
    refine pf2_firstMonth (a := 53) rfl rfl dX2_note_9 fl_X2_49 ?_
    replace h := h _ rfl
    generalize mset M 53 1 v2 = M1 at h ⊢
    exact bX2_note_12 hp  h
def wX2_findHistories_68 (post : MM → Int64 → Prop) (bk12 : MM → Int64 → Int32 → Int32 → Int32 → Prop) (bk20 : MM → Int64 → Int32 → Int32 → Int32 → Int32 → Prop) (M : MM) (tl : Int64) (v1 : Int32) (v2 : Int32) (v3 : Int32) (v4 : Int32) : Prop :=
  bk20 M tl v1 v2 v3 (v4 + 1)
set_option maxHeartbeats 4000000 in
set_option maxRecDepth 20000 in
theorem bX2_findHistories_68 {E : EV} {ad : Nat → Nat} {M : MM} {tl : Int64} {Φ : Option Value → va_W → Prop} {post : MM → Int64 → Prop} {bk12 : MM → Int64 → Int32 → Int32 → Int32 → Prop} {bk20 : MM → Int64 → Int32 → Int32 → Int32 → Int32 → Prop} {v1 : Int32} {v2 : Int32} {v3 : Int32} {v4 : Int32} (hp : ∀ M tl, post M tl → Φ none (WM E ad M tl)) (hb12 : ∀ (M : MM) (tl : Int64) (v1 : Int32) (v2 : Int32) (v3 : Int32), bk12 M tl v1 v2 v3 → T E kX2_findHistories 0 0 (WM E ad M tl) 12 [(0, .ref (ad (53))), (1, .int v1), (2, .int v2), (3, .int v3)] [] Φ) (hb20 : ∀ (M : MM) (tl : Int64) (v1 : Int32) (v2 : Int32) (v3 : Int32) (v4 : Int32), bk20 M tl v1 v2 v3 v4 → T E kX2_findHistories 0 0 (WM E ad M tl) 20 [(0, .ref (ad (53))), (1, .int v1), (2, .int v2), (3, .int v3), (4, .int v4)] [] Φ) (h : wX2_findHistories_68 post bk12 bk20 M tl v1 v2 v3 v4) : T E kX2_findHistories 0 0 (WM E ad M tl) 68 [(0, .ref (ad (53))), (1, .int v1), (2, .int v2), (3, .int v3), (4, .int v4)] [] Φ := by
  unfold wX2_findHistories_68 at h
  refine tj_iinc (v := _ + 1) (l' := [(0, _), (1, _), (2, _), (3, _), (4, _)]) rfl dX2_findHistories_68 rfl (by decide) rfl rfl ?_
  refine tj_goto (tgt := 20) rfl dX2_findHistories_71 ?_
  exact hb20 _ _ _ _ _ _ h
def wX2_findHistories_51 (post : MM → Int64 → Prop) (bk12 : MM → Int64 → Int32 → Int32 → Int32 → Prop) (bk20 : MM → Int64 → Int32 → Int32 → Int32 → Int32 → Prop) (M : MM) (tl : Int64) (v1 : Int32) (v2 : Int32) (v3 : Int32) (v4 : Int32) : Prop :=
  wpX2_fitsSeen (fun r3 M1 t2 => (if r3 = 0 then wX2_findHistories_68 post bk12 bk20 M1 t2 v1 v2 v3 v4 else wpX2_note (fun M4 t5 => wX2_findHistories_68 post bk12 bk20 M4 t5 v1 v2 v3 v4) M1 t2 1 v3)) M tl v1 v4 v3
set_option maxHeartbeats 4000000 in
set_option maxRecDepth 20000 in
theorem bX2_findHistories_51 {E : EV} {ad : Nat → Nat} {M : MM} {tl : Int64} {Φ : Option Value → va_W → Prop} {post : MM → Int64 → Prop} {bk12 : MM → Int64 → Int32 → Int32 → Int32 → Prop} {bk20 : MM → Int64 → Int32 → Int32 → Int32 → Int32 → Prop} {v1 : Int32} {v2 : Int32} {v3 : Int32} {v4 : Int32} (hp : ∀ M tl, post M tl → Φ none (WM E ad M tl)) (hb12 : ∀ (M : MM) (tl : Int64) (v1 : Int32) (v2 : Int32) (v3 : Int32), bk12 M tl v1 v2 v3 → T E kX2_findHistories 0 0 (WM E ad M tl) 12 [(0, .ref (ad (53))), (1, .int v1), (2, .int v2), (3, .int v3)] [] Φ) (hb20 : ∀ (M : MM) (tl : Int64) (v1 : Int32) (v2 : Int32) (v3 : Int32) (v4 : Int32), bk20 M tl v1 v2 v3 v4 → T E kX2_findHistories 0 0 (WM E ad M tl) 20 [(0, .ref (ad (53))), (1, .int v1), (2, .int v2), (3, .int v3), (4, .int v4)] [] Φ) (h : wX2_findHistories_51 post bk12 bk20 M tl v1 v2 v3 v4) : T E kX2_findHistories 0 0 (WM E ad M tl) 51 [(0, .ref (ad (53))), (1, .int v1), (2, .int v2), (3, .int v3), (4, .int v4)] [] Φ := by
  unfold wX2_findHistories_51 at h
  refine tj_aload_n rfl dX2_findHistories_51 rfl ?_
  refine tj_iload_n rfl dX2_findHistories_52 rfl ?_
  refine tj_iload rfl dX2_findHistories_53 rfl ?_
  refine tj_iload_n rfl dX2_findHistories_55 rfl ?_
  refine cf_V2 (a := 53) (z := kX2_fitsSeen) (As := [_, _, _]) rfl rfl dX2_findHistories_56 rfl ml_X2_41 okX2_fitsSeen rfl (rm_ok rfl) (Nat.le_of_ble_eq_true rfl) (Nat.le_of_ble_eq_true rfl) rfl rfl ?_
  refine ctX2_fitsSeen h (fun r3 M1 t2 h => ?_)
  refine tj_if_eq (tgt := 68) rfl rfl dX2_findHistories_59 (fun hc => ?_) (fun hc => ?_)
  · rw [if_pos hc] at h
    exact bX2_findHistories_68 hp hb12 hb20 h
  · rw [if_neg hc] at h
    refine tj_aload_n rfl dX2_findHistories_62 rfl ?_
    refine tj_iconst (v := 1) rfl dX2_findHistories_63 (by decide) ?_
    refine tj_iload_n rfl dX2_findHistories_64 rfl ?_
    refine cf_V2 (a := 53) (z := kX2_note) (As := [_, _]) rfl rfl dX2_findHistories_65 rfl ml_X2_45 okX2_note rfl (rm_ok rfl) (Nat.le_of_ble_eq_true rfl) (Nat.le_of_ble_eq_true rfl) rfl rfl ?_
    refine ctX2_note h (fun M4 t5 h => ?_)
    exact bX2_findHistories_68 hp hb12 hb20 h
def wX2_findHistories_74 (post : MM → Int64 → Prop) (bk12 : MM → Int64 → Int32 → Int32 → Int32 → Prop) (M : MM) (tl : Int64) (v1 : Int32) (v2 : Int32) (v3 : Int32) : Prop :=
  bk12 M tl v1 v2 (v3 + 1)
set_option maxHeartbeats 4000000 in
set_option maxRecDepth 20000 in
theorem bX2_findHistories_74 {E : EV} {ad : Nat → Nat} {M : MM} {tl : Int64} {Φ : Option Value → va_W → Prop} {post : MM → Int64 → Prop} {bk12 : MM → Int64 → Int32 → Int32 → Int32 → Prop} {v1 : Int32} {v2 : Int32} {v3 : Int32} (hp : ∀ M tl, post M tl → Φ none (WM E ad M tl)) (hb12 : ∀ (M : MM) (tl : Int64) (v1 : Int32) (v2 : Int32) (v3 : Int32), bk12 M tl v1 v2 v3 → T E kX2_findHistories 0 0 (WM E ad M tl) 12 [(0, .ref (ad (53))), (1, .int v1), (2, .int v2), (3, .int v3)] [] Φ) (h : wX2_findHistories_74 post bk12 M tl v1 v2 v3) : T E kX2_findHistories 0 0 (WM E ad M tl) 74 [(0, .ref (ad (53))), (1, .int v1), (2, .int v2), (3, .int v3)] [] Φ := by
  unfold wX2_findHistories_74 at h
  refine tj_iinc (v := _ + 1) (l' := [(0, _), (1, _), (2, _), (3, _)]) rfl dX2_findHistories_74 rfl (by decide) rfl rfl ?_
  refine tj_goto (tgt := 12) rfl dX2_findHistories_77 ?_
  exact hb12 _ _ _ _ _ h
def wX2_findHistories_20 (post : MM → Int64 → Prop) (bk12 : MM → Int64 → Int32 → Int32 → Int32 → Prop) : Nat → MM → Int64 → Int32 → Int32 → Int32 → Int32 → Prop
  | 0, _, _, _, _, _, _ => False
  | n + 1, M, tl, v1, v2, v3, v4 =>
    (if (v3 + 1) < v4 then wX2_findHistories_74 post bk12 M tl v1 v2 v3 else (if v2 < v4 then wX2_findHistories_74 post bk12 M tl v1 v2 v3 else wpX2_fitsSeen (fun r3 M1 t2 => (if r3 = 0 then wX2_findHistories_51 post bk12 (wX2_findHistories_20 post bk12 n) M1 t2 v1 v2 v3 v4 else wpX2_note (fun M4 t5 => wX2_findHistories_51 post bk12 (wX2_findHistories_20 post bk12 n) M4 t5 v1 v2 v3 v4) M1 t2 0 v3)) M tl v1 v3 v4))
set_option maxHeartbeats 4000000 in
set_option maxRecDepth 20000 in
theorem bX2_findHistories_20 {E : EV} {ad : Nat → Nat} {Φ : Option Value → va_W → Prop} {post : MM → Int64 → Prop} {bk12 : MM → Int64 → Int32 → Int32 → Int32 → Prop}  (hp : ∀ M tl, post M tl → Φ none (WM E ad M tl)) (hb12 : ∀ (M : MM) (tl : Int64) (v1 : Int32) (v2 : Int32) (v3 : Int32), bk12 M tl v1 v2 v3 → T E kX2_findHistories 0 0 (WM E ad M tl) 12 [(0, .ref (ad (53))), (1, .int v1), (2, .int v2), (3, .int v3)] [] Φ) : ∀ (n : Nat) (M : MM) (tl : Int64) (v1 : Int32) (v2 : Int32) (v3 : Int32) (v4 : Int32), wX2_findHistories_20 post bk12 n M tl v1 v2 v3 v4 → T E kX2_findHistories 0 0 (WM E ad M tl) 20 [(0, .ref (ad (53))), (1, .int v1), (2, .int v2), (3, .int v3), (4, .int v4)] [] Φ := by
  intro n
  induction n with
  | zero => intro M tl v1 v2 v3 v4 h; exact False.elim h
  | succ n ih =>
    intro M tl v1 v2 v3 v4 h
    unfold wX2_findHistories_20 at h
    refine tj_iload rfl dX2_findHistories_20 rfl ?_
    refine tj_iload_n rfl dX2_findHistories_22 rfl ?_
    refine tj_iconst (v := 1) rfl dX2_findHistories_23 (by decide) ?_
    refine tj_iadd rfl dX2_findHistories_24 ?_
    refine tj_icmp_gt (tgt := 74) rfl rfl dX2_findHistories_25 (fun hc => ?_) (fun hc => ?_)
    · rw [if_pos hc] at h
      exact tj_pick (l' := [(0, _), (1, _), (2, _), (3, _)]) [0, 1, 2, 3] rfl (bX2_findHistories_74 hp hb12 h)
    · rw [if_neg hc] at h
      refine tj_iload rfl dX2_findHistories_28 rfl ?_
      refine tj_iload_n rfl dX2_findHistories_30 rfl ?_
      refine tj_icmp_gt (tgt := 74) rfl rfl dX2_findHistories_31 (fun hc => ?_) (fun hc => ?_)
      · rw [if_pos hc] at h
        exact tj_pick (l' := [(0, _), (1, _), (2, _), (3, _)]) [0, 1, 2, 3] rfl (bX2_findHistories_74 hp hb12 h)
      · rw [if_neg hc] at h
        refine tj_aload_n rfl dX2_findHistories_34 rfl ?_
        refine tj_iload_n rfl dX2_findHistories_35 rfl ?_
        refine tj_iload_n rfl dX2_findHistories_36 rfl ?_
        refine tj_iload rfl dX2_findHistories_37 rfl ?_
        refine cf_V2 (a := 53) (z := kX2_fitsSeen) (As := [_, _, _]) rfl rfl dX2_findHistories_39 rfl ml_X2_41 okX2_fitsSeen rfl (rm_ok rfl) (Nat.le_of_ble_eq_true rfl) (Nat.le_of_ble_eq_true rfl) rfl rfl ?_
        refine ctX2_fitsSeen h (fun r3 M1 t2 h => ?_)
        refine tj_if_eq (tgt := 51) rfl rfl dX2_findHistories_42 (fun hc => ?_) (fun hc => ?_)
        · rw [if_pos hc] at h
          exact bX2_findHistories_51 hp hb12 ih h
        · rw [if_neg hc] at h
          refine tj_aload_n rfl dX2_findHistories_45 rfl ?_
          refine tj_iconst (v := 0) rfl dX2_findHistories_46 (by decide) ?_
          refine tj_iload_n rfl dX2_findHistories_47 rfl ?_
          refine cf_V2 (a := 53) (z := kX2_note) (As := [_, _]) rfl rfl dX2_findHistories_48 rfl ml_X2_45 okX2_note rfl (rm_ok rfl) (Nat.le_of_ble_eq_true rfl) (Nat.le_of_ble_eq_true rfl) rfl rfl ?_
          refine ctX2_note h (fun M4 t5 h => ?_)
          exact bX2_findHistories_51 hp hb12 ih h
def wX2_findHistories_12 (post : MM → Int64 → Prop) : Nat → MM → Int64 → Int32 → Int32 → Int32 → Prop
  | 0, _, _, _, _, _ => False
  | n + 1, M, tl, v1, v2, v3 =>
    (if v2 < v3 then post M tl else (∃ n9, wX2_findHistories_20 post (wX2_findHistories_12 post n) n9 M tl v1 v2 v3 v3))
set_option maxHeartbeats 4000000 in
set_option maxRecDepth 20000 in
theorem bX2_findHistories_12 {E : EV} {ad : Nat → Nat} {Φ : Option Value → va_W → Prop} {post : MM → Int64 → Prop}  (hp : ∀ M tl, post M tl → Φ none (WM E ad M tl)) : ∀ (n : Nat) (M : MM) (tl : Int64) (v1 : Int32) (v2 : Int32) (v3 : Int32), wX2_findHistories_12 post n M tl v1 v2 v3 → T E kX2_findHistories 0 0 (WM E ad M tl) 12 [(0, .ref (ad (53))), (1, .int v1), (2, .int v2), (3, .int v3)] [] Φ := by
  intro n
  induction n with
  | zero => intro M tl v1 v2 v3 h; exact False.elim h
  | succ n ih =>
    intro M tl v1 v2 v3 h
    unfold wX2_findHistories_12 at h
    refine tj_iload_n rfl dX2_findHistories_12 rfl ?_
    refine tj_iload_n rfl dX2_findHistories_13 rfl ?_
    refine tj_icmp_gt (tgt := 80) rfl rfl dX2_findHistories_14 (fun hc => ?_) (fun hc => ?_)
    · rw [if_pos hc] at h
      exact tj_return dX2_findHistories_80 rfl (Nat.zero_le _) (Nat.zero_le _) (hp _ _ h)
    · rw [if_neg hc] at h
      refine tj_iload_n rfl dX2_findHistories_17 rfl ?_
      refine tj_istore (l' := [(0, _), (1, _), (2, _), (3, _), (4, _)]) rfl dX2_findHistories_18 (by decide) rfl ?_
      obtain ⟨n9, h⟩ := h
      exact bX2_findHistories_20 hp ih n9 _ _ _ _ _ _ h
def wpX2_findHistories (post : MM → Int64 → Prop) (M : MM) (tl : Int64) (v1 : Int32) (v2 : Int32) : Prop :=
  (∀ M1 : MM, M1 = mset M 53 0 0 → (∀ M2 : MM, M2 = mset M1 53 3 0 → (∃ n9, wX2_findHistories_12 post  n9 M2 tl v1 v2 0)))
set_option maxHeartbeats 4000000 in
set_option maxRecDepth 20000 in
theorem ctX2_findHistories {E : EV} {ad : Nat → Nat} {M : MM} {tl : Int64} {Φ : Option Value → va_W → Prop} {post : MM → Int64 → Prop} {v1 : Int32} {v2 : Int32} (h : wpX2_findHistories post M tl v1 v2) (hp : ∀ M tl, post M tl → Φ none (WM E ad M tl)) : Tm E kX2_findHistories (WM E ad M tl) [.ref (ad (53)), .int v1, .int v2] Φ := by
  unfold wpX2_findHistories at h
  show T E kX2_findHistories 0 0 (WM E ad M tl) 0 [(0, .ref (ad (53))), (1, .int v1), (2, .int v2)] [] Φ
  refine tj_aload_n rfl dX2_findHistories_0 rfl ?_
  refine tj_iconst (v := 0) rfl dX2_findHistories_1 (by decide) ?_
  refine pf2_found (a := 53) rfl rfl dX2_findHistories_2 fl_X2_34 ?_
  replace h := h _ rfl
  generalize mset M 53 0 0 = M1 at h ⊢
  refine tj_aload_n rfl dX2_findHistories_5 rfl ?_
  refine tj_iconst (v := 0) rfl dX2_findHistories_6 (by decide) ?_
  refine pf2_beginners (a := 53) rfl rfl dX2_findHistories_7 fl_X2_38 ?_
  replace h := h _ rfl
  generalize mset M1 53 3 0 = M2 at h ⊢
  refine tj_iconst (v := 0) rfl dX2_findHistories_10 (by decide) ?_
  refine tj_istore_n (l' := [(0, _), (1, _), (2, _), (3, _)]) rfl dX2_findHistories_11 (by decide) rfl ?_
  obtain ⟨n9, h⟩ := h
  exact bX2_findHistories_12 hp  n9 _ _ _ _ _ h
def wpX2_onlyBeginner (post : Int32 → MM → Int64 → Prop) (M : MM) (tl : Int64) : Prop :=
  (if (M 53 3) = 3 then post (-4) M tl else post ((M 53 3) - 1) M tl)
set_option maxHeartbeats 4000000 in
set_option maxRecDepth 20000 in
theorem ctX2_onlyBeginner {E : EV} {ad : Nat → Nat} {M : MM} {tl : Int64} {Φ : Option Value → va_W → Prop} {post : Int32 → MM → Int64 → Prop} (h : wpX2_onlyBeginner post M tl ) (hp : ∀ r M tl, post r M tl → Φ (some (.int r)) (WM E ad M tl)) : Tm E kX2_onlyBeginner (WM E ad M tl) [.ref (ad (53))] Φ := by
  unfold wpX2_onlyBeginner at h
  show T E kX2_onlyBeginner 0 0 (WM E ad M tl) 0 [(0, .ref (ad (53)))] [] Φ
  refine tj_aload_n rfl dX2_onlyBeginner_0 rfl ?_
  refine gf2_beginners (a := 53) rfl rfl dX2_onlyBeginner_1 fl_X2_38 ?_
  refine tj_iconst (v := 3) rfl dX2_onlyBeginner_4 (by decide) ?_
  refine tj_icmp_ne (tgt := 13) rfl rfl dX2_onlyBeginner_5 (fun hc => ?_) (fun hc => ?_)
  · rw [if_neg hc] at h
    refine tj_aload_n rfl dX2_onlyBeginner_13 rfl ?_
    refine gf2_beginners (a := 53) rfl rfl dX2_onlyBeginner_14 fl_X2_38 ?_
    refine tj_iconst (v := 1) rfl dX2_onlyBeginner_17 (by decide) ?_
    refine tj_isub rfl dX2_onlyBeginner_18 ?_
    exact tj_ireturn (ty := .int) dX2_onlyBeginner_19 rfl rfl (Nat.zero_le _) (Nat.zero_le _) (hp _ _ _ h)
  · rw [if_pos hc] at h
    refine tj_bipush (v := -4) rfl dX2_onlyBeginner_8 (by decide) ?_
    refine tj_goto (tgt := 19) rfl dX2_onlyBeginner_10 ?_
    exact tj_ireturn (ty := .int) dX2_onlyBeginner_19 rfl rfl (Nat.zero_le _) (Nat.zero_le _) (hp _ _ _ h)
def wpX3_monthOf (post : Int32 → MM → Int64 → Prop) (M : MM) (tl : Int64) (v1 : Int32) : Prop :=
  (if v1 < 0 then post 0 M tl else (if 6 ≤ v1 then post 0 M tl else (vp_in v1 (al 52) ∧ post (M 52 (v1 : Int32).toNatClampNeg) M tl)))
set_option maxHeartbeats 4000000 in
set_option maxRecDepth 20000 in
theorem ctX3_monthOf {E : EV} {ad : Nat → Nat} {M : MM} {tl : Int64} {Φ : Option Value → va_W → Prop} {post : Int32 → MM → Int64 → Prop} {v1 : Int32} (h : wpX3_monthOf post M tl v1) (hp : ∀ r M tl, post r M tl → Φ (some (.int r)) (WM E ad M tl)) : Tm E kX3_monthOf (WM E ad M tl) [.ref (ad (49)), .int v1] Φ := by
  unfold wpX3_monthOf at h
  show T E kX3_monthOf 0 0 (WM E ad M tl) 0 [(0, .ref (ad (49))), (1, .int v1)] [] Φ
  refine tj_iload_n rfl dX3_monthOf_0 rfl ?_
  refine tj_if_lt (tgt := 19) rfl rfl dX3_monthOf_1 (fun hc => ?_) (fun hc => ?_)
  · rw [if_pos hc] at h
    refine tj_iconst (v := 0) rfl dX3_monthOf_19 (by decide) ?_
    exact tj_ireturn (ty := .int) dX3_monthOf_20 rfl rfl (Nat.zero_le _) (Nat.zero_le _) (hp _ _ _ h)
  · rw [if_neg hc] at h
    refine tj_iload_n rfl dX3_monthOf_4 rfl ?_
    refine tj_bipush (v := 6) rfl dX3_monthOf_5 (by decide) ?_
    refine tj_icmp_ge (tgt := 19) rfl rfl dX3_monthOf_7 (fun hc => ?_) (fun hc => ?_)
    · rw [if_pos hc] at h
      refine tj_iconst (v := 0) rfl dX3_monthOf_19 (by decide) ?_
      exact tj_ireturn (ty := .int) dX3_monthOf_20 rfl rfl (Nat.zero_le _) (Nat.zero_le _) (hp _ _ _ h)
    · rw [if_neg hc] at h
      refine tj_aload_n rfl dX3_monthOf_10 rfl ?_
      refine gf3_months (a := 49) rfl rfl dX3_monthOf_11 fl_X3_18 ?_
      refine tj_iload_n rfl dX3_monthOf_14 rfl ?_
      obtain ⟨hi1, h⟩ := h
      refine af_iald (a := 52) rfl rfl dX3_monthOf_15 hi1 ?_
      refine tj_goto (tgt := 20) rfl dX3_monthOf_16 ?_
      exact tj_ireturn (ty := .int) dX3_monthOf_20 rfl rfl (Nat.zero_le _) (Nat.zero_le _) (hp _ _ _ h)
def wpX3_taken (post : Int32 → MM → Int64 → Prop) (M : MM) (tl : Int64) (v0 : Int32) (v1 : Int32) : Prop :=
  post ((v0 >>> (((2 : Int32) * v1) &&& 31)) &&& 3) M tl
set_option maxHeartbeats 4000000 in
set_option maxRecDepth 20000 in
theorem ctX3_taken {E : EV} {ad : Nat → Nat} {M : MM} {tl : Int64} {Φ : Option Value → va_W → Prop} {post : Int32 → MM → Int64 → Prop} {v0 : Int32} {v1 : Int32} (h : wpX3_taken post M tl v0 v1) (hp : ∀ r M tl, post r M tl → Φ (some (.int r)) (WM E ad M tl)) : Tm E kX3_taken (WM E ad M tl) [.int v0, .int v1] Φ := by
  unfold wpX3_taken at h
  show T E kX3_taken 0 0 (WM E ad M tl) 0 [(0, .int v0), (1, .int v1)] [] Φ
  refine tj_iload_n rfl dX3_taken_0 rfl ?_
  refine tj_iconst (v := 2) rfl dX3_taken_1 (by decide) ?_
  refine tj_iload_n rfl dX3_taken_2 rfl ?_
  refine tj_imul rfl dX3_taken_3 ?_
  refine tj_ishr rfl dX3_taken_4 ?_
  refine tj_iconst (v := 3) rfl dX3_taken_5 (by decide) ?_
  refine tj_iand rfl dX3_taken_6 ?_
  exact tj_ireturn (ty := .int) dX3_taken_7 rfl rfl (Nat.zero_le _) (Nat.zero_le _) (hp _ _ _ h)
def wpX3_withOneMore (post : Int32 → MM → Int64 → Prop) (M : MM) (tl : Int64) (v0 : Int32) (v1 : Int32) : Prop :=
  post ((v0 + ((1 : Int32) <<< (((2 : Int32) * v1) &&& 31))) &&& 255) M tl
set_option maxHeartbeats 4000000 in
set_option maxRecDepth 20000 in
theorem ctX3_withOneMore {E : EV} {ad : Nat → Nat} {M : MM} {tl : Int64} {Φ : Option Value → va_W → Prop} {post : Int32 → MM → Int64 → Prop} {v0 : Int32} {v1 : Int32} (h : wpX3_withOneMore post M tl v0 v1) (hp : ∀ r M tl, post r M tl → Φ (some (.int r)) (WM E ad M tl)) : Tm E kX3_withOneMore (WM E ad M tl) [.int v0, .int v1] Φ := by
  unfold wpX3_withOneMore at h
  show T E kX3_withOneMore 0 0 (WM E ad M tl) 0 [(0, .int v0), (1, .int v1)] [] Φ
  refine tj_iload_n rfl dX3_withOneMore_0 rfl ?_
  refine tj_iconst (v := 1) rfl dX3_withOneMore_1 (by decide) ?_
  refine tj_iconst (v := 2) rfl dX3_withOneMore_2 (by decide) ?_
  refine tj_iload_n rfl dX3_withOneMore_3 rfl ?_
  refine tj_imul rfl dX3_withOneMore_4 ?_
  refine tj_ishl rfl dX3_withOneMore_5 ?_
  refine tj_iadd rfl dX3_withOneMore_6 ?_
  refine tj_sipush (v := 255) rfl dX3_withOneMore_7 (by decide) ?_
  refine tj_iand rfl dX3_withOneMore_10 ?_
  exact tj_ireturn (ty := .int) dX3_withOneMore_11 rfl rfl (Nat.zero_le _) (Nat.zero_le _) (hp _ _ _ h)
def wpX3_costWith (post : Int32 → MM → Int64 → Prop) (M : MM) (tl : Int64) (v1 : Int32) (v2 : Int32) (v3 : Int32) : Prop :=
  (vp_in v2 (al 4) ∧ wpX3_withOneMore (fun r4 M2 t3 => (vp_in r4 (al 50) ∧ post (((M 4 (v2 : Int32).toNatClampNeg) * v3) + (M2 50 (r4 : Int32).toNatClampNeg)) M2 t3)) M tl v1 v2)
set_option maxHeartbeats 4000000 in
set_option maxRecDepth 20000 in
theorem ctX3_costWith {E : EV} {ad : Nat → Nat} {M : MM} {tl : Int64} {Φ : Option Value → va_W → Prop} {post : Int32 → MM → Int64 → Prop} {v1 : Int32} {v2 : Int32} {v3 : Int32} (h : wpX3_costWith post M tl v1 v2 v3) (hp : ∀ r M tl, post r M tl → Φ (some (.int r)) (WM E ad M tl)) : Tm E kX3_costWith (WM E ad M tl) [.ref (ad (49)), .int v1, .int v2, .int v3] Φ := by
  unfold wpX3_costWith at h
  show T E kX3_costWith 0 0 (WM E ad M tl) 0 [(0, .ref (ad (49))), (1, .int v1), (2, .int v2), (3, .int v3)] [] Φ
  refine tj_aload_n rfl dX3_costWith_0 rfl ?_
  refine gf3_law (a := 49) rfl rfl dX3_costWith_1 fl_X3_21 ?_
  refine gf1_price (a := 3) rfl rfl dX3_costWith_4 fl_X3_69 ?_
  refine tj_iload_n rfl dX3_costWith_7 rfl ?_
  obtain ⟨hi1, h⟩ := h
  refine af_iald (a := 4) rfl rfl dX3_costWith_8 hi1 ?_
  refine tj_iload_n rfl dX3_costWith_9 rfl ?_
  refine tj_imul rfl dX3_costWith_10 ?_
  refine tj_aload_n rfl dX3_costWith_11 rfl ?_
  refine gf3_least (a := 49) rfl rfl dX3_costWith_12 fl_X3_11 ?_
  refine tj_iload_n rfl dX3_costWith_15 rfl ?_
  refine tj_iload_n rfl dX3_costWith_16 rfl ?_
  refine cf_S (z := kX3_withOneMore) (As := [_, _]) rfl dX3_costWith_17 rfl ml_X3_72 okX3_withOneMore rfl (rm_ok rfl) (Nat.le_of_ble_eq_true rfl) (Nat.le_of_ble_eq_true rfl) rfl ?_
  refine ctX3_withOneMore h (fun r4 M2 t3 h => ?_)
  obtain ⟨hi5, h⟩ := h
  refine af_iald (a := 50) rfl rfl dX3_costWith_20 hi5 ?_
  refine tj_iadd rfl dX3_costWith_21 ?_
  exact tj_ireturn (ty := .int) dX3_costWith_22 rfl rfl (Nat.zero_le _) (Nat.zero_le _) (hp _ _ _ h)
def wX3_leastFrom_35 (post : Int32 → MM → Int64 → Prop) (bk6 : MM → Int64 → Int32 → Int32 → Int32 → Int32 → Prop) (M : MM) (tl : Int64) (v1 : Int32) (v2 : Int32) (v3 : Int32) (v4 : Int32) : Prop :=
  bk6 M tl v1 v2 v3 (v4 + 1)
set_option maxHeartbeats 4000000 in
set_option maxRecDepth 20000 in
theorem bX3_leastFrom_35 {E : EV} {ad : Nat → Nat} {M : MM} {tl : Int64} {Φ : Option Value → va_W → Prop} {post : Int32 → MM → Int64 → Prop} {bk6 : MM → Int64 → Int32 → Int32 → Int32 → Int32 → Prop} {v1 : Int32} {v2 : Int32} {v3 : Int32} {v4 : Int32} (hp : ∀ r M tl, post r M tl → Φ (some (.int r)) (WM E ad M tl)) (hb6 : ∀ (M : MM) (tl : Int64) (v1 : Int32) (v2 : Int32) (v3 : Int32) (v4 : Int32), bk6 M tl v1 v2 v3 v4 → T E kX3_leastFrom 0 0 (WM E ad M tl) 6 [(0, .ref (ad (49))), (1, .int v1), (2, .int v2), (3, .int v3), (4, .int v4)] [] Φ) (h : wX3_leastFrom_35 post bk6 M tl v1 v2 v3 v4) : T E kX3_leastFrom 0 0 (WM E ad M tl) 35 [(0, .ref (ad (49))), (1, .int v1), (2, .int v2), (3, .int v3), (4, .int v4)] [] Φ := by
  unfold wX3_leastFrom_35 at h
  refine tj_iinc (v := _ + 1) (l' := [(0, _), (1, _), (2, _), (3, _), (4, _)]) rfl dX3_leastFrom_35 rfl (by decide) rfl rfl ?_
  refine tj_goto (tgt := 6) rfl dX3_leastFrom_38 ?_
  exact hb6 _ _ _ _ _ _ h
def wX3_leastFrom_6 (post : Int32 → MM → Int64 → Prop) : Nat → MM → Int64 → Int32 → Int32 → Int32 → Int32 → Prop
  | 0, _, _, _, _, _, _ => False
  | n + 1, M, tl, v1, v2, v3, v4 =>
    (if 4 ≤ v4 then post v3 M tl else wpX3_taken (fun r3 M1 t2 => (if 3 ≤ r3 then wX3_leastFrom_35 post (wX3_leastFrom_6 post n) M1 t2 v1 v2 v3 v4 else wpX3_costWith (fun r6 M4 t5 => wX3_leastFrom_35 post (wX3_leastFrom_6 post n) M4 t5 v1 v2 (if r6 < v3 then r6 else v3) v4) M1 t2 v1 v4 v2)) M tl v1 v4)
set_option maxHeartbeats 4000000 in
set_option maxRecDepth 20000 in
theorem bX3_leastFrom_6 {E : EV} {ad : Nat → Nat} {Φ : Option Value → va_W → Prop} {post : Int32 → MM → Int64 → Prop}  (hp : ∀ r M tl, post r M tl → Φ (some (.int r)) (WM E ad M tl)) : ∀ (n : Nat) (M : MM) (tl : Int64) (v1 : Int32) (v2 : Int32) (v3 : Int32) (v4 : Int32), wX3_leastFrom_6 post n M tl v1 v2 v3 v4 → T E kX3_leastFrom 0 0 (WM E ad M tl) 6 [(0, .ref (ad (49))), (1, .int v1), (2, .int v2), (3, .int v3), (4, .int v4)] [] Φ := by
  intro n
  induction n with
  | zero => intro M tl v1 v2 v3 v4 h; exact False.elim h
  | succ n ih =>
    intro M tl v1 v2 v3 v4 h
    unfold wX3_leastFrom_6 at h
    refine tj_iload rfl dX3_leastFrom_6 rfl ?_
    refine tj_iconst (v := 4) rfl dX3_leastFrom_8 (by decide) ?_
    refine tj_icmp_ge (tgt := 41) rfl rfl dX3_leastFrom_9 (fun hc => ?_) (fun hc => ?_)
    · rw [if_pos hc] at h
      refine tj_iload_n rfl dX3_leastFrom_41 rfl ?_
      exact tj_ireturn (ty := .int) dX3_leastFrom_42 rfl rfl (Nat.zero_le _) (Nat.zero_le _) (hp _ _ _ h)
    · rw [if_neg hc] at h
      refine tj_iload_n rfl dX3_leastFrom_12 rfl ?_
      refine tj_iload rfl dX3_leastFrom_13 rfl ?_
      refine cf_S (z := kX3_taken) (As := [_, _]) rfl dX3_leastFrom_15 rfl ml_X3_59 okX3_taken rfl (rm_ok rfl) (Nat.le_of_ble_eq_true rfl) (Nat.le_of_ble_eq_true rfl) rfl ?_
      refine ctX3_taken h (fun r3 M1 t2 h => ?_)
      refine tj_iconst (v := 3) rfl dX3_leastFrom_18 (by decide) ?_
      refine tj_icmp_ge (tgt := 35) rfl rfl dX3_leastFrom_19 (fun hc => ?_) (fun hc => ?_)
      · rw [if_pos hc] at h
        exact bX3_leastFrom_35 hp ih h
      · rw [if_neg hc] at h
        refine tj_iload_n rfl dX3_leastFrom_22 rfl ?_
        refine tj_aload_n rfl dX3_leastFrom_23 rfl ?_
        refine tj_iload_n rfl dX3_leastFrom_24 rfl ?_
        refine tj_iload rfl dX3_leastFrom_25 rfl ?_
        refine tj_iload_n rfl dX3_leastFrom_27 rfl ?_
        refine cf_V3 (a := 49) (z := kX3_costWith) (As := [_, _, _]) rfl rfl dX3_leastFrom_28 rfl ml_X3_76 okX3_costWith rfl (rm_ok rfl) (Nat.le_of_ble_eq_true rfl) (Nat.le_of_ble_eq_true rfl) rfl rfl ?_
        refine ctX3_costWith h (fun r6 M4 t5 h => ?_)
        refine tj_min ml_X3_41 rfl dX3_leastFrom_31 (Nat.le_of_ble_eq_true rfl) (Nat.le_of_ble_eq_true rfl) (Nat.zero_le _) (Nat.zero_le _) ?_
        refine tj_istore_n (l' := [(0, _), (1, _), (2, _), (3, _), (4, _)]) rfl dX3_leastFrom_34 (by decide) rfl ?_
        exact bX3_leastFrom_35 hp ih h
def wpX3_leastFrom (post : Int32 → MM → Int64 → Prop) (M : MM) (tl : Int64) (v1 : Int32) (v2 : Int32) : Prop :=
  (∃ n9, wX3_leastFrom_6 post  n9 M tl v1 v2 1000000 0)
set_option maxHeartbeats 4000000 in
set_option maxRecDepth 20000 in
theorem ctX3_leastFrom {E : EV} {ad : Nat → Nat} {M : MM} {tl : Int64} {Φ : Option Value → va_W → Prop} {post : Int32 → MM → Int64 → Prop} {v1 : Int32} {v2 : Int32} (h : wpX3_leastFrom post M tl v1 v2) (hp : ∀ r M tl, post r M tl → Φ (some (.int r)) (WM E ad M tl)) : Tm E kX3_leastFrom (WM E ad M tl) [.ref (ad (49)), .int v1, .int v2] Φ := by
  unfold wpX3_leastFrom at h
  show T E kX3_leastFrom 0 0 (WM E ad M tl) 0 [(0, .ref (ad (49))), (1, .int v1), (2, .int v2)] [] Φ
  refine tj_ldc rfl dX3_leastFrom_0 ki_X3_75 ?_
  refine tj_istore_n (l' := [(0, _), (1, _), (2, _), (3, _)]) rfl dX3_leastFrom_2 (by decide) rfl ?_
  refine tj_iconst (v := 0) rfl dX3_leastFrom_3 (by decide) ?_
  refine tj_istore (l' := [(0, _), (1, _), (2, _), (3, _), (4, _)]) rfl dX3_leastFrom_4 (by decide) rfl ?_
  obtain ⟨n9, h⟩ := h
  exact bX3_leastFrom_6 hp  n9 _ _ _ _ _ _ h
def wX3_placeWants_121 (post : MM → Int64 → Prop) (bk5 : MM → Int64 → Int32 → Int32 → Int32 → Int32 → Prop) (bk26 : MM → Int64 → Int32 → Int32 → Int32 → Int32 → Int32 → Int32 → Prop) (M : MM) (tl : Int64) (v1 : Int32) (v2 : Int32) (v3 : Int32) (v4 : Int32) (v5 : Int32) (v6 : Int32) : Prop :=
  bk26 M tl v1 v2 v3 v4 v5 (v6 + 1)
set_option maxHeartbeats 4000000 in
set_option maxRecDepth 20000 in
theorem bX3_placeWants_121 {E : EV} {ad : Nat → Nat} {M : MM} {tl : Int64} {Φ : Option Value → va_W → Prop} {post : MM → Int64 → Prop} {bk5 : MM → Int64 → Int32 → Int32 → Int32 → Int32 → Prop} {bk26 : MM → Int64 → Int32 → Int32 → Int32 → Int32 → Int32 → Int32 → Prop} {v1 : Int32} {v2 : Int32} {v3 : Int32} {v4 : Int32} {v5 : Int32} {v6 : Int32} (hp : ∀ M tl, post M tl → Φ none (WM E ad M tl)) (hb5 : ∀ (M : MM) (tl : Int64) (v1 : Int32) (v2 : Int32) (v3 : Int32) (v4 : Int32), bk5 M tl v1 v2 v3 v4 → T E kX3_placeWants 0 0 (WM E ad M tl) 5 [(0, .ref (ad (49))), (1, .int v1), (2, .int v2), (3, .int v3), (4, .int v4)] [] Φ) (hb26 : ∀ (M : MM) (tl : Int64) (v1 : Int32) (v2 : Int32) (v3 : Int32) (v4 : Int32) (v5 : Int32) (v6 : Int32), bk26 M tl v1 v2 v3 v4 v5 v6 → T E kX3_placeWants 0 0 (WM E ad M tl) 26 [(0, .ref (ad (49))), (1, .int v1), (2, .int v2), (3, .int v3), (4, .int v4), (5, .int v5), (6, .int v6)] [] Φ) (h : wX3_placeWants_121 post bk5 bk26 M tl v1 v2 v3 v4 v5 v6) : T E kX3_placeWants 0 0 (WM E ad M tl) 121 [(0, .ref (ad (49))), (1, .int v1), (2, .int v2), (3, .int v3), (4, .int v4), (5, .int v5), (6, .int v6)] [] Φ := by
  unfold wX3_placeWants_121 at h
  refine tj_iinc (v := _ + 1) (l' := [(0, _), (1, _), (2, _), (3, _), (4, _), (5, _), (6, _)]) rfl dX3_placeWants_121 rfl (by decide) rfl rfl ?_
  refine tj_goto (tgt := 26) rfl dX3_placeWants_124 ?_
  exact hb26 _ _ _ _ _ _ _ _ h
def wX3_placeWants_66 (post : MM → Int64 → Prop) (bk5 : MM → Int64 → Int32 → Int32 → Int32 → Int32 → Prop) (bk26 : MM → Int64 → Int32 → Int32 → Int32 → Int32 → Int32 → Int32 → Prop) (M : MM) (tl : Int64) (v1 : Int32) (v2 : Int32) (v3 : Int32) (v4 : Int32) (v5 : Int32) (v6 : Int32) (v7 : Int32) (s0 : Int32) : Prop :=
  (if s0 = 0 then wX3_placeWants_121 post bk5 bk26 M tl v1 v2 v3 v4 v5 v6 else (vp_in v4 (al 52) ∧ (if (M 52 (v4 : Int32).toNatClampNeg) ≤ v7 then wX3_placeWants_121 post bk5 bk26 M tl v1 v2 v3 v4 v5 v6 else (vp_in v4 (al 51) ∧ wpX3_costWith (fun r5 M3 t4 => (vp_in v3 (al 50) ∧ (if r5 = (M3 50 (v3 : Int32).toNatClampNeg) then (vp_in v4 (al 52) ∧ (∀ M8 : MM, M8 = mset M3 52 (v4 : Int32).toNatClampNeg v7 → wX3_placeWants_121 post bk5 bk26 M8 t4 v1 v2 v3 v4 v6 v6)) else wX3_placeWants_121 post bk5 bk26 M3 t4 v1 v2 v3 v4 v5 v6))) M tl v3 v6 (M 51 (v4 : Int32).toNatClampNeg)))))
set_option maxHeartbeats 4000000 in
set_option maxRecDepth 20000 in
theorem bX3_placeWants_66 {E : EV} {ad : Nat → Nat} {M : MM} {tl : Int64} {Φ : Option Value → va_W → Prop} {post : MM → Int64 → Prop} {bk5 : MM → Int64 → Int32 → Int32 → Int32 → Int32 → Prop} {bk26 : MM → Int64 → Int32 → Int32 → Int32 → Int32 → Int32 → Int32 → Prop} {v1 : Int32} {v2 : Int32} {v3 : Int32} {v4 : Int32} {v5 : Int32} {v6 : Int32} {v7 : Int32} {s0 : Int32} (hp : ∀ M tl, post M tl → Φ none (WM E ad M tl)) (hb5 : ∀ (M : MM) (tl : Int64) (v1 : Int32) (v2 : Int32) (v3 : Int32) (v4 : Int32), bk5 M tl v1 v2 v3 v4 → T E kX3_placeWants 0 0 (WM E ad M tl) 5 [(0, .ref (ad (49))), (1, .int v1), (2, .int v2), (3, .int v3), (4, .int v4)] [] Φ) (hb26 : ∀ (M : MM) (tl : Int64) (v1 : Int32) (v2 : Int32) (v3 : Int32) (v4 : Int32) (v5 : Int32) (v6 : Int32), bk26 M tl v1 v2 v3 v4 v5 v6 → T E kX3_placeWants 0 0 (WM E ad M tl) 26 [(0, .ref (ad (49))), (1, .int v1), (2, .int v2), (3, .int v3), (4, .int v4), (5, .int v5), (6, .int v6)] [] Φ) (h : wX3_placeWants_66 post bk5 bk26 M tl v1 v2 v3 v4 v5 v6 v7 s0) : T E kX3_placeWants 0 0 (WM E ad M tl) 66 [(0, .ref (ad (49))), (1, .int v1), (2, .int v2), (3, .int v3), (4, .int v4), (5, .int v5), (6, .int v6), (7, .int v7)] [.int s0] Φ := by
  unfold wX3_placeWants_66 at h
  refine tj_istore (l' := [(0, _), (1, _), (2, _), (3, _), (4, _), (5, _), (6, _), (7, _), (8, _)]) rfl dX3_placeWants_66 (by decide) rfl ?_
  refine tj_iload rfl dX3_placeWants_68 rfl ?_
  refine tj_if_eq (tgt := 121) rfl rfl dX3_placeWants_70 (fun hc => ?_) (fun hc => ?_)
  · rw [if_pos hc] at h
    exact tj_pick (l' := [(0, _), (1, _), (2, _), (3, _), (4, _), (5, _), (6, _)]) [0, 1, 2, 3, 4, 5, 6] rfl (bX3_placeWants_121 hp hb5 hb26 h)
  · rw [if_neg hc] at h
    refine tj_iload rfl dX3_placeWants_73 rfl ?_
    refine tj_aload_n rfl dX3_placeWants_75 rfl ?_
    refine gf3_months (a := 49) rfl rfl dX3_placeWants_76 fl_X3_18 ?_
    refine tj_iload rfl dX3_placeWants_79 rfl ?_
    obtain ⟨hi1, h⟩ := h
    refine af_iald (a := 52) rfl rfl dX3_placeWants_81 hi1 ?_
    refine tj_icmp_ge (tgt := 121) rfl rfl dX3_placeWants_82 (fun hc => ?_) (fun hc => ?_)
    · rw [if_pos hc] at h
      exact tj_pick (l' := [(0, _), (1, _), (2, _), (3, _), (4, _), (5, _), (6, _)]) [0, 1, 2, 3, 4, 5, 6] rfl (bX3_placeWants_121 hp hb5 hb26 h)
    · rw [if_neg hc] at h
      refine tj_aload_n rfl dX3_placeWants_85 rfl ?_
      refine tj_iload_n rfl dX3_placeWants_86 rfl ?_
      refine tj_iload rfl dX3_placeWants_87 rfl ?_
      refine tj_aload_n rfl dX3_placeWants_89 rfl ?_
      refine gf3_weights (a := 49) rfl rfl dX3_placeWants_90 fl_X3_15 ?_
      refine tj_iload rfl dX3_placeWants_93 rfl ?_
      obtain ⟨hi2, h⟩ := h
      refine af_iald (a := 51) rfl rfl dX3_placeWants_95 hi2 ?_
      refine cf_V3 (a := 49) (z := kX3_costWith) (As := [_, _, _]) rfl rfl dX3_placeWants_96 rfl ml_X3_76 okX3_costWith rfl (rm_ok rfl) (Nat.le_of_ble_eq_true rfl) (Nat.le_of_ble_eq_true rfl) rfl rfl ?_
      refine ctX3_costWith h (fun r5 M3 t4 h => ?_)
      refine tj_aload_n rfl dX3_placeWants_99 rfl ?_
      refine gf3_least (a := 49) rfl rfl dX3_placeWants_100 fl_X3_11 ?_
      refine tj_iload_n rfl dX3_placeWants_103 rfl ?_
      obtain ⟨hi6, h⟩ := h
      refine af_iald (a := 50) rfl rfl dX3_placeWants_104 hi6 ?_
      refine tj_icmp_ne (tgt := 121) rfl rfl dX3_placeWants_105 (fun hc => ?_) (fun hc => ?_)
      · rw [if_neg hc] at h
        exact tj_pick (l' := [(0, _), (1, _), (2, _), (3, _), (4, _), (5, _), (6, _)]) [0, 1, 2, 3, 4, 5, 6] rfl (bX3_placeWants_121 hp hb5 hb26 h)
      · rw [if_pos hc] at h
        refine tj_aload_n rfl dX3_placeWants_108 rfl ?_
        refine gf3_months (a := 49) rfl rfl dX3_placeWants_109 fl_X3_18 ?_
        refine tj_iload rfl dX3_placeWants_112 rfl ?_
        refine tj_iload rfl dX3_placeWants_114 rfl ?_
        obtain ⟨hi7, h⟩ := h
        refine af_iast (a := 52) rfl rfl dX3_placeWants_116 hi7 ?_
        replace h := h _ rfl
        generalize mset M3 52 (v4 : Int32).toNatClampNeg v7 = M8 at h ⊢
        refine tj_iload rfl dX3_placeWants_117 rfl ?_
        refine tj_istore (l' := [(0, _), (1, _), (2, _), (3, _), (4, _), (5, _), (6, _), (7, _), (8, _)]) rfl dX3_placeWants_119 (by decide) rfl ?_
        exact tj_pick (l' := [(0, _), (1, _), (2, _), (3, _), (4, _), (5, _), (6, _)]) [0, 1, 2, 3, 4, 5, 6] rfl (bX3_placeWants_121 hp hb5 hb26 h)
def wX3_placeWants_26 (post : MM → Int64 → Prop) (bk5 : MM → Int64 → Int32 → Int32 → Int32 → Int32 → Prop) : Nat → MM → Int64 → Int32 → Int32 → Int32 → Int32 → Int32 → Int32 → Prop
  | 0, _, _, _, _, _, _, _, _ => False
  | n + 1, M, tl, v1, v2, v3, v4, v5, v6 =>
    (if 4 ≤ v6 then wpX3_withOneMore (fun r3 M1 t2 => bk5 M1 t2 v1 v2 r3 (v4 + 1)) M tl v3 v5 else wpX3_taken (fun r6 M4 t5 => wpX3_taken (fun r9 M7 t8 => (if 3 ≤ r9 then wX3_placeWants_66 post bk5 (wX3_placeWants_26 post bk5 n) M7 t8 v1 v2 v3 v4 v5 v6 ((v1 + ((v6 - v1) &&& 3)) + ((4 : Int32) * r6)) 0 else wX3_placeWants_66 post bk5 (wX3_placeWants_26 post bk5 n) M7 t8 v1 v2 v3 v4 v5 v6 ((v1 + ((v6 - v1) &&& 3)) + ((4 : Int32) * r6)) 1)) M4 t5 v3 v6) M tl v3 v6)
set_option maxHeartbeats 4000000 in
set_option maxRecDepth 20000 in
theorem bX3_placeWants_26 {E : EV} {ad : Nat → Nat} {Φ : Option Value → va_W → Prop} {post : MM → Int64 → Prop} {bk5 : MM → Int64 → Int32 → Int32 → Int32 → Int32 → Prop}  (hp : ∀ M tl, post M tl → Φ none (WM E ad M tl)) (hb5 : ∀ (M : MM) (tl : Int64) (v1 : Int32) (v2 : Int32) (v3 : Int32) (v4 : Int32), bk5 M tl v1 v2 v3 v4 → T E kX3_placeWants 0 0 (WM E ad M tl) 5 [(0, .ref (ad (49))), (1, .int v1), (2, .int v2), (3, .int v3), (4, .int v4)] [] Φ) : ∀ (n : Nat) (M : MM) (tl : Int64) (v1 : Int32) (v2 : Int32) (v3 : Int32) (v4 : Int32) (v5 : Int32) (v6 : Int32), wX3_placeWants_26 post bk5 n M tl v1 v2 v3 v4 v5 v6 → T E kX3_placeWants 0 0 (WM E ad M tl) 26 [(0, .ref (ad (49))), (1, .int v1), (2, .int v2), (3, .int v3), (4, .int v4), (5, .int v5), (6, .int v6)] [] Φ := by
  intro n
  induction n with
  | zero => intro M tl v1 v2 v3 v4 v5 v6 h; exact False.elim h
  | succ n ih =>
    intro M tl v1 v2 v3 v4 v5 v6 h
    unfold wX3_placeWants_26 at h
    refine tj_iload rfl dX3_placeWants_26 rfl ?_
    refine tj_iconst (v := 4) rfl dX3_placeWants_28 (by decide) ?_
    refine tj_icmp_ge (tgt := 127) rfl rfl dX3_placeWants_29 (fun hc => ?_) (fun hc => ?_)
    · rw [if_pos hc] at h
      refine tj_iload_n rfl dX3_placeWants_127 rfl ?_
      refine tj_iload rfl dX3_placeWants_128 rfl ?_
      refine cf_S (z := kX3_withOneMore) (As := [_, _]) rfl dX3_placeWants_130 rfl ml_X3_72 okX3_withOneMore rfl (rm_ok rfl) (Nat.le_of_ble_eq_true rfl) (Nat.le_of_ble_eq_true rfl) rfl ?_
      refine ctX3_withOneMore h (fun r3 M1 t2 h => ?_)
      refine tj_istore_n (l' := [(0, _), (1, _), (2, _), (3, _), (4, _), (5, _), (6, _)]) rfl dX3_placeWants_133 (by decide) rfl ?_
      refine tj_iinc (v := _ + 1) (l' := [(0, _), (1, _), (2, _), (3, _), (4, _), (5, _), (6, _)]) rfl dX3_placeWants_134 rfl (by decide) rfl rfl ?_
      refine tj_goto (tgt := 5) rfl dX3_placeWants_137 ?_
      exact tj_pick (l' := [(0, _), (1, _), (2, _), (3, _), (4, _)]) [0, 1, 2, 3, 4] rfl (hb5 _ _ _ _ _ _ h)
    · rw [if_neg hc] at h
      refine tj_iload_n rfl dX3_placeWants_32 rfl ?_
      refine tj_iload rfl dX3_placeWants_33 rfl ?_
      refine tj_iload_n rfl dX3_placeWants_35 rfl ?_
      refine tj_isub rfl dX3_placeWants_36 ?_
      refine tj_iconst (v := 3) rfl dX3_placeWants_37 (by decide) ?_
      refine tj_iand rfl dX3_placeWants_38 ?_
      refine tj_iadd rfl dX3_placeWants_39 ?_
      refine tj_iconst (v := 4) rfl dX3_placeWants_40 (by decide) ?_
      refine tj_iload_n rfl dX3_placeWants_41 rfl ?_
      refine tj_iload rfl dX3_placeWants_42 rfl ?_
      refine cf_S (z := kX3_taken) (As := [_, _]) rfl dX3_placeWants_44 rfl ml_X3_59 okX3_taken rfl (rm_ok rfl) (Nat.le_of_ble_eq_true rfl) (Nat.le_of_ble_eq_true rfl) rfl ?_
      refine ctX3_taken h (fun r6 M4 t5 h => ?_)
      refine tj_imul rfl dX3_placeWants_47 ?_
      refine tj_iadd rfl dX3_placeWants_48 ?_
      refine tj_istore (l' := [(0, _), (1, _), (2, _), (3, _), (4, _), (5, _), (6, _), (7, _)]) rfl dX3_placeWants_49 (by decide) rfl ?_
      refine tj_iload_n rfl dX3_placeWants_51 rfl ?_
      refine tj_iload rfl dX3_placeWants_52 rfl ?_
      refine cf_S (z := kX3_taken) (As := [_, _]) rfl dX3_placeWants_54 rfl ml_X3_59 okX3_taken rfl (rm_ok rfl) (Nat.le_of_ble_eq_true rfl) (Nat.le_of_ble_eq_true rfl) rfl ?_
      refine ctX3_taken h (fun r9 M7 t8 h => ?_)
      refine tj_iconst (v := 3) rfl dX3_placeWants_57 (by decide) ?_
      refine tj_icmp_ge (tgt := 65) rfl rfl dX3_placeWants_58 (fun hc => ?_) (fun hc => ?_)
      · rw [if_pos hc] at h
        refine tj_iconst (v := 0) rfl dX3_placeWants_65 (by decide) ?_
        exact bX3_placeWants_66 hp hb5 ih h
      · rw [if_neg hc] at h
        refine tj_iconst (v := 1) rfl dX3_placeWants_61 (by decide) ?_
        refine tj_goto (tgt := 66) rfl dX3_placeWants_62 ?_
        exact bX3_placeWants_66 hp hb5 ih h
def wX3_placeWants_5 (post : MM → Int64 → Prop) : Nat → MM → Int64 → Int32 → Int32 → Int32 → Int32 → Prop
  | 0, _, _, _, _, _, _ => False
  | n + 1, M, tl, v1, v2, v3, v4 =>
    (if v2 ≤ v4 then post M tl else (vp_in v4 (al 52) ∧ (∀ M2 : MM, M2 = mset M 52 (v4 : Int32).toNatClampNeg 1000000 → (∃ n9, wX3_placeWants_26 post (wX3_placeWants_5 post n) n9 M2 tl v1 v2 v3 v4 0 0))))
set_option maxHeartbeats 4000000 in
set_option maxRecDepth 20000 in
theorem bX3_placeWants_5 {E : EV} {ad : Nat → Nat} {Φ : Option Value → va_W → Prop} {post : MM → Int64 → Prop}  (hp : ∀ M tl, post M tl → Φ none (WM E ad M tl)) : ∀ (n : Nat) (M : MM) (tl : Int64) (v1 : Int32) (v2 : Int32) (v3 : Int32) (v4 : Int32), wX3_placeWants_5 post n M tl v1 v2 v3 v4 → T E kX3_placeWants 0 0 (WM E ad M tl) 5 [(0, .ref (ad (49))), (1, .int v1), (2, .int v2), (3, .int v3), (4, .int v4)] [] Φ := by
  intro n
  induction n with
  | zero => intro M tl v1 v2 v3 v4 h; exact False.elim h
  | succ n ih =>
    intro M tl v1 v2 v3 v4 h
    unfold wX3_placeWants_5 at h
    refine tj_iload rfl dX3_placeWants_5 rfl ?_
    refine tj_iload_n rfl dX3_placeWants_7 rfl ?_
    refine tj_icmp_ge (tgt := 140) rfl rfl dX3_placeWants_8 (fun hc => ?_) (fun hc => ?_)
    · rw [if_pos hc] at h
      exact tj_return dX3_placeWants_140 rfl (Nat.zero_le _) (Nat.zero_le _) (hp _ _ h)
    · rw [if_neg hc] at h
      refine tj_iconst (v := 0) rfl dX3_placeWants_11 (by decide) ?_
      refine tj_istore (l' := [(0, _), (1, _), (2, _), (3, _), (4, _), (5, _)]) rfl dX3_placeWants_12 (by decide) rfl ?_
      refine tj_aload_n rfl dX3_placeWants_14 rfl ?_
      refine gf3_months (a := 49) rfl rfl dX3_placeWants_15 fl_X3_18 ?_
      refine tj_iload rfl dX3_placeWants_18 rfl ?_
      refine tj_ldc rfl dX3_placeWants_20 ki_X3_75 ?_
      obtain ⟨hi1, h⟩ := h
      refine af_iast (a := 52) rfl rfl dX3_placeWants_22 hi1 ?_
      replace h := h _ rfl
      generalize mset M 52 (v4 : Int32).toNatClampNeg 1000000 = M2 at h ⊢
      refine tj_iconst (v := 0) rfl dX3_placeWants_23 (by decide) ?_
      refine tj_istore (l' := [(0, _), (1, _), (2, _), (3, _), (4, _), (5, _), (6, _)]) rfl dX3_placeWants_24 (by decide) rfl ?_
      obtain ⟨n9, h⟩ := h
      exact bX3_placeWants_26 hp ih n9 _ _ _ _ _ _ _ _ h
def wpX3_placeWants (post : MM → Int64 → Prop) (M : MM) (tl : Int64) (v1 : Int32) (v2 : Int32) : Prop :=
  (∃ n9, wX3_placeWants_5 post  n9 M tl v1 v2 0 0)
set_option maxHeartbeats 4000000 in
set_option maxRecDepth 20000 in
theorem ctX3_placeWants {E : EV} {ad : Nat → Nat} {M : MM} {tl : Int64} {Φ : Option Value → va_W → Prop} {post : MM → Int64 → Prop} {v1 : Int32} {v2 : Int32} (h : wpX3_placeWants post M tl v1 v2) (hp : ∀ M tl, post M tl → Φ none (WM E ad M tl)) : Tm E kX3_placeWants (WM E ad M tl) [.ref (ad (49)), .int v1, .int v2] Φ := by
  unfold wpX3_placeWants at h
  show T E kX3_placeWants 0 0 (WM E ad M tl) 0 [(0, .ref (ad (49))), (1, .int v1), (2, .int v2)] [] Φ
  refine tj_iconst (v := 0) rfl dX3_placeWants_0 (by decide) ?_
  refine tj_istore_n (l' := [(0, _), (1, _), (2, _), (3, _)]) rfl dX3_placeWants_1 (by decide) rfl ?_
  refine tj_iconst (v := 0) rfl dX3_placeWants_2 (by decide) ?_
  refine tj_istore (l' := [(0, _), (1, _), (2, _), (3, _), (4, _)]) rfl dX3_placeWants_3 (by decide) rfl ?_
  obtain ⟨n9, h⟩ := h
  exact bX3_placeWants_5 hp  n9 _ _ _ _ _ _ h
def wX3_findPlan_137 (post : Int32 → MM → Int64 → Prop) (bk81 : MM → Int64 → Int32 → Int32 → Int32 → Prop) (M : MM) (tl : Int64) (v1 : Int32) (v2 : Int32) (v3 : Int32) (s1 : Int32) (s2 : Int32) : Prop :=
  (vp_in s1 (al 50) ∧ (∀ M2 : MM, M2 = mset M 50 (s1 : Int32).toNatClampNeg s2 → bk81 M2 tl v1 v2 (v3 + (-1))))
set_option maxHeartbeats 4000000 in
set_option maxRecDepth 20000 in
theorem bX3_findPlan_137 {E : EV} {ad : Nat → Nat} {M : MM} {tl : Int64} {Φ : Option Value → va_W → Prop} {post : Int32 → MM → Int64 → Prop} {bk81 : MM → Int64 → Int32 → Int32 → Int32 → Prop} {v1 : Int32} {v2 : Int32} {v3 : Int32} {s1 : Int32} {s2 : Int32} (hp : ∀ r M tl, post r M tl → Φ (some (.int r)) (WM E ad M tl)) (hb81 : ∀ (M : MM) (tl : Int64) (v1 : Int32) (v2 : Int32) (v3 : Int32), bk81 M tl v1 v2 v3 → T E kX3_findPlan 0 0 (WM E ad M tl) 81 [(0, .ref (ad (49))), (1, .int v1), (2, .int v2), (3, .int v3)] [] Φ) (h : wX3_findPlan_137 post bk81 M tl v1 v2 v3 s1 s2) : T E kX3_findPlan 0 0 (WM E ad M tl) 137 [(0, .ref (ad (49))), (1, .int v1), (2, .int v2), (3, .int v3)] [.int s2, .int s1, .ref (ad (50))] Φ := by
  unfold wX3_findPlan_137 at h
  obtain ⟨hi1, h⟩ := h
  refine af_iast (a := 50) rfl rfl dX3_findPlan_137 hi1 ?_
  replace h := h _ rfl
  generalize mset M 50 (s1 : Int32).toNatClampNeg s2 = M2 at h ⊢
  refine tj_iinc (v := _ + (-1)) (l' := [(0, _), (1, _), (2, _), (3, _)]) rfl dX3_findPlan_138 rfl (by decide) rfl rfl ?_
  refine tj_goto (tgt := 81) rfl dX3_findPlan_141 ?_
  exact hb81 _ _ _ _ _ h
def wX3_findPlan_81 (post : Int32 → MM → Int64 → Prop) : Nat → MM → Int64 → Int32 → Int32 → Int32 → Prop
  | 0, _, _, _, _, _ => False
  | n + 1, M, tl, v1, v2, v3 =>
    (if v3 < 0 then wpX3_placeWants (fun M1 t2 => (vp_in 0 (al 50) ∧ post (M1 50 (0 : Int32).toNatClampNeg) M1 t2)) M tl v1 v2 else wpX3_taken (fun r6 M4 t5 => wpX3_taken (fun r9 M7 t8 => wpX3_taken (fun r12 M10 t11 => wpX3_taken (fun r15 M13 t14 => (if v2 ≤ (((r6 + r9) + r12) + r15) then wX3_findPlan_137 post (wX3_findPlan_81 post n) M13 t14 v1 v2 v3 v3 0 else (vp_in (((r6 + r9) + r12) + r15) (al 51) ∧ wpX3_leastFrom (fun r19 M17 t18 => wX3_findPlan_137 post (wX3_findPlan_81 post n) M17 t18 v1 v2 v3 v3 r19) M13 t14 v3 (M13 51 (((r6 + r9) + r12) + r15 : Int32).toNatClampNeg)))) M10 t11 v3 3) M7 t8 v3 2) M4 t5 v3 1) M tl v3 0)
set_option maxHeartbeats 4000000 in
set_option maxRecDepth 20000 in
theorem bX3_findPlan_81 {E : EV} {ad : Nat → Nat} {Φ : Option Value → va_W → Prop} {post : Int32 → MM → Int64 → Prop}  (hp : ∀ r M tl, post r M tl → Φ (some (.int r)) (WM E ad M tl)) : ∀ (n : Nat) (M : MM) (tl : Int64) (v1 : Int32) (v2 : Int32) (v3 : Int32), wX3_findPlan_81 post n M tl v1 v2 v3 → T E kX3_findPlan 0 0 (WM E ad M tl) 81 [(0, .ref (ad (49))), (1, .int v1), (2, .int v2), (3, .int v3)] [] Φ := by
  intro n
  induction n with
  | zero => intro M tl v1 v2 v3 h; exact False.elim h
  | succ n ih =>
    intro M tl v1 v2 v3 h
    unfold wX3_findPlan_81 at h
    refine tj_iload_n rfl dX3_findPlan_81 rfl ?_
    refine tj_if_lt (tgt := 144) rfl rfl dX3_findPlan_82 (fun hc => ?_) (fun hc => ?_)
    · rw [if_pos hc] at h
      refine tj_aload_n rfl dX3_findPlan_144 rfl ?_
      refine tj_iload_n rfl dX3_findPlan_145 rfl ?_
      refine tj_iload_n rfl dX3_findPlan_146 rfl ?_
      refine cf_V3 (a := 49) (z := kX3_placeWants) (As := [_, _]) rfl rfl dX3_findPlan_147 rfl ml_X3_65 okX3_placeWants rfl (rm_ok rfl) (Nat.le_of_ble_eq_true rfl) (Nat.le_of_ble_eq_true rfl) rfl rfl ?_
      refine ctX3_placeWants h (fun M1 t2 h => ?_)
      refine tj_aload_n rfl dX3_findPlan_150 rfl ?_
      refine gf3_least (a := 49) rfl rfl dX3_findPlan_151 fl_X3_11 ?_
      refine tj_iconst (v := 0) rfl dX3_findPlan_154 (by decide) ?_
      obtain ⟨hi3, h⟩ := h
      refine af_iald (a := 50) rfl rfl dX3_findPlan_155 hi3 ?_
      exact tj_ireturn (ty := .int) dX3_findPlan_156 rfl rfl (Nat.zero_le _) (Nat.zero_le _) (hp _ _ _ h)
    · rw [if_neg hc] at h
      refine tj_iload_n rfl dX3_findPlan_85 rfl ?_
      refine tj_iconst (v := 0) rfl dX3_findPlan_86 (by decide) ?_
      refine cf_S (z := kX3_taken) (As := [_, _]) rfl dX3_findPlan_87 rfl ml_X3_59 okX3_taken rfl (rm_ok rfl) (Nat.le_of_ble_eq_true rfl) (Nat.le_of_ble_eq_true rfl) rfl ?_
      refine ctX3_taken h (fun r6 M4 t5 h => ?_)
      refine tj_iload_n rfl dX3_findPlan_90 rfl ?_
      refine tj_iconst (v := 1) rfl dX3_findPlan_91 (by decide) ?_
      refine cf_S (z := kX3_taken) (As := [_, _]) rfl dX3_findPlan_92 rfl ml_X3_59 okX3_taken rfl (rm_ok rfl) (Nat.le_of_ble_eq_true rfl) (Nat.le_of_ble_eq_true rfl) rfl ?_
      refine ctX3_taken h (fun r9 M7 t8 h => ?_)
      refine tj_iadd rfl dX3_findPlan_95 ?_
      refine tj_iload_n rfl dX3_findPlan_96 rfl ?_
      refine tj_iconst (v := 2) rfl dX3_findPlan_97 (by decide) ?_
      refine cf_S (z := kX3_taken) (As := [_, _]) rfl dX3_findPlan_98 rfl ml_X3_59 okX3_taken rfl (rm_ok rfl) (Nat.le_of_ble_eq_true rfl) (Nat.le_of_ble_eq_true rfl) rfl ?_
      refine ctX3_taken h (fun r12 M10 t11 h => ?_)
      refine tj_iadd rfl dX3_findPlan_101 ?_
      refine tj_iload_n rfl dX3_findPlan_102 rfl ?_
      refine tj_iconst (v := 3) rfl dX3_findPlan_103 (by decide) ?_
      refine cf_S (z := kX3_taken) (As := [_, _]) rfl dX3_findPlan_104 rfl ml_X3_59 okX3_taken rfl (rm_ok rfl) (Nat.le_of_ble_eq_true rfl) (Nat.le_of_ble_eq_true rfl) rfl ?_
      refine ctX3_taken h (fun r15 M13 t14 h => ?_)
      refine tj_iadd rfl dX3_findPlan_107 ?_
      refine tj_istore (l' := [(0, _), (1, _), (2, _), (3, _), (4, _)]) rfl dX3_findPlan_108 (by decide) rfl ?_
      refine tj_aload_n rfl dX3_findPlan_110 rfl ?_
      refine gf3_least (a := 49) rfl rfl dX3_findPlan_111 fl_X3_11 ?_
      refine tj_iload_n rfl dX3_findPlan_114 rfl ?_
      refine tj_iload rfl dX3_findPlan_115 rfl ?_
      refine tj_iload_n rfl dX3_findPlan_117 rfl ?_
      refine tj_icmp_ge (tgt := 136) rfl rfl dX3_findPlan_118 (fun hc => ?_) (fun hc => ?_)
      · rw [if_pos hc] at h
        refine tj_iconst (v := 0) rfl dX3_findPlan_136 (by decide) ?_
        exact tj_pick (l' := [(0, _), (1, _), (2, _), (3, _)]) [0, 1, 2, 3] rfl (bX3_findPlan_137 hp ih h)
      · rw [if_neg hc] at h
        refine tj_aload_n rfl dX3_findPlan_121 rfl ?_
        refine tj_iload_n rfl dX3_findPlan_122 rfl ?_
        refine tj_aload_n rfl dX3_findPlan_123 rfl ?_
        refine gf3_weights (a := 49) rfl rfl dX3_findPlan_124 fl_X3_15 ?_
        refine tj_iload rfl dX3_findPlan_127 rfl ?_
        obtain ⟨hi16, h⟩ := h
        refine af_iald (a := 51) rfl rfl dX3_findPlan_129 hi16 ?_
        refine cf_V3 (a := 49) (z := kX3_leastFrom) (As := [_, _]) rfl rfl dX3_findPlan_130 rfl ml_X3_62 okX3_leastFrom rfl (rm_ok rfl) (Nat.le_of_ble_eq_true rfl) (Nat.le_of_ble_eq_true rfl) rfl rfl ?_
        refine ctX3_leastFrom h (fun r19 M17 t18 h => ?_)
        refine tj_goto (tgt := 137) rfl dX3_findPlan_133 ?_
        exact tj_pick (l' := [(0, _), (1, _), (2, _), (3, _)]) [0, 1, 2, 3] rfl (bX3_findPlan_137 hp ih h)
def wX3_findPlan_18 (post : Int32 → MM → Int64 → Prop) : Nat → MM → Int64 → Int32 → Int32 → Int32 → Prop
  | 0, _, _, _, _, _ => False
  | n + 1, M, tl, v1, v2, v3 =>
    (if v2 ≤ v3 then (∃ n9, wX3_findPlan_81 post  n9 M tl v1 v2 255) else wpX5_cell (fun r3 M1 t2 => wpX1_costOf (fun r6 M4 t5 => wpX1_twinOf (fun r9 M7 t8 => wpX1_costOf (fun r12 M10 t11 => (vp_in v3 (al 51) ∧ (∀ M14 : MM, M14 = mset M10 51 (v3 : Int32).toNatClampNeg (r6 + r12) → (wX3_findPlan_18 post n) M14 t11 v1 v2 (v3 + 1)))) M7 t8 3 1 r9) M4 t5 3 r3) M1 t2 3 0 r3) M tl 18 v3 1)
set_option maxHeartbeats 4000000 in
set_option maxRecDepth 20000 in
theorem bX3_findPlan_18 {E : EV} {ad : Nat → Nat} {Φ : Option Value → va_W → Prop} {post : Int32 → MM → Int64 → Prop}  (hp : ∀ r M tl, post r M tl → Φ (some (.int r)) (WM E ad M tl)) : ∀ (n : Nat) (M : MM) (tl : Int64) (v1 : Int32) (v2 : Int32) (v3 : Int32), wX3_findPlan_18 post n M tl v1 v2 v3 → T E kX3_findPlan 0 0 (WM E ad M tl) 18 [(0, .ref (ad (49))), (1, .int v1), (2, .int v2), (3, .int v3)] [] Φ := by
  intro n
  induction n with
  | zero => intro M tl v1 v2 v3 h; exact False.elim h
  | succ n ih =>
    intro M tl v1 v2 v3 h
    unfold wX3_findPlan_18 at h
    refine tj_iload_n rfl dX3_findPlan_18 rfl ?_
    refine tj_iload_n rfl dX3_findPlan_19 rfl ?_
    refine tj_icmp_ge (tgt := 77) rfl rfl dX3_findPlan_20 (fun hc => ?_) (fun hc => ?_)
    · rw [if_pos hc] at h
      refine tj_sipush (v := 255) rfl dX3_findPlan_77 (by decide) ?_
      refine tj_istore_n (l' := [(0, _), (1, _), (2, _), (3, _)]) rfl dX3_findPlan_80 (by decide) rfl ?_
      obtain ⟨n9, h⟩ := h
      exact bX3_findPlan_81 hp  n9 _ _ _ _ _ h
    · rw [if_neg hc] at h
      refine tj_aload_n rfl dX3_findPlan_23 rfl ?_
      refine gf3_scene (a := 49) rfl rfl dX3_findPlan_24 fl_X3_25 ?_
      refine gf7_wants (a := 14) rfl rfl dX3_findPlan_27 fl_X3_29 ?_
      refine tj_iload_n rfl dX3_findPlan_30 rfl ?_
      refine tj_iconst (v := 1) rfl dX3_findPlan_31 (by decide) ?_
      refine cf_V5 (a := 18) (z := kX5_cell) (As := [_, _]) rfl rfl dX3_findPlan_32 rfl ml_X3_47 okX5_cell rfl (rm_ok rfl) (Nat.le_of_ble_eq_true rfl) (Nat.le_of_ble_eq_true rfl) rfl rfl ?_
      refine ctX5_cell h (fun r3 M1 t2 h => ?_)
      refine tj_istore (l' := [(0, _), (1, _), (2, _), (3, _), (4, _)]) rfl dX3_findPlan_35 (by decide) rfl ?_
      refine tj_aload_n rfl dX3_findPlan_37 rfl ?_
      refine gf3_weights (a := 49) rfl rfl dX3_findPlan_38 fl_X3_15 ?_
      refine tj_iload_n rfl dX3_findPlan_41 rfl ?_
      refine tj_aload_n rfl dX3_findPlan_42 rfl ?_
      refine gf3_law (a := 49) rfl rfl dX3_findPlan_43 fl_X3_21 ?_
      refine tj_iconst (v := 0) rfl dX3_findPlan_46 (by decide) ?_
      refine tj_iload rfl dX3_findPlan_47 rfl ?_
      refine cf_V1 (a := 3) (z := kX1_costOf) (As := [_, _]) rfl rfl dX3_findPlan_49 rfl ml_X3_50 okX1_costOf rfl (rm_ok rfl) (Nat.le_of_ble_eq_true rfl) (Nat.le_of_ble_eq_true rfl) rfl rfl ?_
      refine ctX1_costOf h (fun r6 M4 t5 h => ?_)
      refine tj_aload_n rfl dX3_findPlan_52 rfl ?_
      refine gf3_law (a := 49) rfl rfl dX3_findPlan_53 fl_X3_21 ?_
      refine tj_iconst (v := 1) rfl dX3_findPlan_56 (by decide) ?_
      refine tj_aload_n rfl dX3_findPlan_57 rfl ?_
      refine gf3_law (a := 49) rfl rfl dX3_findPlan_58 fl_X3_21 ?_
      refine tj_iload rfl dX3_findPlan_61 rfl ?_
      refine cf_V1 (a := 3) (z := kX1_twinOf) (As := [_]) rfl rfl dX3_findPlan_63 rfl ml_X3_55 okX1_twinOf rfl (rm_ok rfl) (Nat.le_of_ble_eq_true rfl) (Nat.le_of_ble_eq_true rfl) rfl rfl ?_
      refine ctX1_twinOf h (fun r9 M7 t8 h => ?_)
      refine cf_V1 (a := 3) (z := kX1_costOf) (As := [_, _]) rfl rfl dX3_findPlan_66 rfl ml_X3_50 okX1_costOf rfl (rm_ok rfl) (Nat.le_of_ble_eq_true rfl) (Nat.le_of_ble_eq_true rfl) rfl rfl ?_
      refine ctX1_costOf h (fun r12 M10 t11 h => ?_)
      refine tj_iadd rfl dX3_findPlan_69 ?_
      obtain ⟨hi13, h⟩ := h
      refine af_iast (a := 51) rfl rfl dX3_findPlan_70 hi13 ?_
      replace h := h _ rfl
      generalize mset M10 51 (v3 : Int32).toNatClampNeg (r6 + r12) = M14 at h ⊢
      refine tj_iinc (v := _ + 1) (l' := [(0, _), (1, _), (2, _), (3, _), (4, _)]) rfl dX3_findPlan_71 rfl (by decide) rfl rfl ?_
      refine tj_goto (tgt := 18) rfl dX3_findPlan_74 ?_
      exact tj_pick (l' := [(0, _), (1, _), (2, _), (3, _)]) [0, 1, 2, 3] rfl (ih _ _ _ _ _ h)
def wpX3_findPlan (post : Int32 → MM → Int64 → Prop) (M : MM) (tl : Int64) (v1 : Int32) : Prop :=
  (∃ n9, wX3_findPlan_18 post  n9 M tl v1 (if 6 < (M 18 3) then 6 else M 18 3) 0)
set_option maxHeartbeats 4000000 in
set_option maxRecDepth 20000 in
theorem ctX3_findPlan {E : EV} {ad : Nat → Nat} {M : MM} {tl : Int64} {Φ : Option Value → va_W → Prop} {post : Int32 → MM → Int64 → Prop} {v1 : Int32} (h : wpX3_findPlan post M tl v1) (hp : ∀ r M tl, post r M tl → Φ (some (.int r)) (WM E ad M tl)) : Tm E kX3_findPlan (WM E ad M tl) [.ref (ad (49)), .int v1] Φ := by
  unfold wpX3_findPlan at h
  show T E kX3_findPlan 0 0 (WM E ad M tl) 0 [(0, .ref (ad (49))), (1, .int v1)] [] Φ
  refine tj_aload_n rfl dX3_findPlan_0 rfl ?_
  refine gf3_scene (a := 49) rfl rfl dX3_findPlan_1 fl_X3_25 ?_
  refine gf7_wants (a := 14) rfl rfl dX3_findPlan_4 fl_X3_29 ?_
  refine gf5_size (a := 18) rfl rfl dX3_findPlan_7 fl_X3_35 ?_
  refine tj_bipush (v := 6) rfl dX3_findPlan_10 (by decide) ?_
  refine tj_min ml_X3_41 rfl dX3_findPlan_12 (Nat.le_of_ble_eq_true rfl) (Nat.le_of_ble_eq_true rfl) (Nat.zero_le _) (Nat.zero_le _) ?_
  refine tj_istore_n (l' := [(0, _), (1, _), (2, _)]) rfl dX3_findPlan_15 (by decide) rfl ?_
  refine tj_iconst (v := 0) rfl dX3_findPlan_16 (by decide) ?_
  refine tj_istore_n (l' := [(0, _), (1, _), (2, _), (3, _)]) rfl dX3_findPlan_17 (by decide) rfl ?_
  obtain ⟨n9, h⟩ := h
  exact bX3_findPlan_18 hp  n9 _ _ _ _ _ h
def wX3_kindsBarred_68 (post : Int32 → MM → Int64 → Prop) (bk4 : MM → Int64 → Int32 → Int32 → Prop) (M : MM) (tl : Int64) (v1 : Int32) (v2 : Int32) : Prop :=
  bk4 M tl v1 (v2 + 1)
set_option maxHeartbeats 4000000 in
set_option maxRecDepth 20000 in
theorem bX3_kindsBarred_68 {E : EV} {ad : Nat → Nat} {M : MM} {tl : Int64} {Φ : Option Value → va_W → Prop} {post : Int32 → MM → Int64 → Prop} {bk4 : MM → Int64 → Int32 → Int32 → Prop} {v1 : Int32} {v2 : Int32} (hp : ∀ r M tl, post r M tl → Φ (some (.int r)) (WM E ad M tl)) (hb4 : ∀ (M : MM) (tl : Int64) (v1 : Int32) (v2 : Int32), bk4 M tl v1 v2 → T E kX3_kindsBarred 0 0 (WM E ad M tl) 4 [(0, .ref (ad (49))), (1, .int v1), (2, .int v2)] [] Φ) (h : wX3_kindsBarred_68 post bk4 M tl v1 v2) : T E kX3_kindsBarred 0 0 (WM E ad M tl) 68 [(0, .ref (ad (49))), (1, .int v1), (2, .int v2)] [] Φ := by
  unfold wX3_kindsBarred_68 at h
  refine tj_iinc (v := _ + 1) (l' := [(0, _), (1, _), (2, _)]) rfl dX3_kindsBarred_68 rfl (by decide) rfl rfl ?_
  refine tj_goto (tgt := 4) rfl dX3_kindsBarred_71 ?_
  exact hb4 _ _ _ _ h
def wX3_kindsBarred_62 (post : Int32 → MM → Int64 → Prop) (bk4 : MM → Int64 → Int32 → Int32 → Prop) (M : MM) (tl : Int64) (v1 : Int32) (v2 : Int32) (v3 : Int32) : Prop :=
  wX3_kindsBarred_68 post bk4 M tl (v1 ||| ((1 : Int32) <<< (v3 &&& 31))) v2
set_option maxHeartbeats 4000000 in
set_option maxRecDepth 20000 in
theorem bX3_kindsBarred_62 {E : EV} {ad : Nat → Nat} {M : MM} {tl : Int64} {Φ : Option Value → va_W → Prop} {post : Int32 → MM → Int64 → Prop} {bk4 : MM → Int64 → Int32 → Int32 → Prop} {v1 : Int32} {v2 : Int32} {v3 : Int32} (hp : ∀ r M tl, post r M tl → Φ (some (.int r)) (WM E ad M tl)) (hb4 : ∀ (M : MM) (tl : Int64) (v1 : Int32) (v2 : Int32), bk4 M tl v1 v2 → T E kX3_kindsBarred 0 0 (WM E ad M tl) 4 [(0, .ref (ad (49))), (1, .int v1), (2, .int v2)] [] Φ) (h : wX3_kindsBarred_62 post bk4 M tl v1 v2 v3) : T E kX3_kindsBarred 0 0 (WM E ad M tl) 62 [(0, .ref (ad (49))), (1, .int v1), (2, .int v2), (3, .int v3)] [] Φ := by
  unfold wX3_kindsBarred_62 at h
  refine tj_iload_n rfl dX3_kindsBarred_62 rfl ?_
  refine tj_iconst (v := 1) rfl dX3_kindsBarred_63 (by decide) ?_
  refine tj_iload_n rfl dX3_kindsBarred_64 rfl ?_
  refine tj_ishl rfl dX3_kindsBarred_65 ?_
  refine tj_ior rfl dX3_kindsBarred_66 ?_
  refine tj_istore_n (l' := [(0, _), (1, _), (2, _), (3, _)]) rfl dX3_kindsBarred_67 (by decide) rfl ?_
  exact tj_pick (l' := [(0, _), (1, _), (2, _)]) [0, 1, 2] rfl (bX3_kindsBarred_68 hp hb4 h)
def wX3_kindsBarred_4 (post : Int32 → MM → Int64 → Prop) : Nat → MM → Int64 → Int32 → Int32 → Prop
  | 0, _, _, _, _ => False
  | n + 1, M, tl, v1, v2 =>
    (if (M 18 3) ≤ v2 then post v1 M tl else wpX5_cell (fun r3 M1 t2 => wpX1_lacks (fun r6 M4 t5 => (if r6 = 0 then wpX1_twinOf (fun r9 M7 t8 => wpX1_lacks (fun r12 M10 t11 => (if r12 = 0 then wX3_kindsBarred_68 post (wX3_kindsBarred_4 post n) M10 t11 v1 v2 else wX3_kindsBarred_62 post (wX3_kindsBarred_4 post n) M10 t11 v1 v2 r3)) M7 t8 3 1 r9) M4 t5 3 r3 else wX3_kindsBarred_62 post (wX3_kindsBarred_4 post n) M4 t5 v1 v2 r3)) M1 t2 3 0 r3) M tl 18 v2 1)
set_option maxHeartbeats 4000000 in
set_option maxRecDepth 20000 in
theorem bX3_kindsBarred_4 {E : EV} {ad : Nat → Nat} {Φ : Option Value → va_W → Prop} {post : Int32 → MM → Int64 → Prop}  (hp : ∀ r M tl, post r M tl → Φ (some (.int r)) (WM E ad M tl)) : ∀ (n : Nat) (M : MM) (tl : Int64) (v1 : Int32) (v2 : Int32), wX3_kindsBarred_4 post n M tl v1 v2 → T E kX3_kindsBarred 0 0 (WM E ad M tl) 4 [(0, .ref (ad (49))), (1, .int v1), (2, .int v2)] [] Φ := by
  intro n
  induction n with
  | zero => intro M tl v1 v2 h; exact False.elim h
  | succ n ih =>
    intro M tl v1 v2 h
    unfold wX3_kindsBarred_4 at h
    refine tj_iload_n rfl dX3_kindsBarred_4 rfl ?_
    refine tj_aload_n rfl dX3_kindsBarred_5 rfl ?_
    refine gf3_scene (a := 49) rfl rfl dX3_kindsBarred_6 fl_X3_25 ?_
    refine gf7_wants (a := 14) rfl rfl dX3_kindsBarred_9 fl_X3_29 ?_
    refine gf5_size (a := 18) rfl rfl dX3_kindsBarred_12 fl_X3_35 ?_
    refine tj_icmp_ge (tgt := 74) rfl rfl dX3_kindsBarred_15 (fun hc => ?_) (fun hc => ?_)
    · rw [if_pos hc] at h
      refine tj_iload_n rfl dX3_kindsBarred_74 rfl ?_
      exact tj_ireturn (ty := .int) dX3_kindsBarred_75 rfl rfl (Nat.zero_le _) (Nat.zero_le _) (hp _ _ _ h)
    · rw [if_neg hc] at h
      refine tj_aload_n rfl dX3_kindsBarred_18 rfl ?_
      refine gf3_scene (a := 49) rfl rfl dX3_kindsBarred_19 fl_X3_25 ?_
      refine gf7_wants (a := 14) rfl rfl dX3_kindsBarred_22 fl_X3_29 ?_
      refine tj_iload_n rfl dX3_kindsBarred_25 rfl ?_
      refine tj_iconst (v := 1) rfl dX3_kindsBarred_26 (by decide) ?_
      refine cf_V5 (a := 18) (z := kX5_cell) (As := [_, _]) rfl rfl dX3_kindsBarred_27 rfl ml_X3_47 okX5_cell rfl (rm_ok rfl) (Nat.le_of_ble_eq_true rfl) (Nat.le_of_ble_eq_true rfl) rfl rfl ?_
      refine ctX5_cell h (fun r3 M1 t2 h => ?_)
      refine tj_istore_n (l' := [(0, _), (1, _), (2, _), (3, _)]) rfl dX3_kindsBarred_30 (by decide) rfl ?_
      refine tj_aload_n rfl dX3_kindsBarred_31 rfl ?_
      refine gf3_law (a := 49) rfl rfl dX3_kindsBarred_32 fl_X3_21 ?_
      refine tj_iconst (v := 0) rfl dX3_kindsBarred_35 (by decide) ?_
      refine tj_iload_n rfl dX3_kindsBarred_36 rfl ?_
      refine cf_V1 (a := 3) (z := kX1_lacks) (As := [_, _]) rfl rfl dX3_kindsBarred_37 rfl ml_X3_80 okX1_lacks rfl (rm_ok rfl) (Nat.le_of_ble_eq_true rfl) (Nat.le_of_ble_eq_true rfl) rfl rfl ?_
      refine ctX1_lacks h (fun r6 M4 t5 h => ?_)
      refine tj_if_ne (tgt := 62) rfl rfl dX3_kindsBarred_40 (fun hc => ?_) (fun hc => ?_)
      · rw [if_neg hc] at h
        exact bX3_kindsBarred_62 hp ih h
      · rw [if_pos hc] at h
        refine tj_aload_n rfl dX3_kindsBarred_43 rfl ?_
        refine gf3_law (a := 49) rfl rfl dX3_kindsBarred_44 fl_X3_21 ?_
        refine tj_iconst (v := 1) rfl dX3_kindsBarred_47 (by decide) ?_
        refine tj_aload_n rfl dX3_kindsBarred_48 rfl ?_
        refine gf3_law (a := 49) rfl rfl dX3_kindsBarred_49 fl_X3_21 ?_
        refine tj_iload_n rfl dX3_kindsBarred_52 rfl ?_
        refine cf_V1 (a := 3) (z := kX1_twinOf) (As := [_]) rfl rfl dX3_kindsBarred_53 rfl ml_X3_55 okX1_twinOf rfl (rm_ok rfl) (Nat.le_of_ble_eq_true rfl) (Nat.le_of_ble_eq_true rfl) rfl rfl ?_
        refine ctX1_twinOf h (fun r9 M7 t8 h => ?_)
        refine cf_V1 (a := 3) (z := kX1_lacks) (As := [_, _]) rfl rfl dX3_kindsBarred_56 rfl ml_X3_80 okX1_lacks rfl (rm_ok rfl) (Nat.le_of_ble_eq_true rfl) (Nat.le_of_ble_eq_true rfl) rfl rfl ?_
        refine ctX1_lacks h (fun r12 M10 t11 h => ?_)
        refine tj_if_eq (tgt := 68) rfl rfl dX3_kindsBarred_59 (fun hc => ?_) (fun hc => ?_)
        · rw [if_pos hc] at h
          exact tj_pick (l' := [(0, _), (1, _), (2, _)]) [0, 1, 2] rfl (bX3_kindsBarred_68 hp ih h)
        · rw [if_neg hc] at h
          exact bX3_kindsBarred_62 hp ih h
def wpX3_kindsBarred (post : Int32 → MM → Int64 → Prop) (M : MM) (tl : Int64) : Prop :=
  (∃ n9, wX3_kindsBarred_4 post  n9 M tl 0 0)
set_option maxHeartbeats 4000000 in
set_option maxRecDepth 20000 in
theorem ctX3_kindsBarred {E : EV} {ad : Nat → Nat} {M : MM} {tl : Int64} {Φ : Option Value → va_W → Prop} {post : Int32 → MM → Int64 → Prop} (h : wpX3_kindsBarred post M tl ) (hp : ∀ r M tl, post r M tl → Φ (some (.int r)) (WM E ad M tl)) : Tm E kX3_kindsBarred (WM E ad M tl) [.ref (ad (49))] Φ := by
  unfold wpX3_kindsBarred at h
  show T E kX3_kindsBarred 0 0 (WM E ad M tl) 0 [(0, .ref (ad (49)))] [] Φ
  refine tj_iconst (v := 0) rfl dX3_kindsBarred_0 (by decide) ?_
  refine tj_istore_n (l' := [(0, _), (1, _)]) rfl dX3_kindsBarred_1 (by decide) rfl ?_
  refine tj_iconst (v := 0) rfl dX3_kindsBarred_2 (by decide) ?_
  refine tj_istore_n (l' := [(0, _), (1, _), (2, _)]) rfl dX3_kindsBarred_3 (by decide) rfl ?_
  obtain ⟨n9, h⟩ := h
  exact bX3_kindsBarred_4 hp  n9 _ _ _ _ h
def wX3_costInstead_52 (post : Int32 → MM → Int64 → Prop) (bk5 : MM → Int64 → Int32 → Int32 → Prop) (M : MM) (tl : Int64) (v1 : Int32) (v2 : Int32) : Prop :=
  bk5 M tl v1 (v2 + 1)
set_option maxHeartbeats 4000000 in
set_option maxRecDepth 20000 in
theorem bX3_costInstead_52 {E : EV} {ad : Nat → Nat} {M : MM} {tl : Int64} {Φ : Option Value → va_W → Prop} {post : Int32 → MM → Int64 → Prop} {bk5 : MM → Int64 → Int32 → Int32 → Prop} {v1 : Int32} {v2 : Int32} (hp : ∀ r M tl, post r M tl → Φ (some (.int r)) (WM E ad M tl)) (hb5 : ∀ (M : MM) (tl : Int64) (v1 : Int32) (v2 : Int32), bk5 M tl v1 v2 → T E kX3_costInstead 0 0 (WM E ad M tl) 5 [(0, .ref (ad (49))), (1, .int v1), (2, .int v2)] [] Φ) (h : wX3_costInstead_52 post bk5 M tl v1 v2) : T E kX3_costInstead 0 0 (WM E ad M tl) 52 [(0, .ref (ad (49))), (1, .int v1), (2, .int v2)] [] Φ := by
  unfold wX3_costInstead_52 at h
  refine tj_iinc (v := _ + 1) (l' := [(0, _), (1, _), (2, _)]) rfl dX3_costInstead_52 rfl (by decide) rfl rfl ?_
  refine tj_goto (tgt := 5) rfl dX3_costInstead_55 ?_
  exact hb5 _ _ _ _ h
def wX3_costInstead_42 (post : Int32 → MM → Int64 → Prop) (bk5 : MM → Int64 → Int32 → Int32 → Prop) (M : MM) (tl : Int64) (v2 : Int32) : Prop :=
  wpX1_costOf (fun r3 M1 t2 => wX3_costInstead_52 post bk5 M1 t2 r3 v2) M tl 3 1 v2
set_option maxHeartbeats 4000000 in
set_option maxRecDepth 20000 in
theorem bX3_costInstead_42 {E : EV} {ad : Nat → Nat} {M : MM} {tl : Int64} {Φ : Option Value → va_W → Prop} {post : Int32 → MM → Int64 → Prop} {bk5 : MM → Int64 → Int32 → Int32 → Prop} {v2 : Int32} (hp : ∀ r M tl, post r M tl → Φ (some (.int r)) (WM E ad M tl)) (hb5 : ∀ (M : MM) (tl : Int64) (v1 : Int32) (v2 : Int32), bk5 M tl v1 v2 → T E kX3_costInstead 0 0 (WM E ad M tl) 5 [(0, .ref (ad (49))), (1, .int v1), (2, .int v2)] [] Φ) (h : wX3_costInstead_42 post bk5 M tl v2) : T E kX3_costInstead 0 0 (WM E ad M tl) 42 [(0, .ref (ad (49))), (2, .int v2)] [] Φ := by
  unfold wX3_costInstead_42 at h
  refine tj_aload_n rfl dX3_costInstead_42 rfl ?_
  refine gf3_law (a := 49) rfl rfl dX3_costInstead_43 fl_X3_21 ?_
  refine tj_iconst (v := 1) rfl dX3_costInstead_46 (by decide) ?_
  refine tj_iload_n rfl dX3_costInstead_47 rfl ?_
  refine cf_V1 (a := 3) (z := kX1_costOf) (As := [_, _]) rfl rfl dX3_costInstead_48 rfl ml_X3_50 okX1_costOf rfl (rm_ok rfl) (Nat.le_of_ble_eq_true rfl) (Nat.le_of_ble_eq_true rfl) rfl rfl ?_
  refine ctX1_costOf h (fun r3 M1 t2 h => ?_)
  refine tj_istore_n (l' := [(0, _), (1, _), (2, _)]) rfl dX3_costInstead_51 (by decide) rfl ?_
  exact bX3_costInstead_52 hp hb5 h
def wX3_costInstead_125 (post : Int32 → MM → Int64 → Prop) (bk71 : MM → Int64 → Int32 → Int32 → Int32 → Prop) (M : MM) (tl : Int64) (v1 : Int32) (v3 : Int32) (s0 : Int32) (s1 : Int32) : Prop :=
  bk71 M tl v1 (s0 + s1) (v3 + 1)
set_option maxHeartbeats 4000000 in
set_option maxRecDepth 20000 in
theorem bX3_costInstead_125 {E : EV} {ad : Nat → Nat} {M : MM} {tl : Int64} {Φ : Option Value → va_W → Prop} {post : Int32 → MM → Int64 → Prop} {bk71 : MM → Int64 → Int32 → Int32 → Int32 → Prop} {v1 : Int32} {v3 : Int32} {s0 : Int32} {s1 : Int32} (hp : ∀ r M tl, post r M tl → Φ (some (.int r)) (WM E ad M tl)) (hb71 : ∀ (M : MM) (tl : Int64) (v1 : Int32) (v2 : Int32) (v3 : Int32), bk71 M tl v1 v2 v3 → T E kX3_costInstead 0 0 (WM E ad M tl) 71 [(0, .ref (ad (49))), (1, .int v1), (2, .int v2), (3, .int v3)] [] Φ) (h : wX3_costInstead_125 post bk71 M tl v1 v3 s0 s1) : T E kX3_costInstead 0 0 (WM E ad M tl) 125 [(0, .ref (ad (49))), (1, .int v1), (3, .int v3)] [.int s1, .int s0] Φ := by
  unfold wX3_costInstead_125 at h
  refine tj_iadd rfl dX3_costInstead_125 ?_
  refine tj_istore_n (l' := [(0, _), (1, _), (2, _), (3, _)]) rfl dX3_costInstead_126 (by decide) rfl ?_
  refine tj_iinc (v := _ + 1) (l' := [(0, _), (1, _), (2, _), (3, _)]) rfl dX3_costInstead_127 rfl (by decide) rfl rfl ?_
  refine tj_goto (tgt := 71) rfl dX3_costInstead_130 ?_
  exact hb71 _ _ _ _ _ h
def wX3_costInstead_71 (post : Int32 → MM → Int64 → Prop) : Nat → MM → Int64 → Int32 → Int32 → Int32 → Prop
  | 0, _, _, _, _, _ => False
  | n + 1, M, tl, v1, v2, v3 =>
    (if (M 18 3) ≤ v3 then post v2 M tl else wpX5_cell (fun r3 M1 t2 => wpX1_twinOf (fun r6 M4 t5 => wpX1_lacks (fun r9 M7 t8 => (if r9 = 0 then wX3_costInstead_125 post (wX3_costInstead_71 post n) M7 t8 v1 v3 v2 0 else wX3_costInstead_125 post (wX3_costInstead_71 post n) M7 t8 v1 v3 v2 v1)) M4 t5 3 1 r6) M1 t2 3 r3) M tl 18 v3 1)
set_option maxHeartbeats 4000000 in
set_option maxRecDepth 20000 in
theorem bX3_costInstead_71 {E : EV} {ad : Nat → Nat} {Φ : Option Value → va_W → Prop} {post : Int32 → MM → Int64 → Prop}  (hp : ∀ r M tl, post r M tl → Φ (some (.int r)) (WM E ad M tl)) : ∀ (n : Nat) (M : MM) (tl : Int64) (v1 : Int32) (v2 : Int32) (v3 : Int32), wX3_costInstead_71 post n M tl v1 v2 v3 → T E kX3_costInstead 0 0 (WM E ad M tl) 71 [(0, .ref (ad (49))), (1, .int v1), (2, .int v2), (3, .int v3)] [] Φ := by
  intro n
  induction n with
  | zero => intro M tl v1 v2 v3 h; exact False.elim h
  | succ n ih =>
    intro M tl v1 v2 v3 h
    unfold wX3_costInstead_71 at h
    refine tj_iload_n rfl dX3_costInstead_71 rfl ?_
    refine tj_aload_n rfl dX3_costInstead_72 rfl ?_
    refine gf3_scene (a := 49) rfl rfl dX3_costInstead_73 fl_X3_25 ?_
    refine gf7_wants (a := 14) rfl rfl dX3_costInstead_76 fl_X3_29 ?_
    refine gf5_size (a := 18) rfl rfl dX3_costInstead_79 fl_X3_35 ?_
    refine tj_icmp_ge (tgt := 133) rfl rfl dX3_costInstead_82 (fun hc => ?_) (fun hc => ?_)
    · rw [if_pos hc] at h
      refine tj_iload_n rfl dX3_costInstead_133 rfl ?_
      exact tj_ireturn (ty := .int) dX3_costInstead_134 rfl rfl (Nat.zero_le _) (Nat.zero_le _) (hp _ _ _ h)
    · rw [if_neg hc] at h
      refine tj_aload_n rfl dX3_costInstead_85 rfl ?_
      refine gf3_law (a := 49) rfl rfl dX3_costInstead_86 fl_X3_21 ?_
      refine tj_aload_n rfl dX3_costInstead_89 rfl ?_
      refine gf3_scene (a := 49) rfl rfl dX3_costInstead_90 fl_X3_25 ?_
      refine gf7_wants (a := 14) rfl rfl dX3_costInstead_93 fl_X3_29 ?_
      refine tj_iload_n rfl dX3_costInstead_96 rfl ?_
      refine tj_iconst (v := 1) rfl dX3_costInstead_97 (by decide) ?_
      refine cf_V5 (a := 18) (z := kX5_cell) (As := [_, _]) rfl rfl dX3_costInstead_98 rfl ml_X3_47 okX5_cell rfl (rm_ok rfl) (Nat.le_of_ble_eq_true rfl) (Nat.le_of_ble_eq_true rfl) rfl rfl ?_
      refine ctX5_cell h (fun r3 M1 t2 h => ?_)
      refine cf_V1 (a := 3) (z := kX1_twinOf) (As := [_]) rfl rfl dX3_costInstead_101 rfl ml_X3_55 okX1_twinOf rfl (rm_ok rfl) (Nat.le_of_ble_eq_true rfl) (Nat.le_of_ble_eq_true rfl) rfl rfl ?_
      refine ctX1_twinOf h (fun r6 M4 t5 h => ?_)
      refine tj_istore (l' := [(0, _), (1, _), (2, _), (3, _), (4, _)]) rfl dX3_costInstead_104 (by decide) rfl ?_
      refine tj_iload_n rfl dX3_costInstead_106 rfl ?_
      refine tj_aload_n rfl dX3_costInstead_107 rfl ?_
      refine gf3_law (a := 49) rfl rfl dX3_costInstead_108 fl_X3_21 ?_
      refine tj_iconst (v := 1) rfl dX3_costInstead_111 (by decide) ?_
      refine tj_iload rfl dX3_costInstead_112 rfl ?_
      refine cf_V1 (a := 3) (z := kX1_lacks) (As := [_, _]) rfl rfl dX3_costInstead_114 rfl ml_X3_80 okX1_lacks rfl (rm_ok rfl) (Nat.le_of_ble_eq_true rfl) (Nat.le_of_ble_eq_true rfl) rfl rfl ?_
      refine ctX1_lacks h (fun r9 M7 t8 h => ?_)
      refine tj_if_eq (tgt := 124) rfl rfl dX3_costInstead_117 (fun hc => ?_) (fun hc => ?_)
      · rw [if_pos hc] at h
        refine tj_iconst (v := 0) rfl dX3_costInstead_124 (by decide) ?_
        exact tj_pick (l' := [(0, _), (1, _), (3, _)]) [0, 1, 3] rfl (bX3_costInstead_125 hp ih h)
      · rw [if_neg hc] at h
        refine tj_iload_n rfl dX3_costInstead_120 rfl ?_
        refine tj_goto (tgt := 125) rfl dX3_costInstead_121 ?_
        exact tj_pick (l' := [(0, _), (1, _), (3, _)]) [0, 1, 3] rfl (bX3_costInstead_125 hp ih h)
def wX3_costInstead_5 (post : Int32 → MM → Int64 → Prop) : Nat → MM → Int64 → Int32 → Int32 → Prop
  | 0, _, _, _, _ => False
  | n + 1, M, tl, v1, v2 =>
    (if 6 ≤ v2 then (if v1 = (-4) then post (-4) M tl else (∃ n9, wX3_costInstead_71 post  n9 M tl v1 0 0)) else wpX1_lacks (fun r3 M1 t2 => (if r3 = 0 then (if v1 = (-4) then wX3_costInstead_42 post (wX3_costInstead_5 post n) M1 t2 v2 else wpX1_costOf (fun r6 M4 t5 => (if v1 ≤ r6 then wX3_costInstead_52 post (wX3_costInstead_5 post n) M4 t5 v1 v2 else wX3_costInstead_42 post (wX3_costInstead_5 post n) M4 t5 v2)) M1 t2 3 1 v2) else wX3_costInstead_52 post (wX3_costInstead_5 post n) M1 t2 v1 v2)) M tl 3 1 v2)
set_option maxHeartbeats 4000000 in
set_option maxRecDepth 20000 in
theorem bX3_costInstead_5 {E : EV} {ad : Nat → Nat} {Φ : Option Value → va_W → Prop} {post : Int32 → MM → Int64 → Prop}  (hp : ∀ r M tl, post r M tl → Φ (some (.int r)) (WM E ad M tl)) : ∀ (n : Nat) (M : MM) (tl : Int64) (v1 : Int32) (v2 : Int32), wX3_costInstead_5 post n M tl v1 v2 → T E kX3_costInstead 0 0 (WM E ad M tl) 5 [(0, .ref (ad (49))), (1, .int v1), (2, .int v2)] [] Φ := by
  intro n
  induction n with
  | zero => intro M tl v1 v2 h; exact False.elim h
  | succ n ih =>
    intro M tl v1 v2 h
    unfold wX3_costInstead_5 at h
    refine tj_iload_n rfl dX3_costInstead_5 rfl ?_
    refine tj_bipush (v := 6) rfl dX3_costInstead_6 (by decide) ?_
    refine tj_icmp_ge (tgt := 58) rfl rfl dX3_costInstead_8 (fun hc => ?_) (fun hc => ?_)
    · rw [if_pos hc] at h
      refine tj_iload_n rfl dX3_costInstead_58 rfl ?_
      refine tj_bipush (v := -4) rfl dX3_costInstead_59 (by decide) ?_
      refine tj_icmp_ne (tgt := 67) rfl rfl dX3_costInstead_61 (fun hc => ?_) (fun hc => ?_)
      · rw [if_neg hc] at h
        refine tj_iconst (v := 0) rfl dX3_costInstead_67 (by decide) ?_
        refine tj_istore_n (l' := [(0, _), (1, _), (2, _)]) rfl dX3_costInstead_68 (by decide) rfl ?_
        refine tj_iconst (v := 0) rfl dX3_costInstead_69 (by decide) ?_
        refine tj_istore_n (l' := [(0, _), (1, _), (2, _), (3, _)]) rfl dX3_costInstead_70 (by decide) rfl ?_
        obtain ⟨n9, h⟩ := h
        exact bX3_costInstead_71 hp  n9 _ _ _ _ _ h
      · rw [if_pos hc] at h
        refine tj_bipush (v := -4) rfl dX3_costInstead_64 (by decide) ?_
        exact tj_ireturn (ty := .int) dX3_costInstead_66 rfl rfl (Nat.zero_le _) (Nat.zero_le _) (hp _ _ _ h)
    · rw [if_neg hc] at h
      refine tj_aload_n rfl dX3_costInstead_11 rfl ?_
      refine gf3_law (a := 49) rfl rfl dX3_costInstead_12 fl_X3_21 ?_
      refine tj_iconst (v := 1) rfl dX3_costInstead_15 (by decide) ?_
      refine tj_iload_n rfl dX3_costInstead_16 rfl ?_
      refine cf_V1 (a := 3) (z := kX1_lacks) (As := [_, _]) rfl rfl dX3_costInstead_17 rfl ml_X3_80 okX1_lacks rfl (rm_ok rfl) (Nat.le_of_ble_eq_true rfl) (Nat.le_of_ble_eq_true rfl) rfl rfl ?_
      refine ctX1_lacks h (fun r3 M1 t2 h => ?_)
      refine tj_if_ne (tgt := 52) rfl rfl dX3_costInstead_20 (fun hc => ?_) (fun hc => ?_)
      · rw [if_neg hc] at h
        exact bX3_costInstead_52 hp ih h
      · rw [if_pos hc] at h
        refine tj_iload_n rfl dX3_costInstead_23 rfl ?_
        refine tj_bipush (v := -4) rfl dX3_costInstead_24 (by decide) ?_
        refine tj_icmp_eq (tgt := 42) rfl rfl dX3_costInstead_26 (fun hc => ?_) (fun hc => ?_)
        · rw [if_pos hc] at h
          exact tj_pick (l' := [(0, _), (2, _)]) [0, 2] rfl (bX3_costInstead_42 hp ih h)
        · rw [if_neg hc] at h
          refine tj_aload_n rfl dX3_costInstead_29 rfl ?_
          refine gf3_law (a := 49) rfl rfl dX3_costInstead_30 fl_X3_21 ?_
          refine tj_iconst (v := 1) rfl dX3_costInstead_33 (by decide) ?_
          refine tj_iload_n rfl dX3_costInstead_34 rfl ?_
          refine cf_V1 (a := 3) (z := kX1_costOf) (As := [_, _]) rfl rfl dX3_costInstead_35 rfl ml_X3_50 okX1_costOf rfl (rm_ok rfl) (Nat.le_of_ble_eq_true rfl) (Nat.le_of_ble_eq_true rfl) rfl rfl ?_
          refine ctX1_costOf h (fun r6 M4 t5 h => ?_)
          refine tj_iload_n rfl dX3_costInstead_38 rfl ?_
          refine tj_icmp_ge (tgt := 52) rfl rfl dX3_costInstead_39 (fun hc => ?_) (fun hc => ?_)
          · rw [if_pos hc] at h
            exact bX3_costInstead_52 hp ih h
          · rw [if_neg hc] at h
            exact tj_pick (l' := [(0, _), (2, _)]) [0, 2] rfl (bX3_costInstead_42 hp ih h)
def wpX3_costInstead (post : Int32 → MM → Int64 → Prop) (M : MM) (tl : Int64) : Prop :=
  (∃ n9, wX3_costInstead_5 post  n9 M tl (-4) 1)
set_option maxHeartbeats 4000000 in
set_option maxRecDepth 20000 in
theorem ctX3_costInstead {E : EV} {ad : Nat → Nat} {M : MM} {tl : Int64} {Φ : Option Value → va_W → Prop} {post : Int32 → MM → Int64 → Prop} (h : wpX3_costInstead post M tl ) (hp : ∀ r M tl, post r M tl → Φ (some (.int r)) (WM E ad M tl)) : Tm E kX3_costInstead (WM E ad M tl) [.ref (ad (49))] Φ := by
  unfold wpX3_costInstead at h
  show T E kX3_costInstead 0 0 (WM E ad M tl) 0 [(0, .ref (ad (49)))] [] Φ
  refine tj_bipush (v := -4) rfl dX3_costInstead_0 (by decide) ?_
  refine tj_istore_n (l' := [(0, _), (1, _)]) rfl dX3_costInstead_2 (by decide) rfl ?_
  refine tj_iconst (v := 1) rfl dX3_costInstead_3 (by decide) ?_
  refine tj_istore_n (l' := [(0, _), (1, _), (2, _)]) rfl dX3_costInstead_4 (by decide) rfl ?_
  obtain ⟨n9, h⟩ := h
  exact bX3_costInstead_5 hp  n9 _ _ _ _ h
