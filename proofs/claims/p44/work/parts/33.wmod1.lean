def wpX11_in (post : Int32 → MM → Int64 → Prop) (M : MM) (tl : Int64) (v0 : Int64) (v2 : Int64) (v4 : Int64) : Prop :=
  (if (lg_cmp v0 v2) < 0 then post 0 M tl else (if 0 < (lg_cmp v0 v4) then post 0 M tl else post 1 M tl))
set_option maxHeartbeats 4000000 in
set_option maxRecDepth 20000 in
theorem ctX11_in {E : EV} {ad : Nat → Nat} {M : MM} {tl : Int64} {Φ : Option Value → va_W → Prop} {post : Int32 → MM → Int64 → Prop} {v0 : Int64} {v2 : Int64} {v4 : Int64} (h : wpX11_in post M tl v0 v2 v4) (hp : ∀ r M tl, post r M tl → Φ (some (.int r)) (WM E ad M tl)) : Tm E kX11_in (WM E ad M tl) [.long v0, .long v2, .long v4] Φ := by
  unfold wpX11_in at h
  show T E kX11_in 0 0 (WM E ad M tl) 0 [(0, .long v0), (2, .long v2), (4, .long v4)] [] Φ
  refine tj_lload_n rfl dX11_in_0 rfl ?_
  refine tj_lload_n rfl dX11_in_1 rfl ?_
  refine tj_lcmp rfl dX11_in_2 ?_
  refine tj_if_lt (tgt := 17) rfl rfl dX11_in_3 (fun hc => ?_) (fun hc => ?_)
  · rw [if_pos hc] at h
    refine tj_iconst (v := 0) rfl dX11_in_17 (by decide) ?_
    exact tj_ireturn (ty := .boolean) dX11_in_18 rfl rfl (Nat.zero_le _) (Nat.zero_le _) (hp _ _ _ h)
  · rw [if_neg hc] at h
    refine tj_lload_n rfl dX11_in_6 rfl ?_
    refine tj_lload rfl dX11_in_7 rfl ?_
    refine tj_lcmp rfl dX11_in_9 ?_
    refine tj_if_gt (tgt := 17) rfl rfl dX11_in_10 (fun hc => ?_) (fun hc => ?_)
    · rw [if_pos hc] at h
      refine tj_iconst (v := 0) rfl dX11_in_17 (by decide) ?_
      exact tj_ireturn (ty := .boolean) dX11_in_18 rfl rfl (Nat.zero_le _) (Nat.zero_le _) (hp _ _ _ h)
    · rw [if_neg hc] at h
      refine tj_iconst (v := 1) rfl dX11_in_13 (by decide) ?_
      refine tj_goto (tgt := 18) rfl dX11_in_14 ?_
      exact tj_ireturn (ty := .boolean) dX11_in_18 rfl rfl (Nat.zero_le _) (Nat.zero_le _) (hp _ _ _ h)
def wpX11_flag (post : Int32 → MM → Int64 → Prop) (M : MM) (tl : Int64) (v0 : Int32) : Prop :=
  (if v0 = 0 then post 0 M tl else post 1 M tl)
set_option maxHeartbeats 4000000 in
set_option maxRecDepth 20000 in
theorem ctX11_flag {E : EV} {ad : Nat → Nat} {M : MM} {tl : Int64} {Φ : Option Value → va_W → Prop} {post : Int32 → MM → Int64 → Prop} {v0 : Int32} (h : wpX11_flag post M tl v0) (hp : ∀ r M tl, post r M tl → Φ (some (.int r)) (WM E ad M tl)) : Tm E kX11_flag (WM E ad M tl) [.int v0] Φ := by
  unfold wpX11_flag at h
  show T E kX11_flag 0 0 (WM E ad M tl) 0 [(0, .int v0)] [] Φ
  refine tj_iload_n rfl dX11_flag_0 rfl ?_
  refine tj_if_eq (tgt := 8) rfl rfl dX11_flag_1 (fun hc => ?_) (fun hc => ?_)
  · rw [if_pos hc] at h
    refine tj_iconst (v := 0) rfl dX11_flag_8 (by decide) ?_
    exact tj_ireturn (ty := .int) dX11_flag_9 rfl rfl (Nat.zero_le _) (Nat.zero_le _) (hp _ _ _ h)
  · rw [if_neg hc] at h
    refine tj_iconst (v := 1) rfl dX11_flag_4 (by decide) ?_
    refine tj_goto (tgt := 9) rfl dX11_flag_5 ?_
    exact tj_ireturn (ty := .int) dX11_flag_9 rfl rfl (Nat.zero_le _) (Nat.zero_le _) (hp _ _ _ h)
def wX11_firstDraft_95 (post : MM → Int64 → Prop) (bk65 : MM → Int64 → Int32 → Prop) (M : MM) (tl : Int64) (v1 : Int32) (s1 : Int32) (s2 : Int32) : Prop :=
  (vp_in s1 (al 93) ∧ (∀ M2 : MM, M2 = mset M 93 (s1 : Int32).toNatClampNeg s2 → bk65 M2 tl (v1 + 1)))
set_option maxHeartbeats 4000000 in
set_option maxRecDepth 20000 in
theorem bX11_firstDraft_95 {E : EV} {ad : Nat → Nat} {M : MM} {tl : Int64} {Φ : Option Value → va_W → Prop} {post : MM → Int64 → Prop} {bk65 : MM → Int64 → Int32 → Prop} {v1 : Int32} {s1 : Int32} {s2 : Int32} (hp : ∀ M tl, post M tl → Φ none (WM E ad M tl)) (hb65 : ∀ (M : MM) (tl : Int64) (v1 : Int32), bk65 M tl v1 → T E kX11_firstDraft 0 0 (WM E ad M tl) 65 [(0, .ref (ad (81))), (1, .int v1)] [] Φ) (h : wX11_firstDraft_95 post bk65 M tl v1 s1 s2) : T E kX11_firstDraft 0 0 (WM E ad M tl) 95 [(0, .ref (ad (81))), (1, .int v1)] [.int s2, .int s1, .ref (ad (93))] Φ := by
  unfold wX11_firstDraft_95 at h
  obtain ⟨hi1, h⟩ := h
  refine af_iast (a := 93) rfl rfl dX11_firstDraft_95 hi1 ?_
  replace h := h _ rfl
  generalize mset M 93 (s1 : Int32).toNatClampNeg s2 = M2 at h ⊢
  refine tj_iinc (v := _ + 1) (l' := [(0, _), (1, _)]) rfl dX11_firstDraft_96 rfl (by decide) rfl rfl ?_
  refine tj_goto (tgt := 65) rfl dX11_firstDraft_99 ?_
  exact hb65 _ _ _ h
def wX11_firstDraft_118 (post : MM → Int64 → Prop) : Nat → MM → Int64 → Int32 → Prop
  | 0, _, _, _ => False
  | n + 1, M, tl, v1 =>
    (if 6 ≤ v1 then (∀ M1 : MM, M1 = mset M 81 22 0 → (∀ M2 : MM, M2 = mset M1 81 23 0 → (∀ M3 : MM, M3 = mset M2 81 24 0 → (∀ M4 : MM, M4 = mset M3 81 25 0 → (∀ M5 : MM, M5 = mset M4 81 26 0 → (∀ M6 : MM, M6 = mset M5 81 27 0 → (∀ M7 : MM, M7 = mset M6 81 28 0 → (∀ M8 : MM, M8 = mset M7 81 29 (-4) → post M8 tl)))))))) else (vp_in v1 (al 95) ∧ (∀ M10 : MM, M10 = mset M 95 (v1 : Int32).toNatClampNeg v1 → (wX11_firstDraft_118 post n) M10 tl (v1 + 1))))
set_option maxHeartbeats 4000000 in
set_option maxRecDepth 20000 in
theorem bX11_firstDraft_118 {E : EV} {ad : Nat → Nat} {Φ : Option Value → va_W → Prop} {post : MM → Int64 → Prop}  (hp : ∀ M tl, post M tl → Φ none (WM E ad M tl)) : ∀ (n : Nat) (M : MM) (tl : Int64) (v1 : Int32), wX11_firstDraft_118 post n M tl v1 → T E kX11_firstDraft 0 0 (WM E ad M tl) 118 [(0, .ref (ad (81))), (1, .int v1)] [] Φ := by
  intro n
  induction n with
  | zero => intro M tl v1 h; exact False.elim h
  | succ n ih =>
    intro M tl v1 h
    unfold wX11_firstDraft_118 at h
    refine tj_iload_n rfl dX11_firstDraft_118 rfl ?_
    refine tj_bipush (v := 6) rfl dX11_firstDraft_119 (by decide) ?_
    refine tj_icmp_ge (tgt := 137) rfl rfl dX11_firstDraft_121 (fun hc => ?_) (fun hc => ?_)
    · rw [if_pos hc] at h
      refine tj_aload_n rfl dX11_firstDraft_137 rfl ?_
      refine tj_iconst (v := 0) rfl dX11_firstDraft_138 (by decide) ?_
      refine pf11_dRights (a := 81) rfl rfl dX11_firstDraft_139 fl_X11_105 ?_
      replace h := h _ rfl
      generalize mset M 81 22 0 = M1 at h ⊢
      refine tj_aload_n rfl dX11_firstDraft_142 rfl ?_
      refine tj_iconst (v := 0) rfl dX11_firstDraft_143 (by decide) ?_
      refine pf11_toldLines (a := 81) rfl rfl dX11_firstDraft_144 fl_X11_108 ?_
      replace h := h _ rfl
      generalize mset M1 81 23 0 = M2 at h ⊢
      refine tj_aload_n rfl dX11_firstDraft_147 rfl ?_
      refine tj_iconst (v := 0) rfl dX11_firstDraft_148 (by decide) ?_
      refine pf11_toldThings (a := 81) rfl rfl dX11_firstDraft_149 fl_X11_111 ?_
      replace h := h _ rfl
      generalize mset M2 81 24 0 = M3 at h ⊢
      refine tj_aload_n rfl dX11_firstDraft_152 rfl ?_
      refine tj_iconst (v := 0) rfl dX11_firstDraft_153 (by decide) ?_
      refine pf11_toldCosts (a := 81) rfl rfl dX11_firstDraft_154 fl_X11_114 ?_
      replace h := h _ rfl
      generalize mset M3 81 25 0 = M4 at h ⊢
      refine tj_aload_n rfl dX11_firstDraft_157 rfl ?_
      refine tj_iconst (v := 0) rfl dX11_firstDraft_158 (by decide) ?_
      refine pf11_toldTastes (a := 81) rfl rfl dX11_firstDraft_159 fl_X11_117 ?_
      replace h := h _ rfl
      generalize mset M4 81 26 0 = M5 at h ⊢
      refine tj_aload_n rfl dX11_firstDraft_162 rfl ?_
      refine tj_iconst (v := 0) rfl dX11_firstDraft_163 (by decide) ?_
      refine pf11_toldKinds (a := 81) rfl rfl dX11_firstDraft_164 fl_X11_120 ?_
      replace h := h _ rfl
      generalize mset M5 81 27 0 = M6 at h ⊢
      refine tj_aload_n rfl dX11_firstDraft_167 rfl ?_
      refine tj_iconst (v := 0) rfl dX11_firstDraft_168 (by decide) ?_
      refine pf11_toldColours (a := 81) rfl rfl dX11_firstDraft_169 fl_X11_123 ?_
      replace h := h _ rfl
      generalize mset M6 81 28 0 = M7 at h ⊢
      refine tj_aload_n rfl dX11_firstDraft_172 rfl ?_
      refine tj_bipush (v := -4) rfl dX11_firstDraft_173 (by decide) ?_
      refine pf11_highestLot (a := 81) rfl rfl dX11_firstDraft_175 fl_X11_126 ?_
      replace h := h _ rfl
      generalize mset M7 81 29 (-4) = M8 at h ⊢
      exact tj_return dX11_firstDraft_178 rfl (Nat.zero_le _) (Nat.zero_le _) (hp _ _ h)
    · rw [if_neg hc] at h
      refine tj_aload_n rfl dX11_firstDraft_124 rfl ?_
      refine gf11_dTwin (a := 81) rfl rfl dX11_firstDraft_125 fl_X11_50 ?_
      refine tj_iload_n rfl dX11_firstDraft_128 rfl ?_
      refine tj_iload_n rfl dX11_firstDraft_129 rfl ?_
      obtain ⟨hi9, h⟩ := h
      refine af_iast (a := 95) rfl rfl dX11_firstDraft_130 hi9 ?_
      replace h := h _ rfl
      generalize mset M 95 (v1 : Int32).toNatClampNeg v1 = M10 at h ⊢
      refine tj_iinc (v := _ + 1) (l' := [(0, _), (1, _)]) rfl dX11_firstDraft_131 rfl (by decide) rfl rfl ?_
      refine tj_goto (tgt := 118) rfl dX11_firstDraft_134 ?_
      exact ih _ _ _ h
def wX11_firstDraft_65 (post : MM → Int64 → Prop) : Nat → MM → Int64 → Int32 → Prop
  | 0, _, _, _ => False
  | n + 1, M, tl, v1 =>
    (if 12 ≤ v1 then (vp_in 0 (al 94) ∧ (∀ M2 : MM, M2 = mset M 94 (0 : Int32).toNatClampNeg 0 → (vp_in 1 (al 94) ∧ (∀ M4 : MM, M4 = mset M2 94 (1 : Int32).toNatClampNeg 0 → (∃ n9, wX11_firstDraft_118 post  n9 M4 tl 0))))) else (vp_in v1 (al 92) ∧ (∀ M6 : MM, M6 = mset M 92 (v1 : Int32).toNatClampNeg 5 → (if (v1 - v1 / 6 * 6) = 0 then wX11_firstDraft_95 post (wX11_firstDraft_65 post n) M6 tl v1 v1 0 else wX11_firstDraft_95 post (wX11_firstDraft_65 post n) M6 tl v1 v1 3))))
set_option maxHeartbeats 4000000 in
set_option maxRecDepth 20000 in
theorem bX11_firstDraft_65 {E : EV} {ad : Nat → Nat} {Φ : Option Value → va_W → Prop} {post : MM → Int64 → Prop}  (hp : ∀ M tl, post M tl → Φ none (WM E ad M tl)) : ∀ (n : Nat) (M : MM) (tl : Int64) (v1 : Int32), wX11_firstDraft_65 post n M tl v1 → T E kX11_firstDraft 0 0 (WM E ad M tl) 65 [(0, .ref (ad (81))), (1, .int v1)] [] Φ := by
  intro n
  induction n with
  | zero => intro M tl v1 h; exact False.elim h
  | succ n ih =>
    intro M tl v1 h
    unfold wX11_firstDraft_65 at h
    refine tj_iload_n rfl dX11_firstDraft_65 rfl ?_
    refine tj_bipush (v := 12) rfl dX11_firstDraft_66 (by decide) ?_
    refine tj_icmp_ge (tgt := 102) rfl rfl dX11_firstDraft_68 (fun hc => ?_) (fun hc => ?_)
    · rw [if_pos hc] at h
      refine tj_aload_n rfl dX11_firstDraft_102 rfl ?_
      refine gf11_dLacks (a := 81) rfl rfl dX11_firstDraft_103 fl_X11_47 ?_
      refine tj_iconst (v := 0) rfl dX11_firstDraft_106 (by decide) ?_
      refine tj_iconst (v := 0) rfl dX11_firstDraft_107 (by decide) ?_
      obtain ⟨hi1, h⟩ := h
      refine af_iast (a := 94) rfl rfl dX11_firstDraft_108 hi1 ?_
      replace h := h _ rfl
      generalize mset M 94 (0 : Int32).toNatClampNeg 0 = M2 at h ⊢
      refine tj_aload_n rfl dX11_firstDraft_109 rfl ?_
      refine gf11_dLacks (a := 81) rfl rfl dX11_firstDraft_110 fl_X11_47 ?_
      refine tj_iconst (v := 1) rfl dX11_firstDraft_113 (by decide) ?_
      refine tj_iconst (v := 0) rfl dX11_firstDraft_114 (by decide) ?_
      obtain ⟨hi3, h⟩ := h
      refine af_iast (a := 94) rfl rfl dX11_firstDraft_115 hi3 ?_
      replace h := h _ rfl
      generalize mset M2 94 (1 : Int32).toNatClampNeg 0 = M4 at h ⊢
      refine tj_iconst (v := 0) rfl dX11_firstDraft_116 (by decide) ?_
      refine tj_istore_n (l' := [(0, _), (1, _)]) rfl dX11_firstDraft_117 (by decide) rfl ?_
      obtain ⟨n9, h⟩ := h
      exact bX11_firstDraft_118 hp  n9 _ _ _ h
    · rw [if_neg hc] at h
      refine tj_aload_n rfl dX11_firstDraft_71 rfl ?_
      refine gf11_dCost (a := 81) rfl rfl dX11_firstDraft_72 fl_X11_41 ?_
      refine tj_iload_n rfl dX11_firstDraft_75 rfl ?_
      refine tj_iconst (v := 5) rfl dX11_firstDraft_76 (by decide) ?_
      obtain ⟨hi5, h⟩ := h
      refine af_iast (a := 92) rfl rfl dX11_firstDraft_77 hi5 ?_
      replace h := h _ rfl
      generalize mset M 92 (v1 : Int32).toNatClampNeg 5 = M6 at h ⊢
      refine tj_aload_n rfl dX11_firstDraft_78 rfl ?_
      refine gf11_dTaste (a := 81) rfl rfl dX11_firstDraft_79 fl_X11_44 ?_
      refine tj_iload_n rfl dX11_firstDraft_82 rfl ?_
      refine tj_iload_n rfl dX11_firstDraft_83 rfl ?_
      refine tj_bipush (v := 6) rfl dX11_firstDraft_84 (by decide) ?_
      refine tj_irem rfl dX11_firstDraft_86 (by decide) ?_
      refine tj_if_ne (tgt := 94) rfl rfl dX11_firstDraft_87 (fun hc => ?_) (fun hc => ?_)
      · rw [if_neg hc] at h
        refine tj_iconst (v := 3) rfl dX11_firstDraft_94 (by decide) ?_
        exact bX11_firstDraft_95 hp ih h
      · rw [if_pos hc] at h
        refine tj_iconst (v := 0) rfl dX11_firstDraft_90 (by decide) ?_
        refine tj_goto (tgt := 95) rfl dX11_firstDraft_91 ?_
        exact bX11_firstDraft_95 hp ih h
def wX11_firstDraft_38 (post : MM → Int64 → Prop) : Nat → MM → Int64 → Int32 → Prop
  | 0, _, _, _ => False
  | n + 1, M, tl, v1 =>
    (if 4 ≤ v1 then (∃ n9, wX11_firstDraft_65 post  n9 M tl 0) else (vp_in v1 (al 91) ∧ (∀ M2 : MM, M2 = mset M 91 (v1 : Int32).toNatClampNeg 1 → (vp_in v1 (al 96) ∧ (∀ M4 : MM, M4 = mset M2 96 (v1 : Int32).toNatClampNeg v1 → (wX11_firstDraft_38 post n) M4 tl (v1 + 1))))))
set_option maxHeartbeats 4000000 in
set_option maxRecDepth 20000 in
theorem bX11_firstDraft_38 {E : EV} {ad : Nat → Nat} {Φ : Option Value → va_W → Prop} {post : MM → Int64 → Prop}  (hp : ∀ M tl, post M tl → Φ none (WM E ad M tl)) : ∀ (n : Nat) (M : MM) (tl : Int64) (v1 : Int32), wX11_firstDraft_38 post n M tl v1 → T E kX11_firstDraft 0 0 (WM E ad M tl) 38 [(0, .ref (ad (81))), (1, .int v1)] [] Φ := by
  intro n
  induction n with
  | zero => intro M tl v1 h; exact False.elim h
  | succ n ih =>
    intro M tl v1 h
    unfold wX11_firstDraft_38 at h
    refine tj_iload_n rfl dX11_firstDraft_38 rfl ?_
    refine tj_iconst (v := 4) rfl dX11_firstDraft_39 (by decide) ?_
    refine tj_icmp_ge (tgt := 63) rfl rfl dX11_firstDraft_40 (fun hc => ?_) (fun hc => ?_)
    · rw [if_pos hc] at h
      refine tj_iconst (v := 0) rfl dX11_firstDraft_63 (by decide) ?_
      refine tj_istore_n (l' := [(0, _), (1, _)]) rfl dX11_firstDraft_64 (by decide) rfl ?_
      obtain ⟨n9, h⟩ := h
      exact bX11_firstDraft_65 hp  n9 _ _ _ h
    · rw [if_neg hc] at h
      refine tj_aload_n rfl dX11_firstDraft_43 rfl ?_
      refine gf11_dPrice (a := 81) rfl rfl dX11_firstDraft_44 fl_X11_38 ?_
      refine tj_iload_n rfl dX11_firstDraft_47 rfl ?_
      refine tj_iconst (v := 1) rfl dX11_firstDraft_48 (by decide) ?_
      obtain ⟨hi1, h⟩ := h
      refine af_iast (a := 91) rfl rfl dX11_firstDraft_49 hi1 ?_
      replace h := h _ rfl
      generalize mset M 91 (v1 : Int32).toNatClampNeg 1 = M2 at h ⊢
      refine tj_aload_n rfl dX11_firstDraft_50 rfl ?_
      refine gf11_dPaint (a := 81) rfl rfl dX11_firstDraft_51 fl_X11_53 ?_
      refine tj_iload_n rfl dX11_firstDraft_54 rfl ?_
      refine tj_iload_n rfl dX11_firstDraft_55 rfl ?_
      obtain ⟨hi3, h⟩ := h
      refine af_iast (a := 96) rfl rfl dX11_firstDraft_56 hi3 ?_
      replace h := h _ rfl
      generalize mset M2 96 (v1 : Int32).toNatClampNeg v1 = M4 at h ⊢
      refine tj_iinc (v := _ + 1) (l' := [(0, _), (1, _)]) rfl dX11_firstDraft_57 rfl (by decide) rfl rfl ?_
      refine tj_goto (tgt := 38) rfl dX11_firstDraft_60 ?_
      exact ih _ _ _ h
def wX11_firstDraft_2 (post : MM → Int64 → Prop) : Nat → MM → Int64 → Int32 → Prop
  | 0, _, _, _ => False
  | n + 1, M, tl, v1 =>
    (if 127 ≤ v1 then (∀ M1 : MM, M1 = mset M 81 13 5 → (∀ M2 : MM, M2 = mset M1 81 14 3 → (∀ M3 : MM, M3 = mset M2 81 15 1 → (∃ n9, wX11_firstDraft_38 post  n9 M3 tl 0)))) else (vp_in v1 (al 90) ∧ (∀ M5 : MM, M5 = mset M 90 (v1 : Int32).toNatClampNeg 0 → (wX11_firstDraft_2 post n) M5 tl (v1 + 1))))
set_option maxHeartbeats 4000000 in
set_option maxRecDepth 20000 in
theorem bX11_firstDraft_2 {E : EV} {ad : Nat → Nat} {Φ : Option Value → va_W → Prop} {post : MM → Int64 → Prop}  (hp : ∀ M tl, post M tl → Φ none (WM E ad M tl)) : ∀ (n : Nat) (M : MM) (tl : Int64) (v1 : Int32), wX11_firstDraft_2 post n M tl v1 → T E kX11_firstDraft 0 0 (WM E ad M tl) 2 [(0, .ref (ad (81))), (1, .int v1)] [] Φ := by
  intro n
  induction n with
  | zero => intro M tl v1 h; exact False.elim h
  | succ n ih =>
    intro M tl v1 h
    unfold wX11_firstDraft_2 at h
    refine tj_iload_n rfl dX11_firstDraft_2 rfl ?_
    refine tj_bipush (v := 127) rfl dX11_firstDraft_3 (by decide) ?_
    refine tj_icmp_ge (tgt := 21) rfl rfl dX11_firstDraft_5 (fun hc => ?_) (fun hc => ?_)
    · rw [if_pos hc] at h
      refine tj_aload_n rfl dX11_firstDraft_21 rfl ?_
      refine tj_iconst (v := 5) rfl dX11_firstDraft_22 (by decide) ?_
      refine pf11_dLots (a := 81) rfl rfl dX11_firstDraft_23 fl_X11_95 ?_
      replace h := h _ rfl
      generalize mset M 81 13 5 = M1 at h ⊢
      refine tj_aload_n rfl dX11_firstDraft_26 rfl ?_
      refine tj_iconst (v := 3) rfl dX11_firstDraft_27 (by decide) ?_
      refine pf11_dBend (a := 81) rfl rfl dX11_firstDraft_28 fl_X11_99 ?_
      replace h := h _ rfl
      generalize mset M1 81 14 3 = M2 at h ⊢
      refine tj_aload_n rfl dX11_firstDraft_31 rfl ?_
      refine tj_iconst (v := 1) rfl dX11_firstDraft_32 (by decide) ?_
      refine pf11_dPull (a := 81) rfl rfl dX11_firstDraft_33 fl_X11_102 ?_
      replace h := h _ rfl
      generalize mset M2 81 15 1 = M3 at h ⊢
      refine tj_iconst (v := 0) rfl dX11_firstDraft_36 (by decide) ?_
      refine tj_istore_n (l' := [(0, _), (1, _)]) rfl dX11_firstDraft_37 (by decide) rfl ?_
      obtain ⟨n9, h⟩ := h
      exact bX11_firstDraft_38 hp  n9 _ _ _ h
    · rw [if_neg hc] at h
      refine tj_aload_n rfl dX11_firstDraft_8 rfl ?_
      refine gf11_draft (a := 81) rfl rfl dX11_firstDraft_9 fl_X11_35 ?_
      refine tj_iload_n rfl dX11_firstDraft_12 rfl ?_
      refine tj_iconst (v := 0) rfl dX11_firstDraft_13 (by decide) ?_
      obtain ⟨hi4, h⟩ := h
      refine af_iast (a := 90) rfl rfl dX11_firstDraft_14 hi4 ?_
      replace h := h _ rfl
      generalize mset M 90 (v1 : Int32).toNatClampNeg 0 = M5 at h ⊢
      refine tj_iinc (v := _ + 1) (l' := [(0, _), (1, _)]) rfl dX11_firstDraft_15 rfl (by decide) rfl rfl ?_
      refine tj_goto (tgt := 2) rfl dX11_firstDraft_18 ?_
      exact ih _ _ _ h
def wpX11_firstDraft (post : MM → Int64 → Prop) (M : MM) (tl : Int64) : Prop :=
  (∃ n9, wX11_firstDraft_2 post  n9 M tl 0)
set_option maxHeartbeats 4000000 in
set_option maxRecDepth 20000 in
theorem ctX11_firstDraft {E : EV} {ad : Nat → Nat} {M : MM} {tl : Int64} {Φ : Option Value → va_W → Prop} {post : MM → Int64 → Prop} (h : wpX11_firstDraft post M tl ) (hp : ∀ M tl, post M tl → Φ none (WM E ad M tl)) : Tm E kX11_firstDraft (WM E ad M tl) [.ref (ad (81))] Φ := by
  unfold wpX11_firstDraft at h
  show T E kX11_firstDraft 0 0 (WM E ad M tl) 0 [(0, .ref (ad (81)))] [] Φ
  refine tj_iconst (v := 0) rfl dX11_firstDraft_0 (by decide) ?_
  refine tj_istore_n (l' := [(0, _), (1, _)]) rfl dX11_firstDraft_1 (by decide) rfl ?_
  obtain ⟨n9, h⟩ := h
  exact bX11_firstDraft_2 hp  n9 _ _ _ h
def wX11_keepDraft_120 (post : MM → Int64 → Prop) (bk89 : MM → Int64 → Int32 → Prop) (M : MM) (tl : Int64) (v1 : Int32) (s1 : Int32) (s2 : Int32) : Prop :=
  (vp_in s1 (al 85) ∧ (∀ M2 : MM, M2 = mset M 85 (s1 : Int32).toNatClampNeg s2 → (vp_in v1 (al 93) ∧ (vp_in v1 (al 86) ∧ (∀ M5 : MM, M5 = mset M2 86 (v1 : Int32).toNatClampNeg (M2 93 (v1 : Int32).toNatClampNeg) → bk89 M5 tl (v1 + 1))))))
set_option maxHeartbeats 4000000 in
set_option maxRecDepth 20000 in
theorem bX11_keepDraft_120 {E : EV} {ad : Nat → Nat} {M : MM} {tl : Int64} {Φ : Option Value → va_W → Prop} {post : MM → Int64 → Prop} {bk89 : MM → Int64 → Int32 → Prop} {v1 : Int32} {s1 : Int32} {s2 : Int32} (hp : ∀ M tl, post M tl → Φ none (WM E ad M tl)) (hb89 : ∀ (M : MM) (tl : Int64) (v1 : Int32), bk89 M tl v1 → T E kX11_keepDraft 0 0 (WM E ad M tl) 89 [(0, .ref (ad (81))), (1, .int v1)] [] Φ) (h : wX11_keepDraft_120 post bk89 M tl v1 s1 s2) : T E kX11_keepDraft 0 0 (WM E ad M tl) 120 [(0, .ref (ad (81))), (1, .int v1)] [.int s2, .int s1, .ref (ad (85))] Φ := by
  unfold wX11_keepDraft_120 at h
  obtain ⟨hi1, h⟩ := h
  refine af_iast (a := 85) rfl rfl dX11_keepDraft_120 hi1 ?_
  replace h := h _ rfl
  generalize mset M 85 (s1 : Int32).toNatClampNeg s2 = M2 at h ⊢
  refine tj_aload_n rfl dX11_keepDraft_121 rfl ?_
  refine gf11_taste (a := 81) rfl rfl dX11_keepDraft_122 fl_X11_23 ?_
  refine tj_iload_n rfl dX11_keepDraft_125 rfl ?_
  refine tj_aload_n rfl dX11_keepDraft_126 rfl ?_
  refine gf11_dTaste (a := 81) rfl rfl dX11_keepDraft_127 fl_X11_44 ?_
  refine tj_iload_n rfl dX11_keepDraft_130 rfl ?_
  obtain ⟨hi3, h⟩ := h
  refine af_iald (a := 93) rfl rfl dX11_keepDraft_131 hi3 ?_
  obtain ⟨hi4, h⟩ := h
  refine af_iast (a := 86) rfl rfl dX11_keepDraft_132 hi4 ?_
  replace h := h _ rfl
  generalize mset M2 86 (v1 : Int32).toNatClampNeg (M2 93 (v1 : Int32).toNatClampNeg) = M5 at h ⊢
  refine tj_iinc (v := _ + 1) (l' := [(0, _), (1, _)]) rfl dX11_keepDraft_133 rfl (by decide) rfl rfl ?_
  refine tj_goto (tgt := 89) rfl dX11_keepDraft_136 ?_
  exact hb89 _ _ _ h
def wX11_keepDraft_173 (post : MM → Int64 → Prop) : Nat → MM → Int64 → Int32 → Prop
  | 0, _, _, _ => False
  | n + 1, M, tl, v1 =>
    (if 6 ≤ v1 then (vp_in 0 (al 83) ∧ (∀ M2 : MM, M2 = mset M 83 (0 : Int32).toNatClampNeg (vp_nar .boolean 0) → (vp_in 1 (al 83) ∧ (∀ M4 : MM, M4 = mset M2 83 (1 : Int32).toNatClampNeg (vp_nar .boolean 0) → post M4 tl)))) else (vp_in v1 (al 95) ∧ (vp_in v1 (al 88) ∧ (∀ M7 : MM, M7 = mset M 88 (v1 : Int32).toNatClampNeg (M 95 (v1 : Int32).toNatClampNeg) → (vp_in v1 (al 95) ∧ (∀ M9 : MM, M9 = mset M7 81 11 ((M7 81 11) ||| ((((M7 81 22) >>> (v1 &&& 31)) &&& 1) <<< ((M7 95 (v1 : Int32).toNatClampNeg) &&& 31))) → (wX11_keepDraft_173 post n) M9 tl (v1 + 1)))))))
set_option maxHeartbeats 4000000 in
set_option maxRecDepth 20000 in
theorem bX11_keepDraft_173 {E : EV} {ad : Nat → Nat} {Φ : Option Value → va_W → Prop} {post : MM → Int64 → Prop}  (hp : ∀ M tl, post M tl → Φ none (WM E ad M tl)) : ∀ (n : Nat) (M : MM) (tl : Int64) (v1 : Int32), wX11_keepDraft_173 post n M tl v1 → T E kX11_keepDraft 0 0 (WM E ad M tl) 173 [(0, .ref (ad (81))), (1, .int v1)] [] Φ := by
  intro n
  induction n with
  | zero => intro M tl v1 h; exact False.elim h
  | succ n ih =>
    intro M tl v1 h
    unfold wX11_keepDraft_173 at h
    refine tj_iload_n rfl dX11_keepDraft_173 rfl ?_
    refine tj_bipush (v := 6) rfl dX11_keepDraft_174 (by decide) ?_
    refine tj_icmp_ge (tgt := 221) rfl rfl dX11_keepDraft_176 (fun hc => ?_) (fun hc => ?_)
    · rw [if_pos hc] at h
      refine tj_aload_n rfl dX11_keepDraft_221 rfl ?_
      refine gf11_isKept (a := 81) rfl rfl dX11_keepDraft_222 fl_X11_13 ?_
      refine tj_iconst (v := 0) rfl dX11_keepDraft_225 (by decide) ?_
      refine tj_iconst (v := 0) rfl dX11_keepDraft_226 (by decide) ?_
      obtain ⟨hi1, h⟩ := h
      refine af_zast (a := 83) rfl rfl dX11_keepDraft_227 hi1 ?_
      replace h := h _ rfl
      generalize mset M 83 (0 : Int32).toNatClampNeg (vp_nar .boolean 0) = M2 at h ⊢
      refine tj_aload_n rfl dX11_keepDraft_228 rfl ?_
      refine gf11_isKept (a := 81) rfl rfl dX11_keepDraft_229 fl_X11_13 ?_
      refine tj_iconst (v := 1) rfl dX11_keepDraft_232 (by decide) ?_
      refine tj_iconst (v := 0) rfl dX11_keepDraft_233 (by decide) ?_
      obtain ⟨hi3, h⟩ := h
      refine af_zast (a := 83) rfl rfl dX11_keepDraft_234 hi3 ?_
      replace h := h _ rfl
      generalize mset M2 83 (1 : Int32).toNatClampNeg (vp_nar .boolean 0) = M4 at h ⊢
      exact tj_return dX11_keepDraft_235 rfl (Nat.zero_le _) (Nat.zero_le _) (hp _ _ h)
    · rw [if_neg hc] at h
      refine tj_aload_n rfl dX11_keepDraft_179 rfl ?_
      refine gf11_twin (a := 81) rfl rfl dX11_keepDraft_180 fl_X11_29 ?_
      refine tj_iload_n rfl dX11_keepDraft_183 rfl ?_
      refine tj_aload_n rfl dX11_keepDraft_184 rfl ?_
      refine gf11_dTwin (a := 81) rfl rfl dX11_keepDraft_185 fl_X11_50 ?_
      refine tj_iload_n rfl dX11_keepDraft_188 rfl ?_
      obtain ⟨hi5, h⟩ := h
      refine af_iald (a := 95) rfl rfl dX11_keepDraft_189 hi5 ?_
      obtain ⟨hi6, h⟩ := h
      refine af_iast (a := 88) rfl rfl dX11_keepDraft_190 hi6 ?_
      replace h := h _ rfl
      generalize mset M 88 (v1 : Int32).toNatClampNeg (M 95 (v1 : Int32).toNatClampNeg) = M7 at h ⊢
      refine tj_aload_n rfl dX11_keepDraft_191 rfl ?_
      refine tj_dup rfl dX11_keepDraft_192 rfl ?_
      refine gf11_rights (a := 81) rfl rfl dX11_keepDraft_193 fl_X11_138 ?_
      refine tj_aload_n rfl dX11_keepDraft_196 rfl ?_
      refine gf11_dRights (a := 81) rfl rfl dX11_keepDraft_197 fl_X11_105 ?_
      refine tj_iload_n rfl dX11_keepDraft_200 rfl ?_
      refine tj_ishr rfl dX11_keepDraft_201 ?_
      refine tj_iconst (v := 1) rfl dX11_keepDraft_202 (by decide) ?_
      refine tj_iand rfl dX11_keepDraft_203 ?_
      refine tj_aload_n rfl dX11_keepDraft_204 rfl ?_
      refine gf11_dTwin (a := 81) rfl rfl dX11_keepDraft_205 fl_X11_50 ?_
      refine tj_iload_n rfl dX11_keepDraft_208 rfl ?_
      obtain ⟨hi8, h⟩ := h
      refine af_iald (a := 95) rfl rfl dX11_keepDraft_209 hi8 ?_
      refine tj_ishl rfl dX11_keepDraft_210 ?_
      refine tj_ior rfl dX11_keepDraft_211 ?_
      refine pf11_rights (a := 81) rfl rfl dX11_keepDraft_212 fl_X11_138 ?_
      replace h := h _ rfl
      generalize mset M7 81 11 ((M7 81 11) ||| ((((M7 81 22) >>> (v1 &&& 31)) &&& 1) <<< ((M7 95 (v1 : Int32).toNatClampNeg) &&& 31))) = M9 at h ⊢
      refine tj_iinc (v := _ + 1) (l' := [(0, _), (1, _)]) rfl dX11_keepDraft_215 rfl (by decide) rfl rfl ?_
      refine tj_goto (tgt := 173) rfl dX11_keepDraft_218 ?_
      exact ih _ _ _ h
def wX11_keepDraft_89 (post : MM → Int64 → Prop) : Nat → MM → Int64 → Int32 → Prop
  | 0, _, _, _ => False
  | n + 1, M, tl, v1 =>
    (if 12 ≤ v1 then (vp_in 0 (al 94) ∧ (vp_in 0 (al 87) ∧ (∀ M3 : MM, M3 = mset M 87 (0 : Int32).toNatClampNeg (M 94 (0 : Int32).toNatClampNeg) → (vp_in 1 (al 94) ∧ (vp_in 1 (al 87) ∧ (∀ M6 : MM, M6 = mset M3 87 (1 : Int32).toNatClampNeg (M3 94 (1 : Int32).toNatClampNeg) → (∀ M7 : MM, M7 = mset M6 81 11 (M6 81 22) → (∃ n9, wX11_keepDraft_173 post  n9 M7 tl 0)))))))) else (if (v1 - v1 / 6 * 6) = 0 then wX11_keepDraft_120 post (wX11_keepDraft_89 post n) M tl v1 v1 (M 81 15) else (vp_in v1 (al 92) ∧ wX11_keepDraft_120 post (wX11_keepDraft_89 post n) M tl v1 v1 (M 92 (v1 : Int32).toNatClampNeg))))
set_option maxHeartbeats 4000000 in
set_option maxRecDepth 20000 in
theorem bX11_keepDraft_89 {E : EV} {ad : Nat → Nat} {Φ : Option Value → va_W → Prop} {post : MM → Int64 → Prop}  (hp : ∀ M tl, post M tl → Φ none (WM E ad M tl)) : ∀ (n : Nat) (M : MM) (tl : Int64) (v1 : Int32), wX11_keepDraft_89 post n M tl v1 → T E kX11_keepDraft 0 0 (WM E ad M tl) 89 [(0, .ref (ad (81))), (1, .int v1)] [] Φ := by
  intro n
  induction n with
  | zero => intro M tl v1 h; exact False.elim h
  | succ n ih =>
    intro M tl v1 h
    unfold wX11_keepDraft_89 at h
    refine tj_iload_n rfl dX11_keepDraft_89 rfl ?_
    refine tj_bipush (v := 12) rfl dX11_keepDraft_90 (by decide) ?_
    refine tj_icmp_ge (tgt := 139) rfl rfl dX11_keepDraft_92 (fun hc => ?_) (fun hc => ?_)
    · rw [if_pos hc] at h
      refine tj_aload_n rfl dX11_keepDraft_139 rfl ?_
      refine gf11_lacks (a := 81) rfl rfl dX11_keepDraft_140 fl_X11_26 ?_
      refine tj_iconst (v := 0) rfl dX11_keepDraft_143 (by decide) ?_
      refine tj_aload_n rfl dX11_keepDraft_144 rfl ?_
      refine gf11_dLacks (a := 81) rfl rfl dX11_keepDraft_145 fl_X11_47 ?_
      refine tj_iconst (v := 0) rfl dX11_keepDraft_148 (by decide) ?_
      obtain ⟨hi1, h⟩ := h
      refine af_iald (a := 94) rfl rfl dX11_keepDraft_149 hi1 ?_
      obtain ⟨hi2, h⟩ := h
      refine af_iast (a := 87) rfl rfl dX11_keepDraft_150 hi2 ?_
      replace h := h _ rfl
      generalize mset M 87 (0 : Int32).toNatClampNeg (M 94 (0 : Int32).toNatClampNeg) = M3 at h ⊢
      refine tj_aload_n rfl dX11_keepDraft_151 rfl ?_
      refine gf11_lacks (a := 81) rfl rfl dX11_keepDraft_152 fl_X11_26 ?_
      refine tj_iconst (v := 1) rfl dX11_keepDraft_155 (by decide) ?_
      refine tj_aload_n rfl dX11_keepDraft_156 rfl ?_
      refine gf11_dLacks (a := 81) rfl rfl dX11_keepDraft_157 fl_X11_47 ?_
      refine tj_iconst (v := 1) rfl dX11_keepDraft_160 (by decide) ?_
      obtain ⟨hi4, h⟩ := h
      refine af_iald (a := 94) rfl rfl dX11_keepDraft_161 hi4 ?_
      obtain ⟨hi5, h⟩ := h
      refine af_iast (a := 87) rfl rfl dX11_keepDraft_162 hi5 ?_
      replace h := h _ rfl
      generalize mset M3 87 (1 : Int32).toNatClampNeg (M3 94 (1 : Int32).toNatClampNeg) = M6 at h ⊢
      refine tj_aload_n rfl dX11_keepDraft_163 rfl ?_
      refine tj_aload_n rfl dX11_keepDraft_164 rfl ?_
      refine gf11_dRights (a := 81) rfl rfl dX11_keepDraft_165 fl_X11_105 ?_
      refine pf11_rights (a := 81) rfl rfl dX11_keepDraft_168 fl_X11_138 ?_
      replace h := h _ rfl
      generalize mset M6 81 11 (M6 81 22) = M7 at h ⊢
      refine tj_iconst (v := 0) rfl dX11_keepDraft_171 (by decide) ?_
      refine tj_istore_n (l' := [(0, _), (1, _)]) rfl dX11_keepDraft_172 (by decide) rfl ?_
      obtain ⟨n9, h⟩ := h
      exact bX11_keepDraft_173 hp  n9 _ _ _ h
    · rw [if_neg hc] at h
      refine tj_aload_n rfl dX11_keepDraft_95 rfl ?_
      refine gf11_cost (a := 81) rfl rfl dX11_keepDraft_96 fl_X11_20 ?_
      refine tj_iload_n rfl dX11_keepDraft_99 rfl ?_
      refine tj_iload_n rfl dX11_keepDraft_100 rfl ?_
      refine tj_bipush (v := 6) rfl dX11_keepDraft_101 (by decide) ?_
      refine tj_irem rfl dX11_keepDraft_103 (by decide) ?_
      refine tj_if_ne (tgt := 114) rfl rfl dX11_keepDraft_104 (fun hc => ?_) (fun hc => ?_)
      · rw [if_neg hc] at h
        refine tj_aload_n rfl dX11_keepDraft_114 rfl ?_
        refine gf11_dCost (a := 81) rfl rfl dX11_keepDraft_115 fl_X11_41 ?_
        refine tj_iload_n rfl dX11_keepDraft_118 rfl ?_
        obtain ⟨hi8, h⟩ := h
        refine af_iald (a := 92) rfl rfl dX11_keepDraft_119 hi8 ?_
        exact bX11_keepDraft_120 hp ih h
      · rw [if_pos hc] at h
        refine tj_aload_n rfl dX11_keepDraft_107 rfl ?_
        refine gf11_dPull (a := 81) rfl rfl dX11_keepDraft_108 fl_X11_102 ?_
        refine tj_goto (tgt := 120) rfl dX11_keepDraft_111 ?_
        exact bX11_keepDraft_120 hp ih h
def wX11_keepDraft_52 (post : MM → Int64 → Prop) : Nat → MM → Int64 → Int32 → Prop
  | 0, _, _, _ => False
  | n + 1, M, tl, v1 =>
    (if 4 ≤ v1 then (∃ n9, wX11_keepDraft_89 post  n9 M tl 0) else (vp_in v1 (al 91) ∧ (vp_in v1 (al 84) ∧ (∀ M3 : MM, M3 = mset M 84 (v1 : Int32).toNatClampNeg (M 91 (v1 : Int32).toNatClampNeg) → (vp_in v1 (al 96) ∧ (vp_in v1 (al 89) ∧ (∀ M6 : MM, M6 = mset M3 89 (v1 : Int32).toNatClampNeg (M3 96 (v1 : Int32).toNatClampNeg) → (wX11_keepDraft_52 post n) M6 tl (v1 + 1))))))))
set_option maxHeartbeats 4000000 in
set_option maxRecDepth 20000 in
theorem bX11_keepDraft_52 {E : EV} {ad : Nat → Nat} {Φ : Option Value → va_W → Prop} {post : MM → Int64 → Prop}  (hp : ∀ M tl, post M tl → Φ none (WM E ad M tl)) : ∀ (n : Nat) (M : MM) (tl : Int64) (v1 : Int32), wX11_keepDraft_52 post n M tl v1 → T E kX11_keepDraft 0 0 (WM E ad M tl) 52 [(0, .ref (ad (81))), (1, .int v1)] [] Φ := by
  intro n
  induction n with
  | zero => intro M tl v1 h; exact False.elim h
  | succ n ih =>
    intro M tl v1 h
    unfold wX11_keepDraft_52 at h
    refine tj_iload_n rfl dX11_keepDraft_52 rfl ?_
    refine tj_iconst (v := 4) rfl dX11_keepDraft_53 (by decide) ?_
    refine tj_icmp_ge (tgt := 87) rfl rfl dX11_keepDraft_54 (fun hc => ?_) (fun hc => ?_)
    · rw [if_pos hc] at h
      refine tj_iconst (v := 0) rfl dX11_keepDraft_87 (by decide) ?_
      refine tj_istore_n (l' := [(0, _), (1, _)]) rfl dX11_keepDraft_88 (by decide) rfl ?_
      obtain ⟨n9, h⟩ := h
      exact bX11_keepDraft_89 hp  n9 _ _ _ h
    · rw [if_neg hc] at h
      refine tj_aload_n rfl dX11_keepDraft_57 rfl ?_
      refine gf11_price (a := 81) rfl rfl dX11_keepDraft_58 fl_X11_17 ?_
      refine tj_iload_n rfl dX11_keepDraft_61 rfl ?_
      refine tj_aload_n rfl dX11_keepDraft_62 rfl ?_
      refine gf11_dPrice (a := 81) rfl rfl dX11_keepDraft_63 fl_X11_38 ?_
      refine tj_iload_n rfl dX11_keepDraft_66 rfl ?_
      obtain ⟨hi1, h⟩ := h
      refine af_iald (a := 91) rfl rfl dX11_keepDraft_67 hi1 ?_
      obtain ⟨hi2, h⟩ := h
      refine af_iast (a := 84) rfl rfl dX11_keepDraft_68 hi2 ?_
      replace h := h _ rfl
      generalize mset M 84 (v1 : Int32).toNatClampNeg (M 91 (v1 : Int32).toNatClampNeg) = M3 at h ⊢
      refine tj_aload_n rfl dX11_keepDraft_69 rfl ?_
      refine gf11_paint (a := 81) rfl rfl dX11_keepDraft_70 fl_X11_32 ?_
      refine tj_iload_n rfl dX11_keepDraft_73 rfl ?_
      refine tj_aload_n rfl dX11_keepDraft_74 rfl ?_
      refine gf11_dPaint (a := 81) rfl rfl dX11_keepDraft_75 fl_X11_53 ?_
      refine tj_iload_n rfl dX11_keepDraft_78 rfl ?_
      obtain ⟨hi4, h⟩ := h
      refine af_iald (a := 96) rfl rfl dX11_keepDraft_79 hi4 ?_
      obtain ⟨hi5, h⟩ := h
      refine af_iast (a := 89) rfl rfl dX11_keepDraft_80 hi5 ?_
      replace h := h _ rfl
      generalize mset M3 89 (v1 : Int32).toNatClampNeg (M3 96 (v1 : Int32).toNatClampNeg) = M6 at h ⊢
      refine tj_iinc (v := _ + 1) (l' := [(0, _), (1, _)]) rfl dX11_keepDraft_81 rfl (by decide) rfl rfl ?_
      refine tj_goto (tgt := 52) rfl dX11_keepDraft_84 ?_
      exact ih _ _ _ h
def wX11_keepDraft_2 (post : MM → Int64 → Prop) : Nat → MM → Int64 → Int32 → Prop
  | 0, _, _, _ => False
  | n + 1, M, tl, v1 =>
    (if 127 ≤ v1 then (∀ M1 : MM, M1 = mset M 81 2 (M 81 13) → (∀ M2 : MM, M2 = mset M1 81 3 (M1 81 14) → (∀ M3 : MM, M3 = mset M2 81 4 (M2 81 15) → (∃ n9, wX11_keepDraft_52 post  n9 M3 tl 0)))) else (vp_in v1 (al 90) ∧ (vp_in v1 (al 82) ∧ (∀ M6 : MM, M6 = mset M 82 (v1 : Int32).toNatClampNeg (M 90 (v1 : Int32).toNatClampNeg) → (wX11_keepDraft_2 post n) M6 tl (v1 + 1)))))
set_option maxHeartbeats 4000000 in
set_option maxRecDepth 20000 in
theorem bX11_keepDraft_2 {E : EV} {ad : Nat → Nat} {Φ : Option Value → va_W → Prop} {post : MM → Int64 → Prop}  (hp : ∀ M tl, post M tl → Φ none (WM E ad M tl)) : ∀ (n : Nat) (M : MM) (tl : Int64) (v1 : Int32), wX11_keepDraft_2 post n M tl v1 → T E kX11_keepDraft 0 0 (WM E ad M tl) 2 [(0, .ref (ad (81))), (1, .int v1)] [] Φ := by
  intro n
  induction n with
  | zero => intro M tl v1 h; exact False.elim h
  | succ n ih =>
    intro M tl v1 h
    unfold wX11_keepDraft_2 at h
    refine tj_iload_n rfl dX11_keepDraft_2 rfl ?_
    refine tj_bipush (v := 127) rfl dX11_keepDraft_3 (by decide) ?_
    refine tj_icmp_ge (tgt := 26) rfl rfl dX11_keepDraft_5 (fun hc => ?_) (fun hc => ?_)
    · rw [if_pos hc] at h
      refine tj_aload_n rfl dX11_keepDraft_26 rfl ?_
      refine tj_aload_n rfl dX11_keepDraft_27 rfl ?_
      refine gf11_dLots (a := 81) rfl rfl dX11_keepDraft_28 fl_X11_95 ?_
      refine pf11_lots (a := 81) rfl rfl dX11_keepDraft_31 fl_X11_129 ?_
      replace h := h _ rfl
      generalize mset M 81 2 (M 81 13) = M1 at h ⊢
      refine tj_aload_n rfl dX11_keepDraft_34 rfl ?_
      refine tj_aload_n rfl dX11_keepDraft_35 rfl ?_
      refine gf11_dBend (a := 81) rfl rfl dX11_keepDraft_36 fl_X11_99 ?_
      refine pf11_bend (a := 81) rfl rfl dX11_keepDraft_39 fl_X11_132 ?_
      replace h := h _ rfl
      generalize mset M1 81 3 (M1 81 14) = M2 at h ⊢
      refine tj_aload_n rfl dX11_keepDraft_42 rfl ?_
      refine tj_aload_n rfl dX11_keepDraft_43 rfl ?_
      refine gf11_dPull (a := 81) rfl rfl dX11_keepDraft_44 fl_X11_102 ?_
      refine pf11_pull (a := 81) rfl rfl dX11_keepDraft_47 fl_X11_135 ?_
      replace h := h _ rfl
      generalize mset M2 81 4 (M2 81 15) = M3 at h ⊢
      refine tj_iconst (v := 0) rfl dX11_keepDraft_50 (by decide) ?_
      refine tj_istore_n (l' := [(0, _), (1, _)]) rfl dX11_keepDraft_51 (by decide) rfl ?_
      obtain ⟨n9, h⟩ := h
      exact bX11_keepDraft_52 hp  n9 _ _ _ h
    · rw [if_neg hc] at h
      refine tj_aload_n rfl dX11_keepDraft_8 rfl ?_
      refine gf11_st (a := 81) rfl rfl dX11_keepDraft_9 fl_X11_7 ?_
      refine tj_iload_n rfl dX11_keepDraft_12 rfl ?_
      refine tj_aload_n rfl dX11_keepDraft_13 rfl ?_
      refine gf11_draft (a := 81) rfl rfl dX11_keepDraft_14 fl_X11_35 ?_
      refine tj_iload_n rfl dX11_keepDraft_17 rfl ?_
      obtain ⟨hi4, h⟩ := h
      refine af_iald (a := 90) rfl rfl dX11_keepDraft_18 hi4 ?_
      obtain ⟨hi5, h⟩ := h
      refine af_iast (a := 82) rfl rfl dX11_keepDraft_19 hi5 ?_
      replace h := h _ rfl
      generalize mset M 82 (v1 : Int32).toNatClampNeg (M 90 (v1 : Int32).toNatClampNeg) = M6 at h ⊢
      refine tj_iinc (v := _ + 1) (l' := [(0, _), (1, _)]) rfl dX11_keepDraft_20 rfl (by decide) rfl rfl ?_
      refine tj_goto (tgt := 2) rfl dX11_keepDraft_23 ?_
      exact ih _ _ _ h
def wpX11_keepDraft (post : MM → Int64 → Prop) (M : MM) (tl : Int64) : Prop :=
  (∃ n9, wX11_keepDraft_2 post  n9 M tl 0)
set_option maxHeartbeats 4000000 in
set_option maxRecDepth 20000 in
theorem ctX11_keepDraft {E : EV} {ad : Nat → Nat} {M : MM} {tl : Int64} {Φ : Option Value → va_W → Prop} {post : MM → Int64 → Prop} (h : wpX11_keepDraft post M tl ) (hp : ∀ M tl, post M tl → Φ none (WM E ad M tl)) : Tm E kX11_keepDraft (WM E ad M tl) [.ref (ad (81))] Φ := by
  unfold wpX11_keepDraft at h
  show T E kX11_keepDraft 0 0 (WM E ad M tl) 0 [(0, .ref (ad (81)))] [] Φ
  refine tj_iconst (v := 0) rfl dX11_keepDraft_0 (by decide) ?_
  refine tj_istore_n (l' := [(0, _), (1, _)]) rfl dX11_keepDraft_1 (by decide) rfl ?_
  obtain ⟨n9, h⟩ := h
  exact bX11_keepDraft_2 hp  n9 _ _ _ h
def wX11_feed_19 (post : Int32 → MM → Int64 → Prop) : Nat → MM → Int64 → Int64 → Int32 → Prop
  | 0, _, _, _, _ => False
  | n + 1, M, tl, v1, v3 =>
    (if v3 < 0 then post (M 81 31) M tl else (vp_in (M 81 31) (al 97) ∧ (∀ M2 : MM, M2 = mset M 97 (M 81 31 : Int32).toNatClampNeg (((v1 >>> ((v3 : Int32).toInt64 &&& 63)) &&& 255 : Int64).toInt32) → (∀ M3 : MM, M3 = mset M2 81 31 ((M2 81 31) + 1) → (wX11_feed_19 post n) M3 tl v1 (v3 + (-8))))))
set_option maxHeartbeats 4000000 in
set_option maxRecDepth 20000 in
theorem bX11_feed_19 {E : EV} {ad : Nat → Nat} {Φ : Option Value → va_W → Prop} {post : Int32 → MM → Int64 → Prop}  (hp : ∀ r M tl, post r M tl → Φ (some (.int r)) (WM E ad M tl)) : ∀ (n : Nat) (M : MM) (tl : Int64) (v1 : Int64) (v3 : Int32), wX11_feed_19 post n M tl v1 v3 → T E kX11_feed 0 0 (WM E ad M tl) 19 [(0, .ref (ad (81))), (1, .long v1), (3, .int v3)] [] Φ := by
  intro n
  induction n with
  | zero => intro M tl v1 v3 h; exact False.elim h
  | succ n ih =>
    intro M tl v1 v3 h
    unfold wX11_feed_19 at h
    refine tj_iload_n rfl dX11_feed_19 rfl ?_
    refine tj_if_lt (tgt := 56) rfl rfl dX11_feed_20 (fun hc => ?_) (fun hc => ?_)
    · rw [if_pos hc] at h
      refine tj_aload_n rfl dX11_feed_56 rfl ?_
      refine gf11_taped (a := 81) rfl rfl dX11_feed_57 fl_X11_141 ?_
      exact tj_ireturn (ty := .int) dX11_feed_60 rfl rfl (Nat.zero_le _) (Nat.zero_le _) (hp _ _ _ h)
    · rw [if_neg hc] at h
      refine tj_aload_n rfl dX11_feed_23 rfl ?_
      refine gf11_tape (a := 81) rfl rfl dX11_feed_24 fl_X11_56 ?_
      refine tj_aload_n rfl dX11_feed_27 rfl ?_
      refine gf11_taped (a := 81) rfl rfl dX11_feed_28 fl_X11_141 ?_
      refine tj_lload_n rfl dX11_feed_31 rfl ?_
      refine tj_iload_n rfl dX11_feed_32 rfl ?_
      refine tj_lshr rfl dX11_feed_33 ?_
      refine tj_ldc2 rfl dX11_feed_34 kl_X11_144 ?_
      refine tj_land rfl dX11_feed_37 ?_
      refine tj_l2i rfl dX11_feed_38 ?_
      obtain ⟨hi1, h⟩ := h
      refine af_iast (a := 97) rfl rfl dX11_feed_39 hi1 ?_
      replace h := h _ rfl
      generalize mset M 97 (M 81 31 : Int32).toNatClampNeg (((v1 >>> ((v3 : Int32).toInt64 &&& 63)) &&& 255 : Int64).toInt32) = M2 at h ⊢
      refine tj_aload_n rfl dX11_feed_40 rfl ?_
      refine tj_dup rfl dX11_feed_41 rfl ?_
      refine gf11_taped (a := 81) rfl rfl dX11_feed_42 fl_X11_141 ?_
      refine tj_iconst (v := 1) rfl dX11_feed_45 (by decide) ?_
      refine tj_iadd rfl dX11_feed_46 ?_
      refine pf11_taped (a := 81) rfl rfl dX11_feed_47 fl_X11_141 ?_
      replace h := h _ rfl
      generalize mset M2 81 31 ((M2 81 31) + 1) = M3 at h ⊢
      refine tj_iinc (v := _ + (-8)) (l' := [(0, _), (1, _), (3, _)]) rfl dX11_feed_50 rfl (by decide) rfl rfl ?_
      refine tj_goto (tgt := 19) rfl dX11_feed_53 ?_
      exact ih _ _ _ _ h
def wpX11_feed (post : Int32 → MM → Int64 → Prop) (M : MM) (tl : Int64) (v1 : Int64) : Prop :=
  (if ((M 81 31) + 8) ≤ 400 then (∃ n9, wX11_feed_19 post  n9 M tl v1 56) else post (-3) M tl)
set_option maxHeartbeats 4000000 in
set_option maxRecDepth 20000 in
theorem ctX11_feed {E : EV} {ad : Nat → Nat} {M : MM} {tl : Int64} {Φ : Option Value → va_W → Prop} {post : Int32 → MM → Int64 → Prop} {v1 : Int64} (h : wpX11_feed post M tl v1) (hp : ∀ r M tl, post r M tl → Φ (some (.int r)) (WM E ad M tl)) : Tm E kX11_feed (WM E ad M tl) [.ref (ad (81)), .long v1] Φ := by
  unfold wpX11_feed at h
  show T E kX11_feed 0 0 (WM E ad M tl) 0 [(0, .ref (ad (81))), (1, .long v1)] [] Φ
  refine tj_aload_n rfl dX11_feed_0 rfl ?_
  refine gf11_taped (a := 81) rfl rfl dX11_feed_1 fl_X11_141 ?_
  refine tj_bipush (v := 8) rfl dX11_feed_4 (by decide) ?_
  refine tj_iadd rfl dX11_feed_6 ?_
  refine tj_sipush (v := 400) rfl dX11_feed_7 (by decide) ?_
  refine tj_icmp_le (tgt := 16) rfl rfl dX11_feed_10 (fun hc => ?_) (fun hc => ?_)
  · rw [if_pos hc] at h
    refine tj_bipush (v := 56) rfl dX11_feed_16 (by decide) ?_
    refine tj_istore_n (l' := [(0, _), (1, _), (3, _)]) rfl dX11_feed_18 (by decide) rfl ?_
    obtain ⟨n9, h⟩ := h
    exact bX11_feed_19 hp  n9 _ _ _ _ h
  · rw [if_neg hc] at h
    refine tj_bipush (v := -3) rfl dX11_feed_13 (by decide) ?_
    exact tj_ireturn (ty := .int) dX11_feed_15 rfl rfl (Nat.zero_le _) (Nat.zero_le _) (hp _ _ _ h)
def wpX11_end (post : Int32 → MM → Int64 → Prop) (M : MM) (tl : Int64) (v1 : Int32) : Prop :=
  wpX11_in (fun r3 M1 t2 => (if r3 = 0 then post (-1) M1 t2 else (∀ M4 : MM, M4 = mset M1 81 31 v1 → post (M1 81 31) M4 t2))) M tl ((v1 : Int32).toInt64) 0 ((M 81 31 : Int32).toInt64)
set_option maxHeartbeats 4000000 in
set_option maxRecDepth 20000 in
theorem ctX11_end {E : EV} {ad : Nat → Nat} {M : MM} {tl : Int64} {Φ : Option Value → va_W → Prop} {post : Int32 → MM → Int64 → Prop} {v1 : Int32} (h : wpX11_end post M tl v1) (hp : ∀ r M tl, post r M tl → Φ (some (.int r)) (WM E ad M tl)) : Tm E kX11_end (WM E ad M tl) [.ref (ad (81)), .int v1] Φ := by
  unfold wpX11_end at h
  show T E kX11_end 0 0 (WM E ad M tl) 0 [(0, .ref (ad (81))), (1, .int v1)] [] Φ
  refine tj_iload_n rfl dX11_end_0 rfl ?_
  refine tj_i2l rfl dX11_end_1 ?_
  refine tj_lconst (v := 0) rfl dX11_end_2 (by decide) ?_
  refine tj_aload_n rfl dX11_end_3 rfl ?_
  refine gf11_taped (a := 81) rfl rfl dX11_end_4 fl_X11_141 ?_
  refine tj_i2l rfl dX11_end_7 ?_
  refine cf_S (z := kX11_in) (As := [_, _, _]) rfl dX11_end_8 rfl ml_X11_146 okX11_in rfl (rm_ok rfl) (Nat.le_of_ble_eq_true rfl) (Nat.le_of_ble_eq_true rfl) rfl ?_
  refine ctX11_in h (fun r3 M1 t2 h => ?_)
  refine tj_if_ne (tgt := 16) rfl rfl dX11_end_11 (fun hc => ?_) (fun hc => ?_)
  · rw [if_neg hc] at h
    refine tj_aload_n rfl dX11_end_16 rfl ?_
    refine gf11_taped (a := 81) rfl rfl dX11_end_17 fl_X11_141 ?_
    refine tj_istore_n (l' := [(0, _), (1, _), (2, _)]) rfl dX11_end_20 (by decide) rfl ?_
    refine tj_aload_n rfl dX11_end_21 rfl ?_
    refine tj_iload_n rfl dX11_end_22 rfl ?_
    refine pf11_taped (a := 81) rfl rfl dX11_end_23 fl_X11_141 ?_
    replace h := h _ rfl
    generalize mset M1 81 31 v1 = M4 at h ⊢
    refine tj_iload_n rfl dX11_end_26 rfl ?_
    exact tj_ireturn (ty := .int) dX11_end_27 rfl rfl (Nat.zero_le _) (Nat.zero_le _) (hp _ _ _ h)
  · rw [if_pos hc] at h
    refine tj_iconst (v := -1) rfl dX11_end_14 (by decide) ?_
    exact tj_ireturn (ty := .int) dX11_end_15 rfl rfl (Nat.zero_le _) (Nat.zero_le _) (hp _ _ _ h)
def wpX11_needs (post : MM → Int64 → Prop) (M : MM) (tl : Int64) (v1 : Int32) (v2 : Int32) : Prop :=
  (if v1 = 0 then (if (M 81 36) = 0 then (∀ M1 : MM, M1 = mset M 81 36 v2 → (∀ M2 : MM, M2 = mset M1 81 37 (M1 81 33) → post M2 tl)) else post M tl) else post M tl)
set_option maxHeartbeats 4000000 in
set_option maxRecDepth 20000 in
theorem ctX11_needs {E : EV} {ad : Nat → Nat} {M : MM} {tl : Int64} {Φ : Option Value → va_W → Prop} {post : MM → Int64 → Prop} {v1 : Int32} {v2 : Int32} (h : wpX11_needs post M tl v1 v2) (hp : ∀ M tl, post M tl → Φ none (WM E ad M tl)) : Tm E kX11_needs (WM E ad M tl) [.ref (ad (81)), .int v1, .int v2] Φ := by
  unfold wpX11_needs at h
  show T E kX11_needs 0 0 (WM E ad M tl) 0 [(0, .ref (ad (81))), (1, .int v1), (2, .int v2)] [] Φ
  refine tj_iload_n rfl dX11_needs_0 rfl ?_
  refine tj_if_ne (tgt := 24) rfl rfl dX11_needs_1 (fun hc => ?_) (fun hc => ?_)
  · rw [if_neg hc] at h
    exact tj_return dX11_needs_24 rfl (Nat.zero_le _) (Nat.zero_le _) (hp _ _ h)
  · rw [if_pos hc] at h
    refine tj_aload_n rfl dX11_needs_4 rfl ?_
    refine gf11_fault (a := 81) rfl rfl dX11_needs_5 fl_X11_150 ?_
    refine tj_if_ne (tgt := 24) rfl rfl dX11_needs_8 (fun hc => ?_) (fun hc => ?_)
    · rw [if_neg hc] at h
      exact tj_return dX11_needs_24 rfl (Nat.zero_le _) (Nat.zero_le _) (hp _ _ h)
    · rw [if_pos hc] at h
      refine tj_aload_n rfl dX11_needs_11 rfl ?_
      refine tj_iload_n rfl dX11_needs_12 rfl ?_
      refine pf11_fault (a := 81) rfl rfl dX11_needs_13 fl_X11_150 ?_
      replace h := h _ rfl
      generalize mset M 81 36 v2 = M1 at h ⊢
      refine tj_aload_n rfl dX11_needs_16 rfl ?_
      refine tj_aload_n rfl dX11_needs_17 rfl ?_
      refine gf11_from (a := 81) rfl rfl dX11_needs_18 fl_X11_153 ?_
      refine pf11_wrongAt (a := 81) rfl rfl dX11_needs_21 fl_X11_156 ?_
      replace h := h _ rfl
      generalize mset M1 81 37 (M1 81 33) = M2 at h ⊢
      exact tj_return dX11_needs_24 rfl (Nat.zero_le _) (Nat.zero_le _) (hp _ _ h)
def wpX11_look (post : Int32 → MM → Int64 → Prop) (M : MM) (tl : Int64) (v1 : Int32) : Prop :=
  (if (M 81 31) ≤ v1 then post (-1) M tl else (vp_in v1 (al 97) ∧ post (M 97 (v1 : Int32).toNatClampNeg) M tl))
set_option maxHeartbeats 4000000 in
set_option maxRecDepth 20000 in
theorem ctX11_look {E : EV} {ad : Nat → Nat} {M : MM} {tl : Int64} {Φ : Option Value → va_W → Prop} {post : Int32 → MM → Int64 → Prop} {v1 : Int32} (h : wpX11_look post M tl v1) (hp : ∀ r M tl, post r M tl → Φ (some (.int r)) (WM E ad M tl)) : Tm E kX11_look (WM E ad M tl) [.ref (ad (81)), .int v1] Φ := by
  unfold wpX11_look at h
  show T E kX11_look 0 0 (WM E ad M tl) 0 [(0, .ref (ad (81))), (1, .int v1)] [] Φ
  refine tj_iload_n rfl dX11_look_0 rfl ?_
  refine tj_aload_n rfl dX11_look_1 rfl ?_
  refine gf11_taped (a := 81) rfl rfl dX11_look_2 fl_X11_141 ?_
  refine tj_icmp_ge (tgt := 17) rfl rfl dX11_look_5 (fun hc => ?_) (fun hc => ?_)
  · rw [if_pos hc] at h
    refine tj_iconst (v := -1) rfl dX11_look_17 (by decide) ?_
    exact tj_ireturn (ty := .int) dX11_look_18 rfl rfl (Nat.zero_le _) (Nat.zero_le _) (hp _ _ _ h)
  · rw [if_neg hc] at h
    refine tj_aload_n rfl dX11_look_8 rfl ?_
    refine gf11_tape (a := 81) rfl rfl dX11_look_9 fl_X11_56 ?_
    refine tj_iload_n rfl dX11_look_12 rfl ?_
    obtain ⟨hi1, h⟩ := h
    refine af_iald (a := 97) rfl rfl dX11_look_13 hi1 ?_
    refine tj_goto (tgt := 18) rfl dX11_look_14 ?_
    exact tj_ireturn (ty := .int) dX11_look_18 rfl rfl (Nat.zero_le _) (Nat.zero_le _) (hp _ _ _ h)
def wpX11_is (post : Int32 → MM → Int64 → Prop) (M : MM) (tl : Int64) (v1 : Int32) (v2 : Int32) (v3 : Int32) (v4 : Int32) (v5 : Int32) : Prop :=
  (if ((M 81 32) - (M 81 33)) = v1 then wpX11_look (fun r3 M1 t2 => (if r3 = v2 then wpX11_look (fun r6 M4 t5 => (if r6 = v3 then wpX11_look (fun r9 M7 t8 => (if r9 = v4 then wpX11_look (fun r12 M10 t11 => (if r12 = v5 then post 1 M10 t11 else post 0 M10 t11)) M7 t8 ((M7 81 33) + 3) else post 0 M7 t8)) M4 t5 ((M4 81 33) + 2) else post 0 M4 t5)) M1 t2 ((M1 81 33) + 1) else post 0 M1 t2)) M tl (M 81 33) else post 0 M tl)
set_option maxHeartbeats 4000000 in
set_option maxRecDepth 20000 in
theorem ctX11_is {E : EV} {ad : Nat → Nat} {M : MM} {tl : Int64} {Φ : Option Value → va_W → Prop} {post : Int32 → MM → Int64 → Prop} {v1 : Int32} {v2 : Int32} {v3 : Int32} {v4 : Int32} {v5 : Int32} (h : wpX11_is post M tl v1 v2 v3 v4 v5) (hp : ∀ r M tl, post r M tl → Φ (some (.int r)) (WM E ad M tl)) : Tm E kX11_is (WM E ad M tl) [.ref (ad (81)), .int v1, .int v2, .int v3, .int v4, .int v5] Φ := by
  unfold wpX11_is at h
  show T E kX11_is 0 0 (WM E ad M tl) 0 [(0, .ref (ad (81))), (1, .int v1), (2, .int v2), (3, .int v3), (4, .int v4), (5, .int v5)] [] Φ
  refine tj_aload_n rfl dX11_is_0 rfl ?_
  refine gf11_pos (a := 81) rfl rfl dX11_is_1 fl_X11_159 ?_
  refine tj_aload_n rfl dX11_is_4 rfl ?_
  refine gf11_from (a := 81) rfl rfl dX11_is_5 fl_X11_153 ?_
  refine tj_isub rfl dX11_is_8 ?_
  refine tj_iload_n rfl dX11_is_9 rfl ?_
  refine tj_icmp_ne (tgt := 73) rfl rfl dX11_is_10 (fun hc => ?_) (fun hc => ?_)
  · rw [if_neg hc] at h
    refine tj_iconst (v := 0) rfl dX11_is_73 (by decide) ?_
    exact tj_ireturn (ty := .boolean) dX11_is_74 rfl rfl (Nat.zero_le _) (Nat.zero_le _) (hp _ _ _ h)
  · rw [if_pos hc] at h
    refine tj_aload_n rfl dX11_is_13 rfl ?_
    refine tj_aload_n rfl dX11_is_14 rfl ?_
    refine gf11_from (a := 81) rfl rfl dX11_is_15 fl_X11_153 ?_
    refine cf_V11 (a := 81) (z := kX11_look) (As := [_]) rfl rfl dX11_is_18 rfl ml_X11_162 okX11_look rfl (rm_ok rfl) (Nat.le_of_ble_eq_true rfl) (Nat.le_of_ble_eq_true rfl) rfl rfl ?_
    refine ctX11_look h (fun r3 M1 t2 h => ?_)
    refine tj_iload_n rfl dX11_is_21 rfl ?_
    refine tj_icmp_ne (tgt := 73) rfl rfl dX11_is_22 (fun hc => ?_) (fun hc => ?_)
    · rw [if_neg hc] at h
      refine tj_iconst (v := 0) rfl dX11_is_73 (by decide) ?_
      exact tj_ireturn (ty := .boolean) dX11_is_74 rfl rfl (Nat.zero_le _) (Nat.zero_le _) (hp _ _ _ h)
    · rw [if_pos hc] at h
      refine tj_aload_n rfl dX11_is_25 rfl ?_
      refine tj_aload_n rfl dX11_is_26 rfl ?_
      refine gf11_from (a := 81) rfl rfl dX11_is_27 fl_X11_153 ?_
      refine tj_iconst (v := 1) rfl dX11_is_30 (by decide) ?_
      refine tj_iadd rfl dX11_is_31 ?_
      refine cf_V11 (a := 81) (z := kX11_look) (As := [_]) rfl rfl dX11_is_32 rfl ml_X11_162 okX11_look rfl (rm_ok rfl) (Nat.le_of_ble_eq_true rfl) (Nat.le_of_ble_eq_true rfl) rfl rfl ?_
      refine ctX11_look h (fun r6 M4 t5 h => ?_)
      refine tj_iload_n rfl dX11_is_35 rfl ?_
      refine tj_icmp_ne (tgt := 73) rfl rfl dX11_is_36 (fun hc => ?_) (fun hc => ?_)
      · rw [if_neg hc] at h
        refine tj_iconst (v := 0) rfl dX11_is_73 (by decide) ?_
        exact tj_ireturn (ty := .boolean) dX11_is_74 rfl rfl (Nat.zero_le _) (Nat.zero_le _) (hp _ _ _ h)
      · rw [if_pos hc] at h
        refine tj_aload_n rfl dX11_is_39 rfl ?_
        refine tj_aload_n rfl dX11_is_40 rfl ?_
        refine gf11_from (a := 81) rfl rfl dX11_is_41 fl_X11_153 ?_
        refine tj_iconst (v := 2) rfl dX11_is_44 (by decide) ?_
        refine tj_iadd rfl dX11_is_45 ?_
        refine cf_V11 (a := 81) (z := kX11_look) (As := [_]) rfl rfl dX11_is_46 rfl ml_X11_162 okX11_look rfl (rm_ok rfl) (Nat.le_of_ble_eq_true rfl) (Nat.le_of_ble_eq_true rfl) rfl rfl ?_
        refine ctX11_look h (fun r9 M7 t8 h => ?_)
        refine tj_iload rfl dX11_is_49 rfl ?_
        refine tj_icmp_ne (tgt := 73) rfl rfl dX11_is_51 (fun hc => ?_) (fun hc => ?_)
        · rw [if_neg hc] at h
          refine tj_iconst (v := 0) rfl dX11_is_73 (by decide) ?_
          exact tj_ireturn (ty := .boolean) dX11_is_74 rfl rfl (Nat.zero_le _) (Nat.zero_le _) (hp _ _ _ h)
        · rw [if_pos hc] at h
          refine tj_aload_n rfl dX11_is_54 rfl ?_
          refine tj_aload_n rfl dX11_is_55 rfl ?_
          refine gf11_from (a := 81) rfl rfl dX11_is_56 fl_X11_153 ?_
          refine tj_iconst (v := 3) rfl dX11_is_59 (by decide) ?_
          refine tj_iadd rfl dX11_is_60 ?_
          refine cf_V11 (a := 81) (z := kX11_look) (As := [_]) rfl rfl dX11_is_61 rfl ml_X11_162 okX11_look rfl (rm_ok rfl) (Nat.le_of_ble_eq_true rfl) (Nat.le_of_ble_eq_true rfl) rfl rfl ?_
          refine ctX11_look h (fun r12 M10 t11 h => ?_)
          refine tj_iload rfl dX11_is_64 rfl ?_
          refine tj_icmp_ne (tgt := 73) rfl rfl dX11_is_66 (fun hc => ?_) (fun hc => ?_)
          · rw [if_neg hc] at h
            refine tj_iconst (v := 0) rfl dX11_is_73 (by decide) ?_
            exact tj_ireturn (ty := .boolean) dX11_is_74 rfl rfl (Nat.zero_le _) (Nat.zero_le _) (hp _ _ _ h)
          · rw [if_pos hc] at h
            refine tj_iconst (v := 1) rfl dX11_is_69 (by decide) ?_
            refine tj_goto (tgt := 74) rfl dX11_is_70 ?_
            exact tj_ireturn (ty := .boolean) dX11_is_74 rfl rfl (Nat.zero_le _) (Nat.zero_le _) (hp _ _ _ h)
def wX11_ends_32 (post : Int32 → MM → Int64 → Prop) (M : MM) (tl : Int64) (v3 : Int32) : Prop :=
  (if v3 = 0 then post 1 M tl else wpX11_look (fun r3 M1 t2 => (if r3 = v3 then post 1 M1 t2 else post 0 M1 t2)) M tl ((M 81 33) + 6))
set_option maxHeartbeats 4000000 in
set_option maxRecDepth 20000 in
theorem bX11_ends_32 {E : EV} {ad : Nat → Nat} {M : MM} {tl : Int64} {Φ : Option Value → va_W → Prop} {post : Int32 → MM → Int64 → Prop} {v3 : Int32} (hp : ∀ r M tl, post r M tl → Φ (some (.int r)) (WM E ad M tl)) (h : wX11_ends_32 post M tl v3) : T E kX11_ends 0 0 (WM E ad M tl) 32 [(0, .ref (ad (81))), (3, .int v3)] [] Φ := by
  unfold wX11_ends_32 at h
  refine tj_iload_n rfl dX11_ends_32 rfl ?_
  refine tj_if_eq (tgt := 51) rfl rfl dX11_ends_33 (fun hc => ?_) (fun hc => ?_)
  · rw [if_pos hc] at h
    refine tj_iconst (v := 1) rfl dX11_ends_51 (by decide) ?_
    refine tj_goto (tgt := 56) rfl dX11_ends_52 ?_
    exact tj_ireturn (ty := .boolean) dX11_ends_56 rfl rfl (Nat.zero_le _) (Nat.zero_le _) (hp _ _ _ h)
  · rw [if_neg hc] at h
    refine tj_aload_n rfl dX11_ends_36 rfl ?_
    refine tj_aload_n rfl dX11_ends_37 rfl ?_
    refine gf11_from (a := 81) rfl rfl dX11_ends_38 fl_X11_153 ?_
    refine tj_bipush (v := 6) rfl dX11_ends_41 (by decide) ?_
    refine tj_iadd rfl dX11_ends_43 ?_
    refine cf_V11 (a := 81) (z := kX11_look) (As := [_]) rfl rfl dX11_ends_44 rfl ml_X11_162 okX11_look rfl (rm_ok rfl) (Nat.le_of_ble_eq_true rfl) (Nat.le_of_ble_eq_true rfl) rfl rfl ?_
    refine ctX11_look h (fun r3 M1 t2 h => ?_)
    refine tj_iload_n rfl dX11_ends_47 rfl ?_
    refine tj_icmp_ne (tgt := 55) rfl rfl dX11_ends_48 (fun hc => ?_) (fun hc => ?_)
    · rw [if_neg hc] at h
      refine tj_iconst (v := 0) rfl dX11_ends_55 (by decide) ?_
      exact tj_ireturn (ty := .boolean) dX11_ends_56 rfl rfl (Nat.zero_le _) (Nat.zero_le _) (hp _ _ _ h)
    · rw [if_pos hc] at h
      refine tj_iconst (v := 1) rfl dX11_ends_51 (by decide) ?_
      refine tj_goto (tgt := 56) rfl dX11_ends_52 ?_
      exact tj_ireturn (ty := .boolean) dX11_ends_56 rfl rfl (Nat.zero_le _) (Nat.zero_le _) (hp _ _ _ h)
def wpX11_ends (post : Int32 → MM → Int64 → Prop) (M : MM) (tl : Int64) (v1 : Int32) (v2 : Int32) (v3 : Int32) : Prop :=
  wpX11_look (fun r3 M1 t2 => (if r3 = v1 then (if v2 = 0 then wX11_ends_32 post  M1 t2 v3 else wpX11_look (fun r6 M4 t5 => (if r6 = v2 then wX11_ends_32 post  M4 t5 v3 else post 0 M4 t5)) M1 t2 ((M1 81 33) + 5)) else post 0 M1 t2)) M tl ((M 81 33) + 4)
set_option maxHeartbeats 4000000 in
set_option maxRecDepth 20000 in
theorem ctX11_ends {E : EV} {ad : Nat → Nat} {M : MM} {tl : Int64} {Φ : Option Value → va_W → Prop} {post : Int32 → MM → Int64 → Prop} {v1 : Int32} {v2 : Int32} {v3 : Int32} (h : wpX11_ends post M tl v1 v2 v3) (hp : ∀ r M tl, post r M tl → Φ (some (.int r)) (WM E ad M tl)) : Tm E kX11_ends (WM E ad M tl) [.ref (ad (81)), .int v1, .int v2, .int v3] Φ := by
  unfold wpX11_ends at h
  show T E kX11_ends 0 0 (WM E ad M tl) 0 [(0, .ref (ad (81))), (1, .int v1), (2, .int v2), (3, .int v3)] [] Φ
  refine tj_aload_n rfl dX11_ends_0 rfl ?_
  refine tj_aload_n rfl dX11_ends_1 rfl ?_
  refine gf11_from (a := 81) rfl rfl dX11_ends_2 fl_X11_153 ?_
  refine tj_iconst (v := 4) rfl dX11_ends_5 (by decide) ?_
  refine tj_iadd rfl dX11_ends_6 ?_
  refine cf_V11 (a := 81) (z := kX11_look) (As := [_]) rfl rfl dX11_ends_7 rfl ml_X11_162 okX11_look rfl (rm_ok rfl) (Nat.le_of_ble_eq_true rfl) (Nat.le_of_ble_eq_true rfl) rfl rfl ?_
  refine ctX11_look h (fun r3 M1 t2 h => ?_)
  refine tj_iload_n rfl dX11_ends_10 rfl ?_
  refine tj_icmp_ne (tgt := 55) rfl rfl dX11_ends_11 (fun hc => ?_) (fun hc => ?_)
  · rw [if_neg hc] at h
    refine tj_iconst (v := 0) rfl dX11_ends_55 (by decide) ?_
    exact tj_ireturn (ty := .boolean) dX11_ends_56 rfl rfl (Nat.zero_le _) (Nat.zero_le _) (hp _ _ _ h)
  · rw [if_pos hc] at h
    refine tj_iload_n rfl dX11_ends_14 rfl ?_
    refine tj_if_eq (tgt := 32) rfl rfl dX11_ends_15 (fun hc => ?_) (fun hc => ?_)
    · rw [if_pos hc] at h
      exact tj_pick (l' := [(0, _), (3, _)]) [0, 3] rfl (bX11_ends_32 hp  h)
    · rw [if_neg hc] at h
      refine tj_aload_n rfl dX11_ends_18 rfl ?_
      refine tj_aload_n rfl dX11_ends_19 rfl ?_
      refine gf11_from (a := 81) rfl rfl dX11_ends_20 fl_X11_153 ?_
      refine tj_iconst (v := 5) rfl dX11_ends_23 (by decide) ?_
      refine tj_iadd rfl dX11_ends_24 ?_
      refine cf_V11 (a := 81) (z := kX11_look) (As := [_]) rfl rfl dX11_ends_25 rfl ml_X11_162 okX11_look rfl (rm_ok rfl) (Nat.le_of_ble_eq_true rfl) (Nat.le_of_ble_eq_true rfl) rfl rfl ?_
      refine ctX11_look h (fun r6 M4 t5 h => ?_)
      refine tj_iload_n rfl dX11_ends_28 rfl ?_
      refine tj_icmp_ne (tgt := 55) rfl rfl dX11_ends_29 (fun hc => ?_) (fun hc => ?_)
      · rw [if_neg hc] at h
        refine tj_iconst (v := 0) rfl dX11_ends_55 (by decide) ?_
        exact tj_ireturn (ty := .boolean) dX11_ends_56 rfl rfl (Nat.zero_le _) (Nat.zero_le _) (hp _ _ _ h)
      · rw [if_pos hc] at h
        exact tj_pick (l' := [(0, _), (3, _)]) [0, 3] rfl (bX11_ends_32 hp  h)
def wX11_ruleNow_87 (post : Int32 → MM → Int64 → Prop) (M : MM) (tl : Int64) : Prop :=
  wpX11_is (fun r3 M1 t2 => (if r3 = 0 then wpX11_is (fun r6 M4 t5 => (if r6 = 0 then post (-4) M4 t5 else wpX11_ends (fun r9 M7 t8 => (if r9 = 0 then post (-4) M7 t8 else post 15 M7 t8)) M4 t5 101 0 0)) M1 t2 5 116 97 115 116 else post 14 M1 t2)) M tl 4 99 111 115 116
set_option maxHeartbeats 4000000 in
set_option maxRecDepth 20000 in
theorem bX11_ruleNow_87 {E : EV} {ad : Nat → Nat} {M : MM} {tl : Int64} {Φ : Option Value → va_W → Prop} {post : Int32 → MM → Int64 → Prop} (hp : ∀ r M tl, post r M tl → Φ (some (.int r)) (WM E ad M tl)) (h : wX11_ruleNow_87 post M tl ) : T E kX11_ruleNow 0 0 (WM E ad M tl) 87 [(0, .ref (ad (81)))] [] Φ := by
  unfold wX11_ruleNow_87 at h
  refine tj_aload_n rfl dX11_ruleNow_87 rfl ?_
  refine tj_iconst (v := 4) rfl dX11_ruleNow_88 (by decide) ?_
  refine tj_bipush (v := 99) rfl dX11_ruleNow_89 (by decide) ?_
  refine tj_bipush (v := 111) rfl dX11_ruleNow_91 (by decide) ?_
  refine tj_bipush (v := 115) rfl dX11_ruleNow_93 (by decide) ?_
  refine tj_bipush (v := 116) rfl dX11_ruleNow_95 (by decide) ?_
  refine cf_V11 (a := 81) (z := kX11_is) (As := [_, _, _, _, _]) rfl rfl dX11_ruleNow_97 rfl ml_X11_166 okX11_is rfl (rm_ok rfl) (Nat.le_of_ble_eq_true rfl) (Nat.le_of_ble_eq_true rfl) rfl rfl ?_
  refine ctX11_is h (fun r3 M1 t2 h => ?_)
  refine tj_if_eq (tgt := 106) rfl rfl dX11_ruleNow_100 (fun hc => ?_) (fun hc => ?_)
  · rw [if_pos hc] at h
    refine tj_aload_n rfl dX11_ruleNow_106 rfl ?_
    refine tj_iconst (v := 5) rfl dX11_ruleNow_107 (by decide) ?_
    refine tj_bipush (v := 116) rfl dX11_ruleNow_108 (by decide) ?_
    refine tj_bipush (v := 97) rfl dX11_ruleNow_110 (by decide) ?_
    refine tj_bipush (v := 115) rfl dX11_ruleNow_112 (by decide) ?_
    refine tj_bipush (v := 116) rfl dX11_ruleNow_114 (by decide) ?_
    refine cf_V11 (a := 81) (z := kX11_is) (As := [_, _, _, _, _]) rfl rfl dX11_ruleNow_116 rfl ml_X11_166 okX11_is rfl (rm_ok rfl) (Nat.le_of_ble_eq_true rfl) (Nat.le_of_ble_eq_true rfl) rfl rfl ?_
    refine ctX11_is h (fun r6 M4 t5 h => ?_)
    refine tj_if_eq (tgt := 138) rfl rfl dX11_ruleNow_119 (fun hc => ?_) (fun hc => ?_)
    · rw [if_pos hc] at h
      refine tj_bipush (v := -4) rfl dX11_ruleNow_138 (by decide) ?_
      exact tj_ireturn (ty := .int) dX11_ruleNow_140 rfl rfl (Nat.zero_le _) (Nat.zero_le _) (hp _ _ _ h)
    · rw [if_neg hc] at h
      refine tj_aload_n rfl dX11_ruleNow_122 rfl ?_
      refine tj_bipush (v := 101) rfl dX11_ruleNow_123 (by decide) ?_
      refine tj_iconst (v := 0) rfl dX11_ruleNow_125 (by decide) ?_
      refine tj_iconst (v := 0) rfl dX11_ruleNow_126 (by decide) ?_
      refine cf_V11 (a := 81) (z := kX11_ends) (As := [_, _, _]) rfl rfl dX11_ruleNow_127 rfl ml_X11_170 okX11_ends rfl (rm_ok rfl) (Nat.le_of_ble_eq_true rfl) (Nat.le_of_ble_eq_true rfl) rfl rfl ?_
      refine ctX11_ends h (fun r9 M7 t8 h => ?_)
      refine tj_if_eq (tgt := 138) rfl rfl dX11_ruleNow_130 (fun hc => ?_) (fun hc => ?_)
      · rw [if_pos hc] at h
        refine tj_bipush (v := -4) rfl dX11_ruleNow_138 (by decide) ?_
        exact tj_ireturn (ty := .int) dX11_ruleNow_140 rfl rfl (Nat.zero_le _) (Nat.zero_le _) (hp _ _ _ h)
      · rw [if_neg hc] at h
        refine tj_bipush (v := 15) rfl dX11_ruleNow_133 (by decide) ?_
        refine tj_goto (tgt := 140) rfl dX11_ruleNow_135 ?_
        exact tj_ireturn (ty := .int) dX11_ruleNow_140 rfl rfl (Nat.zero_le _) (Nat.zero_le _) (hp _ _ _ h)
  · rw [if_neg hc] at h
    refine tj_bipush (v := 14) rfl dX11_ruleNow_103 (by decide) ?_
    exact tj_ireturn (ty := .int) dX11_ruleNow_105 rfl rfl (Nat.zero_le _) (Nat.zero_le _) (hp _ _ _ h)
def wpX11_ruleNow (post : Int32 → MM → Int64 → Prop) (M : MM) (tl : Int64) : Prop :=
  wpX11_is (fun r3 M1 t2 => (if r3 = 0 then wpX11_is (fun r6 M4 t5 => (if r6 = 0 then wpX11_is (fun r9 M7 t8 => (if r9 = 0 then wpX11_is (fun r12 M10 t11 => (if r12 = 0 then wX11_ruleNow_87 post  M10 t11 else wpX11_ends (fun r15 M13 t14 => (if r15 = 0 then wX11_ruleNow_87 post  M13 t14 else post 13 M13 t14)) M10 t11 101 0 0)) M7 t8 5 112 114 105 99 else post 12 M7 t8)) M4 t5 4 112 117 108 108 else post 11 M4 t5)) M1 t2 4 98 101 110 100 else post 10 M1 t2)) M tl 4 108 111 116 115
set_option maxHeartbeats 4000000 in
set_option maxRecDepth 20000 in
theorem ctX11_ruleNow {E : EV} {ad : Nat → Nat} {M : MM} {tl : Int64} {Φ : Option Value → va_W → Prop} {post : Int32 → MM → Int64 → Prop} (h : wpX11_ruleNow post M tl ) (hp : ∀ r M tl, post r M tl → Φ (some (.int r)) (WM E ad M tl)) : Tm E kX11_ruleNow (WM E ad M tl) [.ref (ad (81))] Φ := by
  unfold wpX11_ruleNow at h
  show T E kX11_ruleNow 0 0 (WM E ad M tl) 0 [(0, .ref (ad (81)))] [] Φ
  refine tj_aload_n rfl dX11_ruleNow_0 rfl ?_
  refine tj_iconst (v := 4) rfl dX11_ruleNow_1 (by decide) ?_
  refine tj_bipush (v := 108) rfl dX11_ruleNow_2 (by decide) ?_
  refine tj_bipush (v := 111) rfl dX11_ruleNow_4 (by decide) ?_
  refine tj_bipush (v := 116) rfl dX11_ruleNow_6 (by decide) ?_
  refine tj_bipush (v := 115) rfl dX11_ruleNow_8 (by decide) ?_
  refine cf_V11 (a := 81) (z := kX11_is) (As := [_, _, _, _, _]) rfl rfl dX11_ruleNow_10 rfl ml_X11_166 okX11_is rfl (rm_ok rfl) (Nat.le_of_ble_eq_true rfl) (Nat.le_of_ble_eq_true rfl) rfl rfl ?_
  refine ctX11_is h (fun r3 M1 t2 h => ?_)
  refine tj_if_eq (tgt := 19) rfl rfl dX11_ruleNow_13 (fun hc => ?_) (fun hc => ?_)
  · rw [if_pos hc] at h
    refine tj_aload_n rfl dX11_ruleNow_19 rfl ?_
    refine tj_iconst (v := 4) rfl dX11_ruleNow_20 (by decide) ?_
    refine tj_bipush (v := 98) rfl dX11_ruleNow_21 (by decide) ?_
    refine tj_bipush (v := 101) rfl dX11_ruleNow_23 (by decide) ?_
    refine tj_bipush (v := 110) rfl dX11_ruleNow_25 (by decide) ?_
    refine tj_bipush (v := 100) rfl dX11_ruleNow_27 (by decide) ?_
    refine cf_V11 (a := 81) (z := kX11_is) (As := [_, _, _, _, _]) rfl rfl dX11_ruleNow_29 rfl ml_X11_166 okX11_is rfl (rm_ok rfl) (Nat.le_of_ble_eq_true rfl) (Nat.le_of_ble_eq_true rfl) rfl rfl ?_
    refine ctX11_is h (fun r6 M4 t5 h => ?_)
    refine tj_if_eq (tgt := 38) rfl rfl dX11_ruleNow_32 (fun hc => ?_) (fun hc => ?_)
    · rw [if_pos hc] at h
      refine tj_aload_n rfl dX11_ruleNow_38 rfl ?_
      refine tj_iconst (v := 4) rfl dX11_ruleNow_39 (by decide) ?_
      refine tj_bipush (v := 112) rfl dX11_ruleNow_40 (by decide) ?_
      refine tj_bipush (v := 117) rfl dX11_ruleNow_42 (by decide) ?_
      refine tj_bipush (v := 108) rfl dX11_ruleNow_44 (by decide) ?_
      refine tj_bipush (v := 108) rfl dX11_ruleNow_46 (by decide) ?_
      refine cf_V11 (a := 81) (z := kX11_is) (As := [_, _, _, _, _]) rfl rfl dX11_ruleNow_48 rfl ml_X11_166 okX11_is rfl (rm_ok rfl) (Nat.le_of_ble_eq_true rfl) (Nat.le_of_ble_eq_true rfl) rfl rfl ?_
      refine ctX11_is h (fun r9 M7 t8 h => ?_)
      refine tj_if_eq (tgt := 57) rfl rfl dX11_ruleNow_51 (fun hc => ?_) (fun hc => ?_)
      · rw [if_pos hc] at h
        refine tj_aload_n rfl dX11_ruleNow_57 rfl ?_
        refine tj_iconst (v := 5) rfl dX11_ruleNow_58 (by decide) ?_
        refine tj_bipush (v := 112) rfl dX11_ruleNow_59 (by decide) ?_
        refine tj_bipush (v := 114) rfl dX11_ruleNow_61 (by decide) ?_
        refine tj_bipush (v := 105) rfl dX11_ruleNow_63 (by decide) ?_
        refine tj_bipush (v := 99) rfl dX11_ruleNow_65 (by decide) ?_
        refine cf_V11 (a := 81) (z := kX11_is) (As := [_, _, _, _, _]) rfl rfl dX11_ruleNow_67 rfl ml_X11_166 okX11_is rfl (rm_ok rfl) (Nat.le_of_ble_eq_true rfl) (Nat.le_of_ble_eq_true rfl) rfl rfl ?_
        refine ctX11_is h (fun r12 M10 t11 h => ?_)
        refine tj_if_eq (tgt := 87) rfl rfl dX11_ruleNow_70 (fun hc => ?_) (fun hc => ?_)
        · rw [if_pos hc] at h
          exact bX11_ruleNow_87 hp  h
        · rw [if_neg hc] at h
          refine tj_aload_n rfl dX11_ruleNow_73 rfl ?_
          refine tj_bipush (v := 101) rfl dX11_ruleNow_74 (by decide) ?_
          refine tj_iconst (v := 0) rfl dX11_ruleNow_76 (by decide) ?_
          refine tj_iconst (v := 0) rfl dX11_ruleNow_77 (by decide) ?_
          refine cf_V11 (a := 81) (z := kX11_ends) (As := [_, _, _]) rfl rfl dX11_ruleNow_78 rfl ml_X11_170 okX11_ends rfl (rm_ok rfl) (Nat.le_of_ble_eq_true rfl) (Nat.le_of_ble_eq_true rfl) rfl rfl ?_
          refine ctX11_ends h (fun r15 M13 t14 h => ?_)
          refine tj_if_eq (tgt := 87) rfl rfl dX11_ruleNow_81 (fun hc => ?_) (fun hc => ?_)
          · rw [if_pos hc] at h
            exact bX11_ruleNow_87 hp  h
          · rw [if_neg hc] at h
            refine tj_bipush (v := 13) rfl dX11_ruleNow_84 (by decide) ?_
            exact tj_ireturn (ty := .int) dX11_ruleNow_86 rfl rfl (Nat.zero_le _) (Nat.zero_le _) (hp _ _ _ h)
      · rw [if_neg hc] at h
        refine tj_bipush (v := 12) rfl dX11_ruleNow_54 (by decide) ?_
        exact tj_ireturn (ty := .int) dX11_ruleNow_56 rfl rfl (Nat.zero_le _) (Nat.zero_le _) (hp _ _ _ h)
    · rw [if_neg hc] at h
      refine tj_bipush (v := 11) rfl dX11_ruleNow_35 (by decide) ?_
      exact tj_ireturn (ty := .int) dX11_ruleNow_37 rfl rfl (Nat.zero_le _) (Nat.zero_le _) (hp _ _ _ h)
  · rw [if_neg hc] at h
    refine tj_bipush (v := 10) rfl dX11_ruleNow_16 (by decide) ?_
    exact tj_ireturn (ty := .int) dX11_ruleNow_18 rfl rfl (Nat.zero_le _) (Nat.zero_le _) (hp _ _ _ h)
def wX11_lineNow_128 (post : Int32 → MM → Int64 → Prop) (M : MM) (tl : Int64) : Prop :=
  wpX11_is (fun r3 M1 t2 => (if r3 = 0 then wpX11_ruleNow (fun r6 M4 t5 => post r6 M4 t5) M1 t2  else post 21 M1 t2)) M tl 4 119 111 114 107
set_option maxHeartbeats 4000000 in
set_option maxRecDepth 20000 in
theorem bX11_lineNow_128 {E : EV} {ad : Nat → Nat} {M : MM} {tl : Int64} {Φ : Option Value → va_W → Prop} {post : Int32 → MM → Int64 → Prop} (hp : ∀ r M tl, post r M tl → Φ (some (.int r)) (WM E ad M tl)) (h : wX11_lineNow_128 post M tl ) : T E kX11_lineNow 0 0 (WM E ad M tl) 128 [(0, .ref (ad (81)))] [] Φ := by
  unfold wX11_lineNow_128 at h
  refine tj_aload_n rfl dX11_lineNow_128 rfl ?_
  refine tj_iconst (v := 4) rfl dX11_lineNow_129 (by decide) ?_
  refine tj_bipush (v := 119) rfl dX11_lineNow_130 (by decide) ?_
  refine tj_bipush (v := 111) rfl dX11_lineNow_132 (by decide) ?_
  refine tj_bipush (v := 114) rfl dX11_lineNow_134 (by decide) ?_
  refine tj_bipush (v := 107) rfl dX11_lineNow_136 (by decide) ?_
  refine cf_V11 (a := 81) (z := kX11_is) (As := [_, _, _, _, _]) rfl rfl dX11_lineNow_138 rfl ml_X11_166 okX11_is rfl (rm_ok rfl) (Nat.le_of_ble_eq_true rfl) (Nat.le_of_ble_eq_true rfl) rfl rfl ?_
  refine ctX11_is h (fun r3 M1 t2 h => ?_)
  refine tj_if_eq (tgt := 149) rfl rfl dX11_lineNow_141 (fun hc => ?_) (fun hc => ?_)
  · rw [if_pos hc] at h
    refine tj_aload_n rfl dX11_lineNow_149 rfl ?_
    refine cf_V11 (a := 81) (z := kX11_ruleNow) (As := []) rfl rfl dX11_lineNow_150 rfl ml_X11_174 okX11_ruleNow rfl (rm_ok rfl) (Nat.le_of_ble_eq_true rfl) (Nat.le_of_ble_eq_true rfl) rfl rfl ?_
    refine ctX11_ruleNow h (fun r6 M4 t5 h => ?_)
    exact tj_ireturn (ty := .int) dX11_lineNow_153 rfl rfl (Nat.zero_le _) (Nat.zero_le _) (hp _ _ _ h)
  · rw [if_neg hc] at h
    refine tj_bipush (v := 21) rfl dX11_lineNow_144 (by decide) ?_
    refine tj_goto (tgt := 153) rfl dX11_lineNow_146 ?_
    exact tj_ireturn (ty := .int) dX11_lineNow_153 rfl rfl (Nat.zero_le _) (Nat.zero_le _) (hp _ _ _ h)
def wX11_lineNow_98 (post : Int32 → MM → Int64 → Prop) (M : MM) (tl : Int64) : Prop :=
  wpX11_is (fun r3 M1 t2 => (if r3 = 0 then wX11_lineNow_128 post  M1 t2 else wpX11_ends (fun r6 M4 t5 => (if r6 = 0 then wX11_lineNow_128 post  M4 t5 else post 20 M4 t5)) M1 t2 103 0 0)) M tl 5 116 104 105 110
set_option maxHeartbeats 4000000 in
set_option maxRecDepth 20000 in
theorem bX11_lineNow_98 {E : EV} {ad : Nat → Nat} {M : MM} {tl : Int64} {Φ : Option Value → va_W → Prop} {post : Int32 → MM → Int64 → Prop} (hp : ∀ r M tl, post r M tl → Φ (some (.int r)) (WM E ad M tl)) (h : wX11_lineNow_98 post M tl ) : T E kX11_lineNow 0 0 (WM E ad M tl) 98 [(0, .ref (ad (81)))] [] Φ := by
  unfold wX11_lineNow_98 at h
  refine tj_aload_n rfl dX11_lineNow_98 rfl ?_
  refine tj_iconst (v := 5) rfl dX11_lineNow_99 (by decide) ?_
  refine tj_bipush (v := 116) rfl dX11_lineNow_100 (by decide) ?_
  refine tj_bipush (v := 104) rfl dX11_lineNow_102 (by decide) ?_
  refine tj_bipush (v := 105) rfl dX11_lineNow_104 (by decide) ?_
  refine tj_bipush (v := 110) rfl dX11_lineNow_106 (by decide) ?_
  refine cf_V11 (a := 81) (z := kX11_is) (As := [_, _, _, _, _]) rfl rfl dX11_lineNow_108 rfl ml_X11_166 okX11_is rfl (rm_ok rfl) (Nat.le_of_ble_eq_true rfl) (Nat.le_of_ble_eq_true rfl) rfl rfl ?_
  refine ctX11_is h (fun r3 M1 t2 h => ?_)
  refine tj_if_eq (tgt := 128) rfl rfl dX11_lineNow_111 (fun hc => ?_) (fun hc => ?_)
  · rw [if_pos hc] at h
    exact bX11_lineNow_128 hp  h
  · rw [if_neg hc] at h
    refine tj_aload_n rfl dX11_lineNow_114 rfl ?_
    refine tj_bipush (v := 103) rfl dX11_lineNow_115 (by decide) ?_
    refine tj_iconst (v := 0) rfl dX11_lineNow_117 (by decide) ?_
    refine tj_iconst (v := 0) rfl dX11_lineNow_118 (by decide) ?_
    refine cf_V11 (a := 81) (z := kX11_ends) (As := [_, _, _]) rfl rfl dX11_lineNow_119 rfl ml_X11_170 okX11_ends rfl (rm_ok rfl) (Nat.le_of_ble_eq_true rfl) (Nat.le_of_ble_eq_true rfl) rfl rfl ?_
    refine ctX11_ends h (fun r6 M4 t5 h => ?_)
    refine tj_if_eq (tgt := 128) rfl rfl dX11_lineNow_122 (fun hc => ?_) (fun hc => ?_)
    · rw [if_pos hc] at h
      exact bX11_lineNow_128 hp  h
    · rw [if_neg hc] at h
      refine tj_bipush (v := 20) rfl dX11_lineNow_125 (by decide) ?_
      exact tj_ireturn (ty := .int) dX11_lineNow_127 rfl rfl (Nat.zero_le _) (Nat.zero_le _) (hp _ _ _ h)
def wX11_lineNow_68 (post : Int32 → MM → Int64 → Prop) (M : MM) (tl : Int64) : Prop :=
  wpX11_is (fun r3 M1 t2 => (if r3 = 0 then wX11_lineNow_98 post  M1 t2 else wpX11_ends (fun r6 M4 t5 => (if r6 = 0 then wX11_lineNow_98 post  M4 t5 else post 19 M4 t5)) M1 t2 116 0 0)) M tl 5 114 105 103 104
set_option maxHeartbeats 4000000 in
set_option maxRecDepth 20000 in
theorem bX11_lineNow_68 {E : EV} {ad : Nat → Nat} {M : MM} {tl : Int64} {Φ : Option Value → va_W → Prop} {post : Int32 → MM → Int64 → Prop} (hp : ∀ r M tl, post r M tl → Φ (some (.int r)) (WM E ad M tl)) (h : wX11_lineNow_68 post M tl ) : T E kX11_lineNow 0 0 (WM E ad M tl) 68 [(0, .ref (ad (81)))] [] Φ := by
  unfold wX11_lineNow_68 at h
  refine tj_aload_n rfl dX11_lineNow_68 rfl ?_
  refine tj_iconst (v := 5) rfl dX11_lineNow_69 (by decide) ?_
  refine tj_bipush (v := 114) rfl dX11_lineNow_70 (by decide) ?_
  refine tj_bipush (v := 105) rfl dX11_lineNow_72 (by decide) ?_
  refine tj_bipush (v := 103) rfl dX11_lineNow_74 (by decide) ?_
  refine tj_bipush (v := 104) rfl dX11_lineNow_76 (by decide) ?_
  refine cf_V11 (a := 81) (z := kX11_is) (As := [_, _, _, _, _]) rfl rfl dX11_lineNow_78 rfl ml_X11_166 okX11_is rfl (rm_ok rfl) (Nat.le_of_ble_eq_true rfl) (Nat.le_of_ble_eq_true rfl) rfl rfl ?_
  refine ctX11_is h (fun r3 M1 t2 h => ?_)
  refine tj_if_eq (tgt := 98) rfl rfl dX11_lineNow_81 (fun hc => ?_) (fun hc => ?_)
  · rw [if_pos hc] at h
    exact bX11_lineNow_98 hp  h
  · rw [if_neg hc] at h
    refine tj_aload_n rfl dX11_lineNow_84 rfl ?_
    refine tj_bipush (v := 116) rfl dX11_lineNow_85 (by decide) ?_
    refine tj_iconst (v := 0) rfl dX11_lineNow_87 (by decide) ?_
    refine tj_iconst (v := 0) rfl dX11_lineNow_88 (by decide) ?_
    refine cf_V11 (a := 81) (z := kX11_ends) (As := [_, _, _]) rfl rfl dX11_lineNow_89 rfl ml_X11_170 okX11_ends rfl (rm_ok rfl) (Nat.le_of_ble_eq_true rfl) (Nat.le_of_ble_eq_true rfl) rfl rfl ?_
    refine ctX11_ends h (fun r6 M4 t5 h => ?_)
    refine tj_if_eq (tgt := 98) rfl rfl dX11_lineNow_92 (fun hc => ?_) (fun hc => ?_)
    · rw [if_pos hc] at h
      exact bX11_lineNow_98 hp  h
    · rw [if_neg hc] at h
      refine tj_bipush (v := 19) rfl dX11_lineNow_95 (by decide) ?_
      exact tj_ireturn (ty := .int) dX11_lineNow_97 rfl rfl (Nat.zero_le _) (Nat.zero_le _) (hp _ _ _ h)
def wpX11_lineNow (post : Int32 → MM → Int64 → Prop) (M : MM) (tl : Int64) : Prop :=
  wpX11_is (fun r3 M1 t2 => (if r3 = 0 then wpX11_is (fun r6 M4 t5 => (if r6 = 0 then wpX11_is (fun r9 M7 t8 => (if r9 = 0 then wX11_lineNow_68 post  M7 t8 else wpX11_ends (fun r12 M10 t11 => (if r12 = 0 then wX11_lineNow_68 post  M10 t11 else post 18 M10 t11)) M7 t8 116 0 0)) M4 t5 5 112 97 105 110 else post 17 M4 t5)) M1 t2 4 116 119 105 110 else post 16 M1 t2)) M tl 4 108 97 99 107
set_option maxHeartbeats 4000000 in
set_option maxRecDepth 20000 in
theorem ctX11_lineNow {E : EV} {ad : Nat → Nat} {M : MM} {tl : Int64} {Φ : Option Value → va_W → Prop} {post : Int32 → MM → Int64 → Prop} (h : wpX11_lineNow post M tl ) (hp : ∀ r M tl, post r M tl → Φ (some (.int r)) (WM E ad M tl)) : Tm E kX11_lineNow (WM E ad M tl) [.ref (ad (81))] Φ := by
  unfold wpX11_lineNow at h
  show T E kX11_lineNow 0 0 (WM E ad M tl) 0 [(0, .ref (ad (81)))] [] Φ
  refine tj_aload_n rfl dX11_lineNow_0 rfl ?_
  refine tj_iconst (v := 4) rfl dX11_lineNow_1 (by decide) ?_
  refine tj_bipush (v := 108) rfl dX11_lineNow_2 (by decide) ?_
  refine tj_bipush (v := 97) rfl dX11_lineNow_4 (by decide) ?_
  refine tj_bipush (v := 99) rfl dX11_lineNow_6 (by decide) ?_
  refine tj_bipush (v := 107) rfl dX11_lineNow_8 (by decide) ?_
  refine cf_V11 (a := 81) (z := kX11_is) (As := [_, _, _, _, _]) rfl rfl dX11_lineNow_10 rfl ml_X11_166 okX11_is rfl (rm_ok rfl) (Nat.le_of_ble_eq_true rfl) (Nat.le_of_ble_eq_true rfl) rfl rfl ?_
  refine ctX11_is h (fun r3 M1 t2 h => ?_)
  refine tj_if_eq (tgt := 19) rfl rfl dX11_lineNow_13 (fun hc => ?_) (fun hc => ?_)
  · rw [if_pos hc] at h
    refine tj_aload_n rfl dX11_lineNow_19 rfl ?_
    refine tj_iconst (v := 4) rfl dX11_lineNow_20 (by decide) ?_
    refine tj_bipush (v := 116) rfl dX11_lineNow_21 (by decide) ?_
    refine tj_bipush (v := 119) rfl dX11_lineNow_23 (by decide) ?_
    refine tj_bipush (v := 105) rfl dX11_lineNow_25 (by decide) ?_
    refine tj_bipush (v := 110) rfl dX11_lineNow_27 (by decide) ?_
    refine cf_V11 (a := 81) (z := kX11_is) (As := [_, _, _, _, _]) rfl rfl dX11_lineNow_29 rfl ml_X11_166 okX11_is rfl (rm_ok rfl) (Nat.le_of_ble_eq_true rfl) (Nat.le_of_ble_eq_true rfl) rfl rfl ?_
    refine ctX11_is h (fun r6 M4 t5 h => ?_)
    refine tj_if_eq (tgt := 38) rfl rfl dX11_lineNow_32 (fun hc => ?_) (fun hc => ?_)
    · rw [if_pos hc] at h
      refine tj_aload_n rfl dX11_lineNow_38 rfl ?_
      refine tj_iconst (v := 5) rfl dX11_lineNow_39 (by decide) ?_
      refine tj_bipush (v := 112) rfl dX11_lineNow_40 (by decide) ?_
      refine tj_bipush (v := 97) rfl dX11_lineNow_42 (by decide) ?_
      refine tj_bipush (v := 105) rfl dX11_lineNow_44 (by decide) ?_
      refine tj_bipush (v := 110) rfl dX11_lineNow_46 (by decide) ?_
      refine cf_V11 (a := 81) (z := kX11_is) (As := [_, _, _, _, _]) rfl rfl dX11_lineNow_48 rfl ml_X11_166 okX11_is rfl (rm_ok rfl) (Nat.le_of_ble_eq_true rfl) (Nat.le_of_ble_eq_true rfl) rfl rfl ?_
      refine ctX11_is h (fun r9 M7 t8 h => ?_)
      refine tj_if_eq (tgt := 68) rfl rfl dX11_lineNow_51 (fun hc => ?_) (fun hc => ?_)
      · rw [if_pos hc] at h
        exact bX11_lineNow_68 hp  h
      · rw [if_neg hc] at h
        refine tj_aload_n rfl dX11_lineNow_54 rfl ?_
        refine tj_bipush (v := 116) rfl dX11_lineNow_55 (by decide) ?_
        refine tj_iconst (v := 0) rfl dX11_lineNow_57 (by decide) ?_
        refine tj_iconst (v := 0) rfl dX11_lineNow_58 (by decide) ?_
        refine cf_V11 (a := 81) (z := kX11_ends) (As := [_, _, _]) rfl rfl dX11_lineNow_59 rfl ml_X11_170 okX11_ends rfl (rm_ok rfl) (Nat.le_of_ble_eq_true rfl) (Nat.le_of_ble_eq_true rfl) rfl rfl ?_
        refine ctX11_ends h (fun r12 M10 t11 h => ?_)
        refine tj_if_eq (tgt := 68) rfl rfl dX11_lineNow_62 (fun hc => ?_) (fun hc => ?_)
        · rw [if_pos hc] at h
          exact bX11_lineNow_68 hp  h
        · rw [if_neg hc] at h
          refine tj_bipush (v := 18) rfl dX11_lineNow_65 (by decide) ?_
          exact tj_ireturn (ty := .int) dX11_lineNow_67 rfl rfl (Nat.zero_le _) (Nat.zero_le _) (hp _ _ _ h)
    · rw [if_neg hc] at h
      refine tj_bipush (v := 17) rfl dX11_lineNow_35 (by decide) ?_
      exact tj_ireturn (ty := .int) dX11_lineNow_37 rfl rfl (Nat.zero_le _) (Nat.zero_le _) (hp _ _ _ h)
  · rw [if_neg hc] at h
    refine tj_bipush (v := 16) rfl dX11_lineNow_16 (by decide) ?_
    exact tj_ireturn (ty := .int) dX11_lineNow_18 rfl rfl (Nat.zero_le _) (Nat.zero_le _) (hp _ _ _ h)
def wX11_kindNow_107 (post : Int32 → MM → Int64 → Prop) (M : MM) (tl : Int64) : Prop :=
  wpX11_is (fun r3 M1 t2 => (if r3 = 0 then post (-4) M1 t2 else wpX11_ends (fun r6 M4 t5 => (if r6 = 0 then post (-4) M4 t5 else post 5 M4 t5)) M1 t2 110 101 0)) M tl 6 115 104 114 105
set_option maxHeartbeats 4000000 in
set_option maxRecDepth 20000 in
theorem bX11_kindNow_107 {E : EV} {ad : Nat → Nat} {M : MM} {tl : Int64} {Φ : Option Value → va_W → Prop} {post : Int32 → MM → Int64 → Prop} (hp : ∀ r M tl, post r M tl → Φ (some (.int r)) (WM E ad M tl)) (h : wX11_kindNow_107 post M tl ) : T E kX11_kindNow 0 0 (WM E ad M tl) 107 [(0, .ref (ad (81)))] [] Φ := by
  unfold wX11_kindNow_107 at h
  refine tj_aload_n rfl dX11_kindNow_107 rfl ?_
  refine tj_bipush (v := 6) rfl dX11_kindNow_108 (by decide) ?_
  refine tj_bipush (v := 115) rfl dX11_kindNow_110 (by decide) ?_
  refine tj_bipush (v := 104) rfl dX11_kindNow_112 (by decide) ?_
  refine tj_bipush (v := 114) rfl dX11_kindNow_114 (by decide) ?_
  refine tj_bipush (v := 105) rfl dX11_kindNow_116 (by decide) ?_
  refine cf_V11 (a := 81) (z := kX11_is) (As := [_, _, _, _, _]) rfl rfl dX11_kindNow_118 rfl ml_X11_166 okX11_is rfl (rm_ok rfl) (Nat.le_of_ble_eq_true rfl) (Nat.le_of_ble_eq_true rfl) rfl rfl ?_
  refine ctX11_is h (fun r3 M1 t2 h => ?_)
  refine tj_if_eq (tgt := 140) rfl rfl dX11_kindNow_121 (fun hc => ?_) (fun hc => ?_)
  · rw [if_pos hc] at h
    refine tj_bipush (v := -4) rfl dX11_kindNow_140 (by decide) ?_
    exact tj_ireturn (ty := .int) dX11_kindNow_142 rfl rfl (Nat.zero_le _) (Nat.zero_le _) (hp _ _ _ h)
  · rw [if_neg hc] at h
    refine tj_aload_n rfl dX11_kindNow_124 rfl ?_
    refine tj_bipush (v := 110) rfl dX11_kindNow_125 (by decide) ?_
    refine tj_bipush (v := 101) rfl dX11_kindNow_127 (by decide) ?_
    refine tj_iconst (v := 0) rfl dX11_kindNow_129 (by decide) ?_
    refine cf_V11 (a := 81) (z := kX11_ends) (As := [_, _, _]) rfl rfl dX11_kindNow_130 rfl ml_X11_170 okX11_ends rfl (rm_ok rfl) (Nat.le_of_ble_eq_true rfl) (Nat.le_of_ble_eq_true rfl) rfl rfl ?_
    refine ctX11_ends h (fun r6 M4 t5 h => ?_)
    refine tj_if_eq (tgt := 140) rfl rfl dX11_kindNow_133 (fun hc => ?_) (fun hc => ?_)
    · rw [if_pos hc] at h
      refine tj_bipush (v := -4) rfl dX11_kindNow_140 (by decide) ?_
      exact tj_ireturn (ty := .int) dX11_kindNow_142 rfl rfl (Nat.zero_le _) (Nat.zero_le _) (hp _ _ _ h)
    · rw [if_neg hc] at h
      refine tj_iconst (v := 5) rfl dX11_kindNow_136 (by decide) ?_
      refine tj_goto (tgt := 142) rfl dX11_kindNow_137 ?_
      exact tj_ireturn (ty := .int) dX11_kindNow_142 rfl rfl (Nat.zero_le _) (Nat.zero_le _) (hp _ _ _ h)
def wX11_kindNow_60 (post : Int32 → MM → Int64 → Prop) (M : MM) (tl : Int64) : Prop :=
  wpX11_is (fun r3 M1 t2 => (if r3 = 0 then wpX11_is (fun r6 M4 t5 => (if r6 = 0 then wX11_kindNow_107 post  M4 t5 else wpX11_ends (fun r9 M7 t8 => (if r9 = 0 then wX11_kindNow_107 post  M7 t8 else post 4 M7 t8)) M4 t5 114 0 0)) M1 t2 5 116 111 119 101 else post 3 M1 t2)) M tl 4 115 104 111 112
set_option maxHeartbeats 4000000 in
set_option maxRecDepth 20000 in
theorem bX11_kindNow_60 {E : EV} {ad : Nat → Nat} {M : MM} {tl : Int64} {Φ : Option Value → va_W → Prop} {post : Int32 → MM → Int64 → Prop} (hp : ∀ r M tl, post r M tl → Φ (some (.int r)) (WM E ad M tl)) (h : wX11_kindNow_60 post M tl ) : T E kX11_kindNow 0 0 (WM E ad M tl) 60 [(0, .ref (ad (81)))] [] Φ := by
  unfold wX11_kindNow_60 at h
  refine tj_aload_n rfl dX11_kindNow_60 rfl ?_
  refine tj_iconst (v := 4) rfl dX11_kindNow_61 (by decide) ?_
  refine tj_bipush (v := 115) rfl dX11_kindNow_62 (by decide) ?_
  refine tj_bipush (v := 104) rfl dX11_kindNow_64 (by decide) ?_
  refine tj_bipush (v := 111) rfl dX11_kindNow_66 (by decide) ?_
  refine tj_bipush (v := 112) rfl dX11_kindNow_68 (by decide) ?_
  refine cf_V11 (a := 81) (z := kX11_is) (As := [_, _, _, _, _]) rfl rfl dX11_kindNow_70 rfl ml_X11_166 okX11_is rfl (rm_ok rfl) (Nat.le_of_ble_eq_true rfl) (Nat.le_of_ble_eq_true rfl) rfl rfl ?_
  refine ctX11_is h (fun r3 M1 t2 h => ?_)
  refine tj_if_eq (tgt := 78) rfl rfl dX11_kindNow_73 (fun hc => ?_) (fun hc => ?_)
  · rw [if_pos hc] at h
    refine tj_aload_n rfl dX11_kindNow_78 rfl ?_
    refine tj_iconst (v := 5) rfl dX11_kindNow_79 (by decide) ?_
    refine tj_bipush (v := 116) rfl dX11_kindNow_80 (by decide) ?_
    refine tj_bipush (v := 111) rfl dX11_kindNow_82 (by decide) ?_
    refine tj_bipush (v := 119) rfl dX11_kindNow_84 (by decide) ?_
    refine tj_bipush (v := 101) rfl dX11_kindNow_86 (by decide) ?_
    refine cf_V11 (a := 81) (z := kX11_is) (As := [_, _, _, _, _]) rfl rfl dX11_kindNow_88 rfl ml_X11_166 okX11_is rfl (rm_ok rfl) (Nat.le_of_ble_eq_true rfl) (Nat.le_of_ble_eq_true rfl) rfl rfl ?_
    refine ctX11_is h (fun r6 M4 t5 h => ?_)
    refine tj_if_eq (tgt := 107) rfl rfl dX11_kindNow_91 (fun hc => ?_) (fun hc => ?_)
    · rw [if_pos hc] at h
      exact bX11_kindNow_107 hp  h
    · rw [if_neg hc] at h
      refine tj_aload_n rfl dX11_kindNow_94 rfl ?_
      refine tj_bipush (v := 114) rfl dX11_kindNow_95 (by decide) ?_
      refine tj_iconst (v := 0) rfl dX11_kindNow_97 (by decide) ?_
      refine tj_iconst (v := 0) rfl dX11_kindNow_98 (by decide) ?_
      refine cf_V11 (a := 81) (z := kX11_ends) (As := [_, _, _]) rfl rfl dX11_kindNow_99 rfl ml_X11_170 okX11_ends rfl (rm_ok rfl) (Nat.le_of_ble_eq_true rfl) (Nat.le_of_ble_eq_true rfl) rfl rfl ?_
      refine ctX11_ends h (fun r9 M7 t8 h => ?_)
      refine tj_if_eq (tgt := 107) rfl rfl dX11_kindNow_102 (fun hc => ?_) (fun hc => ?_)
      · rw [if_pos hc] at h
        exact bX11_kindNow_107 hp  h
      · rw [if_neg hc] at h
        refine tj_iconst (v := 4) rfl dX11_kindNow_105 (by decide) ?_
        exact tj_ireturn (ty := .int) dX11_kindNow_106 rfl rfl (Nat.zero_le _) (Nat.zero_le _) (hp _ _ _ h)
  · rw [if_neg hc] at h
    refine tj_iconst (v := 3) rfl dX11_kindNow_76 (by decide) ?_
    exact tj_ireturn (ty := .int) dX11_kindNow_77 rfl rfl (Nat.zero_le _) (Nat.zero_le _) (hp _ _ _ h)
def wX11_kindNow_29 (post : Int32 → MM → Int64 → Prop) (M : MM) (tl : Int64) : Prop :=
  wpX11_is (fun r3 M1 t2 => (if r3 = 0 then wX11_kindNow_60 post  M1 t2 else wpX11_ends (fun r6 M4 t5 => (if r6 = 0 then wX11_kindNow_60 post  M4 t5 else post 2 M4 t5)) M1 t2 101 110 0)) M tl 6 103 97 114 100
set_option maxHeartbeats 4000000 in
set_option maxRecDepth 20000 in
theorem bX11_kindNow_29 {E : EV} {ad : Nat → Nat} {M : MM} {tl : Int64} {Φ : Option Value → va_W → Prop} {post : Int32 → MM → Int64 → Prop} (hp : ∀ r M tl, post r M tl → Φ (some (.int r)) (WM E ad M tl)) (h : wX11_kindNow_29 post M tl ) : T E kX11_kindNow 0 0 (WM E ad M tl) 29 [(0, .ref (ad (81)))] [] Φ := by
  unfold wX11_kindNow_29 at h
  refine tj_aload_n rfl dX11_kindNow_29 rfl ?_
  refine tj_bipush (v := 6) rfl dX11_kindNow_30 (by decide) ?_
  refine tj_bipush (v := 103) rfl dX11_kindNow_32 (by decide) ?_
  refine tj_bipush (v := 97) rfl dX11_kindNow_34 (by decide) ?_
  refine tj_bipush (v := 114) rfl dX11_kindNow_36 (by decide) ?_
  refine tj_bipush (v := 100) rfl dX11_kindNow_38 (by decide) ?_
  refine cf_V11 (a := 81) (z := kX11_is) (As := [_, _, _, _, _]) rfl rfl dX11_kindNow_40 rfl ml_X11_166 okX11_is rfl (rm_ok rfl) (Nat.le_of_ble_eq_true rfl) (Nat.le_of_ble_eq_true rfl) rfl rfl ?_
  refine ctX11_is h (fun r3 M1 t2 h => ?_)
  refine tj_if_eq (tgt := 60) rfl rfl dX11_kindNow_43 (fun hc => ?_) (fun hc => ?_)
  · rw [if_pos hc] at h
    exact bX11_kindNow_60 hp  h
  · rw [if_neg hc] at h
    refine tj_aload_n rfl dX11_kindNow_46 rfl ?_
    refine tj_bipush (v := 101) rfl dX11_kindNow_47 (by decide) ?_
    refine tj_bipush (v := 110) rfl dX11_kindNow_49 (by decide) ?_
    refine tj_iconst (v := 0) rfl dX11_kindNow_51 (by decide) ?_
    refine cf_V11 (a := 81) (z := kX11_ends) (As := [_, _, _]) rfl rfl dX11_kindNow_52 rfl ml_X11_170 okX11_ends rfl (rm_ok rfl) (Nat.le_of_ble_eq_true rfl) (Nat.le_of_ble_eq_true rfl) rfl rfl ?_
    refine ctX11_ends h (fun r6 M4 t5 h => ?_)
    refine tj_if_eq (tgt := 60) rfl rfl dX11_kindNow_55 (fun hc => ?_) (fun hc => ?_)
    · rw [if_pos hc] at h
      exact bX11_kindNow_60 hp  h
    · rw [if_neg hc] at h
      refine tj_iconst (v := 2) rfl dX11_kindNow_58 (by decide) ?_
      exact tj_ireturn (ty := .int) dX11_kindNow_59 rfl rfl (Nat.zero_le _) (Nat.zero_le _) (hp _ _ _ h)
def wpX11_kindNow (post : Int32 → MM → Int64 → Prop) (M : MM) (tl : Int64) : Prop :=
  wpX11_is (fun r3 M1 t2 => (if r3 = 0 then wX11_kindNow_29 post  M1 t2 else wpX11_ends (fun r6 M4 t5 => (if r6 = 0 then wX11_kindNow_29 post  M4 t5 else post 1 M4 t5)) M1 t2 101 0 0)) M tl 5 104 111 117 115
set_option maxHeartbeats 4000000 in
set_option maxRecDepth 20000 in
theorem ctX11_kindNow {E : EV} {ad : Nat → Nat} {M : MM} {tl : Int64} {Φ : Option Value → va_W → Prop} {post : Int32 → MM → Int64 → Prop} (h : wpX11_kindNow post M tl ) (hp : ∀ r M tl, post r M tl → Φ (some (.int r)) (WM E ad M tl)) : Tm E kX11_kindNow (WM E ad M tl) [.ref (ad (81))] Φ := by
  unfold wpX11_kindNow at h
  show T E kX11_kindNow 0 0 (WM E ad M tl) 0 [(0, .ref (ad (81)))] [] Φ
  refine tj_aload_n rfl dX11_kindNow_0 rfl ?_
  refine tj_iconst (v := 5) rfl dX11_kindNow_1 (by decide) ?_
  refine tj_bipush (v := 104) rfl dX11_kindNow_2 (by decide) ?_
  refine tj_bipush (v := 111) rfl dX11_kindNow_4 (by decide) ?_
  refine tj_bipush (v := 117) rfl dX11_kindNow_6 (by decide) ?_
  refine tj_bipush (v := 115) rfl dX11_kindNow_8 (by decide) ?_
  refine cf_V11 (a := 81) (z := kX11_is) (As := [_, _, _, _, _]) rfl rfl dX11_kindNow_10 rfl ml_X11_166 okX11_is rfl (rm_ok rfl) (Nat.le_of_ble_eq_true rfl) (Nat.le_of_ble_eq_true rfl) rfl rfl ?_
  refine ctX11_is h (fun r3 M1 t2 h => ?_)
  refine tj_if_eq (tgt := 29) rfl rfl dX11_kindNow_13 (fun hc => ?_) (fun hc => ?_)
  · rw [if_pos hc] at h
    exact bX11_kindNow_29 hp  h
  · rw [if_neg hc] at h
    refine tj_aload_n rfl dX11_kindNow_16 rfl ?_
    refine tj_bipush (v := 101) rfl dX11_kindNow_17 (by decide) ?_
    refine tj_iconst (v := 0) rfl dX11_kindNow_19 (by decide) ?_
    refine tj_iconst (v := 0) rfl dX11_kindNow_20 (by decide) ?_
    refine cf_V11 (a := 81) (z := kX11_ends) (As := [_, _, _]) rfl rfl dX11_kindNow_21 rfl ml_X11_170 okX11_ends rfl (rm_ok rfl) (Nat.le_of_ble_eq_true rfl) (Nat.le_of_ble_eq_true rfl) rfl rfl ?_
    refine ctX11_ends h (fun r6 M4 t5 h => ?_)
    refine tj_if_eq (tgt := 29) rfl rfl dX11_kindNow_24 (fun hc => ?_) (fun hc => ?_)
    · rw [if_pos hc] at h
      exact bX11_kindNow_29 hp  h
    · rw [if_neg hc] at h
      refine tj_iconst (v := 1) rfl dX11_kindNow_27 (by decide) ?_
      exact tj_ireturn (ty := .int) dX11_kindNow_28 rfl rfl (Nat.zero_le _) (Nat.zero_le _) (hp _ _ _ h)
def wpX11_isNothing (post : Int32 → MM → Int64 → Prop) (M : MM) (tl : Int64) : Prop :=
  wpX11_is (fun r3 M1 t2 => (if r3 = 0 then post 0 M1 t2 else wpX11_ends (fun r6 M4 t5 => (if r6 = 0 then post 0 M4 t5 else post 1 M4 t5)) M1 t2 105 110 103)) M tl 7 110 111 116 104
set_option maxHeartbeats 4000000 in
set_option maxRecDepth 20000 in
theorem ctX11_isNothing {E : EV} {ad : Nat → Nat} {M : MM} {tl : Int64} {Φ : Option Value → va_W → Prop} {post : Int32 → MM → Int64 → Prop} (h : wpX11_isNothing post M tl ) (hp : ∀ r M tl, post r M tl → Φ (some (.int r)) (WM E ad M tl)) : Tm E kX11_isNothing (WM E ad M tl) [.ref (ad (81))] Φ := by
  unfold wpX11_isNothing at h
  show T E kX11_isNothing 0 0 (WM E ad M tl) 0 [(0, .ref (ad (81)))] [] Φ
  refine tj_aload_n rfl dX11_isNothing_0 rfl ?_
  refine tj_bipush (v := 7) rfl dX11_isNothing_1 (by decide) ?_
  refine tj_bipush (v := 110) rfl dX11_isNothing_3 (by decide) ?_
  refine tj_bipush (v := 111) rfl dX11_isNothing_5 (by decide) ?_
  refine tj_bipush (v := 116) rfl dX11_isNothing_7 (by decide) ?_
  refine tj_bipush (v := 104) rfl dX11_isNothing_9 (by decide) ?_
  refine cf_V11 (a := 81) (z := kX11_is) (As := [_, _, _, _, _]) rfl rfl dX11_isNothing_11 rfl ml_X11_166 okX11_is rfl (rm_ok rfl) (Nat.le_of_ble_eq_true rfl) (Nat.le_of_ble_eq_true rfl) rfl rfl ?_
  refine ctX11_is h (fun r3 M1 t2 h => ?_)
  refine tj_if_eq (tgt := 34) rfl rfl dX11_isNothing_14 (fun hc => ?_) (fun hc => ?_)
  · rw [if_pos hc] at h
    refine tj_iconst (v := 0) rfl dX11_isNothing_34 (by decide) ?_
    exact tj_ireturn (ty := .boolean) dX11_isNothing_35 rfl rfl (Nat.zero_le _) (Nat.zero_le _) (hp _ _ _ h)
  · rw [if_neg hc] at h
    refine tj_aload_n rfl dX11_isNothing_17 rfl ?_
    refine tj_bipush (v := 105) rfl dX11_isNothing_18 (by decide) ?_
    refine tj_bipush (v := 110) rfl dX11_isNothing_20 (by decide) ?_
    refine tj_bipush (v := 103) rfl dX11_isNothing_22 (by decide) ?_
    refine cf_V11 (a := 81) (z := kX11_ends) (As := [_, _, _]) rfl rfl dX11_isNothing_24 rfl ml_X11_170 okX11_ends rfl (rm_ok rfl) (Nat.le_of_ble_eq_true rfl) (Nat.le_of_ble_eq_true rfl) rfl rfl ?_
    refine ctX11_ends h (fun r6 M4 t5 h => ?_)
    refine tj_if_eq (tgt := 34) rfl rfl dX11_isNothing_27 (fun hc => ?_) (fun hc => ?_)
    · rw [if_pos hc] at h
      refine tj_iconst (v := 0) rfl dX11_isNothing_34 (by decide) ?_
      exact tj_ireturn (ty := .boolean) dX11_isNothing_35 rfl rfl (Nat.zero_le _) (Nat.zero_le _) (hp _ _ _ h)
    · rw [if_neg hc] at h
      refine tj_iconst (v := 1) rfl dX11_isNothing_30 (by decide) ?_
      refine tj_goto (tgt := 35) rfl dX11_isNothing_31 ?_
      exact tj_ireturn (ty := .boolean) dX11_isNothing_35 rfl rfl (Nat.zero_le _) (Nat.zero_le _) (hp _ _ _ h)
def wpX11_sideNow (post : Int32 → MM → Int64 → Prop) (M : MM) (tl : Int64) : Prop :=
  wpX11_is (fun r3 M1 t2 => (if r3 = 0 then wpX11_is (fun r6 M4 t5 => (if r6 = 0 then post (-4) M4 t5 else wpX11_ends (fun r9 M7 t8 => (if r9 = 0 then post (-4) M7 t8 else post 1 M7 t8)) M4 t5 116 0 0)) M1 t2 5 114 105 103 104 else post 0 M1 t2)) M tl 4 108 101 102 116
set_option maxHeartbeats 4000000 in
set_option maxRecDepth 20000 in
theorem ctX11_sideNow {E : EV} {ad : Nat → Nat} {M : MM} {tl : Int64} {Φ : Option Value → va_W → Prop} {post : Int32 → MM → Int64 → Prop} (h : wpX11_sideNow post M tl ) (hp : ∀ r M tl, post r M tl → Φ (some (.int r)) (WM E ad M tl)) : Tm E kX11_sideNow (WM E ad M tl) [.ref (ad (81))] Φ := by
  unfold wpX11_sideNow at h
  show T E kX11_sideNow 0 0 (WM E ad M tl) 0 [(0, .ref (ad (81)))] [] Φ
  refine tj_aload_n rfl dX11_sideNow_0 rfl ?_
  refine tj_iconst (v := 4) rfl dX11_sideNow_1 (by decide) ?_
  refine tj_bipush (v := 108) rfl dX11_sideNow_2 (by decide) ?_
  refine tj_bipush (v := 101) rfl dX11_sideNow_4 (by decide) ?_
  refine tj_bipush (v := 102) rfl dX11_sideNow_6 (by decide) ?_
  refine tj_bipush (v := 116) rfl dX11_sideNow_8 (by decide) ?_
  refine cf_V11 (a := 81) (z := kX11_is) (As := [_, _, _, _, _]) rfl rfl dX11_sideNow_10 rfl ml_X11_166 okX11_is rfl (rm_ok rfl) (Nat.le_of_ble_eq_true rfl) (Nat.le_of_ble_eq_true rfl) rfl rfl ?_
  refine ctX11_is h (fun r3 M1 t2 h => ?_)
  refine tj_if_eq (tgt := 20) rfl rfl dX11_sideNow_13 (fun hc => ?_) (fun hc => ?_)
  · rw [if_pos hc] at h
    refine tj_aload_n rfl dX11_sideNow_20 rfl ?_
    refine tj_iconst (v := 5) rfl dX11_sideNow_21 (by decide) ?_
    refine tj_bipush (v := 114) rfl dX11_sideNow_22 (by decide) ?_
    refine tj_bipush (v := 105) rfl dX11_sideNow_24 (by decide) ?_
    refine tj_bipush (v := 103) rfl dX11_sideNow_26 (by decide) ?_
    refine tj_bipush (v := 104) rfl dX11_sideNow_28 (by decide) ?_
    refine cf_V11 (a := 81) (z := kX11_is) (As := [_, _, _, _, _]) rfl rfl dX11_sideNow_30 rfl ml_X11_166 okX11_is rfl (rm_ok rfl) (Nat.le_of_ble_eq_true rfl) (Nat.le_of_ble_eq_true rfl) rfl rfl ?_
    refine ctX11_is h (fun r6 M4 t5 h => ?_)
    refine tj_if_eq (tgt := 51) rfl rfl dX11_sideNow_33 (fun hc => ?_) (fun hc => ?_)
    · rw [if_pos hc] at h
      refine tj_bipush (v := -4) rfl dX11_sideNow_51 (by decide) ?_
      exact tj_ireturn (ty := .int) dX11_sideNow_53 rfl rfl (Nat.zero_le _) (Nat.zero_le _) (hp _ _ _ h)
    · rw [if_neg hc] at h
      refine tj_aload_n rfl dX11_sideNow_36 rfl ?_
      refine tj_bipush (v := 116) rfl dX11_sideNow_37 (by decide) ?_
      refine tj_iconst (v := 0) rfl dX11_sideNow_39 (by decide) ?_
      refine tj_iconst (v := 0) rfl dX11_sideNow_40 (by decide) ?_
      refine cf_V11 (a := 81) (z := kX11_ends) (As := [_, _, _]) rfl rfl dX11_sideNow_41 rfl ml_X11_170 okX11_ends rfl (rm_ok rfl) (Nat.le_of_ble_eq_true rfl) (Nat.le_of_ble_eq_true rfl) rfl rfl ?_
      refine ctX11_ends h (fun r9 M7 t8 h => ?_)
      refine tj_if_eq (tgt := 51) rfl rfl dX11_sideNow_44 (fun hc => ?_) (fun hc => ?_)
      · rw [if_pos hc] at h
        refine tj_bipush (v := -4) rfl dX11_sideNow_51 (by decide) ?_
        exact tj_ireturn (ty := .int) dX11_sideNow_53 rfl rfl (Nat.zero_le _) (Nat.zero_le _) (hp _ _ _ h)
      · rw [if_neg hc] at h
        refine tj_iconst (v := 1) rfl dX11_sideNow_47 (by decide) ?_
        refine tj_goto (tgt := 53) rfl dX11_sideNow_48 ?_
        exact tj_ireturn (ty := .int) dX11_sideNow_53 rfl rfl (Nat.zero_le _) (Nat.zero_le _) (hp _ _ _ h)
  · rw [if_neg hc] at h
    refine tj_iconst (v := 0) rfl dX11_sideNow_16 (by decide) ?_
    refine tj_goto (tgt := 53) rfl dX11_sideNow_17 ?_
    exact tj_ireturn (ty := .int) dX11_sideNow_53 rfl rfl (Nat.zero_le _) (Nat.zero_le _) (hp _ _ _ h)
def wX11_next_82 (post : MM → Int64 → Prop) : Nat → MM → Int64 → Prop
  | 0, _, _ => False
  | n + 1, M, tl =>
    wpX11_look (fun r3 M1 t2 => wpX11_in (fun r6 M4 t5 => (if r6 = 0 then post M4 t5 else (∀ M7 : MM, M7 = mset M4 81 32 ((M4 81 32) + 1) → (wX11_next_82 post n) M7 t5))) M1 t2 ((r3 : Int32).toInt64) 97 122) M tl (M 81 32)
set_option maxHeartbeats 4000000 in
set_option maxRecDepth 20000 in
theorem bX11_next_82 {E : EV} {ad : Nat → Nat} {Φ : Option Value → va_W → Prop} {post : MM → Int64 → Prop}  (hp : ∀ M tl, post M tl → Φ none (WM E ad M tl)) : ∀ (n : Nat) (M : MM) (tl : Int64), wX11_next_82 post n M tl  → T E kX11_next 0 0 (WM E ad M tl) 82 [(0, .ref (ad (81)))] [] Φ := by
  intro n
  induction n with
  | zero => intro M tl  h; exact False.elim h
  | succ n ih =>
    intro M tl  h
    unfold wX11_next_82 at h
    refine tj_aload_n rfl dX11_next_82 rfl ?_
    refine tj_aload_n rfl dX11_next_83 rfl ?_
    refine gf11_pos (a := 81) rfl rfl dX11_next_84 fl_X11_159 ?_
    refine cf_V11 (a := 81) (z := kX11_look) (As := [_]) rfl rfl dX11_next_87 rfl ml_X11_162 okX11_look rfl (rm_ok rfl) (Nat.le_of_ble_eq_true rfl) (Nat.le_of_ble_eq_true rfl) rfl rfl ?_
    refine ctX11_look h (fun r3 M1 t2 h => ?_)
    refine tj_i2l rfl dX11_next_90 ?_
    refine tj_ldc2 rfl dX11_next_91 kl_X11_181 ?_
    refine tj_ldc2 rfl dX11_next_94 kl_X11_183 ?_
    refine cf_S (z := kX11_in) (As := [_, _, _]) rfl dX11_next_97 rfl ml_X11_146 okX11_in rfl (rm_ok rfl) (Nat.le_of_ble_eq_true rfl) (Nat.le_of_ble_eq_true rfl) rfl ?_
    refine ctX11_in h (fun r6 M4 t5 h => ?_)
    refine tj_if_eq (tgt := 274) rfl rfl dX11_next_100 (fun hc => ?_) (fun hc => ?_)
    · rw [if_pos hc] at h
      exact tj_return dX11_next_274 rfl (Nat.zero_le _) (Nat.zero_le _) (hp _ _ h)
    · rw [if_neg hc] at h
      refine tj_aload_n rfl dX11_next_103 rfl ?_
      refine tj_dup rfl dX11_next_104 rfl ?_
      refine gf11_pos (a := 81) rfl rfl dX11_next_105 fl_X11_159 ?_
      refine tj_iconst (v := 1) rfl dX11_next_108 (by decide) ?_
      refine tj_iadd rfl dX11_next_109 ?_
      refine pf11_pos (a := 81) rfl rfl dX11_next_110 fl_X11_159 ?_
      replace h := h _ rfl
      generalize mset M4 81 32 ((M4 81 32) + 1) = M7 at h ⊢
      refine tj_goto (tgt := 82) rfl dX11_next_113 ?_
      exact ih _ _ h
def wX11_next_201 (post : MM → Int64 → Prop) (bk140 : MM → Int64 → Prop) (M : MM) (tl : Int64) (s1 : Int32) : Prop :=
  (∀ M1 : MM, M1 = mset M 81 35 s1 → (∀ M2 : MM, M2 = mset M1 81 32 ((M1 81 32) + 1) → bk140 M2 tl))
set_option maxHeartbeats 4000000 in
set_option maxRecDepth 20000 in
theorem bX11_next_201 {E : EV} {ad : Nat → Nat} {M : MM} {tl : Int64} {Φ : Option Value → va_W → Prop} {post : MM → Int64 → Prop} {bk140 : MM → Int64 → Prop} {s1 : Int32} (hp : ∀ M tl, post M tl → Φ none (WM E ad M tl)) (hb140 : ∀ (M : MM) (tl : Int64) , bk140 M tl  → T E kX11_next 0 0 (WM E ad M tl) 140 [(0, .ref (ad (81)))] [] Φ) (h : wX11_next_201 post bk140 M tl s1) : T E kX11_next 0 0 (WM E ad M tl) 201 [(0, .ref (ad (81)))] [.int s1, .ref (ad (81))] Φ := by
  unfold wX11_next_201 at h
  refine pf11_value (a := 81) rfl rfl dX11_next_201 fl_X11_189 ?_
  replace h := h _ rfl
  generalize mset M 81 35 s1 = M1 at h ⊢
  refine tj_aload_n rfl dX11_next_204 rfl ?_
  refine tj_dup rfl dX11_next_205 rfl ?_
  refine gf11_pos (a := 81) rfl rfl dX11_next_206 fl_X11_159 ?_
  refine tj_iconst (v := 1) rfl dX11_next_209 (by decide) ?_
  refine tj_iadd rfl dX11_next_210 ?_
  refine pf11_pos (a := 81) rfl rfl dX11_next_211 fl_X11_159 ?_
  replace h := h _ rfl
  generalize mset M1 81 32 ((M1 81 32) + 1) = M2 at h ⊢
  refine tj_goto (tgt := 140) rfl dX11_next_214 ?_
  exact hb140 _ _ h
def wX11_next_236 (post : MM → Int64 → Prop) (M : MM) (tl : Int64) (s1 : Int32) : Prop :=
  wpX11_needs (fun M1 t2 => post M1 t2) M tl s1 1
set_option maxHeartbeats 4000000 in
set_option maxRecDepth 20000 in
theorem bX11_next_236 {E : EV} {ad : Nat → Nat} {M : MM} {tl : Int64} {Φ : Option Value → va_W → Prop} {post : MM → Int64 → Prop} {s1 : Int32} (hp : ∀ M tl, post M tl → Φ none (WM E ad M tl)) (h : wX11_next_236 post M tl s1) : T E kX11_next 0 0 (WM E ad M tl) 236 [] [.int s1, .ref (ad (81))] Φ := by
  unfold wX11_next_236 at h
  refine tj_iconst (v := 1) rfl dX11_next_236 (by decide) ?_
  refine cf_V11 (a := 81) (z := kX11_needs) (As := [_, _]) rfl rfl dX11_next_237 rfl ml_X11_192 okX11_needs rfl (rm_ok rfl) (Nat.le_of_ble_eq_true rfl) (Nat.le_of_ble_eq_true rfl) rfl rfl ?_
  refine ctX11_needs h (fun M1 t2 h => ?_)
  refine tj_goto (tgt := 274) rfl dX11_next_240 ?_
  exact tj_return dX11_next_274 rfl (Nat.zero_le _) (Nat.zero_le _) (hp _ _ h)
def wX11_next_140 (post : MM → Int64 → Prop) : Nat → MM → Int64 → Prop
  | 0, _, _ => False
  | n + 1, M, tl =>
    wpX11_look (fun r3 M1 t2 => wpX11_in (fun r6 M4 t5 => (if r6 = 0 then (if 2 < ((M4 81 32) - (M4 81 33)) then wX11_next_236 post  M4 t5 0 else wX11_next_236 post  M4 t5 1) else (if 2 ≤ ((M4 81 32) - (M4 81 33)) then wX11_next_201 post (wX11_next_140 post n) M4 t5 (M4 81 35) else wpX11_look (fun r9 M7 t8 => wX11_next_201 post (wX11_next_140 post n) M7 t8 ((((10 : Int32) * (M4 81 35)) + r9) - 48)) M4 t5 (M4 81 32)))) M1 t2 ((r3 : Int32).toInt64) 48 57) M tl (M 81 32)
set_option maxHeartbeats 4000000 in
set_option maxRecDepth 20000 in
theorem bX11_next_140 {E : EV} {ad : Nat → Nat} {Φ : Option Value → va_W → Prop} {post : MM → Int64 → Prop}  (hp : ∀ M tl, post M tl → Φ none (WM E ad M tl)) : ∀ (n : Nat) (M : MM) (tl : Int64), wX11_next_140 post n M tl  → T E kX11_next 0 0 (WM E ad M tl) 140 [(0, .ref (ad (81)))] [] Φ := by
  intro n
  induction n with
  | zero => intro M tl  h; exact False.elim h
  | succ n ih =>
    intro M tl  h
    unfold wX11_next_140 at h
    refine tj_aload_n rfl dX11_next_140 rfl ?_
    refine tj_aload_n rfl dX11_next_141 rfl ?_
    refine gf11_pos (a := 81) rfl rfl dX11_next_142 fl_X11_159 ?_
    refine cf_V11 (a := 81) (z := kX11_look) (As := [_]) rfl rfl dX11_next_145 rfl ml_X11_162 okX11_look rfl (rm_ok rfl) (Nat.le_of_ble_eq_true rfl) (Nat.le_of_ble_eq_true rfl) rfl rfl ?_
    refine ctX11_look h (fun r3 M1 t2 h => ?_)
    refine tj_i2l rfl dX11_next_148 ?_
    refine tj_ldc2 rfl dX11_next_149 kl_X11_185 ?_
    refine tj_ldc2 rfl dX11_next_152 kl_X11_187 ?_
    refine cf_S (z := kX11_in) (As := [_, _, _]) rfl dX11_next_155 rfl ml_X11_146 okX11_in rfl (rm_ok rfl) (Nat.le_of_ble_eq_true rfl) (Nat.le_of_ble_eq_true rfl) rfl ?_
    refine ctX11_in h (fun r6 M4 t5 h => ?_)
    refine tj_if_eq (tgt := 217) rfl rfl dX11_next_158 (fun hc => ?_) (fun hc => ?_)
    · rw [if_pos hc] at h
      refine tj_aload_n rfl dX11_next_217 rfl ?_
      refine tj_aload_n rfl dX11_next_218 rfl ?_
      refine gf11_pos (a := 81) rfl rfl dX11_next_219 fl_X11_159 ?_
      refine tj_aload_n rfl dX11_next_222 rfl ?_
      refine gf11_from (a := 81) rfl rfl dX11_next_223 fl_X11_153 ?_
      refine tj_isub rfl dX11_next_226 ?_
      refine tj_iconst (v := 2) rfl dX11_next_227 (by decide) ?_
      refine tj_icmp_gt (tgt := 235) rfl rfl dX11_next_228 (fun hc => ?_) (fun hc => ?_)
      · rw [if_pos hc] at h
        refine tj_iconst (v := 0) rfl dX11_next_235 (by decide) ?_
        exact tj_pick (l' := []) [] rfl (bX11_next_236 hp  h)
      · rw [if_neg hc] at h
        refine tj_iconst (v := 1) rfl dX11_next_231 (by decide) ?_
        refine tj_goto (tgt := 236) rfl dX11_next_232 ?_
        exact tj_pick (l' := []) [] rfl (bX11_next_236 hp  h)
    · rw [if_neg hc] at h
      refine tj_aload_n rfl dX11_next_161 rfl ?_
      refine tj_aload_n rfl dX11_next_162 rfl ?_
      refine gf11_pos (a := 81) rfl rfl dX11_next_163 fl_X11_159 ?_
      refine tj_aload_n rfl dX11_next_166 rfl ?_
      refine gf11_from (a := 81) rfl rfl dX11_next_167 fl_X11_153 ?_
      refine tj_isub rfl dX11_next_170 ?_
      refine tj_iconst (v := 2) rfl dX11_next_171 (by decide) ?_
      refine tj_icmp_ge (tgt := 197) rfl rfl dX11_next_172 (fun hc => ?_) (fun hc => ?_)
      · rw [if_pos hc] at h
        refine tj_aload_n rfl dX11_next_197 rfl ?_
        refine gf11_value (a := 81) rfl rfl dX11_next_198 fl_X11_189 ?_
        exact bX11_next_201 hp ih h
      · rw [if_neg hc] at h
        refine tj_bipush (v := 10) rfl dX11_next_175 (by decide) ?_
        refine tj_aload_n rfl dX11_next_177 rfl ?_
        refine gf11_value (a := 81) rfl rfl dX11_next_178 fl_X11_189 ?_
        refine tj_imul rfl dX11_next_181 ?_
        refine tj_aload_n rfl dX11_next_182 rfl ?_
        refine tj_aload_n rfl dX11_next_183 rfl ?_
        refine gf11_pos (a := 81) rfl rfl dX11_next_184 fl_X11_159 ?_
        refine cf_V11 (a := 81) (z := kX11_look) (As := [_]) rfl rfl dX11_next_187 rfl ml_X11_162 okX11_look rfl (rm_ok rfl) (Nat.le_of_ble_eq_true rfl) (Nat.le_of_ble_eq_true rfl) rfl rfl ?_
        refine ctX11_look h (fun r9 M7 t8 h => ?_)
        refine tj_iadd rfl dX11_next_190 ?_
        refine tj_bipush (v := 48) rfl dX11_next_191 (by decide) ?_
        refine tj_isub rfl dX11_next_193 ?_
        refine tj_goto (tgt := 201) rfl dX11_next_194 ?_
        exact bX11_next_201 hp ih h
def wX11_next_260 (post : MM → Int64 → Prop) (M : MM) (tl : Int64) (s1 : Int32) : Prop :=
  wpX11_needs (fun M1 t2 => (∀ M3 : MM, M3 = mset M1 81 32 ((M1 81 32) + 1) → post M3 t2)) M tl s1 1
set_option maxHeartbeats 4000000 in
set_option maxRecDepth 20000 in
theorem bX11_next_260 {E : EV} {ad : Nat → Nat} {M : MM} {tl : Int64} {Φ : Option Value → va_W → Prop} {post : MM → Int64 → Prop} {s1 : Int32} (hp : ∀ M tl, post M tl → Φ none (WM E ad M tl)) (h : wX11_next_260 post M tl s1) : T E kX11_next 0 0 (WM E ad M tl) 260 [(0, .ref (ad (81)))] [.int s1, .ref (ad (81))] Φ := by
  unfold wX11_next_260 at h
  refine tj_iconst (v := 1) rfl dX11_next_260 (by decide) ?_
  refine cf_V11 (a := 81) (z := kX11_needs) (As := [_, _]) rfl rfl dX11_next_261 rfl ml_X11_192 okX11_needs rfl (rm_ok rfl) (Nat.le_of_ble_eq_true rfl) (Nat.le_of_ble_eq_true rfl) rfl rfl ?_
  refine ctX11_needs h (fun M1 t2 h => ?_)
  refine tj_aload_n rfl dX11_next_264 rfl ?_
  refine tj_dup rfl dX11_next_265 rfl ?_
  refine gf11_pos (a := 81) rfl rfl dX11_next_266 fl_X11_159 ?_
  refine tj_iconst (v := 1) rfl dX11_next_269 (by decide) ?_
  refine tj_iadd rfl dX11_next_270 ?_
  refine pf11_pos (a := 81) rfl rfl dX11_next_271 fl_X11_159 ?_
  replace h := h _ rfl
  generalize mset M1 81 32 ((M1 81 32) + 1) = M3 at h ⊢
  exact tj_return dX11_next_274 rfl (Nat.zero_le _) (Nat.zero_le _) (hp _ _ h)
def wX11_next_8 (post : MM → Int64 → Prop) : Nat → MM → Int64 → Prop
  | 0, _, _ => False
  | n + 1, M, tl =>
    wpX11_look (fun r3 M1 t2 => (if r3 = 32 then (∀ M19 : MM, M19 = mset M1 81 32 ((M1 81 32) + 1) → (wX11_next_8 post n) M19 t2) else (∀ M4 : MM, M4 = mset M1 81 33 (M1 81 32) → wpX11_look (fun r7 M5 t6 => (if 0 ≤ r7 then wpX11_in (fun r10 M8 t9 => (if r10 = 0 then wpX11_in (fun r13 M11 t12 => (if r13 = 0 then (∀ M14 : MM, M14 = mset M11 81 34 3 → (if r7 = 59 then wX11_next_260 post  M14 t12 1 else wX11_next_260 post  M14 t12 0)) else (∀ M15 : MM, M15 = mset M11 81 34 2 → (∀ M16 : MM, M16 = mset M15 81 35 0 → (∃ n9, wX11_next_140 post  n9 M16 t12))))) M8 t9 ((r7 : Int32).toInt64) 48 57 else (∀ M17 : MM, M17 = mset M8 81 34 1 → (∃ n9, wX11_next_82 post  n9 M17 t9)))) M5 t6 ((r7 : Int32).toInt64) 97 122 else (∀ M18 : MM, M18 = mset M5 81 34 0 → post M18 t6))) M4 t2 (M4 81 32)))) M tl (M 81 32)
set_option maxHeartbeats 4000000 in
set_option maxRecDepth 20000 in
theorem bX11_next_8 {E : EV} {ad : Nat → Nat} {Φ : Option Value → va_W → Prop} {post : MM → Int64 → Prop}  (hp : ∀ M tl, post M tl → Φ none (WM E ad M tl)) : ∀ (n : Nat) (M : MM) (tl : Int64), wX11_next_8 post n M tl  → T E kX11_next 0 0 (WM E ad M tl) 8 [(0, .ref (ad (81)))] [] Φ := by
  intro n
  induction n with
  | zero => intro M tl  h; exact False.elim h
  | succ n ih =>
    intro M tl  h
    unfold wX11_next_8 at h
    refine tj_aload_n rfl dX11_next_8 rfl ?_
    refine tj_aload_n rfl dX11_next_9 rfl ?_
    refine gf11_pos (a := 81) rfl rfl dX11_next_10 fl_X11_159 ?_
    refine cf_V11 (a := 81) (z := kX11_look) (As := [_]) rfl rfl dX11_next_13 rfl ml_X11_162 okX11_look rfl (rm_ok rfl) (Nat.le_of_ble_eq_true rfl) (Nat.le_of_ble_eq_true rfl) rfl rfl ?_
    refine ctX11_look h (fun r3 M1 t2 h => ?_)
    refine tj_bipush (v := 32) rfl dX11_next_16 (by decide) ?_
    refine tj_icmp_ne (tgt := 34) rfl rfl dX11_next_18 (fun hc => ?_) (fun hc => ?_)
    · rw [if_neg hc] at h
      refine tj_aload_n rfl dX11_next_34 rfl ?_
      refine tj_aload_n rfl dX11_next_35 rfl ?_
      refine gf11_pos (a := 81) rfl rfl dX11_next_36 fl_X11_159 ?_
      refine pf11_from (a := 81) rfl rfl dX11_next_39 fl_X11_153 ?_
      replace h := h _ rfl
      generalize mset M1 81 33 (M1 81 32) = M4 at h ⊢
      refine tj_aload_n rfl dX11_next_42 rfl ?_
      refine tj_aload_n rfl dX11_next_43 rfl ?_
      refine gf11_pos (a := 81) rfl rfl dX11_next_44 fl_X11_159 ?_
      refine cf_V11 (a := 81) (z := kX11_look) (As := [_]) rfl rfl dX11_next_47 rfl ml_X11_162 okX11_look rfl (rm_ok rfl) (Nat.le_of_ble_eq_true rfl) (Nat.le_of_ble_eq_true rfl) rfl rfl ?_
      refine ctX11_look h (fun r7 M5 t6 h => ?_)
      refine tj_istore_n (l' := [(0, _), (1, _)]) rfl dX11_next_50 (by decide) rfl ?_
      refine tj_iload_n rfl dX11_next_51 rfl ?_
      refine tj_if_ge (tgt := 63) rfl rfl dX11_next_52 (fun hc => ?_) (fun hc => ?_)
      · rw [if_pos hc] at h
        refine tj_iload_n rfl dX11_next_63 rfl ?_
        refine tj_i2l rfl dX11_next_64 ?_
        refine tj_ldc2 rfl dX11_next_65 kl_X11_181 ?_
        refine tj_ldc2 rfl dX11_next_68 kl_X11_183 ?_
        refine cf_S (z := kX11_in) (As := [_, _, _]) rfl dX11_next_71 rfl ml_X11_146 okX11_in rfl (rm_ok rfl) (Nat.le_of_ble_eq_true rfl) (Nat.le_of_ble_eq_true rfl) rfl ?_
        refine ctX11_in h (fun r10 M8 t9 h => ?_)
        refine tj_if_eq (tgt := 116) rfl rfl dX11_next_74 (fun hc => ?_) (fun hc => ?_)
        · rw [if_pos hc] at h
          refine tj_iload_n rfl dX11_next_116 rfl ?_
          refine tj_i2l rfl dX11_next_117 ?_
          refine tj_ldc2 rfl dX11_next_118 kl_X11_185 ?_
          refine tj_ldc2 rfl dX11_next_121 kl_X11_187 ?_
          refine cf_S (z := kX11_in) (As := [_, _, _]) rfl dX11_next_124 rfl ml_X11_146 okX11_in rfl (rm_ok rfl) (Nat.le_of_ble_eq_true rfl) (Nat.le_of_ble_eq_true rfl) rfl ?_
          refine ctX11_in h (fun r13 M11 t12 h => ?_)
          refine tj_if_eq (tgt := 243) rfl rfl dX11_next_127 (fun hc => ?_) (fun hc => ?_)
          · rw [if_pos hc] at h
            refine tj_aload_n rfl dX11_next_243 rfl ?_
            refine tj_iconst (v := 3) rfl dX11_next_244 (by decide) ?_
            refine pf11_sort (a := 81) rfl rfl dX11_next_245 fl_X11_178 ?_
            replace h := h _ rfl
            generalize mset M11 81 34 3 = M14 at h ⊢
            refine tj_aload_n rfl dX11_next_248 rfl ?_
            refine tj_iload_n rfl dX11_next_249 rfl ?_
            refine tj_bipush (v := 59) rfl dX11_next_250 (by decide) ?_
            refine tj_icmp_ne (tgt := 259) rfl rfl dX11_next_252 (fun hc => ?_) (fun hc => ?_)
            · rw [if_neg hc] at h
              refine tj_iconst (v := 0) rfl dX11_next_259 (by decide) ?_
              exact tj_pick (l' := [(0, _)]) [0] rfl (bX11_next_260 hp  h)
            · rw [if_pos hc] at h
              refine tj_iconst (v := 1) rfl dX11_next_255 (by decide) ?_
              refine tj_goto (tgt := 260) rfl dX11_next_256 ?_
              exact tj_pick (l' := [(0, _)]) [0] rfl (bX11_next_260 hp  h)
          · rw [if_neg hc] at h
            refine tj_aload_n rfl dX11_next_130 rfl ?_
            refine tj_iconst (v := 2) rfl dX11_next_131 (by decide) ?_
            refine pf11_sort (a := 81) rfl rfl dX11_next_132 fl_X11_178 ?_
            replace h := h _ rfl
            generalize mset M11 81 34 2 = M15 at h ⊢
            refine tj_aload_n rfl dX11_next_135 rfl ?_
            refine tj_iconst (v := 0) rfl dX11_next_136 (by decide) ?_
            refine pf11_value (a := 81) rfl rfl dX11_next_137 fl_X11_189 ?_
            replace h := h _ rfl
            generalize mset M15 81 35 0 = M16 at h ⊢
            obtain ⟨n9, h⟩ := h
            exact tj_pick (l' := [(0, _)]) [0] rfl (bX11_next_140 hp  n9 _ _ h)
        · rw [if_neg hc] at h
          refine tj_aload_n rfl dX11_next_77 rfl ?_
          refine tj_iconst (v := 1) rfl dX11_next_78 (by decide) ?_
          refine pf11_sort (a := 81) rfl rfl dX11_next_79 fl_X11_178 ?_
          replace h := h _ rfl
          generalize mset M8 81 34 1 = M17 at h ⊢
          obtain ⟨n9, h⟩ := h
          exact tj_pick (l' := [(0, _)]) [0] rfl (bX11_next_82 hp  n9 _ _ h)
      · rw [if_neg hc] at h
        refine tj_aload_n rfl dX11_next_55 rfl ?_
        refine tj_iconst (v := 0) rfl dX11_next_56 (by decide) ?_
        refine pf11_sort (a := 81) rfl rfl dX11_next_57 fl_X11_178 ?_
        replace h := h _ rfl
        generalize mset M5 81 34 0 = M18 at h ⊢
        refine tj_goto (tgt := 274) rfl dX11_next_60 ?_
        exact tj_return dX11_next_274 rfl (Nat.zero_le _) (Nat.zero_le _) (hp _ _ h)
    · rw [if_pos hc] at h
      refine tj_aload_n rfl dX11_next_21 rfl ?_
      refine tj_dup rfl dX11_next_22 rfl ?_
      refine gf11_pos (a := 81) rfl rfl dX11_next_23 fl_X11_159 ?_
      refine tj_iconst (v := 1) rfl dX11_next_26 (by decide) ?_
      refine tj_iadd rfl dX11_next_27 ?_
      refine pf11_pos (a := 81) rfl rfl dX11_next_28 fl_X11_159 ?_
      replace h := h _ rfl
      generalize mset M1 81 32 ((M1 81 32) + 1) = M19 at h ⊢
      refine tj_goto (tgt := 8) rfl dX11_next_31 ?_
      exact ih _ _ h
def wpX11_next (post : MM → Int64 → Prop) (M : MM) (tl : Int64) : Prop :=
  (if (M 81 36) ≤ 0 then (∃ n9, wX11_next_8 post  n9 M tl) else post M tl)
set_option maxHeartbeats 4000000 in
set_option maxRecDepth 20000 in
theorem ctX11_next {E : EV} {ad : Nat → Nat} {M : MM} {tl : Int64} {Φ : Option Value → va_W → Prop} {post : MM → Int64 → Prop} (h : wpX11_next post M tl ) (hp : ∀ M tl, post M tl → Φ none (WM E ad M tl)) : Tm E kX11_next (WM E ad M tl) [.ref (ad (81))] Φ := by
  unfold wpX11_next at h
  show T E kX11_next 0 0 (WM E ad M tl) 0 [(0, .ref (ad (81)))] [] Φ
  refine tj_aload_n rfl dX11_next_0 rfl ?_
  refine gf11_fault (a := 81) rfl rfl dX11_next_1 fl_X11_150 ?_
  refine tj_if_le (tgt := 8) rfl rfl dX11_next_4 (fun hc => ?_) (fun hc => ?_)
  · rw [if_pos hc] at h
    obtain ⟨n9, h⟩ := h
    exact bX11_next_8 hp  n9 _ _ h
  · rw [if_neg hc] at h
    exact tj_return dX11_next_7 rfl (Nat.zero_le _) (Nat.zero_le _) (hp _ _ h)
def wX11_looked_49 (post : Int32 → MM → Int64 → Prop) (M : MM) (tl : Int64) : Prop :=
  (if (M 81 36) = 0 then post (M 81 35) M tl else post 0 M tl)
set_option maxHeartbeats 4000000 in
set_option maxRecDepth 20000 in
theorem bX11_looked_49 {E : EV} {ad : Nat → Nat} {M : MM} {tl : Int64} {Φ : Option Value → va_W → Prop} {post : Int32 → MM → Int64 → Prop} (hp : ∀ r M tl, post r M tl → Φ (some (.int r)) (WM E ad M tl)) (h : wX11_looked_49 post M tl ) : T E kX11_looked 0 0 (WM E ad M tl) 49 [(0, .ref (ad (81)))] [] Φ := by
  unfold wX11_looked_49 at h
  refine tj_aload_n rfl dX11_looked_49 rfl ?_
  refine gf11_fault (a := 81) rfl rfl dX11_looked_50 fl_X11_150 ?_
  refine tj_if_ne (tgt := 63) rfl rfl dX11_looked_53 (fun hc => ?_) (fun hc => ?_)
  · rw [if_neg hc] at h
    refine tj_iconst (v := 0) rfl dX11_looked_63 (by decide) ?_
    exact tj_ireturn (ty := .int) dX11_looked_64 rfl rfl (Nat.zero_le _) (Nat.zero_le _) (hp _ _ _ h)
  · rw [if_pos hc] at h
    refine tj_aload_n rfl dX11_looked_56 rfl ?_
    refine gf11_value (a := 81) rfl rfl dX11_looked_57 fl_X11_189 ?_
    refine tj_goto (tgt := 64) rfl dX11_looked_60 ?_
    exact tj_ireturn (ty := .int) dX11_looked_64 rfl rfl (Nat.zero_le _) (Nat.zero_le _) (hp _ _ _ h)
def wX11_looked_25 (post : Int32 → MM → Int64 → Prop) (M : MM) (tl : Int64) (v1 : Int32) (v2 : Int32) : Prop :=
  (if (M 81 36) = 0 then wpX11_in (fun r3 M1 t2 => wpX11_needs (fun M4 t5 => wX11_looked_49 post  M4 t5) M1 t2 r3 3) M tl ((M 81 35 : Int32).toInt64) ((v1 : Int32).toInt64) ((v2 : Int32).toInt64) else wX11_looked_49 post  M tl)
set_option maxHeartbeats 4000000 in
set_option maxRecDepth 20000 in
theorem bX11_looked_25 {E : EV} {ad : Nat → Nat} {M : MM} {tl : Int64} {Φ : Option Value → va_W → Prop} {post : Int32 → MM → Int64 → Prop} {v1 : Int32} {v2 : Int32} (hp : ∀ r M tl, post r M tl → Φ (some (.int r)) (WM E ad M tl)) (h : wX11_looked_25 post M tl v1 v2) : T E kX11_looked 0 0 (WM E ad M tl) 25 [(0, .ref (ad (81))), (1, .int v1), (2, .int v2)] [] Φ := by
  unfold wX11_looked_25 at h
  refine tj_aload_n rfl dX11_looked_25 rfl ?_
  refine gf11_fault (a := 81) rfl rfl dX11_looked_26 fl_X11_150 ?_
  refine tj_if_ne (tgt := 49) rfl rfl dX11_looked_29 (fun hc => ?_) (fun hc => ?_)
  · rw [if_neg hc] at h
    exact tj_pick (l' := [(0, _)]) [0] rfl (bX11_looked_49 hp  h)
  · rw [if_pos hc] at h
    refine tj_aload_n rfl dX11_looked_32 rfl ?_
    refine tj_aload_n rfl dX11_looked_33 rfl ?_
    refine gf11_value (a := 81) rfl rfl dX11_looked_34 fl_X11_189 ?_
    refine tj_i2l rfl dX11_looked_37 ?_
    refine tj_iload_n rfl dX11_looked_38 rfl ?_
    refine tj_i2l rfl dX11_looked_39 ?_
    refine tj_iload_n rfl dX11_looked_40 rfl ?_
    refine tj_i2l rfl dX11_looked_41 ?_
    refine cf_S (z := kX11_in) (As := [_, _, _]) rfl dX11_looked_42 rfl ml_X11_146 okX11_in rfl (rm_ok rfl) (Nat.le_of_ble_eq_true rfl) (Nat.le_of_ble_eq_true rfl) rfl ?_
    refine ctX11_in h (fun r3 M1 t2 h => ?_)
    refine tj_iconst (v := 3) rfl dX11_looked_45 (by decide) ?_
    refine cf_V11 (a := 81) (z := kX11_needs) (As := [_, _]) rfl rfl dX11_looked_46 rfl ml_X11_192 okX11_needs rfl (rm_ok rfl) (Nat.le_of_ble_eq_true rfl) (Nat.le_of_ble_eq_true rfl) rfl rfl ?_
    refine ctX11_needs h (fun M4 t5 h => ?_)
    exact tj_pick (l' := [(0, _)]) [0] rfl (bX11_looked_49 hp  h)
def wX11_looked_21 (post : Int32 → MM → Int64 → Prop) (M : MM) (tl : Int64) (v1 : Int32) (v2 : Int32) (s1 : Int32) : Prop :=
  wpX11_needs (fun M1 t2 => wX11_looked_25 post  M1 t2 v1 v2) M tl s1 2
set_option maxHeartbeats 4000000 in
set_option maxRecDepth 20000 in
theorem bX11_looked_21 {E : EV} {ad : Nat → Nat} {M : MM} {tl : Int64} {Φ : Option Value → va_W → Prop} {post : Int32 → MM → Int64 → Prop} {v1 : Int32} {v2 : Int32} {s1 : Int32} (hp : ∀ r M tl, post r M tl → Φ (some (.int r)) (WM E ad M tl)) (h : wX11_looked_21 post M tl v1 v2 s1) : T E kX11_looked 0 0 (WM E ad M tl) 21 [(0, .ref (ad (81))), (1, .int v1), (2, .int v2)] [.int s1, .ref (ad (81))] Φ := by
  unfold wX11_looked_21 at h
  refine tj_iconst (v := 2) rfl dX11_looked_21 (by decide) ?_
  refine cf_V11 (a := 81) (z := kX11_needs) (As := [_, _]) rfl rfl dX11_looked_22 rfl ml_X11_192 okX11_needs rfl (rm_ok rfl) (Nat.le_of_ble_eq_true rfl) (Nat.le_of_ble_eq_true rfl) rfl rfl ?_
  refine ctX11_needs h (fun M1 t2 h => ?_)
  exact bX11_looked_25 hp  h
def wpX11_looked (post : Int32 → MM → Int64 → Prop) (M : MM) (tl : Int64) (v1 : Int32) (v2 : Int32) : Prop :=
  (if (M 81 36) = 0 then (if (M 81 34) = 2 then wX11_looked_21 post  M tl v1 v2 1 else wX11_looked_21 post  M tl v1 v2 0) else wX11_looked_25 post  M tl v1 v2)
set_option maxHeartbeats 4000000 in
set_option maxRecDepth 20000 in
theorem ctX11_looked {E : EV} {ad : Nat → Nat} {M : MM} {tl : Int64} {Φ : Option Value → va_W → Prop} {post : Int32 → MM → Int64 → Prop} {v1 : Int32} {v2 : Int32} (h : wpX11_looked post M tl v1 v2) (hp : ∀ r M tl, post r M tl → Φ (some (.int r)) (WM E ad M tl)) : Tm E kX11_looked (WM E ad M tl) [.ref (ad (81)), .int v1, .int v2] Φ := by
  unfold wpX11_looked at h
  show T E kX11_looked 0 0 (WM E ad M tl) 0 [(0, .ref (ad (81))), (1, .int v1), (2, .int v2)] [] Φ
  refine tj_aload_n rfl dX11_looked_0 rfl ?_
  refine gf11_fault (a := 81) rfl rfl dX11_looked_1 fl_X11_150 ?_
  refine tj_if_ne (tgt := 25) rfl rfl dX11_looked_4 (fun hc => ?_) (fun hc => ?_)
  · rw [if_neg hc] at h
    exact bX11_looked_25 hp  h
  · rw [if_pos hc] at h
    refine tj_aload_n rfl dX11_looked_7 rfl ?_
    refine tj_aload_n rfl dX11_looked_8 rfl ?_
    refine gf11_sort (a := 81) rfl rfl dX11_looked_9 fl_X11_178 ?_
    refine tj_iconst (v := 2) rfl dX11_looked_12 (by decide) ?_
    refine tj_icmp_ne (tgt := 20) rfl rfl dX11_looked_13 (fun hc => ?_) (fun hc => ?_)
    · rw [if_neg hc] at h
      refine tj_iconst (v := 0) rfl dX11_looked_20 (by decide) ?_
      exact bX11_looked_21 hp  h
    · rw [if_pos hc] at h
      refine tj_iconst (v := 1) rfl dX11_looked_16 (by decide) ?_
      refine tj_goto (tgt := 21) rfl dX11_looked_17 ?_
      exact bX11_looked_21 hp  h
def wpX11_readNumber (post : Int32 → MM → Int64 → Prop) (M : MM) (tl : Int64) (v1 : Int32) (v2 : Int32) : Prop :=
  wpX11_looked (fun r3 M1 t2 => wpX11_next (fun M4 t5 => post r3 M4 t5) M1 t2 ) M tl v1 v2
set_option maxHeartbeats 4000000 in
set_option maxRecDepth 20000 in
theorem ctX11_readNumber {E : EV} {ad : Nat → Nat} {M : MM} {tl : Int64} {Φ : Option Value → va_W → Prop} {post : Int32 → MM → Int64 → Prop} {v1 : Int32} {v2 : Int32} (h : wpX11_readNumber post M tl v1 v2) (hp : ∀ r M tl, post r M tl → Φ (some (.int r)) (WM E ad M tl)) : Tm E kX11_readNumber (WM E ad M tl) [.ref (ad (81)), .int v1, .int v2] Φ := by
  unfold wpX11_readNumber at h
  show T E kX11_readNumber 0 0 (WM E ad M tl) 0 [(0, .ref (ad (81))), (1, .int v1), (2, .int v2)] [] Φ
  refine tj_aload_n rfl dX11_readNumber_0 rfl ?_
  refine tj_iload_n rfl dX11_readNumber_1 rfl ?_
  refine tj_iload_n rfl dX11_readNumber_2 rfl ?_
  refine cf_V11 (a := 81) (z := kX11_looked) (As := [_, _]) rfl rfl dX11_readNumber_3 rfl ml_X11_196 okX11_looked rfl (rm_ok rfl) (Nat.le_of_ble_eq_true rfl) (Nat.le_of_ble_eq_true rfl) rfl rfl ?_
  refine ctX11_looked h (fun r3 M1 t2 h => ?_)
  refine tj_istore_n (l' := [(0, _), (1, _), (2, _), (3, _)]) rfl dX11_readNumber_6 (by decide) rfl ?_
  refine tj_aload_n rfl dX11_readNumber_7 rfl ?_
  refine cf_V11 (a := 81) (z := kX11_next) (As := []) rfl rfl dX11_readNumber_8 rfl ml_X11_200 okX11_next rfl (rm_ok rfl) (Nat.le_of_ble_eq_true rfl) (Nat.le_of_ble_eq_true rfl) rfl rfl ?_
  refine ctX11_next h (fun M4 t5 h => ?_)
  refine tj_iload_n rfl dX11_readNumber_11 rfl ?_
  exact tj_ireturn (ty := .int) dX11_readNumber_12 rfl rfl (Nat.zero_le _) (Nat.zero_le _) (hp _ _ _ h)
def wX11_readLot_25 (post : Int32 → MM → Int64 → Prop) (M : MM) (tl : Int64) (v1 : Int32) (s1 : Int32) : Prop :=
  (∀ M1 : MM, M1 = mset M 81 29 s1 → post v1 M1 tl)
set_option maxHeartbeats 4000000 in
set_option maxRecDepth 20000 in
theorem bX11_readLot_25 {E : EV} {ad : Nat → Nat} {M : MM} {tl : Int64} {Φ : Option Value → va_W → Prop} {post : Int32 → MM → Int64 → Prop} {v1 : Int32} {s1 : Int32} (hp : ∀ r M tl, post r M tl → Φ (some (.int r)) (WM E ad M tl)) (h : wX11_readLot_25 post M tl v1 s1) : T E kX11_readLot 0 0 (WM E ad M tl) 25 [(1, .int v1)] [.int s1, .ref (ad (81))] Φ := by
  unfold wX11_readLot_25 at h
  refine pf11_highestLot (a := 81) rfl rfl dX11_readLot_25 fl_X11_126 ?_
  replace h := h _ rfl
  generalize mset M 81 29 s1 = M1 at h ⊢
  refine tj_iload_n rfl dX11_readLot_28 rfl ?_
  exact tj_ireturn (ty := .int) dX11_readLot_29 rfl rfl (Nat.zero_le _) (Nat.zero_le _) (hp _ _ _ h)
def wpX11_readLot (post : Int32 → MM → Int64 → Prop) (M : MM) (tl : Int64) : Prop :=
  wpX11_readNumber (fun r3 M1 t2 => (if r3 ≤ (M1 81 29) then wX11_readLot_25 post  M1 t2 r3 (M1 81 29) else wX11_readLot_25 post  M1 t2 r3 r3)) M tl 0 7
set_option maxHeartbeats 4000000 in
set_option maxRecDepth 20000 in
theorem ctX11_readLot {E : EV} {ad : Nat → Nat} {M : MM} {tl : Int64} {Φ : Option Value → va_W → Prop} {post : Int32 → MM → Int64 → Prop} (h : wpX11_readLot post M tl ) (hp : ∀ r M tl, post r M tl → Φ (some (.int r)) (WM E ad M tl)) : Tm E kX11_readLot (WM E ad M tl) [.ref (ad (81))] Φ := by
  unfold wpX11_readLot at h
  show T E kX11_readLot 0 0 (WM E ad M tl) 0 [(0, .ref (ad (81)))] [] Φ
  refine tj_aload_n rfl dX11_readLot_0 rfl ?_
  refine tj_iconst (v := 0) rfl dX11_readLot_1 (by decide) ?_
  refine tj_bipush (v := 7) rfl dX11_readLot_2 (by decide) ?_
  refine cf_V11 (a := 81) (z := kX11_readNumber) (As := [_, _]) rfl rfl dX11_readLot_4 rfl ml_X11_203 okX11_readNumber rfl (rm_ok rfl) (Nat.le_of_ble_eq_true rfl) (Nat.le_of_ble_eq_true rfl) rfl rfl ?_
  refine ctX11_readNumber h (fun r3 M1 t2 h => ?_)
  refine tj_istore_n (l' := [(0, _), (1, _)]) rfl dX11_readLot_7 (by decide) rfl ?_
  refine tj_aload_n rfl dX11_readLot_8 rfl ?_
  refine tj_iload_n rfl dX11_readLot_9 rfl ?_
  refine tj_aload_n rfl dX11_readLot_10 rfl ?_
  refine gf11_highestLot (a := 81) rfl rfl dX11_readLot_11 fl_X11_126 ?_
  refine tj_icmp_le (tgt := 21) rfl rfl dX11_readLot_14 (fun hc => ?_) (fun hc => ?_)
  · rw [if_pos hc] at h
    refine tj_aload_n rfl dX11_readLot_21 rfl ?_
    refine gf11_highestLot (a := 81) rfl rfl dX11_readLot_22 fl_X11_126 ?_
    exact tj_pick (l' := [(1, _)]) [1] rfl (bX11_readLot_25 hp  h)
  · rw [if_neg hc] at h
    refine tj_iload_n rfl dX11_readLot_17 rfl ?_
    refine tj_goto (tgt := 25) rfl dX11_readLot_18 ?_
    exact tj_pick (l' := [(1, _)]) [1] rfl (bX11_readLot_25 hp  h)
def wX11_readKind_61 (post : Int32 → MM → Int64 → Prop) (M : MM) (tl : Int64) (v2 : Int32) (s1 : Int32) : Prop :=
  wpX11_needs (fun M1 t2 => wpX11_next (fun M3 t4 => (if v2 = (-4) then post 0 M3 t4 else post v2 M3 t4)) M1 t2 ) M tl s1 4
set_option maxHeartbeats 4000000 in
set_option maxRecDepth 20000 in
theorem bX11_readKind_61 {E : EV} {ad : Nat → Nat} {M : MM} {tl : Int64} {Φ : Option Value → va_W → Prop} {post : Int32 → MM → Int64 → Prop} {v2 : Int32} {s1 : Int32} (hp : ∀ r M tl, post r M tl → Φ (some (.int r)) (WM E ad M tl)) (h : wX11_readKind_61 post M tl v2 s1) : T E kX11_readKind 0 0 (WM E ad M tl) 61 [(0, .ref (ad (81))), (2, .int v2)] [.int s1, .ref (ad (81))] Φ := by
  unfold wX11_readKind_61 at h
  refine tj_iconst (v := 4) rfl dX11_readKind_61 (by decide) ?_
  refine cf_V11 (a := 81) (z := kX11_needs) (As := [_, _]) rfl rfl dX11_readKind_62 rfl ml_X11_192 okX11_needs rfl (rm_ok rfl) (Nat.le_of_ble_eq_true rfl) (Nat.le_of_ble_eq_true rfl) rfl rfl ?_
  refine ctX11_needs h (fun M1 t2 h => ?_)
  refine tj_aload_n rfl dX11_readKind_65 rfl ?_
  refine cf_V11 (a := 81) (z := kX11_next) (As := []) rfl rfl dX11_readKind_66 rfl ml_X11_200 okX11_next rfl (rm_ok rfl) (Nat.le_of_ble_eq_true rfl) (Nat.le_of_ble_eq_true rfl) rfl rfl ?_
  refine ctX11_next h (fun M3 t4 h => ?_)
  refine tj_iload_n rfl dX11_readKind_69 rfl ?_
  refine tj_bipush (v := -4) rfl dX11_readKind_70 (by decide) ?_
  refine tj_icmp_ne (tgt := 79) rfl rfl dX11_readKind_72 (fun hc => ?_) (fun hc => ?_)
  · rw [if_neg hc] at h
    refine tj_iload_n rfl dX11_readKind_79 rfl ?_
    exact tj_ireturn (ty := .int) dX11_readKind_80 rfl rfl (Nat.zero_le _) (Nat.zero_le _) (hp _ _ _ h)
  · rw [if_pos hc] at h
    refine tj_iconst (v := 0) rfl dX11_readKind_75 (by decide) ?_
    refine tj_goto (tgt := 80) rfl dX11_readKind_76 ?_
    exact tj_ireturn (ty := .int) dX11_readKind_80 rfl rfl (Nat.zero_le _) (Nat.zero_le _) (hp _ _ _ h)
def wX11_readKind_56 (post : Int32 → MM → Int64 → Prop) (M : MM) (tl : Int64) (v2 : Int32) : Prop :=
  wX11_readKind_61 post  M tl v2 1
set_option maxHeartbeats 4000000 in
set_option maxRecDepth 20000 in
theorem bX11_readKind_56 {E : EV} {ad : Nat → Nat} {M : MM} {tl : Int64} {Φ : Option Value → va_W → Prop} {post : Int32 → MM → Int64 → Prop} {v2 : Int32} (hp : ∀ r M tl, post r M tl → Φ (some (.int r)) (WM E ad M tl)) (h : wX11_readKind_56 post M tl v2) : T E kX11_readKind 0 0 (WM E ad M tl) 56 [(0, .ref (ad (81))), (2, .int v2)] [.ref (ad (81))] Φ := by
  unfold wX11_readKind_56 at h
  refine tj_iconst (v := 1) rfl dX11_readKind_56 (by decide) ?_
  refine tj_goto (tgt := 61) rfl dX11_readKind_57 ?_
  exact bX11_readKind_61 hp  h
def wX11_readKind_37 (post : Int32 → MM → Int64 → Prop) (M : MM) (tl : Int64) (v1 : Int32) (v2 : Int32) (s1 : Int32) : Prop :=
  wpX11_needs (fun M1 t2 => (if v2 = (-4) then wX11_readKind_56 post  M1 t2 v2 else (if ((v1 >>> (v2 &&& 31)) &&& 1) = 0 then wX11_readKind_56 post  M1 t2 v2 else wX11_readKind_61 post  M1 t2 v2 0))) M tl s1 2
set_option maxHeartbeats 4000000 in
set_option maxRecDepth 20000 in
theorem bX11_readKind_37 {E : EV} {ad : Nat → Nat} {M : MM} {tl : Int64} {Φ : Option Value → va_W → Prop} {post : Int32 → MM → Int64 → Prop} {v1 : Int32} {v2 : Int32} {s1 : Int32} (hp : ∀ r M tl, post r M tl → Φ (some (.int r)) (WM E ad M tl)) (h : wX11_readKind_37 post M tl v1 v2 s1) : T E kX11_readKind 0 0 (WM E ad M tl) 37 [(0, .ref (ad (81))), (1, .int v1), (2, .int v2)] [.int s1, .ref (ad (81))] Φ := by
  unfold wX11_readKind_37 at h
  refine tj_iconst (v := 2) rfl dX11_readKind_37 (by decide) ?_
  refine cf_V11 (a := 81) (z := kX11_needs) (As := [_, _]) rfl rfl dX11_readKind_38 rfl ml_X11_192 okX11_needs rfl (rm_ok rfl) (Nat.le_of_ble_eq_true rfl) (Nat.le_of_ble_eq_true rfl) rfl rfl ?_
  refine ctX11_needs h (fun M1 t2 h => ?_)
  refine tj_aload_n rfl dX11_readKind_41 rfl ?_
  refine tj_iload_n rfl dX11_readKind_42 rfl ?_
  refine tj_bipush (v := -4) rfl dX11_readKind_43 (by decide) ?_
  refine tj_icmp_eq (tgt := 56) rfl rfl dX11_readKind_45 (fun hc => ?_) (fun hc => ?_)
  · rw [if_pos hc] at h
    exact tj_pick (l' := [(0, _), (2, _)]) [0, 2] rfl (bX11_readKind_56 hp  h)
  · rw [if_neg hc] at h
    refine tj_iload_n rfl dX11_readKind_48 rfl ?_
    refine tj_iload_n rfl dX11_readKind_49 rfl ?_
    refine tj_ishr rfl dX11_readKind_50 ?_
    refine tj_iconst (v := 1) rfl dX11_readKind_51 (by decide) ?_
    refine tj_iand rfl dX11_readKind_52 ?_
    refine tj_if_ne (tgt := 60) rfl rfl dX11_readKind_53 (fun hc => ?_) (fun hc => ?_)
    · rw [if_neg hc] at h
      refine tj_iconst (v := 0) rfl dX11_readKind_60 (by decide) ?_
      exact tj_pick (l' := [(0, _), (2, _)]) [0, 2] rfl (bX11_readKind_61 hp  h)
    · rw [if_pos hc] at h
      exact tj_pick (l' := [(0, _), (2, _)]) [0, 2] rfl (bX11_readKind_56 hp  h)
def wX11_readKind_24 (post : Int32 → MM → Int64 → Prop) (M : MM) (tl : Int64) (v1 : Int32) (s0 : Int32) : Prop :=
  (if s0 = (-4) then wX11_readKind_37 post  M tl v1 s0 0 else wX11_readKind_37 post  M tl v1 s0 1)
set_option maxHeartbeats 4000000 in
set_option maxRecDepth 20000 in
theorem bX11_readKind_24 {E : EV} {ad : Nat → Nat} {M : MM} {tl : Int64} {Φ : Option Value → va_W → Prop} {post : Int32 → MM → Int64 → Prop} {v1 : Int32} {s0 : Int32} (hp : ∀ r M tl, post r M tl → Φ (some (.int r)) (WM E ad M tl)) (h : wX11_readKind_24 post M tl v1 s0) : T E kX11_readKind 0 0 (WM E ad M tl) 24 [(0, .ref (ad (81))), (1, .int v1)] [.int s0] Φ := by
  unfold wX11_readKind_24 at h
  refine tj_istore_n (l' := [(0, _), (1, _), (2, _)]) rfl dX11_readKind_24 (by decide) rfl ?_
  refine tj_aload_n rfl dX11_readKind_25 rfl ?_
  refine tj_iload_n rfl dX11_readKind_26 rfl ?_
  refine tj_bipush (v := -4) rfl dX11_readKind_27 (by decide) ?_
  refine tj_icmp_eq (tgt := 36) rfl rfl dX11_readKind_29 (fun hc => ?_) (fun hc => ?_)
  · rw [if_pos hc] at h
    refine tj_iconst (v := 0) rfl dX11_readKind_36 (by decide) ?_
    exact bX11_readKind_37 hp  h
  · rw [if_neg hc] at h
    refine tj_iconst (v := 1) rfl dX11_readKind_32 (by decide) ?_
    refine tj_goto (tgt := 37) rfl dX11_readKind_33 ?_
    exact bX11_readKind_37 hp  h
def wX11_readKind_22 (post : Int32 → MM → Int64 → Prop) (M : MM) (tl : Int64) (v1 : Int32) : Prop :=
  wX11_readKind_24 post  M tl v1 (-4)
set_option maxHeartbeats 4000000 in
set_option maxRecDepth 20000 in
theorem bX11_readKind_22 {E : EV} {ad : Nat → Nat} {M : MM} {tl : Int64} {Φ : Option Value → va_W → Prop} {post : Int32 → MM → Int64 → Prop} {v1 : Int32} (hp : ∀ r M tl, post r M tl → Φ (some (.int r)) (WM E ad M tl)) (h : wX11_readKind_22 post M tl v1) : T E kX11_readKind 0 0 (WM E ad M tl) 22 [(0, .ref (ad (81))), (1, .int v1)] [] Φ := by
  unfold wX11_readKind_22 at h
  refine tj_bipush (v := -4) rfl dX11_readKind_22 (by decide) ?_
  exact bX11_readKind_24 hp  h
def wpX11_readKind (post : Int32 → MM → Int64 → Prop) (M : MM) (tl : Int64) (v1 : Int32) : Prop :=
  (if (M 81 36) = 0 then (if (M 81 34) = 1 then wpX11_kindNow (fun r3 M1 t2 => wX11_readKind_24 post  M1 t2 v1 r3) M tl  else wX11_readKind_22 post  M tl v1) else wX11_readKind_22 post  M tl v1)
set_option maxHeartbeats 4000000 in
set_option maxRecDepth 20000 in
theorem ctX11_readKind {E : EV} {ad : Nat → Nat} {M : MM} {tl : Int64} {Φ : Option Value → va_W → Prop} {post : Int32 → MM → Int64 → Prop} {v1 : Int32} (h : wpX11_readKind post M tl v1) (hp : ∀ r M tl, post r M tl → Φ (some (.int r)) (WM E ad M tl)) : Tm E kX11_readKind (WM E ad M tl) [.ref (ad (81)), .int v1] Φ := by
  unfold wpX11_readKind at h
  show T E kX11_readKind 0 0 (WM E ad M tl) 0 [(0, .ref (ad (81))), (1, .int v1)] [] Φ
  refine tj_aload_n rfl dX11_readKind_0 rfl ?_
  refine gf11_fault (a := 81) rfl rfl dX11_readKind_1 fl_X11_150 ?_
  refine tj_if_ne (tgt := 22) rfl rfl dX11_readKind_4 (fun hc => ?_) (fun hc => ?_)
  · rw [if_neg hc] at h
    exact bX11_readKind_22 hp  h
  · rw [if_pos hc] at h
    refine tj_aload_n rfl dX11_readKind_7 rfl ?_
    refine gf11_sort (a := 81) rfl rfl dX11_readKind_8 fl_X11_178 ?_
    refine tj_iconst (v := 1) rfl dX11_readKind_11 (by decide) ?_
    refine tj_icmp_ne (tgt := 22) rfl rfl dX11_readKind_12 (fun hc => ?_) (fun hc => ?_)
    · rw [if_neg hc] at h
      exact bX11_readKind_22 hp  h
    · rw [if_pos hc] at h
      refine tj_aload_n rfl dX11_readKind_15 rfl ?_
      refine cf_V11 (a := 81) (z := kX11_kindNow) (As := []) rfl rfl dX11_readKind_16 rfl ml_X11_206 okX11_kindNow rfl (rm_ok rfl) (Nat.le_of_ble_eq_true rfl) (Nat.le_of_ble_eq_true rfl) rfl rfl ?_
      refine ctX11_kindNow h (fun r3 M1 t2 h => ?_)
      refine tj_goto (tgt := 24) rfl dX11_readKind_19 ?_
      exact bX11_readKind_24 hp  h
def wX11_readColour_32 (post : Int32 → MM → Int64 → Prop) (M : MM) (tl : Int64) (v2 : Int32) : Prop :=
  wpX11_next (fun M1 t2 => post v2 M1 t2) M tl 
set_option maxHeartbeats 4000000 in
set_option maxRecDepth 20000 in
theorem bX11_readColour_32 {E : EV} {ad : Nat → Nat} {M : MM} {tl : Int64} {Φ : Option Value → va_W → Prop} {post : Int32 → MM → Int64 → Prop} {v2 : Int32} (hp : ∀ r M tl, post r M tl → Φ (some (.int r)) (WM E ad M tl)) (h : wX11_readColour_32 post M tl v2) : T E kX11_readColour 0 0 (WM E ad M tl) 32 [(0, .ref (ad (81))), (2, .int v2)] [] Φ := by
  unfold wX11_readColour_32 at h
  refine tj_aload_n rfl dX11_readColour_32 rfl ?_
  refine cf_V11 (a := 81) (z := kX11_next) (As := []) rfl rfl dX11_readColour_33 rfl ml_X11_200 okX11_next rfl (rm_ok rfl) (Nat.le_of_ble_eq_true rfl) (Nat.le_of_ble_eq_true rfl) rfl rfl ?_
  refine ctX11_next h (fun M1 t2 h => ?_)
  refine tj_iload_n rfl dX11_readColour_36 rfl ?_
  exact tj_ireturn (ty := .int) dX11_readColour_37 rfl rfl (Nat.zero_le _) (Nat.zero_le _) (hp _ _ _ h)
def wX11_readColour_28 (post : Int32 → MM → Int64 → Prop) (M : MM) (tl : Int64) (v2 : Int32) (s1 : Int32) : Prop :=
  wpX11_needs (fun M1 t2 => wX11_readColour_32 post  M1 t2 v2) M tl s1 4
set_option maxHeartbeats 4000000 in
set_option maxRecDepth 20000 in
theorem bX11_readColour_28 {E : EV} {ad : Nat → Nat} {M : MM} {tl : Int64} {Φ : Option Value → va_W → Prop} {post : Int32 → MM → Int64 → Prop} {v2 : Int32} {s1 : Int32} (hp : ∀ r M tl, post r M tl → Φ (some (.int r)) (WM E ad M tl)) (h : wX11_readColour_28 post M tl v2 s1) : T E kX11_readColour 0 0 (WM E ad M tl) 28 [(0, .ref (ad (81))), (2, .int v2)] [.int s1, .ref (ad (81))] Φ := by
  unfold wX11_readColour_28 at h
  refine tj_iconst (v := 4) rfl dX11_readColour_28 (by decide) ?_
  refine cf_V11 (a := 81) (z := kX11_needs) (As := [_, _]) rfl rfl dX11_readColour_29 rfl ml_X11_192 okX11_needs rfl (rm_ok rfl) (Nat.le_of_ble_eq_true rfl) (Nat.le_of_ble_eq_true rfl) rfl rfl ?_
  refine ctX11_needs h (fun M1 t2 h => ?_)
  exact bX11_readColour_32 hp  h
def wpX11_readColour (post : Int32 → MM → Int64 → Prop) (M : MM) (tl : Int64) (v1 : Int32) : Prop :=
  wpX11_looked (fun r3 M1 t2 => (if (M1 81 36) = 0 then (if ((v1 >>> (r3 &&& 31)) &&& 1) = 0 then wX11_readColour_28 post  M1 t2 r3 1 else wX11_readColour_28 post  M1 t2 r3 0) else wX11_readColour_32 post  M1 t2 r3)) M tl 0 3
set_option maxHeartbeats 4000000 in
set_option maxRecDepth 20000 in
theorem ctX11_readColour {E : EV} {ad : Nat → Nat} {M : MM} {tl : Int64} {Φ : Option Value → va_W → Prop} {post : Int32 → MM → Int64 → Prop} {v1 : Int32} (h : wpX11_readColour post M tl v1) (hp : ∀ r M tl, post r M tl → Φ (some (.int r)) (WM E ad M tl)) : Tm E kX11_readColour (WM E ad M tl) [.ref (ad (81)), .int v1] Φ := by
  unfold wpX11_readColour at h
  show T E kX11_readColour 0 0 (WM E ad M tl) 0 [(0, .ref (ad (81))), (1, .int v1)] [] Φ
  refine tj_aload_n rfl dX11_readColour_0 rfl ?_
  refine tj_iconst (v := 0) rfl dX11_readColour_1 (by decide) ?_
  refine tj_iconst (v := 3) rfl dX11_readColour_2 (by decide) ?_
  refine cf_V11 (a := 81) (z := kX11_looked) (As := [_, _]) rfl rfl dX11_readColour_3 rfl ml_X11_196 okX11_looked rfl (rm_ok rfl) (Nat.le_of_ble_eq_true rfl) (Nat.le_of_ble_eq_true rfl) rfl rfl ?_
  refine ctX11_looked h (fun r3 M1 t2 h => ?_)
  refine tj_istore_n (l' := [(0, _), (1, _), (2, _)]) rfl dX11_readColour_6 (by decide) rfl ?_
  refine tj_aload_n rfl dX11_readColour_7 rfl ?_
  refine gf11_fault (a := 81) rfl rfl dX11_readColour_8 fl_X11_150 ?_
  refine tj_if_ne (tgt := 32) rfl rfl dX11_readColour_11 (fun hc => ?_) (fun hc => ?_)
  · rw [if_neg hc] at h
    exact tj_pick (l' := [(0, _), (2, _)]) [0, 2] rfl (bX11_readColour_32 hp  h)
  · rw [if_pos hc] at h
    refine tj_aload_n rfl dX11_readColour_14 rfl ?_
    refine tj_iload_n rfl dX11_readColour_15 rfl ?_
    refine tj_iload_n rfl dX11_readColour_16 rfl ?_
    refine tj_ishr rfl dX11_readColour_17 ?_
    refine tj_iconst (v := 1) rfl dX11_readColour_18 (by decide) ?_
    refine tj_iand rfl dX11_readColour_19 ?_
    refine tj_if_ne (tgt := 27) rfl rfl dX11_readColour_20 (fun hc => ?_) (fun hc => ?_)
    · rw [if_neg hc] at h
      refine tj_iconst (v := 0) rfl dX11_readColour_27 (by decide) ?_
      exact tj_pick (l' := [(0, _), (2, _)]) [0, 2] rfl (bX11_readColour_28 hp  h)
    · rw [if_pos hc] at h
      refine tj_iconst (v := 1) rfl dX11_readColour_23 (by decide) ?_
      refine tj_goto (tgt := 28) rfl dX11_readColour_24 ?_
      exact tj_pick (l' := [(0, _), (2, _)]) [0, 2] rfl (bX11_readColour_28 hp  h)
def wX11_readWhat_78 (post : Int32 → MM → Int64 → Prop) (M : MM) (tl : Int64) (v1 : Int32) (v2 : Int32) (v3 : Int32) (s1 : Int32) : Prop :=
  wpX11_needs (fun M1 t2 => wpX11_next (fun M3 t4 => (if (M3 81 36) ≤ 0 then post ((v1 + ((8 : Int32) * v2)) + ((32 : Int32) * v3)) M3 t4 else post 0 M3 t4)) M1 t2 ) M tl s1 2
set_option maxHeartbeats 4000000 in
set_option maxRecDepth 20000 in
theorem bX11_readWhat_78 {E : EV} {ad : Nat → Nat} {M : MM} {tl : Int64} {Φ : Option Value → va_W → Prop} {post : Int32 → MM → Int64 → Prop} {v1 : Int32} {v2 : Int32} {v3 : Int32} {s1 : Int32} (hp : ∀ r M tl, post r M tl → Φ (some (.int r)) (WM E ad M tl)) (h : wX11_readWhat_78 post M tl v1 v2 v3 s1) : T E kX11_readWhat 0 0 (WM E ad M tl) 78 [(0, .ref (ad (81))), (1, .int v1), (2, .int v2), (3, .int v3)] [.int s1, .ref (ad (81))] Φ := by
  unfold wX11_readWhat_78 at h
  refine tj_iconst (v := 2) rfl dX11_readWhat_78 (by decide) ?_
  refine cf_V11 (a := 81) (z := kX11_needs) (As := [_, _]) rfl rfl dX11_readWhat_79 rfl ml_X11_192 okX11_needs rfl (rm_ok rfl) (Nat.le_of_ble_eq_true rfl) (Nat.le_of_ble_eq_true rfl) rfl rfl ?_
  refine ctX11_needs h (fun M1 t2 h => ?_)
  refine tj_aload_n rfl dX11_readWhat_82 rfl ?_
  refine cf_V11 (a := 81) (z := kX11_next) (As := []) rfl rfl dX11_readWhat_83 rfl ml_X11_200 okX11_next rfl (rm_ok rfl) (Nat.le_of_ble_eq_true rfl) (Nat.le_of_ble_eq_true rfl) rfl rfl ?_
  refine ctX11_next h (fun M3 t4 h => ?_)
  refine tj_aload_n rfl dX11_readWhat_86 rfl ?_
  refine gf11_fault (a := 81) rfl rfl dX11_readWhat_87 fl_X11_150 ?_
  refine tj_if_le (tgt := 97) rfl rfl dX11_readWhat_90 (fun hc => ?_) (fun hc => ?_)
  · rw [if_pos hc] at h
    refine tj_iload_n rfl dX11_readWhat_97 rfl ?_
    refine tj_bipush (v := 8) rfl dX11_readWhat_98 (by decide) ?_
    refine tj_iload_n rfl dX11_readWhat_100 rfl ?_
    refine tj_imul rfl dX11_readWhat_101 ?_
    refine tj_iadd rfl dX11_readWhat_102 ?_
    refine tj_bipush (v := 32) rfl dX11_readWhat_103 (by decide) ?_
    refine tj_iload_n rfl dX11_readWhat_105 rfl ?_
    refine tj_imul rfl dX11_readWhat_106 ?_
    refine tj_iadd rfl dX11_readWhat_107 ?_
    exact tj_ireturn (ty := .int) dX11_readWhat_108 rfl rfl (Nat.zero_le _) (Nat.zero_le _) (hp _ _ _ h)
  · rw [if_neg hc] at h
    refine tj_iconst (v := 0) rfl dX11_readWhat_93 (by decide) ?_
    refine tj_goto (tgt := 108) rfl dX11_readWhat_94 ?_
    exact tj_ireturn (ty := .int) dX11_readWhat_108 rfl rfl (Nat.zero_le _) (Nat.zero_le _) (hp _ _ _ h)
def wX11_readWhat_65 (post : Int32 → MM → Int64 → Prop) (M : MM) (tl : Int64) (v1 : Int32) (v2 : Int32) (s0 : Int32) : Prop :=
  (if s0 = (-4) then wX11_readWhat_78 post  M tl v1 v2 s0 0 else wX11_readWhat_78 post  M tl v1 v2 s0 1)
set_option maxHeartbeats 4000000 in
set_option maxRecDepth 20000 in
theorem bX11_readWhat_65 {E : EV} {ad : Nat → Nat} {M : MM} {tl : Int64} {Φ : Option Value → va_W → Prop} {post : Int32 → MM → Int64 → Prop} {v1 : Int32} {v2 : Int32} {s0 : Int32} (hp : ∀ r M tl, post r M tl → Φ (some (.int r)) (WM E ad M tl)) (h : wX11_readWhat_65 post M tl v1 v2 s0) : T E kX11_readWhat 0 0 (WM E ad M tl) 65 [(0, .ref (ad (81))), (1, .int v1), (2, .int v2)] [.int s0] Φ := by
  unfold wX11_readWhat_65 at h
  refine tj_istore_n (l' := [(0, _), (1, _), (2, _), (3, _)]) rfl dX11_readWhat_65 (by decide) rfl ?_
  refine tj_aload_n rfl dX11_readWhat_66 rfl ?_
  refine tj_iload_n rfl dX11_readWhat_67 rfl ?_
  refine tj_bipush (v := -4) rfl dX11_readWhat_68 (by decide) ?_
  refine tj_icmp_eq (tgt := 77) rfl rfl dX11_readWhat_70 (fun hc => ?_) (fun hc => ?_)
  · rw [if_pos hc] at h
    refine tj_iconst (v := 0) rfl dX11_readWhat_77 (by decide) ?_
    exact bX11_readWhat_78 hp  h
  · rw [if_neg hc] at h
    refine tj_iconst (v := 1) rfl dX11_readWhat_73 (by decide) ?_
    refine tj_goto (tgt := 78) rfl dX11_readWhat_74 ?_
    exact bX11_readWhat_78 hp  h
def wX11_readWhat_63 (post : Int32 → MM → Int64 → Prop) (M : MM) (tl : Int64) (v1 : Int32) (v2 : Int32) : Prop :=
  wX11_readWhat_65 post  M tl v1 v2 (-4)
set_option maxHeartbeats 4000000 in
set_option maxRecDepth 20000 in
theorem bX11_readWhat_63 {E : EV} {ad : Nat → Nat} {M : MM} {tl : Int64} {Φ : Option Value → va_W → Prop} {post : Int32 → MM → Int64 → Prop} {v1 : Int32} {v2 : Int32} (hp : ∀ r M tl, post r M tl → Φ (some (.int r)) (WM E ad M tl)) (h : wX11_readWhat_63 post M tl v1 v2) : T E kX11_readWhat 0 0 (WM E ad M tl) 63 [(0, .ref (ad (81))), (1, .int v1), (2, .int v2)] [] Φ := by
  unfold wX11_readWhat_63 at h
  refine tj_bipush (v := -4) rfl dX11_readWhat_63 (by decide) ?_
  exact bX11_readWhat_65 hp  h
def wX11_readWhat_28 (post : Int32 → MM → Int64 → Prop) (M : MM) (tl : Int64) : Prop :=
  wpX11_readKind (fun r3 M1 t2 => wpX11_readNumber (fun r6 M4 t5 => (if (M4 81 36) = 0 then (if (M4 81 34) = 1 then wpX11_sideNow (fun r9 M7 t8 => wX11_readWhat_65 post  M7 t8 r3 r6 r9) M4 t5  else wX11_readWhat_63 post  M4 t5 r3 r6) else wX11_readWhat_63 post  M4 t5 r3 r6)) M1 t2 0 3) M tl 0
set_option maxHeartbeats 4000000 in
set_option maxRecDepth 20000 in
theorem bX11_readWhat_28 {E : EV} {ad : Nat → Nat} {M : MM} {tl : Int64} {Φ : Option Value → va_W → Prop} {post : Int32 → MM → Int64 → Prop} (hp : ∀ r M tl, post r M tl → Φ (some (.int r)) (WM E ad M tl)) (h : wX11_readWhat_28 post M tl ) : T E kX11_readWhat 0 0 (WM E ad M tl) 28 [(0, .ref (ad (81)))] [] Φ := by
  unfold wX11_readWhat_28 at h
  refine tj_aload_n rfl dX11_readWhat_28 rfl ?_
  refine tj_iconst (v := 0) rfl dX11_readWhat_29 (by decide) ?_
  refine cf_V11 (a := 81) (z := kX11_readKind) (As := [_]) rfl rfl dX11_readWhat_30 rfl ml_X11_213 okX11_readKind rfl (rm_ok rfl) (Nat.le_of_ble_eq_true rfl) (Nat.le_of_ble_eq_true rfl) rfl rfl ?_
  refine ctX11_readKind h (fun r3 M1 t2 h => ?_)
  refine tj_istore_n (l' := [(0, _), (1, _)]) rfl dX11_readWhat_33 (by decide) rfl ?_
  refine tj_aload_n rfl dX11_readWhat_34 rfl ?_
  refine tj_iconst (v := 0) rfl dX11_readWhat_35 (by decide) ?_
  refine tj_iconst (v := 3) rfl dX11_readWhat_36 (by decide) ?_
  refine cf_V11 (a := 81) (z := kX11_readNumber) (As := [_, _]) rfl rfl dX11_readWhat_37 rfl ml_X11_203 okX11_readNumber rfl (rm_ok rfl) (Nat.le_of_ble_eq_true rfl) (Nat.le_of_ble_eq_true rfl) rfl rfl ?_
  refine ctX11_readNumber h (fun r6 M4 t5 h => ?_)
  refine tj_istore_n (l' := [(0, _), (1, _), (2, _)]) rfl dX11_readWhat_40 (by decide) rfl ?_
  refine tj_aload_n rfl dX11_readWhat_41 rfl ?_
  refine gf11_fault (a := 81) rfl rfl dX11_readWhat_42 fl_X11_150 ?_
  refine tj_if_ne (tgt := 63) rfl rfl dX11_readWhat_45 (fun hc => ?_) (fun hc => ?_)
  · rw [if_neg hc] at h
    exact bX11_readWhat_63 hp  h
  · rw [if_pos hc] at h
    refine tj_aload_n rfl dX11_readWhat_48 rfl ?_
    refine gf11_sort (a := 81) rfl rfl dX11_readWhat_49 fl_X11_178 ?_
    refine tj_iconst (v := 1) rfl dX11_readWhat_52 (by decide) ?_
    refine tj_icmp_ne (tgt := 63) rfl rfl dX11_readWhat_53 (fun hc => ?_) (fun hc => ?_)
    · rw [if_neg hc] at h
      exact bX11_readWhat_63 hp  h
    · rw [if_pos hc] at h
      refine tj_aload_n rfl dX11_readWhat_56 rfl ?_
      refine cf_V11 (a := 81) (z := kX11_sideNow) (As := []) rfl rfl dX11_readWhat_57 rfl ml_X11_216 okX11_sideNow rfl (rm_ok rfl) (Nat.le_of_ble_eq_true rfl) (Nat.le_of_ble_eq_true rfl) rfl rfl ?_
      refine ctX11_sideNow h (fun r9 M7 t8 h => ?_)
      refine tj_goto (tgt := 65) rfl dX11_readWhat_60 ?_
      exact bX11_readWhat_65 hp  h
def wpX11_readWhat (post : Int32 → MM → Int64 → Prop) (M : MM) (tl : Int64) : Prop :=
  (if (M 81 36) = 0 then (if (M 81 34) = 1 then wpX11_isNothing (fun r3 M1 t2 => (if r3 = 0 then wX11_readWhat_28 post  M1 t2 else wpX11_next (fun M4 t5 => post 0 M4 t5) M1 t2 )) M tl  else wX11_readWhat_28 post  M tl) else wX11_readWhat_28 post  M tl)
set_option maxHeartbeats 4000000 in
set_option maxRecDepth 20000 in
theorem ctX11_readWhat {E : EV} {ad : Nat → Nat} {M : MM} {tl : Int64} {Φ : Option Value → va_W → Prop} {post : Int32 → MM → Int64 → Prop} (h : wpX11_readWhat post M tl ) (hp : ∀ r M tl, post r M tl → Φ (some (.int r)) (WM E ad M tl)) : Tm E kX11_readWhat (WM E ad M tl) [.ref (ad (81))] Φ := by
  unfold wpX11_readWhat at h
  show T E kX11_readWhat 0 0 (WM E ad M tl) 0 [(0, .ref (ad (81)))] [] Φ
  refine tj_aload_n rfl dX11_readWhat_0 rfl ?_
  refine gf11_fault (a := 81) rfl rfl dX11_readWhat_1 fl_X11_150 ?_
  refine tj_if_ne (tgt := 28) rfl rfl dX11_readWhat_4 (fun hc => ?_) (fun hc => ?_)
  · rw [if_neg hc] at h
    exact bX11_readWhat_28 hp  h
  · rw [if_pos hc] at h
    refine tj_aload_n rfl dX11_readWhat_7 rfl ?_
    refine gf11_sort (a := 81) rfl rfl dX11_readWhat_8 fl_X11_178 ?_
    refine tj_iconst (v := 1) rfl dX11_readWhat_11 (by decide) ?_
    refine tj_icmp_ne (tgt := 28) rfl rfl dX11_readWhat_12 (fun hc => ?_) (fun hc => ?_)
    · rw [if_neg hc] at h
      exact bX11_readWhat_28 hp  h
    · rw [if_pos hc] at h
      refine tj_aload_n rfl dX11_readWhat_15 rfl ?_
      refine cf_V11 (a := 81) (z := kX11_isNothing) (As := []) rfl rfl dX11_readWhat_16 rfl ml_X11_209 okX11_isNothing rfl (rm_ok rfl) (Nat.le_of_ble_eq_true rfl) (Nat.le_of_ble_eq_true rfl) rfl rfl ?_
      refine ctX11_isNothing h (fun r3 M1 t2 h => ?_)
      refine tj_if_eq (tgt := 28) rfl rfl dX11_readWhat_19 (fun hc => ?_) (fun hc => ?_)
      · rw [if_pos hc] at h
        exact bX11_readWhat_28 hp  h
      · rw [if_neg hc] at h
        refine tj_aload_n rfl dX11_readWhat_22 rfl ?_
        refine cf_V11 (a := 81) (z := kX11_next) (As := []) rfl rfl dX11_readWhat_23 rfl ml_X11_200 okX11_next rfl (rm_ok rfl) (Nat.le_of_ble_eq_true rfl) (Nat.le_of_ble_eq_true rfl) rfl rfl ?_
        refine ctX11_next h (fun M4 t5 h => ?_)
        refine tj_iconst (v := 0) rfl dX11_readWhat_26 (by decide) ?_
        exact tj_ireturn (ty := .int) dX11_readWhat_27 rfl rfl (Nat.zero_le _) (Nat.zero_le _) (hp _ _ _ h)
def wX11_readCosts_140 (post : MM → Int64 → Prop) (bk92 : MM → Int64 → Int32 → Int32 → Int32 → Prop) (M : MM) (tl : Int64) (v1 : Int32) (v2 : Int32) (v3 : Int32) : Prop :=
  bk92 M tl v1 v2 (v3 + 1)
set_option maxHeartbeats 4000000 in
set_option maxRecDepth 20000 in
theorem bX11_readCosts_140 {E : EV} {ad : Nat → Nat} {M : MM} {tl : Int64} {Φ : Option Value → va_W → Prop} {post : MM → Int64 → Prop} {bk92 : MM → Int64 → Int32 → Int32 → Int32 → Prop} {v1 : Int32} {v2 : Int32} {v3 : Int32} (hp : ∀ M tl, post M tl → Φ none (WM E ad M tl)) (hb92 : ∀ (M : MM) (tl : Int64) (v1 : Int32) (v2 : Int32) (v3 : Int32), bk92 M tl v1 v2 v3 → T E kX11_readCosts 0 0 (WM E ad M tl) 92 [(0, .ref (ad (81))), (1, .int v1), (2, .int v2), (3, .int v3)] [] Φ) (h : wX11_readCosts_140 post bk92 M tl v1 v2 v3) : T E kX11_readCosts 0 0 (WM E ad M tl) 140 [(0, .ref (ad (81))), (1, .int v1), (2, .int v2), (3, .int v3)] [] Φ := by
  unfold wX11_readCosts_140 at h
  refine tj_iinc (v := _ + 1) (l' := [(0, _), (1, _), (2, _), (3, _)]) rfl dX11_readCosts_140 rfl (by decide) rfl rfl ?_
  refine tj_goto (tgt := 92) rfl dX11_readCosts_143 ?_
  exact hb92 _ _ _ _ _ h
def wX11_readCosts_92 (post : MM → Int64 → Prop) : Nat → MM → Int64 → Int32 → Int32 → Int32 → Prop
  | 0, _, _, _, _, _ => False
  | n + 1, M, tl, v1, v2, v3 =>
    (if 6 ≤ v3 then post M tl else wpX11_readNumber (fun r3 M1 t2 => (if v1 = 0 then (vp_in (((6 : Int32) * v2) + v3) (al 93) ∧ (∀ M5 : MM, M5 = mset M1 93 (((6 : Int32) * v2) + v3 : Int32).toNatClampNeg r3 → wX11_readCosts_140 post (wX11_readCosts_92 post n) M5 t2 v1 v2 v3)) else (vp_in (((6 : Int32) * v2) + v3) (al 92) ∧ (∀ M7 : MM, M7 = mset M1 92 (((6 : Int32) * v2) + v3 : Int32).toNatClampNeg r3 → wX11_readCosts_140 post (wX11_readCosts_92 post n) M7 t2 v1 v2 v3)))) M tl 0 20)
set_option maxHeartbeats 4000000 in
set_option maxRecDepth 20000 in
theorem bX11_readCosts_92 {E : EV} {ad : Nat → Nat} {Φ : Option Value → va_W → Prop} {post : MM → Int64 → Prop}  (hp : ∀ M tl, post M tl → Φ none (WM E ad M tl)) : ∀ (n : Nat) (M : MM) (tl : Int64) (v1 : Int32) (v2 : Int32) (v3 : Int32), wX11_readCosts_92 post n M tl v1 v2 v3 → T E kX11_readCosts 0 0 (WM E ad M tl) 92 [(0, .ref (ad (81))), (1, .int v1), (2, .int v2), (3, .int v3)] [] Φ := by
  intro n
  induction n with
  | zero => intro M tl v1 v2 v3 h; exact False.elim h
  | succ n ih =>
    intro M tl v1 v2 v3 h
    unfold wX11_readCosts_92 at h
    refine tj_iload_n rfl dX11_readCosts_92 rfl ?_
    refine tj_bipush (v := 6) rfl dX11_readCosts_93 (by decide) ?_
    refine tj_icmp_ge (tgt := 146) rfl rfl dX11_readCosts_95 (fun hc => ?_) (fun hc => ?_)
    · rw [if_pos hc] at h
      exact tj_return dX11_readCosts_146 rfl (Nat.zero_le _) (Nat.zero_le _) (hp _ _ h)
    · rw [if_neg hc] at h
      refine tj_aload_n rfl dX11_readCosts_98 rfl ?_
      refine tj_iconst (v := 0) rfl dX11_readCosts_99 (by decide) ?_
      refine tj_bipush (v := 20) rfl dX11_readCosts_100 (by decide) ?_
      refine cf_V11 (a := 81) (z := kX11_readNumber) (As := [_, _]) rfl rfl dX11_readCosts_102 rfl ml_X11_203 okX11_readNumber rfl (rm_ok rfl) (Nat.le_of_ble_eq_true rfl) (Nat.le_of_ble_eq_true rfl) rfl rfl ?_
      refine ctX11_readNumber h (fun r3 M1 t2 h => ?_)
      refine tj_istore (l' := [(0, _), (1, _), (2, _), (3, _), (4, _)]) rfl dX11_readCosts_105 (by decide) rfl ?_
      refine tj_iload_n rfl dX11_readCosts_107 rfl ?_
      refine tj_if_eq (tgt := 127) rfl rfl dX11_readCosts_108 (fun hc => ?_) (fun hc => ?_)
      · rw [if_pos hc] at h
        refine tj_aload_n rfl dX11_readCosts_127 rfl ?_
        refine gf11_dTaste (a := 81) rfl rfl dX11_readCosts_128 fl_X11_44 ?_
        refine tj_bipush (v := 6) rfl dX11_readCosts_131 (by decide) ?_
        refine tj_iload_n rfl dX11_readCosts_133 rfl ?_
        refine tj_imul rfl dX11_readCosts_134 ?_
        refine tj_iload_n rfl dX11_readCosts_135 rfl ?_
        refine tj_iadd rfl dX11_readCosts_136 ?_
        refine tj_iload rfl dX11_readCosts_137 rfl ?_
        obtain ⟨hi4, h⟩ := h
        refine af_iast (a := 93) rfl rfl dX11_readCosts_139 hi4 ?_
        replace h := h _ rfl
        generalize mset M1 93 (((6 : Int32) * v2) + v3 : Int32).toNatClampNeg r3 = M5 at h ⊢
        exact tj_pick (l' := [(0, _), (1, _), (2, _), (3, _)]) [0, 1, 2, 3] rfl (bX11_readCosts_140 hp ih h)
      · rw [if_neg hc] at h
        refine tj_aload_n rfl dX11_readCosts_111 rfl ?_
        refine gf11_dCost (a := 81) rfl rfl dX11_readCosts_112 fl_X11_41 ?_
        refine tj_bipush (v := 6) rfl dX11_readCosts_115 (by decide) ?_
        refine tj_iload_n rfl dX11_readCosts_117 rfl ?_
        refine tj_imul rfl dX11_readCosts_118 ?_
        refine tj_iload_n rfl dX11_readCosts_119 rfl ?_
        refine tj_iadd rfl dX11_readCosts_120 ?_
        refine tj_iload rfl dX11_readCosts_121 rfl ?_
        obtain ⟨hi6, h⟩ := h
        refine af_iast (a := 92) rfl rfl dX11_readCosts_123 hi6 ?_
        replace h := h _ rfl
        generalize mset M1 92 (((6 : Int32) * v2) + v3 : Int32).toNatClampNeg r3 = M7 at h ⊢
        refine tj_goto (tgt := 140) rfl dX11_readCosts_124 ?_
        exact tj_pick (l' := [(0, _), (1, _), (2, _), (3, _)]) [0, 1, 2, 3] rfl (bX11_readCosts_140 hp ih h)
def wX11_readCosts_82 (post : MM → Int64 → Prop) (M : MM) (tl : Int64) (v1 : Int32) (v2 : Int32) (s1 : Int32) (s2 : Int32) : Prop :=
  (∀ M1 : MM, M1 = mset M 81 26 (s1 ||| s2) → wpX11_next (fun M2 t3 => (∃ n9, wX11_readCosts_92 post  n9 M2 t3 v1 v2 1)) M1 tl )
set_option maxHeartbeats 4000000 in
set_option maxRecDepth 20000 in
theorem bX11_readCosts_82 {E : EV} {ad : Nat → Nat} {M : MM} {tl : Int64} {Φ : Option Value → va_W → Prop} {post : MM → Int64 → Prop} {v1 : Int32} {v2 : Int32} {s1 : Int32} {s2 : Int32} (hp : ∀ M tl, post M tl → Φ none (WM E ad M tl)) (h : wX11_readCosts_82 post M tl v1 v2 s1 s2) : T E kX11_readCosts 0 0 (WM E ad M tl) 82 [(0, .ref (ad (81))), (1, .int v1), (2, .int v2)] [.int s2, .int s1, .ref (ad (81))] Φ := by
  unfold wX11_readCosts_82 at h
  refine tj_ior rfl dX11_readCosts_82 ?_
  refine pf11_toldTastes (a := 81) rfl rfl dX11_readCosts_83 fl_X11_117 ?_
  replace h := h _ rfl
  generalize mset M 81 26 (s1 ||| s2) = M1 at h ⊢
  refine tj_aload_n rfl dX11_readCosts_86 rfl ?_
  refine cf_V11 (a := 81) (z := kX11_next) (As := []) rfl rfl dX11_readCosts_87 rfl ml_X11_200 okX11_next rfl (rm_ok rfl) (Nat.le_of_ble_eq_true rfl) (Nat.le_of_ble_eq_true rfl) rfl rfl ?_
  refine ctX11_next h (fun M2 t3 h => ?_)
  refine tj_iconst (v := 1) rfl dX11_readCosts_90 (by decide) ?_
  refine tj_istore_n (l' := [(0, _), (1, _), (2, _), (3, _)]) rfl dX11_readCosts_91 (by decide) rfl ?_
  obtain ⟨n9, h⟩ := h
  exact bX11_readCosts_92 hp  n9 _ _ _ _ _ h
def wX11_readCosts_62 (post : MM → Int64 → Prop) (M : MM) (tl : Int64) (v1 : Int32) (v2 : Int32) (s1 : Int32) (s2 : Int32) : Prop :=
  (∀ M1 : MM, M1 = mset M 81 25 (s1 ||| s2) → (if v1 = 0 then wX11_readCosts_82 post  M1 tl v1 v2 (M1 81 26) ((1 : Int32) <<< (v2 &&& 31)) else wX11_readCosts_82 post  M1 tl v1 v2 (M1 81 26) 0))
set_option maxHeartbeats 4000000 in
set_option maxRecDepth 20000 in
theorem bX11_readCosts_62 {E : EV} {ad : Nat → Nat} {M : MM} {tl : Int64} {Φ : Option Value → va_W → Prop} {post : MM → Int64 → Prop} {v1 : Int32} {v2 : Int32} {s1 : Int32} {s2 : Int32} (hp : ∀ M tl, post M tl → Φ none (WM E ad M tl)) (h : wX11_readCosts_62 post M tl v1 v2 s1 s2) : T E kX11_readCosts 0 0 (WM E ad M tl) 62 [(0, .ref (ad (81))), (1, .int v1), (2, .int v2)] [.int s2, .int s1, .ref (ad (81))] Φ := by
  unfold wX11_readCosts_62 at h
  refine tj_ior rfl dX11_readCosts_62 ?_
  refine pf11_toldCosts (a := 81) rfl rfl dX11_readCosts_63 fl_X11_114 ?_
  replace h := h _ rfl
  generalize mset M 81 25 (s1 ||| s2) = M1 at h ⊢
  refine tj_aload_n rfl dX11_readCosts_66 rfl ?_
  refine tj_dup rfl dX11_readCosts_67 rfl ?_
  refine gf11_toldTastes (a := 81) rfl rfl dX11_readCosts_68 fl_X11_117 ?_
  refine tj_iload_n rfl dX11_readCosts_71 rfl ?_
  refine tj_if_eq (tgt := 79) rfl rfl dX11_readCosts_72 (fun hc => ?_) (fun hc => ?_)
  · rw [if_pos hc] at h
    refine tj_iconst (v := 1) rfl dX11_readCosts_79 (by decide) ?_
    refine tj_iload_n rfl dX11_readCosts_80 rfl ?_
    refine tj_ishl rfl dX11_readCosts_81 ?_
    exact bX11_readCosts_82 hp  h
  · rw [if_neg hc] at h
    refine tj_iconst (v := 0) rfl dX11_readCosts_75 (by decide) ?_
    refine tj_goto (tgt := 82) rfl dX11_readCosts_76 ?_
    exact bX11_readCosts_82 hp  h
def wX11_readCosts_46 (post : MM → Int64 → Prop) (M : MM) (tl : Int64) (v1 : Int32) (v2 : Int32) : Prop :=
  (if v1 = 0 then wX11_readCosts_62 post  M tl v1 v2 (M 81 25) 0 else wX11_readCosts_62 post  M tl v1 v2 (M 81 25) ((1 : Int32) <<< (v2 &&& 31)))
set_option maxHeartbeats 4000000 in
set_option maxRecDepth 20000 in
theorem bX11_readCosts_46 {E : EV} {ad : Nat → Nat} {M : MM} {tl : Int64} {Φ : Option Value → va_W → Prop} {post : MM → Int64 → Prop} {v1 : Int32} {v2 : Int32} (hp : ∀ M tl, post M tl → Φ none (WM E ad M tl)) (h : wX11_readCosts_46 post M tl v1 v2) : T E kX11_readCosts 0 0 (WM E ad M tl) 46 [(0, .ref (ad (81))), (1, .int v1), (2, .int v2)] [] Φ := by
  unfold wX11_readCosts_46 at h
  refine tj_aload_n rfl dX11_readCosts_46 rfl ?_
  refine tj_dup rfl dX11_readCosts_47 rfl ?_
  refine gf11_toldCosts (a := 81) rfl rfl dX11_readCosts_48 fl_X11_114 ?_
  refine tj_iload_n rfl dX11_readCosts_51 rfl ?_
  refine tj_if_eq (tgt := 61) rfl rfl dX11_readCosts_52 (fun hc => ?_) (fun hc => ?_)
  · rw [if_pos hc] at h
    refine tj_iconst (v := 0) rfl dX11_readCosts_61 (by decide) ?_
    exact bX11_readCosts_62 hp  h
  · rw [if_neg hc] at h
    refine tj_iconst (v := 1) rfl dX11_readCosts_55 (by decide) ?_
    refine tj_iload_n rfl dX11_readCosts_56 rfl ?_
    refine tj_ishl rfl dX11_readCosts_57 ?_
    refine tj_goto (tgt := 62) rfl dX11_readCosts_58 ?_
    exact bX11_readCosts_62 hp  h
def wX11_readCosts_42 (post : MM → Int64 → Prop) (M : MM) (tl : Int64) (v1 : Int32) (v2 : Int32) (s1 : Int32) : Prop :=
  wpX11_needs (fun M1 t2 => wX11_readCosts_46 post  M1 t2 v1 v2) M tl s1 4
set_option maxHeartbeats 4000000 in
set_option maxRecDepth 20000 in
theorem bX11_readCosts_42 {E : EV} {ad : Nat → Nat} {M : MM} {tl : Int64} {Φ : Option Value → va_W → Prop} {post : MM → Int64 → Prop} {v1 : Int32} {v2 : Int32} {s1 : Int32} (hp : ∀ M tl, post M tl → Φ none (WM E ad M tl)) (h : wX11_readCosts_42 post M tl v1 v2 s1) : T E kX11_readCosts 0 0 (WM E ad M tl) 42 [(0, .ref (ad (81))), (1, .int v1), (2, .int v2)] [.int s1, .ref (ad (81))] Φ := by
  unfold wX11_readCosts_42 at h
  refine tj_iconst (v := 4) rfl dX11_readCosts_42 (by decide) ?_
  refine cf_V11 (a := 81) (z := kX11_needs) (As := [_, _]) rfl rfl dX11_readCosts_43 rfl ml_X11_192 okX11_needs rfl (rm_ok rfl) (Nat.le_of_ble_eq_true rfl) (Nat.le_of_ble_eq_true rfl) rfl rfl ?_
  refine ctX11_needs h (fun M1 t2 h => ?_)
  exact bX11_readCosts_46 hp  h
def wX11_readCosts_30 (post : MM → Int64 → Prop) (M : MM) (tl : Int64) (v1 : Int32) (v2 : Int32) (s1 : Int32) : Prop :=
  (if ((s1 >>> (v2 &&& 31)) &&& 1) = 0 then wX11_readCosts_42 post  M tl v1 v2 1 else wX11_readCosts_42 post  M tl v1 v2 0)
set_option maxHeartbeats 4000000 in
set_option maxRecDepth 20000 in
theorem bX11_readCosts_30 {E : EV} {ad : Nat → Nat} {M : MM} {tl : Int64} {Φ : Option Value → va_W → Prop} {post : MM → Int64 → Prop} {v1 : Int32} {v2 : Int32} {s1 : Int32} (hp : ∀ M tl, post M tl → Φ none (WM E ad M tl)) (h : wX11_readCosts_30 post M tl v1 v2 s1) : T E kX11_readCosts 0 0 (WM E ad M tl) 30 [(0, .ref (ad (81))), (1, .int v1), (2, .int v2)] [.int s1, .ref (ad (81))] Φ := by
  unfold wX11_readCosts_30 at h
  refine tj_iload_n rfl dX11_readCosts_30 rfl ?_
  refine tj_ishr rfl dX11_readCosts_31 ?_
  refine tj_iconst (v := 1) rfl dX11_readCosts_32 (by decide) ?_
  refine tj_iand rfl dX11_readCosts_33 ?_
  refine tj_if_ne (tgt := 41) rfl rfl dX11_readCosts_34 (fun hc => ?_) (fun hc => ?_)
  · rw [if_neg hc] at h
    refine tj_iconst (v := 0) rfl dX11_readCosts_41 (by decide) ?_
    exact bX11_readCosts_42 hp  h
  · rw [if_pos hc] at h
    refine tj_iconst (v := 1) rfl dX11_readCosts_37 (by decide) ?_
    refine tj_goto (tgt := 42) rfl dX11_readCosts_38 ?_
    exact bX11_readCosts_42 hp  h
def wpX11_readCosts (post : MM → Int64 → Prop) (M : MM) (tl : Int64) (v1 : Int32) : Prop :=
  wpX11_looked (fun r3 M1 t2 => (if (M1 81 36) = 0 then (if v1 = 0 then wX11_readCosts_30 post  M1 t2 v1 r3 (M1 81 26) else wX11_readCosts_30 post  M1 t2 v1 r3 (M1 81 25)) else wX11_readCosts_46 post  M1 t2 v1 r3)) M tl 0 1
set_option maxHeartbeats 4000000 in
set_option maxRecDepth 20000 in
theorem ctX11_readCosts {E : EV} {ad : Nat → Nat} {M : MM} {tl : Int64} {Φ : Option Value → va_W → Prop} {post : MM → Int64 → Prop} {v1 : Int32} (h : wpX11_readCosts post M tl v1) (hp : ∀ M tl, post M tl → Φ none (WM E ad M tl)) : Tm E kX11_readCosts (WM E ad M tl) [.ref (ad (81)), .int v1] Φ := by
  unfold wpX11_readCosts at h
  show T E kX11_readCosts 0 0 (WM E ad M tl) 0 [(0, .ref (ad (81))), (1, .int v1)] [] Φ
  refine tj_aload_n rfl dX11_readCosts_0 rfl ?_
  refine tj_iconst (v := 0) rfl dX11_readCosts_1 (by decide) ?_
  refine tj_iconst (v := 1) rfl dX11_readCosts_2 (by decide) ?_
  refine cf_V11 (a := 81) (z := kX11_looked) (As := [_, _]) rfl rfl dX11_readCosts_3 rfl ml_X11_196 okX11_looked rfl (rm_ok rfl) (Nat.le_of_ble_eq_true rfl) (Nat.le_of_ble_eq_true rfl) rfl rfl ?_
  refine ctX11_looked h (fun r3 M1 t2 h => ?_)
  refine tj_istore_n (l' := [(0, _), (1, _), (2, _)]) rfl dX11_readCosts_6 (by decide) rfl ?_
  refine tj_aload_n rfl dX11_readCosts_7 rfl ?_
  refine gf11_fault (a := 81) rfl rfl dX11_readCosts_8 fl_X11_150 ?_
  refine tj_if_ne (tgt := 46) rfl rfl dX11_readCosts_11 (fun hc => ?_) (fun hc => ?_)
  · rw [if_neg hc] at h
    exact bX11_readCosts_46 hp  h
  · rw [if_pos hc] at h
    refine tj_aload_n rfl dX11_readCosts_14 rfl ?_
    refine tj_iload_n rfl dX11_readCosts_15 rfl ?_
    refine tj_if_eq (tgt := 26) rfl rfl dX11_readCosts_16 (fun hc => ?_) (fun hc => ?_)
    · rw [if_pos hc] at h
      refine tj_aload_n rfl dX11_readCosts_26 rfl ?_
      refine gf11_toldTastes (a := 81) rfl rfl dX11_readCosts_27 fl_X11_117 ?_
      exact bX11_readCosts_30 hp  h
    · rw [if_neg hc] at h
      refine tj_aload_n rfl dX11_readCosts_19 rfl ?_
      refine gf11_toldCosts (a := 81) rfl rfl dX11_readCosts_20 fl_X11_114 ?_
      refine tj_goto (tgt := 30) rfl dX11_readCosts_23 ?_
      exact bX11_readCosts_30 hp  h
def wX11_readThing_48 (post : MM → Int64 → Prop) (M : MM) (tl : Int64) (v1 : Int32) (v2 : Int32) : Prop :=
  (∀ M1 : MM, M1 = mset M 81 24 ((M 81 24) ||| ((1 : Int32) <<< ((((8 : Int32) * v1) + v2) &&& 31))) → wpX11_readLot (fun r4 M2 t3 => wpX11_readWhat (fun r7 M5 t6 => (vp_in (((8 : Int32) * v1) + r4) (al 90) ∧ (∀ M9 : MM, M9 = mset M5 90 (((8 : Int32) * v1) + r4 : Int32).toNatClampNeg r7 → post M9 t6))) M2 t3 ) M1 tl )
set_option maxHeartbeats 4000000 in
set_option maxRecDepth 20000 in
theorem bX11_readThing_48 {E : EV} {ad : Nat → Nat} {M : MM} {tl : Int64} {Φ : Option Value → va_W → Prop} {post : MM → Int64 → Prop} {v1 : Int32} {v2 : Int32} (hp : ∀ M tl, post M tl → Φ none (WM E ad M tl)) (h : wX11_readThing_48 post M tl v1 v2) : T E kX11_readThing 0 0 (WM E ad M tl) 48 [(0, .ref (ad (81))), (1, .int v1), (2, .int v2)] [] Φ := by
  unfold wX11_readThing_48 at h
  refine tj_aload_n rfl dX11_readThing_48 rfl ?_
  refine tj_dup rfl dX11_readThing_49 rfl ?_
  refine gf11_toldThings (a := 81) rfl rfl dX11_readThing_50 fl_X11_111 ?_
  refine tj_iconst (v := 1) rfl dX11_readThing_53 (by decide) ?_
  refine tj_bipush (v := 8) rfl dX11_readThing_54 (by decide) ?_
  refine tj_iload_n rfl dX11_readThing_56 rfl ?_
  refine tj_imul rfl dX11_readThing_57 ?_
  refine tj_iload_n rfl dX11_readThing_58 rfl ?_
  refine tj_iadd rfl dX11_readThing_59 ?_
  refine tj_ishl rfl dX11_readThing_60 ?_
  refine tj_ior rfl dX11_readThing_61 ?_
  refine pf11_toldThings (a := 81) rfl rfl dX11_readThing_62 fl_X11_111 ?_
  replace h := h _ rfl
  generalize mset M 81 24 ((M 81 24) ||| ((1 : Int32) <<< ((((8 : Int32) * v1) + v2) &&& 31))) = M1 at h ⊢
  refine tj_aload_n rfl dX11_readThing_65 rfl ?_
  refine cf_V11 (a := 81) (z := kX11_readLot) (As := []) rfl rfl dX11_readThing_66 rfl ml_X11_219 okX11_readLot rfl (rm_ok rfl) (Nat.le_of_ble_eq_true rfl) (Nat.le_of_ble_eq_true rfl) rfl rfl ?_
  refine ctX11_readLot h (fun r4 M2 t3 h => ?_)
  refine tj_istore_n (l' := [(0, _), (1, _), (2, _)]) rfl dX11_readThing_69 (by decide) rfl ?_
  refine tj_aload_n rfl dX11_readThing_70 rfl ?_
  refine gf11_draft (a := 81) rfl rfl dX11_readThing_71 fl_X11_35 ?_
  refine tj_bipush (v := 8) rfl dX11_readThing_74 (by decide) ?_
  refine tj_iload_n rfl dX11_readThing_76 rfl ?_
  refine tj_imul rfl dX11_readThing_77 ?_
  refine tj_iload_n rfl dX11_readThing_78 rfl ?_
  refine tj_iadd rfl dX11_readThing_79 ?_
  refine tj_aload_n rfl dX11_readThing_80 rfl ?_
  refine cf_V11 (a := 81) (z := kX11_readWhat) (As := []) rfl rfl dX11_readThing_81 rfl ml_X11_222 okX11_readWhat rfl (rm_ok rfl) (Nat.le_of_ble_eq_true rfl) (Nat.le_of_ble_eq_true rfl) rfl rfl ?_
  refine ctX11_readWhat h (fun r7 M5 t6 h => ?_)
  obtain ⟨hi8, h⟩ := h
  refine af_iast (a := 90) rfl rfl dX11_readThing_84 hi8 ?_
  replace h := h _ rfl
  generalize mset M5 90 (((8 : Int32) * v1) + r4 : Int32).toNatClampNeg r7 = M9 at h ⊢
  exact tj_return dX11_readThing_85 rfl (Nat.zero_le _) (Nat.zero_le _) (hp _ _ h)
def wX11_readThing_44 (post : MM → Int64 → Prop) (M : MM) (tl : Int64) (v1 : Int32) (v2 : Int32) (s1 : Int32) : Prop :=
  wpX11_needs (fun M1 t2 => wX11_readThing_48 post  M1 t2 v1 v2) M tl s1 4
set_option maxHeartbeats 4000000 in
set_option maxRecDepth 20000 in
theorem bX11_readThing_44 {E : EV} {ad : Nat → Nat} {M : MM} {tl : Int64} {Φ : Option Value → va_W → Prop} {post : MM → Int64 → Prop} {v1 : Int32} {v2 : Int32} {s1 : Int32} (hp : ∀ M tl, post M tl → Φ none (WM E ad M tl)) (h : wX11_readThing_44 post M tl v1 v2 s1) : T E kX11_readThing 0 0 (WM E ad M tl) 44 [(0, .ref (ad (81))), (1, .int v1), (2, .int v2)] [.int s1, .ref (ad (81))] Φ := by
  unfold wX11_readThing_44 at h
  refine tj_iconst (v := 4) rfl dX11_readThing_44 (by decide) ?_
  refine cf_V11 (a := 81) (z := kX11_needs) (As := [_, _]) rfl rfl dX11_readThing_45 rfl ml_X11_192 okX11_needs rfl (rm_ok rfl) (Nat.le_of_ble_eq_true rfl) (Nat.le_of_ble_eq_true rfl) rfl rfl ?_
  refine ctX11_needs h (fun M1 t2 h => ?_)
  exact bX11_readThing_48 hp  h
def wpX11_readThing (post : MM → Int64 → Prop) (M : MM) (tl : Int64) : Prop :=
  wpX11_readNumber (fun r3 M1 t2 => wpX11_looked (fun r6 M4 t5 => (if (M4 81 36) = 0 then (if (((M4 81 24) >>> ((((8 : Int32) * r3) + r6) &&& 31)) &&& 1) = 0 then wX11_readThing_44 post  M4 t5 r3 r6 1 else wX11_readThing_44 post  M4 t5 r3 r6 0) else wX11_readThing_48 post  M4 t5 r3 r6)) M1 t2 0 7) M tl 0 1
set_option maxHeartbeats 4000000 in
set_option maxRecDepth 20000 in
theorem ctX11_readThing {E : EV} {ad : Nat → Nat} {M : MM} {tl : Int64} {Φ : Option Value → va_W → Prop} {post : MM → Int64 → Prop} (h : wpX11_readThing post M tl ) (hp : ∀ M tl, post M tl → Φ none (WM E ad M tl)) : Tm E kX11_readThing (WM E ad M tl) [.ref (ad (81))] Φ := by
  unfold wpX11_readThing at h
  show T E kX11_readThing 0 0 (WM E ad M tl) 0 [(0, .ref (ad (81)))] [] Φ
  refine tj_aload_n rfl dX11_readThing_0 rfl ?_
  refine tj_iconst (v := 0) rfl dX11_readThing_1 (by decide) ?_
  refine tj_iconst (v := 1) rfl dX11_readThing_2 (by decide) ?_
  refine cf_V11 (a := 81) (z := kX11_readNumber) (As := [_, _]) rfl rfl dX11_readThing_3 rfl ml_X11_203 okX11_readNumber rfl (rm_ok rfl) (Nat.le_of_ble_eq_true rfl) (Nat.le_of_ble_eq_true rfl) rfl rfl ?_
  refine ctX11_readNumber h (fun r3 M1 t2 h => ?_)
  refine tj_istore_n (l' := [(0, _), (1, _)]) rfl dX11_readThing_6 (by decide) rfl ?_
  refine tj_aload_n rfl dX11_readThing_7 rfl ?_
  refine tj_iconst (v := 0) rfl dX11_readThing_8 (by decide) ?_
  refine tj_bipush (v := 7) rfl dX11_readThing_9 (by decide) ?_
  refine cf_V11 (a := 81) (z := kX11_looked) (As := [_, _]) rfl rfl dX11_readThing_11 rfl ml_X11_196 okX11_looked rfl (rm_ok rfl) (Nat.le_of_ble_eq_true rfl) (Nat.le_of_ble_eq_true rfl) rfl rfl ?_
  refine ctX11_looked h (fun r6 M4 t5 h => ?_)
  refine tj_istore_n (l' := [(0, _), (1, _), (2, _)]) rfl dX11_readThing_14 (by decide) rfl ?_
  refine tj_aload_n rfl dX11_readThing_15 rfl ?_
  refine gf11_fault (a := 81) rfl rfl dX11_readThing_16 fl_X11_150 ?_
  refine tj_if_ne (tgt := 48) rfl rfl dX11_readThing_19 (fun hc => ?_) (fun hc => ?_)
  · rw [if_neg hc] at h
    exact bX11_readThing_48 hp  h
  · rw [if_pos hc] at h
    refine tj_aload_n rfl dX11_readThing_22 rfl ?_
    refine tj_aload_n rfl dX11_readThing_23 rfl ?_
    refine gf11_toldThings (a := 81) rfl rfl dX11_readThing_24 fl_X11_111 ?_
    refine tj_bipush (v := 8) rfl dX11_readThing_27 (by decide) ?_
    refine tj_iload_n rfl dX11_readThing_29 rfl ?_
    refine tj_imul rfl dX11_readThing_30 ?_
    refine tj_iload_n rfl dX11_readThing_31 rfl ?_
    refine tj_iadd rfl dX11_readThing_32 ?_
    refine tj_ishr rfl dX11_readThing_33 ?_
    refine tj_iconst (v := 1) rfl dX11_readThing_34 (by decide) ?_
    refine tj_iand rfl dX11_readThing_35 ?_
    refine tj_if_ne (tgt := 43) rfl rfl dX11_readThing_36 (fun hc => ?_) (fun hc => ?_)
    · rw [if_neg hc] at h
      refine tj_iconst (v := 0) rfl dX11_readThing_43 (by decide) ?_
      exact bX11_readThing_44 hp  h
    · rw [if_pos hc] at h
      refine tj_iconst (v := 1) rfl dX11_readThing_39 (by decide) ?_
      refine tj_goto (tgt := 44) rfl dX11_readThing_40 ?_
      exact bX11_readThing_44 hp  h
def wX11_readWork_37 (post : MM → Int64 → Prop) (M : MM) (tl : Int64) (v1 : Int32) (v2 : Int32) (s1 : Int32) (s3 : Int32) : Prop :=
  wpX11_readNumber (fun r3 M1 t2 => (vp_in s1 (al 90) ∧ (∀ M5 : MM, M5 = mset M1 90 (s1 : Int32).toNatClampNeg r3 → wpX11_readNumber (fun r8 M6 t7 => (vp_in (v2 + 1) (al 90) ∧ (∀ M10 : MM, M10 = mset M6 90 (v2 + 1 : Int32).toNatClampNeg r8 → wpX11_readLot (fun r13 M11 t12 => (vp_in (v2 + 2) (al 90) ∧ (∀ M15 : MM, M15 = mset M11 90 (v2 + 2 : Int32).toNatClampNeg r13 → wpX11_readWhat (fun r18 M16 t17 => (vp_in (v2 + 3) (al 90) ∧ (∀ M20 : MM, M20 = mset M16 90 (v2 + 3 : Int32).toNatClampNeg r18 → (vp_in 16 (al 90) ∧ (∀ M22 : MM, M22 = mset M20 90 (16 : Int32).toNatClampNeg (v1 + 1) → post M22 t17))))) M15 t12 ))) M10 t7 ))) M5 t2 0 1))) M tl s3 23
set_option maxHeartbeats 4000000 in
set_option maxRecDepth 20000 in
theorem bX11_readWork_37 {E : EV} {ad : Nat → Nat} {M : MM} {tl : Int64} {Φ : Option Value → va_W → Prop} {post : MM → Int64 → Prop} {v1 : Int32} {v2 : Int32} {s1 : Int32} {s3 : Int32} (hp : ∀ M tl, post M tl → Φ none (WM E ad M tl)) (h : wX11_readWork_37 post M tl v1 v2 s1 s3) : T E kX11_readWork 0 0 (WM E ad M tl) 37 [(0, .ref (ad (81))), (1, .int v1), (2, .int v2)] [.int s3, .ref (ad (81)), .int s1, .ref (ad (90))] Φ := by
  unfold wX11_readWork_37 at h
  refine tj_bipush (v := 23) rfl dX11_readWork_37 (by decide) ?_
  refine cf_V11 (a := 81) (z := kX11_readNumber) (As := [_, _]) rfl rfl dX11_readWork_39 rfl ml_X11_203 okX11_readNumber rfl (rm_ok rfl) (Nat.le_of_ble_eq_true rfl) (Nat.le_of_ble_eq_true rfl) rfl rfl ?_
  refine ctX11_readNumber h (fun r3 M1 t2 h => ?_)
  obtain ⟨hi4, h⟩ := h
  refine af_iast (a := 90) rfl rfl dX11_readWork_42 hi4 ?_
  replace h := h _ rfl
  generalize mset M1 90 (s1 : Int32).toNatClampNeg r3 = M5 at h ⊢
  refine tj_aload_n rfl dX11_readWork_43 rfl ?_
  refine gf11_draft (a := 81) rfl rfl dX11_readWork_44 fl_X11_35 ?_
  refine tj_iload_n rfl dX11_readWork_47 rfl ?_
  refine tj_iconst (v := 1) rfl dX11_readWork_48 (by decide) ?_
  refine tj_iadd rfl dX11_readWork_49 ?_
  refine tj_aload_n rfl dX11_readWork_50 rfl ?_
  refine tj_iconst (v := 0) rfl dX11_readWork_51 (by decide) ?_
  refine tj_iconst (v := 1) rfl dX11_readWork_52 (by decide) ?_
  refine cf_V11 (a := 81) (z := kX11_readNumber) (As := [_, _]) rfl rfl dX11_readWork_53 rfl ml_X11_203 okX11_readNumber rfl (rm_ok rfl) (Nat.le_of_ble_eq_true rfl) (Nat.le_of_ble_eq_true rfl) rfl rfl ?_
  refine ctX11_readNumber h (fun r8 M6 t7 h => ?_)
  obtain ⟨hi9, h⟩ := h
  refine af_iast (a := 90) rfl rfl dX11_readWork_56 hi9 ?_
  replace h := h _ rfl
  generalize mset M6 90 (v2 + 1 : Int32).toNatClampNeg r8 = M10 at h ⊢
  refine tj_aload_n rfl dX11_readWork_57 rfl ?_
  refine gf11_draft (a := 81) rfl rfl dX11_readWork_58 fl_X11_35 ?_
  refine tj_iload_n rfl dX11_readWork_61 rfl ?_
  refine tj_iconst (v := 2) rfl dX11_readWork_62 (by decide) ?_
  refine tj_iadd rfl dX11_readWork_63 ?_
  refine tj_aload_n rfl dX11_readWork_64 rfl ?_
  refine cf_V11 (a := 81) (z := kX11_readLot) (As := []) rfl rfl dX11_readWork_65 rfl ml_X11_219 okX11_readLot rfl (rm_ok rfl) (Nat.le_of_ble_eq_true rfl) (Nat.le_of_ble_eq_true rfl) rfl rfl ?_
  refine ctX11_readLot h (fun r13 M11 t12 h => ?_)
  obtain ⟨hi14, h⟩ := h
  refine af_iast (a := 90) rfl rfl dX11_readWork_68 hi14 ?_
  replace h := h _ rfl
  generalize mset M11 90 (v2 + 2 : Int32).toNatClampNeg r13 = M15 at h ⊢
  refine tj_aload_n rfl dX11_readWork_69 rfl ?_
  refine gf11_draft (a := 81) rfl rfl dX11_readWork_70 fl_X11_35 ?_
  refine tj_iload_n rfl dX11_readWork_73 rfl ?_
  refine tj_iconst (v := 3) rfl dX11_readWork_74 (by decide) ?_
  refine tj_iadd rfl dX11_readWork_75 ?_
  refine tj_aload_n rfl dX11_readWork_76 rfl ?_
  refine cf_V11 (a := 81) (z := kX11_readWhat) (As := []) rfl rfl dX11_readWork_77 rfl ml_X11_222 okX11_readWhat rfl (rm_ok rfl) (Nat.le_of_ble_eq_true rfl) (Nat.le_of_ble_eq_true rfl) rfl rfl ?_
  refine ctX11_readWhat h (fun r18 M16 t17 h => ?_)
  obtain ⟨hi19, h⟩ := h
  refine af_iast (a := 90) rfl rfl dX11_readWork_80 hi19 ?_
  replace h := h _ rfl
  generalize mset M16 90 (v2 + 3 : Int32).toNatClampNeg r18 = M20 at h ⊢
  refine tj_aload_n rfl dX11_readWork_81 rfl ?_
  refine gf11_draft (a := 81) rfl rfl dX11_readWork_82 fl_X11_35 ?_
  refine tj_bipush (v := 16) rfl dX11_readWork_85 (by decide) ?_
  refine tj_iload_n rfl dX11_readWork_87 rfl ?_
  refine tj_iconst (v := 1) rfl dX11_readWork_88 (by decide) ?_
  refine tj_iadd rfl dX11_readWork_89 ?_
  obtain ⟨hi21, h⟩ := h
  refine af_iast (a := 90) rfl rfl dX11_readWork_90 hi21 ?_
  replace h := h _ rfl
  generalize mset M20 90 (16 : Int32).toNatClampNeg (v1 + 1) = M22 at h ⊢
  exact tj_return dX11_readWork_91 rfl (Nat.zero_le _) (Nat.zero_le _) (hp _ _ h)
def wpX11_readWork (post : MM → Int64 → Prop) (M : MM) (tl : Int64) : Prop :=
  (vp_in 16 (al 90) ∧ (if (M 90 (16 : Int32).toNatClampNeg) = 0 then wX11_readWork_37 post  M tl (M 90 (16 : Int32).toNatClampNeg) ((17 : Int32) + ((4 : Int32) * (M 90 (16 : Int32).toNatClampNeg))) ((17 : Int32) + ((4 : Int32) * (M 90 (16 : Int32).toNatClampNeg))) 0 else (vp_in (((17 : Int32) + ((4 : Int32) * (M 90 (16 : Int32).toNatClampNeg))) - 4) (al 90) ∧ wX11_readWork_37 post  M tl (M 90 (16 : Int32).toNatClampNeg) ((17 : Int32) + ((4 : Int32) * (M 90 (16 : Int32).toNatClampNeg))) ((17 : Int32) + ((4 : Int32) * (M 90 (16 : Int32).toNatClampNeg))) (M 90 (((17 : Int32) + ((4 : Int32) * (M 90 (16 : Int32).toNatClampNeg))) - 4 : Int32).toNatClampNeg))))
set_option maxHeartbeats 4000000 in
set_option maxRecDepth 20000 in
theorem ctX11_readWork {E : EV} {ad : Nat → Nat} {M : MM} {tl : Int64} {Φ : Option Value → va_W → Prop} {post : MM → Int64 → Prop} (h : wpX11_readWork post M tl ) (hp : ∀ M tl, post M tl → Φ none (WM E ad M tl)) : Tm E kX11_readWork (WM E ad M tl) [.ref (ad (81))] Φ := by
  unfold wpX11_readWork at h
  show T E kX11_readWork 0 0 (WM E ad M tl) 0 [(0, .ref (ad (81)))] [] Φ
  refine tj_aload_n rfl dX11_readWork_0 rfl ?_
  refine gf11_draft (a := 81) rfl rfl dX11_readWork_1 fl_X11_35 ?_
  refine tj_bipush (v := 16) rfl dX11_readWork_4 (by decide) ?_
  obtain ⟨hi1, h⟩ := h
  refine af_iald (a := 90) rfl rfl dX11_readWork_6 hi1 ?_
  refine tj_istore_n (l' := [(0, _), (1, _)]) rfl dX11_readWork_7 (by decide) rfl ?_
  refine tj_bipush (v := 17) rfl dX11_readWork_8 (by decide) ?_
  refine tj_iconst (v := 4) rfl dX11_readWork_10 (by decide) ?_
  refine tj_iload_n rfl dX11_readWork_11 rfl ?_
  refine tj_imul rfl dX11_readWork_12 ?_
  refine tj_iadd rfl dX11_readWork_13 ?_
  refine tj_istore_n (l' := [(0, _), (1, _), (2, _)]) rfl dX11_readWork_14 (by decide) rfl ?_
  refine tj_aload_n rfl dX11_readWork_15 rfl ?_
  refine gf11_draft (a := 81) rfl rfl dX11_readWork_16 fl_X11_35 ?_
  refine tj_iload_n rfl dX11_readWork_19 rfl ?_
  refine tj_aload_n rfl dX11_readWork_20 rfl ?_
  refine tj_iload_n rfl dX11_readWork_21 rfl ?_
  refine tj_if_ne (tgt := 29) rfl rfl dX11_readWork_22 (fun hc => ?_) (fun hc => ?_)
  · rw [if_neg hc] at h
    refine tj_aload_n rfl dX11_readWork_29 rfl ?_
    refine gf11_draft (a := 81) rfl rfl dX11_readWork_30 fl_X11_35 ?_
    refine tj_iload_n rfl dX11_readWork_33 rfl ?_
    refine tj_iconst (v := 4) rfl dX11_readWork_34 (by decide) ?_
    refine tj_isub rfl dX11_readWork_35 ?_
    obtain ⟨hi2, h⟩ := h
    refine af_iald (a := 90) rfl rfl dX11_readWork_36 hi2 ?_
    exact bX11_readWork_37 hp  h
  · rw [if_pos hc] at h
    refine tj_iconst (v := 0) rfl dX11_readWork_25 (by decide) ?_
    refine tj_goto (tgt := 37) rfl dX11_readWork_26 ?_
    exact bX11_readWork_37 hp  h
def wX11_readLaw_73 (post : MM → Int64 → Prop) (M : MM) (tl : Int64) (v2 : Int32) (v3 : Int32) (s1 : Int32) (s2 : Int32) : Prop :=
  (vp_in s1 (al 95) ∧ (∀ M2 : MM, M2 = mset M 95 (s1 : Int32).toNatClampNeg s2 → (∀ M3 : MM, M3 = mset M2 81 27 ((M2 81 27) ||| (((1 : Int32) <<< (v2 &&& 31)) ||| ((1 : Int32) <<< (v3 &&& 31)))) → post M3 tl)))
set_option maxHeartbeats 4000000 in
set_option maxRecDepth 20000 in
theorem bX11_readLaw_73 {E : EV} {ad : Nat → Nat} {M : MM} {tl : Int64} {Φ : Option Value → va_W → Prop} {post : MM → Int64 → Prop} {v2 : Int32} {v3 : Int32} {s1 : Int32} {s2 : Int32} (hp : ∀ M tl, post M tl → Φ none (WM E ad M tl)) (h : wX11_readLaw_73 post M tl v2 v3 s1 s2) : T E kX11_readLaw 0 0 (WM E ad M tl) 73 [(0, .ref (ad (81))), (2, .int v2), (3, .int v3)] [.int s2, .int s1, .ref (ad (95))] Φ := by
  unfold wX11_readLaw_73 at h
  obtain ⟨hi1, h⟩ := h
  refine af_iast (a := 95) rfl rfl dX11_readLaw_73 hi1 ?_
  replace h := h _ rfl
  generalize mset M 95 (s1 : Int32).toNatClampNeg s2 = M2 at h ⊢
  refine tj_aload_n rfl dX11_readLaw_74 rfl ?_
  refine tj_dup rfl dX11_readLaw_75 rfl ?_
  refine gf11_toldKinds (a := 81) rfl rfl dX11_readLaw_76 fl_X11_120 ?_
  refine tj_iconst (v := 1) rfl dX11_readLaw_79 (by decide) ?_
  refine tj_iload_n rfl dX11_readLaw_80 rfl ?_
  refine tj_ishl rfl dX11_readLaw_81 ?_
  refine tj_iconst (v := 1) rfl dX11_readLaw_82 (by decide) ?_
  refine tj_iload_n rfl dX11_readLaw_83 rfl ?_
  refine tj_ishl rfl dX11_readLaw_84 ?_
  refine tj_ior rfl dX11_readLaw_85 ?_
  refine tj_ior rfl dX11_readLaw_86 ?_
  refine pf11_toldKinds (a := 81) rfl rfl dX11_readLaw_87 fl_X11_120 ?_
  replace h := h _ rfl
  generalize mset M2 81 27 ((M2 81 27) ||| (((1 : Int32) <<< (v2 &&& 31)) ||| ((1 : Int32) <<< (v3 &&& 31)))) = M3 at h ⊢
  refine tj_goto (tgt := 234) rfl dX11_readLaw_90 ?_
  exact tj_return dX11_readLaw_234 rfl (Nat.zero_le _) (Nat.zero_le _) (hp _ _ h)
def wX11_readLaw_50 (post : MM → Int64 → Prop) (M : MM) (tl : Int64) (v2 : Int32) (v3 : Int32) (s1 : Int32) (s2 : Int32) : Prop :=
  (vp_in s1 (al 95) ∧ (∀ M2 : MM, M2 = mset M 95 (s1 : Int32).toNatClampNeg s2 → (if (M2 81 36) = 0 then wX11_readLaw_73 post  M2 tl v2 v3 v3 v2 else (vp_in v3 (al 95) ∧ wX11_readLaw_73 post  M2 tl v2 v3 v3 (M2 95 (v3 : Int32).toNatClampNeg)))))
set_option maxHeartbeats 4000000 in
set_option maxRecDepth 20000 in
theorem bX11_readLaw_50 {E : EV} {ad : Nat → Nat} {M : MM} {tl : Int64} {Φ : Option Value → va_W → Prop} {post : MM → Int64 → Prop} {v2 : Int32} {v3 : Int32} {s1 : Int32} {s2 : Int32} (hp : ∀ M tl, post M tl → Φ none (WM E ad M tl)) (h : wX11_readLaw_50 post M tl v2 v3 s1 s2) : T E kX11_readLaw 0 0 (WM E ad M tl) 50 [(0, .ref (ad (81))), (2, .int v2), (3, .int v3)] [.int s2, .int s1, .ref (ad (95))] Φ := by
  unfold wX11_readLaw_50 at h
  obtain ⟨hi1, h⟩ := h
  refine af_iast (a := 95) rfl rfl dX11_readLaw_50 hi1 ?_
  replace h := h _ rfl
  generalize mset M 95 (s1 : Int32).toNatClampNeg s2 = M2 at h ⊢
  refine tj_aload_n rfl dX11_readLaw_51 rfl ?_
  refine gf11_dTwin (a := 81) rfl rfl dX11_readLaw_52 fl_X11_50 ?_
  refine tj_iload_n rfl dX11_readLaw_55 rfl ?_
  refine tj_aload_n rfl dX11_readLaw_56 rfl ?_
  refine gf11_fault (a := 81) rfl rfl dX11_readLaw_57 fl_X11_150 ?_
  refine tj_if_ne (tgt := 67) rfl rfl dX11_readLaw_60 (fun hc => ?_) (fun hc => ?_)
  · rw [if_neg hc] at h
    refine tj_aload_n rfl dX11_readLaw_67 rfl ?_
    refine gf11_dTwin (a := 81) rfl rfl dX11_readLaw_68 fl_X11_50 ?_
    refine tj_iload_n rfl dX11_readLaw_71 rfl ?_
    obtain ⟨hi3, h⟩ := h
    refine af_iald (a := 95) rfl rfl dX11_readLaw_72 hi3 ?_
    exact bX11_readLaw_73 hp  h
  · rw [if_pos hc] at h
    refine tj_iload_n rfl dX11_readLaw_63 rfl ?_
    refine tj_goto (tgt := 73) rfl dX11_readLaw_64 ?_
    exact bX11_readLaw_73 hp  h
def wX11_readLaw_166 (post : MM → Int64 → Prop) (M : MM) (tl : Int64) (v2 : Int32) (v3 : Int32) (s1 : Int32) (s2 : Int32) : Prop :=
  (vp_in s1 (al 96) ∧ (∀ M2 : MM, M2 = mset M 96 (s1 : Int32).toNatClampNeg s2 → (∀ M3 : MM, M3 = mset M2 81 28 ((M2 81 28) ||| (((1 : Int32) <<< (v2 &&& 31)) ||| ((1 : Int32) <<< (v3 &&& 31)))) → post M3 tl)))
set_option maxHeartbeats 4000000 in
set_option maxRecDepth 20000 in
theorem bX11_readLaw_166 {E : EV} {ad : Nat → Nat} {M : MM} {tl : Int64} {Φ : Option Value → va_W → Prop} {post : MM → Int64 → Prop} {v2 : Int32} {v3 : Int32} {s1 : Int32} {s2 : Int32} (hp : ∀ M tl, post M tl → Φ none (WM E ad M tl)) (h : wX11_readLaw_166 post M tl v2 v3 s1 s2) : T E kX11_readLaw 0 0 (WM E ad M tl) 166 [(0, .ref (ad (81))), (2, .int v2), (3, .int v3)] [.int s2, .int s1, .ref (ad (96))] Φ := by
  unfold wX11_readLaw_166 at h
  obtain ⟨hi1, h⟩ := h
  refine af_iast (a := 96) rfl rfl dX11_readLaw_166 hi1 ?_
  replace h := h _ rfl
  generalize mset M 96 (s1 : Int32).toNatClampNeg s2 = M2 at h ⊢
  refine tj_aload_n rfl dX11_readLaw_167 rfl ?_
  refine tj_dup rfl dX11_readLaw_168 rfl ?_
  refine gf11_toldColours (a := 81) rfl rfl dX11_readLaw_169 fl_X11_123 ?_
  refine tj_iconst (v := 1) rfl dX11_readLaw_172 (by decide) ?_
  refine tj_iload_n rfl dX11_readLaw_173 rfl ?_
  refine tj_ishl rfl dX11_readLaw_174 ?_
  refine tj_iconst (v := 1) rfl dX11_readLaw_175 (by decide) ?_
  refine tj_iload_n rfl dX11_readLaw_176 rfl ?_
  refine tj_ishl rfl dX11_readLaw_177 ?_
  refine tj_ior rfl dX11_readLaw_178 ?_
  refine tj_ior rfl dX11_readLaw_179 ?_
  refine pf11_toldColours (a := 81) rfl rfl dX11_readLaw_180 fl_X11_123 ?_
  replace h := h _ rfl
  generalize mset M2 81 28 ((M2 81 28) ||| (((1 : Int32) <<< (v2 &&& 31)) ||| ((1 : Int32) <<< (v3 &&& 31)))) = M3 at h ⊢
  refine tj_goto (tgt := 234) rfl dX11_readLaw_183 ?_
  exact tj_return dX11_readLaw_234 rfl (Nat.zero_le _) (Nat.zero_le _) (hp _ _ h)
def wX11_readLaw_143 (post : MM → Int64 → Prop) (M : MM) (tl : Int64) (v2 : Int32) (v3 : Int32) (s1 : Int32) (s2 : Int32) : Prop :=
  (vp_in s1 (al 96) ∧ (∀ M2 : MM, M2 = mset M 96 (s1 : Int32).toNatClampNeg s2 → (if (M2 81 36) = 0 then wX11_readLaw_166 post  M2 tl v2 v3 v3 v2 else (vp_in v3 (al 96) ∧ wX11_readLaw_166 post  M2 tl v2 v3 v3 (M2 96 (v3 : Int32).toNatClampNeg)))))
set_option maxHeartbeats 4000000 in
set_option maxRecDepth 20000 in
theorem bX11_readLaw_143 {E : EV} {ad : Nat → Nat} {M : MM} {tl : Int64} {Φ : Option Value → va_W → Prop} {post : MM → Int64 → Prop} {v2 : Int32} {v3 : Int32} {s1 : Int32} {s2 : Int32} (hp : ∀ M tl, post M tl → Φ none (WM E ad M tl)) (h : wX11_readLaw_143 post M tl v2 v3 s1 s2) : T E kX11_readLaw 0 0 (WM E ad M tl) 143 [(0, .ref (ad (81))), (2, .int v2), (3, .int v3)] [.int s2, .int s1, .ref (ad (96))] Φ := by
  unfold wX11_readLaw_143 at h
  obtain ⟨hi1, h⟩ := h
  refine af_iast (a := 96) rfl rfl dX11_readLaw_143 hi1 ?_
  replace h := h _ rfl
  generalize mset M 96 (s1 : Int32).toNatClampNeg s2 = M2 at h ⊢
  refine tj_aload_n rfl dX11_readLaw_144 rfl ?_
  refine gf11_dPaint (a := 81) rfl rfl dX11_readLaw_145 fl_X11_53 ?_
  refine tj_iload_n rfl dX11_readLaw_148 rfl ?_
  refine tj_aload_n rfl dX11_readLaw_149 rfl ?_
  refine gf11_fault (a := 81) rfl rfl dX11_readLaw_150 fl_X11_150 ?_
  refine tj_if_ne (tgt := 160) rfl rfl dX11_readLaw_153 (fun hc => ?_) (fun hc => ?_)
  · rw [if_neg hc] at h
    refine tj_aload_n rfl dX11_readLaw_160 rfl ?_
    refine gf11_dPaint (a := 81) rfl rfl dX11_readLaw_161 fl_X11_53 ?_
    refine tj_iload_n rfl dX11_readLaw_164 rfl ?_
    obtain ⟨hi3, h⟩ := h
    refine af_iald (a := 96) rfl rfl dX11_readLaw_165 hi3 ?_
    exact bX11_readLaw_166 hp  h
  · rw [if_pos hc] at h
    refine tj_iload_n rfl dX11_readLaw_156 rfl ?_
    refine tj_goto (tgt := 166) rfl dX11_readLaw_157 ?_
    exact bX11_readLaw_166 hp  h
def wpX11_readLaw (post : MM → Int64 → Prop) (M : MM) (tl : Int64) (v1 : Int32) : Prop :=
  (if v1 = 17 then wpX11_readKind (fun r23 M21 t22 => wpX11_readKind (fun r26 M24 t25 => (if (M24 81 36) = 0 then wX11_readLaw_50 post  M24 t25 r23 r26 r23 r26 else (vp_in r23 (al 95) ∧ wX11_readLaw_50 post  M24 t25 r23 r26 r23 (M24 95 (r23 : Int32).toNatClampNeg)))) M21 t22 ((M21 81 27) ||| ((1 : Int32) <<< (r23 &&& 31)))) M tl (M 81 27) else (if v1 = 18 then wpX11_readColour (fun r16 M14 t15 => wpX11_readColour (fun r19 M17 t18 => (if (M17 81 36) = 0 then wX11_readLaw_143 post  M17 t18 r16 r19 r16 r19 else (vp_in r16 (al 96) ∧ wX11_readLaw_143 post  M17 t18 r16 r19 r16 (M17 96 (r16 : Int32).toNatClampNeg)))) M14 t15 ((M14 81 28) ||| ((1 : Int32) <<< (r16 &&& 31)))) M tl (M 81 28) else (if v1 = 19 then wpX11_readKind (fun r12 M10 t11 => (∀ M13 : MM, M13 = mset M10 81 22 ((M 81 22) ||| ((1 : Int32) <<< (r12 &&& 31))) → post M13 t11)) M tl 0 else wpX11_readNumber (fun r3 M1 t2 => (vp_in r3 (al 94) ∧ wpX11_readKind (fun r7 M5 t6 => (vp_in r3 (al 94) ∧ (∀ M9 : MM, M9 = mset M5 94 (r3 : Int32).toNatClampNeg ((M1 94 (r3 : Int32).toNatClampNeg) ||| ((1 : Int32) <<< (r7 &&& 31))) → post M9 t6))) M1 t2 0)) M tl 0 1)))
set_option maxHeartbeats 4000000 in
set_option maxRecDepth 20000 in
theorem ctX11_readLaw {E : EV} {ad : Nat → Nat} {M : MM} {tl : Int64} {Φ : Option Value → va_W → Prop} {post : MM → Int64 → Prop} {v1 : Int32} (h : wpX11_readLaw post M tl v1) (hp : ∀ M tl, post M tl → Φ none (WM E ad M tl)) : Tm E kX11_readLaw (WM E ad M tl) [.ref (ad (81)), .int v1] Φ := by
  unfold wpX11_readLaw at h
  show T E kX11_readLaw 0 0 (WM E ad M tl) 0 [(0, .ref (ad (81))), (1, .int v1)] [] Φ
  refine tj_iload_n rfl dX11_readLaw_0 rfl ?_
  refine tj_bipush (v := 17) rfl dX11_readLaw_1 (by decide) ?_
  refine tj_icmp_ne (tgt := 93) rfl rfl dX11_readLaw_3 (fun hc => ?_) (fun hc => ?_)
  · rw [if_neg hc] at h
    refine tj_iload_n rfl dX11_readLaw_93 rfl ?_
    refine tj_bipush (v := 18) rfl dX11_readLaw_94 (by decide) ?_
    refine tj_icmp_ne (tgt := 186) rfl rfl dX11_readLaw_96 (fun hc => ?_) (fun hc => ?_)
    · rw [if_neg hc] at h
      refine tj_iload_n rfl dX11_readLaw_186 rfl ?_
      refine tj_bipush (v := 19) rfl dX11_readLaw_187 (by decide) ?_
      refine tj_icmp_ne (tgt := 211) rfl rfl dX11_readLaw_189 (fun hc => ?_) (fun hc => ?_)
      · rw [if_neg hc] at h
        refine tj_aload_n rfl dX11_readLaw_211 rfl ?_
        refine tj_iconst (v := 0) rfl dX11_readLaw_212 (by decide) ?_
        refine tj_iconst (v := 1) rfl dX11_readLaw_213 (by decide) ?_
        refine cf_V11 (a := 81) (z := kX11_readNumber) (As := [_, _]) rfl rfl dX11_readLaw_214 rfl ml_X11_203 okX11_readNumber rfl (rm_ok rfl) (Nat.le_of_ble_eq_true rfl) (Nat.le_of_ble_eq_true rfl) rfl rfl ?_
        refine ctX11_readNumber h (fun r3 M1 t2 h => ?_)
        refine tj_istore_n (l' := [(0, _), (1, _), (2, _)]) rfl dX11_readLaw_217 (by decide) rfl ?_
        refine tj_aload_n rfl dX11_readLaw_218 rfl ?_
        refine gf11_dLacks (a := 81) rfl rfl dX11_readLaw_219 fl_X11_47 ?_
        refine tj_iload_n rfl dX11_readLaw_222 rfl ?_
        refine tj_dup2 rfl dX11_readLaw_223 rfl rfl ?_
        obtain ⟨hi4, h⟩ := h
        refine af_iald (a := 94) rfl rfl dX11_readLaw_224 hi4 ?_
        refine tj_iconst (v := 1) rfl dX11_readLaw_225 (by decide) ?_
        refine tj_aload_n rfl dX11_readLaw_226 rfl ?_
        refine tj_iconst (v := 0) rfl dX11_readLaw_227 (by decide) ?_
        refine cf_V11 (a := 81) (z := kX11_readKind) (As := [_]) rfl rfl dX11_readLaw_228 rfl ml_X11_213 okX11_readKind rfl (rm_ok rfl) (Nat.le_of_ble_eq_true rfl) (Nat.le_of_ble_eq_true rfl) rfl rfl ?_
        refine ctX11_readKind h (fun r7 M5 t6 h => ?_)
        refine tj_ishl rfl dX11_readLaw_231 ?_
        refine tj_ior rfl dX11_readLaw_232 ?_
        obtain ⟨hi8, h⟩ := h
        refine af_iast (a := 94) rfl rfl dX11_readLaw_233 hi8 ?_
        replace h := h _ rfl
        generalize mset M5 94 (r3 : Int32).toNatClampNeg ((M1 94 (r3 : Int32).toNatClampNeg) ||| ((1 : Int32) <<< (r7 &&& 31))) = M9 at h ⊢
        exact tj_return dX11_readLaw_234 rfl (Nat.zero_le _) (Nat.zero_le _) (hp _ _ h)
      · rw [if_pos hc] at h
        refine tj_aload_n rfl dX11_readLaw_192 rfl ?_
        refine tj_dup rfl dX11_readLaw_193 rfl ?_
        refine gf11_dRights (a := 81) rfl rfl dX11_readLaw_194 fl_X11_105 ?_
        refine tj_iconst (v := 1) rfl dX11_readLaw_197 (by decide) ?_
        refine tj_aload_n rfl dX11_readLaw_198 rfl ?_
        refine tj_iconst (v := 0) rfl dX11_readLaw_199 (by decide) ?_
        refine cf_V11 (a := 81) (z := kX11_readKind) (As := [_]) rfl rfl dX11_readLaw_200 rfl ml_X11_213 okX11_readKind rfl (rm_ok rfl) (Nat.le_of_ble_eq_true rfl) (Nat.le_of_ble_eq_true rfl) rfl rfl ?_
        refine ctX11_readKind h (fun r12 M10 t11 h => ?_)
        refine tj_ishl rfl dX11_readLaw_203 ?_
        refine tj_ior rfl dX11_readLaw_204 ?_
        refine pf11_dRights (a := 81) rfl rfl dX11_readLaw_205 fl_X11_105 ?_
        replace h := h _ rfl
        generalize mset M10 81 22 ((M 81 22) ||| ((1 : Int32) <<< (r12 &&& 31))) = M13 at h ⊢
        refine tj_goto (tgt := 234) rfl dX11_readLaw_208 ?_
        exact tj_return dX11_readLaw_234 rfl (Nat.zero_le _) (Nat.zero_le _) (hp _ _ h)
    · rw [if_pos hc] at h
      refine tj_aload_n rfl dX11_readLaw_99 rfl ?_
      refine tj_aload_n rfl dX11_readLaw_100 rfl ?_
      refine gf11_toldColours (a := 81) rfl rfl dX11_readLaw_101 fl_X11_123 ?_
      refine cf_V11 (a := 81) (z := kX11_readColour) (As := [_]) rfl rfl dX11_readLaw_104 rfl ml_X11_225 okX11_readColour rfl (rm_ok rfl) (Nat.le_of_ble_eq_true rfl) (Nat.le_of_ble_eq_true rfl) rfl rfl ?_
      refine ctX11_readColour h (fun r16 M14 t15 h => ?_)
      refine tj_istore_n (l' := [(0, _), (1, _), (2, _)]) rfl dX11_readLaw_107 (by decide) rfl ?_
      refine tj_aload_n rfl dX11_readLaw_108 rfl ?_
      refine tj_aload_n rfl dX11_readLaw_109 rfl ?_
      refine gf11_toldColours (a := 81) rfl rfl dX11_readLaw_110 fl_X11_123 ?_
      refine tj_iconst (v := 1) rfl dX11_readLaw_113 (by decide) ?_
      refine tj_iload_n rfl dX11_readLaw_114 rfl ?_
      refine tj_ishl rfl dX11_readLaw_115 ?_
      refine tj_ior rfl dX11_readLaw_116 ?_
      refine cf_V11 (a := 81) (z := kX11_readColour) (As := [_]) rfl rfl dX11_readLaw_117 rfl ml_X11_225 okX11_readColour rfl (rm_ok rfl) (Nat.le_of_ble_eq_true rfl) (Nat.le_of_ble_eq_true rfl) rfl rfl ?_
      refine ctX11_readColour h (fun r19 M17 t18 h => ?_)
      refine tj_istore_n (l' := [(0, _), (1, _), (2, _), (3, _)]) rfl dX11_readLaw_120 (by decide) rfl ?_
      refine tj_aload_n rfl dX11_readLaw_121 rfl ?_
      refine gf11_dPaint (a := 81) rfl rfl dX11_readLaw_122 fl_X11_53 ?_
      refine tj_iload_n rfl dX11_readLaw_125 rfl ?_
      refine tj_aload_n rfl dX11_readLaw_126 rfl ?_
      refine gf11_fault (a := 81) rfl rfl dX11_readLaw_127 fl_X11_150 ?_
      refine tj_if_ne (tgt := 137) rfl rfl dX11_readLaw_130 (fun hc => ?_) (fun hc => ?_)
      · rw [if_neg hc] at h
        refine tj_aload_n rfl dX11_readLaw_137 rfl ?_
        refine gf11_dPaint (a := 81) rfl rfl dX11_readLaw_138 fl_X11_53 ?_
        refine tj_iload_n rfl dX11_readLaw_141 rfl ?_
        obtain ⟨hi20, h⟩ := h
        refine af_iald (a := 96) rfl rfl dX11_readLaw_142 hi20 ?_
        exact tj_pick (l' := [(0, _), (2, _), (3, _)]) [0, 2, 3] rfl (bX11_readLaw_143 hp  h)
      · rw [if_pos hc] at h
        refine tj_iload_n rfl dX11_readLaw_133 rfl ?_
        refine tj_goto (tgt := 143) rfl dX11_readLaw_134 ?_
        exact tj_pick (l' := [(0, _), (2, _), (3, _)]) [0, 2, 3] rfl (bX11_readLaw_143 hp  h)
  · rw [if_pos hc] at h
    refine tj_aload_n rfl dX11_readLaw_6 rfl ?_
    refine tj_aload_n rfl dX11_readLaw_7 rfl ?_
    refine gf11_toldKinds (a := 81) rfl rfl dX11_readLaw_8 fl_X11_120 ?_
    refine cf_V11 (a := 81) (z := kX11_readKind) (As := [_]) rfl rfl dX11_readLaw_11 rfl ml_X11_213 okX11_readKind rfl (rm_ok rfl) (Nat.le_of_ble_eq_true rfl) (Nat.le_of_ble_eq_true rfl) rfl rfl ?_
    refine ctX11_readKind h (fun r23 M21 t22 h => ?_)
    refine tj_istore_n (l' := [(0, _), (1, _), (2, _)]) rfl dX11_readLaw_14 (by decide) rfl ?_
    refine tj_aload_n rfl dX11_readLaw_15 rfl ?_
    refine tj_aload_n rfl dX11_readLaw_16 rfl ?_
    refine gf11_toldKinds (a := 81) rfl rfl dX11_readLaw_17 fl_X11_120 ?_
    refine tj_iconst (v := 1) rfl dX11_readLaw_20 (by decide) ?_
    refine tj_iload_n rfl dX11_readLaw_21 rfl ?_
    refine tj_ishl rfl dX11_readLaw_22 ?_
    refine tj_ior rfl dX11_readLaw_23 ?_
    refine cf_V11 (a := 81) (z := kX11_readKind) (As := [_]) rfl rfl dX11_readLaw_24 rfl ml_X11_213 okX11_readKind rfl (rm_ok rfl) (Nat.le_of_ble_eq_true rfl) (Nat.le_of_ble_eq_true rfl) rfl rfl ?_
    refine ctX11_readKind h (fun r26 M24 t25 h => ?_)
    refine tj_istore_n (l' := [(0, _), (1, _), (2, _), (3, _)]) rfl dX11_readLaw_27 (by decide) rfl ?_
    refine tj_aload_n rfl dX11_readLaw_28 rfl ?_
    refine gf11_dTwin (a := 81) rfl rfl dX11_readLaw_29 fl_X11_50 ?_
    refine tj_iload_n rfl dX11_readLaw_32 rfl ?_
    refine tj_aload_n rfl dX11_readLaw_33 rfl ?_
    refine gf11_fault (a := 81) rfl rfl dX11_readLaw_34 fl_X11_150 ?_
    refine tj_if_ne (tgt := 44) rfl rfl dX11_readLaw_37 (fun hc => ?_) (fun hc => ?_)
    · rw [if_neg hc] at h
      refine tj_aload_n rfl dX11_readLaw_44 rfl ?_
      refine gf11_dTwin (a := 81) rfl rfl dX11_readLaw_45 fl_X11_50 ?_
      refine tj_iload_n rfl dX11_readLaw_48 rfl ?_
      obtain ⟨hi27, h⟩ := h
      refine af_iald (a := 95) rfl rfl dX11_readLaw_49 hi27 ?_
      exact tj_pick (l' := [(0, _), (2, _), (3, _)]) [0, 2, 3] rfl (bX11_readLaw_50 hp  h)
    · rw [if_pos hc] at h
      refine tj_iload_n rfl dX11_readLaw_40 rfl ?_
      refine tj_goto (tgt := 50) rfl dX11_readLaw_41 ?_
      exact tj_pick (l' := [(0, _), (2, _), (3, _)]) [0, 2, 3] rfl (bX11_readLaw_50 hp  h)
def wX11_readLineOf_108 (post : MM → Int64 → Prop) : Nat → MM → Int64 → Int32 → Prop
  | 0, _, _, _ => False
  | n + 1, M, tl, v2 =>
    (if 4 ≤ v2 then post M tl else wpX11_readNumber (fun r3 M1 t2 => (vp_in v2 (al 91) ∧ (∀ M5 : MM, M5 = mset M1 91 (v2 : Int32).toNatClampNeg r3 → (wX11_readLineOf_108 post n) M5 t2 (v2 + 1)))) M tl 1 9)
set_option maxHeartbeats 4000000 in
set_option maxRecDepth 20000 in
theorem bX11_readLineOf_108 {E : EV} {ad : Nat → Nat} {Φ : Option Value → va_W → Prop} {post : MM → Int64 → Prop}  (hp : ∀ M tl, post M tl → Φ none (WM E ad M tl)) : ∀ (n : Nat) (M : MM) (tl : Int64) (v2 : Int32), wX11_readLineOf_108 post n M tl v2 → T E kX11_readLineOf 0 0 (WM E ad M tl) 108 [(0, .ref (ad (81))), (2, .int v2)] [] Φ := by
  intro n
  induction n with
  | zero => intro M tl v2 h; exact False.elim h
  | succ n ih =>
    intro M tl v2 h
    unfold wX11_readLineOf_108 at h
    refine tj_iload_n rfl dX11_readLineOf_108 rfl ?_
    refine tj_iconst (v := 4) rfl dX11_readLineOf_109 (by decide) ?_
    refine tj_icmp_ge (tgt := 132) rfl rfl dX11_readLineOf_110 (fun hc => ?_) (fun hc => ?_)
    · rw [if_pos hc] at h
      refine tj_goto (tgt := 172) rfl dX11_readLineOf_132 ?_
      exact tj_return dX11_readLineOf_172 rfl (Nat.zero_le _) (Nat.zero_le _) (hp _ _ h)
    · rw [if_neg hc] at h
      refine tj_aload_n rfl dX11_readLineOf_113 rfl ?_
      refine gf11_dPrice (a := 81) rfl rfl dX11_readLineOf_114 fl_X11_38 ?_
      refine tj_iload_n rfl dX11_readLineOf_117 rfl ?_
      refine tj_aload_n rfl dX11_readLineOf_118 rfl ?_
      refine tj_iconst (v := 1) rfl dX11_readLineOf_119 (by decide) ?_
      refine tj_bipush (v := 9) rfl dX11_readLineOf_120 (by decide) ?_
      refine cf_V11 (a := 81) (z := kX11_readNumber) (As := [_, _]) rfl rfl dX11_readLineOf_122 rfl ml_X11_203 okX11_readNumber rfl (rm_ok rfl) (Nat.le_of_ble_eq_true rfl) (Nat.le_of_ble_eq_true rfl) rfl rfl ?_
      refine ctX11_readNumber h (fun r3 M1 t2 h => ?_)
      obtain ⟨hi4, h⟩ := h
      refine af_iast (a := 91) rfl rfl dX11_readLineOf_125 hi4 ?_
      replace h := h _ rfl
      generalize mset M1 91 (v2 : Int32).toNatClampNeg r3 = M5 at h ⊢
      refine tj_iinc (v := _ + 1) (l' := [(0, _), (2, _)]) rfl dX11_readLineOf_126 rfl (by decide) rfl rfl ?_
      refine tj_goto (tgt := 108) rfl dX11_readLineOf_129 ?_
      exact ih _ _ _ h
def wX11_readLineOf_147 (post : MM → Int64 → Prop) (M : MM) (tl : Int64) (s1 : Int32) : Prop :=
  wpX11_readCosts (fun M1 t2 => post M1 t2) M tl s1
set_option maxHeartbeats 4000000 in
set_option maxRecDepth 20000 in
theorem bX11_readLineOf_147 {E : EV} {ad : Nat → Nat} {M : MM} {tl : Int64} {Φ : Option Value → va_W → Prop} {post : MM → Int64 → Prop} {s1 : Int32} (hp : ∀ M tl, post M tl → Φ none (WM E ad M tl)) (h : wX11_readLineOf_147 post M tl s1) : T E kX11_readLineOf 0 0 (WM E ad M tl) 147 [] [.int s1, .ref (ad (81))] Φ := by
  unfold wX11_readLineOf_147 at h
  refine cf_V11 (a := 81) (z := kX11_readCosts) (As := [_]) rfl rfl dX11_readLineOf_147 rfl ml_X11_228 okX11_readCosts rfl (rm_ok rfl) (Nat.le_of_ble_eq_true rfl) (Nat.le_of_ble_eq_true rfl) rfl rfl ?_
  refine ctX11_readCosts h (fun M1 t2 h => ?_)
  refine tj_goto (tgt := 172) rfl dX11_readLineOf_150 ?_
  exact tj_return dX11_readLineOf_172 rfl (Nat.zero_le _) (Nat.zero_le _) (hp _ _ h)
def wpX11_readLineOf (post : MM → Int64 → Prop) (M : MM) (tl : Int64) (v1 : Int32) : Prop :=
  (if v1 = 10 then wpX11_readNumber (fun r4 M2 t3 => (∀ M5 : MM, M5 = mset M2 81 13 r4 → post M5 t3)) M tl 1 8 else (if v1 = 11 then wpX11_readNumber (fun r9 M7 t8 => (∀ M10 : MM, M10 = mset M7 81 14 r9 → post M10 t8)) M tl 0 6 else (if v1 = 12 then wpX11_readNumber (fun r14 M12 t13 => (∀ M15 : MM, M15 = mset M12 81 15 r14 → post M15 t13)) M tl 0 20 else (if v1 = 13 then (∃ n9, wX11_readLineOf_108 post  n9 M tl 0) else (if v1 = 14 then (if v1 = 14 then wX11_readLineOf_147 post  M tl 1 else wX11_readLineOf_147 post  M tl 0) else (if v1 = 15 then (if v1 = 14 then wX11_readLineOf_147 post  M tl 1 else wX11_readLineOf_147 post  M tl 0) else (if v1 = 16 then wpX11_readLaw (fun M20 t21 => post M20 t21) M tl v1 else (if v1 = 17 then wpX11_readLaw (fun M23 t24 => post M23 t24) M tl v1 else (if v1 = 18 then wpX11_readLaw (fun M26 t27 => post M26 t27) M tl v1 else (if v1 = 19 then wpX11_readLaw (fun M29 t30 => post M29 t30) M tl v1 else (if v1 = 20 then wpX11_readThing (fun M32 t33 => post M32 t33) M tl  else (if v1 = 21 then wpX11_readWork (fun M35 t36 => post M35 t36) M tl  else wpX11_readLaw (fun M37 t38 => post M37 t38) M tl v1))))))))))))
set_option maxHeartbeats 4000000 in
set_option maxRecDepth 20000 in
theorem ctX11_readLineOf {E : EV} {ad : Nat → Nat} {M : MM} {tl : Int64} {Φ : Option Value → va_W → Prop} {post : MM → Int64 → Prop} {v1 : Int32} (h : wpX11_readLineOf post M tl v1) (hp : ∀ M tl, post M tl → Φ none (WM E ad M tl)) : Tm E kX11_readLineOf (WM E ad M tl) [.ref (ad (81)), .int v1] Φ := by
  unfold wpX11_readLineOf at h
  show T E kX11_readLineOf 0 0 (WM E ad M tl) 0 [(0, .ref (ad (81))), (1, .int v1)] [] Φ
  refine tj_iload_n rfl dX11_readLineOf_0 rfl ?_
  by_cases hc1 : v1 = 10
  · rw [if_pos hc1] at h
    refine tj_tableIn (tgt := 64) dX11_readLineOf_1 (by rw [hc1]; decide) (by rw [hc1]; decide) (by rw [hc1]; rfl) rfl ?_
    refine tj_aload_n rfl dX11_readLineOf_64 rfl ?_
    refine tj_aload_n rfl dX11_readLineOf_65 rfl ?_
    refine tj_iconst (v := 1) rfl dX11_readLineOf_66 (by decide) ?_
    refine tj_bipush (v := 8) rfl dX11_readLineOf_67 (by decide) ?_
    refine cf_V11 (a := 81) (z := kX11_readNumber) (As := [_, _]) rfl rfl dX11_readLineOf_69 rfl ml_X11_203 okX11_readNumber rfl (rm_ok rfl) (Nat.le_of_ble_eq_true rfl) (Nat.le_of_ble_eq_true rfl) rfl rfl ?_
    refine ctX11_readNumber h (fun r4 M2 t3 h => ?_)
    refine pf11_dLots (a := 81) rfl rfl dX11_readLineOf_72 fl_X11_95 ?_
    replace h := h _ rfl
    generalize mset M2 81 13 r4 = M5 at h ⊢
    refine tj_goto (tgt := 172) rfl dX11_readLineOf_75 ?_
    exact tj_return dX11_readLineOf_172 rfl (Nat.zero_le _) (Nat.zero_le _) (hp _ _ h)
  · rw [if_neg hc1] at h
    by_cases hc6 : v1 = 11
    · rw [if_pos hc6] at h
      refine tj_tableIn (tgt := 78) dX11_readLineOf_1 (by rw [hc6]; decide) (by rw [hc6]; decide) (by rw [hc6]; rfl) rfl ?_
      refine tj_aload_n rfl dX11_readLineOf_78 rfl ?_
      refine tj_aload_n rfl dX11_readLineOf_79 rfl ?_
      refine tj_iconst (v := 0) rfl dX11_readLineOf_80 (by decide) ?_
      refine tj_bipush (v := 6) rfl dX11_readLineOf_81 (by decide) ?_
      refine cf_V11 (a := 81) (z := kX11_readNumber) (As := [_, _]) rfl rfl dX11_readLineOf_83 rfl ml_X11_203 okX11_readNumber rfl (rm_ok rfl) (Nat.le_of_ble_eq_true rfl) (Nat.le_of_ble_eq_true rfl) rfl rfl ?_
      refine ctX11_readNumber h (fun r9 M7 t8 h => ?_)
      refine pf11_dBend (a := 81) rfl rfl dX11_readLineOf_86 fl_X11_99 ?_
      replace h := h _ rfl
      generalize mset M7 81 14 r9 = M10 at h ⊢
      refine tj_goto (tgt := 172) rfl dX11_readLineOf_89 ?_
      exact tj_return dX11_readLineOf_172 rfl (Nat.zero_le _) (Nat.zero_le _) (hp _ _ h)
    · rw [if_neg hc6] at h
      by_cases hc11 : v1 = 12
      · rw [if_pos hc11] at h
        refine tj_tableIn (tgt := 92) dX11_readLineOf_1 (by rw [hc11]; decide) (by rw [hc11]; decide) (by rw [hc11]; rfl) rfl ?_
        refine tj_aload_n rfl dX11_readLineOf_92 rfl ?_
        refine tj_aload_n rfl dX11_readLineOf_93 rfl ?_
        refine tj_iconst (v := 0) rfl dX11_readLineOf_94 (by decide) ?_
        refine tj_bipush (v := 20) rfl dX11_readLineOf_95 (by decide) ?_
        refine cf_V11 (a := 81) (z := kX11_readNumber) (As := [_, _]) rfl rfl dX11_readLineOf_97 rfl ml_X11_203 okX11_readNumber rfl (rm_ok rfl) (Nat.le_of_ble_eq_true rfl) (Nat.le_of_ble_eq_true rfl) rfl rfl ?_
        refine ctX11_readNumber h (fun r14 M12 t13 h => ?_)
        refine pf11_dPull (a := 81) rfl rfl dX11_readLineOf_100 fl_X11_102 ?_
        replace h := h _ rfl
        generalize mset M12 81 15 r14 = M15 at h ⊢
        refine tj_goto (tgt := 172) rfl dX11_readLineOf_103 ?_
        exact tj_return dX11_readLineOf_172 rfl (Nat.zero_le _) (Nat.zero_le _) (hp _ _ h)
      · rw [if_neg hc11] at h
        by_cases hc16 : v1 = 13
        · rw [if_pos hc16] at h
          refine tj_tableIn (tgt := 106) dX11_readLineOf_1 (by rw [hc16]; decide) (by rw [hc16]; decide) (by rw [hc16]; rfl) rfl ?_
          refine tj_iconst (v := 0) rfl dX11_readLineOf_106 (by decide) ?_
          refine tj_istore_n (l' := [(0, _), (1, _), (2, _)]) rfl dX11_readLineOf_107 (by decide) rfl ?_
          obtain ⟨n9, h⟩ := h
          exact tj_pick (l' := [(0, _), (2, _)]) [0, 2] rfl (bX11_readLineOf_108 hp  n9 _ _ _ h)
        · rw [if_neg hc16] at h
          by_cases hc17 : v1 = 14
          · rw [if_pos hc17] at h
            refine tj_tableIn (tgt := 135) dX11_readLineOf_1 (by rw [hc17]; decide) (by rw [hc17]; decide) (by rw [hc17]; rfl) rfl ?_
            refine tj_aload_n rfl dX11_readLineOf_135 rfl ?_
            refine tj_iload_n rfl dX11_readLineOf_136 rfl ?_
            refine tj_bipush (v := 14) rfl dX11_readLineOf_137 (by decide) ?_
            refine tj_icmp_ne (tgt := 146) rfl rfl dX11_readLineOf_139 (fun hc => ?_) (fun hc => ?_)
            · rw [if_neg hc] at h
              refine tj_iconst (v := 0) rfl dX11_readLineOf_146 (by decide) ?_
              exact tj_pick (l' := []) [] rfl (bX11_readLineOf_147 hp  h)
            · rw [if_pos hc] at h
              refine tj_iconst (v := 1) rfl dX11_readLineOf_142 (by decide) ?_
              refine tj_goto (tgt := 147) rfl dX11_readLineOf_143 ?_
              exact tj_pick (l' := []) [] rfl (bX11_readLineOf_147 hp  h)
          · rw [if_neg hc17] at h
            by_cases hc18 : v1 = 15
            · rw [if_pos hc18] at h
              refine tj_tableIn (tgt := 135) dX11_readLineOf_1 (by rw [hc18]; decide) (by rw [hc18]; decide) (by rw [hc18]; rfl) rfl ?_
              refine tj_aload_n rfl dX11_readLineOf_135 rfl ?_
              refine tj_iload_n rfl dX11_readLineOf_136 rfl ?_
              refine tj_bipush (v := 14) rfl dX11_readLineOf_137 (by decide) ?_
              refine tj_icmp_ne (tgt := 146) rfl rfl dX11_readLineOf_139 (fun hc => ?_) (fun hc => ?_)
              · rw [if_neg hc] at h
                refine tj_iconst (v := 0) rfl dX11_readLineOf_146 (by decide) ?_
                exact tj_pick (l' := []) [] rfl (bX11_readLineOf_147 hp  h)
              · rw [if_pos hc] at h
                refine tj_iconst (v := 1) rfl dX11_readLineOf_142 (by decide) ?_
                refine tj_goto (tgt := 147) rfl dX11_readLineOf_143 ?_
                exact tj_pick (l' := []) [] rfl (bX11_readLineOf_147 hp  h)
            · rw [if_neg hc18] at h
              by_cases hc19 : v1 = 16
              · rw [if_pos hc19] at h
                refine tj_tableIn (tgt := 167) dX11_readLineOf_1 (by rw [hc19]; decide) (by rw [hc19]; decide) (by rw [hc19]; rfl) rfl ?_
                refine tj_aload_n rfl dX11_readLineOf_167 rfl ?_
                refine tj_iload_n rfl dX11_readLineOf_168 rfl ?_
                refine cf_V11 (a := 81) (z := kX11_readLaw) (As := [_]) rfl rfl dX11_readLineOf_169 rfl ml_X11_238 okX11_readLaw rfl (rm_ok rfl) (Nat.le_of_ble_eq_true rfl) (Nat.le_of_ble_eq_true rfl) rfl rfl ?_
                refine ctX11_readLaw h (fun M20 t21 h => ?_)
                exact tj_return dX11_readLineOf_172 rfl (Nat.zero_le _) (Nat.zero_le _) (hp _ _ h)
              · rw [if_neg hc19] at h
                by_cases hc22 : v1 = 17
                · rw [if_pos hc22] at h
                  refine tj_tableIn (tgt := 167) dX11_readLineOf_1 (by rw [hc22]; decide) (by rw [hc22]; decide) (by rw [hc22]; rfl) rfl ?_
                  refine tj_aload_n rfl dX11_readLineOf_167 rfl ?_
                  refine tj_iload_n rfl dX11_readLineOf_168 rfl ?_
                  refine cf_V11 (a := 81) (z := kX11_readLaw) (As := [_]) rfl rfl dX11_readLineOf_169 rfl ml_X11_238 okX11_readLaw rfl (rm_ok rfl) (Nat.le_of_ble_eq_true rfl) (Nat.le_of_ble_eq_true rfl) rfl rfl ?_
                  refine ctX11_readLaw h (fun M23 t24 h => ?_)
                  exact tj_return dX11_readLineOf_172 rfl (Nat.zero_le _) (Nat.zero_le _) (hp _ _ h)
                · rw [if_neg hc22] at h
                  by_cases hc25 : v1 = 18
                  · rw [if_pos hc25] at h
                    refine tj_tableIn (tgt := 167) dX11_readLineOf_1 (by rw [hc25]; decide) (by rw [hc25]; decide) (by rw [hc25]; rfl) rfl ?_
                    refine tj_aload_n rfl dX11_readLineOf_167 rfl ?_
                    refine tj_iload_n rfl dX11_readLineOf_168 rfl ?_
                    refine cf_V11 (a := 81) (z := kX11_readLaw) (As := [_]) rfl rfl dX11_readLineOf_169 rfl ml_X11_238 okX11_readLaw rfl (rm_ok rfl) (Nat.le_of_ble_eq_true rfl) (Nat.le_of_ble_eq_true rfl) rfl rfl ?_
                    refine ctX11_readLaw h (fun M26 t27 h => ?_)
                    exact tj_return dX11_readLineOf_172 rfl (Nat.zero_le _) (Nat.zero_le _) (hp _ _ h)
                  · rw [if_neg hc25] at h
                    by_cases hc28 : v1 = 19
                    · rw [if_pos hc28] at h
                      refine tj_tableIn (tgt := 167) dX11_readLineOf_1 (by rw [hc28]; decide) (by rw [hc28]; decide) (by rw [hc28]; rfl) rfl ?_
                      refine tj_aload_n rfl dX11_readLineOf_167 rfl ?_
                      refine tj_iload_n rfl dX11_readLineOf_168 rfl ?_
                      refine cf_V11 (a := 81) (z := kX11_readLaw) (As := [_]) rfl rfl dX11_readLineOf_169 rfl ml_X11_238 okX11_readLaw rfl (rm_ok rfl) (Nat.le_of_ble_eq_true rfl) (Nat.le_of_ble_eq_true rfl) rfl rfl ?_
                      refine ctX11_readLaw h (fun M29 t30 h => ?_)
                      exact tj_return dX11_readLineOf_172 rfl (Nat.zero_le _) (Nat.zero_le _) (hp _ _ h)
                    · rw [if_neg hc28] at h
                      by_cases hc31 : v1 = 20
                      · rw [if_pos hc31] at h
                        refine tj_tableIn (tgt := 153) dX11_readLineOf_1 (by rw [hc31]; decide) (by rw [hc31]; decide) (by rw [hc31]; rfl) rfl ?_
                        refine tj_aload_n rfl dX11_readLineOf_153 rfl ?_
                        refine cf_V11 (a := 81) (z := kX11_readThing) (As := []) rfl rfl dX11_readLineOf_154 rfl ml_X11_232 okX11_readThing rfl (rm_ok rfl) (Nat.le_of_ble_eq_true rfl) (Nat.le_of_ble_eq_true rfl) rfl rfl ?_
                        refine ctX11_readThing h (fun M32 t33 h => ?_)
                        refine tj_goto (tgt := 172) rfl dX11_readLineOf_157 ?_
                        exact tj_return dX11_readLineOf_172 rfl (Nat.zero_le _) (Nat.zero_le _) (hp _ _ h)
                      · rw [if_neg hc31] at h
                        by_cases hc34 : v1 = 21
                        · rw [if_pos hc34] at h
                          refine tj_tableIn (tgt := 160) dX11_readLineOf_1 (by rw [hc34]; decide) (by rw [hc34]; decide) (by rw [hc34]; rfl) rfl ?_
                          refine tj_aload_n rfl dX11_readLineOf_160 rfl ?_
                          refine cf_V11 (a := 81) (z := kX11_readWork) (As := []) rfl rfl dX11_readLineOf_161 rfl ml_X11_235 okX11_readWork rfl (rm_ok rfl) (Nat.le_of_ble_eq_true rfl) (Nat.le_of_ble_eq_true rfl) rfl rfl ?_
                          refine ctX11_readWork h (fun M35 t36 h => ?_)
                          refine tj_goto (tgt := 172) rfl dX11_readLineOf_164 ?_
                          exact tj_return dX11_readLineOf_172 rfl (Nat.zero_le _) (Nat.zero_le _) (hp _ _ h)
                        · rw [if_neg hc34] at h
                          have hz0 := lv_neT (a := 10) hc1 rfl
                          have hz1 := lv_neT (a := 11) hc6 rfl
                          have hz2 := lv_neT (a := 12) hc11 rfl
                          have hz3 := lv_neT (a := 13) hc16 rfl
                          have hz4 := lv_neT (a := 14) hc17 rfl
                          have hz5 := lv_neT (a := 15) hc18 rfl
                          have hz6 := lv_neT (a := 16) hc19 rfl
                          have hz7 := lv_neT (a := 17) hc22 rfl
                          have hz8 := lv_neT (a := 18) hc25 rfl
                          have hz9 := lv_neT (a := 19) hc28 rfl
                          have hz10 := lv_neT (a := 20) hc31 rfl
                          have hz11 := lv_neT (a := 21) hc34 rfl
                          refine tj_tableOut (tgt := 167) dX11_readLineOf_1 (by omega) rfl ?_
                          refine tj_aload_n rfl dX11_readLineOf_167 rfl ?_
                          refine tj_iload_n rfl dX11_readLineOf_168 rfl ?_
                          refine cf_V11 (a := 81) (z := kX11_readLaw) (As := [_]) rfl rfl dX11_readLineOf_169 rfl ml_X11_238 okX11_readLaw rfl (rm_ok rfl) (Nat.le_of_ble_eq_true rfl) (Nat.le_of_ble_eq_true rfl) rfl rfl ?_
                          refine ctX11_readLaw h (fun M37 t38 h => ?_)
                          exact tj_return dX11_readLineOf_172 rfl (Nat.zero_le _) (Nat.zero_le _) (hp _ _ h)
def wX11_readLine_150 (post : MM → Int64 → Prop) (M : MM) (tl : Int64) : Prop :=
  wpX11_next (fun M1 t2 => post M1 t2) M tl 
set_option maxHeartbeats 4000000 in
set_option maxRecDepth 20000 in
theorem bX11_readLine_150 {E : EV} {ad : Nat → Nat} {M : MM} {tl : Int64} {Φ : Option Value → va_W → Prop} {post : MM → Int64 → Prop} (hp : ∀ M tl, post M tl → Φ none (WM E ad M tl)) (h : wX11_readLine_150 post M tl ) : T E kX11_readLine 0 0 (WM E ad M tl) 150 [(0, .ref (ad (81)))] [] Φ := by
  unfold wX11_readLine_150 at h
  refine tj_aload_n rfl dX11_readLine_150 rfl ?_
  refine cf_V11 (a := 81) (z := kX11_next) (As := []) rfl rfl dX11_readLine_151 rfl ml_X11_200 okX11_next rfl (rm_ok rfl) (Nat.le_of_ble_eq_true rfl) (Nat.le_of_ble_eq_true rfl) rfl rfl ?_
  refine ctX11_next h (fun M1 t2 h => ?_)
  exact tj_return dX11_readLine_154 rfl (Nat.zero_le _) (Nat.zero_le _) (hp _ _ h)
def wX11_readLine_146 (post : MM → Int64 → Prop) (M : MM) (tl : Int64) (s1 : Int32) : Prop :=
  wpX11_needs (fun M1 t2 => wX11_readLine_150 post  M1 t2) M tl s1 2
set_option maxHeartbeats 4000000 in
set_option maxRecDepth 20000 in
theorem bX11_readLine_146 {E : EV} {ad : Nat → Nat} {M : MM} {tl : Int64} {Φ : Option Value → va_W → Prop} {post : MM → Int64 → Prop} {s1 : Int32} (hp : ∀ M tl, post M tl → Φ none (WM E ad M tl)) (h : wX11_readLine_146 post M tl s1) : T E kX11_readLine 0 0 (WM E ad M tl) 146 [(0, .ref (ad (81)))] [.int s1, .ref (ad (81))] Φ := by
  unfold wX11_readLine_146 at h
  refine tj_iconst (v := 2) rfl dX11_readLine_146 (by decide) ?_
  refine cf_V11 (a := 81) (z := kX11_needs) (As := [_, _]) rfl rfl dX11_readLine_147 rfl ml_X11_192 okX11_needs rfl (rm_ok rfl) (Nat.le_of_ble_eq_true rfl) (Nat.le_of_ble_eq_true rfl) rfl rfl ?_
  refine ctX11_needs h (fun M1 t2 h => ?_)
  exact bX11_readLine_150 hp  h
def wX11_readLine_108 (post : MM → Int64 → Prop) (M : MM) (tl : Int64) (v1 : Int32) : Prop :=
  wpX11_next (fun M1 t2 => (if (M1 81 36) ≤ 0 then wpX11_readLineOf (fun M3 t4 => (if (M3 81 36) = 0 then (if (M3 81 34) = 3 then wX11_readLine_146 post  M3 t4 1 else wX11_readLine_146 post  M3 t4 0) else wX11_readLine_150 post  M3 t4)) M1 t2 v1 else post M1 t2)) M tl 
set_option maxHeartbeats 4000000 in
set_option maxRecDepth 20000 in
theorem bX11_readLine_108 {E : EV} {ad : Nat → Nat} {M : MM} {tl : Int64} {Φ : Option Value → va_W → Prop} {post : MM → Int64 → Prop} {v1 : Int32} (hp : ∀ M tl, post M tl → Φ none (WM E ad M tl)) (h : wX11_readLine_108 post M tl v1) : T E kX11_readLine 0 0 (WM E ad M tl) 108 [(0, .ref (ad (81))), (1, .int v1)] [] Φ := by
  unfold wX11_readLine_108 at h
  refine tj_aload_n rfl dX11_readLine_108 rfl ?_
  refine cf_V11 (a := 81) (z := kX11_next) (As := []) rfl rfl dX11_readLine_109 rfl ml_X11_200 okX11_next rfl (rm_ok rfl) (Nat.le_of_ble_eq_true rfl) (Nat.le_of_ble_eq_true rfl) rfl rfl ?_
  refine ctX11_next h (fun M1 t2 h => ?_)
  refine tj_aload_n rfl dX11_readLine_112 rfl ?_
  refine gf11_fault (a := 81) rfl rfl dX11_readLine_113 fl_X11_150 ?_
  refine tj_if_le (tgt := 120) rfl rfl dX11_readLine_116 (fun hc => ?_) (fun hc => ?_)
  · rw [if_pos hc] at h
    refine tj_aload_n rfl dX11_readLine_120 rfl ?_
    refine tj_iload_n rfl dX11_readLine_121 rfl ?_
    refine cf_V11 (a := 81) (z := kX11_readLineOf) (As := [_]) rfl rfl dX11_readLine_122 rfl ml_X11_245 okX11_readLineOf rfl (rm_ok rfl) (Nat.le_of_ble_eq_true rfl) (Nat.le_of_ble_eq_true rfl) rfl rfl ?_
    refine ctX11_readLineOf h (fun M3 t4 h => ?_)
    refine tj_aload_n rfl dX11_readLine_125 rfl ?_
    refine gf11_fault (a := 81) rfl rfl dX11_readLine_126 fl_X11_150 ?_
    refine tj_if_ne (tgt := 150) rfl rfl dX11_readLine_129 (fun hc => ?_) (fun hc => ?_)
    · rw [if_neg hc] at h
      exact tj_pick (l' := [(0, _)]) [0] rfl (bX11_readLine_150 hp  h)
    · rw [if_pos hc] at h
      refine tj_aload_n rfl dX11_readLine_132 rfl ?_
      refine tj_aload_n rfl dX11_readLine_133 rfl ?_
      refine gf11_sort (a := 81) rfl rfl dX11_readLine_134 fl_X11_178 ?_
      refine tj_iconst (v := 3) rfl dX11_readLine_137 (by decide) ?_
      refine tj_icmp_ne (tgt := 145) rfl rfl dX11_readLine_138 (fun hc => ?_) (fun hc => ?_)
      · rw [if_neg hc] at h
        refine tj_iconst (v := 0) rfl dX11_readLine_145 (by decide) ?_
        exact tj_pick (l' := [(0, _)]) [0] rfl (bX11_readLine_146 hp  h)
      · rw [if_pos hc] at h
        refine tj_iconst (v := 1) rfl dX11_readLine_141 (by decide) ?_
        refine tj_goto (tgt := 146) rfl dX11_readLine_142 ?_
        exact tj_pick (l' := [(0, _)]) [0] rfl (bX11_readLine_146 hp  h)
  · rw [if_neg hc] at h
    exact tj_return dX11_readLine_119 rfl (Nat.zero_le _) (Nat.zero_le _) (hp _ _ h)
def wX11_readLine_92 (post : MM → Int64 → Prop) (M : MM) (tl : Int64) (v1 : Int32) (s1 : Int32) : Prop :=
  wpX11_needs (fun M1 t2 => (∀ M3 : MM, M3 = mset M1 81 23 ((M1 81 23) ||| ((1 : Int32) <<< (v1 &&& 31))) → wX11_readLine_108 post  M3 t2 v1)) M tl s1 4
set_option maxHeartbeats 4000000 in
set_option maxRecDepth 20000 in
theorem bX11_readLine_92 {E : EV} {ad : Nat → Nat} {M : MM} {tl : Int64} {Φ : Option Value → va_W → Prop} {post : MM → Int64 → Prop} {v1 : Int32} {s1 : Int32} (hp : ∀ M tl, post M tl → Φ none (WM E ad M tl)) (h : wX11_readLine_92 post M tl v1 s1) : T E kX11_readLine 0 0 (WM E ad M tl) 92 [(0, .ref (ad (81))), (1, .int v1)] [.int s1, .ref (ad (81))] Φ := by
  unfold wX11_readLine_92 at h
  refine tj_iconst (v := 4) rfl dX11_readLine_92 (by decide) ?_
  refine cf_V11 (a := 81) (z := kX11_needs) (As := [_, _]) rfl rfl dX11_readLine_93 rfl ml_X11_192 okX11_needs rfl (rm_ok rfl) (Nat.le_of_ble_eq_true rfl) (Nat.le_of_ble_eq_true rfl) rfl rfl ?_
  refine ctX11_needs h (fun M1 t2 h => ?_)
  refine tj_aload_n rfl dX11_readLine_96 rfl ?_
  refine tj_dup rfl dX11_readLine_97 rfl ?_
  refine gf11_toldLines (a := 81) rfl rfl dX11_readLine_98 fl_X11_108 ?_
  refine tj_iconst (v := 1) rfl dX11_readLine_101 (by decide) ?_
  refine tj_iload_n rfl dX11_readLine_102 rfl ?_
  refine tj_ishl rfl dX11_readLine_103 ?_
  refine tj_ior rfl dX11_readLine_104 ?_
  refine pf11_toldLines (a := 81) rfl rfl dX11_readLine_105 fl_X11_108 ?_
  replace h := h _ rfl
  generalize mset M1 81 23 ((M1 81 23) ||| ((1 : Int32) <<< (v1 &&& 31))) = M3 at h ⊢
  exact bX11_readLine_108 hp  h
def wX11_readLine_58 (post : MM → Int64 → Prop) (M : MM) (tl : Int64) (v1 : Int32) (s1 : Int32) : Prop :=
  wpX11_needs (fun M1 t2 => (if (M1 81 36) = 0 then (if 13 < v1 then wX11_readLine_108 post  M1 t2 v1 else (if (((M1 81 23) >>> (v1 &&& 31)) &&& 1) = 0 then wX11_readLine_92 post  M1 t2 v1 1 else wX11_readLine_92 post  M1 t2 v1 0)) else wX11_readLine_108 post  M1 t2 v1)) M tl s1 5
set_option maxHeartbeats 4000000 in
set_option maxRecDepth 20000 in
theorem bX11_readLine_58 {E : EV} {ad : Nat → Nat} {M : MM} {tl : Int64} {Φ : Option Value → va_W → Prop} {post : MM → Int64 → Prop} {v1 : Int32} {s1 : Int32} (hp : ∀ M tl, post M tl → Φ none (WM E ad M tl)) (h : wX11_readLine_58 post M tl v1 s1) : T E kX11_readLine 0 0 (WM E ad M tl) 58 [(0, .ref (ad (81))), (1, .int v1)] [.int s1, .ref (ad (81))] Φ := by
  unfold wX11_readLine_58 at h
  refine tj_iconst (v := 5) rfl dX11_readLine_58 (by decide) ?_
  refine cf_V11 (a := 81) (z := kX11_needs) (As := [_, _]) rfl rfl dX11_readLine_59 rfl ml_X11_192 okX11_needs rfl (rm_ok rfl) (Nat.le_of_ble_eq_true rfl) (Nat.le_of_ble_eq_true rfl) rfl rfl ?_
  refine ctX11_needs h (fun M1 t2 h => ?_)
  refine tj_aload_n rfl dX11_readLine_62 rfl ?_
  refine gf11_fault (a := 81) rfl rfl dX11_readLine_63 fl_X11_150 ?_
  refine tj_if_ne (tgt := 108) rfl rfl dX11_readLine_66 (fun hc => ?_) (fun hc => ?_)
  · rw [if_neg hc] at h
    exact bX11_readLine_108 hp  h
  · rw [if_pos hc] at h
    refine tj_iload_n rfl dX11_readLine_69 rfl ?_
    refine tj_bipush (v := 13) rfl dX11_readLine_70 (by decide) ?_
    refine tj_icmp_gt (tgt := 108) rfl rfl dX11_readLine_72 (fun hc => ?_) (fun hc => ?_)
    · rw [if_pos hc] at h
      exact bX11_readLine_108 hp  h
    · rw [if_neg hc] at h
      refine tj_aload_n rfl dX11_readLine_75 rfl ?_
      refine tj_aload_n rfl dX11_readLine_76 rfl ?_
      refine gf11_toldLines (a := 81) rfl rfl dX11_readLine_77 fl_X11_108 ?_
      refine tj_iload_n rfl dX11_readLine_80 rfl ?_
      refine tj_ishr rfl dX11_readLine_81 ?_
      refine tj_iconst (v := 1) rfl dX11_readLine_82 (by decide) ?_
      refine tj_iand rfl dX11_readLine_83 ?_
      refine tj_if_ne (tgt := 91) rfl rfl dX11_readLine_84 (fun hc => ?_) (fun hc => ?_)
      · rw [if_neg hc] at h
        refine tj_iconst (v := 0) rfl dX11_readLine_91 (by decide) ?_
        exact bX11_readLine_92 hp  h
      · rw [if_pos hc] at h
        refine tj_iconst (v := 1) rfl dX11_readLine_87 (by decide) ?_
        refine tj_goto (tgt := 92) rfl dX11_readLine_88 ?_
        exact bX11_readLine_92 hp  h
def wX11_readLine_53 (post : MM → Int64 → Prop) (M : MM) (tl : Int64) (v1 : Int32) : Prop :=
  wX11_readLine_58 post  M tl v1 1
set_option maxHeartbeats 4000000 in
set_option maxRecDepth 20000 in
theorem bX11_readLine_53 {E : EV} {ad : Nat → Nat} {M : MM} {tl : Int64} {Φ : Option Value → va_W → Prop} {post : MM → Int64 → Prop} {v1 : Int32} (hp : ∀ M tl, post M tl → Φ none (WM E ad M tl)) (h : wX11_readLine_53 post M tl v1) : T E kX11_readLine 0 0 (WM E ad M tl) 53 [(0, .ref (ad (81))), (1, .int v1)] [.ref (ad (81))] Φ := by
  unfold wX11_readLine_53 at h
  refine tj_iconst (v := 1) rfl dX11_readLine_53 (by decide) ?_
  refine tj_goto (tgt := 58) rfl dX11_readLine_54 ?_
  exact bX11_readLine_58 hp  h
def wX11_readLine_30 (post : MM → Int64 → Prop) (M : MM) (tl : Int64) (v1 : Int32) (s1 : Int32) : Prop :=
  wpX11_needs (fun M1 t2 => (if v1 = 21 then (vp_in 16 (al 90) ∧ (if 12 ≤ (M1 90 (16 : Int32).toNatClampNeg) then wX11_readLine_58 post  M1 t2 v1 0 else wX11_readLine_53 post  M1 t2 v1)) else wX11_readLine_53 post  M1 t2 v1)) M tl s1 2
set_option maxHeartbeats 4000000 in
set_option maxRecDepth 20000 in
theorem bX11_readLine_30 {E : EV} {ad : Nat → Nat} {M : MM} {tl : Int64} {Φ : Option Value → va_W → Prop} {post : MM → Int64 → Prop} {v1 : Int32} {s1 : Int32} (hp : ∀ M tl, post M tl → Φ none (WM E ad M tl)) (h : wX11_readLine_30 post M tl v1 s1) : T E kX11_readLine 0 0 (WM E ad M tl) 30 [(0, .ref (ad (81))), (1, .int v1)] [.int s1, .ref (ad (81))] Φ := by
  unfold wX11_readLine_30 at h
  refine tj_iconst (v := 2) rfl dX11_readLine_30 (by decide) ?_
  refine cf_V11 (a := 81) (z := kX11_needs) (As := [_, _]) rfl rfl dX11_readLine_31 rfl ml_X11_192 okX11_needs rfl (rm_ok rfl) (Nat.le_of_ble_eq_true rfl) (Nat.le_of_ble_eq_true rfl) rfl rfl ?_
  refine ctX11_needs h (fun M1 t2 h => ?_)
  refine tj_aload_n rfl dX11_readLine_34 rfl ?_
  refine tj_iload_n rfl dX11_readLine_35 rfl ?_
  refine tj_bipush (v := 21) rfl dX11_readLine_36 (by decide) ?_
  refine tj_icmp_ne (tgt := 53) rfl rfl dX11_readLine_38 (fun hc => ?_) (fun hc => ?_)
  · rw [if_neg hc] at h
    exact bX11_readLine_53 hp  h
  · rw [if_pos hc] at h
    refine tj_aload_n rfl dX11_readLine_41 rfl ?_
    refine gf11_draft (a := 81) rfl rfl dX11_readLine_42 fl_X11_35 ?_
    refine tj_bipush (v := 16) rfl dX11_readLine_45 (by decide) ?_
    obtain ⟨hi3, h⟩ := h
    refine af_iald (a := 90) rfl rfl dX11_readLine_47 hi3 ?_
    refine tj_bipush (v := 12) rfl dX11_readLine_48 (by decide) ?_
    refine tj_icmp_ge (tgt := 57) rfl rfl dX11_readLine_50 (fun hc => ?_) (fun hc => ?_)
    · rw [if_pos hc] at h
      refine tj_iconst (v := 0) rfl dX11_readLine_57 (by decide) ?_
      exact bX11_readLine_58 hp  h
    · rw [if_neg hc] at h
      exact bX11_readLine_53 hp  h
def wX11_readLine_17 (post : MM → Int64 → Prop) (M : MM) (tl : Int64) (s0 : Int32) : Prop :=
  (if s0 = (-4) then wX11_readLine_30 post  M tl s0 0 else wX11_readLine_30 post  M tl s0 1)
set_option maxHeartbeats 4000000 in
set_option maxRecDepth 20000 in
theorem bX11_readLine_17 {E : EV} {ad : Nat → Nat} {M : MM} {tl : Int64} {Φ : Option Value → va_W → Prop} {post : MM → Int64 → Prop} {s0 : Int32} (hp : ∀ M tl, post M tl → Φ none (WM E ad M tl)) (h : wX11_readLine_17 post M tl s0) : T E kX11_readLine 0 0 (WM E ad M tl) 17 [(0, .ref (ad (81)))] [.int s0] Φ := by
  unfold wX11_readLine_17 at h
  refine tj_istore_n (l' := [(0, _), (1, _)]) rfl dX11_readLine_17 (by decide) rfl ?_
  refine tj_aload_n rfl dX11_readLine_18 rfl ?_
  refine tj_iload_n rfl dX11_readLine_19 rfl ?_
  refine tj_bipush (v := -4) rfl dX11_readLine_20 (by decide) ?_
  refine tj_icmp_eq (tgt := 29) rfl rfl dX11_readLine_22 (fun hc => ?_) (fun hc => ?_)
  · rw [if_pos hc] at h
    refine tj_iconst (v := 0) rfl dX11_readLine_29 (by decide) ?_
    exact bX11_readLine_30 hp  h
  · rw [if_neg hc] at h
    refine tj_iconst (v := 1) rfl dX11_readLine_25 (by decide) ?_
    refine tj_goto (tgt := 30) rfl dX11_readLine_26 ?_
    exact bX11_readLine_30 hp  h
def wpX11_readLine (post : MM → Int64 → Prop) (M : MM) (tl : Int64) : Prop :=
  (if (M 81 34) = 1 then wpX11_lineNow (fun r3 M1 t2 => wX11_readLine_17 post  M1 t2 r3) M tl  else wX11_readLine_17 post  M tl (-4))
set_option maxHeartbeats 4000000 in
set_option maxRecDepth 20000 in
theorem ctX11_readLine {E : EV} {ad : Nat → Nat} {M : MM} {tl : Int64} {Φ : Option Value → va_W → Prop} {post : MM → Int64 → Prop} (h : wpX11_readLine post M tl ) (hp : ∀ M tl, post M tl → Φ none (WM E ad M tl)) : Tm E kX11_readLine (WM E ad M tl) [.ref (ad (81))] Φ := by
  unfold wpX11_readLine at h
  show T E kX11_readLine 0 0 (WM E ad M tl) 0 [(0, .ref (ad (81)))] [] Φ
  refine tj_aload_n rfl dX11_readLine_0 rfl ?_
  refine gf11_sort (a := 81) rfl rfl dX11_readLine_1 fl_X11_178 ?_
  refine tj_iconst (v := 1) rfl dX11_readLine_4 (by decide) ?_
  refine tj_icmp_ne (tgt := 15) rfl rfl dX11_readLine_5 (fun hc => ?_) (fun hc => ?_)
  · rw [if_neg hc] at h
    refine tj_bipush (v := -4) rfl dX11_readLine_15 (by decide) ?_
    exact bX11_readLine_17 hp  h
  · rw [if_pos hc] at h
    refine tj_aload_n rfl dX11_readLine_8 rfl ?_
    refine cf_V11 (a := 81) (z := kX11_lineNow) (As := []) rfl rfl dX11_readLine_9 rfl ml_X11_242 okX11_lineNow rfl (rm_ok rfl) (Nat.le_of_ble_eq_true rfl) (Nat.le_of_ble_eq_true rfl) rfl rfl ?_
    refine ctX11_lineNow h (fun r3 M1 t2 h => ?_)
    refine tj_goto (tgt := 17) rfl dX11_readLine_12 ?_
    exact bX11_readLine_17 hp  h
def wX11_text_73 (post : Int32 → MM → Int64 → Prop) (M : MM) (tl : Int64) (v1 : Int32) : Prop :=
  (∀ M1 : MM, M1 = mset M 81 31 0 → (if (M1 81 36) ≤ 0 then wpX11_keepDraft (fun M2 t3 => post v1 M2 t3) M1 tl  else post (((-10) : Int32) - (M1 81 37)) M1 tl))
set_option maxHeartbeats 4000000 in
set_option maxRecDepth 20000 in
theorem bX11_text_73 {E : EV} {ad : Nat → Nat} {M : MM} {tl : Int64} {Φ : Option Value → va_W → Prop} {post : Int32 → MM → Int64 → Prop} {v1 : Int32} (hp : ∀ r M tl, post r M tl → Φ (some (.int r)) (WM E ad M tl)) (h : wX11_text_73 post M tl v1) : T E kX11_text 0 0 (WM E ad M tl) 73 [(0, .ref (ad (81))), (1, .int v1)] [] Φ := by
  unfold wX11_text_73 at h
  refine tj_aload_n rfl dX11_text_73 rfl ?_
  refine tj_iconst (v := 0) rfl dX11_text_74 (by decide) ?_
  refine pf11_taped (a := 81) rfl rfl dX11_text_75 fl_X11_141 ?_
  replace h := h _ rfl
  generalize mset M 81 31 0 = M1 at h ⊢
  refine tj_aload_n rfl dX11_text_78 rfl ?_
  refine gf11_fault (a := 81) rfl rfl dX11_text_79 fl_X11_150 ?_
  refine tj_if_le (tgt := 93) rfl rfl dX11_text_82 (fun hc => ?_) (fun hc => ?_)
  · rw [if_pos hc] at h
    refine tj_aload_n rfl dX11_text_93 rfl ?_
    refine cf_V11 (a := 81) (z := kX11_keepDraft) (As := []) rfl rfl dX11_text_94 rfl ml_X11_92 okX11_keepDraft rfl (rm_ok rfl) (Nat.le_of_ble_eq_true rfl) (Nat.le_of_ble_eq_true rfl) rfl rfl ?_
    refine ctX11_keepDraft h (fun M2 t3 h => ?_)
    refine tj_iload_n rfl dX11_text_97 rfl ?_
    exact tj_ireturn (ty := .int) dX11_text_98 rfl rfl (Nat.zero_le _) (Nat.zero_le _) (hp _ _ _ h)
  · rw [if_neg hc] at h
    refine tj_bipush (v := -10) rfl dX11_text_85 (by decide) ?_
    refine tj_aload_n rfl dX11_text_87 rfl ?_
    refine gf11_wrongAt (a := 81) rfl rfl dX11_text_88 fl_X11_156 ?_
    refine tj_isub rfl dX11_text_91 ?_
    exact tj_ireturn (ty := .int) dX11_text_92 rfl rfl (Nat.zero_le _) (Nat.zero_le _) (hp _ _ _ h)
def wX11_text_68 (post : Int32 → MM → Int64 → Prop) (M : MM) (tl : Int64) (v1 : Int32) (s1 : Int32) : Prop :=
  wpX11_needs (fun M1 t2 => wX11_text_73 post  M1 t2 v1) M tl s1 6
set_option maxHeartbeats 4000000 in
set_option maxRecDepth 20000 in
theorem bX11_text_68 {E : EV} {ad : Nat → Nat} {M : MM} {tl : Int64} {Φ : Option Value → va_W → Prop} {post : Int32 → MM → Int64 → Prop} {v1 : Int32} {s1 : Int32} (hp : ∀ r M tl, post r M tl → Φ (some (.int r)) (WM E ad M tl)) (h : wX11_text_68 post M tl v1 s1) : T E kX11_text 0 0 (WM E ad M tl) 68 [(0, .ref (ad (81))), (1, .int v1)] [.int s1, .ref (ad (81))] Φ := by
  unfold wX11_text_68 at h
  refine tj_bipush (v := 6) rfl dX11_text_68 (by decide) ?_
  refine cf_V11 (a := 81) (z := kX11_needs) (As := [_, _]) rfl rfl dX11_text_70 rfl ml_X11_192 okX11_needs rfl (rm_ok rfl) (Nat.le_of_ble_eq_true rfl) (Nat.le_of_ble_eq_true rfl) rfl rfl ?_
  refine ctX11_needs h (fun M1 t2 h => ?_)
  exact bX11_text_73 hp  h
def wX11_text_44 (post : Int32 → MM → Int64 → Prop) (M : MM) (tl : Int64) (v1 : Int32) : Prop :=
  (if (M 81 36) = 0 then (if (M 81 13) ≤ (M 81 29) then wX11_text_68 post  M tl v1 0 else wX11_text_68 post  M tl v1 1) else wX11_text_73 post  M tl v1)
set_option maxHeartbeats 4000000 in
set_option maxRecDepth 20000 in
theorem bX11_text_44 {E : EV} {ad : Nat → Nat} {M : MM} {tl : Int64} {Φ : Option Value → va_W → Prop} {post : Int32 → MM → Int64 → Prop} {v1 : Int32} (hp : ∀ r M tl, post r M tl → Φ (some (.int r)) (WM E ad M tl)) (h : wX11_text_44 post M tl v1) : T E kX11_text 0 0 (WM E ad M tl) 44 [(0, .ref (ad (81))), (1, .int v1)] [] Φ := by
  unfold wX11_text_44 at h
  refine tj_aload_n rfl dX11_text_44 rfl ?_
  refine gf11_fault (a := 81) rfl rfl dX11_text_45 fl_X11_150 ?_
  refine tj_if_ne (tgt := 73) rfl rfl dX11_text_48 (fun hc => ?_) (fun hc => ?_)
  · rw [if_neg hc] at h
    exact bX11_text_73 hp  h
  · rw [if_pos hc] at h
    refine tj_aload_n rfl dX11_text_51 rfl ?_
    refine tj_aload_n rfl dX11_text_52 rfl ?_
    refine gf11_highestLot (a := 81) rfl rfl dX11_text_53 fl_X11_126 ?_
    refine tj_aload_n rfl dX11_text_56 rfl ?_
    refine gf11_dLots (a := 81) rfl rfl dX11_text_57 fl_X11_95 ?_
    refine tj_icmp_ge (tgt := 67) rfl rfl dX11_text_60 (fun hc => ?_) (fun hc => ?_)
    · rw [if_pos hc] at h
      refine tj_iconst (v := 0) rfl dX11_text_67 (by decide) ?_
      exact bX11_text_68 hp  h
    · rw [if_neg hc] at h
      refine tj_iconst (v := 1) rfl dX11_text_63 (by decide) ?_
      refine tj_goto (tgt := 68) rfl dX11_text_64 ?_
      exact bX11_text_68 hp  h
def wX11_text_20 (post : Int32 → MM → Int64 → Prop) : Nat → MM → Int64 → Int32 → Prop
  | 0, _, _, _ => False
  | n + 1, M, tl, v1 =>
    (if (M 81 36) = 0 then (if (M 81 34) = 0 then wX11_text_44 post  M tl v1 else wpX11_readLine (fun M1 t2 => (wX11_text_20 post n) M1 t2 (v1 + 1)) M tl ) else wX11_text_44 post  M tl v1)
set_option maxHeartbeats 4000000 in
set_option maxRecDepth 20000 in
theorem bX11_text_20 {E : EV} {ad : Nat → Nat} {Φ : Option Value → va_W → Prop} {post : Int32 → MM → Int64 → Prop}  (hp : ∀ r M tl, post r M tl → Φ (some (.int r)) (WM E ad M tl)) : ∀ (n : Nat) (M : MM) (tl : Int64) (v1 : Int32), wX11_text_20 post n M tl v1 → T E kX11_text 0 0 (WM E ad M tl) 20 [(0, .ref (ad (81))), (1, .int v1)] [] Φ := by
  intro n
  induction n with
  | zero => intro M tl v1 h; exact False.elim h
  | succ n ih =>
    intro M tl v1 h
    unfold wX11_text_20 at h
    refine tj_aload_n rfl dX11_text_20 rfl ?_
    refine gf11_fault (a := 81) rfl rfl dX11_text_21 fl_X11_150 ?_
    refine tj_if_ne (tgt := 44) rfl rfl dX11_text_24 (fun hc => ?_) (fun hc => ?_)
    · rw [if_neg hc] at h
      exact bX11_text_44 hp  h
    · rw [if_pos hc] at h
      refine tj_aload_n rfl dX11_text_27 rfl ?_
      refine gf11_sort (a := 81) rfl rfl dX11_text_28 fl_X11_178 ?_
      refine tj_if_eq (tgt := 44) rfl rfl dX11_text_31 (fun hc => ?_) (fun hc => ?_)
      · rw [if_pos hc] at h
        exact bX11_text_44 hp  h
      · rw [if_neg hc] at h
        refine tj_aload_n rfl dX11_text_34 rfl ?_
        refine cf_V11 (a := 81) (z := kX11_readLine) (As := []) rfl rfl dX11_text_35 rfl ml_X11_248 okX11_readLine rfl (rm_ok rfl) (Nat.le_of_ble_eq_true rfl) (Nat.le_of_ble_eq_true rfl) rfl rfl ?_
        refine ctX11_readLine h (fun M1 t2 h => ?_)
        refine tj_iinc (v := _ + 1) (l' := [(0, _), (1, _)]) rfl dX11_text_38 rfl (by decide) rfl rfl ?_
        refine tj_goto (tgt := 20) rfl dX11_text_41 ?_
        exact ih _ _ _ h
def wpX11_text (post : Int32 → MM → Int64 → Prop) (M : MM) (tl : Int64) : Prop :=
  (∀ M1 : MM, M1 = mset M 81 36 0 → (∀ M2 : MM, M2 = mset M1 81 32 0 → wpX11_firstDraft (fun M3 t4 => wpX11_next (fun M5 t6 => (∃ n9, wX11_text_20 post  n9 M5 t6 0)) M3 t4 ) M2 tl ))
set_option maxHeartbeats 4000000 in
set_option maxRecDepth 20000 in
theorem ctX11_text {E : EV} {ad : Nat → Nat} {M : MM} {tl : Int64} {Φ : Option Value → va_W → Prop} {post : Int32 → MM → Int64 → Prop} (h : wpX11_text post M tl ) (hp : ∀ r M tl, post r M tl → Φ (some (.int r)) (WM E ad M tl)) : Tm E kX11_text (WM E ad M tl) [.ref (ad (81))] Φ := by
  unfold wpX11_text at h
  show T E kX11_text 0 0 (WM E ad M tl) 0 [(0, .ref (ad (81)))] [] Φ
  refine tj_iconst (v := 0) rfl dX11_text_0 (by decide) ?_
  refine tj_istore_n (l' := [(0, _), (1, _)]) rfl dX11_text_1 (by decide) rfl ?_
  refine tj_aload_n rfl dX11_text_2 rfl ?_
  refine tj_iconst (v := 0) rfl dX11_text_3 (by decide) ?_
  refine pf11_fault (a := 81) rfl rfl dX11_text_4 fl_X11_150 ?_
  replace h := h _ rfl
  generalize mset M 81 36 0 = M1 at h ⊢
  refine tj_aload_n rfl dX11_text_7 rfl ?_
  refine tj_iconst (v := 0) rfl dX11_text_8 (by decide) ?_
  refine pf11_pos (a := 81) rfl rfl dX11_text_9 fl_X11_159 ?_
  replace h := h _ rfl
  generalize mset M1 81 32 0 = M2 at h ⊢
  refine tj_aload_n rfl dX11_text_12 rfl ?_
  refine cf_V11 (a := 81) (z := kX11_firstDraft) (As := []) rfl rfl dX11_text_13 rfl ml_X11_89 okX11_firstDraft rfl (rm_ok rfl) (Nat.le_of_ble_eq_true rfl) (Nat.le_of_ble_eq_true rfl) rfl rfl ?_
  refine ctX11_firstDraft h (fun M3 t4 h => ?_)
  refine tj_aload_n rfl dX11_text_16 rfl ?_
  refine cf_V11 (a := 81) (z := kX11_next) (As := []) rfl rfl dX11_text_17 rfl ml_X11_200 okX11_next rfl (rm_ok rfl) (Nat.le_of_ble_eq_true rfl) (Nat.le_of_ble_eq_true rfl) rfl rfl ?_
  refine ctX11_next h (fun M5 t6 h => ?_)
  obtain ⟨n9, h⟩ := h
  exact bX11_text_20 hp  n9 _ _ _ h
def wpX11_fault (post : Int32 → MM → Int64 → Prop) (M : MM) (tl : Int64) : Prop :=
  post (M 81 36) M tl
set_option maxHeartbeats 4000000 in
set_option maxRecDepth 20000 in
theorem ctX11_fault {E : EV} {ad : Nat → Nat} {M : MM} {tl : Int64} {Φ : Option Value → va_W → Prop} {post : Int32 → MM → Int64 → Prop} (h : wpX11_fault post M tl ) (hp : ∀ r M tl, post r M tl → Φ (some (.int r)) (WM E ad M tl)) : Tm E kX11_fault (WM E ad M tl) [.ref (ad (81))] Φ := by
  unfold wpX11_fault at h
  show T E kX11_fault 0 0 (WM E ad M tl) 0 [(0, .ref (ad (81)))] [] Φ
  refine tj_aload_n rfl dX11_fault_0 rfl ?_
  refine gf11_fault (a := 81) rfl rfl dX11_fault_1 fl_X11_150 ?_
  exact tj_ireturn (ty := .int) dX11_fault_4 rfl rfl (Nat.zero_le _) (Nat.zero_le _) (hp _ _ _ h)
