/-! FORMULAS KEEP CONJUNCTIONS (printed by wip/gen/cj.py) -/
theorem cj_wX1_setFirst_115 {p q s : MM → Int64 → Prop} (hc : ∀ x0 x1, p x0 x1 → q x0 x1 → s x0 x1) : ∀ (d e : Nat) (M : MM) (tl : Int64) (v0 : Nat) (v1 : Int32), wX1_setFirst_115 p d M tl v0 v1 → wX1_setFirst_115 q e M tl v0 v1 → wX1_setFirst_115 s d M tl v0 v1 := by
  intro d
  induction d with
  | zero =>
    intro e M tl v0 v1 h1 h2
    exact h1.elim
  | succ d ih =>
    intro e M tl v0 v1 h1 h2
    cases e with
    | zero => exact h2.elim
    | succ e =>
    unfold wX1_setFirst_115 at h1 h2 ⊢
    refine ifc h1 h2 (fun _ h1 h2 => ?_) (fun _ h1 h2 => ?_)
    · skip
      exact hc _ _ h1 h2
    · skip
      refine anc h1 h2 (fun h1 h2 => ?_)
      refine anc h1 h2 (fun h1 h2 => ?_)
      refine anc h1 h2 (fun h1 h2 => ?_)
      refine alc h1 h2 (fun _ h1 h2 => ?_)
      exact ih _ _ _ _ _ h1 h2
theorem cj_wX1_setFirst_94 {p q s : MM → Int64 → Prop} (hc : ∀ x0 x1, p x0 x1 → q x0 x1 → s x0 x1) : ∀ (d e : Nat) (M : MM) (tl : Int64) (v0 : Nat) (v1 : Int32), wX1_setFirst_94 p d M tl v0 v1 → wX1_setFirst_94 q e M tl v0 v1 → wX1_setFirst_94 s d M tl v0 v1 := by
  intro d
  induction d with
  | zero =>
    intro e M tl v0 v1 h1 h2
    exact h1.elim
  | succ d ih =>
    intro e M tl v0 v1 h1 h2
    cases e with
    | zero => exact h2.elim
    | succ e =>
    unfold wX1_setFirst_94 at h1 h2 ⊢
    refine ifc h1 h2 (fun _ h1 h2 => ?_) (fun _ h1 h2 => ?_)
    · skip
      obtain ⟨d1, h1⟩ := h1
      obtain ⟨d2, h2⟩ := h2
      exact ⟨d1, cj_wX1_setFirst_115 hc  d1 d2 _ _ _ _ h1 h2⟩
    · skip
      refine anc h1 h2 (fun h1 h2 => ?_)
      refine anc h1 h2 (fun h1 h2 => ?_)
      refine anc h1 h2 (fun h1 h2 => ?_)
      refine alc h1 h2 (fun _ h1 h2 => ?_)
      exact ih _ _ _ _ _ h1 h2
theorem cj_wX1_setFirst_56 {p q s : MM → Int64 → Prop} {pbk42 : MM → Int64 → Nat → Int32 → Prop} {qbk42 : MM → Int64 → Nat → Int32 → Prop} {sbk42 : MM → Int64 → Nat → Int32 → Prop} (hc : ∀ x0 x1, p x0 x1 → q x0 x1 → s x0 x1) (hbk42 : ∀ x0 x1 x2 x3, pbk42 x0 x1 x2 x3 → qbk42 x0 x1 x2 x3 → sbk42 x0 x1 x2 x3) : ∀ (d e : Nat) (M : MM) (tl : Int64) (v0 : Nat) (v1 : Int32) (v2 : Int32), wX1_setFirst_56 p pbk42 d M tl v0 v1 v2 → wX1_setFirst_56 q qbk42 e M tl v0 v1 v2 → wX1_setFirst_56 s sbk42 d M tl v0 v1 v2 := by
  intro d
  induction d with
  | zero =>
    intro e M tl v0 v1 v2 h1 h2
    exact h1.elim
  | succ d ih =>
    intro e M tl v0 v1 v2 h1 h2
    cases e with
    | zero => exact h2.elim
    | succ e =>
    unfold wX1_setFirst_56 at h1 h2 ⊢
    refine ifc h1 h2 (fun _ h1 h2 => ?_) (fun _ h1 h2 => ?_)
    · skip
      exact hbk42 _ _ _ _ h1 h2
    · skip
      refine anc h1 h2 (fun h1 h2 => ?_)
      refine anc h1 h2 (fun h1 h2 => ?_)
      refine anc h1 h2 (fun h1 h2 => ?_)
      refine anc h1 h2 (fun h1 h2 => ?_)
      refine anc h1 h2 (fun h1 h2 => ?_)
      refine alc h1 h2 (fun _ h1 h2 => ?_)
      refine anc h1 h2 (fun h1 h2 => ?_)
      refine anc h1 h2 (fun h1 h2 => ?_)
      refine anc h1 h2 (fun h1 h2 => ?_)
      refine anc h1 h2 (fun h1 h2 => ?_)
      refine anc h1 h2 (fun h1 h2 => ?_)
      refine alc h1 h2 (fun _ h1 h2 => ?_)
      exact ih _ _ _ _ _ _ h1 h2
theorem cj_wX1_setFirst_42 {p q s : MM → Int64 → Prop} (hc : ∀ x0 x1, p x0 x1 → q x0 x1 → s x0 x1) : ∀ (d e : Nat) (M : MM) (tl : Int64) (v0 : Nat) (v1 : Int32), wX1_setFirst_42 p d M tl v0 v1 → wX1_setFirst_42 q e M tl v0 v1 → wX1_setFirst_42 s d M tl v0 v1 := by
  intro d
  induction d with
  | zero =>
    intro e M tl v0 v1 h1 h2
    exact h1.elim
  | succ d ih =>
    intro e M tl v0 v1 h1 h2
    cases e with
    | zero => exact h2.elim
    | succ e =>
    unfold wX1_setFirst_42 at h1 h2 ⊢
    refine ifc h1 h2 (fun _ h1 h2 => ?_) (fun _ h1 h2 => ?_)
    · skip
      obtain ⟨d1, h1⟩ := h1
      obtain ⟨d2, h2⟩ := h2
      exact ⟨d1, cj_wX1_setFirst_94 hc  d1 d2 _ _ _ _ h1 h2⟩
    · skip
      refine anc h1 h2 (fun h1 h2 => ?_)
      refine anc h1 h2 (fun h1 h2 => ?_)
      refine anc h1 h2 (fun h1 h2 => ?_)
      refine alc h1 h2 (fun _ h1 h2 => ?_)
      obtain ⟨d1, h1⟩ := h1
      obtain ⟨d2, h2⟩ := h2
      exact ⟨d1, cj_wX1_setFirst_56 hc (fun _ _ _ _ h1 h2 => ih _ _ _ _ _ h1 h2) d1 d2 _ _ _ _ _ h1 h2⟩
theorem cj_wX1_setFirst_22 {p q s : MM → Int64 → Prop} (hc : ∀ x0 x1, p x0 x1 → q x0 x1 → s x0 x1) : ∀ (d e : Nat) (M : MM) (tl : Int64) (v0 : Nat) (v1 : Int32), wX1_setFirst_22 p d M tl v0 v1 → wX1_setFirst_22 q e M tl v0 v1 → wX1_setFirst_22 s d M tl v0 v1 := by
  intro d
  induction d with
  | zero =>
    intro e M tl v0 v1 h1 h2
    exact h1.elim
  | succ d ih =>
    intro e M tl v0 v1 h1 h2
    cases e with
    | zero => exact h2.elim
    | succ e =>
    unfold wX1_setFirst_22 at h1 h2 ⊢
    refine ifc h1 h2 (fun _ h1 h2 => ?_) (fun _ h1 h2 => ?_)
    · skip
      obtain ⟨d1, h1⟩ := h1
      obtain ⟨d2, h2⟩ := h2
      exact ⟨d1, cj_wX1_setFirst_42 hc  d1 d2 _ _ _ _ h1 h2⟩
    · skip
      refine anc h1 h2 (fun h1 h2 => ?_)
      refine anc h1 h2 (fun h1 h2 => ?_)
      refine anc h1 h2 (fun h1 h2 => ?_)
      refine alc h1 h2 (fun _ h1 h2 => ?_)
      exact ih _ _ _ _ _ h1 h2
theorem cj_wpX1_setFirst {p q s : MM → Int64 → Prop} (hc : ∀ x0 x1, p x0 x1 → q x0 x1 → s x0 x1) {M : MM} {tl : Int64} {v0 : Nat} (h1 : wpX1_setFirst p M tl v0) (h2 : wpX1_setFirst q M tl v0) : wpX1_setFirst s M tl v0 := by
  unfold wpX1_setFirst at h1 h2 ⊢
  refine anc h1 h2 (fun h1 h2 => ?_)
  refine alc h1 h2 (fun _ h1 h2 => ?_)
  refine anc h1 h2 (fun h1 h2 => ?_)
  refine alc h1 h2 (fun _ h1 h2 => ?_)
  refine anc h1 h2 (fun h1 h2 => ?_)
  refine alc h1 h2 (fun _ h1 h2 => ?_)
  refine anc h1 h2 (fun h1 h2 => ?_)
  refine alc h1 h2 (fun _ h1 h2 => ?_)
  obtain ⟨d1, h1⟩ := h1
  obtain ⟨d2, h2⟩ := h2
  exact ⟨d1, cj_wX1_setFirst_22 hc  d1 d2 _ _ _ _ h1 h2⟩
theorem cj_wpX5_empty {p q s : Int32 → MM → Int64 → Prop} (hc : ∀ x0 x1 x2, p x0 x1 x2 → q x0 x1 x2 → s x0 x1 x2) {M : MM} {tl : Int64} {v0 : Nat} (h1 : wpX5_empty p M tl v0) (h2 : wpX5_empty q M tl v0) : wpX5_empty s M tl v0 := by
  unfold wpX5_empty at h1 h2 ⊢
  refine anc h1 h2 (fun h1 h2 => ?_)
  refine anc h1 h2 (fun h1 h2 => ?_)
  refine alc h1 h2 (fun _ h1 h2 => ?_)
  exact hc _ _ _ h1 h2
theorem cj_wX7_clear_2 {p q s : MM → Int64 → Prop} (hc : ∀ x0 x1, p x0 x1 → q x0 x1 → s x0 x1) : ∀ (d e : Nat) (M : MM) (tl : Int64) (v0 : Nat) (v1 : Int32), wX7_clear_2 p d M tl v0 v1 → wX7_clear_2 q e M tl v0 v1 → wX7_clear_2 s d M tl v0 v1 := by
  intro d
  induction d with
  | zero =>
    intro e M tl v0 v1 h1 h2
    exact h1.elim
  | succ d ih =>
    intro e M tl v0 v1 h1 h2
    cases e with
    | zero => exact h2.elim
    | succ e =>
    unfold wX7_clear_2 at h1 h2 ⊢
    refine ifc h1 h2 (fun _ h1 h2 => ?_) (fun _ h1 h2 => ?_)
    · skip
      refine anc h1 h2 (fun h1 h2 => ?_)
      refine anc h1 h2 (fun h1 h2 => ?_)
      refine cj_wpX5_empty (fun _ _ _ h1 h2 => ?_) h1 h2
      refine anc h1 h2 (fun h1 h2 => ?_)
      refine anc h1 h2 (fun h1 h2 => ?_)
      refine cj_wpX5_empty (fun _ _ _ h1 h2 => ?_) h1 h2
      refine anc h1 h2 (fun h1 h2 => ?_)
      refine anc h1 h2 (fun h1 h2 => ?_)
      refine cj_wpX5_empty (fun _ _ _ h1 h2 => ?_) h1 h2
      exact hc _ _ h1 h2
    · skip
      refine anc h1 h2 (fun h1 h2 => ?_)
      refine anc h1 h2 (fun h1 h2 => ?_)
      refine anc h1 h2 (fun h1 h2 => ?_)
      refine alc h1 h2 (fun _ h1 h2 => ?_)
      exact ih _ _ _ _ _ h1 h2
theorem cj_wpX7_clear {p q s : MM → Int64 → Prop} (hc : ∀ x0 x1, p x0 x1 → q x0 x1 → s x0 x1) {M : MM} {tl : Int64} {v0 : Nat} (h1 : wpX7_clear p M tl v0) (h2 : wpX7_clear q M tl v0) : wpX7_clear s M tl v0 := by
  unfold wpX7_clear at h1 h2 ⊢
  obtain ⟨d1, h1⟩ := h1
  obtain ⟨d2, h2⟩ := h2
  exact ⟨d1, cj_wX7_clear_2 hc  d1 d2 _ _ _ _ h1 h2⟩
theorem cj_wpX4_restart {p q s : MM → Int64 → Prop} (hc : ∀ x0 x1, p x0 x1 → q x0 x1 → s x0 x1) {M : MM} {tl : Int64} (h1 : wpX4_restart p M tl ) (h2 : wpX4_restart q M tl ) : wpX4_restart s M tl  := by
  unfold wpX4_restart at h1 h2 ⊢
  refine cj_wpX1_setFirst (fun _ _ h1 h2 => ?_) h1 h2
  refine cj_wpX7_clear (fun _ _ h1 h2 => ?_) h1 h2
  refine alc h1 h2 (fun _ h1 h2 => ?_)
  refine alc h1 h2 (fun _ h1 h2 => ?_)
  refine alc h1 h2 (fun _ h1 h2 => ?_)
  refine alc h1 h2 (fun _ h1 h2 => ?_)
  exact hc _ _ h1 h2
theorem cj_wX11_firstDraft_118 {p q s : MM → Int64 → Prop} (hc : ∀ x0 x1, p x0 x1 → q x0 x1 → s x0 x1) : ∀ (d e : Nat) (M : MM) (tl : Int64) (v1 : Int32), wX11_firstDraft_118 p d M tl v1 → wX11_firstDraft_118 q e M tl v1 → wX11_firstDraft_118 s d M tl v1 := by
  intro d
  induction d with
  | zero =>
    intro e M tl v1 h1 h2
    exact h1.elim
  | succ d ih =>
    intro e M tl v1 h1 h2
    cases e with
    | zero => exact h2.elim
    | succ e =>
    unfold wX11_firstDraft_118 at h1 h2 ⊢
    refine ifc h1 h2 (fun _ h1 h2 => ?_) (fun _ h1 h2 => ?_)
    · skip
      refine alc h1 h2 (fun _ h1 h2 => ?_)
      refine alc h1 h2 (fun _ h1 h2 => ?_)
      refine alc h1 h2 (fun _ h1 h2 => ?_)
      refine alc h1 h2 (fun _ h1 h2 => ?_)
      refine alc h1 h2 (fun _ h1 h2 => ?_)
      refine alc h1 h2 (fun _ h1 h2 => ?_)
      refine alc h1 h2 (fun _ h1 h2 => ?_)
      refine alc h1 h2 (fun _ h1 h2 => ?_)
      exact hc _ _ h1 h2
    · skip
      refine anc h1 h2 (fun h1 h2 => ?_)
      refine alc h1 h2 (fun _ h1 h2 => ?_)
      exact ih _ _ _ _ h1 h2
theorem cj_wX11_firstDraft_95 {p q s : MM → Int64 → Prop} {pbk65 : MM → Int64 → Int32 → Prop} {qbk65 : MM → Int64 → Int32 → Prop} {sbk65 : MM → Int64 → Int32 → Prop} (hc : ∀ x0 x1, p x0 x1 → q x0 x1 → s x0 x1) (hbk65 : ∀ x0 x1 x2, pbk65 x0 x1 x2 → qbk65 x0 x1 x2 → sbk65 x0 x1 x2) {M : MM} {tl : Int64} {v1 : Int32} {s1 : Int32} {s2 : Int32} (h1 : wX11_firstDraft_95 p pbk65 M tl v1 s1 s2) (h2 : wX11_firstDraft_95 q qbk65 M tl v1 s1 s2) : wX11_firstDraft_95 s sbk65 M tl v1 s1 s2 := by
  unfold wX11_firstDraft_95 at h1 h2 ⊢
  refine anc h1 h2 (fun h1 h2 => ?_)
  refine alc h1 h2 (fun _ h1 h2 => ?_)
  exact hbk65 _ _ _ h1 h2
theorem cj_wX11_firstDraft_65 {p q s : MM → Int64 → Prop} (hc : ∀ x0 x1, p x0 x1 → q x0 x1 → s x0 x1) : ∀ (d e : Nat) (M : MM) (tl : Int64) (v1 : Int32), wX11_firstDraft_65 p d M tl v1 → wX11_firstDraft_65 q e M tl v1 → wX11_firstDraft_65 s d M tl v1 := by
  intro d
  induction d with
  | zero =>
    intro e M tl v1 h1 h2
    exact h1.elim
  | succ d ih =>
    intro e M tl v1 h1 h2
    cases e with
    | zero => exact h2.elim
    | succ e =>
    unfold wX11_firstDraft_65 at h1 h2 ⊢
    refine ifc h1 h2 (fun _ h1 h2 => ?_) (fun _ h1 h2 => ?_)
    · skip
      refine anc h1 h2 (fun h1 h2 => ?_)
      refine alc h1 h2 (fun _ h1 h2 => ?_)
      refine anc h1 h2 (fun h1 h2 => ?_)
      refine alc h1 h2 (fun _ h1 h2 => ?_)
      obtain ⟨d1, h1⟩ := h1
      obtain ⟨d2, h2⟩ := h2
      exact ⟨d1, cj_wX11_firstDraft_118 hc  d1 d2 _ _ _ h1 h2⟩
    · skip
      refine anc h1 h2 (fun h1 h2 => ?_)
      refine alc h1 h2 (fun _ h1 h2 => ?_)
      refine ifc h1 h2 (fun _ h1 h2 => ?_) (fun _ h1 h2 => ?_)
      · skip
        exact cj_wX11_firstDraft_95 hc (fun _ _ _ h1 h2 => ih _ _ _ _ h1 h2) h1 h2
      · skip
        exact cj_wX11_firstDraft_95 hc (fun _ _ _ h1 h2 => ih _ _ _ _ h1 h2) h1 h2
theorem cj_wX11_firstDraft_38 {p q s : MM → Int64 → Prop} (hc : ∀ x0 x1, p x0 x1 → q x0 x1 → s x0 x1) : ∀ (d e : Nat) (M : MM) (tl : Int64) (v1 : Int32), wX11_firstDraft_38 p d M tl v1 → wX11_firstDraft_38 q e M tl v1 → wX11_firstDraft_38 s d M tl v1 := by
  intro d
  induction d with
  | zero =>
    intro e M tl v1 h1 h2
    exact h1.elim
  | succ d ih =>
    intro e M tl v1 h1 h2
    cases e with
    | zero => exact h2.elim
    | succ e =>
    unfold wX11_firstDraft_38 at h1 h2 ⊢
    refine ifc h1 h2 (fun _ h1 h2 => ?_) (fun _ h1 h2 => ?_)
    · skip
      obtain ⟨d1, h1⟩ := h1
      obtain ⟨d2, h2⟩ := h2
      exact ⟨d1, cj_wX11_firstDraft_65 hc  d1 d2 _ _ _ h1 h2⟩
    · skip
      refine anc h1 h2 (fun h1 h2 => ?_)
      refine alc h1 h2 (fun _ h1 h2 => ?_)
      refine anc h1 h2 (fun h1 h2 => ?_)
      refine alc h1 h2 (fun _ h1 h2 => ?_)
      exact ih _ _ _ _ h1 h2
theorem cj_wX11_firstDraft_2 {p q s : MM → Int64 → Prop} (hc : ∀ x0 x1, p x0 x1 → q x0 x1 → s x0 x1) : ∀ (d e : Nat) (M : MM) (tl : Int64) (v1 : Int32), wX11_firstDraft_2 p d M tl v1 → wX11_firstDraft_2 q e M tl v1 → wX11_firstDraft_2 s d M tl v1 := by
  intro d
  induction d with
  | zero =>
    intro e M tl v1 h1 h2
    exact h1.elim
  | succ d ih =>
    intro e M tl v1 h1 h2
    cases e with
    | zero => exact h2.elim
    | succ e =>
    unfold wX11_firstDraft_2 at h1 h2 ⊢
    refine ifc h1 h2 (fun _ h1 h2 => ?_) (fun _ h1 h2 => ?_)
    · skip
      refine alc h1 h2 (fun _ h1 h2 => ?_)
      refine alc h1 h2 (fun _ h1 h2 => ?_)
      refine alc h1 h2 (fun _ h1 h2 => ?_)
      obtain ⟨d1, h1⟩ := h1
      obtain ⟨d2, h2⟩ := h2
      exact ⟨d1, cj_wX11_firstDraft_38 hc  d1 d2 _ _ _ h1 h2⟩
    · skip
      refine anc h1 h2 (fun h1 h2 => ?_)
      refine alc h1 h2 (fun _ h1 h2 => ?_)
      exact ih _ _ _ _ h1 h2
theorem cj_wpX11_firstDraft {p q s : MM → Int64 → Prop} (hc : ∀ x0 x1, p x0 x1 → q x0 x1 → s x0 x1) {M : MM} {tl : Int64} (h1 : wpX11_firstDraft p M tl ) (h2 : wpX11_firstDraft q M tl ) : wpX11_firstDraft s M tl  := by
  unfold wpX11_firstDraft at h1 h2 ⊢
  obtain ⟨d1, h1⟩ := h1
  obtain ⟨d2, h2⟩ := h2
  exact ⟨d1, cj_wX11_firstDraft_2 hc  d1 d2 _ _ _ h1 h2⟩
