/-! FORMULAS KEEP CONJUNCTIONS (printed by wip/gen/cj.py) -/
theorem cj_wX9_append_3 {p q s : MM → Int64 → Prop} (hc : ∀ x0 x1, p x0 x1 → q x0 x1 → s x0 x1) : ∀ (d e : Nat) (M : MM) (tl : Int64) (v1 : Int64) (v3 : Int32), wX9_append_3 p d M tl v1 v3 → wX9_append_3 q e M tl v1 v3 → wX9_append_3 s d M tl v1 v3 := by
  intro d
  induction d with
  | zero =>
    intro e M tl v1 v3 h1 h2
    exact h1.elim
  | succ d ih =>
    intro e M tl v1 v3 h1 h2
    cases e with
    | zero => exact h2.elim
    | succ e =>
    unfold wX9_append_3 at h1 h2 ⊢
    refine ifc h1 h2 (fun _ h1 h2 => ?_) (fun _ h1 h2 => ?_)
    · skip
      exact hc _ _ h1 h2
    · skip
      refine ifc h1 h2 (fun _ h1 h2 => ?_) (fun _ h1 h2 => ?_)
      · skip
        exact hc _ _ h1 h2
      · skip
        refine anc h1 h2 (fun h1 h2 => ?_)
        refine alc h1 h2 (fun _ h1 h2 => ?_)
        refine alc h1 h2 (fun _ h1 h2 => ?_)
        exact ih _ _ _ _ _ h1 h2
theorem cj_wpX9_append {p q s : MM → Int64 → Prop} (hc : ∀ x0 x1, p x0 x1 → q x0 x1 → s x0 x1) {M : MM} {tl : Int64} {v1 : Int64} (h1 : wpX9_append p M tl v1) (h2 : wpX9_append q M tl v1) : wpX9_append s M tl v1 := by
  unfold wpX9_append at h1 h2 ⊢
  obtain ⟨d1, h1⟩ := h1
  obtain ⟨d2, h2⟩ := h2
  exact ⟨d1, cj_wX9_append_3 hc  d1 d2 _ _ _ _ h1 h2⟩
theorem cj_wpX10_feed {p q s : Int32 → MM → Int64 → Prop} (hc : ∀ x0 x1 x2, p x0 x1 x2 → q x0 x1 x2 → s x0 x1 x2) {M : MM} {tl : Int64} {v1 : Int64} (h1 : wpX10_feed p M tl v1) (h2 : wpX10_feed q M tl v1) : wpX10_feed s M tl v1 := by
  unfold wpX10_feed at h1 h2 ⊢
  refine ifc h1 h2 (fun _ h1 h2 => ?_) (fun _ h1 h2 => ?_)
  · skip
    refine cj_wpX9_append (fun _ _ h1 h2 => ?_) h1 h2
    exact hc _ _ _ h1 h2
  · skip
    exact hc _ _ _ h1 h2
theorem cj_wX11_feed_19 {p q s : Int32 → MM → Int64 → Prop} (hc : ∀ x0 x1 x2, p x0 x1 x2 → q x0 x1 x2 → s x0 x1 x2) : ∀ (d e : Nat) (M : MM) (tl : Int64) (v1 : Int64) (v3 : Int32), wX11_feed_19 p d M tl v1 v3 → wX11_feed_19 q e M tl v1 v3 → wX11_feed_19 s d M tl v1 v3 := by
  intro d
  induction d with
  | zero =>
    intro e M tl v1 v3 h1 h2
    exact h1.elim
  | succ d ih =>
    intro e M tl v1 v3 h1 h2
    cases e with
    | zero => exact h2.elim
    | succ e =>
    unfold wX11_feed_19 at h1 h2 ⊢
    refine ifc h1 h2 (fun _ h1 h2 => ?_) (fun _ h1 h2 => ?_)
    · skip
      exact hc _ _ _ h1 h2
    · skip
      refine anc h1 h2 (fun h1 h2 => ?_)
      refine alc h1 h2 (fun _ h1 h2 => ?_)
      refine alc h1 h2 (fun _ h1 h2 => ?_)
      exact ih _ _ _ _ _ h1 h2
theorem cj_wpX11_feed {p q s : Int32 → MM → Int64 → Prop} (hc : ∀ x0 x1 x2, p x0 x1 x2 → q x0 x1 x2 → s x0 x1 x2) {M : MM} {tl : Int64} {v1 : Int64} (h1 : wpX11_feed p M tl v1) (h2 : wpX11_feed q M tl v1) : wpX11_feed s M tl v1 := by
  unfold wpX11_feed at h1 h2 ⊢
  refine ifc h1 h2 (fun _ h1 h2 => ?_) (fun _ h1 h2 => ?_)
  · skip
    obtain ⟨d1, h1⟩ := h1
    obtain ⟨d2, h2⟩ := h2
    exact ⟨d1, cj_wX11_feed_19 hc  d1 d2 _ _ _ _ h1 h2⟩
  · skip
    exact hc _ _ _ h1 h2
