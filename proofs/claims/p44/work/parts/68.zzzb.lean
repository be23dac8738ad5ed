/-! FORMULAS KEEP CONJUNCTIONS (printed by wip/gen/cj.py) -/
theorem ifc {c : Prop} [Decidable c] {a b a1 b1 a2 b2 : Prop} (h1 : if c then a else b) (h2 : if c then a1 else b1) (k1 : c → a → a1 → a2) (k2 : ¬ c → b → b1 → b2) : if c then a2 else b2 := by
  by_cases hc : c
  · rw [if_pos hc] at h1 h2 ⊢; exact k1 hc h1 h2
  · rw [if_neg hc] at h1 h2 ⊢; exact k2 hc h1 h2
theorem anc {a b b1 b2 : Prop} (h1 : a ∧ b) (h2 : a ∧ b1) (k : b → b1 → b2) : a ∧ b2 := ⟨h1.1, k h1.2 h2.2⟩
theorem alc {T : Type} {a : T} {f g h : T → Prop} (h1 : ∀ W, W = a → f W) (h2 : ∀ W, W = a → g W) (k : ∀ W, f W → g W → h W) : ∀ W, W = a → h W := fun W e => k W (h1 W e) (h2 W e)
theorem cj_wX4_nameAmong_135 {p q s : Int32 → MM → Int64 → Prop} {pbk25 : MM → Int64 → Nat → Int32 → Int32 → Int32 → Int32 → Prop} {qbk25 : MM → Int64 → Nat → Int32 → Int32 → Int32 → Int32 → Prop} {sbk25 : MM → Int64 → Nat → Int32 → Int32 → Int32 → Int32 → Prop} (hc : ∀ x0 x1 x2, p x0 x1 x2 → q x0 x1 x2 → s x0 x1 x2) (hbk25 : ∀ x0 x1 x2 x3 x4 x5 x6, pbk25 x0 x1 x2 x3 x4 x5 x6 → qbk25 x0 x1 x2 x3 x4 x5 x6 → sbk25 x0 x1 x2 x3 x4 x5 x6) {M : MM} {tl : Int64} {v1 : Nat} {v2 : Int32} {v3 : Int32} {v4 : Int32} {v5 : Int32} (h1 : wX4_nameAmong_135 p pbk25 M tl v1 v2 v3 v4 v5) (h2 : wX4_nameAmong_135 q qbk25 M tl v1 v2 v3 v4 v5) : wX4_nameAmong_135 s sbk25 M tl v1 v2 v3 v4 v5 := by
  unfold wX4_nameAmong_135 at h1 h2 ⊢
  exact hbk25 _ _ _ _ _ _ _ h1 h2
theorem cj_wX4_nameAmong_90 {p q s : Int32 → MM → Int64 → Prop} {pbk25 : MM → Int64 → Nat → Int32 → Int32 → Int32 → Int32 → Prop} {qbk25 : MM → Int64 → Nat → Int32 → Int32 → Int32 → Int32 → Prop} {sbk25 : MM → Int64 → Nat → Int32 → Int32 → Int32 → Int32 → Prop} (hc : ∀ x0 x1 x2, p x0 x1 x2 → q x0 x1 x2 → s x0 x1 x2) (hbk25 : ∀ x0 x1 x2 x3 x4 x5 x6, pbk25 x0 x1 x2 x3 x4 x5 x6 → qbk25 x0 x1 x2 x3 x4 x5 x6 → sbk25 x0 x1 x2 x3 x4 x5 x6) {M : MM} {tl : Int64} {v1 : Nat} {v2 : Int32} {v3 : Int32} {v5 : Int32} {s0 : Int32} (h1 : wX4_nameAmong_90 p pbk25 M tl v1 v2 v3 v5 s0) (h2 : wX4_nameAmong_90 q qbk25 M tl v1 v2 v3 v5 s0) : wX4_nameAmong_90 s sbk25 M tl v1 v2 v3 v5 s0 := by
  unfold wX4_nameAmong_90 at h1 h2 ⊢
  exact cj_wX4_nameAmong_135 hc hbk25 h1 h2
theorem cj_wX4_nameAmong_69 {p q s : Int32 → MM → Int64 → Prop} {pbk25 : MM → Int64 → Nat → Int32 → Int32 → Int32 → Int32 → Prop} {qbk25 : MM → Int64 → Nat → Int32 → Int32 → Int32 → Int32 → Prop} {sbk25 : MM → Int64 → Nat → Int32 → Int32 → Int32 → Int32 → Prop} (hc : ∀ x0 x1 x2, p x0 x1 x2 → q x0 x1 x2 → s x0 x1 x2) (hbk25 : ∀ x0 x1 x2 x3 x4 x5 x6, pbk25 x0 x1 x2 x3 x4 x5 x6 → qbk25 x0 x1 x2 x3 x4 x5 x6 → sbk25 x0 x1 x2 x3 x4 x5 x6) {M : MM} {tl : Int64} {v1 : Nat} {v2 : Int32} {v5 : Int32} (h1 : wX4_nameAmong_69 p pbk25 M tl v1 v2 v5) (h2 : wX4_nameAmong_69 q qbk25 M tl v1 v2 v5) : wX4_nameAmong_69 s sbk25 M tl v1 v2 v5 := by
  unfold wX4_nameAmong_69 at h1 h2 ⊢
  refine ifc h1 h2 (fun _ h1 h2 => ?_) (fun _ h1 h2 => ?_)
  · skip
    exact cj_wX4_nameAmong_90 hc hbk25 h1 h2
  · skip
    exact cj_wX4_nameAmong_90 hc hbk25 h1 h2
theorem cj_wX4_nameAmong_54 {p q s : Int32 → MM → Int64 → Prop} {pbk25 : MM → Int64 → Nat → Int32 → Int32 → Int32 → Int32 → Prop} {qbk25 : MM → Int64 → Nat → Int32 → Int32 → Int32 → Int32 → Prop} {sbk25 : MM → Int64 → Nat → Int32 → Int32 → Int32 → Int32 → Prop} (hc : ∀ x0 x1 x2, p x0 x1 x2 → q x0 x1 x2 → s x0 x1 x2) (hbk25 : ∀ x0 x1 x2 x3 x4 x5 x6, pbk25 x0 x1 x2 x3 x4 x5 x6 → qbk25 x0 x1 x2 x3 x4 x5 x6 → sbk25 x0 x1 x2 x3 x4 x5 x6) {M : MM} {tl : Int64} {v1 : Nat} {v2 : Int32} {v3 : Int32} {v4 : Int32} {v5 : Int32} (h1 : wX4_nameAmong_54 p pbk25 M tl v1 v2 v3 v4 v5) (h2 : wX4_nameAmong_54 q qbk25 M tl v1 v2 v3 v4 v5) : wX4_nameAmong_54 s sbk25 M tl v1 v2 v3 v4 v5 := by
  unfold wX4_nameAmong_54 at h1 h2 ⊢
  refine ifc h1 h2 (fun _ h1 h2 => ?_) (fun _ h1 h2 => ?_)
  · skip
    exact cj_wX4_nameAmong_69 hc hbk25 h1 h2
  · skip
    refine ifc h1 h2 (fun _ h1 h2 => ?_) (fun _ h1 h2 => ?_)
    · skip
      exact hc _ _ _ h1 h2
    · skip
      exact cj_wX4_nameAmong_69 hc hbk25 h1 h2
theorem cj_wX4_nameAmong_130 {p q s : Int32 → MM → Int64 → Prop} {pbk25 : MM → Int64 → Nat → Int32 → Int32 → Int32 → Int32 → Prop} {qbk25 : MM → Int64 → Nat → Int32 → Int32 → Int32 → Int32 → Prop} {sbk25 : MM → Int64 → Nat → Int32 → Int32 → Int32 → Int32 → Prop} (hc : ∀ x0 x1 x2, p x0 x1 x2 → q x0 x1 x2 → s x0 x1 x2) (hbk25 : ∀ x0 x1 x2 x3 x4 x5 x6, pbk25 x0 x1 x2 x3 x4 x5 x6 → qbk25 x0 x1 x2 x3 x4 x5 x6 → sbk25 x0 x1 x2 x3 x4 x5 x6) {M : MM} {tl : Int64} {v1 : Nat} {v2 : Int32} {v3 : Int32} {v5 : Int32} {s0 : Int32} (h1 : wX4_nameAmong_130 p pbk25 M tl v1 v2 v3 v5 s0) (h2 : wX4_nameAmong_130 q qbk25 M tl v1 v2 v3 v5 s0) : wX4_nameAmong_130 s sbk25 M tl v1 v2 v3 v5 s0 := by
  unfold wX4_nameAmong_130 at h1 h2 ⊢
  exact cj_wX4_nameAmong_135 hc hbk25 h1 h2
theorem cj_wX4_nameAmong_129 {p q s : Int32 → MM → Int64 → Prop} {pbk25 : MM → Int64 → Nat → Int32 → Int32 → Int32 → Int32 → Prop} {qbk25 : MM → Int64 → Nat → Int32 → Int32 → Int32 → Int32 → Prop} {sbk25 : MM → Int64 → Nat → Int32 → Int32 → Int32 → Int32 → Prop} (hc : ∀ x0 x1 x2, p x0 x1 x2 → q x0 x1 x2 → s x0 x1 x2) (hbk25 : ∀ x0 x1 x2 x3 x4 x5 x6, pbk25 x0 x1 x2 x3 x4 x5 x6 → qbk25 x0 x1 x2 x3 x4 x5 x6 → sbk25 x0 x1 x2 x3 x4 x5 x6) {M : MM} {tl : Int64} {v1 : Nat} {v2 : Int32} {v3 : Int32} {v5 : Int32} (h1 : wX4_nameAmong_129 p pbk25 M tl v1 v2 v3 v5) (h2 : wX4_nameAmong_129 q qbk25 M tl v1 v2 v3 v5) : wX4_nameAmong_129 s sbk25 M tl v1 v2 v3 v5 := by
  unfold wX4_nameAmong_129 at h1 h2 ⊢
  exact cj_wX4_nameAmong_130 hc hbk25 h1 h2
theorem cj_wpX9_byteAt {p q s : Int32 → MM → Int64 → Prop} (hc : ∀ x0 x1 x2, p x0 x1 x2 → q x0 x1 x2 → s x0 x1 x2) {M : MM} {tl : Int64} {v1 : Int32} (h1 : wpX9_byteAt p M tl v1) (h2 : wpX9_byteAt q M tl v1) : wpX9_byteAt s M tl v1 := by
  unfold wpX9_byteAt at h1 h2 ⊢
  refine ifc h1 h2 (fun _ h1 h2 => ?_) (fun _ h1 h2 => ?_)
  · skip
    exact hc _ _ _ h1 h2
  · skip
    refine ifc h1 h2 (fun _ h1 h2 => ?_) (fun _ h1 h2 => ?_)
    · skip
      exact hc _ _ _ h1 h2
    · skip
      refine ifc h1 h2 (fun _ h1 h2 => ?_) (fun _ h1 h2 => ?_)
      · skip
        exact hc _ _ _ h1 h2
      · skip
        refine anc h1 h2 (fun h1 h2 => ?_)
        exact hc _ _ _ h1 h2
theorem cj_wX4_nameAmong_25 {p q s : Int32 → MM → Int64 → Prop} (hc : ∀ x0 x1 x2, p x0 x1 x2 → q x0 x1 x2 → s x0 x1 x2) : ∀ (d e : Nat) (M : MM) (tl : Int64) (v1 : Nat) (v2 : Int32) (v3 : Int32) (v4 : Int32) (v5 : Int32), wX4_nameAmong_25 p d M tl v1 v2 v3 v4 v5 → wX4_nameAmong_25 q e M tl v1 v2 v3 v4 v5 → wX4_nameAmong_25 s d M tl v1 v2 v3 v4 v5 := by
  intro d
  induction d with
  | zero =>
    intro e M tl v1 v2 v3 v4 v5 h1 h2
    exact h1.elim
  | succ d ih =>
    intro e M tl v1 v2 v3 v4 v5 h1 h2
    cases e with
    | zero => exact h2.elim
    | succ e =>
    unfold wX4_nameAmong_25 at h1 h2 ⊢
    refine anc h1 h2 (fun h1 h2 => ?_)
    refine ifc h1 h2 (fun _ h1 h2 => ?_) (fun _ h1 h2 => ?_)
    · skip
      exact hc _ _ _ h1 h2
    · skip
      refine anc h1 h2 (fun h1 h2 => ?_)
      refine ifc h1 h2 (fun _ h1 h2 => ?_) (fun _ h1 h2 => ?_)
      · skip
        exact cj_wX4_nameAmong_54 hc (fun _ _ _ _ _ _ _ h1 h2 => ih _ _ _ _ _ _ _ _ h1 h2) h1 h2
      · skip
        refine anc h1 h2 (fun h1 h2 => ?_)
        refine anc h1 h2 (fun h1 h2 => ?_)
        refine ifc h1 h2 (fun _ h1 h2 => ?_) (fun _ h1 h2 => ?_)
        · skip
          exact cj_wX4_nameAmong_54 hc (fun _ _ _ _ _ _ _ h1 h2 => ih _ _ _ _ _ _ _ _ h1 h2) h1 h2
        · skip
          refine ifc h1 h2 (fun _ h1 h2 => ?_) (fun _ h1 h2 => ?_)
          · skip
            exact cj_wX4_nameAmong_129 hc (fun _ _ _ _ _ _ _ h1 h2 => ih _ _ _ _ _ _ _ _ h1 h2) h1 h2
          · skip
            refine ifc h1 h2 (fun _ h1 h2 => ?_) (fun _ h1 h2 => ?_)
            · skip
              exact cj_wX4_nameAmong_129 hc (fun _ _ _ _ _ _ _ h1 h2 => ih _ _ _ _ _ _ _ _ h1 h2) h1 h2
            · skip
              refine anc h1 h2 (fun h1 h2 => ?_)
              refine anc h1 h2 (fun h1 h2 => ?_)
              refine cj_wpX9_byteAt (fun _ _ _ h1 h2 => ?_) h1 h2
              refine ifc h1 h2 (fun _ h1 h2 => ?_) (fun _ h1 h2 => ?_)
              · skip
                exact cj_wX4_nameAmong_130 hc (fun _ _ _ _ _ _ _ h1 h2 => ih _ _ _ _ _ _ _ _ h1 h2) h1 h2
              · skip
                exact cj_wX4_nameAmong_129 hc (fun _ _ _ _ _ _ _ h1 h2 => ih _ _ _ _ _ _ _ _ h1 h2) h1 h2
theorem cj_wX4_nameAmong_20 {p q s : Int32 → MM → Int64 → Prop} (hc : ∀ x0 x1 x2, p x0 x1 x2 → q x0 x1 x2 → s x0 x1 x2) {M : MM} {tl : Int64} {v1 : Nat} {v2 : Int32} {v3 : Int32} {s0 : Int32} (h1 : wX4_nameAmong_20 p M tl v1 v2 v3 s0) (h2 : wX4_nameAmong_20 q M tl v1 v2 v3 s0) : wX4_nameAmong_20 s M tl v1 v2 v3 s0 := by
  unfold wX4_nameAmong_20 at h1 h2 ⊢
  obtain ⟨d1, h1⟩ := h1
  obtain ⟨d2, h2⟩ := h2
  exact ⟨d1, cj_wX4_nameAmong_25 hc  d1 d2 _ _ _ _ _ _ _ h1 h2⟩
theorem cj_wpX4_nameAmong {p q s : Int32 → MM → Int64 → Prop} (hc : ∀ x0 x1 x2, p x0 x1 x2 → q x0 x1 x2 → s x0 x1 x2) {M : MM} {tl : Int64} {v1 : Nat} (h1 : wpX4_nameAmong p M tl v1) (h2 : wpX4_nameAmong q M tl v1) : wpX4_nameAmong s M tl v1 := by
  unfold wpX4_nameAmong at h1 h2 ⊢
  refine ifc h1 h2 (fun _ h1 h2 => ?_) (fun _ h1 h2 => ?_)
  · skip
    exact cj_wX4_nameAmong_20 hc  h1 h2
  · skip
    exact cj_wX4_nameAmong_20 hc  h1 h2
theorem cj_wX4_tellOnce_31 {p q s : MM → Int64 → Prop} (hc : ∀ x0 x1, p x0 x1 → q x0 x1 → s x0 x1) {M : MM} {tl : Int64} {v1 : Int32} (h1 : wX4_tellOnce_31 p M tl v1) (h2 : wX4_tellOnce_31 q M tl v1) : wX4_tellOnce_31 s M tl v1 := by
  unfold wX4_tellOnce_31 at h1 h2 ⊢
  exact hc _ _ h1 h2
theorem cj_wpX4_fail {p q s : Int32 → MM → Int64 → Prop} (hc : ∀ x0 x1 x2, p x0 x1 x2 → q x0 x1 x2 → s x0 x1 x2) {M : MM} {tl : Int64} {v1 : Int32} {v2 : Int32} (h1 : wpX4_fail p M tl v1 v2) (h2 : wpX4_fail q M tl v1 v2) : wpX4_fail s M tl v1 v2 := by
  unfold wpX4_fail at h1 h2 ⊢
  refine alc h1 h2 (fun _ h1 h2 => ?_)
  refine alc h1 h2 (fun _ h1 h2 => ?_)
  exact hc _ _ _ h1 h2
theorem cj_wpX4_tellOnce {p q s : MM → Int64 → Prop} (hc : ∀ x0 x1, p x0 x1 → q x0 x1 → s x0 x1) {M : MM} {tl : Int64} {v1 : Int32} (h1 : wpX4_tellOnce p M tl v1) (h2 : wpX4_tellOnce q M tl v1) : wpX4_tellOnce s M tl v1 := by
  unfold wpX4_tellOnce at h1 h2 ⊢
  refine ifc h1 h2 (fun _ h1 h2 => ?_) (fun _ h1 h2 => ?_)
  · skip
    refine ifc h1 h2 (fun _ h1 h2 => ?_) (fun _ h1 h2 => ?_)
    · skip
      exact cj_wX4_tellOnce_31 hc  h1 h2
    · skip
      refine cj_wpX4_fail (fun _ _ _ h1 h2 => ?_) h1 h2
      exact cj_wX4_tellOnce_31 hc  h1 h2
  · skip
    exact hc _ _ h1 h2
theorem cj_wX4_typeOf_34 {p q s : Int32 → MM → Int64 → Prop} (hc : ∀ x0 x1 x2, p x0 x1 x2 → q x0 x1 x2 → s x0 x1 x2) {M : MM} {tl : Int64} {v0 : Int32} (h1 : wX4_typeOf_34 p M tl v0) (h2 : wX4_typeOf_34 q M tl v0) : wX4_typeOf_34 s M tl v0 := by
  unfold wX4_typeOf_34 at h1 h2 ⊢
  refine ifc h1 h2 (fun _ h1 h2 => ?_) (fun _ h1 h2 => ?_)
  · skip
    exact hc _ _ _ h1 h2
  · skip
    exact hc _ _ _ h1 h2
theorem cj_wX4_typeOf_20 {p q s : Int32 → MM → Int64 → Prop} (hc : ∀ x0 x1 x2, p x0 x1 x2 → q x0 x1 x2 → s x0 x1 x2) {M : MM} {tl : Int64} {v0 : Int32} (h1 : wX4_typeOf_20 p M tl v0) (h2 : wX4_typeOf_20 q M tl v0) : wX4_typeOf_20 s M tl v0 := by
  unfold wX4_typeOf_20 at h1 h2 ⊢
  refine ifc h1 h2 (fun _ h1 h2 => ?_) (fun _ h1 h2 => ?_)
  · skip
    exact cj_wX4_typeOf_34 hc  h1 h2
  · skip
    refine ifc h1 h2 (fun _ h1 h2 => ?_) (fun _ h1 h2 => ?_)
    · skip
      exact cj_wX4_typeOf_34 hc  h1 h2
    · skip
      exact hc _ _ _ h1 h2
theorem cj_wpX4_typeOf {p q s : Int32 → MM → Int64 → Prop} (hc : ∀ x0 x1 x2, p x0 x1 x2 → q x0 x1 x2 → s x0 x1 x2) {M : MM} {tl : Int64} {v0 : Int32} (h1 : wpX4_typeOf p M tl v0) (h2 : wpX4_typeOf q M tl v0) : wpX4_typeOf s M tl v0 := by
  unfold wpX4_typeOf at h1 h2 ⊢
  refine ifc h1 h2 (fun _ h1 h2 => ?_) (fun _ h1 h2 => ?_)
  · skip
    refine ifc h1 h2 (fun _ h1 h2 => ?_) (fun _ h1 h2 => ?_)
    · skip
      exact cj_wX4_typeOf_20 hc  h1 h2
    · skip
      refine ifc h1 h2 (fun _ h1 h2 => ?_) (fun _ h1 h2 => ?_)
      · skip
        exact cj_wX4_typeOf_20 hc  h1 h2
      · skip
        exact hc _ _ _ h1 h2
  · skip
    exact hc _ _ _ h1 h2
theorem cj_wX4_takeToken_231 {p q s : MM → Int64 → Prop} (hc : ∀ x0 x1, p x0 x1 → q x0 x1 → s x0 x1) {M : MM} {tl : Int64} (h1 : wX4_takeToken_231 p M tl ) (h2 : wX4_takeToken_231 q M tl ) : wX4_takeToken_231 s M tl  := by
  unfold wX4_takeToken_231 at h1 h2 ⊢
  refine cj_wpX4_fail (fun _ _ _ h1 h2 => ?_) h1 h2
  exact hc _ _ h1 h2
theorem cj_wX4_takeToken_202 {p q s : MM → Int64 → Prop} (hc : ∀ x0 x1, p x0 x1 → q x0 x1 → s x0 x1) {M : MM} {tl : Int64} (h1 : wX4_takeToken_202 p M tl ) (h2 : wX4_takeToken_202 q M tl ) : wX4_takeToken_202 s M tl  := by
  unfold wX4_takeToken_202 at h1 h2 ⊢
  refine ifc h1 h2 (fun _ h1 h2 => ?_) (fun _ h1 h2 => ?_)
  · skip
    exact cj_wX4_takeToken_231 hc  h1 h2
  · skip
    refine ifc h1 h2 (fun _ h1 h2 => ?_) (fun _ h1 h2 => ?_)
    · skip
      refine ifc h1 h2 (fun _ h1 h2 => ?_) (fun _ h1 h2 => ?_)
      · skip
        exact hc _ _ h1 h2
      · skip
        exact cj_wX4_takeToken_231 hc  h1 h2
    · skip
      exact hc _ _ h1 h2
theorem cj_wX4_takeToken_186 {p q s : MM → Int64 → Prop} {pbk100 : MM → Int64 → Prop} {qbk100 : MM → Int64 → Prop} {sbk100 : MM → Int64 → Prop} (hc : ∀ x0 x1, p x0 x1 → q x0 x1 → s x0 x1) (hbk100 : ∀ x0 x1, pbk100 x0 x1 → qbk100 x0 x1 → sbk100 x0 x1) {M : MM} {tl : Int64} {s1 : Int32} (h1 : wX4_takeToken_186 p pbk100 M tl s1) (h2 : wX4_takeToken_186 q qbk100 M tl s1) : wX4_takeToken_186 s sbk100 M tl s1 := by
  unfold wX4_takeToken_186 at h1 h2 ⊢
  refine alc h1 h2 (fun _ h1 h2 => ?_)
  refine alc h1 h2 (fun _ h1 h2 => ?_)
  exact hbk100 _ _ h1 h2
theorem cj_wX4_takeToken_130 {p q s : MM → Int64 → Prop} {pbk100 : MM → Int64 → Prop} {qbk100 : MM → Int64 → Prop} {sbk100 : MM → Int64 → Prop} (hc : ∀ x0 x1, p x0 x1 → q x0 x1 → s x0 x1) (hbk100 : ∀ x0 x1, pbk100 x0 x1 → qbk100 x0 x1 → sbk100 x0 x1) {M : MM} {tl : Int64} (h1 : wX4_takeToken_130 p pbk100 M tl ) (h2 : wX4_takeToken_130 q qbk100 M tl ) : wX4_takeToken_130 s sbk100 M tl  := by
  unfold wX4_takeToken_130 at h1 h2 ⊢
  refine cj_wpX9_byteAt (fun _ _ _ h1 h2 => ?_) h1 h2
  refine cj_wpX4_typeOf (fun _ _ _ h1 h2 => ?_) h1 h2
  refine ifc h1 h2 (fun _ h1 h2 => ?_) (fun _ h1 h2 => ?_)
  · skip
    refine ifc h1 h2 (fun _ h1 h2 => ?_) (fun _ h1 h2 => ?_)
    · skip
      refine cj_wpX9_byteAt (fun _ _ _ h1 h2 => ?_) h1 h2
      exact cj_wX4_takeToken_186 hc hbk100 h1 h2
    · skip
      exact cj_wX4_takeToken_186 hc hbk100 h1 h2
  · skip
    exact cj_wX4_takeToken_202 hc  h1 h2
theorem cj_wX4_takeToken_100 {p q s : MM → Int64 → Prop} (hc : ∀ x0 x1, p x0 x1 → q x0 x1 → s x0 x1) : ∀ (d e : Nat) (M : MM) (tl : Int64), wX4_takeToken_100 p d M tl  → wX4_takeToken_100 q e M tl  → wX4_takeToken_100 s d M tl  := by
  intro d
  induction d with
  | zero =>
    intro e M tl  h1 h2
    exact h1.elim
  | succ d ih =>
    intro e M tl  h1 h2
    cases e with
    | zero => exact h2.elim
    | succ e =>
    unfold wX4_takeToken_100 at h1 h2 ⊢
    refine ifc h1 h2 (fun _ h1 h2 => ?_) (fun _ h1 h2 => ?_)
    · skip
      exact cj_wX4_takeToken_202 hc  h1 h2
    · skip
      refine ifc h1 h2 (fun _ h1 h2 => ?_) (fun _ h1 h2 => ?_)
      · skip
        exact cj_wX4_takeToken_130 hc (fun _ _ h1 h2 => ih _ _ _ h1 h2) h1 h2
      · skip
        refine ifc h1 h2 (fun _ h1 h2 => ?_) (fun _ h1 h2 => ?_)
        · skip
          exact cj_wX4_takeToken_130 hc (fun _ _ h1 h2 => ih _ _ _ h1 h2) h1 h2
        · skip
          exact cj_wX4_takeToken_202 hc  h1 h2
theorem cj_wX4_takeToken_51 {p q s : MM → Int64 → Prop} (hc : ∀ x0 x1, p x0 x1 → q x0 x1 → s x0 x1) {M : MM} {tl : Int64} (h1 : wX4_takeToken_51 p M tl ) (h2 : wX4_takeToken_51 q M tl ) : wX4_takeToken_51 s M tl  := by
  unfold wX4_takeToken_51 at h1 h2 ⊢
  refine alc h1 h2 (fun _ h1 h2 => ?_)
  refine cj_wpX9_byteAt (fun _ _ _ h1 h2 => ?_) h1 h2
  refine cj_wpX4_typeOf (fun _ _ _ h1 h2 => ?_) h1 h2
  refine alc h1 h2 (fun _ h1 h2 => ?_)
  refine alc h1 h2 (fun _ h1 h2 => ?_)
  refine ifc h1 h2 (fun _ h1 h2 => ?_) (fun _ h1 h2 => ?_)
  · skip
    refine alc h1 h2 (fun _ h1 h2 => ?_)
    obtain ⟨d1, h1⟩ := h1
    obtain ⟨d2, h2⟩ := h2
    exact ⟨d1, cj_wX4_takeToken_100 hc  d1 d2 _ _ h1 h2⟩
  · skip
    obtain ⟨d1, h1⟩ := h1
    obtain ⟨d2, h2⟩ := h2
    exact ⟨d1, cj_wX4_takeToken_100 hc  d1 d2 _ _ h1 h2⟩
theorem cj_wX4_takeToken_8 {p q s : MM → Int64 → Prop} (hc : ∀ x0 x1, p x0 x1 → q x0 x1 → s x0 x1) : ∀ (d e : Nat) (M : MM) (tl : Int64), wX4_takeToken_8 p d M tl  → wX4_takeToken_8 q e M tl  → wX4_takeToken_8 s d M tl  := by
  intro d
  induction d with
  | zero =>
    intro e M tl  h1 h2
    exact h1.elim
  | succ d ih =>
    intro e M tl  h1 h2
    cases e with
    | zero => exact h2.elim
    | succ e =>
    unfold wX4_takeToken_8 at h1 h2 ⊢
    refine ifc h1 h2 (fun _ h1 h2 => ?_) (fun _ h1 h2 => ?_)
    · skip
      exact cj_wX4_takeToken_51 hc  h1 h2
    · skip
      refine cj_wpX9_byteAt (fun _ _ _ h1 h2 => ?_) h1 h2
      refine ifc h1 h2 (fun _ h1 h2 => ?_) (fun _ h1 h2 => ?_)
      · skip
        refine alc h1 h2 (fun _ h1 h2 => ?_)
        exact ih _ _ _ h1 h2
      · skip
        exact cj_wX4_takeToken_51 hc  h1 h2
theorem cj_wpX4_takeToken {p q s : MM → Int64 → Prop} (hc : ∀ x0 x1, p x0 x1 → q x0 x1 → s x0 x1) {M : MM} {tl : Int64} (h1 : wpX4_takeToken p M tl ) (h2 : wpX4_takeToken q M tl ) : wpX4_takeToken s M tl  := by
  unfold wpX4_takeToken at h1 h2 ⊢
  refine ifc h1 h2 (fun _ h1 h2 => ?_) (fun _ h1 h2 => ?_)
  · skip
    obtain ⟨d1, h1⟩ := h1
    obtain ⟨d2, h2⟩ := h2
    exact ⟨d1, cj_wX4_takeToken_8 hc  d1 d2 _ _ h1 h2⟩
  · skip
    exact hc _ _ h1 h2
theorem cj_wX4_takeNumber_47 {p q s : Int32 → MM → Int64 → Prop} (hc : ∀ x0 x1 x2, p x0 x1 x2 → q x0 x1 x2 → s x0 x1 x2) {M : MM} {tl : Int64} (h1 : wX4_takeNumber_47 p M tl ) (h2 : wX4_takeNumber_47 q M tl ) : wX4_takeNumber_47 s M tl  := by
  unfold wX4_takeNumber_47 at h1 h2 ⊢
  refine cj_wpX4_fail (fun _ _ _ h1 h2 => ?_) h1 h2
  exact hc _ _ _ h1 h2
theorem cj_wpX4_takeNumber {p q s : Int32 → MM → Int64 → Prop} (hc : ∀ x0 x1 x2, p x0 x1 x2 → q x0 x1 x2 → s x0 x1 x2) {M : MM} {tl : Int64} {v1 : Int32} {v2 : Int32} (h1 : wpX4_takeNumber p M tl v1 v2) (h2 : wpX4_takeNumber q M tl v1 v2) : wpX4_takeNumber s M tl v1 v2 := by
  unfold wpX4_takeNumber at h1 h2 ⊢
  refine cj_wpX4_takeToken (fun _ _ h1 h2 => ?_) h1 h2
  refine ifc h1 h2 (fun _ h1 h2 => ?_) (fun _ h1 h2 => ?_)
  · skip
    refine ifc h1 h2 (fun _ h1 h2 => ?_) (fun _ h1 h2 => ?_)
    · skip
      refine ifc h1 h2 (fun _ h1 h2 => ?_) (fun _ h1 h2 => ?_)
      · skip
        exact cj_wX4_takeNumber_47 hc  h1 h2
      · skip
        refine ifc h1 h2 (fun _ h1 h2 => ?_) (fun _ h1 h2 => ?_)
        · skip
          exact hc _ _ _ h1 h2
        · skip
          exact cj_wX4_takeNumber_47 hc  h1 h2
    · skip
      refine cj_wpX4_fail (fun _ _ _ h1 h2 => ?_) h1 h2
      exact hc _ _ _ h1 h2
  · skip
    exact hc _ _ _ h1 h2
theorem cj_wX4_readPrices_2 {p q s : MM → Int64 → Prop} (hc : ∀ x0 x1, p x0 x1 → q x0 x1 → s x0 x1) : ∀ (d e : Nat) (M : MM) (tl : Int64) (v1 : Int32), wX4_readPrices_2 p d M tl v1 → wX4_readPrices_2 q e M tl v1 → wX4_readPrices_2 s d M tl v1 := by
  intro d
  induction d with
  | zero =>
    intro e M tl v1 h1 h2
    exact h1.elim
  | succ d ih =>
    intro e M tl v1 h1 h2
    cases e with
    | zero => exact h2.elim
    | succ e =>
    unfold wX4_readPrices_2 at h1 h2 ⊢
    refine ifc h1 h2 (fun _ h1 h2 => ?_) (fun _ h1 h2 => ?_)
    · skip
      exact hc _ _ h1 h2
    · skip
      refine ifc h1 h2 (fun _ h1 h2 => ?_) (fun _ h1 h2 => ?_)
      · skip
        refine cj_wpX4_takeNumber (fun _ _ _ h1 h2 => ?_) h1 h2
        refine anc h1 h2 (fun h1 h2 => ?_)
        refine alc h1 h2 (fun _ h1 h2 => ?_)
        exact ih _ _ _ _ h1 h2
      · skip
        exact hc _ _ h1 h2
theorem cj_wpX4_readPrices {p q s : MM → Int64 → Prop} (hc : ∀ x0 x1, p x0 x1 → q x0 x1 → s x0 x1) {M : MM} {tl : Int64} (h1 : wpX4_readPrices p M tl ) (h2 : wpX4_readPrices q M tl ) : wpX4_readPrices s M tl  := by
  unfold wpX4_readPrices at h1 h2 ⊢
  obtain ⟨d1, h1⟩ := h1
  obtain ⟨d2, h2⟩ := h2
  exact ⟨d1, cj_wX4_readPrices_2 hc  d1 d2 _ _ _ h1 h2⟩
theorem cj_wpX4_takeBank {p q s : Int32 → MM → Int64 → Prop} (hc : ∀ x0 x1 x2, p x0 x1 x2 → q x0 x1 x2 → s x0 x1 x2) {M : MM} {tl : Int64} (h1 : wpX4_takeBank p M tl ) (h2 : wpX4_takeBank q M tl ) : wpX4_takeBank s M tl  := by
  unfold wpX4_takeBank at h1 h2 ⊢
  refine cj_wpX4_takeNumber (fun _ _ _ h1 h2 => ?_) h1 h2
  exact hc _ _ _ h1 h2
theorem cj_wX4_readOfKinds_15 {p q s : MM → Int64 → Prop} (hc : ∀ x0 x1, p x0 x1 → q x0 x1 → s x0 x1) : ∀ (d e : Nat) (M : MM) (tl : Int64) (v1 : Nat) (v3 : Int32) (v4 : Int32), wX4_readOfKinds_15 p d M tl v1 v3 v4 → wX4_readOfKinds_15 q e M tl v1 v3 v4 → wX4_readOfKinds_15 s d M tl v1 v3 v4 := by
  intro d
  induction d with
  | zero =>
    intro e M tl v1 v3 v4 h1 h2
    exact h1.elim
  | succ d ih =>
    intro e M tl v1 v3 v4 h1 h2
    cases e with
    | zero => exact h2.elim
    | succ e =>
    unfold wX4_readOfKinds_15 at h1 h2 ⊢
    refine ifc h1 h2 (fun _ h1 h2 => ?_) (fun _ h1 h2 => ?_)
    · skip
      exact hc _ _ h1 h2
    · skip
      refine ifc h1 h2 (fun _ h1 h2 => ?_) (fun _ h1 h2 => ?_)
      · skip
        refine anc h1 h2 (fun h1 h2 => ?_)
        refine anc h1 h2 (fun h1 h2 => ?_)
        refine cj_wpX4_takeNumber (fun _ _ _ h1 h2 => ?_) h1 h2
        refine anc h1 h2 (fun h1 h2 => ?_)
        refine anc h1 h2 (fun h1 h2 => ?_)
        refine alc h1 h2 (fun _ h1 h2 => ?_)
        exact ih _ _ _ _ _ _ h1 h2
      · skip
        exact hc _ _ h1 h2
theorem cj_wpX4_readOfKinds {p q s : MM → Int64 → Prop} (hc : ∀ x0 x1, p x0 x1 → q x0 x1 → s x0 x1) {M : MM} {tl : Int64} {v1 : Nat} {v2 : Int32} (h1 : wpX4_readOfKinds p M tl v1 v2) (h2 : wpX4_readOfKinds q M tl v1 v2) : wpX4_readOfKinds s M tl v1 v2 := by
  unfold wpX4_readOfKinds at h1 h2 ⊢
  refine cj_wpX4_takeBank (fun _ _ _ h1 h2 => ?_) h1 h2
  refine cj_wpX4_tellOnce (fun _ _ h1 h2 => ?_) h1 h2
  obtain ⟨d1, h1⟩ := h1
  obtain ⟨d2, h2⟩ := h2
  exact ⟨d1, cj_wX4_readOfKinds_15 hc  d1 d2 _ _ _ _ _ h1 h2⟩
theorem cj_wpX4_takeNameOf {p q s : Int32 → MM → Int64 → Prop} (hc : ∀ x0 x1 x2, p x0 x1 x2 → q x0 x1 x2 → s x0 x1 x2) {M : MM} {tl : Int64} {v1 : Nat} (h1 : wpX4_takeNameOf p M tl v1) (h2 : wpX4_takeNameOf q M tl v1) : wpX4_takeNameOf s M tl v1 := by
  unfold wpX4_takeNameOf at h1 h2 ⊢
  refine cj_wpX4_takeToken (fun _ _ h1 h2 => ?_) h1 h2
  refine ifc h1 h2 (fun _ h1 h2 => ?_) (fun _ h1 h2 => ?_)
  · skip
    refine cj_wpX4_nameAmong (fun _ _ _ h1 h2 => ?_) h1 h2
    refine ifc h1 h2 (fun _ h1 h2 => ?_) (fun _ h1 h2 => ?_)
    · skip
      exact hc _ _ _ h1 h2
    · skip
      refine cj_wpX4_fail (fun _ _ _ h1 h2 => ?_) h1 h2
      exact hc _ _ _ h1 h2
  · skip
    exact hc _ _ _ h1 h2
theorem cj_wpX4_readLack {p q s : MM → Int64 → Prop} (hc : ∀ x0 x1, p x0 x1 → q x0 x1 → s x0 x1) {M : MM} {tl : Int64} (h1 : wpX4_readLack p M tl ) (h2 : wpX4_readLack q M tl ) : wpX4_readLack s M tl  := by
  unfold wpX4_readLack at h1 h2 ⊢
  refine cj_wpX4_takeBank (fun _ _ _ h1 h2 => ?_) h1 h2
  refine cj_wpX4_takeNameOf (fun _ _ _ h1 h2 => ?_) h1 h2
  refine ifc h1 h2 (fun _ h1 h2 => ?_) (fun _ h1 h2 => ?_)
  · skip
    refine anc h1 h2 (fun h1 h2 => ?_)
    refine anc h1 h2 (fun h1 h2 => ?_)
    refine alc h1 h2 (fun _ h1 h2 => ?_)
    exact hc _ _ h1 h2
  · skip
    exact hc _ _ h1 h2
theorem cj_wpX4_readTwins {p q s : MM → Int64 → Prop} (hc : ∀ x0 x1, p x0 x1 → q x0 x1 → s x0 x1) {M : MM} {tl : Int64} (h1 : wpX4_readTwins p M tl ) (h2 : wpX4_readTwins q M tl ) : wpX4_readTwins s M tl  := by
  unfold wpX4_readTwins at h1 h2 ⊢
  refine cj_wpX4_takeNameOf (fun _ _ _ h1 h2 => ?_) h1 h2
  refine cj_wpX4_tellOnce (fun _ _ h1 h2 => ?_) h1 h2
  refine cj_wpX4_takeNameOf (fun _ _ _ h1 h2 => ?_) h1 h2
  refine cj_wpX4_tellOnce (fun _ _ h1 h2 => ?_) h1 h2
  refine ifc h1 h2 (fun _ h1 h2 => ?_) (fun _ h1 h2 => ?_)
  · skip
    refine anc h1 h2 (fun h1 h2 => ?_)
    refine alc h1 h2 (fun _ h1 h2 => ?_)
    refine anc h1 h2 (fun h1 h2 => ?_)
    refine alc h1 h2 (fun _ h1 h2 => ?_)
    exact hc _ _ h1 h2
  · skip
    exact hc _ _ h1 h2
theorem cj_wpX4_readPaint {p q s : MM → Int64 → Prop} (hc : ∀ x0 x1, p x0 x1 → q x0 x1 → s x0 x1) {M : MM} {tl : Int64} (h1 : wpX4_readPaint p M tl ) (h2 : wpX4_readPaint q M tl ) : wpX4_readPaint s M tl  := by
  unfold wpX4_readPaint at h1 h2 ⊢
  refine cj_wpX4_takeNumber (fun _ _ _ h1 h2 => ?_) h1 h2
  refine cj_wpX4_tellOnce (fun _ _ h1 h2 => ?_) h1 h2
  refine cj_wpX4_takeNumber (fun _ _ _ h1 h2 => ?_) h1 h2
  refine cj_wpX4_tellOnce (fun _ _ h1 h2 => ?_) h1 h2
  refine ifc h1 h2 (fun _ h1 h2 => ?_) (fun _ h1 h2 => ?_)
  · skip
    refine anc h1 h2 (fun h1 h2 => ?_)
    refine alc h1 h2 (fun _ h1 h2 => ?_)
    refine anc h1 h2 (fun h1 h2 => ?_)
    refine alc h1 h2 (fun _ h1 h2 => ?_)
    exact hc _ _ h1 h2
  · skip
    exact hc _ _ h1 h2
theorem cj_wpX4_readRight {p q s : MM → Int64 → Prop} (hc : ∀ x0 x1, p x0 x1 → q x0 x1 → s x0 x1) {M : MM} {tl : Int64} (h1 : wpX4_readRight p M tl ) (h2 : wpX4_readRight q M tl ) : wpX4_readRight s M tl  := by
  unfold wpX4_readRight at h1 h2 ⊢
  refine cj_wpX4_takeNameOf (fun _ _ _ h1 h2 => ?_) h1 h2
  refine ifc h1 h2 (fun _ h1 h2 => ?_) (fun _ h1 h2 => ?_)
  · skip
    refine alc h1 h2 (fun _ h1 h2 => ?_)
    exact hc _ _ h1 h2
  · skip
    exact hc _ _ h1 h2
theorem cj_wpX10_slot {p q s : Int32 → MM → Int64 → Prop} (hc : ∀ x0 x1 x2, p x0 x1 x2 → q x0 x1 x2 → s x0 x1 x2) {M : MM} {tl : Int64} {v0 : Int32} {v1 : Int32} (h1 : wpX10_slot p M tl v0 v1) (h2 : wpX10_slot q M tl v0 v1) : wpX10_slot s M tl v0 v1 := by
  unfold wpX10_slot at h1 h2 ⊢
  exact hc _ _ _ h1 h2
theorem cj_wpX4_takeThing {p q s : Int32 → MM → Int64 → Prop} (hc : ∀ x0 x1 x2, p x0 x1 x2 → q x0 x1 x2 → s x0 x1 x2) {M : MM} {tl : Int64} (h1 : wpX4_takeThing p M tl ) (h2 : wpX4_takeThing q M tl ) : wpX4_takeThing s M tl  := by
  unfold wpX4_takeThing at h1 h2 ⊢
  refine cj_wpX4_takeNameOf (fun _ _ _ h1 h2 => ?_) h1 h2
  refine ifc h1 h2 (fun _ h1 h2 => ?_) (fun _ h1 h2 => ?_)
  · skip
    refine cj_wpX4_takeNumber (fun _ _ _ h1 h2 => ?_) h1 h2
    refine cj_wpX4_takeNameOf (fun _ _ _ h1 h2 => ?_) h1 h2
    refine ifc h1 h2 (fun _ h1 h2 => ?_) (fun _ h1 h2 => ?_)
    · skip
      exact hc _ _ _ h1 h2
    · skip
      exact hc _ _ _ h1 h2
  · skip
    exact hc _ _ _ h1 h2
theorem cj_wpX10_isBank {p q s : Int32 → MM → Int64 → Prop} (hc : ∀ x0 x1 x2, p x0 x1 x2 → q x0 x1 x2 → s x0 x1 x2) {M : MM} {tl : Int64} {v0 : Int32} (h1 : wpX10_isBank p M tl v0) (h2 : wpX10_isBank q M tl v0) : wpX10_isBank s M tl v0 := by
  unfold wpX10_isBank at h1 h2 ⊢
  refine ifc h1 h2 (fun _ h1 h2 => ?_) (fun _ h1 h2 => ?_)
  · skip
    exact hc _ _ _ h1 h2
  · skip
    refine ifc h1 h2 (fun _ h1 h2 => ?_) (fun _ h1 h2 => ?_)
    · skip
      exact hc _ _ _ h1 h2
    · skip
      exact hc _ _ _ h1 h2
theorem cj_wpX10_isSlot {p q s : Int32 → MM → Int64 → Prop} (hc : ∀ x0 x1 x2, p x0 x1 x2 → q x0 x1 x2 → s x0 x1 x2) {M : MM} {tl : Int64} {v0 : Int32} {v1 : Int32} (h1 : wpX10_isSlot p M tl v0 v1) (h2 : wpX10_isSlot q M tl v0 v1) : wpX10_isSlot s M tl v0 v1 := by
  unfold wpX10_isSlot at h1 h2 ⊢
  refine cj_wpX10_isBank (fun _ _ _ h1 h2 => ?_) h1 h2
  refine ifc h1 h2 (fun _ h1 h2 => ?_) (fun _ h1 h2 => ?_)
  · skip
    exact hc _ _ _ h1 h2
  · skip
    refine ifc h1 h2 (fun _ h1 h2 => ?_) (fun _ h1 h2 => ?_)
    · skip
      exact hc _ _ _ h1 h2
    · skip
      refine ifc h1 h2 (fun _ h1 h2 => ?_) (fun _ h1 h2 => ?_)
      · skip
        exact hc _ _ _ h1 h2
      · skip
        exact hc _ _ _ h1 h2
theorem cj_wpX7_setThing {p q s : MM → Int64 → Prop} (hc : ∀ x0 x1, p x0 x1 → q x0 x1 → s x0 x1) {M : MM} {tl : Int64} {v0 : Nat} {v1 : Int32} {v2 : Int32} {v3 : Int32} (h1 : wpX7_setThing p M tl v0 v1 v2 v3) (h2 : wpX7_setThing q M tl v0 v1 v2 v3) : wpX7_setThing s M tl v0 v1 v2 v3 := by
  unfold wpX7_setThing at h1 h2 ⊢
  refine cj_wpX10_isSlot (fun _ _ _ h1 h2 => ?_) h1 h2
  refine ifc h1 h2 (fun _ h1 h2 => ?_) (fun _ h1 h2 => ?_)
  · skip
    exact hc _ _ h1 h2
  · skip
    refine anc h1 h2 (fun h1 h2 => ?_)
    refine cj_wpX10_slot (fun _ _ _ h1 h2 => ?_) h1 h2
    refine anc h1 h2 (fun h1 h2 => ?_)
    refine anc h1 h2 (fun h1 h2 => ?_)
    refine alc h1 h2 (fun _ h1 h2 => ?_)
    exact hc _ _ h1 h2
theorem cj_wpX4_readThing {p q s : MM → Int64 → Prop} (hc : ∀ x0 x1, p x0 x1 → q x0 x1 → s x0 x1) {M : MM} {tl : Int64} (h1 : wpX4_readThing p M tl ) (h2 : wpX4_readThing q M tl ) : wpX4_readThing s M tl  := by
  unfold wpX4_readThing at h1 h2 ⊢
  refine cj_wpX4_takeBank (fun _ _ _ h1 h2 => ?_) h1 h2
  refine cj_wpX4_takeNumber (fun _ _ _ h1 h2 => ?_) h1 h2
  refine cj_wpX10_slot (fun _ _ _ h1 h2 => ?_) h1 h2
  refine cj_wpX4_tellOnce (fun _ _ h1 h2 => ?_) h1 h2
  refine cj_wpX4_takeThing (fun _ _ _ h1 h2 => ?_) h1 h2
  refine ifc h1 h2 (fun _ h1 h2 => ?_) (fun _ h1 h2 => ?_)
  · skip
    refine cj_wpX7_setThing (fun _ _ h1 h2 => ?_) h1 h2
    exact hc _ _ h1 h2
  · skip
    exact hc _ _ h1 h2
theorem cj_wpX5_isFull {p q s : Int32 → MM → Int64 → Prop} (hc : ∀ x0 x1 x2, p x0 x1 x2 → q x0 x1 x2 → s x0 x1 x2) {M : MM} {tl : Int64} {v0 : Nat} (h1 : wpX5_isFull p M tl v0) (h2 : wpX5_isFull q M tl v0) : wpX5_isFull s M tl v0 := by
  unfold wpX5_isFull at h1 h2 ⊢
  refine anc h1 h2 (fun h1 h2 => ?_)
  refine anc h1 h2 (fun h1 h2 => ?_)
  refine ifc h1 h2 (fun _ h1 h2 => ?_) (fun _ h1 h2 => ?_)
  · skip
    exact hc _ _ _ h1 h2
  · skip
    exact hc _ _ _ h1 h2
theorem cj_wpX5_cell {p q s : Int32 → MM → Int64 → Prop} (hc : ∀ x0 x1 x2, p x0 x1 x2 → q x0 x1 x2 → s x0 x1 x2) {M : MM} {tl : Int64} {v0 : Nat} {v1 : Int32} {v2 : Int32} (h1 : wpX5_cell p M tl v0 v1 v2) (h2 : wpX5_cell q M tl v0 v1 v2) : wpX5_cell s M tl v0 v1 v2 := by
  unfold wpX5_cell at h1 h2 ⊢
  refine ifc h1 h2 (fun _ h1 h2 => ?_) (fun _ h1 h2 => ?_)
  · skip
    exact hc _ _ _ h1 h2
  · skip
    refine anc h1 h2 (fun h1 h2 => ?_)
    refine ifc h1 h2 (fun _ h1 h2 => ?_) (fun _ h1 h2 => ?_)
    · skip
      exact hc _ _ _ h1 h2
    · skip
      refine ifc h1 h2 (fun _ h1 h2 => ?_) (fun _ h1 h2 => ?_)
      · skip
        exact hc _ _ _ h1 h2
      · skip
        refine anc h1 h2 (fun h1 h2 => ?_)
        refine ifc h1 h2 (fun _ h1 h2 => ?_) (fun _ h1 h2 => ?_)
        · skip
          refine anc h1 h2 (fun h1 h2 => ?_)
          refine anc h1 h2 (fun h1 h2 => ?_)
          refine anc h1 h2 (fun h1 h2 => ?_)
          refine anc h1 h2 (fun h1 h2 => ?_)
          exact hc _ _ _ h1 h2
        · skip
          exact hc _ _ _ h1 h2
theorem cj_wpX7_lastMonth {p q s : Int32 → MM → Int64 → Prop} (hc : ∀ x0 x1 x2, p x0 x1 x2 → q x0 x1 x2 → s x0 x1 x2) {M : MM} {tl : Int64} {v0 : Nat} (h1 : wpX7_lastMonth p M tl v0) (h2 : wpX7_lastMonth q M tl v0) : wpX7_lastMonth s M tl v0 := by
  unfold wpX7_lastMonth at h1 h2 ⊢
  refine anc h1 h2 (fun h1 h2 => ?_)
  refine anc h1 h2 (fun h1 h2 => ?_)
  refine anc h1 h2 (fun h1 h2 => ?_)
  refine anc h1 h2 (fun h1 h2 => ?_)
  refine cj_wpX5_cell (fun _ _ _ h1 h2 => ?_) h1 h2
  exact hc _ _ _ h1 h2
theorem cj_wpX5_setCell {p q s : MM → Int64 → Prop} (hc : ∀ x0 x1, p x0 x1 → q x0 x1 → s x0 x1) {M : MM} {tl : Int64} {v0 : Nat} {v1 : Int32} {v2 : Int32} {v3 : Int32} (h1 : wpX5_setCell p M tl v0 v1 v2 v3) (h2 : wpX5_setCell q M tl v0 v1 v2 v3) : wpX5_setCell s M tl v0 v1 v2 v3 := by
  unfold wpX5_setCell at h1 h2 ⊢
  refine anc h1 h2 (fun h1 h2 => ?_)
  refine ifc h1 h2 (fun _ h1 h2 => ?_) (fun _ h1 h2 => ?_)
  · skip
    exact hc _ _ h1 h2
  · skip
    refine anc h1 h2 (fun h1 h2 => ?_)
    refine anc h1 h2 (fun h1 h2 => ?_)
    refine anc h1 h2 (fun h1 h2 => ?_)
    refine anc h1 h2 (fun h1 h2 => ?_)
    refine alc h1 h2 (fun _ h1 h2 => ?_)
    exact hc _ _ h1 h2
theorem cj_wpX5_addRow {p q s : MM → Int64 → Prop} (hc : ∀ x0 x1, p x0 x1 → q x0 x1 → s x0 x1) {M : MM} {tl : Int64} {v0 : Nat} {v1 : Int32} {v2 : Int32} {v3 : Int32} {v4 : Int32} (h1 : wpX5_addRow p M tl v0 v1 v2 v3 v4) (h2 : wpX5_addRow q M tl v0 v1 v2 v3 v4) : wpX5_addRow s M tl v0 v1 v2 v3 v4 := by
  unfold wpX5_addRow at h1 h2 ⊢
  refine anc h1 h2 (fun h1 h2 => ?_)
  refine cj_wpX5_isFull (fun _ _ _ h1 h2 => ?_) h1 h2
  refine ifc h1 h2 (fun _ h1 h2 => ?_) (fun _ h1 h2 => ?_)
  · skip
    refine anc h1 h2 (fun h1 h2 => ?_)
    refine anc h1 h2 (fun h1 h2 => ?_)
    refine anc h1 h2 (fun h1 h2 => ?_)
    refine alc h1 h2 (fun _ h1 h2 => ?_)
    refine anc h1 h2 (fun h1 h2 => ?_)
    refine cj_wpX5_setCell (fun _ _ h1 h2 => ?_) h1 h2
    refine anc h1 h2 (fun h1 h2 => ?_)
    refine cj_wpX5_setCell (fun _ _ h1 h2 => ?_) h1 h2
    refine anc h1 h2 (fun h1 h2 => ?_)
    refine cj_wpX5_setCell (fun _ _ h1 h2 => ?_) h1 h2
    refine anc h1 h2 (fun h1 h2 => ?_)
    refine cj_wpX5_setCell (fun _ _ h1 h2 => ?_) h1 h2
    exact hc _ _ h1 h2
  · skip
    exact hc _ _ h1 h2
theorem cj_wX4_readWork_23 {p q s : MM → Int64 → Prop} (hc : ∀ x0 x1, p x0 x1 → q x0 x1 → s x0 x1) {M : MM} {tl : Int64} (h1 : wX4_readWork_23 p M tl ) (h2 : wX4_readWork_23 q M tl ) : wX4_readWork_23 s M tl  := by
  unfold wX4_readWork_23 at h1 h2 ⊢
  refine cj_wpX7_lastMonth (fun _ _ _ h1 h2 => ?_) h1 h2
  refine cj_wpX4_takeNumber (fun _ _ _ h1 h2 => ?_) h1 h2
  refine cj_wpX4_takeBank (fun _ _ _ h1 h2 => ?_) h1 h2
  refine cj_wpX4_takeNumber (fun _ _ _ h1 h2 => ?_) h1 h2
  refine cj_wpX4_takeThing (fun _ _ _ h1 h2 => ?_) h1 h2
  refine ifc h1 h2 (fun _ h1 h2 => ?_) (fun _ h1 h2 => ?_)
  · skip
    refine cj_wpX5_addRow (fun _ _ h1 h2 => ?_) h1 h2
    exact hc _ _ h1 h2
  · skip
    exact hc _ _ h1 h2
theorem cj_wpX4_readWork {p q s : MM → Int64 → Prop} (hc : ∀ x0 x1, p x0 x1 → q x0 x1 → s x0 x1) {M : MM} {tl : Int64} (h1 : wpX4_readWork p M tl ) (h2 : wpX4_readWork q M tl ) : wpX4_readWork s M tl  := by
  unfold wpX4_readWork at h1 h2 ⊢
  refine cj_wpX5_isFull (fun _ _ _ h1 h2 => ?_) h1 h2
  refine ifc h1 h2 (fun _ h1 h2 => ?_) (fun _ h1 h2 => ?_)
  · skip
    exact cj_wX4_readWork_23 hc  h1 h2
  · skip
    refine cj_wpX4_fail (fun _ _ _ h1 h2 => ?_) h1 h2
    exact cj_wX4_readWork_23 hc  h1 h2
theorem cj_wX4_readLine_21 {p q s : MM → Int64 → Prop} (hc : ∀ x0 x1, p x0 x1 → q x0 x1 → s x0 x1) {M : MM} {tl : Int64} {v1 : Int32} (h1 : wX4_readLine_21 p M tl v1) (h2 : wX4_readLine_21 q M tl v1) : wX4_readLine_21 s M tl v1 := by
  unfold wX4_readLine_21 at h1 h2 ⊢
  refine ifc h1 h2 (fun _ h1 h2 => ?_) (fun _ h1 h2 => ?_)
  · skip
    refine cj_wpX4_tellOnce (fun _ _ h1 h2 => ?_) h1 h2
    refine cj_wpX4_takeNumber (fun _ _ _ h1 h2 => ?_) h1 h2
    refine alc h1 h2 (fun _ h1 h2 => ?_)
    exact hc _ _ h1 h2
  · skip
    refine ifc h1 h2 (fun _ h1 h2 => ?_) (fun _ h1 h2 => ?_)
    · skip
      refine cj_wpX4_tellOnce (fun _ _ h1 h2 => ?_) h1 h2
      refine cj_wpX4_takeNumber (fun _ _ _ h1 h2 => ?_) h1 h2
      refine alc h1 h2 (fun _ h1 h2 => ?_)
      exact hc _ _ h1 h2
    · skip
      refine ifc h1 h2 (fun _ h1 h2 => ?_) (fun _ h1 h2 => ?_)
      · skip
        refine cj_wpX4_tellOnce (fun _ _ h1 h2 => ?_) h1 h2
        refine cj_wpX4_takeNumber (fun _ _ _ h1 h2 => ?_) h1 h2
        refine alc h1 h2 (fun _ h1 h2 => ?_)
        exact hc _ _ h1 h2
      · skip
        refine ifc h1 h2 (fun _ h1 h2 => ?_) (fun _ h1 h2 => ?_)
        · skip
          refine cj_wpX4_tellOnce (fun _ _ h1 h2 => ?_) h1 h2
          refine cj_wpX4_readPrices (fun _ _ h1 h2 => ?_) h1 h2
          exact hc _ _ h1 h2
        · skip
          refine ifc h1 h2 (fun _ h1 h2 => ?_) (fun _ h1 h2 => ?_)
          · skip
            refine cj_wpX4_readOfKinds (fun _ _ h1 h2 => ?_) h1 h2
            exact hc _ _ h1 h2
          · skip
            refine ifc h1 h2 (fun _ h1 h2 => ?_) (fun _ h1 h2 => ?_)
            · skip
              refine cj_wpX4_readOfKinds (fun _ _ h1 h2 => ?_) h1 h2
              exact hc _ _ h1 h2
            · skip
              refine ifc h1 h2 (fun _ h1 h2 => ?_) (fun _ h1 h2 => ?_)
              · skip
                refine cj_wpX4_readLack (fun _ _ h1 h2 => ?_) h1 h2
                exact hc _ _ h1 h2
              · skip
                refine ifc h1 h2 (fun _ h1 h2 => ?_) (fun _ h1 h2 => ?_)
                · skip
                  refine cj_wpX4_readTwins (fun _ _ h1 h2 => ?_) h1 h2
                  exact hc _ _ h1 h2
                · skip
                  refine ifc h1 h2 (fun _ h1 h2 => ?_) (fun _ h1 h2 => ?_)
                  · skip
                    refine cj_wpX4_readPaint (fun _ _ h1 h2 => ?_) h1 h2
                    exact hc _ _ h1 h2
                  · skip
                    refine ifc h1 h2 (fun _ h1 h2 => ?_) (fun _ h1 h2 => ?_)
                    · skip
                      refine cj_wpX4_readRight (fun _ _ h1 h2 => ?_) h1 h2
                      exact hc _ _ h1 h2
                    · skip
                      refine ifc h1 h2 (fun _ h1 h2 => ?_) (fun _ h1 h2 => ?_)
                      · skip
                        refine cj_wpX4_readThing (fun _ _ h1 h2 => ?_) h1 h2
                        exact hc _ _ h1 h2
                      · skip
                        refine ifc h1 h2 (fun _ h1 h2 => ?_) (fun _ h1 h2 => ?_)
                        · skip
                          refine cj_wpX4_readWork (fun _ _ h1 h2 => ?_) h1 h2
                          exact hc _ _ h1 h2
                        · skip
                          exact hc _ _ h1 h2
theorem cj_wpX4_readLine {p q s : MM → Int64 → Prop} (hc : ∀ x0 x1, p x0 x1 → q x0 x1 → s x0 x1) {M : MM} {tl : Int64} (h1 : wpX4_readLine p M tl ) (h2 : wpX4_readLine q M tl ) : wpX4_readLine s M tl  := by
  unfold wpX4_readLine at h1 h2 ⊢
  refine cj_wpX4_nameAmong (fun _ _ _ h1 h2 => ?_) h1 h2
  refine ifc h1 h2 (fun _ h1 h2 => ?_) (fun _ h1 h2 => ?_)
  · skip
    exact cj_wX4_readLine_21 hc  h1 h2
  · skip
    refine cj_wpX4_fail (fun _ _ _ h1 h2 => ?_) h1 h2
    exact cj_wX4_readLine_21 hc  h1 h2
theorem cj_wpX4_takeStop {p q s : MM → Int64 → Prop} (hc : ∀ x0 x1, p x0 x1 → q x0 x1 → s x0 x1) {M : MM} {tl : Int64} (h1 : wpX4_takeStop p M tl ) (h2 : wpX4_takeStop q M tl ) : wpX4_takeStop s M tl  := by
  unfold wpX4_takeStop at h1 h2 ⊢
  refine cj_wpX4_takeToken (fun _ _ h1 h2 => ?_) h1 h2
  refine ifc h1 h2 (fun _ h1 h2 => ?_) (fun _ h1 h2 => ?_)
  · skip
    refine ifc h1 h2 (fun _ h1 h2 => ?_) (fun _ h1 h2 => ?_)
    · skip
      exact hc _ _ h1 h2
    · skip
      refine cj_wpX4_fail (fun _ _ _ h1 h2 => ?_) h1 h2
      exact hc _ _ h1 h2
  · skip
    exact hc _ _ h1 h2
