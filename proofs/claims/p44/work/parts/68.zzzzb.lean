/-! FORMULAS KEEP CONJUNCTIONS: end, sheet, lay (printed by cj.py) -/
theorem cj_wpX10_end {p q s : Int32 → MM → Int64 → Prop} (hc : ∀ x0 x1 x2, p x0 x1 x2 → q x0 x1 x2 → s x0 x1 x2) {M : MM} {tl : Int64} {v1 : Int32} (h1 : wpX10_end p M tl v1) (h2 : wpX10_end q M tl v1) : wpX10_end s M tl v1 := by
  unfold wpX10_end at h1 h2 ⊢
  refine ifc h1 h2 (fun _ h1 h2 => ?_) (fun _ h1 h2 => ?_)
  · skip
    exact hc _ _ _ h1 h2
  · skip
    refine ifc h1 h2 (fun _ h1 h2 => ?_) (fun _ h1 h2 => ?_)
    · skip
      refine alc h1 h2 (fun _ h1 h2 => ?_)
      exact hc _ _ _ h1 h2
    · skip
      exact hc _ _ _ h1 h2
theorem cj_wpX11_end {p q s : Int32 → MM → Int64 → Prop} (hc : ∀ x0 x1 x2, p x0 x1 x2 → q x0 x1 x2 → s x0 x1 x2) {M : MM} {tl : Int64} {v1 : Int32} (h1 : wpX11_end p M tl v1) (h2 : wpX11_end q M tl v1) : wpX11_end s M tl v1 := by
  unfold wpX11_end at h1 h2 ⊢
  refine cj_wpX11_in (fun _ _ _ h1 h2 => ?_) h1 h2
  refine ifc h1 h2 (fun _ h1 h2 => ?_) (fun _ h1 h2 => ?_)
  · skip
    exact hc _ _ _ h1 h2
  · skip
    refine alc h1 h2 (fun _ h1 h2 => ?_)
    exact hc _ _ _ h1 h2
theorem cj_wpX10_isSheet {p q s : Int32 → MM → Int64 → Prop} (hc : ∀ x0 x1 x2, p x0 x1 x2 → q x0 x1 x2 → s x0 x1 x2) {M : MM} {tl : Int64} {v0 : Int32} (h1 : wpX10_isSheet p M tl v0) (h2 : wpX10_isSheet q M tl v0) : wpX10_isSheet s M tl v0 := by
  unfold wpX10_isSheet at h1 h2 ⊢
  refine ifc h1 h2 (fun _ h1 h2 => ?_) (fun _ h1 h2 => ?_)
  · skip
    exact hc _ _ _ h1 h2
  · skip
    refine ifc h1 h2 (fun _ h1 h2 => ?_) (fun _ h1 h2 => ?_)
    · skip
      exact hc _ _ _ h1 h2
    · skip
      exact hc _ _ _ h1 h2
theorem cj_wpX10_isLane {p q s : Int32 → MM → Int64 → Prop} (hc : ∀ x0 x1 x2, p x0 x1 x2 → q x0 x1 x2 → s x0 x1 x2) {M : MM} {tl : Int64} {v0 : Int32} (h1 : wpX10_isLane p M tl v0) (h2 : wpX10_isLane q M tl v0) : wpX10_isLane s M tl v0 := by
  unfold wpX10_isLane at h1 h2 ⊢
  refine ifc h1 h2 (fun _ h1 h2 => ?_) (fun _ h1 h2 => ?_)
  · skip
    exact hc _ _ _ h1 h2
  · skip
    refine ifc h1 h2 (fun _ h1 h2 => ?_) (fun _ h1 h2 => ?_)
    · skip
      exact hc _ _ _ h1 h2
    · skip
      exact hc _ _ _ h1 h2
theorem cj_wX8_renew_17 {p q s : MM → Int64 → Prop} (hc : ∀ x0 x1, p x0 x1 → q x0 x1 → s x0 x1) : ∀ (d e : Nat) (M : MM) (tl : Int64) (v0 : Nat) (v3 : Int32), wX8_renew_17 p d M tl v0 v3 → wX8_renew_17 q e M tl v0 v3 → wX8_renew_17 s d M tl v0 v3 := by
  intro d
  induction d with
  | zero =>
    intro e M tl v0 v3 h1 h2
    exact h1.elim
  | succ d ih =>
    intro e M tl v0 v3 h1 h2
    cases e with
    | zero => exact h2.elim
    | succ e =>
    unfold wX8_renew_17 at h1 h2 ⊢
    refine ifc h1 h2 (fun _ h1 h2 => ?_) (fun _ h1 h2 => ?_)
    · skip
      exact hc _ _ h1 h2
    · skip
      refine anc h1 h2 (fun h1 h2 => ?_)
      refine anc h1 h2 (fun h1 h2 => ?_)
      refine anc h1 h2 (fun h1 h2 => ?_)
      refine alc h1 h2 (fun _ h1 h2 => ?_)
      exact ih _ _ _ _ _ h1 h2
theorem cj_wpX8_renew {p q s : MM → Int64 → Prop} (hc : ∀ x0 x1, p x0 x1 → q x0 x1 → s x0 x1) {M : MM} {tl : Int64} {v0 : Nat} {v1 : Int32} {v2 : Int32} (h1 : wpX8_renew p M tl v0 v1 v2) (h2 : wpX8_renew q M tl v0 v1 v2) : wpX8_renew s M tl v0 v1 v2 := by
  unfold wpX8_renew at h1 h2 ⊢
  refine anc h1 h2 (fun h1 h2 => ?_)
  refine alc h1 h2 (fun _ h1 h2 => ?_)
  refine anc h1 h2 (fun h1 h2 => ?_)
  refine alc h1 h2 (fun _ h1 h2 => ?_)
  obtain ⟨d1, h1⟩ := h1
  obtain ⟨d2, h2⟩ := h2
  exact ⟨d1, cj_wX8_renew_17 hc  d1 d2 _ _ _ _ h1 h2⟩
theorem cj_wpX10_sheet {p q s : Int32 → MM → Int64 → Prop} (hc : ∀ x0 x1 x2, p x0 x1 x2 → q x0 x1 x2 → s x0 x1 x2) {M : MM} {tl : Int64} {v1 : Int32} {v2 : Int32} {v3 : Int32} (h1 : wpX10_sheet p M tl v1 v2 v3) (h2 : wpX10_sheet q M tl v1 v2 v3) : wpX10_sheet s M tl v1 v2 v3 := by
  unfold wpX10_sheet at h1 h2 ⊢
  refine cj_wpX10_isSheet (fun _ _ _ h1 h2 => ?_) h1 h2
  refine ifc h1 h2 (fun _ h1 h2 => ?_) (fun _ h1 h2 => ?_)
  · skip
    exact hc _ _ _ h1 h2
  · skip
    refine cj_wpX10_isLane (fun _ _ _ h1 h2 => ?_) h1 h2
    refine ifc h1 h2 (fun _ h1 h2 => ?_) (fun _ h1 h2 => ?_)
    · skip
      exact hc _ _ _ h1 h2
    · skip
      refine ifc h1 h2 (fun _ h1 h2 => ?_) (fun _ h1 h2 => ?_)
      · skip
        refine ifc h1 h2 (fun _ h1 h2 => ?_) (fun _ h1 h2 => ?_)
        · skip
          refine anc h1 h2 (fun h1 h2 => ?_)
          refine anc h1 h2 (fun h1 h2 => ?_)
          refine cj_wpX8_renew (fun _ _ h1 h2 => ?_) h1 h2
          exact hc _ _ _ h1 h2
        · skip
          exact hc _ _ _ h1 h2
      · skip
        exact hc _ _ _ h1 h2
theorem cj_wpX11_isSheet {p q s : Int32 → MM → Int64 → Prop} (hc : ∀ x0 x1 x2, p x0 x1 x2 → q x0 x1 x2 → s x0 x1 x2) {M : MM} {tl : Int64} {v0 : Int32} {v1 : Int32} (h1 : wpX11_isSheet p M tl v0 v1) (h2 : wpX11_isSheet q M tl v0 v1) : wpX11_isSheet s M tl v0 v1 := by
  unfold wpX11_isSheet at h1 h2 ⊢
  refine cj_wpX11_in (fun _ _ _ h1 h2 => ?_) h1 h2
  refine ifc h1 h2 (fun _ h1 h2 => ?_) (fun _ h1 h2 => ?_)
  · skip
    exact hc _ _ _ h1 h2
  · skip
    refine cj_wpX11_in (fun _ _ _ h1 h2 => ?_) h1 h2
    refine ifc h1 h2 (fun _ h1 h2 => ?_) (fun _ h1 h2 => ?_)
    · skip
      exact hc _ _ _ h1 h2
    · skip
      exact hc _ _ _ h1 h2
theorem cj_wX11_sheet_40 {p q s : Int32 → MM → Int64 → Prop} (hc : ∀ x0 x1 x2, p x0 x1 x2 → q x0 x1 x2 → s x0 x1 x2) : ∀ (d e : Nat) (M : MM) (tl : Int64) (v1 : Int32) (v4 : Int32), wX11_sheet_40 p d M tl v1 v4 → wX11_sheet_40 q e M tl v1 v4 → wX11_sheet_40 s d M tl v1 v4 := by
  intro d
  induction d with
  | zero =>
    intro e M tl v1 v4 h1 h2
    exact h1.elim
  | succ d ih =>
    intro e M tl v1 v4 h1 h2
    cases e with
    | zero => exact h2.elim
    | succ e =>
    unfold wX11_sheet_40 at h1 h2 ⊢
    refine ifc h1 h2 (fun _ h1 h2 => ?_) (fun _ h1 h2 => ?_)
    · skip
      exact hc _ _ _ h1 h2
    · skip
      refine anc h1 h2 (fun h1 h2 => ?_)
      refine alc h1 h2 (fun _ h1 h2 => ?_)
      exact ih _ _ _ _ _ h1 h2
theorem cj_wpX11_sheet {p q s : Int32 → MM → Int64 → Prop} (hc : ∀ x0 x1 x2, p x0 x1 x2 → q x0 x1 x2 → s x0 x1 x2) {M : MM} {tl : Int64} {v1 : Int32} {v2 : Int32} {v3 : Int32} (h1 : wpX11_sheet p M tl v1 v2 v3) (h2 : wpX11_sheet q M tl v1 v2 v3) : wpX11_sheet s M tl v1 v2 v3 := by
  unfold wpX11_sheet at h1 h2 ⊢
  refine cj_wpX11_isSheet (fun _ _ _ h1 h2 => ?_) h1 h2
  refine ifc h1 h2 (fun _ h1 h2 => ?_) (fun _ h1 h2 => ?_)
  · skip
    exact hc _ _ _ h1 h2
  · skip
    refine ifc h1 h2 (fun _ h1 h2 => ?_) (fun _ h1 h2 => ?_)
    · skip
      refine ifc h1 h2 (fun _ h1 h2 => ?_) (fun _ h1 h2 => ?_)
      · skip
        refine anc h1 h2 (fun h1 h2 => ?_)
        refine alc h1 h2 (fun _ h1 h2 => ?_)
        refine anc h1 h2 (fun h1 h2 => ?_)
        refine alc h1 h2 (fun _ h1 h2 => ?_)
        obtain ⟨d1, h1⟩ := h1
        obtain ⟨d2, h2⟩ := h2
        exact ⟨d1, cj_wX11_sheet_40 hc  d1 d2 _ _ _ _ h1 h2⟩
      · skip
        exact hc _ _ _ h1 h2
    · skip
      exact hc _ _ _ h1 h2
theorem cj_wpX8_faultAt {p q s : Int32 → MM → Int64 → Prop} (hc : ∀ x0 x1 x2, p x0 x1 x2 → q x0 x1 x2 → s x0 x1 x2) {M : MM} {tl : Int64} {v0 : Nat} {v1 : Int32} (h1 : wpX8_faultAt p M tl v0 v1) (h2 : wpX8_faultAt q M tl v0 v1) : wpX8_faultAt s M tl v0 v1 := by
  unfold wpX8_faultAt at h1 h2 ⊢
  refine anc h1 h2 (fun h1 h2 => ?_)
  refine ifc h1 h2 (fun _ h1 h2 => ?_) (fun _ h1 h2 => ?_)
  · skip
    refine ifc h1 h2 (fun _ h1 h2 => ?_) (fun _ h1 h2 => ?_)
    · skip
      exact hc _ _ _ h1 h2
    · skip
      refine anc h1 h2 (fun h1 h2 => ?_)
      refine ifc h1 h2 (fun _ h1 h2 => ?_) (fun _ h1 h2 => ?_)
      · skip
        exact hc _ _ _ h1 h2
      · skip
        exact hc _ _ _ h1 h2
  · skip
    exact hc _ _ _ h1 h2
theorem cj_wX8_setCell_39 {p q s : MM → Int64 → Prop} (hc : ∀ x0 x1, p x0 x1 → q x0 x1 → s x0 x1) {M : MM} {tl : Int64} {s0 : Nat} {s1 : Int32} {s2 : Int32} (h1 : wX8_setCell_39 p M tl s0 s1 s2) (h2 : wX8_setCell_39 q M tl s0 s1 s2) : wX8_setCell_39 s M tl s0 s1 s2 := by
  unfold wX8_setCell_39 at h1 h2 ⊢
  refine anc h1 h2 (fun h1 h2 => ?_)
  refine anc h1 h2 (fun h1 h2 => ?_)
  refine alc h1 h2 (fun _ h1 h2 => ?_)
  exact hc _ _ h1 h2
theorem cj_wpX8_setCell {p q s : MM → Int64 → Prop} (hc : ∀ x0 x1, p x0 x1 → q x0 x1 → s x0 x1) {M : MM} {tl : Int64} {v0 : Nat} {v1 : Int32} {v2 : Int32} (h1 : wpX8_setCell p M tl v0 v1 v2) (h2 : wpX8_setCell q M tl v0 v1 v2) : wpX8_setCell s M tl v0 v1 v2 := by
  unfold wpX8_setCell at h1 h2 ⊢
  refine anc h1 h2 (fun h1 h2 => ?_)
  refine cj_wpX8_faultAt (fun _ _ _ h1 h2 => ?_) h1 h2
  refine ifc h1 h2 (fun _ h1 h2 => ?_) (fun _ h1 h2 => ?_)
  · skip
    refine anc h1 h2 (fun h1 h2 => ?_)
    refine anc h1 h2 (fun h1 h2 => ?_)
    refine ifc h1 h2 (fun _ h1 h2 => ?_) (fun _ h1 h2 => ?_)
    · skip
      exact cj_wX8_setCell_39 hc  h1 h2
    · skip
      refine anc h1 h2 (fun h1 h2 => ?_)
      refine ifc h1 h2 (fun _ h1 h2 => ?_) (fun _ h1 h2 => ?_)
      · skip
        exact cj_wX8_setCell_39 hc  h1 h2
      · skip
        exact cj_wX8_setCell_39 hc  h1 h2
  · skip
    exact hc _ _ h1 h2
theorem cj_wpX10_lay {p q s : Int32 → MM → Int64 → Prop} (hc : ∀ x0 x1 x2, p x0 x1 x2 → q x0 x1 x2 → s x0 x1 x2) {M : MM} {tl : Int64} {v1 : Int32} {v2 : Int32} {v3 : Int32} (h1 : wpX10_lay p M tl v1 v2 v3) (h2 : wpX10_lay q M tl v1 v2 v3) : wpX10_lay s M tl v1 v2 v3 := by
  unfold wpX10_lay at h1 h2 ⊢
  refine cj_wpX10_isSheet (fun _ _ _ h1 h2 => ?_) h1 h2
  refine ifc h1 h2 (fun _ h1 h2 => ?_) (fun _ h1 h2 => ?_)
  · skip
    exact hc _ _ _ h1 h2
  · skip
    refine anc h1 h2 (fun h1 h2 => ?_)
    refine anc h1 h2 (fun h1 h2 => ?_)
    refine cj_wpX8_faultAt (fun _ _ _ h1 h2 => ?_) h1 h2
    refine ifc h1 h2 (fun _ h1 h2 => ?_) (fun _ h1 h2 => ?_)
    · skip
      refine anc h1 h2 (fun h1 h2 => ?_)
      refine anc h1 h2 (fun h1 h2 => ?_)
      refine cj_wpX8_setCell (fun _ _ h1 h2 => ?_) h1 h2
      exact hc _ _ _ h1 h2
    · skip
      exact hc _ _ _ h1 h2
theorem cj_wX11_lay_85 {p q s : Int32 → MM → Int64 → Prop} (hc : ∀ x0 x1 x2, p x0 x1 x2 → q x0 x1 x2 → s x0 x1 x2) {M : MM} {tl : Int64} {s1 : Int32} {s2 : Int32} (h1 : wX11_lay_85 p M tl s1 s2) (h2 : wX11_lay_85 q M tl s1 s2) : wX11_lay_85 s M tl s1 s2 := by
  unfold wX11_lay_85 at h1 h2 ⊢
  refine anc h1 h2 (fun h1 h2 => ?_)
  refine alc h1 h2 (fun _ h1 h2 => ?_)
  exact hc _ _ _ h1 h2
theorem cj_wpX11_lay {p q s : Int32 → MM → Int64 → Prop} (hc : ∀ x0 x1 x2, p x0 x1 x2 → q x0 x1 x2 → s x0 x1 x2) {M : MM} {tl : Int64} {v1 : Int32} {v2 : Int32} {v3 : Int32} (h1 : wpX11_lay p M tl v1 v2 v3) (h2 : wpX11_lay q M tl v1 v2 v3) : wpX11_lay s M tl v1 v2 v3 := by
  unfold wpX11_lay at h1 h2 ⊢
  refine cj_wpX11_isSheet (fun _ _ _ h1 h2 => ?_) h1 h2
  refine ifc h1 h2 (fun _ h1 h2 => ?_) (fun _ h1 h2 => ?_)
  · skip
    exact hc _ _ _ h1 h2
  · skip
    refine anc h1 h2 (fun h1 h2 => ?_)
    refine ifc h1 h2 (fun _ h1 h2 => ?_) (fun _ h1 h2 => ?_)
    · skip
      exact hc _ _ _ h1 h2
    · skip
      refine anc h1 h2 (fun h1 h2 => ?_)
      refine cj_wpX11_in (fun _ _ _ h1 h2 => ?_) h1 h2
      refine ifc h1 h2 (fun _ h1 h2 => ?_) (fun _ h1 h2 => ?_)
      · skip
        exact hc _ _ _ h1 h2
      · skip
        refine anc h1 h2 (fun h1 h2 => ?_)
        refine ifc h1 h2 (fun _ h1 h2 => ?_) (fun _ h1 h2 => ?_)
        · skip
          exact cj_wX11_lay_85 hc  h1 h2
        · skip
          refine anc h1 h2 (fun h1 h2 => ?_)
          refine ifc h1 h2 (fun _ h1 h2 => ?_) (fun _ h1 h2 => ?_)
          · skip
            exact cj_wX11_lay_85 hc  h1 h2
          · skip
            exact cj_wX11_lay_85 hc  h1 h2
