/-! FORMULAS KEEP CONJUNCTIONS, more (printed by wip/gen/cj2.py) -/
theorem cj_wpX11_look {p q s : Int32 → MM → Int64 → Prop} (hc : ∀ x0 x1 x2, p x0 x1 x2 → q x0 x1 x2 → s x0 x1 x2) {M : MM} {tl : Int64} {v1 : Int32} (h1 : wpX11_look p M tl v1) (h2 : wpX11_look q M tl v1) : wpX11_look s M tl v1 := by
  unfold wpX11_look at h1 h2 ⊢
  refine ifc h1 h2 (fun _ h1 h2 => ?_) (fun _ h1 h2 => ?_)
  · skip
    exact hc _ _ _ h1 h2
  · skip
    refine anc h1 h2 (fun h1 h2 => ?_)
    exact hc _ _ _ h1 h2
theorem cj_wpX11_in {p q s : Int32 → MM → Int64 → Prop} (hc : ∀ x0 x1 x2, p x0 x1 x2 → q x0 x1 x2 → s x0 x1 x2) {M : MM} {tl : Int64} {v0 : Int64} {v2 : Int64} {v4 : Int64} (h1 : wpX11_in p M tl v0 v2 v4) (h2 : wpX11_in q M tl v0 v2 v4) : wpX11_in s M tl v0 v2 v4 := by
  unfold wpX11_in at h1 h2 ⊢
  refine ifc h1 h2 (fun _ h1 h2 => ?_) (fun _ h1 h2 => ?_)
  · skip
    exact hc _ _ _ h1 h2
  · skip
    refine ifc h1 h2 (fun _ h1 h2 => ?_) (fun _ h1 h2 => ?_)
    · skip
      exact hc _ _ _ h1 h2
    · skip
      exact hc _ _ _ h1 h2
theorem cj_wpX11_needs {p q s : MM → Int64 → Prop} (hc : ∀ x0 x1, p x0 x1 → q x0 x1 → s x0 x1) {M : MM} {tl : Int64} {v1 : Int32} {v2 : Int32} (h1 : wpX11_needs p M tl v1 v2) (h2 : wpX11_needs q M tl v1 v2) : wpX11_needs s M tl v1 v2 := by
  unfold wpX11_needs at h1 h2 ⊢
  refine ifc h1 h2 (fun _ h1 h2 => ?_) (fun _ h1 h2 => ?_)
  · skip
    refine ifc h1 h2 (fun _ h1 h2 => ?_) (fun _ h1 h2 => ?_)
    · skip
      refine alc h1 h2 (fun _ h1 h2 => ?_)
      refine alc h1 h2 (fun _ h1 h2 => ?_)
      exact hc _ _ h1 h2
    · skip
      exact hc _ _ h1 h2
  · skip
    exact hc _ _ h1 h2
theorem cj_wX11_next_260 {p q s : MM → Int64 → Prop} (hc : ∀ x0 x1, p x0 x1 → q x0 x1 → s x0 x1) {M : MM} {tl : Int64} {s1 : Int32} (h1 : wX11_next_260 p M tl s1) (h2 : wX11_next_260 q M tl s1) : wX11_next_260 s M tl s1 := by
  unfold wX11_next_260 at h1 h2 ⊢
  refine cj_wpX11_needs (fun _ _ h1 h2 => ?_) h1 h2
  refine alc h1 h2 (fun _ h1 h2 => ?_)
  exact hc _ _ h1 h2
theorem cj_wX11_next_236 {p q s : MM → Int64 → Prop} (hc : ∀ x0 x1, p x0 x1 → q x0 x1 → s x0 x1) {M : MM} {tl : Int64} {s1 : Int32} (h1 : wX11_next_236 p M tl s1) (h2 : wX11_next_236 q M tl s1) : wX11_next_236 s M tl s1 := by
  unfold wX11_next_236 at h1 h2 ⊢
  refine cj_wpX11_needs (fun _ _ h1 h2 => ?_) h1 h2
  exact hc _ _ h1 h2
theorem cj_wX11_next_201 {p q s : MM → Int64 → Prop} {pbk140 : MM → Int64 → Prop} {qbk140 : MM → Int64 → Prop} {sbk140 : MM → Int64 → Prop} (hc : ∀ x0 x1, p x0 x1 → q x0 x1 → s x0 x1) (hbk140 : ∀ x0 x1, pbk140 x0 x1 → qbk140 x0 x1 → sbk140 x0 x1) {M : MM} {tl : Int64} {s1 : Int32} (h1 : wX11_next_201 p pbk140 M tl s1) (h2 : wX11_next_201 q qbk140 M tl s1) : wX11_next_201 s sbk140 M tl s1 := by
  unfold wX11_next_201 at h1 h2 ⊢
  refine alc h1 h2 (fun _ h1 h2 => ?_)
  refine alc h1 h2 (fun _ h1 h2 => ?_)
  exact hbk140 _ _ h1 h2
theorem cj_wX11_next_140 {p q s : MM → Int64 → Prop} (hc : ∀ x0 x1, p x0 x1 → q x0 x1 → s x0 x1) : ∀ (d e : Nat) (M : MM) (tl : Int64), wX11_next_140 p d M tl  → wX11_next_140 q e M tl  → wX11_next_140 s d M tl  := by
  intro d
  induction d with
  | zero =>
    intro e M tl  h1 h2
    exact h1.elim
  | succ d ih =>
    intro e M tl  h1 h2
    cases e with
    | zero => exact h2.elim
    | succ e =>
    unfold wX11_next_140 at h1 h2 ⊢
    refine cj_wpX11_look (fun _ _ _ h1 h2 => ?_) h1 h2
    refine cj_wpX11_in (fun _ _ _ h1 h2 => ?_) h1 h2
    refine ifc h1 h2 (fun _ h1 h2 => ?_) (fun _ h1 h2 => ?_)
    · skip
      refine ifc h1 h2 (fun _ h1 h2 => ?_) (fun _ h1 h2 => ?_)
      · skip
        exact cj_wX11_next_236 hc  h1 h2
      · skip
        exact cj_wX11_next_236 hc  h1 h2
    · skip
      refine ifc h1 h2 (fun _ h1 h2 => ?_) (fun _ h1 h2 => ?_)
      · skip
        exact cj_wX11_next_201 hc (fun _ _ h1 h2 => ih _ _ _ h1 h2) h1 h2
      · skip
        refine cj_wpX11_look (fun _ _ _ h1 h2 => ?_) h1 h2
        exact cj_wX11_next_201 hc (fun _ _ h1 h2 => ih _ _ _ h1 h2) h1 h2
theorem cj_wX11_next_82 {p q s : MM → Int64 → Prop} (hc : ∀ x0 x1, p x0 x1 → q x0 x1 → s x0 x1) : ∀ (d e : Nat) (M : MM) (tl : Int64), wX11_next_82 p d M tl  → wX11_next_82 q e M tl  → wX11_next_82 s d M tl  := by
  intro d
  induction d with
  | zero =>
    intro e M tl  h1 h2
    exact h1.elim
  | succ d ih =>
    intro e M tl  h1 h2
    cases e with
    | zero => exact h2.elim
    | succ e =>
    unfold wX11_next_82 at h1 h2 ⊢
    refine cj_wpX11_look (fun _ _ _ h1 h2 => ?_) h1 h2
    refine cj_wpX11_in (fun _ _ _ h1 h2 => ?_) h1 h2
    refine ifc h1 h2 (fun _ h1 h2 => ?_) (fun _ h1 h2 => ?_)
    · skip
      exact hc _ _ h1 h2
    · skip
      refine alc h1 h2 (fun _ h1 h2 => ?_)
      exact ih _ _ _ h1 h2
theorem cj_wX11_next_8 {p q s : MM → Int64 → Prop} (hc : ∀ x0 x1, p x0 x1 → q x0 x1 → s x0 x1) : ∀ (d e : Nat) (M : MM) (tl : Int64), wX11_next_8 p d M tl  → wX11_next_8 q e M tl  → wX11_next_8 s d M tl  := by
  intro d
  induction d with
  | zero =>
    intro e M tl  h1 h2
    exact h1.elim
  | succ d ih =>
    intro e M tl  h1 h2
    cases e with
    | zero => exact h2.elim
    | succ e =>
    unfold wX11_next_8 at h1 h2 ⊢
    refine cj_wpX11_look (fun _ _ _ h1 h2 => ?_) h1 h2
    refine ifc h1 h2 (fun _ h1 h2 => ?_) (fun _ h1 h2 => ?_)
    · skip
      refine alc h1 h2 (fun _ h1 h2 => ?_)
      exact ih _ _ _ h1 h2
    · skip
      refine alc h1 h2 (fun _ h1 h2 => ?_)
      refine cj_wpX11_look (fun _ _ _ h1 h2 => ?_) h1 h2
      refine ifc h1 h2 (fun _ h1 h2 => ?_) (fun _ h1 h2 => ?_)
      · skip
        refine cj_wpX11_in (fun _ _ _ h1 h2 => ?_) h1 h2
        refine ifc h1 h2 (fun _ h1 h2 => ?_) (fun _ h1 h2 => ?_)
        · skip
          refine cj_wpX11_in (fun _ _ _ h1 h2 => ?_) h1 h2
          refine ifc h1 h2 (fun _ h1 h2 => ?_) (fun _ h1 h2 => ?_)
          · skip
            refine alc h1 h2 (fun _ h1 h2 => ?_)
            refine ifc h1 h2 (fun _ h1 h2 => ?_) (fun _ h1 h2 => ?_)
            · skip
              exact cj_wX11_next_260 hc  h1 h2
            · skip
              exact cj_wX11_next_260 hc  h1 h2
          · skip
            refine alc h1 h2 (fun _ h1 h2 => ?_)
            refine alc h1 h2 (fun _ h1 h2 => ?_)
            obtain ⟨d1, h1⟩ := h1
            obtain ⟨d2, h2⟩ := h2
            exact ⟨d1, cj_wX11_next_140 hc  d1 d2 _ _ h1 h2⟩
        · skip
          refine alc h1 h2 (fun _ h1 h2 => ?_)
          obtain ⟨d1, h1⟩ := h1
          obtain ⟨d2, h2⟩ := h2
          exact ⟨d1, cj_wX11_next_82 hc  d1 d2 _ _ h1 h2⟩
      · skip
        refine alc h1 h2 (fun _ h1 h2 => ?_)
        exact hc _ _ h1 h2
theorem cj_wpX11_next {p q s : MM → Int64 → Prop} (hc : ∀ x0 x1, p x0 x1 → q x0 x1 → s x0 x1) {M : MM} {tl : Int64} (h1 : wpX11_next p M tl ) (h2 : wpX11_next q M tl ) : wpX11_next s M tl  := by
  unfold wpX11_next at h1 h2 ⊢
  refine ifc h1 h2 (fun _ h1 h2 => ?_) (fun _ h1 h2 => ?_)
  · skip
    obtain ⟨d1, h1⟩ := h1
    obtain ⟨d2, h2⟩ := h2
    exact ⟨d1, cj_wX11_next_8 hc  d1 d2 _ _ h1 h2⟩
  · skip
    exact hc _ _ h1 h2
theorem cj_wX11_keepDraft_173 {p q s : MM → Int64 → Prop} (hc : ∀ x0 x1, p x0 x1 → q x0 x1 → s x0 x1) : ∀ (d e : Nat) (M : MM) (tl : Int64) (v1 : Int32), wX11_keepDraft_173 p d M tl v1 → wX11_keepDraft_173 q e M tl v1 → wX11_keepDraft_173 s d M tl v1 := by
  intro d
  induction d with
  | zero =>
    intro e M tl v1 h1 h2
    exact h1.elim
  | succ d ih =>
    intro e M tl v1 h1 h2
    cases e with
    | zero => exact h2.elim
    | succ e =>
    unfold wX11_keepDraft_173 at h1 h2 ⊢
    refine ifc h1 h2 (fun _ h1 h2 => ?_) (fun _ h1 h2 => ?_)
    · skip
      refine anc h1 h2 (fun h1 h2 => ?_)
      refine alc h1 h2 (fun _ h1 h2 => ?_)
      refine anc h1 h2 (fun h1 h2 => ?_)
      refine alc h1 h2 (fun _ h1 h2 => ?_)
      exact hc _ _ h1 h2
    · skip
      refine anc h1 h2 (fun h1 h2 => ?_)
      refine anc h1 h2 (fun h1 h2 => ?_)
      refine alc h1 h2 (fun _ h1 h2 => ?_)
      refine anc h1 h2 (fun h1 h2 => ?_)
      refine alc h1 h2 (fun _ h1 h2 => ?_)
      exact ih _ _ _ _ h1 h2
theorem cj_wX11_keepDraft_120 {p q s : MM → Int64 → Prop} {pbk89 : MM → Int64 → Int32 → Prop} {qbk89 : MM → Int64 → Int32 → Prop} {sbk89 : MM → Int64 → Int32 → Prop} (hc : ∀ x0 x1, p x0 x1 → q x0 x1 → s x0 x1) (hbk89 : ∀ x0 x1 x2, pbk89 x0 x1 x2 → qbk89 x0 x1 x2 → sbk89 x0 x1 x2) {M : MM} {tl : Int64} {v1 : Int32} {s1 : Int32} {s2 : Int32} (h1 : wX11_keepDraft_120 p pbk89 M tl v1 s1 s2) (h2 : wX11_keepDraft_120 q qbk89 M tl v1 s1 s2) : wX11_keepDraft_120 s sbk89 M tl v1 s1 s2 := by
  unfold wX11_keepDraft_120 at h1 h2 ⊢
  refine anc h1 h2 (fun h1 h2 => ?_)
  refine alc h1 h2 (fun _ h1 h2 => ?_)
  refine anc h1 h2 (fun h1 h2 => ?_)
  refine anc h1 h2 (fun h1 h2 => ?_)
  refine alc h1 h2 (fun _ h1 h2 => ?_)
  exact hbk89 _ _ _ h1 h2
theorem cj_wX11_keepDraft_89 {p q s : MM → Int64 → Prop} (hc : ∀ x0 x1, p x0 x1 → q x0 x1 → s x0 x1) : ∀ (d e : Nat) (M : MM) (tl : Int64) (v1 : Int32), wX11_keepDraft_89 p d M tl v1 → wX11_keepDraft_89 q e M tl v1 → wX11_keepDraft_89 s d M tl v1 := by
  intro d
  induction d with
  | zero =>
    intro e M tl v1 h1 h2
    exact h1.elim
  | succ d ih =>
    intro e M tl v1 h1 h2
    cases e with
    | zero => exact h2.elim
    | succ e =>
    unfold wX11_keepDraft_89 at h1 h2 ⊢
    refine ifc h1 h2 (fun _ h1 h2 => ?_) (fun _ h1 h2 => ?_)
    · skip
      refine anc h1 h2 (fun h1 h2 => ?_)
      refine anc h1 h2 (fun h1 h2 => ?_)
      refine alc h1 h2 (fun _ h1 h2 => ?_)
      refine anc h1 h2 (fun h1 h2 => ?_)
      refine anc h1 h2 (fun h1 h2 => ?_)
      refine alc h1 h2 (fun _ h1 h2 => ?_)
      refine alc h1 h2 (fun _ h1 h2 => ?_)
      obtain ⟨d1, h1⟩ := h1
      obtain ⟨d2, h2⟩ := h2
      exact ⟨d1, cj_wX11_keepDraft_173 hc  d1 d2 _ _ _ h1 h2⟩
    · skip
      refine ifc h1 h2 (fun _ h1 h2 => ?_) (fun _ h1 h2 => ?_)
      · skip
        exact cj_wX11_keepDraft_120 hc (fun _ _ _ h1 h2 => ih _ _ _ _ h1 h2) h1 h2
      · skip
        refine anc h1 h2 (fun h1 h2 => ?_)
        exact cj_wX11_keepDraft_120 hc (fun _ _ _ h1 h2 => ih _ _ _ _ h1 h2) h1 h2
theorem cj_wX11_keepDraft_52 {p q s : MM → Int64 → Prop} (hc : ∀ x0 x1, p x0 x1 → q x0 x1 → s x0 x1) : ∀ (d e : Nat) (M : MM) (tl : Int64) (v1 : Int32), wX11_keepDraft_52 p d M tl v1 → wX11_keepDraft_52 q e M tl v1 → wX11_keepDraft_52 s d M tl v1 := by
  intro d
  induction d with
  | zero =>
    intro e M tl v1 h1 h2
    exact h1.elim
  | succ d ih =>
    intro e M tl v1 h1 h2
    cases e with
    | zero => exact h2.elim
    | succ e =>
    unfold wX11_keepDraft_52 at h1 h2 ⊢
    refine ifc h1 h2 (fun _ h1 h2 => ?_) (fun _ h1 h2 => ?_)
    · skip
      obtain ⟨d1, h1⟩ := h1
      obtain ⟨d2, h2⟩ := h2
      exact ⟨d1, cj_wX11_keepDraft_89 hc  d1 d2 _ _ _ h1 h2⟩
    · skip
      refine anc h1 h2 (fun h1 h2 => ?_)
      refine anc h1 h2 (fun h1 h2 => ?_)
      refine alc h1 h2 (fun _ h1 h2 => ?_)
      refine anc h1 h2 (fun h1 h2 => ?_)
      refine anc h1 h2 (fun h1 h2 => ?_)
      refine alc h1 h2 (fun _ h1 h2 => ?_)
      exact ih _ _ _ _ h1 h2
theorem cj_wX11_keepDraft_2 {p q s : MM → Int64 → Prop} (hc : ∀ x0 x1, p x0 x1 → q x0 x1 → s x0 x1) : ∀ (d e : Nat) (M : MM) (tl : Int64) (v1 : Int32), wX11_keepDraft_2 p d M tl v1 → wX11_keepDraft_2 q e M tl v1 → wX11_keepDraft_2 s d M tl v1 := by
  intro d
  induction d with
  | zero =>
    intro e M tl v1 h1 h2
    exact h1.elim
  | succ d ih =>
    intro e M tl v1 h1 h2
    cases e with
    | zero => exact h2.elim
    | succ e =>
    unfold wX11_keepDraft_2 at h1 h2 ⊢
    refine ifc h1 h2 (fun _ h1 h2 => ?_) (fun _ h1 h2 => ?_)
    · skip
      refine alc h1 h2 (fun _ h1 h2 => ?_)
      refine alc h1 h2 (fun _ h1 h2 => ?_)
      refine alc h1 h2 (fun _ h1 h2 => ?_)
      obtain ⟨d1, h1⟩ := h1
      obtain ⟨d2, h2⟩ := h2
      exact ⟨d1, cj_wX11_keepDraft_52 hc  d1 d2 _ _ _ h1 h2⟩
    · skip
      refine anc h1 h2 (fun h1 h2 => ?_)
      refine anc h1 h2 (fun h1 h2 => ?_)
      refine alc h1 h2 (fun _ h1 h2 => ?_)
      exact ih _ _ _ _ h1 h2
theorem cj_wpX11_keepDraft {p q s : MM → Int64 → Prop} (hc : ∀ x0 x1, p x0 x1 → q x0 x1 → s x0 x1) {M : MM} {tl : Int64} (h1 : wpX11_keepDraft p M tl ) (h2 : wpX11_keepDraft q M tl ) : wpX11_keepDraft s M tl  := by
  unfold wpX11_keepDraft at h1 h2 ⊢
  obtain ⟨d1, h1⟩ := h1
  obtain ⟨d2, h2⟩ := h2
  exact ⟨d1, cj_wX11_keepDraft_2 hc  d1 d2 _ _ _ h1 h2⟩
theorem cj_wX11_text_73 {p q s : Int32 → MM → Int64 → Prop} (hc : ∀ x0 x1 x2, p x0 x1 x2 → q x0 x1 x2 → s x0 x1 x2) {M : MM} {tl : Int64} {v1 : Int32} (h1 : wX11_text_73 p M tl v1) (h2 : wX11_text_73 q M tl v1) : wX11_text_73 s M tl v1 := by
  unfold wX11_text_73 at h1 h2 ⊢
  refine alc h1 h2 (fun _ h1 h2 => ?_)
  refine ifc h1 h2 (fun _ h1 h2 => ?_) (fun _ h1 h2 => ?_)
  · skip
    refine cj_wpX11_keepDraft (fun _ _ h1 h2 => ?_) h1 h2
    exact hc _ _ _ h1 h2
  · skip
    exact hc _ _ _ h1 h2
theorem cj_wX11_text_68 {p q s : Int32 → MM → Int64 → Prop} (hc : ∀ x0 x1 x2, p x0 x1 x2 → q x0 x1 x2 → s x0 x1 x2) {M : MM} {tl : Int64} {v1 : Int32} {s1 : Int32} (h1 : wX11_text_68 p M tl v1 s1) (h2 : wX11_text_68 q M tl v1 s1) : wX11_text_68 s M tl v1 s1 := by
  unfold wX11_text_68 at h1 h2 ⊢
  refine cj_wpX11_needs (fun _ _ h1 h2 => ?_) h1 h2
  exact cj_wX11_text_73 hc  h1 h2
theorem cj_wX11_text_44 {p q s : Int32 → MM → Int64 → Prop} (hc : ∀ x0 x1 x2, p x0 x1 x2 → q x0 x1 x2 → s x0 x1 x2) {M : MM} {tl : Int64} {v1 : Int32} (h1 : wX11_text_44 p M tl v1) (h2 : wX11_text_44 q M tl v1) : wX11_text_44 s M tl v1 := by
  unfold wX11_text_44 at h1 h2 ⊢
  refine ifc h1 h2 (fun _ h1 h2 => ?_) (fun _ h1 h2 => ?_)
  · skip
    refine ifc h1 h2 (fun _ h1 h2 => ?_) (fun _ h1 h2 => ?_)
    · skip
      exact cj_wX11_text_68 hc  h1 h2
    · skip
      exact cj_wX11_text_68 hc  h1 h2
  · skip
    exact cj_wX11_text_73 hc  h1 h2
theorem cj_wpX11_is {p q s : Int32 → MM → Int64 → Prop} (hc : ∀ x0 x1 x2, p x0 x1 x2 → q x0 x1 x2 → s x0 x1 x2) {M : MM} {tl : Int64} {v1 : Int32} {v2 : Int32} {v3 : Int32} {v4 : Int32} {v5 : Int32} (h1 : wpX11_is p M tl v1 v2 v3 v4 v5) (h2 : wpX11_is q M tl v1 v2 v3 v4 v5) : wpX11_is s M tl v1 v2 v3 v4 v5 := by
  unfold wpX11_is at h1 h2 ⊢
  refine ifc h1 h2 (fun _ h1 h2 => ?_) (fun _ h1 h2 => ?_)
  · skip
    refine cj_wpX11_look (fun _ _ _ h1 h2 => ?_) h1 h2
    refine ifc h1 h2 (fun _ h1 h2 => ?_) (fun _ h1 h2 => ?_)
    · skip
      refine cj_wpX11_look (fun _ _ _ h1 h2 => ?_) h1 h2
      refine ifc h1 h2 (fun _ h1 h2 => ?_) (fun _ h1 h2 => ?_)
      · skip
        refine cj_wpX11_look (fun _ _ _ h1 h2 => ?_) h1 h2
        refine ifc h1 h2 (fun _ h1 h2 => ?_) (fun _ h1 h2 => ?_)
        · skip
          refine cj_wpX11_look (fun _ _ _ h1 h2 => ?_) h1 h2
          refine ifc h1 h2 (fun _ h1 h2 => ?_) (fun _ h1 h2 => ?_)
          · skip
            exact hc _ _ _ h1 h2
          · skip
            exact hc _ _ _ h1 h2
        · skip
          exact hc _ _ _ h1 h2
      · skip
        exact hc _ _ _ h1 h2
    · skip
      exact hc _ _ _ h1 h2
  · skip
    exact hc _ _ _ h1 h2
theorem cj_wX11_ends_32 {p q s : Int32 → MM → Int64 → Prop} (hc : ∀ x0 x1 x2, p x0 x1 x2 → q x0 x1 x2 → s x0 x1 x2) {M : MM} {tl : Int64} {v3 : Int32} (h1 : wX11_ends_32 p M tl v3) (h2 : wX11_ends_32 q M tl v3) : wX11_ends_32 s M tl v3 := by
  unfold wX11_ends_32 at h1 h2 ⊢
  refine ifc h1 h2 (fun _ h1 h2 => ?_) (fun _ h1 h2 => ?_)
  · skip
    exact hc _ _ _ h1 h2
  · skip
    refine cj_wpX11_look (fun _ _ _ h1 h2 => ?_) h1 h2
    refine ifc h1 h2 (fun _ h1 h2 => ?_) (fun _ h1 h2 => ?_)
    · skip
      exact hc _ _ _ h1 h2
    · skip
      exact hc _ _ _ h1 h2
theorem cj_wpX11_ends {p q s : Int32 → MM → Int64 → Prop} (hc : ∀ x0 x1 x2, p x0 x1 x2 → q x0 x1 x2 → s x0 x1 x2) {M : MM} {tl : Int64} {v1 : Int32} {v2 : Int32} {v3 : Int32} (h1 : wpX11_ends p M tl v1 v2 v3) (h2 : wpX11_ends q M tl v1 v2 v3) : wpX11_ends s M tl v1 v2 v3 := by
  unfold wpX11_ends at h1 h2 ⊢
  refine cj_wpX11_look (fun _ _ _ h1 h2 => ?_) h1 h2
  refine ifc h1 h2 (fun _ h1 h2 => ?_) (fun _ h1 h2 => ?_)
  · skip
    refine ifc h1 h2 (fun _ h1 h2 => ?_) (fun _ h1 h2 => ?_)
    · skip
      exact cj_wX11_ends_32 hc  h1 h2
    · skip
      refine cj_wpX11_look (fun _ _ _ h1 h2 => ?_) h1 h2
      refine ifc h1 h2 (fun _ h1 h2 => ?_) (fun _ h1 h2 => ?_)
      · skip
        exact cj_wX11_ends_32 hc  h1 h2
      · skip
        exact hc _ _ _ h1 h2
  · skip
    exact hc _ _ _ h1 h2
theorem cj_wX11_ruleNow_87 {p q s : Int32 → MM → Int64 → Prop} (hc : ∀ x0 x1 x2, p x0 x1 x2 → q x0 x1 x2 → s x0 x1 x2) {M : MM} {tl : Int64} (h1 : wX11_ruleNow_87 p M tl ) (h2 : wX11_ruleNow_87 q M tl ) : wX11_ruleNow_87 s M tl  := by
  unfold wX11_ruleNow_87 at h1 h2 ⊢
  refine cj_wpX11_is (fun _ _ _ h1 h2 => ?_) h1 h2
  refine ifc h1 h2 (fun _ h1 h2 => ?_) (fun _ h1 h2 => ?_)
  · skip
    refine cj_wpX11_is (fun _ _ _ h1 h2 => ?_) h1 h2
    refine ifc h1 h2 (fun _ h1 h2 => ?_) (fun _ h1 h2 => ?_)
    · skip
      exact hc _ _ _ h1 h2
    · skip
      refine cj_wpX11_ends (fun _ _ _ h1 h2 => ?_) h1 h2
      refine ifc h1 h2 (fun _ h1 h2 => ?_) (fun _ h1 h2 => ?_)
      · skip
        exact hc _ _ _ h1 h2
      · skip
        exact hc _ _ _ h1 h2
  · skip
    exact hc _ _ _ h1 h2
theorem cj_wpX11_ruleNow {p q s : Int32 → MM → Int64 → Prop} (hc : ∀ x0 x1 x2, p x0 x1 x2 → q x0 x1 x2 → s x0 x1 x2) {M : MM} {tl : Int64} (h1 : wpX11_ruleNow p M tl ) (h2 : wpX11_ruleNow q M tl ) : wpX11_ruleNow s M tl  := by
  unfold wpX11_ruleNow at h1 h2 ⊢
  refine cj_wpX11_is (fun _ _ _ h1 h2 => ?_) h1 h2
  refine ifc h1 h2 (fun _ h1 h2 => ?_) (fun _ h1 h2 => ?_)
  · skip
    refine cj_wpX11_is (fun _ _ _ h1 h2 => ?_) h1 h2
    refine ifc h1 h2 (fun _ h1 h2 => ?_) (fun _ h1 h2 => ?_)
    · skip
      refine cj_wpX11_is (fun _ _ _ h1 h2 => ?_) h1 h2
      refine ifc h1 h2 (fun _ h1 h2 => ?_) (fun _ h1 h2 => ?_)
      · skip
        refine cj_wpX11_is (fun _ _ _ h1 h2 => ?_) h1 h2
        refine ifc h1 h2 (fun _ h1 h2 => ?_) (fun _ h1 h2 => ?_)
        · skip
          exact cj_wX11_ruleNow_87 hc  h1 h2
        · skip
          refine cj_wpX11_ends (fun _ _ _ h1 h2 => ?_) h1 h2
          refine ifc h1 h2 (fun _ h1 h2 => ?_) (fun _ h1 h2 => ?_)
          · skip
            exact cj_wX11_ruleNow_87 hc  h1 h2
          · skip
            exact hc _ _ _ h1 h2
      · skip
        exact hc _ _ _ h1 h2
    · skip
      exact hc _ _ _ h1 h2
  · skip
    exact hc _ _ _ h1 h2
theorem cj_wX11_lineNow_128 {p q s : Int32 → MM → Int64 → Prop} (hc : ∀ x0 x1 x2, p x0 x1 x2 → q x0 x1 x2 → s x0 x1 x2) {M : MM} {tl : Int64} (h1 : wX11_lineNow_128 p M tl ) (h2 : wX11_lineNow_128 q M tl ) : wX11_lineNow_128 s M tl  := by
  unfold wX11_lineNow_128 at h1 h2 ⊢
  refine cj_wpX11_is (fun _ _ _ h1 h2 => ?_) h1 h2
  refine ifc h1 h2 (fun _ h1 h2 => ?_) (fun _ h1 h2 => ?_)
  · skip
    refine cj_wpX11_ruleNow (fun _ _ _ h1 h2 => ?_) h1 h2
    exact hc _ _ _ h1 h2
  · skip
    exact hc _ _ _ h1 h2
theorem cj_wX11_lineNow_98 {p q s : Int32 → MM → Int64 → Prop} (hc : ∀ x0 x1 x2, p x0 x1 x2 → q x0 x1 x2 → s x0 x1 x2) {M : MM} {tl : Int64} (h1 : wX11_lineNow_98 p M tl ) (h2 : wX11_lineNow_98 q M tl ) : wX11_lineNow_98 s M tl  := by
  unfold wX11_lineNow_98 at h1 h2 ⊢
  refine cj_wpX11_is (fun _ _ _ h1 h2 => ?_) h1 h2
  refine ifc h1 h2 (fun _ h1 h2 => ?_) (fun _ h1 h2 => ?_)
  · skip
    exact cj_wX11_lineNow_128 hc  h1 h2
  · skip
    refine cj_wpX11_ends (fun _ _ _ h1 h2 => ?_) h1 h2
    refine ifc h1 h2 (fun _ h1 h2 => ?_) (fun _ h1 h2 => ?_)
    · skip
      exact cj_wX11_lineNow_128 hc  h1 h2
    · skip
      exact hc _ _ _ h1 h2
theorem cj_wX11_lineNow_68 {p q s : Int32 → MM → Int64 → Prop} (hc : ∀ x0 x1 x2, p x0 x1 x2 → q x0 x1 x2 → s x0 x1 x2) {M : MM} {tl : Int64} (h1 : wX11_lineNow_68 p M tl ) (h2 : wX11_lineNow_68 q M tl ) : wX11_lineNow_68 s M tl  := by
  unfold wX11_lineNow_68 at h1 h2 ⊢
  refine cj_wpX11_is (fun _ _ _ h1 h2 => ?_) h1 h2
  refine ifc h1 h2 (fun _ h1 h2 => ?_) (fun _ h1 h2 => ?_)
  · skip
    exact cj_wX11_lineNow_98 hc  h1 h2
  · skip
    refine cj_wpX11_ends (fun _ _ _ h1 h2 => ?_) h1 h2
    refine ifc h1 h2 (fun _ h1 h2 => ?_) (fun _ h1 h2 => ?_)
    · skip
      exact cj_wX11_lineNow_98 hc  h1 h2
    · skip
      exact hc _ _ _ h1 h2
theorem cj_wpX11_lineNow {p q s : Int32 → MM → Int64 → Prop} (hc : ∀ x0 x1 x2, p x0 x1 x2 → q x0 x1 x2 → s x0 x1 x2) {M : MM} {tl : Int64} (h1 : wpX11_lineNow p M tl ) (h2 : wpX11_lineNow q M tl ) : wpX11_lineNow s M tl  := by
  unfold wpX11_lineNow at h1 h2 ⊢
  refine cj_wpX11_is (fun _ _ _ h1 h2 => ?_) h1 h2
  refine ifc h1 h2 (fun _ h1 h2 => ?_) (fun _ h1 h2 => ?_)
  · skip
    refine cj_wpX11_is (fun _ _ _ h1 h2 => ?_) h1 h2
    refine ifc h1 h2 (fun _ h1 h2 => ?_) (fun _ h1 h2 => ?_)
    · skip
      refine cj_wpX11_is (fun _ _ _ h1 h2 => ?_) h1 h2
      refine ifc h1 h2 (fun _ h1 h2 => ?_) (fun _ h1 h2 => ?_)
      · skip
        exact cj_wX11_lineNow_68 hc  h1 h2
      · skip
        refine cj_wpX11_ends (fun _ _ _ h1 h2 => ?_) h1 h2
        refine ifc h1 h2 (fun _ h1 h2 => ?_) (fun _ h1 h2 => ?_)
        · skip
          exact cj_wX11_lineNow_68 hc  h1 h2
        · skip
          exact hc _ _ _ h1 h2
    · skip
      exact hc _ _ _ h1 h2
  · skip
    exact hc _ _ _ h1 h2
theorem cj_wX11_looked_49 {p q s : Int32 → MM → Int64 → Prop} (hc : ∀ x0 x1 x2, p x0 x1 x2 → q x0 x1 x2 → s x0 x1 x2) {M : MM} {tl : Int64} (h1 : wX11_looked_49 p M tl ) (h2 : wX11_looked_49 q M tl ) : wX11_looked_49 s M tl  := by
  unfold wX11_looked_49 at h1 h2 ⊢
  refine ifc h1 h2 (fun _ h1 h2 => ?_) (fun _ h1 h2 => ?_)
  · skip
    exact hc _ _ _ h1 h2
  · skip
    exact hc _ _ _ h1 h2
theorem cj_wX11_looked_25 {p q s : Int32 → MM → Int64 → Prop} (hc : ∀ x0 x1 x2, p x0 x1 x2 → q x0 x1 x2 → s x0 x1 x2) {M : MM} {tl : Int64} {v1 : Int32} {v2 : Int32} (h1 : wX11_looked_25 p M tl v1 v2) (h2 : wX11_looked_25 q M tl v1 v2) : wX11_looked_25 s M tl v1 v2 := by
  unfold wX11_looked_25 at h1 h2 ⊢
  refine ifc h1 h2 (fun _ h1 h2 => ?_) (fun _ h1 h2 => ?_)
  · skip
    refine cj_wpX11_in (fun _ _ _ h1 h2 => ?_) h1 h2
    refine cj_wpX11_needs (fun _ _ h1 h2 => ?_) h1 h2
    exact cj_wX11_looked_49 hc  h1 h2
  · skip
    exact cj_wX11_looked_49 hc  h1 h2
theorem cj_wX11_looked_21 {p q s : Int32 → MM → Int64 → Prop} (hc : ∀ x0 x1 x2, p x0 x1 x2 → q x0 x1 x2 → s x0 x1 x2) {M : MM} {tl : Int64} {v1 : Int32} {v2 : Int32} {s1 : Int32} (h1 : wX11_looked_21 p M tl v1 v2 s1) (h2 : wX11_looked_21 q M tl v1 v2 s1) : wX11_looked_21 s M tl v1 v2 s1 := by
  unfold wX11_looked_21 at h1 h2 ⊢
  refine cj_wpX11_needs (fun _ _ h1 h2 => ?_) h1 h2
  exact cj_wX11_looked_25 hc  h1 h2
theorem cj_wpX11_looked {p q s : Int32 → MM → Int64 → Prop} (hc : ∀ x0 x1 x2, p x0 x1 x2 → q x0 x1 x2 → s x0 x1 x2) {M : MM} {tl : Int64} {v1 : Int32} {v2 : Int32} (h1 : wpX11_looked p M tl v1 v2) (h2 : wpX11_looked q M tl v1 v2) : wpX11_looked s M tl v1 v2 := by
  unfold wpX11_looked at h1 h2 ⊢
  refine ifc h1 h2 (fun _ h1 h2 => ?_) (fun _ h1 h2 => ?_)
  · skip
    refine ifc h1 h2 (fun _ h1 h2 => ?_) (fun _ h1 h2 => ?_)
    · skip
      exact cj_wX11_looked_21 hc  h1 h2
    · skip
      exact cj_wX11_looked_21 hc  h1 h2
  · skip
    exact cj_wX11_looked_25 hc  h1 h2
theorem cj_wpX11_readNumber {p q s : Int32 → MM → Int64 → Prop} (hc : ∀ x0 x1 x2, p x0 x1 x2 → q x0 x1 x2 → s x0 x1 x2) {M : MM} {tl : Int64} {v1 : Int32} {v2 : Int32} (h1 : wpX11_readNumber p M tl v1 v2) (h2 : wpX11_readNumber q M tl v1 v2) : wpX11_readNumber s M tl v1 v2 := by
  unfold wpX11_readNumber at h1 h2 ⊢
  refine cj_wpX11_looked (fun _ _ _ h1 h2 => ?_) h1 h2
  refine cj_wpX11_next (fun _ _ h1 h2 => ?_) h1 h2
  exact hc _ _ _ h1 h2
theorem cj_wX11_readLineOf_108 {p q s : MM → Int64 → Prop} (hc : ∀ x0 x1, p x0 x1 → q x0 x1 → s x0 x1) : ∀ (d e : Nat) (M : MM) (tl : Int64) (v2 : Int32), wX11_readLineOf_108 p d M tl v2 → wX11_readLineOf_108 q e M tl v2 → wX11_readLineOf_108 s d M tl v2 := by
  intro d
  induction d with
  | zero =>
    intro e M tl v2 h1 h2
    exact h1.elim
  | succ d ih =>
    intro e M tl v2 h1 h2
    cases e with
    | zero => exact h2.elim
    | succ e =>
    unfold wX11_readLineOf_108 at h1 h2 ⊢
    refine ifc h1 h2 (fun _ h1 h2 => ?_) (fun _ h1 h2 => ?_)
    · skip
      exact hc _ _ h1 h2
    · skip
      refine cj_wpX11_readNumber (fun _ _ _ h1 h2 => ?_) h1 h2
      refine anc h1 h2 (fun h1 h2 => ?_)
      refine alc h1 h2 (fun _ h1 h2 => ?_)
      exact ih _ _ _ _ h1 h2
theorem cj_wX11_readCosts_140 {p q s : MM → Int64 → Prop} {pbk92 : MM → Int64 → Int32 → Int32 → Int32 → Prop} {qbk92 : MM → Int64 → Int32 → Int32 → Int32 → Prop} {sbk92 : MM → Int64 → Int32 → Int32 → Int32 → Prop} (hc : ∀ x0 x1, p x0 x1 → q x0 x1 → s x0 x1) (hbk92 : ∀ x0 x1 x2 x3 x4, pbk92 x0 x1 x2 x3 x4 → qbk92 x0 x1 x2 x3 x4 → sbk92 x0 x1 x2 x3 x4) {M : MM} {tl : Int64} {v1 : Int32} {v2 : Int32} {v3 : Int32} (h1 : wX11_readCosts_140 p pbk92 M tl v1 v2 v3) (h2 : wX11_readCosts_140 q qbk92 M tl v1 v2 v3) : wX11_readCosts_140 s sbk92 M tl v1 v2 v3 := by
  unfold wX11_readCosts_140 at h1 h2 ⊢
  exact hbk92 _ _ _ _ _ h1 h2
theorem cj_wX11_readCosts_92 {p q s : MM → Int64 → Prop} (hc : ∀ x0 x1, p x0 x1 → q x0 x1 → s x0 x1) : ∀ (d e : Nat) (M : MM) (tl : Int64) (v1 : Int32) (v2 : Int32) (v3 : Int32), wX11_readCosts_92 p d M tl v1 v2 v3 → wX11_readCosts_92 q e M tl v1 v2 v3 → wX11_readCosts_92 s d M tl v1 v2 v3 := by
  intro d
  induction d with
  | zero =>
    intro e M tl v1 v2 v3 h1 h2
    exact h1.elim
  | succ d ih =>
    intro e M tl v1 v2 v3 h1 h2
    cases e with
    | zero => exact h2.elim
    | succ e =>
    unfold wX11_readCosts_92 at h1 h2 ⊢
    refine ifc h1 h2 (fun _ h1 h2 => ?_) (fun _ h1 h2 => ?_)
    · skip
      exact hc _ _ h1 h2
    · skip
      refine cj_wpX11_readNumber (fun _ _ _ h1 h2 => ?_) h1 h2
      refine ifc h1 h2 (fun _ h1 h2 => ?_) (fun _ h1 h2 => ?_)
      · skip
        refine anc h1 h2 (fun h1 h2 => ?_)
        refine alc h1 h2 (fun _ h1 h2 => ?_)
        exact cj_wX11_readCosts_140 hc (fun _ _ _ _ _ h1 h2 => ih _ _ _ _ _ _ h1 h2) h1 h2
      · skip
        refine anc h1 h2 (fun h1 h2 => ?_)
        refine alc h1 h2 (fun _ h1 h2 => ?_)
        exact cj_wX11_readCosts_140 hc (fun _ _ _ _ _ h1 h2 => ih _ _ _ _ _ _ h1 h2) h1 h2
theorem cj_wX11_readCosts_82 {p q s : MM → Int64 → Prop} (hc : ∀ x0 x1, p x0 x1 → q x0 x1 → s x0 x1) {M : MM} {tl : Int64} {v1 : Int32} {v2 : Int32} {s1 : Int32} {s2 : Int32} (h1 : wX11_readCosts_82 p M tl v1 v2 s1 s2) (h2 : wX11_readCosts_82 q M tl v1 v2 s1 s2) : wX11_readCosts_82 s M tl v1 v2 s1 s2 := by
  unfold wX11_readCosts_82 at h1 h2 ⊢
  refine alc h1 h2 (fun _ h1 h2 => ?_)
  refine cj_wpX11_next (fun _ _ h1 h2 => ?_) h1 h2
  obtain ⟨d1, h1⟩ := h1
  obtain ⟨d2, h2⟩ := h2
  exact ⟨d1, cj_wX11_readCosts_92 hc  d1 d2 _ _ _ _ _ h1 h2⟩
theorem cj_wX11_readCosts_62 {p q s : MM → Int64 → Prop} (hc : ∀ x0 x1, p x0 x1 → q x0 x1 → s x0 x1) {M : MM} {tl : Int64} {v1 : Int32} {v2 : Int32} {s1 : Int32} {s2 : Int32} (h1 : wX11_readCosts_62 p M tl v1 v2 s1 s2) (h2 : wX11_readCosts_62 q M tl v1 v2 s1 s2) : wX11_readCosts_62 s M tl v1 v2 s1 s2 := by
  unfold wX11_readCosts_62 at h1 h2 ⊢
  refine alc h1 h2 (fun _ h1 h2 => ?_)
  refine ifc h1 h2 (fun _ h1 h2 => ?_) (fun _ h1 h2 => ?_)
  · skip
    exact cj_wX11_readCosts_82 hc  h1 h2
  · skip
    exact cj_wX11_readCosts_82 hc  h1 h2
theorem cj_wX11_readCosts_46 {p q s : MM → Int64 → Prop} (hc : ∀ x0 x1, p x0 x1 → q x0 x1 → s x0 x1) {M : MM} {tl : Int64} {v1 : Int32} {v2 : Int32} (h1 : wX11_readCosts_46 p M tl v1 v2) (h2 : wX11_readCosts_46 q M tl v1 v2) : wX11_readCosts_46 s M tl v1 v2 := by
  unfold wX11_readCosts_46 at h1 h2 ⊢
  refine ifc h1 h2 (fun _ h1 h2 => ?_) (fun _ h1 h2 => ?_)
  · skip
    exact cj_wX11_readCosts_62 hc  h1 h2
  · skip
    exact cj_wX11_readCosts_62 hc  h1 h2
theorem cj_wX11_readCosts_42 {p q s : MM → Int64 → Prop} (hc : ∀ x0 x1, p x0 x1 → q x0 x1 → s x0 x1) {M : MM} {tl : Int64} {v1 : Int32} {v2 : Int32} {s1 : Int32} (h1 : wX11_readCosts_42 p M tl v1 v2 s1) (h2 : wX11_readCosts_42 q M tl v1 v2 s1) : wX11_readCosts_42 s M tl v1 v2 s1 := by
  unfold wX11_readCosts_42 at h1 h2 ⊢
  refine cj_wpX11_needs (fun _ _ h1 h2 => ?_) h1 h2
  exact cj_wX11_readCosts_46 hc  h1 h2
theorem cj_wX11_readCosts_30 {p q s : MM → Int64 → Prop} (hc : ∀ x0 x1, p x0 x1 → q x0 x1 → s x0 x1) {M : MM} {tl : Int64} {v1 : Int32} {v2 : Int32} {s1 : Int32} (h1 : wX11_readCosts_30 p M tl v1 v2 s1) (h2 : wX11_readCosts_30 q M tl v1 v2 s1) : wX11_readCosts_30 s M tl v1 v2 s1 := by
  unfold wX11_readCosts_30 at h1 h2 ⊢
  refine ifc h1 h2 (fun _ h1 h2 => ?_) (fun _ h1 h2 => ?_)
  · skip
    exact cj_wX11_readCosts_42 hc  h1 h2
  · skip
    exact cj_wX11_readCosts_42 hc  h1 h2
theorem cj_wpX11_readCosts {p q s : MM → Int64 → Prop} (hc : ∀ x0 x1, p x0 x1 → q x0 x1 → s x0 x1) {M : MM} {tl : Int64} {v1 : Int32} (h1 : wpX11_readCosts p M tl v1) (h2 : wpX11_readCosts q M tl v1) : wpX11_readCosts s M tl v1 := by
  unfold wpX11_readCosts at h1 h2 ⊢
  refine cj_wpX11_looked (fun _ _ _ h1 h2 => ?_) h1 h2
  refine ifc h1 h2 (fun _ h1 h2 => ?_) (fun _ h1 h2 => ?_)
  · skip
    refine ifc h1 h2 (fun _ h1 h2 => ?_) (fun _ h1 h2 => ?_)
    · skip
      exact cj_wX11_readCosts_30 hc  h1 h2
    · skip
      exact cj_wX11_readCosts_30 hc  h1 h2
  · skip
    exact cj_wX11_readCosts_46 hc  h1 h2
theorem cj_wX11_readLineOf_147 {p q s : MM → Int64 → Prop} (hc : ∀ x0 x1, p x0 x1 → q x0 x1 → s x0 x1) {M : MM} {tl : Int64} {s1 : Int32} (h1 : wX11_readLineOf_147 p M tl s1) (h2 : wX11_readLineOf_147 q M tl s1) : wX11_readLineOf_147 s M tl s1 := by
  unfold wX11_readLineOf_147 at h1 h2 ⊢
  refine cj_wpX11_readCosts (fun _ _ h1 h2 => ?_) h1 h2
  exact hc _ _ h1 h2
theorem cj_wX11_kindNow_107 {p q s : Int32 → MM → Int64 → Prop} (hc : ∀ x0 x1 x2, p x0 x1 x2 → q x0 x1 x2 → s x0 x1 x2) {M : MM} {tl : Int64} (h1 : wX11_kindNow_107 p M tl ) (h2 : wX11_kindNow_107 q M tl ) : wX11_kindNow_107 s M tl  := by
  unfold wX11_kindNow_107 at h1 h2 ⊢
  refine cj_wpX11_is (fun _ _ _ h1 h2 => ?_) h1 h2
  refine ifc h1 h2 (fun _ h1 h2 => ?_) (fun _ h1 h2 => ?_)
  · skip
    exact hc _ _ _ h1 h2
  · skip
    refine cj_wpX11_ends (fun _ _ _ h1 h2 => ?_) h1 h2
    refine ifc h1 h2 (fun _ h1 h2 => ?_) (fun _ h1 h2 => ?_)
    · skip
      exact hc _ _ _ h1 h2
    · skip
      exact hc _ _ _ h1 h2
theorem cj_wX11_kindNow_60 {p q s : Int32 → MM → Int64 → Prop} (hc : ∀ x0 x1 x2, p x0 x1 x2 → q x0 x1 x2 → s x0 x1 x2) {M : MM} {tl : Int64} (h1 : wX11_kindNow_60 p M tl ) (h2 : wX11_kindNow_60 q M tl ) : wX11_kindNow_60 s M tl  := by
  unfold wX11_kindNow_60 at h1 h2 ⊢
  refine cj_wpX11_is (fun _ _ _ h1 h2 => ?_) h1 h2
  refine ifc h1 h2 (fun _ h1 h2 => ?_) (fun _ h1 h2 => ?_)
  · skip
    refine cj_wpX11_is (fun _ _ _ h1 h2 => ?_) h1 h2
    refine ifc h1 h2 (fun _ h1 h2 => ?_) (fun _ h1 h2 => ?_)
    · skip
      exact cj_wX11_kindNow_107 hc  h1 h2
    · skip
      refine cj_wpX11_ends (fun _ _ _ h1 h2 => ?_) h1 h2
      refine ifc h1 h2 (fun _ h1 h2 => ?_) (fun _ h1 h2 => ?_)
      · skip
        exact cj_wX11_kindNow_107 hc  h1 h2
      · skip
        exact hc _ _ _ h1 h2
  · skip
    exact hc _ _ _ h1 h2
theorem cj_wX11_kindNow_29 {p q s : Int32 → MM → Int64 → Prop} (hc : ∀ x0 x1 x2, p x0 x1 x2 → q x0 x1 x2 → s x0 x1 x2) {M : MM} {tl : Int64} (h1 : wX11_kindNow_29 p M tl ) (h2 : wX11_kindNow_29 q M tl ) : wX11_kindNow_29 s M tl  := by
  unfold wX11_kindNow_29 at h1 h2 ⊢
  refine cj_wpX11_is (fun _ _ _ h1 h2 => ?_) h1 h2
  refine ifc h1 h2 (fun _ h1 h2 => ?_) (fun _ h1 h2 => ?_)
  · skip
    exact cj_wX11_kindNow_60 hc  h1 h2
  · skip
    refine cj_wpX11_ends (fun _ _ _ h1 h2 => ?_) h1 h2
    refine ifc h1 h2 (fun _ h1 h2 => ?_) (fun _ h1 h2 => ?_)
    · skip
      exact cj_wX11_kindNow_60 hc  h1 h2
    · skip
      exact hc _ _ _ h1 h2
theorem cj_wpX11_kindNow {p q s : Int32 → MM → Int64 → Prop} (hc : ∀ x0 x1 x2, p x0 x1 x2 → q x0 x1 x2 → s x0 x1 x2) {M : MM} {tl : Int64} (h1 : wpX11_kindNow p M tl ) (h2 : wpX11_kindNow q M tl ) : wpX11_kindNow s M tl  := by
  unfold wpX11_kindNow at h1 h2 ⊢
  refine cj_wpX11_is (fun _ _ _ h1 h2 => ?_) h1 h2
  refine ifc h1 h2 (fun _ h1 h2 => ?_) (fun _ h1 h2 => ?_)
  · skip
    exact cj_wX11_kindNow_29 hc  h1 h2
  · skip
    refine cj_wpX11_ends (fun _ _ _ h1 h2 => ?_) h1 h2
    refine ifc h1 h2 (fun _ h1 h2 => ?_) (fun _ h1 h2 => ?_)
    · skip
      exact cj_wX11_kindNow_29 hc  h1 h2
    · skip
      exact hc _ _ _ h1 h2
theorem cj_wX11_readKind_61 {p q s : Int32 → MM → Int64 → Prop} (hc : ∀ x0 x1 x2, p x0 x1 x2 → q x0 x1 x2 → s x0 x1 x2) {M : MM} {tl : Int64} {v2 : Int32} {s1 : Int32} (h1 : wX11_readKind_61 p M tl v2 s1) (h2 : wX11_readKind_61 q M tl v2 s1) : wX11_readKind_61 s M tl v2 s1 := by
  unfold wX11_readKind_61 at h1 h2 ⊢
  refine cj_wpX11_needs (fun _ _ h1 h2 => ?_) h1 h2
  refine cj_wpX11_next (fun _ _ h1 h2 => ?_) h1 h2
  refine ifc h1 h2 (fun _ h1 h2 => ?_) (fun _ h1 h2 => ?_)
  · skip
    exact hc _ _ _ h1 h2
  · skip
    exact hc _ _ _ h1 h2
theorem cj_wX11_readKind_56 {p q s : Int32 → MM → Int64 → Prop} (hc : ∀ x0 x1 x2, p x0 x1 x2 → q x0 x1 x2 → s x0 x1 x2) {M : MM} {tl : Int64} {v2 : Int32} (h1 : wX11_readKind_56 p M tl v2) (h2 : wX11_readKind_56 q M tl v2) : wX11_readKind_56 s M tl v2 := by
  unfold wX11_readKind_56 at h1 h2 ⊢
  exact cj_wX11_readKind_61 hc  h1 h2
theorem cj_wX11_readKind_37 {p q s : Int32 → MM → Int64 → Prop} (hc : ∀ x0 x1 x2, p x0 x1 x2 → q x0 x1 x2 → s x0 x1 x2) {M : MM} {tl : Int64} {v1 : Int32} {v2 : Int32} {s1 : Int32} (h1 : wX11_readKind_37 p M tl v1 v2 s1) (h2 : wX11_readKind_37 q M tl v1 v2 s1) : wX11_readKind_37 s M tl v1 v2 s1 := by
  unfold wX11_readKind_37 at h1 h2 ⊢
  refine cj_wpX11_needs (fun _ _ h1 h2 => ?_) h1 h2
  refine ifc h1 h2 (fun _ h1 h2 => ?_) (fun _ h1 h2 => ?_)
  · skip
    exact cj_wX11_readKind_56 hc  h1 h2
  · skip
    refine ifc h1 h2 (fun _ h1 h2 => ?_) (fun _ h1 h2 => ?_)
    · skip
      exact cj_wX11_readKind_56 hc  h1 h2
    · skip
      exact cj_wX11_readKind_61 hc  h1 h2
theorem cj_wX11_readKind_24 {p q s : Int32 → MM → Int64 → Prop} (hc : ∀ x0 x1 x2, p x0 x1 x2 → q x0 x1 x2 → s x0 x1 x2) {M : MM} {tl : Int64} {v1 : Int32} {s0 : Int32} (h1 : wX11_readKind_24 p M tl v1 s0) (h2 : wX11_readKind_24 q M tl v1 s0) : wX11_readKind_24 s M tl v1 s0 := by
  unfold wX11_readKind_24 at h1 h2 ⊢
  refine ifc h1 h2 (fun _ h1 h2 => ?_) (fun _ h1 h2 => ?_)
  · skip
    exact cj_wX11_readKind_37 hc  h1 h2
  · skip
    exact cj_wX11_readKind_37 hc  h1 h2
theorem cj_wX11_readKind_22 {p q s : Int32 → MM → Int64 → Prop} (hc : ∀ x0 x1 x2, p x0 x1 x2 → q x0 x1 x2 → s x0 x1 x2) {M : MM} {tl : Int64} {v1 : Int32} (h1 : wX11_readKind_22 p M tl v1) (h2 : wX11_readKind_22 q M tl v1) : wX11_readKind_22 s M tl v1 := by
  unfold wX11_readKind_22 at h1 h2 ⊢
  exact cj_wX11_readKind_24 hc  h1 h2
theorem cj_wpX11_readKind {p q s : Int32 → MM → Int64 → Prop} (hc : ∀ x0 x1 x2, p x0 x1 x2 → q x0 x1 x2 → s x0 x1 x2) {M : MM} {tl : Int64} {v1 : Int32} (h1 : wpX11_readKind p M tl v1) (h2 : wpX11_readKind q M tl v1) : wpX11_readKind s M tl v1 := by
  unfold wpX11_readKind at h1 h2 ⊢
  refine ifc h1 h2 (fun _ h1 h2 => ?_) (fun _ h1 h2 => ?_)
  · skip
    refine ifc h1 h2 (fun _ h1 h2 => ?_) (fun _ h1 h2 => ?_)
    · skip
      refine cj_wpX11_kindNow (fun _ _ _ h1 h2 => ?_) h1 h2
      exact cj_wX11_readKind_24 hc  h1 h2
    · skip
      exact cj_wX11_readKind_22 hc  h1 h2
  · skip
    exact cj_wX11_readKind_22 hc  h1 h2
theorem cj_wX11_readLaw_73 {p q s : MM → Int64 → Prop} (hc : ∀ x0 x1, p x0 x1 → q x0 x1 → s x0 x1) {M : MM} {tl : Int64} {v2 : Int32} {v3 : Int32} {s1 : Int32} {s2 : Int32} (h1 : wX11_readLaw_73 p M tl v2 v3 s1 s2) (h2 : wX11_readLaw_73 q M tl v2 v3 s1 s2) : wX11_readLaw_73 s M tl v2 v3 s1 s2 := by
  unfold wX11_readLaw_73 at h1 h2 ⊢
  refine anc h1 h2 (fun h1 h2 => ?_)
  refine alc h1 h2 (fun _ h1 h2 => ?_)
  refine alc h1 h2 (fun _ h1 h2 => ?_)
  exact hc _ _ h1 h2
theorem cj_wX11_readLaw_50 {p q s : MM → Int64 → Prop} (hc : ∀ x0 x1, p x0 x1 → q x0 x1 → s x0 x1) {M : MM} {tl : Int64} {v2 : Int32} {v3 : Int32} {s1 : Int32} {s2 : Int32} (h1 : wX11_readLaw_50 p M tl v2 v3 s1 s2) (h2 : wX11_readLaw_50 q M tl v2 v3 s1 s2) : wX11_readLaw_50 s M tl v2 v3 s1 s2 := by
  unfold wX11_readLaw_50 at h1 h2 ⊢
  refine anc h1 h2 (fun h1 h2 => ?_)
  refine alc h1 h2 (fun _ h1 h2 => ?_)
  refine ifc h1 h2 (fun _ h1 h2 => ?_) (fun _ h1 h2 => ?_)
  · skip
    exact cj_wX11_readLaw_73 hc  h1 h2
  · skip
    refine anc h1 h2 (fun h1 h2 => ?_)
    exact cj_wX11_readLaw_73 hc  h1 h2
theorem cj_wX11_readColour_32 {p q s : Int32 → MM → Int64 → Prop} (hc : ∀ x0 x1 x2, p x0 x1 x2 → q x0 x1 x2 → s x0 x1 x2) {M : MM} {tl : Int64} {v2 : Int32} (h1 : wX11_readColour_32 p M tl v2) (h2 : wX11_readColour_32 q M tl v2) : wX11_readColour_32 s M tl v2 := by
  unfold wX11_readColour_32 at h1 h2 ⊢
  refine cj_wpX11_next (fun _ _ h1 h2 => ?_) h1 h2
  exact hc _ _ _ h1 h2
theorem cj_wX11_readColour_28 {p q s : Int32 → MM → Int64 → Prop} (hc : ∀ x0 x1 x2, p x0 x1 x2 → q x0 x1 x2 → s x0 x1 x2) {M : MM} {tl : Int64} {v2 : Int32} {s1 : Int32} (h1 : wX11_readColour_28 p M tl v2 s1) (h2 : wX11_readColour_28 q M tl v2 s1) : wX11_readColour_28 s M tl v2 s1 := by
  unfold wX11_readColour_28 at h1 h2 ⊢
  refine cj_wpX11_needs (fun _ _ h1 h2 => ?_) h1 h2
  exact cj_wX11_readColour_32 hc  h1 h2
theorem cj_wpX11_readColour {p q s : Int32 → MM → Int64 → Prop} (hc : ∀ x0 x1 x2, p x0 x1 x2 → q x0 x1 x2 → s x0 x1 x2) {M : MM} {tl : Int64} {v1 : Int32} (h1 : wpX11_readColour p M tl v1) (h2 : wpX11_readColour q M tl v1) : wpX11_readColour s M tl v1 := by
  unfold wpX11_readColour at h1 h2 ⊢
  refine cj_wpX11_looked (fun _ _ _ h1 h2 => ?_) h1 h2
  refine ifc h1 h2 (fun _ h1 h2 => ?_) (fun _ h1 h2 => ?_)
  · skip
    refine ifc h1 h2 (fun _ h1 h2 => ?_) (fun _ h1 h2 => ?_)
    · skip
      exact cj_wX11_readColour_28 hc  h1 h2
    · skip
      exact cj_wX11_readColour_28 hc  h1 h2
  · skip
    exact cj_wX11_readColour_32 hc  h1 h2
theorem cj_wX11_readLaw_166 {p q s : MM → Int64 → Prop} (hc : ∀ x0 x1, p x0 x1 → q x0 x1 → s x0 x1) {M : MM} {tl : Int64} {v2 : Int32} {v3 : Int32} {s1 : Int32} {s2 : Int32} (h1 : wX11_readLaw_166 p M tl v2 v3 s1 s2) (h2 : wX11_readLaw_166 q M tl v2 v3 s1 s2) : wX11_readLaw_166 s M tl v2 v3 s1 s2 := by
  unfold wX11_readLaw_166 at h1 h2 ⊢
  refine anc h1 h2 (fun h1 h2 => ?_)
  refine alc h1 h2 (fun _ h1 h2 => ?_)
  refine alc h1 h2 (fun _ h1 h2 => ?_)
  exact hc _ _ h1 h2
theorem cj_wX11_readLaw_143 {p q s : MM → Int64 → Prop} (hc : ∀ x0 x1, p x0 x1 → q x0 x1 → s x0 x1) {M : MM} {tl : Int64} {v2 : Int32} {v3 : Int32} {s1 : Int32} {s2 : Int32} (h1 : wX11_readLaw_143 p M tl v2 v3 s1 s2) (h2 : wX11_readLaw_143 q M tl v2 v3 s1 s2) : wX11_readLaw_143 s M tl v2 v3 s1 s2 := by
  unfold wX11_readLaw_143 at h1 h2 ⊢
  refine anc h1 h2 (fun h1 h2 => ?_)
  refine alc h1 h2 (fun _ h1 h2 => ?_)
  refine ifc h1 h2 (fun _ h1 h2 => ?_) (fun _ h1 h2 => ?_)
  · skip
    exact cj_wX11_readLaw_166 hc  h1 h2
  · skip
    refine anc h1 h2 (fun h1 h2 => ?_)
    exact cj_wX11_readLaw_166 hc  h1 h2
theorem cj_wpX11_readLaw {p q s : MM → Int64 → Prop} (hc : ∀ x0 x1, p x0 x1 → q x0 x1 → s x0 x1) {M : MM} {tl : Int64} {v1 : Int32} (h1 : wpX11_readLaw p M tl v1) (h2 : wpX11_readLaw q M tl v1) : wpX11_readLaw s M tl v1 := by
  unfold wpX11_readLaw at h1 h2 ⊢
  refine ifc h1 h2 (fun _ h1 h2 => ?_) (fun _ h1 h2 => ?_)
  · skip
    refine cj_wpX11_readKind (fun _ _ _ h1 h2 => ?_) h1 h2
    refine cj_wpX11_readKind (fun _ _ _ h1 h2 => ?_) h1 h2
    refine ifc h1 h2 (fun _ h1 h2 => ?_) (fun _ h1 h2 => ?_)
    · skip
      exact cj_wX11_readLaw_50 hc  h1 h2
    · skip
      refine anc h1 h2 (fun h1 h2 => ?_)
      exact cj_wX11_readLaw_50 hc  h1 h2
  · skip
    refine ifc h1 h2 (fun _ h1 h2 => ?_) (fun _ h1 h2 => ?_)
    · skip
      refine cj_wpX11_readColour (fun _ _ _ h1 h2 => ?_) h1 h2
      refine cj_wpX11_readColour (fun _ _ _ h1 h2 => ?_) h1 h2
      refine ifc h1 h2 (fun _ h1 h2 => ?_) (fun _ h1 h2 => ?_)
      · skip
        exact cj_wX11_readLaw_143 hc  h1 h2
      · skip
        refine anc h1 h2 (fun h1 h2 => ?_)
        exact cj_wX11_readLaw_143 hc  h1 h2
    · skip
      refine ifc h1 h2 (fun _ h1 h2 => ?_) (fun _ h1 h2 => ?_)
      · skip
        refine cj_wpX11_readKind (fun _ _ _ h1 h2 => ?_) h1 h2
        refine alc h1 h2 (fun _ h1 h2 => ?_)
        exact hc _ _ h1 h2
      · skip
        refine cj_wpX11_readNumber (fun _ _ _ h1 h2 => ?_) h1 h2
        refine anc h1 h2 (fun h1 h2 => ?_)
        refine cj_wpX11_readKind (fun _ _ _ h1 h2 => ?_) h1 h2
        refine anc h1 h2 (fun h1 h2 => ?_)
        refine alc h1 h2 (fun _ h1 h2 => ?_)
        exact hc _ _ h1 h2
theorem cj_wX11_readLot_25 {p q s : Int32 → MM → Int64 → Prop} (hc : ∀ x0 x1 x2, p x0 x1 x2 → q x0 x1 x2 → s x0 x1 x2) {M : MM} {tl : Int64} {v1 : Int32} {s1 : Int32} (h1 : wX11_readLot_25 p M tl v1 s1) (h2 : wX11_readLot_25 q M tl v1 s1) : wX11_readLot_25 s M tl v1 s1 := by
  unfold wX11_readLot_25 at h1 h2 ⊢
  refine alc h1 h2 (fun _ h1 h2 => ?_)
  exact hc _ _ _ h1 h2
theorem cj_wpX11_readLot {p q s : Int32 → MM → Int64 → Prop} (hc : ∀ x0 x1 x2, p x0 x1 x2 → q x0 x1 x2 → s x0 x1 x2) {M : MM} {tl : Int64} (h1 : wpX11_readLot p M tl ) (h2 : wpX11_readLot q M tl ) : wpX11_readLot s M tl  := by
  unfold wpX11_readLot at h1 h2 ⊢
  refine cj_wpX11_readNumber (fun _ _ _ h1 h2 => ?_) h1 h2
  refine ifc h1 h2 (fun _ h1 h2 => ?_) (fun _ h1 h2 => ?_)
  · skip
    exact cj_wX11_readLot_25 hc  h1 h2
  · skip
    exact cj_wX11_readLot_25 hc  h1 h2
theorem cj_wpX11_isNothing {p q s : Int32 → MM → Int64 → Prop} (hc : ∀ x0 x1 x2, p x0 x1 x2 → q x0 x1 x2 → s x0 x1 x2) {M : MM} {tl : Int64} (h1 : wpX11_isNothing p M tl ) (h2 : wpX11_isNothing q M tl ) : wpX11_isNothing s M tl  := by
  unfold wpX11_isNothing at h1 h2 ⊢
  refine cj_wpX11_is (fun _ _ _ h1 h2 => ?_) h1 h2
  refine ifc h1 h2 (fun _ h1 h2 => ?_) (fun _ h1 h2 => ?_)
  · skip
    exact hc _ _ _ h1 h2
  · skip
    refine cj_wpX11_ends (fun _ _ _ h1 h2 => ?_) h1 h2
    refine ifc h1 h2 (fun _ h1 h2 => ?_) (fun _ h1 h2 => ?_)
    · skip
      exact hc _ _ _ h1 h2
    · skip
      exact hc _ _ _ h1 h2
theorem cj_wpX11_sideNow {p q s : Int32 → MM → Int64 → Prop} (hc : ∀ x0 x1 x2, p x0 x1 x2 → q x0 x1 x2 → s x0 x1 x2) {M : MM} {tl : Int64} (h1 : wpX11_sideNow p M tl ) (h2 : wpX11_sideNow q M tl ) : wpX11_sideNow s M tl  := by
  unfold wpX11_sideNow at h1 h2 ⊢
  refine cj_wpX11_is (fun _ _ _ h1 h2 => ?_) h1 h2
  refine ifc h1 h2 (fun _ h1 h2 => ?_) (fun _ h1 h2 => ?_)
  · skip
    refine cj_wpX11_is (fun _ _ _ h1 h2 => ?_) h1 h2
    refine ifc h1 h2 (fun _ h1 h2 => ?_) (fun _ h1 h2 => ?_)
    · skip
      exact hc _ _ _ h1 h2
    · skip
      refine cj_wpX11_ends (fun _ _ _ h1 h2 => ?_) h1 h2
      refine ifc h1 h2 (fun _ h1 h2 => ?_) (fun _ h1 h2 => ?_)
      · skip
        exact hc _ _ _ h1 h2
      · skip
        exact hc _ _ _ h1 h2
  · skip
    exact hc _ _ _ h1 h2
theorem cj_wX11_readWhat_78 {p q s : Int32 → MM → Int64 → Prop} (hc : ∀ x0 x1 x2, p x0 x1 x2 → q x0 x1 x2 → s x0 x1 x2) {M : MM} {tl : Int64} {v1 : Int32} {v2 : Int32} {v3 : Int32} {s1 : Int32} (h1 : wX11_readWhat_78 p M tl v1 v2 v3 s1) (h2 : wX11_readWhat_78 q M tl v1 v2 v3 s1) : wX11_readWhat_78 s M tl v1 v2 v3 s1 := by
  unfold wX11_readWhat_78 at h1 h2 ⊢
  refine cj_wpX11_needs (fun _ _ h1 h2 => ?_) h1 h2
  refine cj_wpX11_next (fun _ _ h1 h2 => ?_) h1 h2
  refine ifc h1 h2 (fun _ h1 h2 => ?_) (fun _ h1 h2 => ?_)
  · skip
    exact hc _ _ _ h1 h2
  · skip
    exact hc _ _ _ h1 h2
theorem cj_wX11_readWhat_65 {p q s : Int32 → MM → Int64 → Prop} (hc : ∀ x0 x1 x2, p x0 x1 x2 → q x0 x1 x2 → s x0 x1 x2) {M : MM} {tl : Int64} {v1 : Int32} {v2 : Int32} {s0 : Int32} (h1 : wX11_readWhat_65 p M tl v1 v2 s0) (h2 : wX11_readWhat_65 q M tl v1 v2 s0) : wX11_readWhat_65 s M tl v1 v2 s0 := by
  unfold wX11_readWhat_65 at h1 h2 ⊢
  refine ifc h1 h2 (fun _ h1 h2 => ?_) (fun _ h1 h2 => ?_)
  · skip
    exact cj_wX11_readWhat_78 hc  h1 h2
  · skip
    exact cj_wX11_readWhat_78 hc  h1 h2
theorem cj_wX11_readWhat_63 {p q s : Int32 → MM → Int64 → Prop} (hc : ∀ x0 x1 x2, p x0 x1 x2 → q x0 x1 x2 → s x0 x1 x2) {M : MM} {tl : Int64} {v1 : Int32} {v2 : Int32} (h1 : wX11_readWhat_63 p M tl v1 v2) (h2 : wX11_readWhat_63 q M tl v1 v2) : wX11_readWhat_63 s M tl v1 v2 := by
  unfold wX11_readWhat_63 at h1 h2 ⊢
  exact cj_wX11_readWhat_65 hc  h1 h2
theorem cj_wX11_readWhat_28 {p q s : Int32 → MM → Int64 → Prop} (hc : ∀ x0 x1 x2, p x0 x1 x2 → q x0 x1 x2 → s x0 x1 x2) {M : MM} {tl : Int64} (h1 : wX11_readWhat_28 p M tl ) (h2 : wX11_readWhat_28 q M tl ) : wX11_readWhat_28 s M tl  := by
  unfold wX11_readWhat_28 at h1 h2 ⊢
  refine cj_wpX11_readKind (fun _ _ _ h1 h2 => ?_) h1 h2
  refine cj_wpX11_readNumber (fun _ _ _ h1 h2 => ?_) h1 h2
  refine ifc h1 h2 (fun _ h1 h2 => ?_) (fun _ h1 h2 => ?_)
  · skip
    refine ifc h1 h2 (fun _ h1 h2 => ?_) (fun _ h1 h2 => ?_)
    · skip
      refine cj_wpX11_sideNow (fun _ _ _ h1 h2 => ?_) h1 h2
      exact cj_wX11_readWhat_65 hc  h1 h2
    · skip
      exact cj_wX11_readWhat_63 hc  h1 h2
  · skip
    exact cj_wX11_readWhat_63 hc  h1 h2
theorem cj_wpX11_readWhat {p q s : Int32 → MM → Int64 → Prop} (hc : ∀ x0 x1 x2, p x0 x1 x2 → q x0 x1 x2 → s x0 x1 x2) {M : MM} {tl : Int64} (h1 : wpX11_readWhat p M tl ) (h2 : wpX11_readWhat q M tl ) : wpX11_readWhat s M tl  := by
  unfold wpX11_readWhat at h1 h2 ⊢
  refine ifc h1 h2 (fun _ h1 h2 => ?_) (fun _ h1 h2 => ?_)
  · skip
    refine ifc h1 h2 (fun _ h1 h2 => ?_) (fun _ h1 h2 => ?_)
    · skip
      refine cj_wpX11_isNothing (fun _ _ _ h1 h2 => ?_) h1 h2
      refine ifc h1 h2 (fun _ h1 h2 => ?_) (fun _ h1 h2 => ?_)
      · skip
        exact cj_wX11_readWhat_28 hc  h1 h2
      · skip
        refine cj_wpX11_next (fun _ _ h1 h2 => ?_) h1 h2
        exact hc _ _ _ h1 h2
    · skip
      exact cj_wX11_readWhat_28 hc  h1 h2
  · skip
    exact cj_wX11_readWhat_28 hc  h1 h2
theorem cj_wX11_readThing_48 {p q s : MM → Int64 → Prop} (hc : ∀ x0 x1, p x0 x1 → q x0 x1 → s x0 x1) {M : MM} {tl : Int64} {v1 : Int32} {v2 : Int32} (h1 : wX11_readThing_48 p M tl v1 v2) (h2 : wX11_readThing_48 q M tl v1 v2) : wX11_readThing_48 s M tl v1 v2 := by
  unfold wX11_readThing_48 at h1 h2 ⊢
  refine alc h1 h2 (fun _ h1 h2 => ?_)
  refine cj_wpX11_readLot (fun _ _ _ h1 h2 => ?_) h1 h2
  refine cj_wpX11_readWhat (fun _ _ _ h1 h2 => ?_) h1 h2
  refine anc h1 h2 (fun h1 h2 => ?_)
  refine alc h1 h2 (fun _ h1 h2 => ?_)
  exact hc _ _ h1 h2
theorem cj_wX11_readThing_44 {p q s : MM → Int64 → Prop} (hc : ∀ x0 x1, p x0 x1 → q x0 x1 → s x0 x1) {M : MM} {tl : Int64} {v1 : Int32} {v2 : Int32} {s1 : Int32} (h1 : wX11_readThing_44 p M tl v1 v2 s1) (h2 : wX11_readThing_44 q M tl v1 v2 s1) : wX11_readThing_44 s M tl v1 v2 s1 := by
  unfold wX11_readThing_44 at h1 h2 ⊢
  refine cj_wpX11_needs (fun _ _ h1 h2 => ?_) h1 h2
  exact cj_wX11_readThing_48 hc  h1 h2
theorem cj_wpX11_readThing {p q s : MM → Int64 → Prop} (hc : ∀ x0 x1, p x0 x1 → q x0 x1 → s x0 x1) {M : MM} {tl : Int64} (h1 : wpX11_readThing p M tl ) (h2 : wpX11_readThing q M tl ) : wpX11_readThing s M tl  := by
  unfold wpX11_readThing at h1 h2 ⊢
  refine cj_wpX11_readNumber (fun _ _ _ h1 h2 => ?_) h1 h2
  refine cj_wpX11_looked (fun _ _ _ h1 h2 => ?_) h1 h2
  refine ifc h1 h2 (fun _ h1 h2 => ?_) (fun _ h1 h2 => ?_)
  · skip
    refine ifc h1 h2 (fun _ h1 h2 => ?_) (fun _ h1 h2 => ?_)
    · skip
      exact cj_wX11_readThing_44 hc  h1 h2
    · skip
      exact cj_wX11_readThing_44 hc  h1 h2
  · skip
    exact cj_wX11_readThing_48 hc  h1 h2
theorem cj_wX11_readWork_37 {p q s : MM → Int64 → Prop} (hc : ∀ x0 x1, p x0 x1 → q x0 x1 → s x0 x1) {M : MM} {tl : Int64} {v1 : Int32} {v2 : Int32} {s1 : Int32} {s3 : Int32} (h1 : wX11_readWork_37 p M tl v1 v2 s1 s3) (h2 : wX11_readWork_37 q M tl v1 v2 s1 s3) : wX11_readWork_37 s M tl v1 v2 s1 s3 := by
  unfold wX11_readWork_37 at h1 h2 ⊢
  refine cj_wpX11_readNumber (fun _ _ _ h1 h2 => ?_) h1 h2
  refine anc h1 h2 (fun h1 h2 => ?_)
  refine alc h1 h2 (fun _ h1 h2 => ?_)
  refine cj_wpX11_readNumber (fun _ _ _ h1 h2 => ?_) h1 h2
  refine anc h1 h2 (fun h1 h2 => ?_)
  refine alc h1 h2 (fun _ h1 h2 => ?_)
  refine cj_wpX11_readLot (fun _ _ _ h1 h2 => ?_) h1 h2
  refine anc h1 h2 (fun h1 h2 => ?_)
  refine alc h1 h2 (fun _ h1 h2 => ?_)
  refine cj_wpX11_readWhat (fun _ _ _ h1 h2 => ?_) h1 h2
  refine anc h1 h2 (fun h1 h2 => ?_)
  refine alc h1 h2 (fun _ h1 h2 => ?_)
  refine anc h1 h2 (fun h1 h2 => ?_)
  refine alc h1 h2 (fun _ h1 h2 => ?_)
  exact hc _ _ h1 h2
theorem cj_wpX11_readWork {p q s : MM → Int64 → Prop} (hc : ∀ x0 x1, p x0 x1 → q x0 x1 → s x0 x1) {M : MM} {tl : Int64} (h1 : wpX11_readWork p M tl ) (h2 : wpX11_readWork q M tl ) : wpX11_readWork s M tl  := by
  unfold wpX11_readWork at h1 h2 ⊢
  refine anc h1 h2 (fun h1 h2 => ?_)
  refine ifc h1 h2 (fun _ h1 h2 => ?_) (fun _ h1 h2 => ?_)
  · skip
    exact cj_wX11_readWork_37 hc  h1 h2
  · skip
    refine anc h1 h2 (fun h1 h2 => ?_)
    exact cj_wX11_readWork_37 hc  h1 h2
theorem cj_wpX11_readLineOf {p q s : MM → Int64 → Prop} (hc : ∀ x0 x1, p x0 x1 → q x0 x1 → s x0 x1) {M : MM} {tl : Int64} {v1 : Int32} (h1 : wpX11_readLineOf p M tl v1) (h2 : wpX11_readLineOf q M tl v1) : wpX11_readLineOf s M tl v1 := by
  unfold wpX11_readLineOf at h1 h2 ⊢
  refine ifc h1 h2 (fun _ h1 h2 => ?_) (fun _ h1 h2 => ?_)
  · skip
    refine cj_wpX11_readNumber (fun _ _ _ h1 h2 => ?_) h1 h2
    refine alc h1 h2 (fun _ h1 h2 => ?_)
    exact hc _ _ h1 h2
  · skip
    refine ifc h1 h2 (fun _ h1 h2 => ?_) (fun _ h1 h2 => ?_)
    · skip
      refine cj_wpX11_readNumber (fun _ _ _ h1 h2 => ?_) h1 h2
      refine alc h1 h2 (fun _ h1 h2 => ?_)
      exact hc _ _ h1 h2
    · skip
      refine ifc h1 h2 (fun _ h1 h2 => ?_) (fun _ h1 h2 => ?_)
      · skip
        refine cj_wpX11_readNumber (fun _ _ _ h1 h2 => ?_) h1 h2
        refine alc h1 h2 (fun _ h1 h2 => ?_)
        exact hc _ _ h1 h2
      · skip
        refine ifc h1 h2 (fun _ h1 h2 => ?_) (fun _ h1 h2 => ?_)
        · skip
          obtain ⟨d1, h1⟩ := h1
          obtain ⟨d2, h2⟩ := h2
          exact ⟨d1, cj_wX11_readLineOf_108 hc  d1 d2 _ _ _ h1 h2⟩
        · skip
          refine ifc h1 h2 (fun _ h1 h2 => ?_) (fun _ h1 h2 => ?_)
          · skip
            refine ifc h1 h2 (fun _ h1 h2 => ?_) (fun _ h1 h2 => ?_)
            · skip
              exact cj_wX11_readLineOf_147 hc  h1 h2
            · skip
              exact cj_wX11_readLineOf_147 hc  h1 h2
          · skip
            refine ifc h1 h2 (fun _ h1 h2 => ?_) (fun _ h1 h2 => ?_)
            · skip
              refine ifc h1 h2 (fun _ h1 h2 => ?_) (fun _ h1 h2 => ?_)
              · skip
                exact cj_wX11_readLineOf_147 hc  h1 h2
              · skip
                exact cj_wX11_readLineOf_147 hc  h1 h2
            · skip
              refine ifc h1 h2 (fun _ h1 h2 => ?_) (fun _ h1 h2 => ?_)
              · skip
                refine cj_wpX11_readLaw (fun _ _ h1 h2 => ?_) h1 h2
                exact hc _ _ h1 h2
              · skip
                refine ifc h1 h2 (fun _ h1 h2 => ?_) (fun _ h1 h2 => ?_)
                · skip
                  refine cj_wpX11_readLaw (fun _ _ h1 h2 => ?_) h1 h2
                  exact hc _ _ h1 h2
                · skip
                  refine ifc h1 h2 (fun _ h1 h2 => ?_) (fun _ h1 h2 => ?_)
                  · skip
                    refine cj_wpX11_readLaw (fun _ _ h1 h2 => ?_) h1 h2
                    exact hc _ _ h1 h2
                  · skip
                    refine ifc h1 h2 (fun _ h1 h2 => ?_) (fun _ h1 h2 => ?_)
                    · skip
                      refine cj_wpX11_readLaw (fun _ _ h1 h2 => ?_) h1 h2
                      exact hc _ _ h1 h2
                    · skip
                      refine ifc h1 h2 (fun _ h1 h2 => ?_) (fun _ h1 h2 => ?_)
                      · skip
                        refine cj_wpX11_readThing (fun _ _ h1 h2 => ?_) h1 h2
                        exact hc _ _ h1 h2
                      · skip
                        refine ifc h1 h2 (fun _ h1 h2 => ?_) (fun _ h1 h2 => ?_)
                        · skip
                          refine cj_wpX11_readWork (fun _ _ h1 h2 => ?_) h1 h2
                          exact hc _ _ h1 h2
                        · skip
                          refine cj_wpX11_readLaw (fun _ _ h1 h2 => ?_) h1 h2
                          exact hc _ _ h1 h2
theorem cj_wX11_readLine_150 {p q s : MM → Int64 → Prop} (hc : ∀ x0 x1, p x0 x1 → q x0 x1 → s x0 x1) {M : MM} {tl : Int64} (h1 : wX11_readLine_150 p M tl ) (h2 : wX11_readLine_150 q M tl ) : wX11_readLine_150 s M tl  := by
  unfold wX11_readLine_150 at h1 h2 ⊢
  refine cj_wpX11_next (fun _ _ h1 h2 => ?_) h1 h2
  exact hc _ _ h1 h2
theorem cj_wX11_readLine_146 {p q s : MM → Int64 → Prop} (hc : ∀ x0 x1, p x0 x1 → q x0 x1 → s x0 x1) {M : MM} {tl : Int64} {s1 : Int32} (h1 : wX11_readLine_146 p M tl s1) (h2 : wX11_readLine_146 q M tl s1) : wX11_readLine_146 s M tl s1 := by
  unfold wX11_readLine_146 at h1 h2 ⊢
  refine cj_wpX11_needs (fun _ _ h1 h2 => ?_) h1 h2
  exact cj_wX11_readLine_150 hc  h1 h2
theorem cj_wX11_readLine_108 {p q s : MM → Int64 → Prop} (hc : ∀ x0 x1, p x0 x1 → q x0 x1 → s x0 x1) {M : MM} {tl : Int64} {v1 : Int32} (h1 : wX11_readLine_108 p M tl v1) (h2 : wX11_readLine_108 q M tl v1) : wX11_readLine_108 s M tl v1 := by
  unfold wX11_readLine_108 at h1 h2 ⊢
  refine cj_wpX11_next (fun _ _ h1 h2 => ?_) h1 h2
  refine ifc h1 h2 (fun _ h1 h2 => ?_) (fun _ h1 h2 => ?_)
  · skip
    refine cj_wpX11_readLineOf (fun _ _ h1 h2 => ?_) h1 h2
    refine ifc h1 h2 (fun _ h1 h2 => ?_) (fun _ h1 h2 => ?_)
    · skip
      refine ifc h1 h2 (fun _ h1 h2 => ?_) (fun _ h1 h2 => ?_)
      · skip
        exact cj_wX11_readLine_146 hc  h1 h2
      · skip
        exact cj_wX11_readLine_146 hc  h1 h2
    · skip
      exact cj_wX11_readLine_150 hc  h1 h2
  · skip
    exact hc _ _ h1 h2
theorem cj_wX11_readLine_92 {p q s : MM → Int64 → Prop} (hc : ∀ x0 x1, p x0 x1 → q x0 x1 → s x0 x1) {M : MM} {tl : Int64} {v1 : Int32} {s1 : Int32} (h1 : wX11_readLine_92 p M tl v1 s1) (h2 : wX11_readLine_92 q M tl v1 s1) : wX11_readLine_92 s M tl v1 s1 := by
  unfold wX11_readLine_92 at h1 h2 ⊢
  refine cj_wpX11_needs (fun _ _ h1 h2 => ?_) h1 h2
  refine alc h1 h2 (fun _ h1 h2 => ?_)
  exact cj_wX11_readLine_108 hc  h1 h2
theorem cj_wX11_readLine_58 {p q s : MM → Int64 → Prop} (hc : ∀ x0 x1, p x0 x1 → q x0 x1 → s x0 x1) {M : MM} {tl : Int64} {v1 : Int32} {s1 : Int32} (h1 : wX11_readLine_58 p M tl v1 s1) (h2 : wX11_readLine_58 q M tl v1 s1) : wX11_readLine_58 s M tl v1 s1 := by
  unfold wX11_readLine_58 at h1 h2 ⊢
  refine cj_wpX11_needs (fun _ _ h1 h2 => ?_) h1 h2
  refine ifc h1 h2 (fun _ h1 h2 => ?_) (fun _ h1 h2 => ?_)
  · skip
    refine ifc h1 h2 (fun _ h1 h2 => ?_) (fun _ h1 h2 => ?_)
    · skip
      exact cj_wX11_readLine_108 hc  h1 h2
    · skip
      refine ifc h1 h2 (fun _ h1 h2 => ?_) (fun _ h1 h2 => ?_)
      · skip
        exact cj_wX11_readLine_92 hc  h1 h2
      · skip
        exact cj_wX11_readLine_92 hc  h1 h2
  · skip
    exact cj_wX11_readLine_108 hc  h1 h2
theorem cj_wX11_readLine_53 {p q s : MM → Int64 → Prop} (hc : ∀ x0 x1, p x0 x1 → q x0 x1 → s x0 x1) {M : MM} {tl : Int64} {v1 : Int32} (h1 : wX11_readLine_53 p M tl v1) (h2 : wX11_readLine_53 q M tl v1) : wX11_readLine_53 s M tl v1 := by
  unfold wX11_readLine_53 at h1 h2 ⊢
  exact cj_wX11_readLine_58 hc  h1 h2
theorem cj_wX11_readLine_30 {p q s : MM → Int64 → Prop} (hc : ∀ x0 x1, p x0 x1 → q x0 x1 → s x0 x1) {M : MM} {tl : Int64} {v1 : Int32} {s1 : Int32} (h1 : wX11_readLine_30 p M tl v1 s1) (h2 : wX11_readLine_30 q M tl v1 s1) : wX11_readLine_30 s M tl v1 s1 := by
  unfold wX11_readLine_30 at h1 h2 ⊢
  refine cj_wpX11_needs (fun _ _ h1 h2 => ?_) h1 h2
  refine ifc h1 h2 (fun _ h1 h2 => ?_) (fun _ h1 h2 => ?_)
  · skip
    refine anc h1 h2 (fun h1 h2 => ?_)
    refine ifc h1 h2 (fun _ h1 h2 => ?_) (fun _ h1 h2 => ?_)
    · skip
      exact cj_wX11_readLine_58 hc  h1 h2
    · skip
      exact cj_wX11_readLine_53 hc  h1 h2
  · skip
    exact cj_wX11_readLine_53 hc  h1 h2
theorem cj_wX11_readLine_17 {p q s : MM → Int64 → Prop} (hc : ∀ x0 x1, p x0 x1 → q x0 x1 → s x0 x1) {M : MM} {tl : Int64} {s0 : Int32} (h1 : wX11_readLine_17 p M tl s0) (h2 : wX11_readLine_17 q M tl s0) : wX11_readLine_17 s M tl s0 := by
  unfold wX11_readLine_17 at h1 h2 ⊢
  refine ifc h1 h2 (fun _ h1 h2 => ?_) (fun _ h1 h2 => ?_)
  · skip
    exact cj_wX11_readLine_30 hc  h1 h2
  · skip
    exact cj_wX11_readLine_30 hc  h1 h2
theorem cj_wpX11_readLine {p q s : MM → Int64 → Prop} (hc : ∀ x0 x1, p x0 x1 → q x0 x1 → s x0 x1) {M : MM} {tl : Int64} (h1 : wpX11_readLine p M tl ) (h2 : wpX11_readLine q M tl ) : wpX11_readLine s M tl  := by
  unfold wpX11_readLine at h1 h2 ⊢
  refine ifc h1 h2 (fun _ h1 h2 => ?_) (fun _ h1 h2 => ?_)
  · skip
    refine cj_wpX11_lineNow (fun _ _ _ h1 h2 => ?_) h1 h2
    exact cj_wX11_readLine_17 hc  h1 h2
  · skip
    exact cj_wX11_readLine_17 hc  h1 h2
theorem cj_wX11_text_20 {p q s : Int32 → MM → Int64 → Prop} (hc : ∀ x0 x1 x2, p x0 x1 x2 → q x0 x1 x2 → s x0 x1 x2) : ∀ (d e : Nat) (M : MM) (tl : Int64) (v1 : Int32), wX11_text_20 p d M tl v1 → wX11_text_20 q e M tl v1 → wX11_text_20 s d M tl v1 := by
  intro d
  induction d with
  | zero =>
    intro e M tl v1 h1 h2
    exact h1.elim
  | succ d ih =>
    intro e M tl v1 h1 h2
    cases e with
    | zero => exact h2.elim
    | succ e =>
    unfold wX11_text_20 at h1 h2 ⊢
    refine ifc h1 h2 (fun _ h1 h2 => ?_) (fun _ h1 h2 => ?_)
    · skip
      refine ifc h1 h2 (fun _ h1 h2 => ?_) (fun _ h1 h2 => ?_)
      · skip
        exact cj_wX11_text_44 hc  h1 h2
      · skip
        refine cj_wpX11_readLine (fun _ _ h1 h2 => ?_) h1 h2
        exact ih _ _ _ _ h1 h2
    · skip
      exact cj_wX11_text_44 hc  h1 h2
theorem cj_wpX11_text {p q s : Int32 → MM → Int64 → Prop} (hc : ∀ x0 x1 x2, p x0 x1 x2 → q x0 x1 x2 → s x0 x1 x2) {M : MM} {tl : Int64} (h1 : wpX11_text p M tl ) (h2 : wpX11_text q M tl ) : wpX11_text s M tl  := by
  unfold wpX11_text at h1 h2 ⊢
  refine alc h1 h2 (fun _ h1 h2 => ?_)
  refine alc h1 h2 (fun _ h1 h2 => ?_)
  refine cj_wpX11_firstDraft (fun _ _ h1 h2 => ?_) h1 h2
  refine cj_wpX11_next (fun _ _ h1 h2 => ?_) h1 h2
  obtain ⟨d1, h1⟩ := h1
  obtain ⟨d2, h2⟩ := h2
  exact ⟨d1, cj_wX11_text_20 hc  d1 d2 _ _ _ h1 h2⟩
theorem cj_wX4_allLotsAre_57 {p q s : Int32 → MM → Int64 → Prop} (hc : ∀ x0 x1 x2, p x0 x1 x2 → q x0 x1 x2 → s x0 x1 x2) : ∀ (d e : Nat) (M : MM) (tl : Int64) (v1 : Int32), wX4_allLotsAre_57 p d M tl v1 → wX4_allLotsAre_57 q e M tl v1 → wX4_allLotsAre_57 s d M tl v1 := by
  intro d
  induction d with
  | zero =>
    intro e M tl v1 h1 h2
    exact h1.elim
  | succ d ih =>
    intro e M tl v1 h1 h2
    cases e with
    | zero => exact h2.elim
    | succ e =>
    unfold wX4_allLotsAre_57 at h1 h2 ⊢
    refine ifc h1 h2 (fun _ h1 h2 => ?_) (fun _ h1 h2 => ?_)
    · skip
      exact hc _ _ _ h1 h2
    · skip
      refine cj_wpX5_cell (fun _ _ _ h1 h2 => ?_) h1 h2
      refine ifc h1 h2 (fun _ h1 h2 => ?_) (fun _ h1 h2 => ?_)
      · skip
        exact ih _ _ _ _ h1 h2
      · skip
        exact hc _ _ _ h1 h2
theorem cj_wX4_allLotsAre_15 {p q s : Int32 → MM → Int64 → Prop} {pbk2 : MM → Int64 → Int32 → Prop} {qbk2 : MM → Int64 → Int32 → Prop} {sbk2 : MM → Int64 → Int32 → Prop} (hc : ∀ x0 x1 x2, p x0 x1 x2 → q x0 x1 x2 → s x0 x1 x2) (hbk2 : ∀ x0 x1 x2, pbk2 x0 x1 x2 → qbk2 x0 x1 x2 → sbk2 x0 x1 x2) : ∀ (d e : Nat) (M : MM) (tl : Int64) (v1 : Int32) (v2 : Int32), wX4_allLotsAre_15 p pbk2 d M tl v1 v2 → wX4_allLotsAre_15 q qbk2 e M tl v1 v2 → wX4_allLotsAre_15 s sbk2 d M tl v1 v2 := by
  intro d
  induction d with
  | zero =>
    intro e M tl v1 v2 h1 h2
    exact h1.elim
  | succ d ih =>
    intro e M tl v1 v2 h1 h2
    cases e with
    | zero => exact h2.elim
    | succ e =>
    unfold wX4_allLotsAre_15 at h1 h2 ⊢
    refine ifc h1 h2 (fun _ h1 h2 => ?_) (fun _ h1 h2 => ?_)
    · skip
      exact hbk2 _ _ _ h1 h2
    · skip
      refine cj_wpX10_slot (fun _ _ _ h1 h2 => ?_) h1 h2
      refine ifc h1 h2 (fun _ h1 h2 => ?_) (fun _ h1 h2 => ?_)
      · skip
        exact ih _ _ _ _ _ h1 h2
      · skip
        exact hc _ _ _ h1 h2
theorem cj_wX4_allLotsAre_2 {p q s : Int32 → MM → Int64 → Prop} (hc : ∀ x0 x1 x2, p x0 x1 x2 → q x0 x1 x2 → s x0 x1 x2) : ∀ (d e : Nat) (M : MM) (tl : Int64) (v1 : Int32), wX4_allLotsAre_2 p d M tl v1 → wX4_allLotsAre_2 q e M tl v1 → wX4_allLotsAre_2 s d M tl v1 := by
  intro d
  induction d with
  | zero =>
    intro e M tl v1 h1 h2
    exact h1.elim
  | succ d ih =>
    intro e M tl v1 h1 h2
    cases e with
    | zero => exact h2.elim
    | succ e =>
    unfold wX4_allLotsAre_2 at h1 h2 ⊢
    refine ifc h1 h2 (fun _ h1 h2 => ?_) (fun _ h1 h2 => ?_)
    · skip
      obtain ⟨d1, h1⟩ := h1
      obtain ⟨d2, h2⟩ := h2
      exact ⟨d1, cj_wX4_allLotsAre_57 hc  d1 d2 _ _ _ h1 h2⟩
    · skip
      obtain ⟨d1, h1⟩ := h1
      obtain ⟨d2, h2⟩ := h2
      exact ⟨d1, cj_wX4_allLotsAre_15 hc (fun _ _ _ h1 h2 => ih _ _ _ _ h1 h2) d1 d2 _ _ _ _ h1 h2⟩
theorem cj_wpX4_allLotsAre {p q s : Int32 → MM → Int64 → Prop} (hc : ∀ x0 x1 x2, p x0 x1 x2 → q x0 x1 x2 → s x0 x1 x2) {M : MM} {tl : Int64} (h1 : wpX4_allLotsAre p M tl ) (h2 : wpX4_allLotsAre q M tl ) : wpX4_allLotsAre s M tl  := by
  unfold wpX4_allLotsAre at h1 h2 ⊢
  obtain ⟨d1, h1⟩ := h1
  obtain ⟨d2, h2⟩ := h2
  exact ⟨d1, cj_wX4_allLotsAre_2 hc  d1 d2 _ _ _ h1 h2⟩
theorem cj_wX4_readAll_59 {p q s : MM → Int64 → Prop} (hc : ∀ x0 x1, p x0 x1 → q x0 x1 → s x0 x1) {M : MM} {tl : Int64} (h1 : wX4_readAll_59 p M tl ) (h2 : wX4_readAll_59 q M tl ) : wX4_readAll_59 s M tl  := by
  unfold wX4_readAll_59 at h1 h2 ⊢
  refine ifc h1 h2 (fun _ h1 h2 => ?_) (fun _ h1 h2 => ?_)
  · skip
    refine cj_wpX4_allLotsAre (fun _ _ _ h1 h2 => ?_) h1 h2
    refine ifc h1 h2 (fun _ h1 h2 => ?_) (fun _ h1 h2 => ?_)
    · skip
      refine cj_wpX4_fail (fun _ _ _ h1 h2 => ?_) h1 h2
      exact hc _ _ h1 h2
    · skip
      exact hc _ _ h1 h2
  · skip
    exact hc _ _ h1 h2
theorem cj_wX4_readAll_10 {p q s : MM → Int64 → Prop} (hc : ∀ x0 x1, p x0 x1 → q x0 x1 → s x0 x1) : ∀ (d e : Nat) (M : MM) (tl : Int64) (v1 : Int32), wX4_readAll_10 p d M tl v1 → wX4_readAll_10 q e M tl v1 → wX4_readAll_10 s d M tl v1 := by
  intro d
  induction d with
  | zero =>
    intro e M tl v1 h1 h2
    exact h1.elim
  | succ d ih =>
    intro e M tl v1 h1 h2
    cases e with
    | zero => exact h2.elim
    | succ e =>
    unfold wX4_readAll_10 at h1 h2 ⊢
    refine ifc h1 h2 (fun _ h1 h2 => ?_) (fun _ h1 h2 => ?_)
    · skip
      exact cj_wX4_readAll_59 hc  h1 h2
    · skip
      refine ifc h1 h2 (fun _ h1 h2 => ?_) (fun _ h1 h2 => ?_)
      · skip
        refine ifc h1 h2 (fun _ h1 h2 => ?_) (fun _ h1 h2 => ?_)
        · skip
          exact cj_wX4_readAll_59 hc  h1 h2
        · skip
          refine cj_wpX4_readLine (fun _ _ h1 h2 => ?_) h1 h2
          refine cj_wpX4_takeStop (fun _ _ h1 h2 => ?_) h1 h2
          refine cj_wpX4_takeToken (fun _ _ h1 h2 => ?_) h1 h2
          refine alc h1 h2 (fun _ h1 h2 => ?_)
          exact ih _ _ _ _ h1 h2
      · skip
        exact cj_wX4_readAll_59 hc  h1 h2
theorem cj_wpX4_readAll {p q s : MM → Int64 → Prop} (hc : ∀ x0 x1, p x0 x1 → q x0 x1 → s x0 x1) {M : MM} {tl : Int64} (h1 : wpX4_readAll p M tl ) (h2 : wpX4_readAll q M tl ) : wpX4_readAll s M tl  := by
  unfold wpX4_readAll at h1 h2 ⊢
  refine cj_wpX4_restart (fun _ _ h1 h2 => ?_) h1 h2
  refine cj_wpX4_takeToken (fun _ _ h1 h2 => ?_) h1 h2
  obtain ⟨d1, h1⟩ := h1
  obtain ⟨d2, h2⟩ := h2
  exact ⟨d1, cj_wX4_readAll_10 hc  d1 d2 _ _ _ h1 h2⟩
