/-! SAFETY OF THE REFERENCE'S RUNS (by hand). LA: who was worked has a latest; NW: what is worked now, too. -/
def LA (M : MM) : Prop := ∀ x : Int32, 0 ≤ x → x < 8 → M 101 x.toNatClampNeg ≠ 0 → M 99 x.toNatClampNeg = 0 ∨ M 99 x.toNatClampNeg = 1
def NW (M : MM) : Prop := ∀ x y : Int32, 0 ≤ x → x < M 81 2 → 0 ≤ y → y < M 81 2 → y = x + M 81 3 - 3 → (M 100 x.toNatClampNeg ≠ 0 ∨ M 100 (8 + y).toNatClampNeg ≠ 0) → M 99 x.toNatClampNeg = 0 ∨ M 99 x.toNatClampNeg = 1
theorem la_ne {M : MM} {a k : Nat} {v : Int32} (h : LA M) (h1 : a ≠ 99) (h2 : a ≠ 101) : LA (mset M a k v) := by
  intro x h0 h8
  rw [mset_ne (i := 101) (fun e => h2 e.symm), mset_ne (i := 99) (fun e => h1 e.symm)]
  exact h x h0 h8
theorem nw_ne {M : MM} {a k : Nat} {v : Int32} (h : NW M) (h1 : a ≠ 99) (h2 : a ≠ 100) (h3 : a ≠ 81) : NW (mset M a k v) := by
  intro x y
  rw [mset_ne (i := 100) (fun e => h2 e.symm), mset_ne (i := 99) (fun e => h1 e.symm), mset_ne (i := 81) (fun e => h3 e.symm)]
  exact h x y
theorem la_99 {M : MM} {k : Nat} {v : Int32} (h : LA M) (hv : v = 0 ∨ v = 1) : LA (mset M 99 k v) := by
  intro x h0 h8
  rw [mset_ne (i := 101) (by decide), mset_if]
  by_cases e : x.toNatClampNeg = k
  · rw [if_pos ⟨rfl, e⟩]; exact fun _ => hv
  · rw [if_neg (fun q => e q.2)]; exact h x h0 h8
theorem la_101 {M : MM} {s v : Int32} (h : LA M) (hs : 0 ≤ s) (hv : v ≠ 0 → M 99 s.toNatClampNeg = 0 ∨ M 99 s.toNatClampNeg = 1) : LA (mset M 101 s.toNatClampNeg v) := by
  intro x h0 h8
  rw [mset_ne (i := 99) (by decide), mset_if]
  by_cases e : x.toNatClampNeg = s.toNatClampNeg
  · rw [if_pos ⟨rfl, e⟩, e]; exact hv
  · rw [if_neg (fun q => e q.2)]; exact h x h0 h8
theorem nw_0 {M : MM} {i v : Int32} (h : NW M) (hi : 0 ≤ i ∧ i < 8) (hl : M 81 2 ≤ 8) (hn : ¬ (0 ≤ i + M 81 3 - 3 ∧ i + M 81 3 - 3 < M 81 2)) : NW (mset M 100 (8 * 0 + i).toNatClampNeg v) := by
  intro x y
  rw [mset_ne (i := 99) (by decide), mset_ne (i := 81) (by decide)]
  intro x0 x1 y0 y1 e
  have k1 : x ≠ 8 * 0 + i := fun q => by
    have q : x = i := by rw [q]; clear hn h; lia
    subst q; subst e
    exact hn ⟨y0, y1⟩
  have y8 : y < 8 := by clear hn h e; lia
  have x8 : x < 8 := by clear hn h e; lia
  clear hn
  rw [mset_nk (tn_ne x0 (by clear e h; lia) k1), mset_nk (tn_ne (by clear e h; lia) (by clear e h; lia) (by clear e h; lia))]
  exact h x y x0 x1 y0 y1 e
theorem nw_1 {M : MM} {i v : Int32} (h : NW M) (hi : 0 ≤ i ∧ i < 8) (hl : M 81 2 ≤ 8) (hn : ¬ (0 ≤ i - M 81 3 + 3 ∧ i - M 81 3 + 3 < M 81 2)) : NW (mset M 100 (8 * 1 + i).toNatClampNeg v) := by
  intro x y
  rw [mset_ne (i := 99) (by decide), mset_ne (i := 81) (by decide)]
  intro x0 x1 y0 y1 e
  have y8 : y < 8 := by clear hn h e; lia
  have x8 : x < 8 := by clear hn h e; lia
  have k1 : 8 + y ≠ 8 * 1 + i := fun q => by
    have q : y = i := by clear hn h e; lia
    subst q
    have z : x = y - M 81 3 + 3 := by clear hn h; grind
    rw [← z] at hn
    exact hn ⟨x0, x1⟩
  clear hn
  rw [mset_nk (tn_ne x0 (by clear e h; lia) (by clear e h; lia)), mset_nk (tn_ne (by clear e h; lia) (by clear e h; lia) k1)]
  exact h x y x0 x1 y0 y1 e
theorem nw_set {M : MM} {k : Nat} {s b v : Int32} (h : NW M) (hs : 0 ≤ s) (hb : b = 0 ∨ b = 1) (hk : ∀ x y : Int32, 0 ≤ x → x < M 81 2 → 0 ≤ y → y < M 81 2 → y = x + M 81 3 - 3 → x ≠ s → k ≠ x.toNatClampNeg ∧ k ≠ (8 + y).toNatClampNeg) : NW (mset (mset M 100 k v) 99 s.toNatClampNeg b) := by
  intro x y
  rw [mset_ne (i := 81) (by decide), mset_ne (i := 81) (by decide)]
  intro x0 x1 y0 y1 e
  by_cases q : x = s
  · subst q
    rw [mset_at]
    exact fun _ => hb
  · have e1 : (mset (mset M 100 k v) 99 s.toNatClampNeg b) 99 x.toNatClampNeg = M 99 x.toNatClampNeg := by
      rw [mset_nk (tn_ne x0 hs q), mset_ne (by decide)]
    have e2 : ∀ j, j ≠ k → (mset (mset M 100 k v) 99 s.toNatClampNeg b) 100 j = M 100 j := fun j hj => by
      rw [mset_ne (by decide), mset_nk hj]
    obtain ⟨k1, k2⟩ := hk x y x0 x1 y0 y1 e q
    rw [e1, e2 _ (fun z => k1 z.symm), e2 _ (fun z => k2 z.symm)]
    exact h x y x0 x1 y0 y1 e
/-- matchOf, exactly -/
theorem sx_matchOf {post : Int32 → MM → Int64 → Prop} {M : MM} {tl : Int64} {v1 v2 : Int32} (hI : Inv M) (hi : 0 ≤ v2 ∧ v2 < 8) (hp : ∀ r : Int32, (r = -4 ∨ (0 ≤ r ∧ r < M 81 2)) → (v1 = 0 → (r = -4 ∧ ¬ (0 ≤ v2 + M 81 3 - 3 ∧ v2 + M 81 3 - 3 < M 81 2)) ∨ r = v2 + M 81 3 - 3) → (v1 ≠ 0 → (r = -4 ∧ ¬ (0 ≤ v2 - M 81 3 + 3 ∧ v2 - M 81 3 + 3 < M 81 2)) ∨ r = v2 - M 81 3 + 3) → post r M tl) : wpX11_matchOf post M tl v1 v2 := by
  unfold wpX11_matchOf wpX11_matchBy
  have hl := iv_81_2 hI
  have hb := iv_81_3 hI
  refine ifs (fun c1 => ?_) (fun c1 => ?_)
  · unfold wX11_matchBy_17
    refine m_in (v := v2 + M 81 3 - 3) (lo := 0) (hi := M 81 2 - 1) rfl rfl rfl (fun a b => ?_) (fun a => ?_)
    · exact ifn (by decide) (hp _ (by lia) (by lia) (by lia))
    · exact ifp rfl (hp _ (by lia) (by lia) (by lia))
  · unfold wX11_matchBy_17
    refine m_in (v := v2 - M 81 3 + 3) (lo := 0) (hi := M 81 2 - 1) rfl rfl rfl (fun a b => ?_) (fun a => ?_)
    · exact ifn (by decide) (hp _ (by lia) (by lia) (by lia))
    · exact ifp rfl (hp _ (by lia) (by lia) (by lia))
theorem sx_isEven {post : Int32 → MM → Int64 → Prop} {M : MM} {tl : Int64} {v1 : Int32} (hI : Inv M) (hi : 0 ≤ v1 ∧ v1 < 8) (hp : ∀ r : Int32, (r = 0 ∨ r = 1) → (r = 0 → 0 ≤ v1 + M 81 3 - 3 ∧ v1 + M 81 3 - 3 < M 81 2) → post r M tl) : wpX11_isEven post M tl v1 := by
  unfold wpX11_isEven
  have hl := iv_81_2 hI
  refine sx_matchOf hI hi (fun r h1 h2 _ => ?_)
  have h2 := h2 rfl
  refine ifs (fun c => ?_) (fun c => ?_)
  · exact hp _ (by lia) (by lia)
  · refine And.intro (vpI (c := 16) (by decide) (by lia) (by lia)) ?_
    refine And.intro (vpI (c := 16) (by decide) (by lia) (by lia)) ?_
    refine sf_X11_mirrorOf hI (iv_98 hI _) (fun r8 _ => ?_)
    exact ifs (fun _ => hp _ (by lia) (by lia)) (fun _ => hp _ (by lia) (fun _ => ⟨by lia, by lia⟩))
/-- what holds while works are tried -/
def RI (M : MM) : Prop := Inv M ∧ LA M ∧ NW M
abbrev RF (M M1 : MM) : Prop := Fr [98, 99, 100, 101, 102, 103] [] M M1
theorem sr_works_155 {post : MM → Int64 → Prop} {M0 M : MM} {tl : Int64} {v1 v2 v3 v4 v5 : Int32} (h : RI M) (hF : RF M0 M) (h1 : 0 ≤ v1 ∧ v1 < 12) (h2 : v2 = 0 ∨ v2 = 1) (h3 : 0 ≤ v3 ∧ v3 < 8) (h4 : Th v4) (h5 : v5 = -4 ∨ (0 ≤ v5 ∧ v5 < M 81 2)) (h6 : v2 = 0 → (v5 = -4 ∧ ¬ (0 ≤ v3 + M 81 3 - 3 ∧ v3 + M 81 3 - 3 < M 81 2)) ∨ v5 = v3 + M 81 3 - 3) (h7 : v2 ≠ 0 → (v5 = -4 ∧ ¬ (0 ≤ v3 - M 81 3 + 3 ∧ v3 - M 81 3 + 3 < M 81 2)) ∨ v5 = v3 - M 81 3 + 3) (hp : ∀ (M1 : MM) (t1 : Int64), RI M1 → RF M0 M1 → post M1 t1) : wX11_works_155 post M tl v1 v2 v3 v4 v5 := by
  obtain ⟨hI, hA, hN⟩ := h
  have hl := iv_81_2 hI
  have hb := iv_81_3 hI
  unfold wX11_works_155
  have h4' := h4
  unfold Th at h4'
  refine And.intro (vpI (c := 12) (by decide) (by lia) (by lia)) ?_
  intro W1 e1
  have i1 : Inv W1 := by rw [e1]; exact inv_set hI (i_any _)
  have f1 : RF M0 W1 := by rw [e1]; exact fr_arr hF (by decide)
  have a1 : LA W1 := by rw [e1]; exact la_ne hA (by decide) (by decide)
  have n1 : NW W1 := by rw [e1]; exact nw_ne hN (by decide) (by decide) (by decide)
  have q1 : W1 81 = M 81 := by rw [e1, mset_ne (by decide)]
  refine And.intro (vpI (c := 2) (by decide) (by lia) (by lia)) ?_
  refine And.intro (vpI (c := 12) (by decide) (by lia) (by lia)) ?_
  refine And.intro (vpI (c := 2) (by decide) (by lia) (by lia)) ?_
  intro W2 e2
  have i2 : Inv W2 := by rw [e2]; exact inv_set i1 (i_any _)
  have f2 : RF M0 W2 := by rw [e2]; exact fr_arr f1 (by decide)
  have a2 : LA W2 := by rw [e2]; exact la_ne a1 (by decide) (by decide)
  have n2 : NW W2 := by rw [e2]; exact nw_ne n1 (by decide) (by decide) (by decide)
  have q2 : W2 81 = M 81 := by rw [e2, mset_ne (by decide), q1]
  clear e2
  refine And.intro (vpI (c := 16) (by decide) (by lia) (by lia)) ?_
  intro W3 e3
  have i3 : Inv W3 := by rw [e3]; exact inv_98 i2 h4
  have f3 : RF M0 W3 := by rw [e3]; exact fr_arr f2 (by decide)
  have a3 : LA W3 := by rw [e3]; exact la_ne a2 (by decide) (by decide)
  have n3 : NW W3 := by rw [e3]; exact nw_ne n2 (by decide) (by decide) (by decide)
  have q3 : W3 81 = M 81 := by rw [e3, mset_ne (by decide), q2]
  clear e3
  refine And.intro (vpI (c := 16) (by decide) (by lia) (by lia)) ?_
  intro W4 e4
  have i4 : Inv W4 := by rw [e4]; exact inv_set i3 (i_any _)
  have f4 : RF M0 W4 := by rw [e4]; exact fr_arr f3 (by decide)
  have a4 : LA W4 := by rw [e4]; exact la_ne a3 (by decide) (by decide)
  refine ifs (fun c => ?_) (fun c => ?_)
  · refine hp _ _ ⟨i4, a4, ?_⟩ f4
    rcases h2 with z | z
    · have h6 := h6 z
      rw [e4, z]
      exact nw_0 n3 h3 (by rw [q3]; exact hl.2) (by rw [q3]; intro w; exact h6.elim (fun g => g.2 w) (fun g => by rw [c] at g; rw [← g] at w; exact absurd w.1 (by decide)))
    · have h7 := h7 (by lia)
      rw [e4, z]
      exact nw_1 n3 h3 (by rw [q3]; exact hl.2) (by rw [q3]; intro w; exact h7.elim (fun g => g.2 w) (fun g => by rw [c] at g; rw [← g] at w; exact absurd w.1 (by decide)))
  · have key : ∀ s : Int32, 0 ≤ s → s < 8 → (v2 = 0 → s = v3) → (v2 ≠ 0 → s = v5) → wX11_works_232 post W4 tl v2 s := by
      intro s s0 s8 sa sb
      unfold wX11_works_232
      refine And.intro (vpI (c := 8) (by decide) (by lia) (by lia)) ?_
      intro W5 e5
      refine hp _ _ ⟨by rw [e5]; exact inv_set i4 (i_any _), by rw [e5]; exact la_99 a4 h2, ?_⟩ (by rw [e5]; exact fr_arr f4 (by decide))
      rw [e5, e4]
      refine nw_set n3 s0 h2 ?_
      rw [q3]
      intro x y x0 x1 y0 y1 e ne
      have x8 : x < 8 := by have := hl.2; clear h6 h7 e; lia
      have y8 : y < 8 := by have := hl.2; clear h6 h7 e; lia
      rcases h2 with z | z
      · have sc := sa z
        clear h6 h7 h5 hb hl c e e4 y1 x1 sa sb
        subst z; subst sc
        exact ⟨tn_ne (by lia) (by lia) (by lia), tn_ne (by lia) (by lia) (by lia)⟩
      · have sc := sb (by rw [z]; decide)
        have h7 := h7 (by rw [z]; decide)
        have h7 : v5 = v3 - M 81 3 + 3 := h7.resolve_left (fun w => c w.1)
        have ny : y ≠ v3 := fun w => ne (by rw [sc, h7, ← w, e]; grind)
        clear h6 h7 h5 hb hl c e e4 y1 x1 ne sc sb sa
        subst z
        exact ⟨tn_ne (by lia) (by lia) (by lia), tn_ne (by lia) (by lia) (by lia)⟩
    refine ifs (fun c2 => key v3 (by lia) (by lia) (fun _ => rfl) (fun q => absurd c2 q)) (fun c2 => key v5 (by lia) (by lia) (fun q => absurd q c2) (fun _ => rfl))
theorem sr_103 {M0 M : MM} {k : Nat} {v : Int32} (h : RI M) (hF : RF M0 M) : RI (mset M 103 k v) ∧ RF M0 (mset M 103 k v) :=
  ⟨⟨inv_set h.1 (i_any _), la_ne h.2.1 (by decide) (by decide), nw_ne h.2.2 (by decide) (by decide) (by decide)⟩, fr_arr hF (by decide)⟩
theorem sr_works_112 {post : MM → Int64 → Prop} {M0 M : MM} {tl : Int64} {v1 v2 v3 v4 v5 v6 : Int32} (h : RI M) (hF : RF M0 M) (h1 : 0 ≤ v1 ∧ v1 < 12) (h2 : v2 = 0 ∨ v2 = 1) (h3 : 0 ≤ v3 ∧ v3 < 8) (h4 : Th v4) (h5 : v5 = -4 ∨ (0 ≤ v5 ∧ v5 < M 81 2)) (h6 : v2 = 0 → (v5 = -4 ∧ ¬ (0 ≤ v3 + M 81 3 - 3 ∧ v3 + M 81 3 - 3 < M 81 2)) ∨ v5 = v3 + M 81 3 - 3) (h7 : v2 ≠ 0 → (v5 = -4 ∧ ¬ (0 ≤ v3 - M 81 3 + 3 ∧ v3 - M 81 3 + 3 < M 81 2)) ∨ v5 = v3 - M 81 3 + 3) (h8 : v6 = 8 * (1 - v2) + v5) (hp : ∀ (M1 : MM) (t1 : Int64), RI M1 → RF M0 M1 → post M1 t1) : wX11_works_112 post M tl v1 v2 v3 v4 v5 v6 := by
  have hl := iv_81_2 h.1
  have k155 : ∀ t, wX11_works_155 post M t v1 v2 v3 v4 v5 := fun t => sr_works_155 h hF h1 h2 h3 h4 h5 h6 h7 hp
  clear h6 h7
  unfold wX11_works_112
  refine ifs (fun c => k155 _) (fun c => ?_)
  refine And.intro (vpI (c := 16) (by decide) (by lia) (by lia)) ?_
  refine ifs (fun c => k155 _) (fun c => ?_)
  refine And.intro (vpI (c := 16) (by decide) (by lia) (by lia)) ?_
  refine sf_X11_mirrorOf h.1 h4 (fun r5 _ => ?_)
  refine ifs (fun c => k155 _) (fun c => ?_)
  refine And.intro (vpI (c := 12) (by decide) (by lia) (by lia)) ?_
  intro W e
  have q := sr_103 (k := v1.toNatClampNeg) (v := 1) h hF
  rw [← e] at q
  exact hp _ _ q.1 q.2
theorem sr_works {post : MM → Int64 → Prop} {M0 M : MM} {tl : Int64} {v1 : Int32} (h : RI M) (hF : RF M0 M) (h1 : 0 ≤ v1 ∧ v1 < 12) (hp : ∀ (M1 : MM) (t1 : Int64), RI M1 → RF M0 M1 → post M1 t1) : wpX11_works post M tl v1 := by
  have hI := h.1
  have hr1 := r82_17_1 hI v1 (by lia) (by lia)
  have hr2 := r82_17_2 hI v1 (by lia) (by lia)
  have hr3 := r82_17_3 hI v1 (by lia) (by lia)
  have k102 : ∀ t, wX11_works_102 post M t v1 := by
    intro t
    unfold wX11_works_102
    refine And.intro (vpI (c := 12) (by decide) (by lia) (by lia)) ?_
    intro W e
    have q := sr_103 (k := v1.toNatClampNeg) (v := 2) h hF
    rw [← e] at q
    exact hp _ _ q.1 q.2
  unfold wpX11_works
  refine And.intro (vpI (c := 381) (by decide) (by lia) (by lia)) ?_
  refine And.intro (vpI (c := 381) (by decide) (by lia) (by lia)) ?_
  refine And.intro (vpI (c := 381) (by decide) (by lia) (by lia)) ?_
  generalize M 82 (17 + 4 * v1 + 1).toNatClampNeg = b at hr1 ⊢
  generalize M 82 (17 + 4 * v1 + 2).toNatClampNeg = i at hr2 ⊢
  generalize M 82 (17 + 4 * v1 + 3).toNatClampNeg = t at hr3 ⊢
  refine sx_matchOf hI (by lia) (fun r q1 q2 q3 => ?_)
  have k112 : ∀ tl, wX11_works_112 post M tl v1 b i t r (8 * (1 - b) + r) := fun tl => sr_works_112 h hF h1 (by lia) (by lia) hr3 q1 q2 q3 rfl hp
  clear q2 q3
  have hr4 := hr3
  unfold Th at hr4
  refine sf_X11_doesLack hI (by lia) (fun r9 _ => ?_)
  refine ifs (fun c => ?_) (fun c => k102 _)
  refine ifs (fun c => k112 _) (fun c => ?_)
  refine And.intro (vpI (c := 6) (by decide) (by lia) (by lia)) ?_
  refine sf_X11_doesLack hI (by lia) (fun r9 _ => ?_)
  exact ifs (fun c => k112 _) (fun c => k102 _)
/-! the reference's months (by hand) -/
theorem sr_246 {post : MM → Int64 → Prop} {bk : MM → Int64 → Int32 → Prop} {M0 M : MM} {tl : Int64} {v2 s2 : Int32} (h : RI M) (hF : RF M0 M) (h2 : 0 ≤ v2 ∧ v2 < 8) (hs : s2 = 0 ∨ s2 = 1) (hv : s2 ≠ 0 → M 99 v2.toNatClampNeg = 0 ∨ M 99 v2.toNatClampNeg = 1) (hb : ∀ (M1 : MM) (t1 : Int64), RI M1 → RF M0 M1 → bk M1 t1 (v2 + 1)) : wX11_goMonth_246 post bk M tl v2 v2 s2 := by
  unfold wX11_goMonth_246
  refine And.intro (vpI (c := 8) (by decide) (by lia) (by lia)) ?_
  intro W e
  have hn : vp_nar .boolean s2 = s2 := by rcases hs with z | z <;> subst z <;> rfl
  rw [hn] at e
  exact hb _ _ ⟨by rw [e]; exact inv_set h.1 (i_any _), by rw [e]; exact la_101 h.2.1 h2.1 hv, by rw [e]; exact nw_ne h.2.2 (by decide) (by decide) (by decide)⟩ (by rw [e]; exact fr_arr hF (by decide))
theorem sr_222 {post : MM → Int64 → Prop} {bk : MM → Int64 → Int32 → Prop} {M0 M : MM} {tl : Int64} {v2 v4 : Int32} (h : RI M) (hF : RF M0 M) (h2 : 0 ≤ v2 ∧ v2 < 8) (hv : v4 ≠ 0 → M 99 v2.toNatClampNeg = 0 ∨ M 99 v2.toNatClampNeg = 1) (hb : ∀ (M1 : MM) (t1 : Int64), RI M1 → RF M0 M1 → bk M1 t1 (v2 + 1)) : wX11_goMonth_222 post bk M tl v2 v4 := by
  unfold wX11_goMonth_222
  refine And.intro (vpI (c := 8) (by decide) (by lia) (by lia)) ?_
  refine ifs (fun c => ifs (fun c2 => ?_) (fun c2 => ?_)) (fun c => ?_)
  · exact sr_246 h hF h2 (Or.inl rfl) (fun q => absurd rfl q) hb
  · unfold wX11_goMonth_241
    exact sr_246 h hF h2 (Or.inr rfl) (fun _ => hv c2) hb
  · unfold wX11_goMonth_241
    exact sr_246 h hF h2 (Or.inr rfl) (fun _ => h.2.1 v2 h2.1 h2.2 c) hb
theorem sr_171 {post : MM → Int64 → Prop} {bk : MM → Int64 → Int32 → Prop} {M0 M : MM} {tl : Int64} {v2 v5 v6 s0 : Int32} (h : RI M) (hF : RF M0 M) (h2 : 0 ≤ v2 ∧ v2 < 8) (h5 : v5 = 0 ∨ v5 = 1) (h6 : 0 ≤ v6 ∧ v6 < 16) (hs : 0 ≤ s0 ∧ s0 < 16) (hb : ∀ (M1 : MM) (t1 : Int64), RI M1 → RF M0 M1 → bk M1 t1 (v2 + 1)) : wX11_goMonth_171 post bk M tl v2 0 v5 v6 s0 := by
  unfold wX11_goMonth_171
  obtain ⟨hI, hA, hN⟩ := h
  refine And.intro (vpI (c := 16) (by decide) (by lia) (by lia)) ?_
  refine sf_X11_mirrorOf hI (iv_98 hI _) (fun r hr => ?_)
  refine And.intro (vpI (c := 16) (by decide) (by lia) (by lia)) ?_
  intro W e
  have i1 : Inv W := by rw [e]; exact inv_98 hI hr
  have f1 : RF M0 W := by rw [e]; exact fr_arr hF (by decide)
  have a1 : LA W := by rw [e]; exact la_ne hA (by decide) (by decide)
  have n1 : NW W := by rw [e]; exact nw_ne hN (by decide) (by decide) (by decide)
  clear e hr
  have ht := iv_98 i1 v6.toNatClampNeg
  unfold Th at ht
  refine And.intro (vpI (c := 2) (by decide) (by lia) (by lia)) ?_
  refine And.intro (vpI (c := 16) (by decide) (by lia) (by lia)) ?_
  refine And.intro (vpI (c := 12) (by decide) (by lia) (by lia)) ?_
  refine And.intro (vpI (c := 2) (by decide) (by lia) (by lia)) ?_
  intro W2 e2
  exact sr_222 ⟨by rw [e2]; exact inv_set i1 (i_any _), by rw [e2]; exact la_ne a1 (by decide) (by decide), by rw [e2]; exact nw_ne n1 (by decide) (by decide) (by decide)⟩ (by rw [e2]; exact fr_arr f1 (by decide)) h2 (fun q => absurd rfl q) hb
theorem sr_109 {post : MM → Int64 → Prop} {bk : MM → Int64 → Int32 → Prop} {M0 M : MM} {tl : Int64} {v2 v3 s0 : Int32} (h : RI M) (hF : RF M0 M) (h2 : 0 ≤ v2 ∧ v2 < 8) (h3 : (0 ≤ v2 + M 81 3 - 3 ∧ v2 + M 81 3 - 3 < M 81 2) → 0 ≤ v3 ∧ v3 < 8) (hv : s0 ≠ 0 → M 99 v2.toNatClampNeg = 0 ∨ M 99 v2.toNatClampNeg = 1) (hb : ∀ (M1 : MM) (t1 : Int64), RI M1 → RF M0 M1 → bk M1 t1 (v2 + 1)) : wX11_goMonth_109 post bk M tl v2 v3 s0 := by
  unfold wX11_goMonth_109
  refine sx_isEven h.1 h2 (fun r hr he => ?_)
  have k222 : ∀ t, wX11_goMonth_222 post bk M t v2 s0 := fun t => sr_222 h hF h2 hv hb
  refine ifs (fun c => ?_) (fun c => k222 _)
  refine ifs (fun c2 => ?_) (fun c2 => k222 _)
  have h3 := h3 (he c)
  clear he
  refine And.intro (vpI (c := 8) (by decide) (by lia) (by lia)) ?_
  refine ifs (fun c3 => k222 _) (fun c3 => ?_)
  have ha := h.2.1 v2 h2.1 h2.2 c3
  subst c2
  refine And.intro (vpI (c := 8) (by decide) (by lia) (by lia)) ?_
  generalize M 99 v2.toNatClampNeg = w at ha ⊢
  refine ifs (fun c4 => ?_) (fun c4 => ?_)
  · unfold wX11_goMonth_156
    exact ifs (fun _ => sr_171 h hF h2 (by lia) (by lia) (by lia) hb) (fun _ => sr_171 h hF h2 (by lia) (by lia) (by lia) hb)
  · unfold wX11_goMonth_156
    exact ifs (fun _ => sr_171 h hF h2 (by lia) (by lia) (by lia) hb) (fun _ => sr_171 h hF h2 (by lia) (by lia) (by lia) hb)
theorem sr_62 {post : MM → Int64 → Prop} {M0 : MM} (hp : ∀ (M1 : MM) (t1 : Int64), RI M1 → RF M0 M1 → post M1 t1) : ∀ v2 : Int32, 0 ≤ v2 → v2 ≤ 8 → ∃ n, ∀ (M : MM) (tl : Int64), RI M → RF M0 M → wX11_goMonth_62 post n M tl v2 := by
  refine up_ex (P := fun d v2 => ∀ (M : MM) (tl : Int64), RI M → RF M0 M → wX11_goMonth_62 post d M tl v2) 0 8 ?_
  intro d v2 hlo hhi rc M tl h hF
  unfold wX11_goMonth_62
  have hI := h.1
  have hl := iv_81_2 hI
  refine ifs (fun c => hp _ _ h hF) (fun c => ?_)
  refine sx_matchOf hI (by lia) (fun r q1 q2 _ => ?_)
  have q2 := q2 rfl
  have rc := rc (by lia)
  have k0 : ∀ t, wX11_goMonth_108 post (wX11_goMonth_62 post d) M t v2 r := by
    intro t
    unfold wX11_goMonth_108
    exact sr_109 h hF (by lia) (by lia) (fun q => absurd rfl q) rc
  refine ifs (fun c2 => k0 _) (fun c2 => ?_)
  have hw := h.2.2 v2 r (by lia) (by lia) (by lia) (by lia) (by lia)
  have k1 : ∀ t, (M 100 v2.toNatClampNeg ≠ 0 ∨ M 100 (8 + r).toNatClampNeg ≠ 0) → wX11_goMonth_104 post (wX11_goMonth_62 post d) M t v2 r := by
    intro t hc
    unfold wX11_goMonth_104
    exact sr_109 h hF (by lia) (by lia) (fun _ => hw hc) rc
  clear q2
  refine And.intro (vpI (c := 16) (by decide) (by lia) (by lia)) ?_
  refine ifs (fun c3 => ?_) (fun c3 => k1 _ (Or.inl c3))
  refine And.intro (vpI (c := 16) (by decide) (by lia) (by lia)) ?_
  exact ifs (fun c4 => k0 _) (fun c4 => k1 _ (Or.inr c4))
theorem sr_23 {post : MM → Int64 → Prop} {M0 : MM} {v1 : Int32} (hp : ∀ (M1 : MM) (t1 : Int64), RI M1 → RF M0 M1 → post M1 t1) : ∀ v2 : Int32, 0 ≤ v2 → v2 ≤ 12 → ∃ n, ∀ (M : MM) (tl : Int64), RI M → RF M0 M → wX11_goMonth_23 post n M tl v1 v2 := by
  refine up_ex (P := fun d v2 => ∀ (M : MM) (tl : Int64), RI M → RF M0 M → wX11_goMonth_23 post d M tl v1 v2) 0 12 ?_
  intro d v2 hlo hhi rc M tl h hF
  unfold wX11_goMonth_23
  have hm := r82_16 h.1
  refine And.intro (vpI (c := 381) (by decide) (by lia) (by lia)) ?_
  refine ifs (fun c => ?_) (fun c => ?_)
  · obtain ⟨n, hn⟩ := sr_62 hp 0 (by decide) (by decide)
    exact ⟨n, hn _ _ h hF⟩
  · refine And.intro (vpI (c := 381) (by decide) (by lia) (by lia)) ?_
    refine ifs (fun c2 => ?_) (fun c2 => ?_)
    · refine sr_works h hF (by lia) (fun M1 t1 h1 f1 => ?_)
      unfold wX11_goMonth_54
      exact rc (by lia) _ _ h1 f1
    · unfold wX11_goMonth_54
      exact rc (by lia) _ _ h hF
theorem nw_zero {M : MM} (hl : M 81 2 ≤ 8) (hz : ∀ x : Int32, 0 ≤ x → x < 16 → M 100 x.toNatClampNeg = 0) : NW M := by
  intro x y x0 x1 y0 y1 e q
  rw [hz x x0 (by lia), hz (8 + y) (by lia) (by lia)] at q
  exact absurd rfl (q.elim id id)
theorem sr_2 {post : MM → Int64 → Prop} {M0 : MM} {v1 : Int32} (hp : ∀ (M1 : MM) (t1 : Int64), RI M1 → RF M0 M1 → post M1 t1) : ∀ v2 : Int32, 0 ≤ v2 → v2 ≤ 16 → ∃ n, ∀ (M : MM) (tl : Int64), Inv M → LA M → RF M0 M → (∀ x : Int32, 0 ≤ x → x < v2 → M 100 x.toNatClampNeg = 0) → wX11_goMonth_2 post n M tl v1 v2 := by
  refine up_ex (P := fun d v2 => ∀ (M : MM) (tl : Int64), Inv M → LA M → RF M0 M → (∀ x : Int32, 0 ≤ x → x < v2 → M 100 x.toNatClampNeg = 0) → wX11_goMonth_2 post d M tl v1 v2) 0 16 ?_
  intro d v2 hlo hhi rc M tl hI hA hF hz
  unfold wX11_goMonth_2
  refine ifs (fun c => ?_) (fun c => ?_)
  · obtain ⟨n, hn⟩ := sr_23 (v1 := v1) hp 0 (by decide) (by decide)
    exact ⟨n, hn _ _ ⟨hI, hA, nw_zero (iv_81_2 hI).2 (fun x x0 x1 => hz x x0 (by lia))⟩ hF⟩
  · refine And.intro (vpI (c := 16) (by decide) (by lia) (by lia)) ?_
    intro W e
    refine rc (by lia) _ _ (by rw [e]; exact inv_set hI (i_any _)) (by rw [e]; exact la_ne hA (by decide) (by decide)) (by rw [e]; exact fr_arr hF (by decide)) ?_
    intro x x0 x1
    rw [e, mset_if]
    by_cases q : x = v2
    · rw [q, if_pos ⟨rfl, rfl⟩]; rfl
    · rw [if_neg (fun z => tn_ne x0 hlo q z.2)]
      exact hz x x0 (by lia)
theorem sr_goMonth {post : MM → Int64 → Prop} {M0 M : MM} {tl : Int64} {v1 : Int32} (hI : Inv M) (hA : LA M) (hF : RF M0 M) (hp : ∀ (M1 : MM) (t1 : Int64), RI M1 → RF M0 M1 → post M1 t1) : wpX11_goMonth post M tl v1 := by
  unfold wpX11_goMonth
  obtain ⟨n, hn⟩ := sr_2 (M0 := M0) (v1 := v1) hp 0 (by decide) (by decide)
  exact ⟨n, hn _ _ hI hA hF (fun x x0 x1 => absurd x1 (by lia))⟩
theorem sr_start6 {post : MM → Int64 → Prop} {M0 : MM} (hp : ∀ (M1 : MM) (t1 : Int64), Inv M1 → LA M1 → RF M0 M1 → post M1 t1) : ∀ v1 : Int32, 0 ≤ v1 → v1 ≤ 8 → ∃ n, ∀ (M : MM) (tl : Int64), Inv M → RF M0 M → (∀ x : Int32, 0 ≤ x → x < v1 → M 101 x.toNatClampNeg = 0) → wX11_startRun_6 post n M tl v1 := by
  refine up_ex (P := fun d v1 => ∀ (M : MM) (tl : Int64), Inv M → RF M0 M → (∀ x : Int32, 0 ≤ x → x < v1 → M 101 x.toNatClampNeg = 0) → wX11_startRun_6 post d M tl v1) 0 8 ?_
  intro d v1 hlo hhi rc M tl hI hF hz
  unfold wX11_startRun_6
  refine ifs (fun c => ?_) (fun c => ?_)
  · have hA : LA M := fun x x0 x8 q => absurd (hz x x0 (by lia)) q
    refine And.intro (vpI (c := 2) (by decide) (by decide) (by decide)) ?_
    intro W e
    refine And.intro (vpI (c := 2) (by decide) (by decide) (by decide)) ?_
    intro W2 e2
    subst e; subst e2
    exact hp _ _ (inv_set (inv_set hI (i_any _)) (i_any _)) (la_ne (la_ne hA (by decide) (by decide)) (by decide) (by decide)) (fr_arr (fr_arr hF (by decide)) (by decide))
  · refine And.intro (vpI (c := 8) (by decide) (by lia) (by lia)) ?_
    intro W e
    refine And.intro (vpI (c := 8) (by decide) (by lia) (by lia)) ?_
    intro W2 e2
    subst e
    refine rc (by lia) _ _ (by rw [e2]; exact inv_set (inv_set hI (i_any _)) (i_any _)) (by rw [e2]; exact fr_arr (fr_arr hF (by decide)) (by decide)) ?_
    intro x x0 x1
    rw [e2, mset_if]
    by_cases q : x = v1
    · rw [q, if_pos ⟨rfl, rfl⟩]; rfl
    · rw [if_neg (fun z => tn_ne x0 hlo q z.2), mset_ne (by decide)]
      exact hz x x0 (by lia)
theorem sr_start {post : MM → Int64 → Prop} {M : MM} {tl : Int64} (hI : Inv M) (hp : ∀ (M1 : MM) (t1 : Int64), Inv M1 → LA M1 → RF M M1 → post M1 t1) : wpX11_startRun post M tl := by
  unfold wpX11_startRun
  refine sf_X11_asNow hI (fun M1 t1 h1 f1 _ => ?_)
  obtain ⟨n, hn⟩ := sr_start6 (M0 := M) hp 0 (by decide) (by decide)
  exact ⟨n, hn _ _ h1 (fr_call fr_rfl f1 (by decide) (by decide)) (fun x x0 x1 => absurd x1 (by lia))⟩
theorem sr_run6 {post : MM → Int64 → Prop} {M0 : MM} {v1 : Int32} (h24 : v1 ≤ 24) (hp : ∀ (M1 : MM) (t1 : Int64), Inv M1 → RF M0 M1 → post M1 t1) : ∀ v2 : Int32, 0 ≤ v2 → v2 ≤ 24 → ∃ n, ∀ (M : MM) (tl : Int64), Inv M → LA M → RF M0 M → wX11_goRun_6 post n M tl v1 v2 := by
  refine up_ex (P := fun d v2 => ∀ (M : MM) (tl : Int64), Inv M → LA M → RF M0 M → wX11_goRun_6 post d M tl v1 v2) 0 24 ?_
  intro d v2 hlo hhi rc M tl hI hA hF
  unfold wX11_goRun_6
  refine ifs (fun c => hp _ _ hI hF) (fun c => ?_)
  exact sr_goMonth hI hA hF (fun M1 t1 h1 f1 => rc (by lia) _ _ h1.1 h1.2.1 f1)
theorem sf_X11_goRun {post : MM → Int64 → Prop} {M : MM} {tl : Int64} {v1 : Int32} (hI : Inv M) (hp1 : v1 ≤ 24) (hp : ∀ (M1 : MM) (t1 : Int64), Inv M1 → Fr [98, 99, 100, 101, 102, 103] [] M M1 → True → post M1 t1) : wpX11_goRun post M tl v1 := by
  unfold wpX11_goRun
  refine sr_start hI (fun M1 t1 h1 a1 f1 => ?_)
  obtain ⟨n, hn⟩ := sr_run6 (M0 := M) (v1 := v1) hp1 (fun M2 t2 h2 f2 => hp M2 t2 h2 f2 trivial) 0 (by decide) (by decide)
  exact ⟨n, hn _ _ h1 a1 f1⟩
/-! uneven -/
theorem odd_all : ∀ a, a < 256 → ∀ i, i < 8 → ∀ f, f < 2 → (0 ≤ (nI a ||| (nI f <<< (nI i &&& 31))) ∧ (nI a ||| (nI f <<< (nI i &&& 31))) ≤ 255) := by decide +kernel
theorem odd_or {a i f : Int32} (ha : 0 ≤ a ∧ a ≤ 255) (hi : 0 ≤ i ∧ i < 8) (hf : f = 0 ∨ f = 1) : 0 ≤ (a ||| (f <<< (i &&& 31))) ∧ (a ||| (f <<< (i &&& 31))) ≤ 255 := by
  obtain ⟨x, ex, hx⟩ := code_of (hi := 255) ⟨i_ge_to (k := 0) (by decide) ha.1, i_le_to (k := 255) (by decide) ha.2⟩ (by decide)
  obtain ⟨y, ey, hy⟩ := code_of (hi := 7) ⟨i_ge_to (k := 0) (by decide) hi.1, i_le_to (c := 7) (k := 7) (by decide) (by lia)⟩ (by decide)
  obtain ⟨z, ez, hz⟩ := code_of (hi := 1) (v := f) ⟨i_ge_to (c := 0) (k := 0) (by decide) (by lia), i_le_to (c := 1) (k := 1) (by decide) (by lia)⟩ (by decide)
  subst ex; subst ey; subst ez
  exact odd_all x hx y hy z hz
theorem sr_odd4 {post : Int32 → MM → Int64 → Prop} {M : MM} {tl : Int64} (hI : Inv M) (hp : ∀ r : Int32, (0 ≤ r ∧ r ≤ 255) → post r M tl) : ∀ v2 : Int32, 0 ≤ v2 → v2 ≤ 8 → ∃ n, ∀ v1 : Int32, (0 ≤ v1 ∧ v1 ≤ 255) → wX11_oddLots_4 post n M tl v1 v2 := by
  refine up_ex (P := fun d v2 => ∀ v1 : Int32, (0 ≤ v1 ∧ v1 ≤ 255) → wX11_oddLots_4 post d M tl v1 v2) 0 8 ?_
  intro d v2 hlo hhi rc v1 h1
  unfold wX11_oddLots_4
  have hl := iv_81_2 hI
  refine ifs (fun c => hp _ h1) (fun c => ?_)
  have rc := rc (by lia)
  refine sf_X11_isEven hI (by lia) (fun r hr => ?_)
  refine ifs (fun c2 => ?_) (fun c2 => ?_)
  · unfold wX11_oddLots_26
    refine sf_X11_flag hI (fun r3 h3 => ?_)
    exact rc _ (odd_or h1 (by lia) h3)
  · unfold wX11_oddLots_26
    refine sf_X11_flag hI (fun r3 h3 => ?_)
    exact rc _ (odd_or h1 (by lia) h3)
theorem sr_odd {post : Int32 → MM → Int64 → Prop} {M : MM} {tl : Int64} (hI : Inv M) (hp : ∀ r : Int32, (0 ≤ r ∧ r ≤ 255) → post r M tl) : wpX11_oddLots post M tl := by
  unfold wpX11_oddLots
  obtain ⟨n, hn⟩ := sr_odd4 (tl := tl) hI hp 0 (by decide) (by decide)
  exact ⟨n, hn 0 (by decide)⟩
theorem first_all : ∀ a, a < 256 → a ≠ 0 → ∃ i, i < 8 ∧ ¬ ((nI a >>> (nI i &&& 31)) &&& 1) = 0 := by decide +kernel
theorem sr_41 {post : Int32 → MM → Int64 → Prop} {M : MM} {tl : Int64} {v1 v2 v3 : Int32} (hp : ∀ r : Int32, post r M tl) : ∀ (d i : Nat), (∃ k, i ≤ k ∧ k < i + d + 1 ∧ ¬ ((v3 >>> (nI k &&& 31)) &&& 1) = 0) → wX11_uneven_41 post (d + 1) M tl v1 v2 v3 (nI i) := by
  intro d
  induction d with
  | zero =>
    intro i ⟨k, k0, k1, k2⟩
    have e : k = i := by omega
    subst e
    unfold wX11_uneven_41
    exact ifn k2 (ifs (fun _ => hp _) (fun _ => hp _))
  | succ d ih =>
    intro i ⟨k, k0, k1, k2⟩
    unfold wX11_uneven_41
    refine ifs (fun c => ?_) (fun c => ifs (fun _ => hp _) (fun _ => hp _))
    rw [nI_s1]
    refine ih (i + 1) ⟨k, ?_, by omega, k2⟩
    by_cases e : k = i
    · subst e; exact absurd c k2
    · omega
theorem sr_18 {post : Int32 → MM → Int64 → Prop} {M0 : MM} {v1 : Int32} (hp : ∀ (r : Int32) (M1 : MM) (t1 : Int64), Inv M1 → RF M0 M1 → post r M1 t1) : ∀ v2 : Int32, 0 ≤ v2 → v2 ≤ 24 → ∃ n, ∀ (M : MM) (tl : Int64), Inv M → LA M → RF M0 M → wX11_uneven_18 post n M tl v1 v2 := by
  refine up_ex (P := fun d v2 => ∀ (M : MM) (tl : Int64), Inv M → LA M → RF M0 M → wX11_uneven_18 post d M tl v1 v2) 0 24 ?_
  intro d v2 hlo hhi rc M tl hI hA hF
  unfold wX11_uneven_18
  refine ifs (fun c => hp _ _ _ hI hF) (fun c => ?_)
  refine sr_goMonth hI hA hF (fun M1 t1 h1 f1 => ?_)
  refine sr_odd h1.1 (fun r hr => ?_)
  refine ifs (fun c2 => rc (by lia) _ _ h1.1 h1.2.1 f1) (fun c2 => ?_)
  obtain ⟨x, ex, hx⟩ := code_of (hi := 255) ⟨i_ge_to (k := 0) (by decide) hr.1, i_le_to (k := 255) (by decide) hr.2⟩ (by decide)
  obtain ⟨k, k1, k2⟩ := first_all x hx (fun e => c2 (by rw [ex, e]; rfl))
  rw [← ex] at k2
  exact ⟨7 + 1, sr_41 (fun r => hp r _ _ h1.1 f1) 7 0 ⟨k, by omega, by omega, k2⟩⟩
theorem sf_X11_uneven {post : Int32 → MM → Int64 → Prop} {M : MM} {tl : Int64} {v1 : Int32} (hI : Inv M) (hp : ∀ (r : Int32) (M1 : MM) (t1 : Int64), Inv M1 → Fr [98, 99, 100, 101, 102, 103] [] M M1 → True → post r M1 t1) : wpX11_uneven post M tl v1 := by
  unfold wpX11_uneven
  refine m_in (v := v1) (lo := 0) (hi := 1) rfl rfl rfl (fun a b => ?_) (fun a => ?_)
  · refine ifn (by decide) ?_
    refine sr_start hI (fun M1 t1 h1 a1 f1 => ?_)
    obtain ⟨n, hn⟩ := sr_18 (M0 := M) (v1 := v1) (fun r M2 t2 h2 f2 => hp r M2 t2 h2 f2 trivial) 0 (by decide) (by decide)
    exact ⟨n, hn _ _ h1 a1 f1⟩
  · exact ifp rfl (hp _ _ _ hI fr_rfl trivial)
