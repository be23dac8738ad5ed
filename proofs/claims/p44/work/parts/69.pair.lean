/-! PAIRS: the class, then the reference, at one call (printed by wip/gen/pair2.py) -/
/-- rows of the sheets -/
def shrows : List Nat := [73, 74, 75, 76, 77, 78, 79, 80, 105, 106, 107]
def Rel0 (M : MM) : Prop := Inv M ∧ M 1 1 = M 81 31 ∧ RSh M ∧ RT M
theorem keep_row {I : List Nat} {J : List (Nat × Nat)} {M M1 : MM} (f : Fr I J M M1) {a : Nat} (h1 : a ∉ I) (h2 : ∀ p ∈ J, p.1 ≠ a) : M1 a = M a := funext fun j => f a j h1 (fun q => h2 _ q rfl)
abbrev offR (R I : List Nat) (J : List (Nat × Nat)) : Prop := ∀ a ∈ R, a ∉ I ∧ ∀ p ∈ J, p.1 ≠ a
theorem keep2 {I1 I2 : List Nat} {J1 J2 : List (Nat × Nat)} {M M1 M2 : MM} (f1 : Fr I1 J1 M M1) (f2 : Fr I2 J2 M1 M2) {R : List Nat} (d : offR R I1 J1 ∧ offR R I2 J2) {a : Nat} (ha : a ∈ R) : M2 a = M a := by
  rw [keep_row f2 (d.2 a ha).1 (d.2 a ha).2, keep_row f1 (d.1 a ha).1 (d.1 a ha).2]
theorem rsh_eq {M M2 : MM} (h : RSh M) (e : ∀ a ∈ shrows, M2 a = M a) : RSh M2 := by
  intro k hk
  have q : 73 + 2 * k ∈ shrows ∧ 74 + 2 * k ∈ shrows := by
    rcases (by omega : k = 0 ∨ k = 1 ∨ k = 2 ∨ k = 3) with z | z | z | z <;> subst z <;> decide
  exact shz_eq (h k hk) (by rw [e _ q.1]) (by rw [e _ q.1]) (e _ q.2) (by rw [e 105 (by decide)]) (by rw [e 106 (by decide)]) (fun i _ => by rw [e 107 (by decide)])
theorem rsh_keep {I1 I2 : List Nat} {J1 J2 : List (Nat × Nat)} {M M1 M2 : MM} (h : RSh M) (f1 : Fr I1 J1 M M1) (f2 : Fr I2 J2 M1 M2) (d : offR shrows I1 J1 ∧ offR shrows I2 J2) : RSh M2 := rsh_eq h (fun _ ha => keep2 f1 f2 d ha)
def relcells : List (Nat × Nat) := [(1, 1), (81, 31), (0, 11), (81, 36)]
def trows : List Nat := [2, 97]
theorem rel0_keep {I1 I2 : List Nat} {J1 J2 : List (Nat × Nat)} {M M1 M2 : MM} (h : Rel0 M) (i2 : Inv M2) (f1 : Fr I1 J1 M M1) (f2 : Fr I2 J2 M1 M2) (d : (∀ p ∈ relcells, (p.1 ∉ I1 ∧ p ∉ J1) ∧ (p.1 ∉ I2 ∧ p ∉ J2)) ∧ (offR trows I1 J1 ∧ offR trows I2 J2) ∧ offR shrows I1 J1 ∧ offR shrows I2 J2) : Rel0 M2 := by
  have e : ∀ p ∈ relcells, M2 p.1 p.2 = M p.1 p.2 := fun p hp => by
    have q := d.1 p hp
    rw [f2 p.1 p.2 q.2.1 q.2.2, f1 p.1 p.2 q.1.1 q.1.2]
  refine ⟨i2, ?_, rsh_keep h.2.2.1 f1 f2 d.2.2, rt_eq h.2.2.2 (keep2 f1 f2 d.2.1 (by decide)) (keep2 f1 f2 d.2.1 (by decide)) (e (0, 11) (by decide)) (e (81, 36) (by decide))⟩
  rw [e (1, 1) (by decide), e (81, 31) (by decide)]
  exact h.2.1
theorem nI_inj4 {k j : Nat} (hk : k < 4) (hj : j < 4) (h : nI k = nI j) : k = j := by
  have a := congrArg Int32.toInt h
  rw [nI_sm (by omega), nI_sm (by omega)] at a
  omega
theorem shz_other {M M1 M2 : MM} {k j : Nat} (hk : k < 4) (hj : j < 4) (ne : j ≠ k) (f1 : Fr [74 + 2 * k] [(73 + 2 * k, 0), (73 + 2 * k, 1)] M M1) (f2 : Fr [105, 106, 107] [] M1 M2) (g1 : M2 105 j = M1 105 j ∧ M2 106 j = M1 106 j) (g2 : ∀ i, (i < 40 * k ∨ 40 * k + 40 ≤ i) → M2 107 i = M1 107 i) (h : shz M j) : shz M2 j := by
  have a0 : ∀ b, b ≠ 105 → b ≠ 106 → b ≠ 107 → M2 b = M1 b := fun b h1 h2 h3 => keep_row f2 (by simp [h1, h2, h3]) (by simp)
  have b0 : ∀ b, b ≠ 73 + 2 * k → b ≠ 74 + 2 * k → M1 b = M b := fun b h1 h2 => keep_row f1 (by simp [h2]) (by
    intro p hp
    simp at hp
    rcases hp with q | q <;> rw [q] <;> exact fun z => h1 z.symm)
  refine shz_eq h ?_ ?_ ?_ ?_ ?_ ?_
  · rw [a0 _ (by omega) (by omega) (by omega), b0 _ (by omega) (by omega)]
  · rw [a0 _ (by omega) (by omega) (by omega), b0 _ (by omega) (by omega)]
  · rw [a0 _ (by omega) (by omega) (by omega), b0 _ (by omega) (by omega)]
  · rw [g1.1, b0 105 (by omega) (by omega)]
  · rw [g1.2, b0 106 (by omega) (by omega)]
  · intro i hi
    rw [g2 (40 * j + i) (by omega), b0 107 (by omega) (by omega)]
theorem pr0_sheet {M : MM} {tl : Int64} {v1 : Int32} {v2 : Int32} {v3 : Int32} (h : Rel0 M) {post1 : Int32 → MM → Int64 → Prop} (H : ∀ (r1 : Int32) (M1 : MM) (t1 : Int64), (∀ post2 : Int32 → MM → Int64 → Prop, (∀ (r2 : Int32) (M2 : MM) (t2 : Int64), Rel0 M2 → r1 = r2 → post2 r2 M2 t2) → wpX11_sheet post2 M1 t1 v1 v2 v3) → post1 r1 M1 t1) : wpX10_sheet post1 M tl v1 v2 v3 := by
  refine sy_X10_sheet h.1 (fun r1 M1 t1 i1 s1 q1 => H _ _ _ (fun post2 k => ?_))
  refine sy_X11_sheet i1 (fun r2 M2 t2 i2 s2 q2 => k _ _ _ ?_ (sh_eq s1 s2))
  have e := sh_eq s1 s2
  subst e
  rcases q1 with ⟨n1, e1⟩ | ⟨e1, a, ha, va, z0, z1, z2, f1⟩
  · rcases q2 with ⟨n2, e2⟩ | ⟨e2, _⟩
    · rw [e2, e1]; exact h
    · exact absurd e2 n1
  · rcases q2 with ⟨n2, e2⟩ | ⟨e2, b, hb, vb, y0, y1, y2, y3, y4, f2⟩
    · exact absurd e1 n2
    · have eab : b = a := nI_inj4 hb ha (vb.symm.trans va)
      subst eab
      have a0 : ∀ c, c ≠ 105 → c ≠ 106 → c ≠ 107 → M2 c = M1 c := fun c h1 h2 h3 => keep_row f2 (by simp [h1, h2, h3]) (by simp)
      have b0 : ∀ c, c ≠ 73 + 2 * b → c ≠ 74 + 2 * b → M1 c = M c := fun c h1 h2 => keep_row f1 (by simp [h2]) (by
        intro p hp
        simp at hp
        rcases hp with q | q <;> rw [q] <;> exact fun z => h1 z.symm)
      refine ⟨i2, ?_, ?_, rt_eq h.2.2.2 (by rw [a0 2 (by omega) (by omega) (by omega), b0 2 (by omega) (by omega)]) (by rw [a0 97 (by omega) (by omega) (by omega), b0 97 (by omega) (by omega)]) (by rw [a0 0 (by omega) (by omega) (by omega), b0 0 (by omega) (by omega)]) (by rw [a0 81 (by omega) (by omega) (by omega), b0 81 (by omega) (by omega)])⟩
      · rw [a0 1 (by omega) (by omega) (by omega), a0 81 (by omega) (by omega) (by omega), b0 1 (by omega) (by omega), b0 81 (by omega) (by omega)]
        exact h.2.1
      · intro j hj
        by_cases q : j = b
        · subst q
          unfold SH at s1
          refine ⟨Or.inr ⟨?_, ?_, ?_, ?_⟩, fun i hi => ?_⟩
          · rw [a0 _ (by omega) (by omega) (by omega), z0]; clear z0 z1 z2 y0 y1 y2; lia
          · rw [y1]; clear z0 z1 z2 y0 y1 y2; lia
          · rw [y0, a0 _ (by omega) (by omega) (by omega), z0]
          · rw [y1, a0 _ (by omega) (by omega) (by omega), z1]
          · rw [y2 i hi, a0 _ (by omega) (by omega) (by omega), z2 i hi]
        · exact shz_other hb hj q f1 f2 (y3 j q) y4 (h.2.2.1 j hj)
theorem pr0_lay {M : MM} {tl : Int64} {v1 : Int32} {v2 : Int32} {v3 : Int32} (h : Rel0 M) {post1 : Int32 → MM → Int64 → Prop} (H : ∀ (r1 : Int32) (M1 : MM) (t1 : Int64), (∀ post2 : Int32 → MM → Int64 → Prop, (∀ (r2 : Int32) (M2 : MM) (t2 : Int64), Rel0 M2 → r1 = r2 → post2 r2 M2 t2) → wpX11_lay post2 M1 t1 v1 v2 v3) → post1 r1 M1 t1) : wpX10_lay post1 M tl v1 v2 v3 := by
  refine sy_X10_lay h.1 (fun r1 M1 t1 i1 q1 => H _ _ _ (fun post2 k => ?_))
  refine sy_X11_lay i1 (fun r2 M2 t2 i2 q2 => ?_)
  rcases q1 with ⟨n1, e1, m1⟩ | ⟨a, ha, va, ly, m1⟩
  · rcases q2 with ⟨n2, e2, m2⟩ | ⟨b, hb, vb, _⟩
    · refine k _ _ _ ?_ (by rw [e1, e2])
      rw [m2, m1]; exact h
    · exact absurd (show 0 ≤ v1 ∧ v1 < 4 by rw [vb]; exact ⟨nJ_ge0 (by omega), Int32.lt_iff_toInt_lt.mpr (by rw [nI_sm (by omega)]; show (b : Int) < 4; omega)⟩) n1
  · have hv : 0 ≤ v1 ∧ v1 < 4 := by rw [va]; exact ⟨nJ_ge0 (by omega), Int32.lt_iff_toInt_lt.mpr (by rw [nI_sm (by omega)]; show (a : Int) < 4; omega)⟩
    rcases q2 with ⟨n2, _, _⟩ | ⟨b, hb, vb, q2⟩
    · exact absurd hv n2
    · have eab : b = a := nI_inj4 hb ha (vb.symm.trans va)
      subst eab
      have hz := h.2.2.1 b hb
      have c0 : ∀ c, c = 105 ∨ c = 106 → M1 c = M c := by
        intro c hc
        rcases m1 with ⟨_, m1⟩ | ⟨_, m1⟩
        · rw [m1]
        · rw [m1, mset_ne (by omega)]
      rw [c0 105 (by omega), c0 106 (by omega)] at q2
      unfold LY at ly
      have er : r1 = r2 := by
        rcases hz.1 with ⟨z1, z2⟩ | ⟨z1, z2, z3, z4⟩
        · clear m1
          rcases q2 with ⟨_, y, _⟩ | ⟨y, _⟩ | ⟨y, _⟩
          · lia
          · exact absurd z2 y
          · exact absurd z2 y
        · clear m1
          rw [z3] at q2
          rcases q2 with ⟨y, _, _⟩ | ⟨_, y, y2, _⟩ | ⟨_, y, y2, y3, _⟩
          · exact absurd y z2
          · lia
          · lia
      refine k _ _ _ ?_ er
      subst er
      rcases m1 with ⟨n1, m1⟩ | ⟨n1, m1⟩
      · rcases q2 with ⟨_, _, m2⟩ | ⟨_, _, _, m2⟩ | ⟨_, _, _, y, _⟩
        · rw [m2, m1]; exact h
        · rw [m2, m1]; exact h
        · exact absurd y n1
      · rcases q2 with ⟨_, y, _⟩ | ⟨_, _, y, _⟩ | ⟨y1, y2, y3, _, m2⟩
        · rw [n1] at y; exact absurd y (by decide)
        · rw [n1] at y; exact absurd y (by decide)
        · rcases hz.1 with ⟨z1, z2⟩ | ⟨z1, z2, z3, z4⟩
          · exact absurd z2 y1
          · have hs := iv_106 h.1 b
            have h40 := i_lt_to (k := 40) (by decide) (show v2 < 40 by clear m1 m2; lia)
            have h0 := i_ge_to (k := 0) (by decide) y2
            have tn : v2.toNatClampNeg = v2.toInt.toNat := rfl
            have lr : ∀ c, c < 74 ∨ (80 < c ∧ c ≠ 107) → M2 c = M c := fun c hc => by rw [m2, mset_ne (by omega), m1, mset_ne (by omega)]
            refine ⟨i2, ?_, ?_, rt_eq h.2.2.2 (lr 2 (by omega)) (lr 97 (by omega)) (by rw [lr 0 (by omega)]) (by rw [lr 81 (by omega)])⟩
            · rw [m2, mset_ne (by decide), mset_ne (by decide), m1, mset_ne (by omega), mset_ne (by omega)]
              exact h.2.1
            · intro j hj
              have hj' := h.2.2.1 j hj
              refine ⟨?_, fun i hi => ?_⟩
              · rw [m2, mset_ne (by omega), mset_ne (by decide), mset_ne (by decide), m1, mset_ne (by omega), mset_ne (by omega), mset_ne (by omega)]
                exact hj'.1
              · rw [m2, mset_ne (a := 107) (by omega), m1, mset_if, mset_if, tn, ← z4]
                by_cases q : j = b
                · subst q
                  by_cases q2 : i = v2.toInt.toNat
                  · rw [if_pos ⟨rfl, q2⟩, if_pos ⟨rfl, by omega⟩]
                  · rw [if_neg (fun z => q2 z.2), if_neg (fun z => q2 (by omega)), mset_ne (by omega)]
                    exact hj'.2 i hi
                · rw [if_neg (fun z => q (by omega)), if_neg (fun z => q (by omega)), mset_ne (by omega)]
                  exact hj'.2 i hi

theorem pr0_feed {M : MM} {tl : Int64} {v1 : Int64} (h : Rel0 M) {post1 : Int32 → MM → Int64 → Prop} (H : ∀ (r1 : Int32) (M1 : MM) (t1 : Int64), (∀ post2 : Int32 → MM → Int64 → Prop, (∀ (r2 : Int32) (M2 : MM) (t2 : Int64), Rel0 M2 → r1 = r2 → post2 r2 M2 t2) → wpX11_feed post2 M1 t1 v1) → post1 r1 M1 t1) : wpX10_feed post1 M tl v1 := by
  have hI := h.1
  have A := sf_X10_feed (tl := tl) (v1 := v1) (post := fun r M1 _ => Inv M1 ∧ Fr [2] [(1, 1)] M M1 ∧ ((M 1 1 ≤ 392 ∧ r = M 1 1 + 8 ∧ M1 1 1 = M 1 1 + 8) ∨ (392 < M 1 1 ∧ r = -3 ∧ M1 1 1 = M 1 1))) hI (fun r M1 t1 i f q => ⟨i, f, q⟩)
  have B := ft_c (tl := tl) (v := v1) (post := fun _ M1 _ => FT (M 2) (M1 2) (M 1 1) v1) hI (fun _ _ _ q => q)
  refine cj_wpX10_feed (fun r1 M1 t1 x y => H _ _ _ (fun post2 k => ?_)) A B
  obtain ⟨i1, f1, q1⟩ := x
  have A2 := sf_X11_feed (tl := t1) (v1 := v1) (post := fun r M2 _ => Inv M2 ∧ Fr [97] [(81, 31)] M1 M2 ∧ ((M1 81 31 ≤ 392 ∧ r = M1 81 31 + 8 ∧ M2 81 31 = M1 81 31 + 8) ∨ (392 < M1 81 31 ∧ r = -3 ∧ M2 81 31 = M1 81 31))) i1 (fun r M2 t2 i f q => ⟨i, f, q⟩)
  have B2 := ft_r (tl := t1) (v := v1) (post := fun _ M2 _ => FT (M1 97) (M2 97) (M1 81 31) v1) i1 (fun _ _ _ q => q)
  refine cj_wpX11_feed (fun r2 M2 t2 x2 y2 => ?_) A2 B2
  obtain ⟨i2, f2, q2⟩ := x2
  have e1 : M1 81 31 = M 81 31 := f1 81 31 (by decide) (by decide)
  have e2 : M2 1 1 = M1 1 1 := f2 1 1 (by decide) (by decide)
  have e0 := h.2.1
  have hs := rsh_keep h.2.2.1 f1 f2 (by decide)
  have b := iv_1_1 hI
  have z2 : M2 2 = M1 2 := keep_row f2 (by decide) (by decide)
  have z97 : M1 97 = M 97 := keep_row f1 (by decide) (by decide)
  rw [e1, ← e0, z97] at y2
  have t : M1 2 = M2 97 := ft_eq b.1 b.2 y y2 h.2.2.2.1
  refine k _ _ _ ⟨i2, ?_, hs, by rw [z2]; exact t, fun x => ?_, ?_⟩ ?_
  · clear y y2 t hs; lia
  · rw [z2]; exact ft_nn b.1 b.2 y h.2.2.2.2.1 x
  · rw [f2 0 11 (by decide) (by decide), f1 0 11 (by decide) (by decide), f2 81 36 (by decide) (by decide), f1 81 36 (by decide) (by decide)]
    exact h.2.2.2.2.2
  · clear y y2 t hs; lia

/-! ALL OF IT -/
def raC : List Nat := [3, 4, 6, 7, 9, 10, 11, 12, 13, 15, 16, 17, 18, 19, 20, 21, 55, 57, 58, 59, 60, 61, 62, 63, 65, 66, 67, 68, 69, 70, 71]
def raR : List Nat := [82, 83, 84, 85, 86, 87, 88, 89]
def raJ : List Nat := [2, 3, 4, 11, 48]
theorem ra_eq2 {M M1 N N1 : MM} (h : RA M N) (e1 : ∀ a ∈ raC, M1 a = M a) (e2 : M1 0 12 = M 0 12) (e3 : ∀ a ∈ raR, N1 a = N a) (e4 : ∀ j ∈ raJ, N1 81 j = N 81 j) : RA M1 N1 := by
  obtain ⟨h1, h2, h3, h4⟩ := h
  refine ⟨rl_eq h1 (fun a ha => e1 a (by revert ha; revert a; decide)) (fun a ha => e3 a (by revert ha; revert a; decide)) (fun j hj => e4 j (by revert hj; revert j; decide)), ?_, fun k hk => ?_, by rw [e2, e4 48 (by decide)]; exact h4⟩
  · rw [e3 82 (by decide), e4 2 (by decide)]
    exact rsg_m h2 (e1 15 (by decide)) (by rw [e1 16 (by decide)]) (e1 17 (by decide)) (by rw [e1 18 (by decide)]) (e1 19 (by decide)) (by rw [e1 20 (by decide)]) (e1 21 (by decide))
  · have x := h3 k hk
    rw [e3 82 (by decide), e3 83 (by decide), e4 2 (by decide), e1 55 (by decide)]
    refine ⟨x.1, fun z => ?_⟩
    have y := x.2 z
    rcases (by omega : k = 0 ∨ k = 1) with e | e <;> subst e
    · exact rsg_m y (e1 57 (by decide)) (by rw [e1 (56 + 8 * 0 + 2) (by decide)]) (e1 59 (by decide)) (by rw [e1 (56 + 8 * 0 + 4) (by decide)]) (e1 61 (by decide)) (by rw [e1 (56 + 8 * 0 + 6) (by decide)]) (e1 63 (by decide))
    · exact rsg_m y (e1 65 (by decide)) (by rw [e1 (56 + 8 * 1 + 2) (by decide)]) (e1 67 (by decide)) (by rw [e1 (56 + 8 * 1 + 4) (by decide)]) (e1 69 (by decide)) (by rw [e1 (56 + 8 * 1 + 6) (by decide)]) (e1 71 (by decide))
theorem ra_c {I : List Nat} {J : List (Nat × Nat)} {M M1 N : MM} (h : RA M N) (f : Fr I J M M1) (d : offR raC I J ∧ 0 ∉ I ∧ (0, 12) ∉ J) : RA M1 N :=
  ra_eq2 h (fun a ha => keep_row0 f (d.1 a ha).1 (d.1 a ha).2) (f 0 12 d.2.1 d.2.2) (fun _ _ => rfl) (fun _ _ => rfl)
theorem ra_r {I : List Nat} {J : List (Nat × Nat)} {M N N1 : MM} (h : RA M N) (f : Fr I J N N1) (d : offR raR I J ∧ 81 ∉ I ∧ ∀ j ∈ raJ, (81, j) ∉ J) : RA M N1 :=
  ra_eq2 h (fun _ _ => rfl) rfl (fun a ha => keep_row0 f (d.1 a ha).1 (d.1 a ha).2) (fun j hj => f 81 j d.2.1 (d.2.2 j hj))
theorem shk_of {I : List Nat} {J : List (Nat × Nat)} {M M1 : MM} (h : RSh M) (f : Fr I J M M1) (d : offR shrows I J) : ∀ k, k < 4 → ShK M M1 k := by
  intro k hk
  have x := h k hk
  unfold ShK
  rw [keep_row0 f (a := 105) (d 105 (by decide)).1 (d 105 (by decide)).2, keep_row0 f (a := 106) (d 106 (by decide)).1 (d 106 (by decide)).2, keep_row0 f (a := 107) (d 107 (by decide)).1 (d 107 (by decide)).2]
  exact x
def Rel (M : MM) : Prop := Rel0 M ∧ RA M M
theorem rel_text {M : MM} {tl : Int64} (h : Rel M) {post1 : Int32 → MM → Int64 → Prop} (H : ∀ (r1 : Int32) (M1 : MM) (t1 : Int64), (∀ post2 : Int32 → MM → Int64 → Prop, (∀ (r2 : Int32) (M2 : MM) (t2 : Int64), Rel M2 → r1 = r2 → post2 r2 M2 t2) → wpX11_text post2 M1 t1) → post1 r1 M1 t1) : wpX10_text post1 M tl := by
  obtain ⟨h, ra⟩ := h
  have hI := h.1
  refine u_text2 hI h.2.2.2.2.1 (fun r1 M1 t1 i1 f1 z1 g1 kk => H _ _ _ (fun post2 k => ?_))
  have m2 : M1 2 = M 2 := keep_row f1 (by decide) (by decide)
  have m97 : M1 97 = M 97 := keep_row f1 (by decide) (by decide)
  have m31 : M1 81 31 = M 81 31 := f1 81 31 (by decide) (by decide)
  refine kk M1 t1 post2 i1 ⟨by rw [m31]; exact h.2.1, by rw [m97]; exact h.2.2.2.1⟩ (fun N1 t f2 i2 z2 w2 y1 y2 => k _ _ _ ⟨⟨i2, ?_, rsh_keep h.2.2.1 f1 f2 (by decide), ?_, ?_, ?_⟩, ?_⟩ rfl)
  · rw [f2 1 1 (by decide) (by decide), z1, z2]
  · rw [keep_row f2 (a := 2) (by decide) (by decide), keep_row f2 (a := 97) (by decide) (by decide), m2, m97]
    exact h.2.2.2.1
  · intro x
    rw [keep_row f2 (a := 2) (by decide) (by decide), m2]
    exact h.2.2.2.2.1 x
  · rw [w2, f2 0 11 (by decide) (by decide)]
  · by_cases c : M1 0 11 = 0
    · obtain ⟨a1, a2, ⟨a3, a4⟩, a5, a6⟩ := y1 c
      have r1 : RA M1 N1 := ⟨a1, a2, fun k hk => by
        rcases (by omega : k = 0 ∨ k = 1) with e | e <;> subst e
        · exact ⟨by rw [a3, a5], fun z => absurd a3 z⟩
        · exact ⟨by rw [a4, a6], fun z => absurd a4 z⟩, by rw [f2 81 48 (by decide) (by decide), f1 81 48 (by decide) (by decide), f1 0 12 (by decide) (by decide)]; exact ra.2.2.2⟩
      exact ra_c r1 f2 (by decide)
    · exact ra_r (ra_c (ra_r (ra_c ra (g1 c) (by decide)) (g1 c) (by decide)) (y2 c) (by decide)) (y2 c) (by decide)
theorem pr_text {M : MM} {tl : Int64} (h : Rel M) {post1 : Int32 → MM → Int64 → Prop} (H : ∀ (r1 : Int32) (M1 : MM) (t1 : Int64), (∀ post2 : Int32 → MM → Int64 → Prop, (∀ (r2 : Int32) (M2 : MM) (t2 : Int64), Rel M2 → r1 = r2 → post2 r2 M2 t2) → wpX11_text post2 M1 t1 ) → post1 r1 M1 t1) : wpX10_text post1 M tl  := rel_text h H
theorem pr_fault {M : MM} {tl : Int64} (h : Rel M) {post1 : Int32 → MM → Int64 → Prop} (H : ∀ (r1 : Int32) (M1 : MM) (t1 : Int64), (∀ post2 : Int32 → MM → Int64 → Prop, (∀ (r2 : Int32) (M2 : MM) (t2 : Int64), Rel M2 → r1 = r2 → post2 r2 M2 t2) → wpX11_fault post2 M1 t1 ) → post1 r1 M1 t1) : wpX10_fault post1 M tl  := by
  unfold wpX10_fault
  refine H _ _ _ (fun post2 k => ?_)
  unfold wpX11_fault
  exact k _ _ _ h h.1.2.2.2.2.2

theorem pr_feed {M : MM} {tl : Int64} {v1 : Int64} (h : Rel M) {post1 : Int32 → MM → Int64 → Prop} (H : ∀ (r1 : Int32) (M1 : MM) (t1 : Int64), (∀ post2 : Int32 → MM → Int64 → Prop, (∀ (r2 : Int32) (M2 : MM) (t2 : Int64), Rel M2 → r1 = r2 → post2 r2 M2 t2) → wpX11_feed post2 M1 t1 v1) → post1 r1 M1 t1) : wpX10_feed post1 M tl v1 := by
  have A := pr0_feed (tl := tl) (v1 := v1) h.1 (post1 := fun r1 M1 t1 => ∀ post2 : Int32 → MM → Int64 → Prop, (∀ (r2 : Int32) (M2 : MM) (t2 : Int64), Rel0 M2 → r1 = r2 → post2 r2 M2 t2) → wpX11_feed post2 M1 t1 v1) (fun _ _ _ k => k)
  refine cj_wpX10_feed (fun r1 M1 t1 x y => H _ _ _ (fun post2 k => ?_)) A (sf_X10_feed (tl := tl) (v1 := v1) (post := fun _ M1 _ => Inv M1 ∧ Fr [2] [(1, 1)] M M1) h.1.1 (fun _ _ _ i f _ => ⟨i, f⟩))
  obtain ⟨i1, f1⟩ := y
  have A2 := x (fun r2 M2 _ => Rel0 M2 ∧ r1 = r2) (fun _ _ _ a b => ⟨a, b⟩)
  refine cj_wpX11_feed (fun r2 M2 t2 x y => k _ _ _ ⟨x.1, ra_r (ra_c (ra_r (ra_c h.2 f1 (by decide)) f1 (by decide)) y.2 (by decide)) y.2 (by decide)⟩ x.2) A2 (sf_X11_feed (tl := t1) (v1 := v1) (post := fun _ M2 _ => Inv M2 ∧ Fr [97] [(81, 31)] M1 M2) i1 (fun _ _ _ i f _ => ⟨i, f⟩))
theorem pr0_end {M : MM} {tl : Int64} {v1 : Int32} (h : Rel0 M) {post1 : Int32 → MM → Int64 → Prop} (H : ∀ (r1 : Int32) (M1 : MM) (t1 : Int64), (∀ post2 : Int32 → MM → Int64 → Prop, (∀ (r2 : Int32) (M2 : MM) (t2 : Int64), Rel0 M2 → r1 = r2 → post2 r2 M2 t2) → wpX11_end post2 M1 t1 v1) → post1 r1 M1 t1) : wpX10_end post1 M tl v1 := by
  have hI := h.1
  refine sf_X10_end hI (fun r1 M1 t1 i1 f1 q1 => H _ _ _ (fun post2 k => ?_))
  refine sf_X11_end i1 (fun r2 M2 t2 i2 f2 q2 => ?_)
  have e1 : M1 81 31 = M 81 31 := f1 81 31 (by decide) (by decide)
  have e2 : M2 1 1 = M1 1 1 := f2 1 1 (by decide) (by decide)
  have e0 := h.2.1
  have hs := rsh_keep h.2.2.1 f1 f2 (by decide)
  have ht := rt_eq h.2.2.2 (keep2 f1 f2 (R := trows) (by decide) (by decide)) (keep2 f1 f2 (R := trows) (by decide) (by decide)) (by rw [f2 0 11 (by decide) (by decide), f1 0 11 (by decide) (by decide)]) (by rw [f2 81 36 (by decide) (by decide), f1 81 36 (by decide) (by decide)])
  exact k _ _ _ ⟨i2, by clear hs ht; lia, hs, ht⟩ (by lia)
theorem pr_end {M : MM} {tl : Int64} {v1 : Int32} (h : Rel M) {post1 : Int32 → MM → Int64 → Prop} (H : ∀ (r1 : Int32) (M1 : MM) (t1 : Int64), (∀ post2 : Int32 → MM → Int64 → Prop, (∀ (r2 : Int32) (M2 : MM) (t2 : Int64), Rel M2 → r1 = r2 → post2 r2 M2 t2) → wpX11_end post2 M1 t1 v1) → post1 r1 M1 t1) : wpX10_end post1 M tl v1 := by
  have A := pr0_end (tl := tl) (v1 := v1) h.1 (post1 := fun r1 M1 t1 => ∀ post2 : Int32 → MM → Int64 → Prop, (∀ (r2 : Int32) (M2 : MM) (t2 : Int64), Rel0 M2 → r1 = r2 → post2 r2 M2 t2) → wpX11_end post2 M1 t1 v1) (fun _ _ _ k => k)
  refine cj_wpX10_end (fun r1 M1 t1 x y => H _ _ _ (fun post2 k => ?_)) A (sf_X10_end (tl := tl) (v1 := v1) (post := fun _ M1 _ => Inv M1 ∧ Fr [] [(1, 1)] M M1) h.1.1 (fun _ _ _ i f _ => ⟨i, f⟩))
  obtain ⟨i1, f1⟩ := y
  have A2 := x (fun r2 M2 _ => Rel0 M2 ∧ r1 = r2) (fun _ _ _ a b => ⟨a, b⟩)
  refine cj_wpX11_end (fun r2 M2 t2 x y => k _ _ _ ⟨x.1, ra_r (ra_c (ra_r (ra_c h.2 f1 (by decide)) f1 (by decide)) y.2 (by decide)) y.2 (by decide)⟩ x.2) A2 (sf_X11_end (tl := t1) (v1 := v1) (post := fun _ M2 _ => Inv M2 ∧ Fr [] [(81, 31)] M1 M2) i1 (fun _ _ _ i f _ => ⟨i, f⟩))
theorem pr_rule {M : MM} {tl : Int64} {v1 : Int32} (h : Rel M) {post1 : Int32 → MM → Int64 → Prop} (H : ∀ (r1 : Int32) (M1 : MM) (t1 : Int64), (∀ post2 : Int32 → MM → Int64 → Prop, (∀ (r2 : Int32) (M2 : MM) (t2 : Int64), Rel M2 → r1 = r2 → post2 r2 M2 t2) → wpX11_rule post2 M1 t1 v1) → post1 r1 M1 t1) : wpX10_rule post1 M tl v1 := by
  obtain ⟨r1, M1, t1, ⟨i1, f1⟩, w1⟩ := dt_wpX10_rule _ _ _ _ (sf_X10_rule (tl := tl) (v1 := v1) (post := fun _ M1 _ => Inv M1 ∧ Fr [] [] M M1) h.1.1 (fun _ _ => ⟨h.1.1, fr_rfl⟩))
  refine w1 _ (H _ _ _ (fun post2 k => ?_))
  obtain ⟨r2, M2, t2, ⟨i2, f2⟩, w2⟩ := dt_wpX11_rule _ _ _ _ (sf_X11_rule (tl := t1) (v1 := v1) (post := fun _ M2 _ => Inv M2 ∧ Fr [] [] M1 M2) i1 (fun _ _ => ⟨i1, fr_rfl⟩))
  have R1 : RA M M1 := ra_r h.2 f1 (by decide)
  obtain ⟨r, A, _, B, _, ⟨a1, a2⟩, ⟨b1, b2⟩, ra⟩ := pl_rule R1 (w1 (fun r A _ => r = r1 ∧ A = M1) ⟨rfl, rfl⟩) (w2 (fun r B _ => r = r2 ∧ B = M2) ⟨rfl, rfl⟩)
  subst a2 b2
  exact w2 _ (k _ _ _ ⟨rel0_keep h.1 i2 f1 f2 (by decide), ra_c ra f2 (by decide)⟩ (a1.symm.trans b1))
theorem pr_kind {M : MM} {tl : Int64} {v1 : Int32} {v2 : Int32} (h : Rel M) {post1 : Int32 → MM → Int64 → Prop} (H : ∀ (r1 : Int32) (M1 : MM) (t1 : Int64), (∀ post2 : Int32 → MM → Int64 → Prop, (∀ (r2 : Int32) (M2 : MM) (t2 : Int64), Rel M2 → post2 r2 M2 t2) → wpX11_kind post2 M1 t1 v1 v2) → post1 r1 M1 t1) : wpX10_kind post1 M tl v1 v2 := by
  obtain ⟨r1, M1, t1, ⟨i1, f1⟩, w1⟩ := dt_wpX10_kind _ _ _ _ _ (sf_X10_kind (tl := tl) (v1 := v1) (v2 := v2) (post := fun _ M1 _ => Inv M1 ∧ Fr [] [] M M1) h.1.1 (fun _ _ => ⟨h.1.1, fr_rfl⟩))
  refine w1 _ (H _ _ _ (fun post2 k => ?_))
  obtain ⟨r2, M2, t2, ⟨i2, f2⟩, w2⟩ := dt_wpX11_kind _ _ _ _ _ (sf_X11_kind (tl := t1) (v1 := v1) (v2 := v2) (post := fun _ M2 _ => Inv M2 ∧ Fr [] [] M1 M2) i1 (fun _ _ => ⟨i1, fr_rfl⟩))
  exact w2 _ (k _ _ _ ⟨rel0_keep h.1 i2 f1 f2 (by decide), ra_r (ra_c (ra_r (ra_c h.2 f1 (by decide)) f1 (by decide)) f2 (by decide)) f2 (by decide)⟩)
theorem pr_colour {M : MM} {tl : Int64} {v1 : Int32} (h : Rel M) {post1 : Int32 → MM → Int64 → Prop} (H : ∀ (r1 : Int32) (M1 : MM) (t1 : Int64), (∀ post2 : Int32 → MM → Int64 → Prop, (∀ (r2 : Int32) (M2 : MM) (t2 : Int64), Rel M2 → r1 = r2 → post2 r2 M2 t2) → wpX11_colour post2 M1 t1 v1) → post1 r1 M1 t1) : wpX10_colour post1 M tl v1 := by
  obtain ⟨r1, M1, t1, ⟨i1, f1⟩, w1⟩ := dt_wpX10_colour _ _ _ _ (sf_X10_colour (tl := tl) (v1 := v1) (post := fun _ M1 _ => Inv M1 ∧ Fr [] [] M M1) h.1.1 (fun _ _ => ⟨h.1.1, fr_rfl⟩))
  refine w1 _ (H _ _ _ (fun post2 k => ?_))
  obtain ⟨r2, M2, t2, ⟨i2, f2⟩, w2⟩ := dt_wpX11_colour _ _ _ _ (sf_X11_colour (tl := t1) (v1 := v1) (post := fun _ M2 _ => Inv M2 ∧ Fr [] [] M1 M2) i1 (fun _ _ => ⟨i1, fr_rfl⟩))
  have R1 : RA M M1 := ra_r h.2 f1 (by decide)
  obtain ⟨r, A, _, B, _, ⟨a1, a2⟩, ⟨b1, b2⟩, ra⟩ := pl_colour R1 (w1 (fun r A _ => r = r1 ∧ A = M1) ⟨rfl, rfl⟩) (w2 (fun r B _ => r = r2 ∧ B = M2) ⟨rfl, rfl⟩)
  subst a2 b2
  exact w2 _ (k _ _ _ ⟨rel0_keep h.1 i2 f1 f2 (by decide), ra_c ra f2 (by decide)⟩ (a1.symm.trans b1))
theorem pr_mirror {M : MM} {tl : Int64} {v1 : Int32} (h : Rel M) {post1 : Int32 → MM → Int64 → Prop} (H : ∀ (r1 : Int32) (M1 : MM) (t1 : Int64), (∀ post2 : Int32 → MM → Int64 → Prop, (∀ (r2 : Int32) (M2 : MM) (t2 : Int64), Rel M2 → r1 = r2 → post2 r2 M2 t2) → wpX11_mirror post2 M1 t1 v1) → post1 r1 M1 t1) : wpX10_mirror post1 M tl v1 := by
  obtain ⟨r1, M1, t1, ⟨i1, f1⟩, w1⟩ := dt_wpX10_mirror _ _ _ _ (sf_X10_mirror (tl := tl) (v1 := v1) (post := fun _ M1 _ => Inv M1 ∧ Fr [] [] M M1) h.1.1 (fun _ _ => ⟨h.1.1, fr_rfl⟩))
  refine w1 _ (H _ _ _ (fun post2 k => ?_))
  obtain ⟨r2, M2, t2, ⟨i2, f2⟩, w2⟩ := dt_wpX11_mirror _ _ _ _ (sf_X11_mirror (tl := t1) (v1 := v1) (post := fun _ M2 _ => Inv M2 ∧ Fr [] [] M1 M2) i1 (fun _ _ => ⟨i1, fr_rfl⟩))
  have R1 : RA M M1 := ra_r h.2 f1 (by decide)
  obtain ⟨r, A, _, B, _, ⟨a1, a2⟩, ⟨b1, b2⟩, ra⟩ := pl_mirror R1 (w1 (fun r A _ => r = r1 ∧ A = M1) ⟨rfl, rfl⟩) (w2 (fun r B _ => r = r2 ∧ B = M2) ⟨rfl, rfl⟩)
  subst a2 b2
  exact w2 _ (k _ _ _ ⟨rel0_keep h.1 i2 f1 f2 (by decide), ra_c ra f2 (by decide)⟩ (a1.symm.trans b1))
theorem pr_work {M : MM} {tl : Int64} {v1 : Int32} {v2 : Int32} (h : Rel M) {post1 : Int32 → MM → Int64 → Prop} (H : ∀ (r1 : Int32) (M1 : MM) (t1 : Int64), (∀ post2 : Int32 → MM → Int64 → Prop, (∀ (r2 : Int32) (M2 : MM) (t2 : Int64), Rel M2 → r1 = r2 → post2 r2 M2 t2) → wpX11_work post2 M1 t1 v1 v2) → post1 r1 M1 t1) : wpX10_work post1 M tl v1 v2 := by
  obtain ⟨r1, M1, t1, ⟨i1, f1⟩, w1⟩ := dt_wpX10_work _ _ _ _ _ (sf_X10_work (tl := tl) (v1 := v1) (v2 := v2) (post := fun _ M1 _ => Inv M1 ∧ Fr [] [] M M1) h.1.1 (fun _ _ => ⟨h.1.1, fr_rfl⟩))
  refine w1 _ (H _ _ _ (fun post2 k => ?_))
  obtain ⟨r2, M2, t2, ⟨i2, f2⟩, w2⟩ := dt_wpX11_work _ _ _ _ _ (sf_X11_work (tl := t1) (v1 := v1) (v2 := v2) (post := fun _ M2 _ => Inv M2 ∧ Fr [] [] M1 M2) i1 (fun _ _ => ⟨i1, fr_rfl⟩))
  have R1 : RA M M1 := ra_r h.2 f1 (by decide)
  obtain ⟨r, A, _, B, _, ⟨a1, a2⟩, ⟨b1, b2⟩, ra⟩ := pl_work R1 i1 (w1 (fun r A _ => r = r1 ∧ A = M1) ⟨rfl, rfl⟩) (w2 (fun r B _ => r = r2 ∧ B = M2) ⟨rfl, rfl⟩)
  subst a2 b2
  exact w2 _ (k _ _ _ ⟨rel0_keep h.1 i2 f1 f2 (by decide), ra_c ra f2 (by decide)⟩ (a1.symm.trans b1))
theorem pr_thing {M : MM} {tl : Int64} {v1 : Int32} {v2 : Int32} (h : Rel M) {post1 : Int32 → MM → Int64 → Prop} (H : ∀ (r1 : Int32) (M1 : MM) (t1 : Int64), (∀ post2 : Int32 → MM → Int64 → Prop, (∀ (r2 : Int32) (M2 : MM) (t2 : Int64), Rel M2 → r1 = r2 → post2 r2 M2 t2) → wpX11_thing post2 M1 t1 v1 v2) → post1 r1 M1 t1) : wpX10_thing post1 M tl v1 v2 := by
  obtain ⟨r1, M1, t1, ⟨i1, f1⟩, w1⟩ := dt_wpX10_thing _ _ _ _ _ (sf_X10_thing (tl := tl) (v1 := v1) (v2 := v2) (post := fun _ M1 _ => Inv M1 ∧ Fr [] [] M M1) h.1.1 (fun _ _ => ⟨h.1.1, fr_rfl⟩))
  refine w1 _ (H _ _ _ (fun post2 k => ?_))
  obtain ⟨r2, M2, t2, ⟨i2, f2⟩, w2⟩ := dt_wpX11_thing _ _ _ _ _ (sf_X11_thing (tl := t1) (v1 := v1) (v2 := v2) (post := fun _ M2 _ => Inv M2 ∧ Fr [] [] M1 M2) i1 (fun _ _ => ⟨i1, fr_rfl⟩))
  have R1 : RA M M1 := ra_r h.2 f1 (by decide)
  obtain ⟨r, A, _, B, _, ⟨a1, a2⟩, ⟨b1, b2⟩, ra⟩ := pl_thing R1 (w1 (fun r A _ => r = r1 ∧ A = M1) ⟨rfl, rfl⟩) (w2 (fun r B _ => r = r2 ∧ B = M2) ⟨rfl, rfl⟩)
  subst a2 b2
  exact w2 _ (k _ _ _ ⟨rel0_keep h.1 i2 f1 f2 (by decide), ra_c ra f2 (by decide)⟩ (a1.symm.trans b1))
theorem pr_put {M : MM} {tl : Int64} {v1 : Int32} {v2 : Int32} {v3 : Int32} (h : Rel M) {post1 : Int32 → MM → Int64 → Prop} (H : ∀ (r1 : Int32) (M1 : MM) (t1 : Int64), (∀ post2 : Int32 → MM → Int64 → Prop, (∀ (r2 : Int32) (M2 : MM) (t2 : Int64), Rel M2 → r1 = r2 → post2 r2 M2 t2) → wpX11_put post2 M1 t1 v1 v2 v3) → post1 r1 M1 t1) : wpX10_put post1 M tl v1 v2 v3 := by
  obtain ⟨r1, M1, t1, ⟨i1, f1⟩, w1⟩ := dt_wpX10_put _ _ _ _ _ _ (sf_X10_put (tl := tl) (v1 := v1) (v2 := v2) (v3 := v3) (post := fun _ M1 _ => Inv M1 ∧ Fr [15] [] M M1) h.1.1 (fun _ _ _ i f _ => ⟨i, f⟩))
  refine w1 _ (H _ _ _ (fun post2 k => ?_))
  obtain ⟨r2, M2, t2, ⟨i2, f2⟩, w2⟩ := dt_wpX11_put _ _ _ _ _ _ (sf_X11_put (tl := t1) (v1 := v1) (v2 := v2) (v3 := v3) (post := fun _ M2 _ => Inv M2 ∧ Fr [82] [] M1 M2) i1 (fun _ _ _ i f _ => ⟨i, f⟩))
  have R1 : RA M M1 := ra_r h.2 f1 (by decide)
  obtain ⟨r, A, _, B, _, ⟨a1, a2⟩, ⟨b1, b2⟩, ra⟩ := pl_put R1 (w1 (fun r A _ => r = r1 ∧ A = M1) ⟨rfl, rfl⟩) (w2 (fun r B _ => r = r2 ∧ B = M2) ⟨rfl, rfl⟩)
  subst a2 b2
  exact w2 _ (k _ _ _ ⟨rel0_keep h.1 i2 f1 f2 (by decide), ra_c ra f2 (by decide)⟩ (a1.symm.trans b1))
theorem pr_match {M : MM} {tl : Int64} {v1 : Int32} {v2 : Int32} (h : Rel M) {post1 : Int32 → MM → Int64 → Prop} (H : ∀ (r1 : Int32) (M1 : MM) (t1 : Int64), (∀ post2 : Int32 → MM → Int64 → Prop, (∀ (r2 : Int32) (M2 : MM) (t2 : Int64), Rel M2 → r1 = r2 → post2 r2 M2 t2) → wpX11_match post2 M1 t1 v1 v2) → post1 r1 M1 t1) : wpX10_match post1 M tl v1 v2 := by
  obtain ⟨r1, M1, t1, ⟨i1, f1⟩, w1⟩ := dt_wpX10_match _ _ _ _ _ (sf_X10_match (tl := tl) (v1 := v1) (v2 := v2) (post := fun _ M1 _ => Inv M1 ∧ Fr [] [] M M1) h.1.1 (fun _ _ => ⟨h.1.1, fr_rfl⟩))
  refine w1 _ (H _ _ _ (fun post2 k => ?_))
  obtain ⟨r2, M2, t2, ⟨i2, f2⟩, w2⟩ := dt_wpX11_match _ _ _ _ _ (sf_X11_match (tl := t1) (v1 := v1) (v2 := v2) (post := fun _ M2 _ => Inv M2 ∧ Fr [] [] M1 M2) i1 (fun _ _ => ⟨i1, fr_rfl⟩))
  have R1 : RA M M1 := ra_r h.2 f1 (by decide)
  obtain ⟨r, A, _, B, _, ⟨a1, a2⟩, ⟨b1, b2⟩, ra⟩ := pl_match R1 (w1 (fun r A _ => r = r1 ∧ A = M1) ⟨rfl, rfl⟩) (w2 (fun r B _ => r = r2 ∧ B = M2) ⟨rfl, rfl⟩)
  subst a2 b2
  exact w2 _ (k _ _ _ ⟨rel0_keep h.1 i2 f1 f2 (by decide), ra_c ra f2 (by decide)⟩ (a1.symm.trans b1))
theorem pr_odd {M : MM} {tl : Int64} (h : Rel M) {post1 : Int32 → MM → Int64 → Prop} (H : ∀ (r1 : Int32) (M1 : MM) (t1 : Int64), (∀ post2 : Int32 → MM → Int64 → Prop, (∀ (r2 : Int32) (M2 : MM) (t2 : Int64), Rel M2 → r1 = r2 → post2 r2 M2 t2) → wpX11_odd post2 M1 t1 ) → post1 r1 M1 t1) : wpX10_odd post1 M tl  := by
  obtain ⟨r1, M1, t1, ⟨i1, f1⟩, w1⟩ := dt_wpX10_odd _ _ _ (sf_X10_odd (tl := tl) (post := fun _ M1 _ => Inv M1 ∧ Fr [] [] M M1) h.1.1 (fun _ _ => ⟨h.1.1, fr_rfl⟩))
  refine w1 _ (H _ _ _ (fun post2 k => ?_))
  obtain ⟨r2, M2, t2, ⟨i2, f2⟩, w2⟩ := dt_wpX11_odd _ _ _ (sf_X11_odd (tl := t1) (post := fun _ M2 _ => Inv M2 ∧ Fr [98] [] M1 M2) i1 (fun _ _ _ i f _ => ⟨i, f⟩))
  have R1 : RA M M1 := ra_r h.2 f1 (by decide)
  obtain ⟨r, A, _, B, _, ⟨a1, a2⟩, ⟨b1, b2⟩⟩ := pe_odd R1 (w1 (fun r A _ => r = r1 ∧ A = M1) ⟨rfl, rfl⟩) (w2 (fun r B _ => r = r2 ∧ B = M2) ⟨rfl, rfl⟩)
  exact w2 _ (k _ _ _ ⟨rel0_keep h.1 i2 f1 f2 (by decide), ra_r (ra_c (ra_r (ra_c h.2 f1 (by decide)) f1 (by decide)) f2 (by decide)) f2 (by decide)⟩ (a1.symm.trans b1))
theorem pr_third {M : MM} {tl : Int64} {v1 : Int32} (h : Rel M) {post1 : Int32 → MM → Int64 → Prop} (H : ∀ (r1 : Int32) (M1 : MM) (t1 : Int64), (∀ post2 : Int32 → MM → Int64 → Prop, (∀ (r2 : Int32) (M2 : MM) (t2 : Int64), Rel M2 → r1 = r2 → post2 r2 M2 t2) → wpX11_third post2 M1 t1 v1) → post1 r1 M1 t1) : wpX10_third post1 M tl v1 := by
  obtain ⟨r1, M1, t1, ⟨i1, f1⟩, w1⟩ := dt_wpX10_third _ _ _ _ (sf_X10_third (tl := tl) (v1 := v1) (post := fun _ M1 _ => Inv M1 ∧ Fr [] [] M M1) h.1.1 (fun _ _ => ⟨h.1.1, fr_rfl⟩))
  refine w1 _ (H _ _ _ (fun post2 k => ?_))
  obtain ⟨r2, M2, t2, ⟨i2, f2⟩, w2⟩ := dt_wpX11_third _ _ _ _ (sf_X11_third (tl := t1) (v1 := v1) (post := fun _ M2 _ => Inv M2 ∧ Fr [] [] M1 M2) i1 (fun _ _ => ⟨i1, fr_rfl⟩))
  have R1 : RA M M1 := ra_r h.2 f1 (by decide)
  obtain ⟨r, A, _, B, _, ⟨a1, a2⟩, ⟨b1, b2⟩, ra⟩ := pl_third R1 (w1 (fun r A _ => r = r1 ∧ A = M1) ⟨rfl, rfl⟩) (w2 (fun r B _ => r = r2 ∧ B = M2) ⟨rfl, rfl⟩)
  subst a2 b2
  exact w2 _ (k _ _ _ ⟨rel0_keep h.1 i2 f1 f2 (by decide), ra_c ra f2 (by decide)⟩ (a1.symm.trans b1))
theorem pr_after {M : MM} {tl : Int64} {v1 : Int32} {v2 : Int32} {v3 : Int32} (h : Rel M) {post1 : Int32 → MM → Int64 → Prop} (H : ∀ (r1 : Int32) (M1 : MM) (t1 : Int64), (∀ post2 : Int32 → MM → Int64 → Prop, (∀ (r2 : Int32) (M2 : MM) (t2 : Int64), Rel M2 → r1 = r2 → post2 r2 M2 t2) → wpX11_after post2 M1 t1 v1 v2 v3) → post1 r1 M1 t1) : wpX10_after post1 M tl v1 v2 v3 := by
  obtain ⟨r1, M1, t1, ⟨i1, f1⟩, w1⟩ := dt_wpX10_after _ _ _ _ _ _ (sf_X10_after (tl := tl) (v1 := v1) (v2 := v2) (v3 := v3) (post := fun _ M1 _ => Inv M1 ∧ Fr [43, 44, 45, 46, 47] [] M M1) h.1.1 (fun _ _ _ i f _ => ⟨i, f⟩))
  refine w1 _ (H _ _ _ (fun post2 k => ?_))
  obtain ⟨r2, M2, t2, ⟨i2, f2⟩, w2⟩ := dt_wpX11_after _ _ _ _ _ _ (sf_X11_after (tl := t1) (v1 := v1) (v2 := v2) (v3 := v3) (post := fun _ M2 _ => Inv M2 ∧ Fr [98, 99, 100, 101, 102, 103] [] M1 M2) i1 (fun _ _ _ i f _ => ⟨i, f⟩))
  have R1 : RA M M1 := ra_r h.2 f1 (by decide)
  obtain ⟨r, A, _, B, _, ⟨a1, a2⟩, ⟨b1, b2⟩⟩ := pe_after R1 i1 (w1 (fun r A _ => r = r1 ∧ A = M1) ⟨rfl, rfl⟩) (w2 (fun r B _ => r = r2 ∧ B = M2) ⟨rfl, rfl⟩)
  exact w2 _ (k _ _ _ ⟨rel0_keep h.1 i2 f1 f2 (by decide), ra_r (ra_c (ra_r (ra_c h.2 f1 (by decide)) f1 (by decide)) f2 (by decide)) f2 (by decide)⟩ (a1.symm.trans b1))
theorem pr_paid {M : MM} {tl : Int64} {v1 : Int32} {v2 : Int32} (h : Rel M) {post1 : Int32 → MM → Int64 → Prop} (H : ∀ (r1 : Int32) (M1 : MM) (t1 : Int64), (∀ post2 : Int32 → MM → Int64 → Prop, (∀ (r2 : Int32) (M2 : MM) (t2 : Int64), Rel M2 → r1 = r2 → post2 r2 M2 t2) → wpX11_paid post2 M1 t1 v1 v2) → post1 r1 M1 t1) : wpX10_paid post1 M tl v1 v2 := by
  obtain ⟨r1, M1, t1, ⟨i1, f1⟩, w1⟩ := dt_wpX10_paid _ _ _ _ _ (sf_X10_paid (tl := tl) (v1 := v1) (v2 := v2) (post := fun _ M1 _ => Inv M1 ∧ Fr [43, 44, 45, 46, 47] [] M M1) h.1.1 (fun _ _ _ i f _ => ⟨i, f⟩))
  refine w1 _ (H _ _ _ (fun post2 k => ?_))
  obtain ⟨r2, M2, t2, ⟨i2, f2⟩, w2⟩ := dt_wpX11_paid _ _ _ _ _ (sf_X11_paid (tl := t1) (v1 := v1) (v2 := v2) (post := fun _ M2 _ => Inv M2 ∧ Fr [98, 99, 100, 101, 102, 103] [] M1 M2) i1 (fun _ _ _ i f _ => ⟨i, f⟩))
  have R1 : RA M M1 := ra_r h.2 f1 (by decide)
  obtain ⟨r, A, _, B, _, ⟨a1, a2⟩, ⟨b1, b2⟩⟩ := pe_paid R1 i1 (w1 (fun r A _ => r = r1 ∧ A = M1) ⟨rfl, rfl⟩) (w2 (fun r B _ => r = r2 ∧ B = M2) ⟨rfl, rfl⟩)
  exact w2 _ (k _ _ _ ⟨rel0_keep h.1 i2 f1 f2 (by decide), ra_r (ra_c (ra_r (ra_c h.2 f1 (by decide)) f1 (by decide)) f2 (by decide)) f2 (by decide)⟩ (a1.symm.trans b1))
theorem pr_owes {M : MM} {tl : Int64} {v1 : Int32} {v2 : Int32} (h : Rel M) {post1 : Int32 → MM → Int64 → Prop} (H : ∀ (r1 : Int32) (M1 : MM) (t1 : Int64), (∀ post2 : Int32 → MM → Int64 → Prop, (∀ (r2 : Int32) (M2 : MM) (t2 : Int64), Rel M2 → r1 = r2 → post2 r2 M2 t2) → wpX11_owes post2 M1 t1 v1 v2) → post1 r1 M1 t1) : wpX10_owes post1 M tl v1 v2 := by
  obtain ⟨r1, M1, t1, ⟨i1, f1⟩, w1⟩ := dt_wpX10_owes _ _ _ _ _ (sf_X10_owes (tl := tl) (v1 := v1) (v2 := v2) (post := fun _ M1 _ => Inv M1 ∧ Fr [43, 44, 45, 46, 47] [] M M1) h.1.1 (fun _ _ _ i f _ => ⟨i, f⟩))
  refine w1 _ (H _ _ _ (fun post2 k => ?_))
  obtain ⟨r2, M2, t2, ⟨i2, f2⟩, w2⟩ := dt_wpX11_owes _ _ _ _ _ (sf_X11_owes (tl := t1) (v1 := v1) (v2 := v2) (post := fun _ M2 _ => Inv M2 ∧ Fr [98, 99, 100, 101, 102, 103] [] M1 M2) i1 (fun _ _ _ i f _ => ⟨i, f⟩))
  have R1 : RA M M1 := ra_r h.2 f1 (by decide)
  obtain ⟨r, A, _, B, _, ⟨a1, a2⟩, ⟨b1, b2⟩⟩ := pe_owes R1 i1 (w1 (fun r A _ => r = r1 ∧ A = M1) ⟨rfl, rfl⟩) (w2 (fun r B _ => r = r2 ∧ B = M2) ⟨rfl, rfl⟩)
  exact w2 _ (k _ _ _ ⟨rel0_keep h.1 i2 f1 f2 (by decide), ra_r (ra_c (ra_r (ra_c h.2 f1 (by decide)) f1 (by decide)) f2 (by decide)) f2 (by decide)⟩ (a1.symm.trans b1))
theorem pr_fate {M : MM} {tl : Int64} {v1 : Int32} (h : Rel M) {post1 : Int32 → MM → Int64 → Prop} (H : ∀ (r1 : Int32) (M1 : MM) (t1 : Int64), (∀ post2 : Int32 → MM → Int64 → Prop, (∀ (r2 : Int32) (M2 : MM) (t2 : Int64), Rel M2 → r1 = r2 → post2 r2 M2 t2) → wpX11_fate post2 M1 t1 v1) → post1 r1 M1 t1) : wpX10_fate post1 M tl v1 := by
  obtain ⟨r1, M1, t1, ⟨i1, f1⟩, w1⟩ := dt_wpX10_fate _ _ _ _ (sf_X10_fate (tl := tl) (v1 := v1) (post := fun _ M1 _ => Inv M1 ∧ Fr [43, 44, 45, 46, 47] [] M M1) h.1.1 (fun _ _ _ i f _ => ⟨i, f⟩))
  refine w1 _ (H _ _ _ (fun post2 k => ?_))
  obtain ⟨r2, M2, t2, ⟨i2, f2⟩, w2⟩ := dt_wpX11_fate _ _ _ _ (sf_X11_fate (tl := t1) (v1 := v1) (post := fun _ M2 _ => Inv M2 ∧ Fr [98, 99, 100, 101, 102, 103] [] M1 M2) i1 (fun _ _ _ i f _ => ⟨i, f⟩))
  have R1 : RA M M1 := ra_r h.2 f1 (by decide)
  obtain ⟨r, A, _, B, _, ⟨a1, a2⟩, ⟨b1, b2⟩⟩ := pe_fate R1 i1 (w1 (fun r A _ => r = r1 ∧ A = M1) ⟨rfl, rfl⟩) (w2 (fun r B _ => r = r2 ∧ B = M2) ⟨rfl, rfl⟩)
  exact w2 _ (k _ _ _ ⟨rel0_keep h.1 i2 f1 f2 (by decide), ra_r (ra_c (ra_r (ra_c h.2 f1 (by decide)) f1 (by decide)) f2 (by decide)) f2 (by decide)⟩ (a1.symm.trans b1))
theorem pr_uneven {M : MM} {tl : Int64} {v1 : Int32} (h : Rel M) {post1 : Int32 → MM → Int64 → Prop} (H : ∀ (r1 : Int32) (M1 : MM) (t1 : Int64), (∀ post2 : Int32 → MM → Int64 → Prop, (∀ (r2 : Int32) (M2 : MM) (t2 : Int64), Rel M2 → r1 = r2 → post2 r2 M2 t2) → wpX11_uneven post2 M1 t1 v1) → post1 r1 M1 t1) : wpX10_uneven post1 M tl v1 := by
  obtain ⟨r1, M1, t1, ⟨i1, f1⟩, w1⟩ := dt_wpX10_uneven _ _ _ _ (sf_X10_uneven (tl := tl) (v1 := v1) (post := fun _ M1 _ => Inv M1 ∧ Fr [43, 44, 45, 46, 47] [] M M1) h.1.1 (fun _ _ _ i f _ => ⟨i, f⟩))
  refine w1 _ (H _ _ _ (fun post2 k => ?_))
  obtain ⟨r2, M2, t2, ⟨i2, f2⟩, w2⟩ := dt_wpX11_uneven _ _ _ _ (sf_X11_uneven (tl := t1) (v1 := v1) (post := fun _ M2 _ => Inv M2 ∧ Fr [98, 99, 100, 101, 102, 103] [] M1 M2) i1 (fun _ _ _ i f _ => ⟨i, f⟩))
  have R1 : RA M M1 := ra_r h.2 f1 (by decide)
  obtain ⟨r, A, _, B, _, ⟨a1, a2⟩, ⟨b1, b2⟩⟩ := pe_uneven R1 i1 (w1 (fun r A _ => r = r1 ∧ A = M1) ⟨rfl, rfl⟩) (w2 (fun r B _ => r = r2 ∧ B = M2) ⟨rfl, rfl⟩)
  exact w2 _ (k _ _ _ ⟨rel0_keep h.1 i2 f1 f2 (by decide), ra_r (ra_c (ra_r (ra_c h.2 f1 (by decide)) f1 (by decide)) f2 (by decide)) f2 (by decide)⟩ (a1.symm.trans b1))
theorem pr_go {M : MM} {tl : Int64} (h : Rel M) {post1 : Int32 → MM → Int64 → Prop} (H : ∀ (r1 : Int32) (M1 : MM) (t1 : Int64), (∀ post2 : Int32 → MM → Int64 → Prop, (∀ (r2 : Int32) (M2 : MM) (t2 : Int64), Rel M2 → r1 = r2 → post2 r2 M2 t2) → wpX11_go post2 M1 t1 ) → post1 r1 M1 t1) : wpX10_go post1 M tl  := by
  obtain ⟨r1, M1, t1, ⟨i1, f1⟩, w1⟩ := dt_wpX10_go _ _ _ (sf_X10_go (tl := tl) (post := fun _ M1 _ => Inv M1 ∧ Fr [15, 43, 44, 45, 46, 47] [(16, 3)] M M1) h.1.1 (fun _ _ _ i f _ => ⟨i, f⟩))
  refine w1 _ (H _ _ _ (fun post2 k => ?_))
  obtain ⟨r2, M2, t2, ⟨i2, f2⟩, w2⟩ := dt_wpX11_go _ _ _ (sf_X11_go (tl := t1) (post := fun _ M2 _ => Inv M2 ∧ Fr [82, 98, 99, 100, 101, 102, 103] [] M1 M2) i1 (fun _ _ _ i f _ => ⟨i, f⟩))
  have R1 : RA M M1 := ra_r h.2 f1 (by decide)
  obtain ⟨r, A, _, B, _, ⟨a1, a2⟩, ⟨b1, b2⟩, ra⟩ := pl_go R1 i1 (fun r A t z a ha => by rw [z.2]; exact keep_row0 f1 (by intro y; simp at y; omega) (by intro y hy; simp at hy; subst hy; simp; omega)) (fun r A t z a ha => by rw [z.2]; exact keep_row0 f2 (by intro y; simp at y; omega) (by intro y hy; simp at hy)) (w1 (fun r A _ => r = r1 ∧ A = M1) ⟨rfl, rfl⟩) (w2 (fun r B _ => r = r2 ∧ B = M2) ⟨rfl, rfl⟩)
  subst a2 b2
  exact w2 _ (k _ _ _ ⟨rel0_keep h.1 i2 f1 f2 (by decide), ra_c ra f2 (by decide)⟩ (a1.symm.trans b1))
theorem pr_plot {M : MM} {tl : Int64} {v1 : Int32} {v2 : Int32} {v3 : Int32} {v4 : Int32} (h : Rel M) {post1 : Int32 → MM → Int64 → Prop} (H : ∀ (r1 : Int32) (M1 : MM) (t1 : Int64), (∀ post2 : Int32 → MM → Int64 → Prop, (∀ (r2 : Int32) (M2 : MM) (t2 : Int64), Rel M2 → r1 = r2 → post2 r2 M2 t2) → wpX11_plot post2 M1 t1 v1 v2 v3 v4) → post1 r1 M1 t1) : wpX10_plot post1 M tl v1 v2 v3 v4 := by
  obtain ⟨r1, M1, t1, ⟨i1, f1⟩, w1⟩ := dt_wpX10_plot _ _ _ _ _ _ _ (sf_X10_plot (tl := tl) (v1 := v1) (v2 := v2) (v3 := v3) (v4 := v4) (post := fun _ M1 _ => Inv M1 ∧ Fr [17] [(16, 3)] M M1) h.1.1 (fun _ _ _ i f _ => ⟨i, f⟩))
  refine w1 _ (H _ _ _ (fun post2 k => ?_))
  obtain ⟨r2, M2, t2, ⟨i2, f2⟩, w2⟩ := dt_wpX11_plot _ _ _ _ _ _ _ (sf_X11_plot (tl := t1) (v1 := v1) (v2 := v2) (v3 := v3) (v4 := v4) (post := fun _ M2 _ => Inv M2 ∧ Fr [82] [] M1 M2) i1 (fun _ _ _ i f _ => ⟨i, f⟩))
  have R1 : RA M M1 := ra_r h.2 f1 (by decide)
  obtain ⟨r, A, _, B, _, ⟨a1, a2⟩, ⟨b1, b2⟩, ra⟩ := pl_plot R1 i1 (w1 (fun r A _ => r = r1 ∧ A = M1) ⟨rfl, rfl⟩) (w2 (fun r B _ => r = r2 ∧ B = M2) ⟨rfl, rfl⟩)
  subst a2 b2
  exact w2 _ (k _ _ _ ⟨rel0_keep h.1 i2 f1 f2 (by decide), ra_c ra f2 (by decide)⟩ (a1.symm.trans b1))
theorem pr_gain {M : MM} {tl : Int64} {v1 : Int32} {v2 : Int32} {v3 : Int32} (h : Rel M) {post1 : Int32 → MM → Int64 → Prop} (H : ∀ (r1 : Int32) (M1 : MM) (t1 : Int64), (∀ post2 : Int32 → MM → Int64 → Prop, (∀ (r2 : Int32) (M2 : MM) (t2 : Int64), Rel M2 → r1 = r2 → post2 r2 M2 t2) → wpX11_gain post2 M1 t1 v1 v2 v3) → post1 r1 M1 t1) : wpX10_gain post1 M tl v1 v2 v3 := by
  obtain ⟨r1, M1, t1, ⟨i1, f1⟩, w1⟩ := dt_wpX10_gain _ _ _ _ _ _ (sf_X10_gain (tl := tl) (v1 := v1) (v2 := v2) (v3 := v3) (post := fun _ M1 _ => Inv M1 ∧ Fr [] [] M M1) h.1.1 (fun _ _ => ⟨h.1.1, fr_rfl⟩))
  refine w1 _ (H _ _ _ (fun post2 k => ?_))
  obtain ⟨r2, M2, t2, ⟨i2, f2⟩, w2⟩ := dt_wpX11_gain _ _ _ _ _ _ (sf_X11_gain (tl := t1) (v1 := v1) (v2 := v2) (v3 := v3) (post := fun _ M2 _ => Inv M2 ∧ Fr [] [] M1 M2) i1 (fun _ _ => ⟨i1, fr_rfl⟩))
  have R1 : RA M M1 := ra_r h.2 f1 (by decide)
  obtain ⟨r, A, _, B, _, ⟨a1, a2⟩, ⟨b1, b2⟩⟩ := pe_gain R1 (w1 (fun r A _ => r = r1 ∧ A = M1) ⟨rfl, rfl⟩) (w2 (fun r B _ => r = r2 ∧ B = M2) ⟨rfl, rfl⟩)
  exact w2 _ (k _ _ _ ⟨rel0_keep h.1 i2 f1 f2 (by decide), ra_r (ra_c (ra_r (ra_c h.2 f1 (by decide)) f1 (by decide)) f2 (by decide)) f2 (by decide)⟩ (a1.symm.trans b1))
theorem pr_begin {M : MM} {tl : Int64} {v1 : Int32} {v2 : Int32} {v3 : Int32} (h : Rel M) {post1 : Int32 → MM → Int64 → Prop} (H : ∀ (r1 : Int32) (M1 : MM) (t1 : Int64), (∀ post2 : Int32 → MM → Int64 → Prop, (∀ (r2 : Int32) (M2 : MM) (t2 : Int64), Rel M2 → r1 = r2 → post2 r2 M2 t2) → wpX11_begin post2 M1 t1 v1 v2 v3) → post1 r1 M1 t1) : wpX10_begin post1 M tl v1 v2 v3 := by
  obtain ⟨r1, M1, t1, ⟨i1, f1⟩, w1⟩ := dt_wpX10_begin _ _ _ _ _ _ (sf_X10_begin (tl := tl) (v1 := v1) (v2 := v2) (v3 := v3) (post := fun _ M1 _ => Inv M1 ∧ Fr [] [] M M1) h.1.1 (fun _ _ => ⟨h.1.1, fr_rfl⟩))
  refine w1 _ (H _ _ _ (fun post2 k => ?_))
  obtain ⟨r2, M2, t2, ⟨i2, f2⟩, w2⟩ := dt_wpX11_begin _ _ _ _ _ _ (sf_X11_begin (tl := t1) (v1 := v1) (v2 := v2) (v3 := v3) (post := fun _ M2 _ => Inv M2 ∧ Fr [] [] M1 M2) i1 (fun _ _ => ⟨i1, fr_rfl⟩))
  have R1 : RA M M1 := ra_r h.2 f1 (by decide)
  obtain ⟨r, A, _, B, _, ⟨a1, a2⟩, ⟨b1, b2⟩⟩ := pe_begin R1 (w1 (fun r A _ => r = r1 ∧ A = M1) ⟨rfl, rfl⟩) (w2 (fun r B _ => r = r2 ∧ B = M2) ⟨rfl, rfl⟩)
  exact w2 _ (k _ _ _ ⟨rel0_keep h.1 i2 f1 f2 (by decide), ra_r (ra_c (ra_r (ra_c h.2 f1 (by decide)) f1 (by decide)) f2 (by decide)) f2 (by decide)⟩ (a1.symm.trans b1))
theorem pr_waits {M : MM} {tl : Int64} {v1 : Int32} {v2 : Int32} (h : Rel M) {post1 : Int32 → MM → Int64 → Prop} (H : ∀ (r1 : Int32) (M1 : MM) (t1 : Int64), (∀ post2 : Int32 → MM → Int64 → Prop, (∀ (r2 : Int32) (M2 : MM) (t2 : Int64), Rel M2 → r1 = r2 → post2 r2 M2 t2) → wpX11_waits post2 M1 t1 v1 v2) → post1 r1 M1 t1) : wpX10_waits post1 M tl v1 v2 := by
  obtain ⟨r1, M1, t1, ⟨i1, f1⟩, w1⟩ := dt_wpX10_waits _ _ _ _ _ (sf_X10_waits (tl := tl) (v1 := v1) (v2 := v2) (post := fun _ M1 _ => Inv M1 ∧ Fr [] [] M M1) h.1.1 (fun _ _ => ⟨h.1.1, fr_rfl⟩))
  refine w1 _ (H _ _ _ (fun post2 k => ?_))
  obtain ⟨r2, M2, t2, ⟨i2, f2⟩, w2⟩ := dt_wpX11_waits _ _ _ _ _ (sf_X11_waits (tl := t1) (v1 := v1) (v2 := v2) (post := fun _ M2 _ => Inv M2 ∧ Fr [] [] M1 M2) i1 (fun _ _ => ⟨i1, fr_rfl⟩))
  have R1 : RA M M1 := ra_r h.2 f1 (by decide)
  obtain ⟨r, A, _, B, _, ⟨a1, a2⟩, ⟨b1, b2⟩⟩ := pe_waits R1 (w1 (fun r A _ => r = r1 ∧ A = M1) ⟨rfl, rfl⟩) (w2 (fun r B _ => r = r2 ∧ B = M2) ⟨rfl, rfl⟩)
  exact w2 _ (k _ _ _ ⟨rel0_keep h.1 i2 f1 f2 (by decide), ra_r (ra_c (ra_r (ra_c h.2 f1 (by decide)) f1 (by decide)) f2 (by decide)) f2 (by decide)⟩ (a1.symm.trans b1))
theorem pr_vex {M : MM} {tl : Int64} {v1 : Int32} {v2 : Int32} (h : Rel M) {post1 : Int32 → MM → Int64 → Prop} (H : ∀ (r1 : Int32) (M1 : MM) (t1 : Int64), (∀ post2 : Int32 → MM → Int64 → Prop, (∀ (r2 : Int32) (M2 : MM) (t2 : Int64), Rel M2 → r1 = r2 → post2 r2 M2 t2) → wpX11_vex post2 M1 t1 v1 v2) → post1 r1 M1 t1) : wpX10_vex post1 M tl v1 v2 := by
  obtain ⟨r1, M1, t1, ⟨i1, f1⟩, w1⟩ := dt_wpX10_vex _ _ _ _ _ (sf_X10_vex (tl := tl) (v1 := v1) (v2 := v2) (post := fun _ M1 _ => Inv M1 ∧ Fr [] [(48, 0), (48, 1), (48, 2)] M M1) h.1.1 (fun _ _ _ i f _ => ⟨i, f⟩))
  refine w1 _ (H _ _ _ (fun post2 k => ?_))
  obtain ⟨r2, M2, t2, ⟨i2, f2⟩, w2⟩ := dt_wpX11_vex _ _ _ _ _ (sf_X11_vex (tl := t1) (v1 := v1) (v2 := v2) (post := fun _ M2 _ => Inv M2 ∧ Fr [] [] M1 M2) i1 (fun _ _ => ⟨i1, fr_rfl⟩))
  have R1 : RA M M1 := ra_r h.2 f1 (by decide)
  obtain ⟨r, A, _, B, _, ⟨a1, a2⟩, ⟨b1, b2⟩⟩ := pe_vex R1 (w1 (fun r A _ => r = r1 ∧ A = M1) ⟨rfl, rfl⟩) (w2 (fun r B _ => r = r2 ∧ B = M2) ⟨rfl, rfl⟩)
  exact w2 _ (k _ _ _ ⟨rel0_keep h.1 i2 f1 f2 (by decide), ra_r (ra_c (ra_r (ra_c h.2 f1 (by decide)) f1 (by decide)) f2 (by decide)) f2 (by decide)⟩ (a1.symm.trans b1))
theorem pr_want {M : MM} {tl : Int64} {v1 : Int32} {v2 : Int32} (h : Rel M) {post1 : Int32 → MM → Int64 → Prop} (H : ∀ (r1 : Int32) (M1 : MM) (t1 : Int64), (∀ post2 : Int32 → MM → Int64 → Prop, (∀ (r2 : Int32) (M2 : MM) (t2 : Int64), Rel M2 → r1 = r2 → post2 r2 M2 t2) → wpX11_want post2 M1 t1 v1 v2) → post1 r1 M1 t1) : wpX10_want post1 M tl v1 v2 := by
  obtain ⟨r1, M1, t1, ⟨i1, f1⟩, w1⟩ := dt_wpX10_want _ _ _ _ _ (sf_X10_want (tl := tl) (v1 := v1) (v2 := v2) (post := fun _ M1 _ => Inv M1 ∧ Fr [19] [(18, 3)] M M1) h.1.1 (fun _ _ _ i f _ => ⟨i, f⟩))
  refine w1 _ (H _ _ _ (fun post2 k => ?_))
  obtain ⟨r2, M2, t2, ⟨i2, f2⟩, w2⟩ := dt_wpX11_want _ _ _ _ _ (sf_X11_want (tl := t1) (v1 := v1) (v2 := v2) (post := fun _ M2 _ => Inv M2 ∧ Fr [82] [] M1 M2) i1 (fun _ _ _ i f _ => ⟨i, f⟩))
  have R1 : RA M M1 := ra_r h.2 f1 (by decide)
  obtain ⟨r, A, _, B, _, ⟨a1, a2⟩, ⟨b1, b2⟩, ra⟩ := pl_want R1 i1 (w1 (fun r A _ => r = r1 ∧ A = M1) ⟨rfl, rfl⟩) (w2 (fun r B _ => r = r2 ∧ B = M2) ⟨rfl, rfl⟩)
  subst a2 b2
  exact w2 _ (k _ _ _ ⟨rel0_keep h.1 i2 f1 f2 (by decide), ra_c ra f2 (by decide)⟩ (a1.symm.trans b1))
theorem pr_content {M : MM} {tl : Int64} (h : Rel M) {post1 : Int32 → MM → Int64 → Prop} (H : ∀ (r1 : Int32) (M1 : MM) (t1 : Int64), (∀ post2 : Int32 → MM → Int64 → Prop, (∀ (r2 : Int32) (M2 : MM) (t2 : Int64), Rel M2 → r1 = r2 → post2 r2 M2 t2) → wpX11_content post2 M1 t1 ) → post1 r1 M1 t1) : wpX10_content post1 M tl  := by
  obtain ⟨r1, M1, t1, ⟨i1, f1⟩, w1⟩ := dt_wpX10_content _ _ _ (sf_X10_content (tl := tl) (post := fun _ M1 _ => Inv M1 ∧ Fr [] [(18, 3)] M M1) h.1.1 (fun _ _ _ i f _ => ⟨i, f⟩))
  refine w1 _ (H _ _ _ (fun post2 k => ?_))
  obtain ⟨r2, M2, t2, ⟨i2, f2⟩, w2⟩ := dt_wpX11_content _ _ _ (sf_X11_content (tl := t1) (post := fun _ M2 _ => Inv M2 ∧ Fr [82] [] M1 M2) i1 (fun _ _ _ i f _ => ⟨i, f⟩))
  have R1 : RA M M1 := ra_r h.2 f1 (by decide)
  obtain ⟨r, A, _, B, _, ⟨a1, a2⟩, ⟨b1, b2⟩, ra⟩ := pl_content R1 (w1 (fun r A _ => r = r1 ∧ A = M1) ⟨rfl, rfl⟩) (w2 (fun r B _ => r = r2 ∧ B = M2) ⟨rfl, rfl⟩)
  subst a2 b2
  exact w2 _ (k _ _ _ ⟨rel0_keep h.1 i2 f1 f2 (by decide), ra_c ra f2 (by decide)⟩ (a1.symm.trans b1))
theorem pr_plan {M : MM} {tl : Int64} {v1 : Int32} {v2 : Int32} (h : Rel M) {post1 : Int32 → MM → Int64 → Prop} (H : ∀ (r1 : Int32) (M1 : MM) (t1 : Int64), (∀ post2 : Int32 → MM → Int64 → Prop, (∀ (r2 : Int32) (M2 : MM) (t2 : Int64), Rel M2 → post2 r2 M2 t2) → wpX11_plan post2 M1 t1 v1 v2) → post1 r1 M1 t1) : wpX10_plan post1 M tl v1 v2 := by
  obtain ⟨r1, M1, t1, ⟨i1, f1⟩, w1⟩ := dt_wpX10_plan _ _ _ _ _ (sf_X10_plan (tl := tl) (v1 := v1) (v2 := v2) (post := fun _ M1 _ => Inv M1 ∧ Fr [50, 51, 52] [] M M1) h.1.1 (fun _ _ _ i f _ => ⟨i, f⟩))
  refine w1 _ (H _ _ _ (fun post2 k => ?_))
  obtain ⟨r2, M2, t2, ⟨i2, f2⟩, w2⟩ := dt_wpX11_plan _ _ _ _ _ (sf_X11_plan (tl := t1) (v1 := v1) (v2 := v2) (post := fun _ M2 _ => Inv M2 ∧ Fr [104] [] M1 M2) i1 (fun _ _ _ i f _ => ⟨i, f⟩))
  exact w2 _ (k _ _ _ ⟨rel0_keep h.1 i2 f1 f2 (by decide), ra_r (ra_c (ra_r (ra_c h.2 f1 (by decide)) f1 (by decide)) f2 (by decide)) f2 (by decide)⟩)
theorem pr_cannot {M : MM} {tl : Int64} {v1 : Int32} (h : Rel M) {post1 : Int32 → MM → Int64 → Prop} (H : ∀ (r1 : Int32) (M1 : MM) (t1 : Int64), (∀ post2 : Int32 → MM → Int64 → Prop, (∀ (r2 : Int32) (M2 : MM) (t2 : Int64), Rel M2 → r1 = r2 → post2 r2 M2 t2) → wpX11_cannot post2 M1 t1 v1) → post1 r1 M1 t1) : wpX10_cannot post1 M tl v1 := by
  obtain ⟨r1, M1, t1, ⟨i1, f1⟩, w1⟩ := dt_wpX10_cannot _ _ _ _ (sf_X10_cannot (tl := tl) (v1 := v1) (post := fun _ M1 _ => Inv M1 ∧ Fr [] [] M M1) h.1.1 (fun _ _ => ⟨h.1.1, fr_rfl⟩))
  refine w1 _ (H _ _ _ (fun post2 k => ?_))
  obtain ⟨r2, M2, t2, ⟨i2, f2⟩, w2⟩ := dt_wpX11_cannot _ _ _ _ (sf_X11_cannot (tl := t1) (v1 := v1) (post := fun _ M2 _ => Inv M2 ∧ Fr [] [] M1 M2) i1 (fun _ _ => ⟨i1, fr_rfl⟩))
  have R1 : RA M M1 := ra_r h.2 f1 (by decide)
  obtain ⟨r, A, _, B, _, ⟨a1, a2⟩, ⟨b1, b2⟩⟩ := pe_cannot R1 i1 (w1 (fun r A _ => r = r1 ∧ A = M1) ⟨rfl, rfl⟩) (w2 (fun r B _ => r = r2 ∧ B = M2) ⟨rfl, rfl⟩)
  exact w2 _ (k _ _ _ ⟨rel0_keep h.1 i2 f1 f2 (by decide), ra_r (ra_c (ra_r (ra_c h.2 f1 (by decide)) f1 (by decide)) f2 (by decide)) f2 (by decide)⟩ (a1.symm.trans b1))
theorem pr_fire {M : MM} {tl : Int64} {v1 : Int32} {v2 : Int32} {v3 : Int32} (h : Rel M) {post1 : Int32 → MM → Int64 → Prop} (H : ∀ (r1 : Int32) (M1 : MM) (t1 : Int64), (∀ post2 : Int32 → MM → Int64 → Prop, (∀ (r2 : Int32) (M2 : MM) (t2 : Int64), Rel M2 → r1 = r2 → post2 r2 M2 t2) → wpX11_fire post2 M1 t1 v1 v2 v3) → post1 r1 M1 t1) : wpX10_fire post1 M tl v1 v2 v3 := by
  obtain ⟨r1, M1, t1, ⟨i1, f1⟩, w1⟩ := dt_wpX10_fire _ _ _ _ _ _ (sf_X10_fire (tl := tl) (v1 := v1) (v2 := v2) (v3 := v3) (post := fun _ M1 _ => Inv M1 ∧ Fr [] [] M M1) h.1.1 (fun _ _ => ⟨h.1.1, fr_rfl⟩))
  refine w1 _ (H _ _ _ (fun post2 k => ?_))
  obtain ⟨r2, M2, t2, ⟨i2, f2⟩, w2⟩ := dt_wpX11_fire _ _ _ _ _ _ (sf_X11_fire (tl := t1) (v1 := v1) (v2 := v2) (v3 := v3) (post := fun _ M2 _ => Inv M2 ∧ Fr [] [] M1 M2) i1 (fun _ _ => ⟨i1, fr_rfl⟩))
  have R1 : RA M M1 := ra_r h.2 f1 (by decide)
  obtain ⟨r, A, _, B, _, ⟨a1, a2⟩, ⟨b1, b2⟩⟩ := pe_fire R1 (w1 (fun r A _ => r = r1 ∧ A = M1) ⟨rfl, rfl⟩) (w2 (fun r B _ => r = r2 ∧ B = M2) ⟨rfl, rfl⟩)
  exact w2 _ (k _ _ _ ⟨rel0_keep h.1 i2 f1 f2 (by decide), ra_r (ra_c (ra_r (ra_c h.2 f1 (by decide)) f1 (by decide)) f2 (by decide)) f2 (by decide)⟩ (a1.symm.trans b1))
theorem pr_quarrel {M : MM} {tl : Int64} {v1 : Int32} (h : Rel M) {post1 : Int32 → MM → Int64 → Prop} (H : ∀ (r1 : Int32) (M1 : MM) (t1 : Int64), (∀ post2 : Int32 → MM → Int64 → Prop, (∀ (r2 : Int32) (M2 : MM) (t2 : Int64), Rel M2 → r1 = r2 → post2 r2 M2 t2) → wpX11_quarrel post2 M1 t1 v1) → post1 r1 M1 t1) : wpX10_quarrel post1 M tl v1 := by
  obtain ⟨r1, M1, t1, ⟨i1, f1⟩, w1⟩ := dt_wpX10_quarrel _ _ _ _ (sf_X10_quarrel (tl := tl) (v1 := v1) (post := fun _ M1 _ => Inv M1 ∧ Fr [] [] M M1) h.1.1 (fun _ _ => ⟨h.1.1, fr_rfl⟩))
  refine w1 _ (H _ _ _ (fun post2 k => ?_))
  obtain ⟨r2, M2, t2, ⟨i2, f2⟩, w2⟩ := dt_wpX11_quarrel _ _ _ _ (sf_X11_quarrel (tl := t1) (v1 := v1) (post := fun _ M2 _ => Inv M2 ∧ Fr [] [] M1 M2) i1 (fun _ _ => ⟨i1, fr_rfl⟩))
  have R1 : RA M M1 := ra_r h.2 f1 (by decide)
  obtain ⟨r, A, _, B, _, ⟨a1, a2⟩, ⟨b1, b2⟩⟩ := pe_quarrel R1 (w1 (fun r A _ => r = r1 ∧ A = M1) ⟨rfl, rfl⟩) (w2 (fun r B _ => r = r2 ∧ B = M2) ⟨rfl, rfl⟩)
  exact w2 _ (k _ _ _ ⟨rel0_keep h.1 i2 f1 f2 (by decide), ra_r (ra_c (ra_r (ra_c h.2 f1 (by decide)) f1 (by decide)) f2 (by decide)) f2 (by decide)⟩ (a1.symm.trans b1))
theorem pr_bend {M : MM} {tl : Int64} (h : Rel M) {post1 : Int32 → MM → Int64 → Prop} (H : ∀ (r1 : Int32) (M1 : MM) (t1 : Int64), (∀ post2 : Int32 → MM → Int64 → Prop, (∀ (r2 : Int32) (M2 : MM) (t2 : Int64), Rel M2 → r1 = r2 → post2 r2 M2 t2) → wpX11_bend post2 M1 t1 ) → post1 r1 M1 t1) : wpX10_bend post1 M tl  := by
  obtain ⟨r1, M1, t1, ⟨i1, f1⟩, w1⟩ := dt_wpX10_bend _ _ _ (sf_X10_bend (tl := tl) (post := fun _ M1 _ => Inv M1 ∧ Fr [] [] M M1) h.1.1 (fun _ _ => ⟨h.1.1, fr_rfl⟩))
  refine w1 _ (H _ _ _ (fun post2 k => ?_))
  obtain ⟨r2, M2, t2, ⟨i2, f2⟩, w2⟩ := dt_wpX11_bend _ _ _ (sf_X11_bend (tl := t1) (post := fun _ M2 _ => Inv M2 ∧ Fr [] [] M1 M2) i1 (fun _ _ => ⟨i1, fr_rfl⟩))
  have R1 : RA M M1 := ra_r h.2 f1 (by decide)
  obtain ⟨r, A, _, B, _, ⟨a1, a2⟩, ⟨b1, b2⟩⟩ := pe_bend R1 (w1 (fun r A _ => r = r1 ∧ A = M1) ⟨rfl, rfl⟩) (w2 (fun r B _ => r = r2 ∧ B = M2) ⟨rfl, rfl⟩)
  exact w2 _ (k _ _ _ ⟨rel0_keep h.1 i2 f1 f2 (by decide), ra_r (ra_c (ra_r (ra_c h.2 f1 (by decide)) f1 (by decide)) f2 (by decide)) f2 (by decide)⟩ (a1.symm.trans b1))
theorem pr_shops {M : MM} {tl : Int64} {v1 : Int32} {v2 : Int32} (h : Rel M) {post1 : Int32 → MM → Int64 → Prop} (H : ∀ (r1 : Int32) (M1 : MM) (t1 : Int64), (∀ post2 : Int32 → MM → Int64 → Prop, (∀ (r2 : Int32) (M2 : MM) (t2 : Int64), Rel M2 → r1 = r2 → post2 r2 M2 t2) → wpX11_shops post2 M1 t1 v1 v2) → post1 r1 M1 t1) : wpX10_shops post1 M tl v1 v2 := by
  obtain ⟨r1, M1, t1, ⟨i1, f1⟩, w1⟩ := dt_wpX10_shops _ _ _ _ _ (sf_X10_shops (tl := tl) (v1 := v1) (v2 := v2) (post := fun _ M1 _ => Inv M1 ∧ Fr [] [] M M1) h.1.1 (fun _ _ => ⟨h.1.1, fr_rfl⟩))
  refine w1 _ (H _ _ _ (fun post2 k => ?_))
  obtain ⟨r2, M2, t2, ⟨i2, f2⟩, w2⟩ := dt_wpX11_shops _ _ _ _ _ (sf_X11_shops (tl := t1) (v1 := v1) (v2 := v2) (post := fun _ M2 _ => Inv M2 ∧ Fr [] [] M1 M2) i1 (fun _ _ => ⟨i1, fr_rfl⟩))
  have R1 : RA M M1 := ra_r h.2 f1 (by decide)
  obtain ⟨r, A, _, B, _, ⟨a1, a2⟩, ⟨b1, b2⟩⟩ := pe_shops R1 (w1 (fun r A _ => r = r1 ∧ A = M1) ⟨rfl, rfl⟩) (w2 (fun r B _ => r = r2 ∧ B = M2) ⟨rfl, rfl⟩)
  exact w2 _ (k _ _ _ ⟨rel0_keep h.1 i2 f1 f2 (by decide), ra_r (ra_c (ra_r (ra_c h.2 f1 (by decide)) f1 (by decide)) f2 (by decide)) f2 (by decide)⟩ (a1.symm.trans b1))
theorem pr_saw {M : MM} {tl : Int64} {v1 : Int32} {v2 : Int32} {v3 : Int32} {v4 : Int32} (h : Rel M) {post1 : Int32 → MM → Int64 → Prop} (H : ∀ (r1 : Int32) (M1 : MM) (t1 : Int64), (∀ post2 : Int32 → MM → Int64 → Prop, (∀ (r2 : Int32) (M2 : MM) (t2 : Int64), Rel M2 → r1 = r2 → post2 r2 M2 t2) → wpX11_saw post2 M1 t1 v1 v2 v3 v4) → post1 r1 M1 t1) : wpX10_saw post1 M tl v1 v2 v3 v4 := by
  obtain ⟨r1, M1, t1, ⟨i1, f1⟩, w1⟩ := dt_wpX10_saw _ _ _ _ _ _ _ (sf_X10_saw (tl := tl) (v1 := v1) (v2 := v2) (v3 := v3) (v4 := v4) (post := fun _ M1 _ => Inv M1 ∧ Fr [21] [(20, 3)] M M1) h.1.1 (fun _ _ _ i f _ => ⟨i, f⟩))
  refine w1 _ (H _ _ _ (fun post2 k => ?_))
  obtain ⟨r2, M2, t2, ⟨i2, f2⟩, w2⟩ := dt_wpX11_saw _ _ _ _ _ _ _ (sf_X11_saw (tl := t1) (v1 := v1) (v2 := v2) (v3 := v3) (v4 := v4) (post := fun _ M2 _ => Inv M2 ∧ Fr [82] [] M1 M2) i1 (fun _ _ _ i f _ => ⟨i, f⟩))
  have R1 : RA M M1 := ra_r h.2 f1 (by decide)
  obtain ⟨r, A, _, B, _, ⟨a1, a2⟩, ⟨b1, b2⟩, ra⟩ := pl_saw R1 i1 (w1 (fun r A _ => r = r1 ∧ A = M1) ⟨rfl, rfl⟩) (w2 (fun r B _ => r = r2 ∧ B = M2) ⟨rfl, rfl⟩)
  subst a2 b2
  exact w2 _ (k _ _ _ ⟨rel0_keep h.1 i2 f1 f2 (by decide), ra_c ra f2 (by decide)⟩ (a1.symm.trans b1))
theorem pr_forget {M : MM} {tl : Int64} (h : Rel M) {post1 : Int32 → MM → Int64 → Prop} (H : ∀ (r1 : Int32) (M1 : MM) (t1 : Int64), (∀ post2 : Int32 → MM → Int64 → Prop, (∀ (r2 : Int32) (M2 : MM) (t2 : Int64), Rel M2 → r1 = r2 → post2 r2 M2 t2) → wpX11_forget post2 M1 t1 ) → post1 r1 M1 t1) : wpX10_forget post1 M tl  := by
  obtain ⟨r1, M1, t1, ⟨i1, f1⟩, w1⟩ := dt_wpX10_forget _ _ _ (sf_X10_forget (tl := tl) (post := fun _ M1 _ => Inv M1 ∧ Fr [] [(20, 3)] M M1) h.1.1 (fun _ _ _ i f _ => ⟨i, f⟩))
  refine w1 _ (H _ _ _ (fun post2 k => ?_))
  obtain ⟨r2, M2, t2, ⟨i2, f2⟩, w2⟩ := dt_wpX11_forget _ _ _ (sf_X11_forget (tl := t1) (post := fun _ M2 _ => Inv M2 ∧ Fr [82] [] M1 M2) i1 (fun _ _ _ i f _ => ⟨i, f⟩))
  have R1 : RA M M1 := ra_r h.2 f1 (by decide)
  obtain ⟨r, A, _, B, _, ⟨a1, a2⟩, ⟨b1, b2⟩, ra⟩ := pl_forget R1 (w1 (fun r A _ => r = r1 ∧ A = M1) ⟨rfl, rfl⟩) (w2 (fun r B _ => r = r2 ∧ B = M2) ⟨rfl, rfl⟩)
  subst a2 b2
  exact w2 _ (k _ _ _ ⟨rel0_keep h.1 i2 f1 f2 (by decide), ra_c ra f2 (by decide)⟩ (a1.symm.trans b1))
theorem pr_histories {M : MM} {tl : Int64} {v1 : Int32} (h : Rel M) {post1 : Int64 → MM → Int64 → Prop} (H : ∀ (r1 : Int64) (M1 : MM) (t1 : Int64), (∀ post2 : Int64 → MM → Int64 → Prop, (∀ (r2 : Int64) (M2 : MM) (t2 : Int64), Rel M2 → r1 = r2 → post2 r2 M2 t2) → wpX11_histories post2 M1 t1 v1) → post1 r1 M1 t1) : wpX10_histories post1 M tl v1 := by
  obtain ⟨r1, M1, t1, ⟨i1, f1⟩, w1⟩ := dt_wpX10_histories _ _ _ _ (sf_X10_histories (tl := tl) (v1 := v1) (post := fun _ M1 _ => Inv M1 ∧ Fr [] [(53, 0), (53, 1), (53, 2), (53, 3)] M M1) h.1.1 (fun _ _ _ i f _ => ⟨i, f⟩))
  refine w1 _ (H _ _ _ (fun post2 k => ?_))
  obtain ⟨r2, M2, t2, ⟨i2, f2⟩, w2⟩ := dt_wpX11_histories _ _ _ _ (sf_X11_histories (tl := t1) (v1 := v1) (post := fun _ M2 _ => Inv M2 ∧ Fr [] [] M1 M2) i1 (fun _ _ => ⟨i1, fr_rfl⟩))
  have R1 : RA M M1 := ra_r h.2 f1 (by decide)
  obtain ⟨r, A, _, B, _, ⟨a1, a2⟩, ⟨b1, b2⟩⟩ := pe_histories R1 i1 (w1 (fun r A _ => r = r1 ∧ A = M1) ⟨rfl, rfl⟩) (w2 (fun r B _ => r = r2 ∧ B = M2) ⟨rfl, rfl⟩)
  exact w2 _ (k _ _ _ ⟨rel0_keep h.1 i2 f1 f2 (by decide), ra_r (ra_c (ra_r (ra_c h.2 f1 (by decide)) f1 (by decide)) f2 (by decide)) f2 (by decide)⟩ (a1.symm.trans b1))
theorem pr_began {M : MM} {tl : Int64} {v1 : Int32} {v2 : Int32} {v3 : Int32} (h : Rel M) {post1 : Int32 → MM → Int64 → Prop} (H : ∀ (r1 : Int32) (M1 : MM) (t1 : Int64), (∀ post2 : Int32 → MM → Int64 → Prop, (∀ (r2 : Int32) (M2 : MM) (t2 : Int64), Rel M2 → r1 = r2 → post2 r2 M2 t2) → wpX11_began post2 M1 t1 v1 v2 v3) → post1 r1 M1 t1) : wpX10_began post1 M tl v1 v2 v3 := by
  obtain ⟨r1, M1, t1, ⟨i1, f1⟩, w1⟩ := dt_wpX10_began _ _ _ _ _ _ (sf_X10_began (tl := tl) (v1 := v1) (v2 := v2) (v3 := v3) (post := fun _ M1 _ => Inv M1 ∧ Fr [] [(53, 0), (53, 1), (53, 2), (53, 3)] M M1) h.1.1 (fun _ _ _ i f _ => ⟨i, f⟩))
  refine w1 _ (H _ _ _ (fun post2 k => ?_))
  obtain ⟨r2, M2, t2, ⟨i2, f2⟩, w2⟩ := dt_wpX11_began _ _ _ _ _ _ (sf_X11_began (tl := t1) (v1 := v1) (v2 := v2) (v3 := v3) (post := fun _ M2 _ => Inv M2 ∧ Fr [] [] M1 M2) i1 (fun _ _ => ⟨i1, fr_rfl⟩))
  have R1 : RA M M1 := ra_r h.2 f1 (by decide)
  obtain ⟨r, A, _, B, _, ⟨a1, a2⟩, ⟨b1, b2⟩⟩ := pe_began R1 i1 (w1 (fun r A _ => r = r1 ∧ A = M1) ⟨rfl, rfl⟩) (w2 (fun r B _ => r = r2 ∧ B = M2) ⟨rfl, rfl⟩)
  exact w2 _ (k _ _ _ ⟨rel0_keep h.1 i2 f1 f2 (by decide), ra_r (ra_c (ra_r (ra_c h.2 f1 (by decide)) f1 (by decide)) f2 (by decide)) f2 (by decide)⟩ (a1.symm.trans b1))
theorem pr_keep {M : MM} {tl : Int64} {v1 : Int32} (h : Rel M) {post1 : Int32 → MM → Int64 → Prop} (H : ∀ (r1 : Int32) (M1 : MM) (t1 : Int64), (∀ post2 : Int32 → MM → Int64 → Prop, (∀ (r2 : Int32) (M2 : MM) (t2 : Int64), Rel M2 → r1 = r2 → post2 r2 M2 t2) → wpX11_keep post2 M1 t1 v1) → post1 r1 M1 t1) : wpX10_keep post1 M tl v1 := by
  obtain ⟨r1, M1, t1, ⟨i1, f1⟩, w1⟩ := dt_wpX10_keep _ _ _ _ (sf_X10_keep (tl := tl) (v1 := v1) (post := fun _ M1 _ => Inv M1 ∧ Fr [55, 57, 59, 61, 63, 65, 67, 69, 71] [(58, 3), (60, 3), (62, 3), (66, 3), (68, 3), (70, 3)] M M1) h.1.1 (fun _ _ _ i f _ => ⟨i, f⟩))
  refine w1 _ (H _ _ _ (fun post2 k => ?_))
  obtain ⟨r2, M2, t2, ⟨i2, f2⟩, w2⟩ := dt_wpX11_keep _ _ _ _ (sf_X11_keep (tl := t1) (v1 := v1) (post := fun _ M2 _ => Inv M2 ∧ Fr [82, 83] [] M1 M2) i1 (fun _ _ _ i f _ => ⟨i, f⟩))
  have R1 : RA M M1 := ra_r h.2 f1 (by decide)
  obtain ⟨r, A, _, B, _, ⟨a1, a2⟩, ⟨b1, b2⟩, ra⟩ := pl_keep R1 (w1 (fun r A _ => r = r1 ∧ A = M1) ⟨rfl, rfl⟩) (w2 (fun r B _ => r = r2 ∧ B = M2) ⟨rfl, rfl⟩)
  subst a2 b2
  exact w2 _ (k _ _ _ ⟨rel0_keep h.1 i2 f1 f2 (by decide), ra_c ra f2 (by decide)⟩ (a1.symm.trans b1))
theorem pr_back {M : MM} {tl : Int64} {v1 : Int32} (h : Rel M) {post1 : Int32 → MM → Int64 → Prop} (H : ∀ (r1 : Int32) (M1 : MM) (t1 : Int64), (∀ post2 : Int32 → MM → Int64 → Prop, (∀ (r2 : Int32) (M2 : MM) (t2 : Int64), Rel M2 → r1 = r2 → post2 r2 M2 t2) → wpX11_back post2 M1 t1 v1) → post1 r1 M1 t1) : wpX10_back post1 M tl v1 := by
  obtain ⟨r1, M1, t1, ⟨i1, f1⟩, w1⟩ := dt_wpX10_back _ _ _ _ (sf_X10_back (tl := tl) (v1 := v1) (post := fun _ M1 _ => Inv M1 ∧ Fr [15, 17, 19, 21] [(16, 3), (18, 3), (20, 3)] M M1) h.1.1 (fun _ _ _ i f _ => ⟨i, f⟩))
  refine w1 _ (H _ _ _ (fun post2 k => ?_))
  obtain ⟨r2, M2, t2, ⟨i2, f2⟩, w2⟩ := dt_wpX11_back _ _ _ _ (sf_X11_back (tl := t1) (v1 := v1) (post := fun _ M2 _ => Inv M2 ∧ Fr [82] [] M1 M2) i1 (fun _ _ _ i f _ => ⟨i, f⟩))
  have R1 : RA M M1 := ra_r h.2 f1 (by decide)
  obtain ⟨r, A, _, B, _, ⟨a1, a2⟩, ⟨b1, b2⟩, ra⟩ := pl_back R1 (w1 (fun r A _ => r = r1 ∧ A = M1) ⟨rfl, rfl⟩) (w2 (fun r B _ => r = r2 ∧ B = M2) ⟨rfl, rfl⟩)
  subst a2 b2
  exact w2 _ (k _ _ _ ⟨rel0_keep h.1 i2 f1 f2 (by decide), ra_c ra f2 (by decide)⟩ (a1.symm.trans b1))
theorem pr_sheet {M : MM} {tl : Int64} {v1 : Int32} {v2 : Int32} {v3 : Int32} (h : Rel M) {post1 : Int32 → MM → Int64 → Prop} (H : ∀ (r1 : Int32) (M1 : MM) (t1 : Int64), (∀ post2 : Int32 → MM → Int64 → Prop, (∀ (r2 : Int32) (M2 : MM) (t2 : Int64), Rel M2 → r1 = r2 → post2 r2 M2 t2) → wpX11_sheet post2 M1 t1 v1 v2 v3) → post1 r1 M1 t1) : wpX10_sheet post1 M tl v1 v2 v3 := by
  have A := pr0_sheet (tl := tl) (v1 := v1) (v2 := v2) (v3 := v3) h.1 (post1 := fun r1 M1 t1 => ∀ post2 : Int32 → MM → Int64 → Prop, (∀ (r2 : Int32) (M2 : MM) (t2 : Int64), Rel0 M2 → r1 = r2 → post2 r2 M2 t2) → wpX11_sheet post2 M1 t1 v1 v2 v3) (fun _ _ _ k => k)
  refine cj_wpX10_sheet (fun r1 M1 t1 x y => H _ _ _ (fun post2 k => ?_)) A (sf_X10_sheet (tl := tl) (v1 := v1) (v2 := v2) (v3 := v3) (post := fun _ M1 _ => Inv M1 ∧ Fr [74, 76, 78, 80] [(73, 0), (73, 1), (75, 0), (75, 1), (77, 0), (77, 1), (79, 0), (79, 1)] M M1) h.1.1 (fun _ _ _ i f _ => ⟨i, f⟩))
  obtain ⟨i1, f1⟩ := y
  have A2 := x (fun r2 M2 _ => Rel0 M2 ∧ r1 = r2) (fun _ _ _ a b => ⟨a, b⟩)
  refine cj_wpX11_sheet (fun r2 M2 t2 x y => k _ _ _ ⟨x.1, ra_r (ra_c (ra_r (ra_c h.2 f1 (by decide)) f1 (by decide)) y.2 (by decide)) y.2 (by decide)⟩ x.2) A2 (sf_X11_sheet (tl := t1) (v1 := v1) (v2 := v2) (v3 := v3) (post := fun _ M2 _ => Inv M2 ∧ Fr [105, 106, 107] [] M1 M2) i1 (fun _ _ _ i f _ => ⟨i, f⟩))
theorem pr_lay {M : MM} {tl : Int64} {v1 : Int32} {v2 : Int32} {v3 : Int32} (h : Rel M) {post1 : Int32 → MM → Int64 → Prop} (H : ∀ (r1 : Int32) (M1 : MM) (t1 : Int64), (∀ post2 : Int32 → MM → Int64 → Prop, (∀ (r2 : Int32) (M2 : MM) (t2 : Int64), Rel M2 → r1 = r2 → post2 r2 M2 t2) → wpX11_lay post2 M1 t1 v1 v2 v3) → post1 r1 M1 t1) : wpX10_lay post1 M tl v1 v2 v3 := by
  have A := pr0_lay (tl := tl) (v1 := v1) (v2 := v2) (v3 := v3) h.1 (post1 := fun r1 M1 t1 => ∀ post2 : Int32 → MM → Int64 → Prop, (∀ (r2 : Int32) (M2 : MM) (t2 : Int64), Rel0 M2 → r1 = r2 → post2 r2 M2 t2) → wpX11_lay post2 M1 t1 v1 v2 v3) (fun _ _ _ k => k)
  refine cj_wpX10_lay (fun r1 M1 t1 x y => H _ _ _ (fun post2 k => ?_)) A (sf_X10_lay (tl := tl) (v1 := v1) (v2 := v2) (v3 := v3) (post := fun _ M1 _ => Inv M1 ∧ Fr [74, 76, 78, 80] [] M M1) h.1.1 (fun _ _ _ i f _ => ⟨i, f⟩))
  obtain ⟨i1, f1⟩ := y
  have A2 := x (fun r2 M2 _ => Rel0 M2 ∧ r1 = r2) (fun _ _ _ a b => ⟨a, b⟩)
  refine cj_wpX11_lay (fun r2 M2 t2 x y => k _ _ _ ⟨x.1, ra_r (ra_c (ra_r (ra_c h.2 f1 (by decide)) f1 (by decide)) y.2 (by decide)) y.2 (by decide)⟩ x.2) A2 (sf_X11_lay (tl := t1) (v1 := v1) (v2 := v2) (v3 := v3) (post := fun _ M2 _ => Inv M2 ∧ Fr [107] [] M1 M2) i1 (fun _ _ _ i f _ => ⟨i, f⟩))
theorem pr_read {M : MM} {tl : Int64} {v1 : Int32} {v2 : Int32} {v3 : Int32} {v4 : Int32} (h : Rel M) {post1 : Int32 → MM → Int64 → Prop} (H : ∀ (r1 : Int32) (M1 : MM) (t1 : Int64), (∀ post2 : Int32 → MM → Int64 → Prop, (∀ (r2 : Int32) (M2 : MM) (t2 : Int64), Rel M2 → r1 = r2 → post2 r2 M2 t2) → wpX11_read post2 M1 t1 v1 v2 v3 v4) → post1 r1 M1 t1) : wpX10_read post1 M tl v1 v2 v3 v4 := by
  obtain ⟨r1, M1, t1, ⟨i1, f1⟩, w1⟩ := dt_wpX10_read _ _ _ _ _ _ _ (sf_X10_read (tl := tl) (v1 := v1) (v2 := v2) (v3 := v3) (v4 := v4) (post := fun _ M1 _ => Inv M1 ∧ Fr [15] [(0, 12)] M M1) h.1.1 (fun _ _ _ i f _ => ⟨i, f⟩))
  refine w1 _ (H _ _ _ (fun post2 k => ?_))
  obtain ⟨r2, M2, t2, ⟨i2, f2⟩, w2⟩ := dt_wpX11_read _ _ _ _ _ _ _ (sf_X11_read (tl := t1) (v1 := v1) (v2 := v2) (v3 := v3) (v4 := v4) (post := fun _ M2 _ => Inv M2 ∧ Fr [82] [(81, 48)] M1 M2) i1 (fun _ _ _ i f _ => ⟨i, f⟩))
  have R1 : RA M M1 := ra_r h.2 f1 (by decide)
  obtain ⟨r, A, _, B, _, ⟨a1, a2⟩, ⟨b1, b2⟩, ra⟩ := pl_read R1 h.1.1 (shk_of h.1.2.2.1 f1 (by decide)) (w1 (fun r A _ => r = r1 ∧ A = M1) ⟨rfl, rfl⟩) (w2 (fun r B _ => r = r2 ∧ B = M2) ⟨rfl, rfl⟩)
  subst a2 b2
  exact w2 _ (k _ _ _ ⟨rel0_keep h.1 i2 f1 f2 (by decide), ra_c ra f2 (by decide)⟩ (a1.symm.trans b1))
theorem pr_torn {M : MM} {tl : Int64} (h : Rel M) {post1 : Int32 → MM → Int64 → Prop} (H : ∀ (r1 : Int32) (M1 : MM) (t1 : Int64), (∀ post2 : Int32 → MM → Int64 → Prop, (∀ (r2 : Int32) (M2 : MM) (t2 : Int64), Rel M2 → r1 = r2 → post2 r2 M2 t2) → wpX11_torn post2 M1 t1 ) → post1 r1 M1 t1) : wpX10_torn post1 M tl  := by
  obtain ⟨r1, M1, t1, ⟨i1, f1⟩, w1⟩ := dt_wpX10_torn _ _ _ (sf_X10_torn (tl := tl) (post := fun _ M1 _ => Inv M1 ∧ Fr [] [] M M1) h.1.1 (fun _ _ => ⟨h.1.1, fr_rfl⟩))
  refine w1 _ (H _ _ _ (fun post2 k => ?_))
  obtain ⟨r2, M2, t2, ⟨i2, f2⟩, w2⟩ := dt_wpX11_torn _ _ _ (sf_X11_torn (tl := t1) (post := fun _ M2 _ => Inv M2 ∧ Fr [] [] M1 M2) i1 (fun _ _ => ⟨i1, fr_rfl⟩))
  have R1 : RA M M1 := ra_r h.2 f1 (by decide)
  obtain ⟨r, A, _, B, _, ⟨a1, a2⟩, ⟨b1, b2⟩, ra⟩ := pl_torn R1 (w1 (fun r A _ => r = r1 ∧ A = M1) ⟨rfl, rfl⟩) (w2 (fun r B _ => r = r2 ∧ B = M2) ⟨rfl, rfl⟩)
  subst a2 b2
  exact w2 _ (k _ _ _ ⟨rel0_keep h.1 i2 f1 f2 (by decide), ra_c ra f2 (by decide)⟩ (a1.symm.trans b1))
theorem pr_count {M : MM} {tl : Int64} {v1 : Int32} (h : Rel M) {post1 : Int32 → MM → Int64 → Prop} (H : ∀ (r1 : Int32) (M1 : MM) (t1 : Int64), (∀ post2 : Int32 → MM → Int64 → Prop, (∀ (r2 : Int32) (M2 : MM) (t2 : Int64), Rel M2 → r1 = r2 → post2 r2 M2 t2) → wpX11_count post2 M1 t1 v1) → post1 r1 M1 t1) : wpX10_count post1 M tl v1 := by
  obtain ⟨r1, M1, t1, ⟨i1, f1⟩, w1⟩ := dt_wpX10_count _ _ _ _ (sf_X10_count (tl := tl) (v1 := v1) (post := fun _ M1 _ => Inv M1 ∧ Fr [] [] M M1) h.1.1 (fun _ _ => ⟨h.1.1, fr_rfl⟩))
  refine w1 _ (H _ _ _ (fun post2 k => ?_))
  obtain ⟨r2, M2, t2, ⟨i2, f2⟩, w2⟩ := dt_wpX11_count _ _ _ _ (sf_X11_count (tl := t1) (v1 := v1) (post := fun _ M2 _ => Inv M2 ∧ Fr [] [] M1 M2) i1 (fun _ _ => ⟨i1, fr_rfl⟩))
  have R1 : RA M M1 := ra_r h.2 f1 (by decide)
  obtain ⟨r, A, _, B, _, ⟨a1, a2⟩, ⟨b1, b2⟩⟩ := pe_count R1 (shk_of h.1.2.2.1 f1 (by decide)) (h.1.2.1.trans (f1 81 31 (by decide) (by decide)).symm) (w1 (fun r A _ => r = r1 ∧ A = M1) ⟨rfl, rfl⟩) (w2 (fun r B _ => r = r2 ∧ B = M2) ⟨rfl, rfl⟩)
  exact w2 _ (k _ _ _ ⟨rel0_keep h.1 i2 f1 f2 (by decide), ra_r (ra_c (ra_r (ra_c h.2 f1 (by decide)) f1 (by decide)) f2 (by decide)) f2 (by decide)⟩ (a1.symm.trans b1))
