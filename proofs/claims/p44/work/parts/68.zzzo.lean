/-! ROWS AND SCENES, read off their formulas -/
theorem ixW : ∀ W, W < 5 → ∀ n, n < 13 → ∀ c, c < 4 → nI n * nI W + nI c = nI (W * n + c) := by decide +kernel
section RW0
variable {p : Int32 → MM → Int64 → Prop} {M N : MM} {tl u : Int64}
theorem el_cell {a W w c : Nat} (hW : wd a = W) (hW4 : W < 5) (hc : c < W) (hw : w < 13) (h : wpX5_cell p M tl a (nI w) (nI c)) : (nI w < M a 3 → p (M (a + 1) (W * w + c)) M tl) ∧ (¬ nI w < M a 3 → p 0 M tl) := by
  unfold wpX5_cell at h
  have w0 := nJ_ge0 (i := w) (by omega)
  have c0 := nJ_ge0 (i := c) (by omega)
  have h := (iq (show ¬ nI w < 0 by lia) h).2
  refine ⟨fun q => ?_, fun q => ip (show M a 3 ≤ nI w by lia) h⟩
  have h := (iq (show ¬ nI c < 0 by lia) (iq (show ¬ M a 3 ≤ nI w by lia) h)).2
  rw [hW] at h
  have h := (ip ((kI_lt (by omega) (by omega)).mpr hc) h).2.2.2.2
  rw [ixW W hW4 w hw c (by omega), tn_nI (by have : W * w ≤ 4 * 12 := Nat.mul_le_mul (by omega) (by omega); omega)] at h
  exact h
end RW0
section RW1
variable {p : MM → Int64 → Prop} {M N : MM} {tl u : Int64}
theorem el_setCell {a W n c : Nat} {v : Int32} (hW : wd a = W) (hW4 : W < 5) (hn : n < 13) (hc : c < 4) (h : wpX5_setCell p M tl a (nI n) (nI c) v) : (c < W → p (mset M (a + 1) (W * n + c) v) tl) ∧ (¬ c < W → p M tl) := by
  unfold wpX5_setCell at h
  rw [hW] at h
  refine ⟨fun q => ?_, fun q => ip ((kI_le (by omega) (by omega)).mpr (by omega)) h.2⟩
  have h := (iq (fun z => absurd ((kI_le (by omega) (by omega)).mp z) (by omega)) h.2).2.2.2.2 _ rfl
  rw [ixW W hW4 n hn c (by omega), tn_nI (by have : W * n ≤ 4 * 12 := Nat.mul_le_mul (by omega) (by omega); omega)] at h
  exact h
def row4 (M : MM) (a n : Nat) (v1 v2 v3 v4 : Int32) : MM := mset (mset (mset (mset (mset M a 3 (nI (n + 1))) (a + 1) (4 * n) v1) (a + 1) (4 * n + 1) v2) (a + 1) (4 * n + 2) v3) (a + 1) (4 * n + 3) v4
def row2 (M : MM) (a n : Nat) (v1 v2 : Int32) : MM := mset (mset (mset M a 3 (nI (n + 1))) (a + 1) (2 * n) v1) (a + 1) (2 * n + 1) v2
theorem el_addRow4 {a n : Nat} {v1 v2 v3 v4 : Int32} (ha : al a = 12 ∧ wd a = 4) (hn : n < 12) (e : M a 3 = nI n) (h : wpX5_addRow p M tl a v1 v2 v3 v4) : p (row4 M a n v1 v2 v3 v4) tl := by
  unfold wpX5_addRow wpX5_isFull at h
  have h := i00 (ip (show M a 3 < nI (al a) by rw [e, ha.1]; exact (kI_lt (by omega) (by omega)).mpr hn) h.2.2.2)
  have h := (h.2.2.2 _ rfl).2
  rw [e, nI_s1] at h
  have h := ((el_setCell (c := 0) ha.2 (by omega) (by omega) (by omega) h).1 (by omega)).2
  have h := ((el_setCell (c := 1) ha.2 (by omega) (by omega) (by omega) h).1 (by omega)).2
  have h := ((el_setCell (c := 2) ha.2 (by omega) (by omega) (by omega) h).1 (by omega)).2
  exact (el_setCell (c := 3) ha.2 (by omega) (by omega) (by omega) h).1 (by omega)
theorem el_addRow2 {a n : Nat} {v1 v2 v3 v4 : Int32} (ha : al a = 6 ∧ wd a = 2) (hn : n < 6) (e : M a 3 = nI n) (h : wpX5_addRow p M tl a v1 v2 v3 v4) : p (row2 M a n v1 v2) tl := by
  unfold wpX5_addRow wpX5_isFull at h
  have h := i00 (ip (show M a 3 < nI (al a) by rw [e, ha.1]; exact (kI_lt (by omega) (by omega)).mpr hn) h.2.2.2)
  have h := (h.2.2.2 _ rfl).2
  rw [e, nI_s1] at h
  have h := ((el_setCell (c := 0) ha.2 (by omega) (by omega) (by omega) h).1 (by omega)).2
  have h := ((el_setCell (c := 1) ha.2 (by omega) (by omega) (by omega) h).1 (by omega)).2
  have h := ((el_setCell (c := 2) ha.2 (by omega) (by omega) (by omega) h).2 (by omega)).2
  exact (el_setCell (c := 3) ha.2 (by omega) (by omega) (by omega) h).2 (by omega)
theorem el_setThing {a : Nat} {b i v : Int32} (h : wpX7_setThing p M tl a b i v) : (¬ ((0 ≤ b ∧ b < 2) ∧ 0 ≤ i ∧ i < 8) → p M tl) ∧ (∀ c j, c < 2 → j < 8 → b = nI c → i = nI j → p (mset M (a + 1) (8 * c + j) v) tl) := by
  unfold wpX7_setThing at h
  have g := el_isSlot h
  refine ⟨fun c => i00 (g.2 c), fun c j hc hj eb ei => ?_⟩
  subst eb ei
  have h := (i10 (g.1 ⟨bb2 hc, nJ_ge0 (by omega), (kI_lt (b := 8) (by omega) (by omega)).mpr hj⟩)).2
  unfold wpX10_slot at h
  have h := h.2.2 _ rfl
  rw [sl_c c hc j hj, tn_nI (by omega)] at h
  exact h
end RW1
theorem keep_row0 {I : List Nat} {J : List (Nat × Nat)} {M M1 : MM} (f : Fr I J M M1) {a : Nat} (h1 : a ∉ I) (h2 : ∀ p ∈ J, p.1 ≠ a) : M1 a = M a := funext fun j => f a j h1 (fun q => h2 _ q rfl)
/-- a scene: the class's at a; the reference's numbers g, its lots L -/
def RSg (M : MM) (a : Nat) (g : Nat → Int32) (L : Int32) : Prop := (∀ s, s < 16 → M (a + 1) s = g s ∧ TT (g s)) ∧ (M (a + 2) 3 = g 16 ∧ ∀ w, w < 12 → nI w < g 16 → (∀ c, c < 4 → M (a + 3) (4 * w + c) = g (17 + (4 * w + c))) ∧ TT (g (17 + (4 * w + 3))) ∧ g (17 + (4 * w + 2)) < L) ∧ (M (a + 4) 3 = g 65 ∧ ∀ w, w < 6 → nI w < g 65 → (∀ c, c < 2 → M (a + 5) (2 * w + c) = g (66 + (2 * w + c))) ∧ 1 ≤ g (66 + (2 * w + 1))) ∧ (M (a + 6) 3 = g 78 ∧ ∀ w, w < 12 → nI w < g 78 → ∀ c, c < 4 → M (a + 7) (4 * w + c) = g (79 + (4 * w + c)))
theorem rsg_g {M : MM} {a : Nat} {g g1 : Nat → Int32} {L : Int32} (h : RSg M a g L) (e : ∀ j, j < 127 → g1 j = g j) : RSg M a g1 L := by
  obtain ⟨h1, ⟨h2, h3⟩, ⟨h4, h5⟩, h6, h7⟩ := h
  refine ⟨fun s hs => by rw [e s (by omega)]; exact h1 s hs, ⟨by rw [e 16 (by omega)]; exact h2, fun w hw y => ?_⟩, ⟨by rw [e 65 (by omega)]; exact h4, fun w hw y => ?_⟩, by rw [e 78 (by omega)]; exact h6, fun w hw y c hc => ?_⟩
  · rw [e 16 (by omega)] at y
    have x := h3 w hw y
    rw [e (17 + (4 * w + 3)) (by omega), e (17 + (4 * w + 2)) (by omega)]
    exact ⟨fun c hc => by rw [e (17 + (4 * w + c)) (by omega)]; exact x.1 c hc, x.2⟩
  · rw [e 65 (by omega)] at y
    have x := h5 w hw y
    rw [e (66 + (2 * w + 1)) (by omega)]
    exact ⟨fun c hc => by rw [e (66 + (2 * w + c)) (by omega)]; exact x.1 c hc, x.2⟩
  · rw [e 78 (by omega)] at y
    rw [e (79 + (4 * w + c)) (by omega)]
    exact h7 w hw y c hc
/-- M1's scene at a is M's at b -/
def CS (M : MM) (b : Nat) (M1 : MM) (a : Nat) : Prop := (∀ s, s < 16 → M1 (a + 1) s = M (b + 1) s) ∧ (M1 (a + 2) 3 = M (b + 2) 3 ∧ ∀ j, j < 48 → M1 (a + 3) j = M (b + 3) j) ∧ (M1 (a + 4) 3 = M (b + 4) 3 ∧ ∀ j, j < 12 → M1 (a + 5) j = M (b + 5) j) ∧ (M1 (a + 6) 3 = M (b + 6) 3 ∧ ∀ j, j < 48 → M1 (a + 7) j = M (b + 7) j)
theorem rsg_cs {M M1 : MM} {a b : Nat} {g : Nat → Int32} {L : Int32} (h : RSg M b g L) (c : CS M b M1 a) : RSg M1 a g L := by
  obtain ⟨h1, ⟨h2, h3⟩, ⟨h4, h5⟩, h6, h7⟩ := h
  obtain ⟨c1, ⟨c2, c3⟩, ⟨c4, c5⟩, c6, c7⟩ := c
  exact ⟨fun s hs => by rw [c1 s hs]; exact h1 s hs, ⟨by rw [c2]; exact h2, fun w hw y => ⟨fun c hc => by rw [c3 _ (by omega)]; exact (h3 w hw y).1 c hc, (h3 w hw y).2⟩⟩, ⟨by rw [c4]; exact h4, fun w hw y => ⟨fun c hc => by rw [c5 _ (by omega)]; exact (h5 w hw y).1 c hc, (h5 w hw y).2⟩⟩, by rw [c6]; exact h6, fun w hw y c hc => by rw [c7 _ (by omega)]; exact h7 w hw y c hc⟩
theorem rsg_m {M M1 : MM} {a : Nat} {g : Nat → Int32} {L : Int32} (h : RSg M a g L) (e1 : M1 (a + 1) = M (a + 1)) (e2 : M1 (a + 2) 3 = M (a + 2) 3) (e3 : M1 (a + 3) = M (a + 3)) (e4 : M1 (a + 4) 3 = M (a + 4) 3) (e5 : M1 (a + 5) = M (a + 5)) (e6 : M1 (a + 6) 3 = M (a + 6) 3) (e7 : M1 (a + 7) = M (a + 7)) : RSg M1 a g L :=
  rsg_cs h ⟨fun s _ => by rw [e1], ⟨e2, fun j _ => by rw [e3]⟩, ⟨e4, fun j _ => by rw [e5]⟩, e6, fun j _ => by rw [e7]⟩
def cpR (M : MM) (a b L : Nat) : MM := mrow (mset M a 3 (M b 3)) (a + 1) (va_cpy (mset M a 3 (M b 3) (b + 1)) (mset M a 3 (M b 3) (a + 1)) 0 0 L)
theorem cpR_0 {M : MM} {a b L : Nat} : cpR M a b L a 3 = M b 3 := by
  unfold cpR
  rw [mrow_ne (by omega), mset_at]
theorem cpR_1 {M : MM} {a b L j : Nat} (h : b + 1 ≠ a) (hj : j < L) : cpR M a b L (a + 1) j = M (b + 1) j := by
  unfold cpR
  rw [mrow_same, pk_cpy_in (by omega) (by omega), mset_ne h, Nat.sub_zero, Nat.zero_add]
theorem cpR_2 {M : MM} {a b L c : Nat} (h1 : c ≠ a) (h2 : c ≠ a + 1) : cpR M a b L c = M c := by
  unfold cpR
  rw [mrow_ne h2, mset_ne h1]
theorem el_copyRows {p : MM → Int64 → Prop} {M : MM} {tl : Int64} {a b L : Nat} (h1 : al (a + 1) = L) (h2 : al (b + 1) = L) (hL : L < 1000) (h : wpX5_copyFrom p M tl a b) : p (cpR M a b L) tl := by
  unfold wpX5_copyFrom at h
  have h := (h.2.2 _ rfl).2.2.2.2.2.2.2.2.2.2.2 _ rfl
  rw [h1, h2, if_neg (fun z => absurd ((kI_lt (by omega) (by omega)).mp z) (by omega)), tn_nI hL] at h
  exact h
theorem el_copyScene {p : MM → Int64 → Prop} {M : MM} {tl : Int64} {a b : Nat} (hd : a + 8 ≤ b ∨ b + 8 ≤ a) (ha : al (a + 3) = 48 ∧ al (a + 5) = 12 ∧ al (a + 7) = 48) (hb : al (b + 3) = 48 ∧ al (b + 5) = 12 ∧ al (b + 7) = 48) (h : wpX7_copyFrom p M tl a b) : ∃ M1, p M1 tl ∧ CS M b M1 a := by
  unfold wpX7_copyFrom at h
  have h := (h.2.2.2.2.2.2 _ rfl).2.2.2
  have h := (el_copyRows (L := 48) ha.1 hb.1 (by omega) h).2.2.2
  have h := (el_copyRows (L := 12) ha.2.1 hb.2.1 (by omega) h).2.2.2
  have h := el_copyRows (L := 48) ha.2.2 hb.2.2 (by omega) h
  refine ⟨_, h, ?_, ⟨?_, ?_⟩, ⟨?_, ?_⟩, ?_, ?_⟩
  · intro s hs
    rw [cpR_2 (by omega) (by omega), cpR_2 (by omega) (by omega), cpR_2 (by omega) (by omega), mrow_same]
    exact sb_cpy0 hs
  · rw [cpR_2 (by omega) (by omega), cpR_2 (by omega) (by omega), cpR_0, mrow_ne (by omega)]
  · intro j hj
    rw [cpR_2 (c := a + 3) (by omega) (by omega), cpR_2 (c := a + 3) (by omega) (by omega)]
    rw [show a + 3 = a + 2 + 1 from rfl, cpR_1 (by omega) hj, mrow_ne (by omega)]
  · rw [cpR_2 (by omega) (by omega), cpR_0, cpR_2 (by omega) (by omega), mrow_ne (by omega)]
  · intro j hj
    rw [cpR_2 (c := a + 5) (by omega) (by omega)]
    rw [show a + 5 = a + 4 + 1 from rfl, cpR_1 (by omega) hj, cpR_2 (by omega) (by omega), mrow_ne (by omega)]
  · rw [cpR_0, cpR_2 (by omega) (by omega), cpR_2 (by omega) (by omega), mrow_ne (by omega)]
  · intro j hj
    rw [show a + 7 = a + 6 + 1 from rfl, cpR_1 (by omega) hj, cpR_2 (by omega) (by omega), cpR_2 (by omega) (by omega), mrow_ne (by omega)]
/-- TTC: THINGS that the class's reader has -/
def TTC (M : MM) : Prop := (∀ s, s < 16 → TT (M 35 s)) ∧ (∀ w, w < 12 → nI w < M 36 3 → TT (M 37 (4 * w + 3))) ∧ M 38 3 = 0 ∧ M 40 3 = 0
theorem ttc_eq {M M1 : MM} (h : TTC M) (e1 : M1 35 = M 35) (e2 : M1 36 3 = M 36 3) (e3 : M1 37 = M 37) (e4 : M1 38 3 = M 38 3) (e5 : M1 40 3 = M 40 3) : TTC M1 := by
  unfold TTC
  rw [e1, e2, e3, e4, e5]
  exact h
theorem ttc_fr {I : List Nat} {J : List (Nat × Nat)} {M M1 : MM} (h : TTC M) (f : Fr I J M M1) (d : (35 ∉ I ∧ 36 ∉ I ∧ 37 ∉ I ∧ 38 ∉ I ∧ 40 ∉ I) ∧ (∀ q ∈ J, q.1 ≠ 35 ∧ q.1 ≠ 37) ∧ (36, 3) ∉ J ∧ (38, 3) ∉ J ∧ (40, 3) ∉ J) : TTC M1 :=
  ttc_eq h (keep_row0 f d.1.1 (fun q hq => (d.2.1 q hq).1)) (f 36 3 d.1.2.1 d.2.2.1) (keep_row0 f d.1.2.2.1 (fun q hq => (d.2.1 q hq).2)) (f 38 3 d.1.2.2.2.1 d.2.2.2.1) (f 40 3 d.1.2.2.2.2 d.2.2.2.2)
