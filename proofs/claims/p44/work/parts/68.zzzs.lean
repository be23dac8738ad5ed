/-! WHAT A TEXT THAT IS TAKEN LEAVES, on both sides -/
theorem nar0 : vp_nar .boolean 0 = 0 := by decide
theorem nar1 : vp_nar .boolean 1 = 1 := by decide
theorem mod6 : ∀ i, i < 12 → ((nI i - nI i / 6 * 6 = 0) ↔ i % 6 = 0) := by decide +kernel
theorem shl0 : ∀ t, t < 6 → (0 : Int32) <<< (nI t &&& 31) = 0 := by decide
section KD0
variable {p : MM → Int64 → Prop} {u : Int64}
theorem kd_173 : ∀ (n i : Nat) (N : MM), i ≤ 6 → (∀ k, k < 6 → ∃ t, t < 6 ∧ N 95 k = nI t) → wX11_keepDraft_173 p n N u (nI i) → (∀ k, k < i → N 88 k = N 95 k) → (∀ j, j < 6 → (bI (N 81 11) j = true ↔ (bI (N 81 22) j = true ∨ ∃ k, k < i ∧ bI (N 81 22) k = true ∧ N 95 k = nI j))) → ∃ N1, p N1 u ∧ (∀ a, a ≠ 88 → a ≠ 81 → a ≠ 83 → N1 a = N a) ∧ (∀ j, j ≠ 11 → N1 81 j = N 81 j) ∧ (∀ k, k < 6 → N1 88 k = N 95 k) ∧ (∀ j, j < 6 → (bI (N1 81 11) j = true ↔ (bI (N 81 22) j = true ∨ ∃ k, k < 6 ∧ bI (N 81 22) k = true ∧ N 95 k = nI j))) ∧ N1 83 0 = 0 ∧ N1 83 1 = 0 := by
  intro n
  induction n with
  | zero => intro i N _ _ h; exact h.elim
  | succ n ih =>
    intro i N hi ht h h1 h2
    unfold wX11_keepDraft_173 at h
    by_cases q : (6 : Int32) ≤ nI i
    · have e : i = 6 := by
        have := (kI_le (a := 6) (by omega) (by omega)).mp q
        omega
      subst e
      replace h := (ip q h).2 _ rfl
      replace h := h.2 _ rfl
      refine ⟨_, h, fun a _ _ z => ?_, fun j _ => ?_, fun k hk => ?_, fun j hj => ?_, ?_, ?_⟩
      · rw [mset_ne z, mset_ne z]
      · rw [mset_ne (by decide), mset_ne (by decide)]
      · rw [mset_ne (by decide), mset_ne (by decide)]; exact h1 k hk
      · rw [mset_ne (by decide), mset_ne (by decide)]; exact h2 j hj
      · rw [mset_nk (by decide)]
        exact (mset_at _ _ _ _).trans nar0
      · exact (mset_at _ _ _ _).trans nar0
    · have h := (iq q h).2.2 _ rfl
      have h := h.2 _ rfl
      have hi6 : i < 6 := by
        rcases Nat.lt_or_ge i 6 with z | z
        · exact z
        · exact absurd ((kI_le (a := 6) (by omega) (by omega)).mpr z) q
      obtain ⟨t, ht6, et⟩ := ht i hi6
      rw [nI_s1, tn_nI (by omega)] at h
      generalize eW : mset (mset N 88 i (N 95 i)) 81 11 ((mset N 88 i (N 95 i)) 81 11 ||| ((((mset N 88 i (N 95 i)) 81 22 >>> (nI i &&& 31)) &&& 1) <<< ((mset N 88 i (N 95 i)) 95 i &&& 31))) = W at h
      have w95 : W 95 = N 95 := by rw [← eW, mset_ne (by decide), mset_ne (by decide)]
      have w81 : ∀ j, j ≠ 11 → W 81 j = N 81 j := fun j hj => by rw [← eW, mset_nk hj, mset_ne (by decide)]
      have w88 : ∀ k, k < i + 1 → W 88 k = N 95 k := fun k hk => by
        rw [← eW, mset_ne (by decide), mset_if]
        by_cases z : k = i
        · rw [if_pos ⟨rfl, z⟩, z]
        · rw [if_neg (fun y => z y.2)]; exact h1 k (by omega)
      have w11 : W 81 11 = N 81 11 ||| (((N 81 22 >>> (nI i &&& 31)) &&& 1) <<< (nI t &&& 31)) := by
        rw [← eW, mset_at, mset_ne (by decide), mset_ne (by decide), et]
      have wb : ∀ j, j < 6 → (bI (W 81 11) j = true ↔ (bI (N 81 11) j = true ∨ (bI (N 81 22) i = true ∧ j = t))) := fun j hj => by
        have t1 := bI_test (N 81 22) (k := i) (by omega)
        have t2 := bI_one (N 81 22) (k := i) (by omega)
        rw [w11]
        rcases b1v (N 81 22) i with z | z
        · rw [z, shl0 t ht6]
          have e0 : N 81 11 ||| 0 = N 81 11 := by simp
          rw [e0, t1.mp z]
          simp
        · rw [z, bI_or _ (by omega) (by omega), t2.mp z]
          simp
      obtain ⟨N1, g1, g2, g3, g4, g5, g6⟩ := ih (i + 1) W (by omega) (by rw [w95]; exact ht) h (by rw [w95]; exact w88) (fun j hj => by
        rw [wb j hj, h2 j hj, w95, w81 22 (by decide)]
        constructor
        · rintro ((z | ⟨k, hk, z⟩) | ⟨z1, z2⟩)
          · exact Or.inl z
          · exact Or.inr ⟨k, by omega, z⟩
          · exact Or.inr ⟨i, by omega, z1, by rw [et, z2]⟩
        · rintro (z | ⟨k, hk, z1, z2⟩)
          · exact Or.inl (Or.inl z)
          · by_cases y : k = i
            · subst y
              refine Or.inr ⟨z1, ?_⟩
              rw [et] at z2
              exact (kI_inj (by omega) (by omega) z2).symm
            · exact Or.inl (Or.inr ⟨k, by omega, z1, z2⟩))
      rw [w95, w81 22 (by decide)] at g5
      rw [w95] at g4
      refine ⟨N1, g1, fun a z1 z2 z3 => ?_, fun j hj => ?_, g4, g5, g6⟩
      · rw [g2 a z1 z2 z3, ← eW, mset_ne z2, mset_ne z1]
      · rw [g3 j hj]; exact w81 j hj
theorem kd_89 : ∀ (n i : Nat) (N : MM), i ≤ 12 → wX11_keepDraft_89 p n N u (nI i) → (∀ k, k < i → N 85 k = (if k % 6 = 0 then N 81 15 else N 92 k) ∧ N 86 k = N 93 k) → ∃ N1, (∀ a, a ≠ 85 → a ≠ 86 → N1 a = N a) ∧ (∀ k, k < 12 → N1 85 k = (if k % 6 = 0 then N 81 15 else N 92 k) ∧ N1 86 k = N 93 k) ∧ ∃ m, wX11_keepDraft_173 p m (mset (mset (mset N1 87 0 (N1 94 0)) 87 1 (N1 94 1)) 81 11 (N1 81 22)) u 0 := by
  intro n
  induction n with
  | zero => intro i N _ h; exact h.elim
  | succ n ih =>
    intro i N hi h h1
    unfold wX11_keepDraft_89 at h
    by_cases q : (12 : Int32) ≤ nI i
    · have e : i = 12 := by
        have := (kI_le (a := 12) (by omega) (by omega)).mp q
        omega
      subst e
      replace h := (ip q h).2.2 _ rfl
      replace h := h.2.2 _ rfl _ rfl
      refine ⟨N, fun _ _ _ => rfl, h1, ?_⟩
      exact h
    · have h := iq q h
      have hi12 : i < 12 := by
        rcases Nat.lt_or_ge i 12 with z | z
        · exact z
        · exact absurd ((kI_le (a := 12) (by omega) (by omega)).mpr z) q
      have fin : ∀ s2 : Int32, s2 = (if i % 6 = 0 then N 81 15 else N 92 i) → wX11_keepDraft_120 p (wX11_keepDraft_89 p n) N u (nI i) (nI i) s2 → ∃ N1, (∀ a, a ≠ 85 → a ≠ 86 → N1 a = N a) ∧ (∀ k, k < 12 → N1 85 k = (if k % 6 = 0 then N 81 15 else N 92 k) ∧ N1 86 k = N 93 k) ∧ ∃ m, wX11_keepDraft_173 p m (mset (mset (mset N1 87 0 (N1 94 0)) 87 1 (N1 94 1)) 81 11 (N1 81 22)) u 0 := by
        intro s2 hs h
        unfold wX11_keepDraft_120 at h
        have h := (h.2 _ rfl).2.2 _ rfl
        rw [nI_s1, tn_nI (by omega)] at h
        obtain ⟨N1, g1, g2, g3⟩ := ih (i + 1) _ (by omega) h (fun k hk => by
          rw [mset_ne (a := 86) (by decide), mset_ne (a := 86) (i := 81) (by decide), mset_ne (a := 85) (i := 81) (by decide), mset_ne (a := 86) (i := 92) (by decide), mset_ne (a := 85) (i := 92) (by decide), mset_ne (a := 86) (i := 93) (by decide), mset_ne (a := 85) (i := 93) (by decide)]
          by_cases z : k = i
          · subst z
            rw [mset_at, mset_at]
            exact ⟨hs, rfl⟩
          · rw [mset_nk z, mset_nk z, mset_ne (by decide)]
            exact h1 k (by omega))
        refine ⟨N1, fun a z1 z2 => by rw [g1 a z1 z2, mset_ne z2, mset_ne z1], fun k hk => ?_, g3⟩
        have := g2 k hk
        rw [mset_ne (a := 86) (i := 81) (by decide), mset_ne (a := 85) (i := 81) (by decide), mset_ne (a := 86) (i := 92) (by decide), mset_ne (a := 85) (i := 92) (by decide), mset_ne (a := 86) (i := 93) (by decide), mset_ne (a := 85) (i := 93) (by decide)] at this
        exact this
      by_cases y : i % 6 = 0
      · exact fin _ (by rw [if_pos y]) (ip ((mod6 i hi12).mpr y) h)
      · have h := (iq (fun z => y ((mod6 i hi12).mp z)) h).2
        rw [tn_nI (by omega)] at h
        exact fin _ (by rw [if_neg y]) h
theorem kd_52 : ∀ (n i : Nat) (N : MM), i ≤ 4 → wX11_keepDraft_52 p n N u (nI i) → (∀ q, q < i → N 84 q = N 91 q ∧ N 89 q = N 96 q) → ∃ N1, (∀ a, a ≠ 84 → a ≠ 89 → N1 a = N a) ∧ (∀ q, q < 4 → N1 84 q = N 91 q ∧ N1 89 q = N 96 q) ∧ ∃ m, wX11_keepDraft_89 p m N1 u 0 := by
  intro n
  induction n with
  | zero => intro i N _ h; exact h.elim
  | succ n ih =>
    intro i N hi h h1
    unfold wX11_keepDraft_52 at h
    by_cases q : (4 : Int32) ≤ nI i
    · have h := ip q h
      have e : i = 4 := by
        have := (kI_le (a := 4) (by omega) (by omega)).mp q
        omega
      subst e
      exact ⟨N, fun _ _ _ => rfl, h1, h⟩
    · have h := (iq q h).2.2 _ rfl
      have h := h.2.2 _ rfl
      have hi4 : i < 4 := by
        rcases Nat.lt_or_ge i 4 with z | z
        · exact z
        · exact absurd ((kI_le (a := 4) (by omega) (by omega)).mpr z) q
      rw [nI_s1, tn_nI (by omega)] at h
      obtain ⟨N1, g1, g2, g3⟩ := ih (i + 1) _ (by omega) h (fun k hk => by
        rw [mset_ne (a := 89) (i := 84) (by decide), mset_ne (a := 89) (i := 91) (by decide), mset_ne (a := 84) (i := 91) (by decide), mset_ne (a := 89) (i := 96) (by decide), mset_ne (a := 84) (i := 96) (by decide)]
        by_cases z : k = i
        · subst z
          rw [mset_at, mset_at]
          exact ⟨rfl, rfl⟩
        · rw [mset_nk z, mset_nk z, mset_ne (by decide)]
          exact h1 k (by omega))
      refine ⟨N1, fun a z1 z2 => by rw [g1 a z1 z2, mset_ne z2, mset_ne z1], fun k hk => ?_, g3⟩
      have := g2 k hk
      rw [mset_ne (a := 89) (i := 91) (by decide), mset_ne (a := 84) (i := 91) (by decide), mset_ne (a := 89) (i := 96) (by decide), mset_ne (a := 84) (i := 96) (by decide)] at this
      exact this
theorem kd_2 : ∀ (n i : Nat) (N : MM), i ≤ 127 → wX11_keepDraft_2 p n N u (nI i) → (∀ j, j < i → N 82 j = N 90 j) → ∃ N1, (∀ a, a ≠ 82 → N1 a = N a) ∧ (∀ j, j < 127 → N1 82 j = N 90 j) ∧ ∃ m, wX11_keepDraft_52 p m (mset (mset (mset N1 81 2 (N1 81 13)) 81 3 (N1 81 14)) 81 4 (N1 81 15)) u 0 := by
  intro n
  induction n with
  | zero => intro i N _ h; exact h.elim
  | succ n ih =>
    intro i N hi h h1
    unfold wX11_keepDraft_2 at h
    by_cases q : (127 : Int32) ≤ nI i
    · have e : i = 127 := by
        have := (kI_le (a := 127) (by omega) (by omega)).mp q
        omega
      subst e
      replace h := ip q h _ rfl _ rfl _ rfl
      exact ⟨N, fun _ _ => rfl, h1, h⟩
    · have h := (iq q h).2.2 _ rfl
      have hi4 : i < 127 := by
        rcases Nat.lt_or_ge i 127 with z | z
        · exact z
        · exact absurd ((kI_le (a := 127) (by omega) (by omega)).mpr z) q
      rw [nI_s1, tn_nI (by omega)] at h
      obtain ⟨N1, g1, g2, g3⟩ := ih (i + 1) _ (by omega) h (fun k hk => by
        rw [mset_ne (a := 82) (i := 90) (by decide)]
        by_cases z : k = i
        · subst z
          rw [mset_at]
        · rw [mset_nk z]
          exact h1 k (by omega))
      refine ⟨N1, fun a z1 => by rw [g1 a z1, mset_ne z1], fun k hk => ?_, g3⟩
      have := g2 k hk
      rw [mset_ne (a := 82) (i := 90) (by decide)] at this
      exact this
/-- the draft is kept -/
def KD (N N1 : MM) : Prop := (∀ j, j < 127 → N1 82 j = N 90 j) ∧ (N1 81 2 = N 81 13 ∧ N1 81 3 = N 81 14 ∧ N1 81 4 = N 81 15) ∧ (∀ q, q < 4 → N1 84 q = N 91 q ∧ N1 89 q = N 96 q) ∧ (∀ k, k < 12 → N1 85 k = (if k % 6 = 0 then N 81 15 else N 92 k) ∧ N1 86 k = N 93 k) ∧ (N1 87 0 = N 94 0 ∧ N1 87 1 = N 94 1) ∧ (∀ k, k < 6 → N1 88 k = N 95 k) ∧ (∀ j, j < 6 → (bI (N1 81 11) j = true ↔ (bI (N 81 22) j = true ∨ ∃ k, k < 6 ∧ bI (N 81 22) k = true ∧ N 95 k = nI j))) ∧ N1 83 0 = 0 ∧ N1 83 1 = 0
theorem el_keepDraft {N : MM} (hI : Inv N) (h : wpX11_keepDraft p N u) : ∃ N1, p N1 u ∧ KD N N1 := by
  unfold wpX11_keepDraft at h
  obtain ⟨n, h⟩ := h
  obtain ⟨A, a1, a2, n, h⟩ := kd_2 n 0 N (by omega) h (fun j hj => absurd hj (by omega))
  generalize eB : mset (mset (mset A 81 2 (A 81 13)) 81 3 (A 81 14)) 81 4 (A 81 15) = B at h
  have bne : ∀ a, a ≠ 81 → a ≠ 82 → B a = N a := fun a z1 z2 => by rw [← eB, mset_ne z1, mset_ne z1, mset_ne z1, a1 a z2]
  have b81 : ∀ j, j ≠ 2 → j ≠ 3 → j ≠ 4 → B 81 j = N 81 j := fun j z1 z2 z3 => by rw [← eB, mset_nk z3, mset_nk z2, mset_nk z1, a1 81 (by decide)]
  have b82 : B 82 = A 82 := by rw [← eB, mset_ne (by decide), mset_ne (by decide), mset_ne (by decide)]
  have b2 : B 81 2 = N 81 13 ∧ B 81 3 = N 81 14 ∧ B 81 4 = N 81 15 := by
    rw [← a1 81 (by decide), ← eB]
    exact ⟨rfl, rfl, rfl⟩
  obtain ⟨C, c1, c2, n, h⟩ := kd_52 n 0 B (by omega) h (fun j hj => absurd hj (by omega))
  obtain ⟨E, e1, e2, n, h⟩ := kd_89 n 0 C (by omega) h (fun j hj => absurd hj (by omega))
  generalize eF : mset (mset (mset E 87 0 (E 94 0)) 87 1 (E 94 1)) 81 11 (E 81 22) = F at h
  have k81 : ∀ j, j ≠ 11 → F 81 j = B 81 j := fun j z => by rw [← eF, mset_nk z, mset_ne (by decide), mset_ne (by decide), e1 81 (by decide) (by decide), c1 81 (by decide) (by decide)]
  have kne : ∀ a, a ≠ 81 → a ≠ 87 → F a = E a := fun a z1 z2 => by rw [← eF, mset_ne z1, mset_ne z2, mset_ne z2]
  have k95 : F 95 = N 95 := by rw [kne 95 (by decide) (by decide), e1 95 (by decide) (by decide), c1 95 (by decide) (by decide), bne 95 (by decide) (by decide)]
  have k22 : F 81 22 = N 81 22 := by rw [k81 22 (by decide), b81 22 (by decide) (by decide) (by decide)]
  have k11 : F 81 11 = N 81 22 := by
    rw [← eF, mset_at, e1 81 (by decide) (by decide), c1 81 (by decide) (by decide), b81 22 (by decide) (by decide) (by decide)]
  obtain ⟨G, g0, g1, g2, g3, g4, g5⟩ := kd_173 n 0 F (by omega) (fun k hk => by
    rw [k95]
    have b := iv_95 hI k
    exact cdN 6 (by omega) b.1 (show _ < (6 : Int32) by lia)) h (fun j hj => absurd hj (by omega)) (fun j hj => by
    rw [k11, k22]
    constructor
    · exact Or.inl
    · rintro (z | ⟨k, hk, _⟩)
      · exact z
      · exact absurd hk (by omega))
  refine ⟨G, g0, fun j hj => ?_, ⟨?_, ?_, ?_⟩, fun q hq => ?_, fun k hk => ?_, ⟨?_, ?_⟩, fun k hk => ?_, fun j hj => ?_, g5⟩
  · rw [g1 82 (by decide) (by decide) (by decide), kne 82 (by decide) (by decide), e1 82 (by decide) (by decide), c1 82 (by decide) (by decide), b82]; exact a2 j hj
  · rw [g2 2 (by decide), k81 2 (by decide)]; exact b2.1
  · rw [g2 3 (by decide), k81 3 (by decide)]; exact b2.2.1
  · rw [g2 4 (by decide), k81 4 (by decide)]; exact b2.2.2
  · rw [g1 84 (by decide) (by decide) (by decide), kne 84 (by decide) (by decide), e1 84 (by decide) (by decide), g1 89 (by decide) (by decide) (by decide), kne 89 (by decide) (by decide), e1 89 (by decide) (by decide), ← bne 91 (by decide) (by decide), ← bne 96 (by decide) (by decide)]
    exact c2 q hq
  · rw [g1 85 (by decide) (by decide) (by decide), kne 85 (by decide) (by decide), g1 86 (by decide) (by decide) (by decide), kne 86 (by decide) (by decide)]
    have := e2 k hk
    rw [c1 81 (by decide) (by decide), c1 92 (by decide) (by decide), c1 93 (by decide) (by decide), b81 15 (by decide) (by decide) (by decide), bne 92 (by decide) (by decide), bne 93 (by decide) (by decide)] at this
    exact this
  · rw [g1 87 (by decide) (by decide) (by decide), ← eF, mset_ne (by decide), mset_nk (by decide), mset_at, e1 94 (by decide) (by decide), c1 94 (by decide) (by decide), bne 94 (by decide) (by decide)]
  · rw [g1 87 (by decide) (by decide) (by decide), ← eF, mset_ne (by decide), mset_at, e1 94 (by decide) (by decide), c1 94 (by decide) (by decide), bne 94 (by decide) (by decide)]
  · rw [g3 k hk, k95]
  · have := g4 j hj
    rw [k22, k95] at this
    exact this
/-- the class's law is the reader's -/
def CL (M M1 : MM) : Prop := (M1 3 0 = M 23 0 ∧ M1 3 1 = M 23 1 ∧ M1 3 2 = M 23 2 ∧ M1 3 3 = M 23 3) ∧ (∀ q, q < 4 → M1 4 q = M 24 q) ∧ (∀ k, k < 6 → M1 6 k = M 26 k ∧ M1 7 k = M 27 k) ∧ (∀ k, k < 6 → M1 9 k = M 29 k ∧ M1 10 k = M 30 k) ∧ (∀ b, b < 2 → M1 11 b = M 31 b) ∧ (∀ k, k < 6 → M1 12 k = M 32 k) ∧ (∀ c, c < 4 → M1 13 c = M 33 c)
theorem el_copyLaw {M : MM} (h : wpX1_copyFrom p M u 3 23) : ∃ M1, p M1 u ∧ CL M M1 := by
  unfold wpX1_copyFrom at h
  have h := h.2.2 _ rfl
  have h := h.2.2 _ rfl
  have h := h.2.2 _ rfl
  have h := h.2.2 _ rfl
  have h := h.2.2.2.2.2.2 _ rfl
  have h := h.2.2.2.2.2.2 _ rfl
  have h := h.2.2.2.2.2.2 _ rfl
  obtain ⟨n, h⟩ := h.2.2.2.2.2.2 _ rfl
  cases n with
  | zero => exact h.elim
  | succ n =>
  unfold wX1_copyFrom_91 at h
  have h := (iq (by decide) h).2.2.2.2.2.2.2.2.2.2 _ rfl
  have h := h.2.2.2.2.2.2.2.2.2.2 _ rfl
  cases n with
  | zero => exact h.elim
  | succ n =>
  unfold wX1_copyFrom_91 at h
  have h := (iq (by decide) h).2.2.2.2.2.2.2.2.2.2 _ rfl
  have h := h.2.2.2.2.2.2.2.2.2.2 _ rfl
  cases n with
  | zero => exact h.elim
  | succ n =>
  unfold wX1_copyFrom_91 at h
  have h := ip (by decide) h
  refine ⟨_, h, ⟨rfl, rfl, rfl, rfl⟩, fun k hk => ?_, fun k hk => ?_, fun k hk => ?_, fun k hk => ?_, fun k hk => ?_, fun k hk => ?_⟩
  · rcases (by omega : k = 0 ∨ k = 1 ∨ k = 2 ∨ k = 3) with e | e | e | e <;> subst e <;> rfl
  · rcases (by omega : k = 0 ∨ k = 1 ∨ k = 2 ∨ k = 3 ∨ k = 4 ∨ k = 5) with e | e | e | e | e | e <;> subst e <;> exact ⟨rfl, rfl⟩
  · rcases (by omega : k = 0 ∨ k = 1 ∨ k = 2 ∨ k = 3 ∨ k = 4 ∨ k = 5) with e | e | e | e | e | e <;> subst e <;> exact ⟨rfl, rfl⟩
  · rcases (by omega : k = 0 ∨ k = 1) with e | e <;> subst e <;> rfl
  · rcases (by omega : k = 0 ∨ k = 1 ∨ k = 2 ∨ k = 3 ∨ k = 4 ∨ k = 5) with e | e | e | e | e | e <;> subst e <;> rfl
  · rcases (by omega : k = 0 ∨ k = 1 ∨ k = 2 ∨ k = 3) with e | e | e | e <;> subst e <;> rfl
end KD0
