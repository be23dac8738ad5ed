/-! THE END OF A MONTH, AND RUNS, on both sides -/
def buC (M : MM) (b i : Nat) (t c : Int32) : MM := mset (mset M 44 b (M 44 b + c)) 43 (8 * b + i) t
def buR (N : MM) (b i : Nat) (t c : Int32) : MM := mset (mset N 98 (8 * b + i) t) 102 b (N 102 b + c)
/-- the one who was not the LATEST follows -/
abbrev anP (m : Nat) (N : MM) (i j : Nat) : Prop := N 99 i ≠ -4 ∧ mirF N (N 98 i) ≠ N 98 (8 + j) ∧ N 100 i = 0 ∧ N 100 (8 + j) = 0
section AN
variable {p : MM → Int64 → Prop} {M N : MM} {tl u : Int64}
theorem el_evenPair {p : Int32 → MM → Int64 → Prop} {i j : Nat} (hi : i < 8) (hj : j < 8) (R : RLw M N) (ht : TT (M 43 i)) (h : wpX6_isEvenPair p M tl (nI i) (nI j)) : (mirF N (M 43 i) = M 43 (8 + j) → p 1 M tl) ∧ (mirF N (M 43 i) ≠ M 43 (8 + j) → p 0 M tl) := by
  unfold wpX6_isEvenPair at h
  have h := (el_slot (b := 0) (by omega) hi h).2
  rw [tn_nI (by omega), show 8 * 0 + i = i by omega] at h
  have h := el_c_mirrorOf R ht h
  have h := (el_slot (b := 1) (by omega) hj h).2
  rw [tn_nI (by omega), show 8 * 1 + j = 8 + j by omega] at h
  exact ⟨fun c => ip c h, fun c => iq c h⟩
theorem el_answer {m i : Nat} {g : Nat → Int32} {w0 : Nat} (hi : i < 8) (H : RM m g w0 M N) (h : wpX6_answer p M tl (nI m) (nI i)) : (mat N 0 (nI i) = -4 → p M tl) ∧ (∀ j, j < 8 → mat N 0 (nI i) = nI j → (¬ anP m N i j → p M tl) ∧ (anP m N i j → (N 99 i = 0 → ∀ k, k < 6 → mirF N (N 98 i) &&& 7 = nI k → p (buC M 1 j (mirF N (N 98 i)) (N 85 (6 * 1 + k))) tl) ∧ (N 99 i = 1 → ∀ k, k < 6 → mirF N (N 98 (8 + j)) &&& 7 = nI k → p (buC M 0 i (mirF N (N 98 (8 + j))) (N 85 (6 * 0 + k))) tl))) := by
  obtain ⟨⟨⟨R, S, sd⟩, h0⟩, h2, h3, h4, h5, h6, h7, h8⟩ := H
  unfold wpX6_answer at h
  have h := el_c_matchOf R h
  refine ⟨fun c => ip c h, fun j hj ej => ?_⟩
  have h := (iq (show ¬ mat N 0 (nI i) = -4 by rw [ej]; exact n4n (by omega)) h).2
  rw [ej, tn_nI (by omega), (h5 i hi).1] at h
  have x1 := h2 i (by omega)
  have x2 := h2 (8 + j) (by omega)
  have y1 := h7 i (by omega)
  have y2 := h7 (8 + j) (by omega)
  by_cases c1 : N 99 i = -4
  · exact ⟨fun _ => ip c1 h, fun c => absurd c1 c.1⟩
  · have h := el_evenPair hi hj R (by rw [x1.1]; exact x1.2) (iq c1 h)
    rw [x1.1, x2.1] at h
    by_cases c2 : mirF N (N 98 i) = N 98 (8 + j)
    · exact ⟨fun _ => iq (by decide) (h.1 c2), fun c => absurd c2 c.2.1⟩
    · have h := (el_slot (b := 0) (by omega) hi (i00 (h.2 c2))).2
      rw [tn_nI (by omega), show 8 * 0 + i = i by omega] at h
      by_cases c3 : M 47 i = nI m
      · exact ⟨fun _ => ip c3 h, fun c => absurd c.2.2.1 (y1.mp c3)⟩
      · have h := (el_slot (b := 1) (by omega) hj (iq c3 h)).2
        rw [tn_nI (by omega), show 8 * 1 + j = 8 + j by omega] at h
        by_cases c4 : M 47 (8 + j) = nI m
        · exact ⟨fun _ => ip c4 h, fun c => absurd c.2.2.2 (y2.mp c4)⟩
        · have h := (iq c4 h).2
          rw [(h5 i hi).1] at h
          have z1 : N 100 i = 0 := Classical.byContradiction (fun z => c3 (y1.mpr z))
          have z2 : N 100 (8 + j) = 0 := Classical.byContradiction (fun z => c4 (y2.mpr z))
          refine ⟨fun c => absurd ⟨c1, c2, z1, z2⟩ c, fun _ => ⟨fun e k hk ek => ?_, fun e k hk ek => ?_⟩⟩
          · have h := (el_slot (b := 0) (by omega) hi (ip e h)).2
            rw [tn_nI (by omega), show 8 * 0 + i = i by omega, x1.1] at h
            have h := el_c_mirrorOf R x1.2 h
            exact el_build (b := 1) (by omega) hj hk ek R h
          · have h := (el_slot (b := 1) (by omega) hj (iq (show ¬ N 99 i = 0 by rw [e]; decide) h)).2
            rw [tn_nI (by omega), show 8 * 1 + j = 8 + j by omega, x2.1] at h
            have h := el_c_mirrorOf R x2.2 h
            exact el_build (b := 0) (by omega) hi hk ek R h
/-- the reference's note of it -/
theorem el_222 {bk : MM → Int64 → Int32 → Prop} {i : Nat} {v4 : Int32} (hi : i < 8) (h : wX11_goMonth_222 p bk N u (nI i) v4) : ∃ r, bk (mset N 101 i r) u (nI (i + 1)) ∧ (r ≠ 0 ↔ (N 101 i ≠ 0 ∨ v4 ≠ 0)) := by
  unfold wX11_goMonth_222 at h
  have h := h.2
  rw [tn_nI (by omega)] at h
  have one : wX11_goMonth_241 p bk N u (nI i) (nI i) → bk (mset N 101 i 1) u (nI (i + 1)) := fun h => by
    unfold wX11_goMonth_241 wX11_goMonth_246 at h
    have h := h.2 _ rfl
    rw [tn_nI (by omega), nar1, nI_s1] at h
    exact h
  by_cases c : N 101 i = 0
  · have h := ip c h
    by_cases c2 : v4 = 0
    · have h := ip c2 h
      unfold wX11_goMonth_246 at h
      have h := h.2 _ rfl
      rw [tn_nI (by omega), nar0, nI_s1] at h
      exact ⟨0, h, ⟨fun z => absurd rfl z, fun z => z.elim (fun z => absurd c z) (fun z => absurd c2 z)⟩⟩
    · exact ⟨1, one (iq c2 h), ⟨fun _ => Or.inr c2, fun _ => by decide⟩⟩
  · exact ⟨1, one (iq c h), ⟨fun _ => Or.inl c, fun _ => by decide⟩⟩
theorem el_171 {bk : MM → Int64 → Int32 → Prop} {b i k : Nat} {v2 v4 s0 t : Int32} (hb : b < 2) (hi : i < 8) (hk : k < 6) (ek : mirF N t - mirF N t / 8 * 8 = nI k) (hs : N 98 s0.toNatClampNeg = t) (h : wX11_goMonth_171 p bk N u v2 v4 (nI b) (nI (8 * b + i)) s0) : wX11_goMonth_222 p bk (buR N b i (mirF N t) (N 85 (6 * b + k))) u v2 v4 := by
  unfold wX11_goMonth_171 at h
  rw [hs] at h
  have h := (el_r_mirrorOf h.2).2 _ rfl
  have h := h.2.2.2.2 _ rfl
  rw [tn_nI (by omega), tn_nI (by omega), mset_at, ek, k6_r b hb k hk, tn_nI (by omega)] at h
  have e1 : mset N 98 (8 * b + i) (mirF N t) 102 b = N 102 b := by rw [mset_ne (by decide)]
  have e2 : mset N 98 (8 * b + i) (mirF N t) 85 (6 * b + k) = N 85 (6 * b + k) := by rw [mset_ne (by decide)]
  rw [e1, e2] at h
  exact h
theorem el_r_isEven {p : Int32 → MM → Int64 → Prop} {i : Nat} (hi : i < 8) (l : 0 ≤ N 81 2 ∧ N 81 2 ≤ 8) (h : wpX11_isEven p N u (nI i)) : (mat N 0 (nI i) = -4 → p 1 N u) ∧ (∀ j, j < 8 → mat N 0 (nI i) = nI j → (mirF N (N 98 i) = N 98 (8 + j) → p 1 N u) ∧ (mirF N (N 98 i) ≠ N 98 (8 + j) → p 0 N u)) := by
  unfold wpX11_isEven at h
  have h := el_r_matchOf l h
  refine ⟨fun c => ip c h, fun j hj ej => ?_⟩
  have h := (iq (show ¬ mat N 0 (nI i) = -4 by rw [ej]; exact n4n (by omega)) h).2.2
  have e8 : (8 : Int32) + nI j = nI (8 + j) := kI_add 8 j
  rw [ej, e8, tn_nI (by omega), tn_nI (by omega)] at h
  have h := el_r_mirrorOf h
  exact ⟨fun c => ip c.symm h, fun c => iq (fun z => c z.symm) h⟩
/-- a LOT at the end of a month: the reference -/
theorem el_62 {m n i : Nat} {g : Nat → Int32} {w0 : Nat} (hi : i < 8) (li : nI i < N 81 2) (H : RM m g w0 M N) (h : wX11_goMonth_62 p (n + 1) N u (nI i)) : (mat N 0 (nI i) = -4 → ∃ r, wX11_goMonth_62 p n (mset N 101 i r) u (nI (i + 1)) ∧ (r ≠ 0 ↔ N 101 i ≠ 0)) ∧ (∀ j, j < 8 → mat N 0 (nI i) = nI j → (¬ anP m N i j → ∃ r, wX11_goMonth_62 p n (mset N 101 i r) u (nI (i + 1)) ∧ (r ≠ 0 ↔ (N 101 i ≠ 0 ∨ N 100 i ≠ 0 ∨ N 100 (8 + j) ≠ 0))) ∧ (anP m N i j → (N 99 i = 0 → ∀ k, k < 6 → mirF N (N 98 i) - mirF N (N 98 i) / 8 * 8 = nI k → ∃ r, wX11_goMonth_62 p n (mset (buR N 1 j (mirF N (N 98 i)) (N 85 (6 * 1 + k))) 101 i r) u (nI (i + 1)) ∧ (r ≠ 0 ↔ N 101 i ≠ 0)) ∧ (N 99 i = 1 → ∀ k, k < 6 → mirF N (N 98 (8 + j)) - mirF N (N 98 (8 + j)) / 8 * 8 = nI k → ∃ r, wX11_goMonth_62 p n (mset (buR N 0 i (mirF N (N 98 (8 + j))) (N 85 (6 * 0 + k))) 101 i r) u (nI (i + 1)) ∧ (r ≠ 0 ↔ N 101 i ≠ 0)))) := by
  obtain ⟨⟨⟨R, S, sd⟩, h0⟩, h2, h3, h4, h5, h6, h7, h8⟩ := H
  have l := rl_lots R
  unfold wX11_goMonth_62 at h
  have h := el_r_matchOf l (iq (show ¬ N 81 2 ≤ nI i by clear h2 h3 h4 h5 h6 h7 h8 R S sd; lia) h)
  refine ⟨fun c => ?_, fun j hj ej => ?_⟩
  · have h := ip c h
    unfold wX11_goMonth_108 wX11_goMonth_109 at h
    have h := iq (by decide) ((el_r_isEven hi l h).1 c)
    obtain ⟨r, a, b⟩ := el_222 hi h
    exact ⟨r, a, b.trans ⟨fun z => by rcases z with z | z; · exact z
                                      · exact absurd rfl z, Or.inl⟩⟩
  · have h := (iq (show ¬ mat N 0 (nI i) = -4 by rw [ej]; exact n4n (by omega)) h).2
    have e8 : (8 : Int32) + nI j = nI (8 + j) := kI_add 8 j
    rw [ej, e8, tn_nI (by omega), tn_nI (by omega)] at h
    have h8 := h8 i hi li j hj ej
    -- worked in this month
    have wk : (N 100 i ≠ 0 ∨ N 100 (8 + j) ≠ 0) → wX11_goMonth_104 p (wX11_goMonth_62 p n) N u (nI i) (nI j) → (¬ anP m N i j → ∃ r, wX11_goMonth_62 p n (mset N 101 i r) u (nI (i + 1)) ∧ (r ≠ 0 ↔ (N 101 i ≠ 0 ∨ N 100 i ≠ 0 ∨ N 100 (8 + j) ≠ 0))) := fun hw h _ => by
      unfold wX11_goMonth_104 wX11_goMonth_109 at h
      have g := (el_r_isEven hi l h).2 j hj ej
      have fin : wX11_goMonth_222 p (wX11_goMonth_62 p n) N u (nI i) 1 → ∃ r, wX11_goMonth_62 p n (mset N 101 i r) u (nI (i + 1)) ∧ (r ≠ 0 ↔ (N 101 i ≠ 0 ∨ N 100 i ≠ 0 ∨ N 100 (8 + j) ≠ 0)) := fun h => by
        obtain ⟨r, a, b⟩ := el_222 hi h
        exact ⟨r, a, b.trans ⟨fun _ => Or.inr hw, fun _ => Or.inr (by decide)⟩⟩
      by_cases c : mirF N (N 98 i) = N 98 (8 + j)
      · exact fin (iq (by decide) (g.1 c))
      · exact fin (iq (by decide) (i00 (g.2 c)))
    have nwk : N 100 i = 0 → N 100 (8 + j) = 0 → wX11_goMonth_108 p (wX11_goMonth_62 p n) N u (nI i) (nI j) → (¬ anP m N i j → ∃ r, wX11_goMonth_62 p n (mset N 101 i r) u (nI (i + 1)) ∧ (r ≠ 0 ↔ (N 101 i ≠ 0 ∨ N 100 i ≠ 0 ∨ N 100 (8 + j) ≠ 0))) ∧ (anP m N i j → (N 99 i = 0 → ∀ k, k < 6 → mirF N (N 98 i) - mirF N (N 98 i) / 8 * 8 = nI k → ∃ r, wX11_goMonth_62 p n (mset (buR N 1 j (mirF N (N 98 i)) (N 85 (6 * 1 + k))) 101 i r) u (nI (i + 1)) ∧ (r ≠ 0 ↔ N 101 i ≠ 0)) ∧ (N 99 i = 1 → ∀ k, k < 6 → mirF N (N 98 (8 + j)) - mirF N (N 98 (8 + j)) / 8 * 8 = nI k → ∃ r, wX11_goMonth_62 p n (mset (buR N 0 i (mirF N (N 98 (8 + j))) (N 85 (6 * 0 + k))) 101 i r) u (nI (i + 1)) ∧ (r ≠ 0 ↔ N 101 i ≠ 0))) := fun z1 z2 h => by
      unfold wX11_goMonth_108 wX11_goMonth_109 at h
      have g := (el_r_isEven hi l h).2 j hj ej
      rw [z1, z2] at h8 ⊢
      have fin : wX11_goMonth_222 p (wX11_goMonth_62 p n) N u (nI i) 0 → ∃ r, wX11_goMonth_62 p n (mset N 101 i r) u (nI (i + 1)) ∧ (r ≠ 0 ↔ (N 101 i ≠ 0 ∨ (0 : Int32) ≠ 0 ∨ (0 : Int32) ≠ 0)) := fun h => by
        obtain ⟨r, a, b⟩ := el_222 hi h
        exact ⟨r, a, b.trans (by simp)⟩
      by_cases c : mirF N (N 98 i) = N 98 (8 + j)
      · exact ⟨fun _ => fin (iq (by decide) (g.1 c)), fun z => absurd c z.2.1⟩
      · have g := (ip rfl (i00 (g.2 c))).2
        rw [tn_nI (by omega)] at g
        by_cases c2 : N 101 i = 0
        · refine ⟨fun _ => fin (ip c2 g), fun z => ?_⟩
          rcases h8.mp z.1 with y | y | y
          · exact absurd c2 y
          · exact absurd rfl y
          · exact absurd rfl y
        · have g := (iq c2 g).2
          refine ⟨fun z => absurd ⟨h8.mpr (Or.inl c2), c, z1, z2⟩ z, fun _ => ⟨fun e k hk ek => ?_, fun e k hk ek => ?_⟩⟩
          · rw [e] at g
            have g := iq (show ¬ (1 : Int32) - 0 = 0 by decide) g
            unfold wX11_goMonth_156 at g
            have g := iq (show ¬ (1 : Int32) - 0 = 0 by decide) g
            have e1 : (1 : Int32) - 0 = nI 1 := by decide
            rw [e8, e1] at g
            have g := el_171 (b := 1) (i := j) (by omega) hj hk ek (by rw [tn_nI (by omega)]) g
            obtain ⟨r, a, b⟩ := el_222 hi g
            refine ⟨r, a, b.trans ?_⟩
            unfold buR
            rw [mset_ne (by decide), mset_ne (by decide)]
            simp
          · rw [e] at g
            have g := ip (show (1 : Int32) - 1 = 0 by decide) g
            unfold wX11_goMonth_156 at g
            have g := ip (show (1 : Int32) - 1 = 0 by decide) g
            have e1 : (1 : Int32) - 1 = nI 0 := by decide
            have e2 : nI i = nI (8 * 0 + i) := by congr 1; omega
            rw [e8, e1] at g
            have g : wX11_goMonth_171 p (wX11_goMonth_62 p n) N u (nI i) 0 (nI 0) (nI (8 * 0 + i)) (nI (8 + j)) := by rw [← e2]; exact g
            have g := el_171 (b := 0) (i := i) (by omega) hi hk ek (by rw [tn_nI (by omega)]) g
            obtain ⟨r, a, b⟩ := el_222 hi g
            refine ⟨r, a, b.trans ?_⟩
            unfold buR
            rw [mset_ne (by decide), mset_ne (by decide)]
            simp
    by_cases c1 : N 100 i = 0
    · have h := (ip c1 h).2
      by_cases c2 : N 100 (8 + j) = 0
      · exact nwk c1 c2 (ip c2 h)
      · exact ⟨wk (Or.inr c2) (iq c2 h), fun z => absurd z.2.2.2 c2⟩
    · exact ⟨wk (Or.inl c1) (iq c1 h), fun z => absurd z.2.2.1 c1⟩
end AN
/-- noted up to LOT i0 -/
def EE (i0 : Nat) (N : MM) : Prop := ∀ i, i < i0 → i < 8 → nI i < N 81 2 → ∀ j, j < 8 → mat N 0 (nI i) = nI j → (N 100 i ≠ 0 ∨ N 100 (8 + j) ≠ 0) → N 101 i ≠ 0
theorem rm_101 {m i w : Nat} {r : Int32} {g : Nat → Int32} {M N : MM} (h : RM m g w M N) (hr : r ≠ 0 ↔ (N 101 i ≠ 0 ∨ (∃ j, j < 8 ∧ mat N 0 (nI i) = nI j ∧ (N 100 i ≠ 0 ∨ N 100 (8 + j) ≠ 0)))) : RM m g w M (mset N 101 i r) := by
  obtain ⟨⟨h1, h0⟩, h2, h3, h4, h5, h6, h7, h8⟩ := h
  refine ⟨⟨rls_r h1 (by decide), by rw [mset_ne (by decide)]; exact h0⟩, ?_⟩
  rw [mset_ne (i := 98) (by decide), mset_ne (i := 102) (by decide), mset_ne (i := 103) (by decide), mset_ne (i := 99) (by decide), mset_ne (i := 100) (by decide), mset_ne (i := 81) (by decide)]
  refine ⟨h2, h3, h4, h5, h6, h7, fun x hx lx j hj e => ?_⟩
  rw [mat_eq (mset_ne (by decide))] at e
  have h8 := h8 x hx lx j hj e
  rw [mset_if]
  by_cases z : x = i
  · subst z
    rw [if_pos ⟨rfl, rfl⟩, h8, hr]
    constructor
    · rintro (y | y)
      · exact Or.inl (Or.inl y)
      · exact Or.inr y
    · rintro ((y | ⟨j2, hj2, e2, y⟩) | y)
      · exact Or.inl y
      · rw [e] at e2
        have := kI_inj (by omega) (by omega) e2
        subst this
        exact Or.inr y
      · exact Or.inr y
  · rw [if_neg (fun q => z q.2)]
    exact h8
theorem ee_101 {i : Nat} {r : Int32} {N : MM} (h : EE i N) (hr : (∃ j, j < 8 ∧ mat N 0 (nI i) = nI j ∧ (N 100 i ≠ 0 ∨ N 100 (8 + j) ≠ 0)) → r ≠ 0) : EE (i + 1) (mset N 101 i r) := by
  intro x hx x8 lx j hj e y
  rw [mset_ne (by decide)] at lx
  rw [mat_eq (mset_ne (by decide))] at e
  rw [mset_ne (i := 100) (by decide)] at y
  rw [mset_if]
  by_cases z : x = i
  · subst z
    rw [if_pos ⟨rfl, rfl⟩]
    exact hr ⟨j, hj, e, y⟩
  · rw [if_neg (fun q => z q.2)]
    exact h x (by omega) x8 lx j hj e y
theorem rm_b {m w b i : Nat} {t c : Int32} {g : Nat → Int32} {M N : MM} (h : RM m g w M N) (hb : b < 2) (ht : TT t) : RM m g w (buC M b i t c) (buR N b i t c) := by
  obtain ⟨⟨h1, h0⟩, h2, h3, h4, h5, h6, h7, h8⟩ := h
  unfold buC buR
  refine ⟨⟨rls_r (rls_r (rls_c (rls_c h1 (by decide)) (by decide)) (by decide)) (by decide), by rw [mset_ne (by decide), mset_ne (by decide)]; exact h0⟩, fun s hs => ?_, fun x hx => ?_, ?_⟩
  · rw [mset_if, mset_ne (by decide), mset_ne (by decide), mset_if]
    by_cases z : s = 8 * b + i
    · rw [if_pos ⟨rfl, z⟩, if_pos ⟨rfl, z⟩]; exact ⟨rfl, ht⟩
    · rw [if_neg (fun q => z q.2), if_neg (fun q => z q.2)]; exact h2 s hs
  · rw [mset_ne (by decide), mset_if, mset_if, mset_ne (by decide), h3 b hb, h3 x hx]
    simp
  · rw [mset_ne (a := 43) (i := 45) (by decide), mset_ne (a := 44) (i := 45) (by decide), mset_ne (a := 102) (i := 103) (by decide), mset_ne (a := 98) (i := 103) (by decide), mset_ne (a := 43) (i := 46) (by decide), mset_ne (a := 44) (i := 46) (by decide), mset_ne (a := 102) (i := 99) (by decide), mset_ne (a := 98) (i := 99) (by decide), mset_ne (a := 43) (i := 47) (by decide), mset_ne (a := 44) (i := 47) (by decide), mset_ne (a := 102) (i := 100) (by decide), mset_ne (a := 98) (i := 100) (by decide), mset_ne (a := 102) (i := 81) (by decide), mset_ne (a := 98) (i := 81) (by decide), mset_ne (a := 102) (i := 101) (by decide), mset_ne (a := 98) (i := 101) (by decide)]
    refine ⟨h4, h5, h6, h7, fun x hx lx j hj e => h8 x hx lx j hj ?_⟩
    rw [← e]
    refine (mat_eq ?_ _ _).symm
    rw [mset_ne (by decide), mset_ne (by decide)]
theorem bR_o {N : MM} {b i a : Nat} {t c : Int32} (h1 : a ≠ 98) (h2 : a ≠ 102) : buR N b i t c a = N a := by
  unfold buR
  rw [mset_ne h2, mset_ne h1]
theorem ee_b {N : MM} {b i i0 : Nat} {t c : Int32} (h : EE i0 N) : EE i0 (buR N b i t c) := by
  intro x hx x8 lx j hj e y
  rw [bR_o (by decide) (by decide)] at lx y ⊢
  rw [mat_eq (bR_o (by decide) (by decide))] at e
  exact h x hx x8 lx j hj e y
/-- the LOTS at the end of a month -/
theorem lp_lots {m : Nat} {g : Nat → Int32} {p q : MM → Int64 → Prop} {tl u : Int64} : ∀ (n n' i : Nat) (M N : MM), i ≤ 8 → RM m g 12 M N → EE i N → wX6_runMonth_71 p n M tl (nI m) (nI i) → wX11_goMonth_62 q n' N u (nI i) → ∃ M1 N1, RM m g 12 M1 N1 ∧ EE 8 N1 ∧ p M1 tl ∧ q N1 u := by
  intro n
  induction n with
  | zero => intro n' i M N _ _ _ h; exact h.elim
  | succ n ih =>
    intro n' i M N hi H E hA hB
    cases n' with
    | zero => exact hB.elim
    | succ n' =>
    have R := H.1.1.1
    have l := rl_lots R
    by_cases c : N 81 2 ≤ nI i
    · unfold wX6_runMonth_71 at hA
      unfold wX11_goMonth_62 at hB
      refine ⟨M, N, H, fun x hx x8 lx => ?_, ip (show M 3 0 ≤ nI i by rw [rl_0 R]; exact c) hA, ip c hB⟩
      exact E x ((kI_lt (by omega) (by omega)).mp (by clear E H R hA hB ih; lia)) x8 lx
    · have li : nI i < N 81 2 := by clear E H R hA hB ih; lia
      have i8 : i < 8 := (kI_lt (b := 8) (by omega) (by omega)).mp (show nI i < (8 : Int32) by clear E H R hA hB ih; lia)
      have hB := el_62 i8 li H hB
      unfold wX6_runMonth_71 at hA
      have hA := el_answer i8 H (iq (show ¬ M 3 0 ≤ nI i by rw [rl_0 R]; exact c) hA)
      rw [nI_s1] at hA
      by_cases q1 : mat N 0 (nI i) = -4
      · obtain ⟨r, b1, b2⟩ := hB.1 q1
        refine ih n' (i + 1) _ _ (by omega) (rm_101 H ?_) (ee_101 E ?_) (hA.1 q1) b1
        · rw [b2]
          refine ⟨Or.inl, ?_⟩
          rintro (z | ⟨j, hj, e, _⟩)
          · exact z
          · rw [q1] at e; exact absurd e.symm (n4n (by omega))
        · rintro ⟨j, hj, e, _⟩
          rw [q1] at e; exact absurd e.symm (n4n (by omega))
      · obtain ⟨j, hj, ej, lj⟩ := mat_n l q1
        have hA := hA.2 j hj ej
        have hB := hB.2 j hj ej
        have x1 := (H.2.1 i (by omega)).2
        have x2 := (H.2.1 (8 + j) (by omega)).2
        have lat := (H.2.2.2.2.1 i i8).2
        have wq : (∃ j, j < 8 ∧ mat N 0 (nI i) = nI j ∧ (N 100 i ≠ 0 ∨ N 100 (8 + j) ≠ 0)) ↔ (N 100 i ≠ 0 ∨ N 100 (8 + j) ≠ 0) := by
          constructor
          · rintro ⟨j2, hj2, e2, y⟩
            rw [ej] at e2
            have := kI_inj (by omega) (by omega) e2
            subst this
            exact y
          · exact fun y => ⟨j, hj, ej, y⟩
        by_cases q2 : anP m N i j
        · have hA := hA.2 q2
          have hB := hB.2 q2
          have nw : ¬ (N 100 i ≠ 0 ∨ N 100 (8 + j) ≠ 0) := by
            rintro (z | z)
            · exact z q2.2.2.1
            · exact z q2.2.2.2
          have go : ∀ (b x : Nat) (t cc : Int32), b < 2 → TT t → (∃ r, wX11_goMonth_62 q n' (mset (buR N b x t cc) 101 i r) u (nI (i + 1)) ∧ (r ≠ 0 ↔ N 101 i ≠ 0)) → wX6_runMonth_71 p n (buC M b x t cc) tl (nI m) (nI (i + 1)) → ∃ M1 N1, RM m g 12 M1 N1 ∧ EE 8 N1 ∧ p M1 tl ∧ q N1 u := by
            rintro b x t cc hb ht ⟨r, b1, b2⟩ hA
            have wq2 : (∃ j, j < 8 ∧ mat (buR N b x t cc) 0 (nI i) = nI j ∧ ((buR N b x t cc) 100 i ≠ 0 ∨ (buR N b x t cc) 100 (8 + j) ≠ 0)) ↔ (N 100 i ≠ 0 ∨ N 100 (8 + j) ≠ 0) := by
              rw [bR_o (a := 100) (by decide) (by decide), mat_eq (bR_o (by decide) (by decide))]
              exact wq
            refine ih n' (i + 1) _ _ (by omega) (rm_101 (rm_b H hb ht) ?_) (ee_101 (ee_b E) (fun z => absurd (wq2.mp z) nw)) hA b1
            rw [wq2, bR_o (by decide) (by decide), b2]
            exact ⟨Or.inl, fun z => by rcases z with z | z; · exact z
                                       · exact absurd z nw⟩
          rcases lat with z | z | z
          · exact absurd z q2.1
          · obtain ⟨k, hk, k1, k2, _⟩ := tt_k (mirF_tt R x1)
            exact go 1 j _ _ (by omega) (mirF_tt R x1) (hB.1 z k hk k1) (hA.1 z k hk k2)
          · obtain ⟨k, hk, k1, k2, _⟩ := tt_k (mirF_tt R x2)
            exact go 0 i _ _ (by omega) (mirF_tt R x2) (hB.2 z k hk k1) (hA.2 z k hk k2)
        · obtain ⟨r, b1, b2⟩ := hB.1 q2
          refine ih n' (i + 1) _ _ (by omega) (rm_101 H ?_) (ee_101 E ?_) (hA.1 q2) b1
          · rw [wq, b2]
          · intro z
            exact b2.mpr (Or.inr (wq.mp z))
/-- between two months -/
def RB (m : Nat) (g : Nat → Int32) (M N : MM) : Prop := (RLS M N ∧ N 82 = g) ∧ (∀ s, s < 16 → M 43 s = N 98 s ∧ TT (N 98 s)) ∧ (∀ b, b < 2 → M 44 b = N 102 b) ∧ (∀ w, w < 12 → nI w < g 16 → g (17 + (4 * w + 0)) < nI m → M 45 w = N 103 w) ∧ (∀ i, i < 8 → M 46 i = N 99 i ∧ (N 99 i = -4 ∨ N 99 i = 0 ∨ N 99 i = 1)) ∧ (∀ s, s < 16 → M 47 s = -4 ∨ (0 ≤ M 47 s ∧ M 47 s < nI m)) ∧ (∀ i, i < 8 → nI i < N 81 2 → ∀ j, j < 8 → mat N 0 (nI i) = nI j → (N 99 i ≠ -4 ↔ N 101 i ≠ 0))
theorem rb_rm {m : Nat} {g : Nat → Int32} {M N N1 : MM} (hm : m < 24) (h : RB m g M N) (e : ∀ a, a ≠ 100 → N1 a = N a) (z : ∀ s, s < 16 → N1 100 s = 0) : RM m g 0 M N1 := by
  obtain ⟨⟨h1, h0⟩, h2, h3, h4, h5, h6, h8⟩ := h
  refine ⟨⟨rls_eq h1 (fun _ _ => rfl) (fun a ha => e a (by intro q; subst q; exact absurd ha (by decide))), by rw [e 82 (by decide)]; exact h0⟩, ?_⟩
  rw [e 98 (by decide), e 102 (by decide), e 103 (by decide), e 99 (by decide), e 81 (by decide), e 101 (by decide)]
  refine ⟨h2, h3, fun w hw y => h4 w hw y.1 ?_, h5, fun s hs => ?_, fun s hs => ?_, fun i hi li j hj ej => ?_⟩
  · rcases y.2 with q | q
    · exact q
    · exact absurd q.2 (by omega)
  · rcases h6 s hs with q | q
    · exact Or.inl q
    · exact Or.inr ⟨q.1, by clear h1 h2 h3 h4 h5 h8; lia⟩
  · rw [z s hs]
    have m0 := nJ_ge0 (i := m) (by omega)
    refine ⟨fun q => ?_, fun q => absurd rfl q⟩
    rcases h6 s hs with y | y
    · rw [q] at y; exact absurd y (n4n (by omega))
    · rw [q] at y; exfalso; clear h1 h2 h3 h4 h5 h8; lia
  · rw [mat_eq (e 81 (by decide))] at ej
    rw [z i (by omega), z (8 + j) (by omega), h8 i hi li j hj ej]
    simp
theorem rm_rb {m : Nat} {g : Nat → Int32} {M N : MM} (hm : m < 24) (h : RM m g 12 M N) (E : EE 8 N) : RB (m + 1) g M N := by
  obtain ⟨⟨h1, h0⟩, h2, h3, h4, h5, h6, h7, h8⟩ := h
  have lm : nI m < nI (m + 1) := (kI_lt (by omega) (by omega)).mpr (by omega)
  refine ⟨⟨h1, h0⟩, h2, h3, fun w hw y1 y2 => h4 w hw ⟨y1, ?_⟩, h5, fun s hs => ?_, fun i hi li j hj ej => ?_⟩
  · rw [← nI_s1] at y2
    by_cases q : g (17 + (4 * w + 0)) = nI m
    · exact Or.inr ⟨q, hw⟩
    · have b := (kI_lt (a := m) (b := 24) (by omega) (by omega)).mpr hm
      have b : nI m < 24 := b
      exact Or.inl (by clear h1 h2 h3 h4 h5 h6 h7 h8 E; lia)
  · rcases h6 s hs with q | q
    · exact Or.inl q
    · exact Or.inr ⟨q.1, by clear h1 h2 h3 h4 h5 h7 h8 E; lia⟩
  · rw [h8 i hi li j hj ej]
    refine ⟨fun z => ?_, Or.inl⟩
    rcases z with z | z
    · exact z
    · exact E i hi hi li j hj ej z
theorem lp_clear {m : Int32} {q : MM → Int64 → Prop} {u : Int64} : ∀ (n s : Nat) (N : MM), s ≤ 16 → wX11_goMonth_2 q n N u m (nI s) → (∀ x, x < s → N 100 x = 0) → ∃ N1, (∀ a, a ≠ 100 → N1 a = N a) ∧ (∀ x, x < 16 → N1 100 x = 0) ∧ ∃ k, wX11_goMonth_23 q k N1 u m 0 := by
  intro n
  induction n with
  | zero => intro s N _ h; exact h.elim
  | succ n ih =>
    intro s N hs h hx
    unfold wX11_goMonth_2 at h
    by_cases c : (16 : Int32) ≤ nI s
    · have e : s = 16 := by
        have := (kI_le (a := 16) (by omega) (by omega)).mp c
        omega
      subst e
      exact ⟨N, fun _ _ => rfl, hx, ip c h⟩
    · have s16 : s < 16 := by
        rcases Nat.lt_or_ge s 16 with z | z
        · exact z
        · exact absurd ((kI_le (a := 16) (by omega) (by omega)).mpr z) c
      have h := (iq c h).2 _ rfl
      rw [nI_s1, tn_nI (by omega), nar0] at h
      obtain ⟨N1, g1, g2, g3⟩ := ih (s + 1) _ (by omega) h (fun x hx2 => by
        rw [mset_if]
        by_cases z : x = s
        · rw [if_pos ⟨rfl, z⟩]
        · rw [if_neg (fun q => z q.2)]; exact hx x (by omega))
      exact ⟨N1, fun a ha => by rw [g1 a ha, mset_ne ha], g2, g3⟩
/-- a month -/
theorem pl_month {m : Nat} {g : Nat → Int32} {p q : MM → Int64 → Prop} {tl u : Int64} {M N : MM} (hm : m < 24) (h : RB m g M N) (hA : wpX6_runMonth p M tl (nI m)) (hB : wpX11_goMonth q N u (nI m)) : ∃ M1 N1, RB (m + 1) g M1 N1 ∧ p M1 tl ∧ q N1 u := by
  unfold wpX6_runMonth at hA
  unfold wpX11_goMonth at hB
  obtain ⟨n, hA⟩ := hA
  obtain ⟨n', hB⟩ := hB
  obtain ⟨N1, e1, e2, k, hB⟩ := lp_clear n' 0 N (by omega) hB (fun x hx => absurd hx (by omega))
  obtain ⟨M2, N2, R2, ⟨a, hA⟩, ⟨b, hB⟩⟩ := lp_works hm n k 0 M N1 (by omega) (rb_rm hm h e1 e2) hA hB
  obtain ⟨M3, N3, R3, E3, hA, hB⟩ := lp_lots a b 0 M2 N2 (by omega) R2 (fun x hx => absurd hx (by omega)) hA hB
  exact ⟨M3, N3, rm_rb hm R3 E3, hA, hB⟩
theorem lp_months {g : Nat → Int32} {p q : MM → Int64 → Prop} {tl u : Int64} {k : Nat} (hk : k ≤ 24) : ∀ (n n' m : Nat) (M N : MM), m ≤ k → RB m g M N → wX6_runMonths_6 p n M tl (nI k) (nI m) → wX11_goRun_6 q n' N u (nI k) (nI m) → ∃ M1 N1, RB k g M1 N1 ∧ p M1 tl ∧ q N1 u := by
  intro n
  induction n with
  | zero => intro n' m M N _ _ h; exact h.elim
  | succ n ih =>
    intro n' m M N hm H hA hB
    cases n' with
    | zero => exact hB.elim
    | succ n' =>
    unfold wX6_runMonths_6 at hA
    unfold wX11_goRun_6 at hB
    by_cases c : nI k ≤ nI m
    · have e : m = k := by
        have := (kI_le (by omega) (by omega)).mp c
        omega
      subst e
      exact ⟨M, N, H, ip c hA, ip c hB⟩
    · have mk : m < k := by
        rcases Nat.lt_or_ge m k with z | z
        · exact z
        · exact absurd ((kI_le (by omega) (by omega)).mpr z) c
      obtain ⟨M1, N1, R1, a, b⟩ := pl_month (by omega) H (iq c hA) (iq c hB)
      rw [nI_s1] at a b
      exact ih n' (m + 1) M1 N1 (by omega) R1 a b
/-! the start of a RUN -/
section ST
variable {p : MM → Int64 → Prop} {tl u : Int64}
theorem lp_start61 : ∀ (n b : Nat) (M : MM), b ≤ 2 → wX6_start_61 p n M tl (nI b) → (∀ x, x < b → M 44 x = 0) → ∃ M1, p M1 tl ∧ (∀ a, a ≠ 44 → M1 a = M a) ∧ (∀ x, x < 2 → M1 44 x = 0) := by
  intro n
  induction n with
  | zero => intro b M _ h; exact h.elim
  | succ n ih =>
    intro b M hb h hx
    unfold wX6_start_61 at h
    by_cases c : (2 : Int32) ≤ nI b
    · have e : b = 2 := by
        have := (kI_le (a := 2) (by omega) (by omega)).mp c
        omega
      subst e
      exact ⟨M, ip c h, fun _ _ => rfl, hx⟩
    · have b2 : b < 2 := by
        rcases Nat.lt_or_ge b 2 with z | z
        · exact z
        · exact absurd ((kI_le (a := 2) (by omega) (by omega)).mpr z) c
      have h := (iq c h).2 _ rfl
      rw [nI_s1, tn_nI (by omega)] at h
      obtain ⟨M1, g1, g2, g3⟩ := ih (b + 1) _ (by omega) h (fun x hx2 => by
        rw [mset_if]
        by_cases z : x = b
        · rw [if_pos ⟨rfl, z⟩]
        · rw [if_neg (fun q => z q.2)]; exact hx x (by omega))
      exact ⟨M1, g1, fun a ha => by rw [g2 a ha, mset_ne ha], g3⟩
theorem lp_start39 : ∀ (n i : Nat) (M : MM), i ≤ 8 → wX6_start_39 p n M tl (nI i) → (∀ x, x < i → M 46 x = -4) → ∃ M1, (∀ a, a ≠ 46 → M1 a = M a) ∧ (∀ x, x < 8 → M1 46 x = -4) ∧ ∃ k, wX6_start_61 p k M1 tl 0 := by
  intro n
  induction n with
  | zero => intro b M _ h; exact h.elim
  | succ n ih =>
    intro b M hb h hx
    unfold wX6_start_39 at h
    by_cases c : (8 : Int32) ≤ nI b
    · have e : b = 8 := by
        have := (kI_le (a := 8) (by omega) (by omega)).mp c
        omega
      subst e
      exact ⟨M, fun _ _ => rfl, hx, ip c h⟩
    · have b2 : b < 8 := by
        rcases Nat.lt_or_ge b 8 with z | z
        · exact z
        · exact absurd ((kI_le (a := 8) (by omega) (by omega)).mpr z) c
      have h := (iq c h).2 _ rfl
      rw [nI_s1, tn_nI (by omega)] at h
      obtain ⟨M1, g1, g2, g3⟩ := ih (b + 1) _ (by omega) h (fun x hx2 => by
        rw [mset_if]
        by_cases z : x = b
        · rw [if_pos ⟨rfl, z⟩]
        · rw [if_neg (fun q => z q.2)]; exact hx x (by omega))
      exact ⟨M1, fun a ha => by rw [g1 a ha, mset_ne ha], g2, g3⟩
theorem lp_start2 : ∀ (n s : Nat) (M : MM), s ≤ 16 → wX6_start_2 p n M tl (nI s) → (∀ x, x < s → M 43 x = M 15 x ∧ M 47 x = -4) → ∃ M1, (∀ a, a ≠ 43 → a ≠ 47 → M1 a = M a) ∧ (∀ x, x < 16 → M1 43 x = M 15 x ∧ M1 47 x = -4) ∧ ∃ k, wX6_start_39 p k M1 tl 0 := by
  intro n
  induction n with
  | zero => intro b M _ h; exact h.elim
  | succ n ih =>
    intro b M hb h hx
    unfold wX6_start_2 at h
    by_cases c : (16 : Int32) ≤ nI b
    · have e : b = 16 := by
        have := (kI_le (a := 16) (by omega) (by omega)).mp c
        omega
      subst e
      exact ⟨M, fun _ _ _ => rfl, hx, ip c h⟩
    · have b2 : b < 16 := by
        rcases Nat.lt_or_ge b 16 with z | z
        · exact z
        · exact absurd ((kI_le (a := 16) (by omega) (by omega)).mpr z) c
      have h := (iq c h).2.2 _ rfl
      have h := h.2 _ rfl
      rw [nI_s1, tn_nI (by omega)] at h
      obtain ⟨M1, g1, g2, g3⟩ := ih (b + 1) _ (by omega) h (fun x hx2 => by
        rw [mset_ne (a := 47) (i := 43) (by decide), mset_ne (a := 47) (i := 15) (by decide), mset_ne (a := 43) (i := 15) (by decide)]
        by_cases z : x = b
        · subst z
          rw [mset_at, mset_at]
          exact ⟨rfl, rfl⟩
        · rw [mset_nk z, mset_nk z, mset_ne (by decide)]; exact hx x (by omega))
      refine ⟨M1, fun a h1 h2 => by rw [g1 a h1 h2, mset_ne h2, mset_ne h1], fun x hx2 => ?_, g3⟩
      have := g2 x hx2
      rw [mset_ne (a := 47) (i := 15) (by decide), mset_ne (a := 43) (i := 15) (by decide)] at this
      exact this
theorem lp_asNow : ∀ (n s : Nat) (N : MM), s ≤ 16 → wX11_asNow_2 p n N u (nI s) → (∀ x, x < s → N 98 x = N 82 x) → ∃ N1, p N1 u ∧ (∀ a, a ≠ 98 → N1 a = N a) ∧ (∀ x, x < 16 → N1 98 x = N 82 x) := by
  intro n
  induction n with
  | zero => intro b M _ h; exact h.elim
  | succ n ih =>
    intro b M hb h hx
    unfold wX11_asNow_2 at h
    by_cases c : (16 : Int32) ≤ nI b
    · have e : b = 16 := by
        have := (kI_le (a := 16) (by omega) (by omega)).mp c
        omega
      subst e
      exact ⟨M, ip c h, fun _ _ => rfl, hx⟩
    · have b2 : b < 16 := by
        rcases Nat.lt_or_ge b 16 with z | z
        · exact z
        · exact absurd ((kI_le (a := 16) (by omega) (by omega)).mpr z) c
      have h := (iq c h).2.2 _ rfl
      rw [nI_s1, tn_nI (by omega)] at h
      obtain ⟨M1, g1, g2, g3⟩ := ih (b + 1) _ (by omega) h (fun x hx2 => by
        rw [mset_ne (a := 98) (i := 82) (by decide)]
        by_cases z : x = b
        · subst z
          rw [mset_at]
        · rw [mset_nk z]; exact hx x (by omega))
      refine ⟨M1, g1, fun a h1 => by rw [g2 a h1, mset_ne h1], fun x hx2 => ?_⟩
      have := g3 x hx2
      rw [mset_ne (a := 98) (i := 82) (by decide)] at this
      exact this
theorem lp_startRun : ∀ (n i : Nat) (N : MM), i ≤ 8 → wX11_startRun_6 p n N u (nI i) → (∀ x, x < i → N 99 x = -4 ∧ N 101 x = 0) → ∃ N1, p N1 u ∧ (∀ a, a ≠ 99 → a ≠ 101 → a ≠ 102 → N1 a = N a) ∧ (∀ x, x < 8 → N1 99 x = -4 ∧ N1 101 x = 0) ∧ (∀ x, x < 2 → N1 102 x = 0) := by
  intro n
  induction n with
  | zero => intro b M _ h; exact h.elim
  | succ n ih =>
    intro b M hb h hx
    unfold wX11_startRun_6 at h
    by_cases c : (8 : Int32) ≤ nI b
    · have e : b = 8 := by
        have := (kI_le (a := 8) (by omega) (by omega)).mp c
        omega
      subst e
      have h := (ip c h).2 _ rfl
      have h := h.2 _ rfl
      refine ⟨_, h, fun a _ _ z => by rw [mset_ne z, mset_ne z], fun x hx2 => ?_, fun x hx2 => ?_⟩
      · rw [mset_ne (by decide), mset_ne (by decide), mset_ne (by decide), mset_ne (by decide)]; exact hx x hx2
      · rcases (by omega : x = 0 ∨ x = 1) with e | e <;> subst e <;> rfl
    · have b2 : b < 8 := by
        rcases Nat.lt_or_ge b 8 with z | z
        · exact z
        · exact absurd ((kI_le (a := 8) (by omega) (by omega)).mpr z) c
      have h := (iq c h).2 _ rfl
      have h := h.2 _ rfl
      rw [nI_s1, tn_nI (by omega), nar0] at h
      obtain ⟨M1, g1, g2, g3, g4⟩ := ih (b + 1) _ (by omega) h (fun x hx2 => by
        rw [mset_ne (a := 101) (i := 99) (by decide)]
        by_cases z : x = b
        · subst z
          rw [mset_at, mset_at]
          exact ⟨rfl, rfl⟩
        · rw [mset_nk z, mset_nk z, mset_ne (by decide)]; exact hx x (by omega))
      exact ⟨M1, g1, fun a h1 h2 h3 => by rw [g2 a h1 h2 h3, mset_ne h2, mset_ne h1], g3, g4⟩
end ST
theorem pl_start {p q : MM → Int64 → Prop} {tl u : Int64} {M N : MM} (h : RLS M N) (hA : wpX6_start p M tl) (hB : wpX11_startRun q N u) : ∃ M1 N1, RB 0 (N 82) M1 N1 ∧ p M1 tl ∧ q N1 u := by
  unfold wpX6_start at hA
  unfold wpX11_startRun wpX11_asNow at hB
  obtain ⟨n, hA⟩ := hA
  obtain ⟨n', hB⟩ := hB
  obtain ⟨M1, a1, a2, n, hA⟩ := lp_start2 n 0 M (by omega) hA (fun x hx => absurd hx (by omega))
  obtain ⟨M2, b1, b2, n, hA⟩ := lp_start39 n 0 M1 (by omega) hA (fun x hx => absurd hx (by omega))
  obtain ⟨M3, c0, c1, c2⟩ := lp_start61 n 0 M2 (by omega) hA (fun x hx => absurd hx (by omega))
  obtain ⟨N1, ⟨n', hB⟩, e1, e2⟩ := lp_asNow n' 0 N (by omega) hB (fun x hx => absurd hx (by omega))
  obtain ⟨N2, f0, f1, f2, f3⟩ := lp_startRun n' 0 N1 (by omega) hB (fun x hx => absurd hx (by omega))
  have cC : ∀ a, a ≠ 43 → a ≠ 44 → a ≠ 46 → a ≠ 47 → M3 a = M a := fun a z1 z2 z3 z4 => by rw [c1 a z2, b1 a z3, a1 a z1 z4]
  have cR : ∀ a, a ≠ 98 → a ≠ 99 → a ≠ 101 → a ≠ 102 → N2 a = N a := fun a z1 z2 z3 z4 => by rw [f1 a z2 z3 z4, e1 a z1]
  refine ⟨M3, N2, ⟨⟨rls_eq h (fun a ha => cC a ?_ ?_ ?_ ?_) (fun a ha => cR a ?_ ?_ ?_ ?_), cR 82 (by decide) (by decide) (by decide) (by decide)⟩, fun s hs => ?_, fun b hb => ?_, fun w hw y1 y2 => ?_, fun i hi => ?_, fun s hs => ?_, fun i hi li j hj ej => ?_⟩, c0, f0⟩
  any_goals (intro z; subst z; exact absurd ha (by decide))
  · have x := h.2.1.1 s hs
    rw [c1 43 (by decide), b1 43 (by decide), (a2 s hs).1, f1 98 (by decide) (by decide) (by decide), e2 s hs]
    exact x
  · rw [c2 b hb, f3 b hb]
  · have d := h.2.2 (17 + (4 * w + 0))
    rw [Nat.mod_eq_of_lt (by omega)] at d
    unfold sdom at d
    rw [if_neg (by omega), if_neg (by omega), if_pos (by omega), if_pos (by omega)] at d
    have y2 : N 82 (17 + (4 * w + 0)) < 0 := y2
    exfalso; lia
  · rw [c1 46 (by decide), b2 i hi, (f2 i hi).1]
    exact ⟨rfl, Or.inl rfl⟩
  · rw [c1 47 (by decide), b1 47 (by decide), (a2 s hs).2]
    exact Or.inl rfl
  · rw [(f2 i hi).1, (f2 i hi).2]
    simp
/-- a RUN of k months -/
theorem pl_run {p q : MM → Int64 → Prop} {tl u : Int64} {k : Nat} {M N : MM} (hk : k ≤ 24) (h : RLS M N) (hA : wpX6_runMonths p M tl (nI k)) (hB : wpX11_goRun q N u (nI k)) : ∃ M1 N1, RB k (N 82) M1 N1 ∧ p M1 tl ∧ q N1 u := by
  unfold wpX6_runMonths at hA
  unfold wpX11_goRun at hB
  obtain ⟨M1, N1, R1, ⟨n, hA⟩, ⟨n', hB⟩⟩ := pl_start h hA hB
  exact lp_months hk n n' 0 M1 N1 (by omega) R1 hA hB
