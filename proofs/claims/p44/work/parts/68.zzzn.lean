/-! THE LAW on both sides; the leaf calls, read off their formulas -/
theorem ip {c : Prop} [Decidable c] {a b : Prop} (hc : c) (h : if c then a else b) : a := by rw [if_pos hc] at h; exact h
theorem iq {c : Prop} [Decidable c] {a b : Prop} (hc : ¬ c) (h : if c then a else b) : b := by rw [if_neg hc] at h; exact h
theorem i10 {a b : Prop} (h : if (1 : Int32) = 0 then a else b) : b := iq (by decide) h
theorem i00 {a b : Prop} (h : if (0 : Int32) = 0 then a else b) : a := ip rfl h
theorem cdN {v : Int32} (n : Nat) (hn : n < 1000) (h0 : 0 ≤ v) (h1 : v < nI n) : ∃ k, k < n ∧ v = nI k := by
  have a := i_ge_to (k := 0) (by decide) h0
  have b := i_lt_to (nI_sm (by omega)) h1
  exact ⟨v.toInt.toNat, by omega, Int32.toInt_inj.mp (by rw [nI_sm (by omega)]; omega)⟩
theorem kI_lt {a b : Nat} (ha : a < 100000) (hb : b < 100000) : (nI a < nI b) ↔ a < b := by
  rw [Int32.lt_iff_toInt_lt, nI_sm (by omega), nI_sm (by omega)]; omega
theorem kI_le {a b : Nat} (ha : a < 100000) (hb : b < 100000) : (nI a ≤ nI b) ↔ a ≤ b := by
  rw [Int32.le_iff_toInt_le, nI_sm (by omega), nI_sm (by omega)]; omega
theorem kI_inj {a b : Nat} (ha : a < 100000) (hb : b < 100000) (h : nI a = nI b) : a = b := by
  have := congrArg Int32.toInt h
  rw [nI_sm (by omega), nI_sm (by omega)] at this
  omega
theorem kI_add (a b : Nat) : nI a + nI b = nI (a + b) := (r_add rfl rfl).trans (nI_md (by show (b + a) % 4294967296 % 4294967296 = _; omega))
theorem nI_1b {b : Nat} (h : b < 2) : (1 : Int32) - nI b = nI (1 - b) := by
  rcases (by omega : b = 0 ∨ b = 1) with e | e <;> subst e <;> decide
theorem sl_c : ∀ b, b < 2 → ∀ i, i < 8 → nI b * 8 + nI i = nI (8 * b + i) := by decide +kernel
theorem sl_r : ∀ b, b < 2 → ∀ i, i < 8 → 8 * nI b + nI i = nI (8 * b + i) := by decide +kernel
theorem k6_r : ∀ b, b < 2 → ∀ k, k < 6 → 6 * nI b + nI k = nI (6 * b + k) := by decide +kernel
/-- the THINGS that there are -/
abbrev TT (v : Int32) : Prop := v = 0 ∨ (0 < v ∧ v < 64 ∧ 1 ≤ v - v / 8 * 8 ∧ v - v / 8 * 8 ≤ 5)
theorem tt_all : ∀ k, k < 64 → (nI k &&& 7 = nI k - nI k / 8 * 8) ∧ (nI k &&& 32 = 32 * (nI k / 32)) ∧ ((32 : Int32) - (nI k &&& 32) = 32 * (1 - nI k / 32)) ∧ ((nI k >>> (3 &&& 31)) &&& 3 = nI k / 8 - nI k / 8 / 4 * 4) ∧ (∃ j, j < 8 ∧ nI k - nI k / 8 * 8 = nI j) ∧ (∃ c, c < 4 ∧ nI k / 8 - nI k / 8 / 4 * 4 = nI c) ∧ (∃ d, d < 2 ∧ nI k / 32 = nI d) := by decide +kernel
theorem tt_mk0 : ∀ a, a < 5 → ∀ c, c < 4 → ∀ d, d < 2 → (((nI (a + 1) + 8 * nI c + 32 * nI d) = 0 ∨ (0 < (nI (a + 1) + 8 * nI c + 32 * nI d) ∧ (nI (a + 1) + 8 * nI c + 32 * nI d) < 64 ∧ 1 ≤ (nI (a + 1) + 8 * nI c + 32 * nI d) - (nI (a + 1) + 8 * nI c + 32 * nI d) / 8 * 8 ∧ (nI (a + 1) + 8 * nI c + 32 * nI d) - (nI (a + 1) + 8 * nI c + 32 * nI d) / 8 * 8 ≤ 5)) ∧ (nI (a + 1) + 8 * nI c + 32 * nI d) - (nI (a + 1) + 8 * nI c + 32 * nI d) / 8 * 8 = nI (a + 1)) := by decide +kernel
theorem tt_mk (a : Nat) (ha : a < 6) (h1 : 1 ≤ a) (c : Nat) (hc : c < 4) (d : Nat) (hd : d < 2) : TT (nI a + 8 * nI c + 32 * nI d) ∧ (nI a + 8 * nI c + 32 * nI d) - (nI a + 8 * nI c + 32 * nI d) / 8 * 8 = nI a := by
  have := tt_mk0 (a - 1) (by omega) c hc d hd
  rw [show a - 1 + 1 = a by omega] at this
  exact this
theorem tt_n {t : Int32} (h : TT t) : ∃ k, k < 64 ∧ t = nI k := by
  rcases h with e | h
  · exact ⟨0, by omega, e⟩
  · exact cdN 64 (by omega) (by lia) h.2.1
/-- the KIND of a THING -/
theorem tt_k {t : Int32} (h : TT t) : ∃ k, k < 6 ∧ t - t / 8 * 8 = nI k ∧ t &&& 7 = nI k ∧ (k = 0 ↔ t = 0) := by
  rcases h with e | h
  · subst e
    exact ⟨0, by omega, by decide, by decide, by simp⟩
  · obtain ⟨n, hn, e⟩ := cdN 64 (by omega) (by lia) h.2.1
    obtain ⟨k, hk, ek⟩ := cdN (v := t - t / 8 * 8) 6 (by omega) (by lia) (show _ < (6 : Int32) by lia)
    refine ⟨k, hk, ek, ?_, fun z => ?_, fun z => ?_⟩
    · rw [← ek, e]; exact (tt_all n hn).1
    · subst z
      rw [ek] at h
      exact absurd h.2.2.1 (by decide)
    · rw [z] at h
      exact absurd h.1 (by decide)
theorem b1v (x : Int32) (k : Nat) : ((x >>> (nI k &&& 31)) &&& 1) = 0 ∨ ((x >>> (nI k &&& 31)) &&& 1) = 1 := by
  have h := andc (x >>> (nI k &&& 31)) 1 (by decide)
  have e : (nI 1 : Int32) = 1 := rfl
  rw [e] at h
  lia
theorem bI_one (x : Int32) {k : Nat} (hk : k < 32) : (((x >>> (nI k &&& 31)) &&& 1) = 1) ↔ bI x k = true := by
  have h := bI_test x hk
  rcases b1v x k with e | e
  · rw [e] at h ⊢
    have := h.mp rfl
    rw [this]
    simp
  · rw [e] at h ⊢
    cases q : bI x k
    · rw [q] at h; exact absurd (h.mpr rfl) (by decide)
    · simp
/-- the law: class's cells of M against the reference's of N -/
def RLw (M N : MM) : Prop := (M 3 0 = N 81 2 ∧ M 3 1 = N 81 3 ∧ M 3 2 = N 81 4) ∧ (∀ q, q < 4 → M 4 q = N 84 q) ∧ (∀ b k, b < 2 → k < 6 → 1 ≤ k → M (6 + b) k = N 85 (6 * b + k)) ∧ (∀ b, b < 2 → N 85 (6 * b) = N 81 4) ∧ (∀ b k, b < 2 → k < 6 → 1 ≤ k → M (9 + b) k = N 86 (6 * b + k)) ∧ (∀ b, b < 2 → N 86 (6 * b) = 0) ∧ (∀ b, b < 2 → M 11 b = N 87 b ∧ bI (N 87 b) 0 = false) ∧ (∀ k, k < 6 → M 12 k = N 88 k) ∧ (∀ k, k < 6 → ∃ j, j < 6 ∧ N 88 k = nI j ∧ (k = 0 ↔ j = 0) ∧ bI (N 81 11) k = (bI (M 3 3) k || bI (M 3 3) j)) ∧ (∀ c, c < 4 → M 13 c = N 89 c ∧ ∃ j, j < 4 ∧ N 89 c = nI j) ∧ (0 ≤ N 81 2 ∧ N 81 2 ≤ 8) ∧ (0 ≤ N 81 3 ∧ N 81 3 ≤ 6)
theorem rl_0 {M N : MM} (h : RLw M N) : M 3 0 = N 81 2 := h.1.1
theorem rl_1 {M N : MM} (h : RLw M N) : M 3 1 = N 81 3 := h.1.2.1
theorem rl_2 {M N : MM} (h : RLw M N) : M 3 2 = N 81 4 := h.1.2.2
theorem rl_price {M N : MM} (h : RLw M N) : ∀ q, q < 4 → M 4 q = N 84 q := h.2.1
theorem rl_cost {M N : MM} (h : RLw M N) : ∀ b k, b < 2 → k < 6 → 1 ≤ k → M (6 + b) k = N 85 (6 * b + k) := h.2.2.1
theorem rl_cost0 {M N : MM} (h : RLw M N) : ∀ b, b < 2 → N 85 (6 * b) = N 81 4 := h.2.2.2.1
theorem rl_taste {M N : MM} (h : RLw M N) : ∀ b k, b < 2 → k < 6 → 1 ≤ k → M (9 + b) k = N 86 (6 * b + k) := h.2.2.2.2.1
theorem rl_taste0 {M N : MM} (h : RLw M N) : ∀ b, b < 2 → N 86 (6 * b) = 0 := h.2.2.2.2.2.1
theorem rl_lacks {M N : MM} (h : RLw M N) : ∀ b, b < 2 → M 11 b = N 87 b ∧ bI (N 87 b) 0 = false := h.2.2.2.2.2.2.1
theorem rl_twin {M N : MM} (h : RLw M N) : ∀ k, k < 6 → M 12 k = N 88 k := h.2.2.2.2.2.2.2.1
theorem rl_tw {M N : MM} (h : RLw M N) : ∀ k, k < 6 → ∃ j, j < 6 ∧ N 88 k = nI j ∧ (k = 0 ↔ j = 0) ∧ bI (N 81 11) k = (bI (M 3 3) k || bI (M 3 3) j) := h.2.2.2.2.2.2.2.2.1
theorem rl_paint {M N : MM} (h : RLw M N) : ∀ c, c < 4 → M 13 c = N 89 c ∧ ∃ j, j < 4 ∧ N 89 c = nI j := h.2.2.2.2.2.2.2.2.2.1
theorem rl_lots {M N : MM} (h : RLw M N) : 0 ≤ N 81 2 ∧ N 81 2 ≤ 8 := h.2.2.2.2.2.2.2.2.2.2.1
theorem rl_bend {M N : MM} (h : RLw M N) : 0 ≤ N 81 3 ∧ N 81 3 ≤ 6 := h.2.2.2.2.2.2.2.2.2.2.2
def lawC : List Nat := [3, 4, 6, 7, 9, 10, 11, 12, 13]
def lawR : List Nat := [84, 85, 86, 87, 88, 89]
theorem rl_eq {M M1 N N1 : MM} (h : RLw M N) (e1 : ∀ a ∈ lawC, M1 a = M a) (e2 : ∀ a ∈ lawR, N1 a = N a) (e3 : ∀ j ∈ [2, 3, 4, 11], N1 81 j = N 81 j) : RLw M1 N1 := by
  unfold RLw at h ⊢
  obtain ⟨h1, h2, h3, h4, h5, h6, h7, h8, h9, h10, h11⟩ := h
  rw [e1 3 (by decide), e1 4 (by decide), e1 11 (by decide), e1 12 (by decide), e1 13 (by decide)]
  rw [e2 84 (by decide), e2 85 (by decide), e2 86 (by decide), e2 87 (by decide), e2 88 (by decide), e2 89 (by decide)]
  rw [e3 2 (by decide), e3 3 (by decide), e3 4 (by decide), e3 11 (by decide)]
  refine ⟨h1, h2, fun b k hb hk h => ?_, h4, fun b k hb hk h => ?_, h6, h7, h8, h9, h10, h11⟩
  · rw [e1 (6 + b) (by rcases (by omega : b = 0 ∨ b = 1) with e | e <;> subst e <;> decide)]
    exact h3 b k hb hk h
  · rw [e1 (9 + b) (by rcases (by omega : b = 0 ∨ b = 1) with e | e <;> subst e <;> decide)]
    exact h5 b k hb hk h
section LF
variable {p : Int32 → MM → Int64 → Prop} {M N : MM} {tl u : Int64}
theorem el_isBank {b : Int32} (h : wpX10_isBank p M tl b) : ((0 ≤ b ∧ b < 2) → p 1 M tl) ∧ (¬ (0 ≤ b ∧ b < 2) → p 0 M tl) := by
  unfold wpX10_isBank at h
  constructor <;> intro c <;> (repeat' split at h) <;> first | exact h | (exfalso; lia)
theorem el_isKind {b : Int32} (h : wpX10_isKind p M tl b) : ((0 ≤ b ∧ b < 6) → p 1 M tl) ∧ (¬ (0 ≤ b ∧ b < 6) → p 0 M tl) := by
  unfold wpX10_isKind at h
  constructor <;> intro c <;> (repeat' split at h) <;> first | exact h | (exfalso; lia)
theorem el_isBuilt {b : Int32} (h : wpX10_isBuilt p M tl b) : ((1 ≤ b ∧ b < 6) → p 1 M tl) ∧ (¬ (1 ≤ b ∧ b < 6) → p 0 M tl) := by
  unfold wpX10_isBuilt at h
  constructor <;> intro c <;> (repeat' split at h) <;> first | exact h | (exfalso; lia)
theorem el_isSlot {b i : Int32} (h : wpX10_isSlot p M tl b i) : (((0 ≤ b ∧ b < 2) ∧ 0 ≤ i ∧ i < 8) → p 1 M tl) ∧ (¬ ((0 ≤ b ∧ b < 2) ∧ 0 ≤ i ∧ i < 8) → p 0 M tl) := by
  unfold wpX10_isSlot at h
  have g := el_isBank h
  by_cases q : 0 ≤ b ∧ b < 2
  · have g := i10 (g.1 q)
    constructor <;> intro c <;> (repeat' split at g) <;> first | exact g | (exfalso; lia)
  · exact ⟨fun c => absurd c.1 q, fun _ => i00 (g.2 q)⟩
/-- such a LOT -/
abbrev lotP (N : MM) (b i : Int32) : Prop := (0 ≤ b ∧ b < 2) ∧ 0 ≤ i ∧ i < N 81 2
theorem el_c_isLot {b i : Int32} (R : RLw M N) (h : wpX1_isLot p M tl 3 b i) : (lotP N b i → p 1 M tl) ∧ (¬ lotP N b i → p 0 M tl) := by
  unfold wpX1_isLot at h
  have g := el_isSlot h
  have l := rl_lots R
  by_cases q : (0 ≤ b ∧ b < 2) ∧ 0 ≤ i ∧ i < 8
  · have g := (i10 (g.1 q)).2
    rw [rl_0 R] at g
    constructor <;> intro c <;> (split at g) <;> first | exact g | (exfalso; lia)
  · exact ⟨fun c => absurd (show (0 ≤ b ∧ b < 2) ∧ 0 ≤ i ∧ i < 8 by lia) q, fun _ => i00 (g.2 q)⟩
theorem el_in {v : Int32} {V L H : Int64} (lo hi : Int32) (hV : V = v.toInt64) (hL : L = lo.toInt64) (hH : H = hi.toInt64) (h : wpX11_in p N u V L H) : ((lo ≤ v ∧ v ≤ hi) → p 1 N u) ∧ (¬ (lo ≤ v ∧ v ≤ hi) → p 0 N u) := by
  subst hV; subst hL; subst hH
  unfold wpX11_in at h
  by_cases c1 : v < lo
  · have := Int32.lt_iff_toInt_lt.mp c1
    have h := ip (lc_lt (k := lo.toInt) (Int32.toInt_toInt64 lo) (by rw [Int32.toInt_toInt64]; exact this)) h
    exact ⟨fun q => absurd q.1 (by lia), fun _ => h⟩
  · have e1 : lo.toInt ≤ v.toInt := Int.not_lt.mp (fun q => c1 (Int32.lt_iff_toInt_lt.mpr q))
    have h := iq (lc_nlt (k := lo.toInt) (Int32.toInt_toInt64 lo) (by rw [Int32.toInt_toInt64]; exact e1)) h
    by_cases c2 : hi < v
    · have := Int32.lt_iff_toInt_lt.mp c2
      have h := ip (lc_gt (k := hi.toInt) (Int32.toInt_toInt64 hi) (by rw [Int32.toInt_toInt64]; exact this)) h
      exact ⟨fun q => absurd q.2 (by lia), fun _ => h⟩
    · have e2 : v.toInt ≤ hi.toInt := Int.not_lt.mp (fun q => c2 (Int32.lt_iff_toInt_lt.mpr q))
      have h := iq (lc_ngt (k := hi.toInt) (Int32.toInt_toInt64 hi) (by rw [Int32.toInt_toInt64]; exact e2)) h
      exact ⟨fun _ => h, fun q => absurd (show lo ≤ v ∧ v ≤ hi by lia) q⟩
theorem el_flag {v : Int32} (h : wpX11_flag p N u v) : (v = 0 → p 0 N u) ∧ (v ≠ 0 → p 1 N u) := by
  unfold wpX11_flag at h
  exact ⟨fun c => ip c h, fun c => iq c h⟩
theorem el_r_isKind {k : Int32} (h : wpX11_isKind p N u k) : ((0 ≤ k ∧ k < 6) → p 1 N u) ∧ (¬ (0 ≤ k ∧ k < 6) → p 0 N u) := by
  unfold wpX11_isKind at h
  have g := el_in 0 5 rfl rfl rfl h
  exact ⟨fun c => (g.1 (by lia)).2, fun c => (g.2 (by lia)).2⟩
theorem el_r_isBank {k : Int32} (h : wpX11_isBank p N u k) : ((0 ≤ k ∧ k < 2) → p 1 N u) ∧ (¬ (0 ≤ k ∧ k < 2) → p 0 N u) := by
  unfold wpX11_isBank at h
  have g := el_in 0 1 rfl rfl rfl h
  exact ⟨fun c => (g.1 (by lia)).2, fun c => (g.2 (by lia)).2⟩
theorem el_r_isLot {b i : Int32} (l : 0 ≤ N 81 2 ∧ N 81 2 ≤ 8) (h : wpX11_isLot p N u b i) : (lotP N b i → p 1 N u) ∧ (¬ lotP N b i → p 0 N u) := by
  unfold wpX11_isLot at h
  have g := el_r_isBank h
  by_cases q : 0 ≤ b ∧ b < 2
  · have g := i10 (g.1 q)
    have g := el_in 0 (N 81 2 - 1) rfl rfl rfl g
    exact ⟨fun c => i10 (g.1 (by lia)), fun c => i00 (g.2 (by lia))⟩
  · exact ⟨fun c => absurd c.1 q, fun _ => i00 (g.2 q)⟩
theorem el_c_isThing {t : Int32} (h : wpX10_isThing p M tl t) : (TT t → p 1 M tl) ∧ (¬ TT t → p 0 M tl) := by
  unfold wpX10_isThing at h
  by_cases q : t = 0
  · exact ⟨fun _ => ip q h, fun c => absurd (Or.inl q) c⟩
  · have h := iq q h
    by_cases q1 : t ≤ 0
    · exact ⟨fun c => by rcases c with c | c; · exact absurd c q
                         · exfalso; lia, fun _ => ip q1 h⟩
    · have h := iq q1 h
      by_cases q2 : 64 ≤ t
      · exact ⟨fun c => by rcases c with c | c; · exact absurd c q
                           · exfalso; lia, fun _ => ip q2 h⟩
      · have h := el_isBuilt (iq q2 h)
        obtain ⟨n, hn, e⟩ := cdN (v := t) 64 (by omega) (by lia) (show t < (64 : Int32) by lia)
        have e7 : t &&& 7 = t - t / 8 * 8 := by rw [e]; exact (tt_all n hn).1
        rw [e7] at h
        constructor
        · intro c
          rcases c with c | c
          · exact absurd c q
          · exact i10 (h.1 (by lia))
        · intro c
          exact i00 (h.2 (fun z => c (Or.inr (by lia))))
theorem el_r_isThing {t : Int32} (h : wpX11_isThing p N u t) : (TT t → p 1 N u) ∧ (¬ TT t → p 0 N u) := by
  unfold wpX11_isThing at h
  by_cases q : t = 0
  · exact ⟨fun _ => ip q h, fun c => absurd (Or.inl q) c⟩
  · have h := el_in 0 63 rfl rfl rfl (iq q h)
    by_cases q1 : 0 ≤ t ∧ t ≤ 63
    · have h := el_in 1 5 rfl rfl rfl (i10 (h.1 q1))
      constructor
      · intro c
        rcases c with c | c
        · exact absurd c q
        · exact i10 (h.1 (by lia))
      · intro c
        exact i00 (h.2 (fun z => c (Or.inr (by lia))))
    · refine ⟨fun c => ?_, fun _ => i00 (h.2 q1)⟩
      rcases c with c | c
      · exact absurd c q
      · exact absurd (show 0 ≤ t ∧ t ≤ 63 by lia) q1
/-- the LOT that is MATCHED, by a BEND -/
def matB (N : MM) (y b i : Int32) : Int32 := if b = 0 then (if 0 ≤ (i + y) - 3 ∧ (i + y) - 3 < N 81 2 then (i + y) - 3 else -4) else (if 0 ≤ (i - y) + 3 ∧ (i - y) + 3 < N 81 2 then (i - y) + 3 else -4)
def mat (N : MM) (b i : Int32) : Int32 := matB N (N 81 3) b i
theorem matB_v (N : MM) (y b i : Int32) : matB N y b i = -4 ∨ (0 ≤ matB N y b i ∧ matB N y b i < N 81 2) := by
  unfold matB
  repeat' split
  all_goals first | exact Or.inl rfl | (right; assumption)
theorem mat_v (N : MM) (b i : Int32) : mat N b i = -4 ∨ (0 ≤ mat N b i ∧ mat N b i < N 81 2) := matB_v _ _ _ _
theorem el_c_matchBy {y b i : Int32} (R : RLw M N) (h : wpX1_matchBy p M tl 3 y b i) : p (matB N y b i) M tl := by
  unfold wpX1_matchBy wX1_matchBy_17 at h
  unfold matB
  rw [rl_0 R] at h
  (repeat' split at h) <;> (repeat' split) <;> first | exact h | exact h.2 | (exfalso; lia)
theorem el_c_matchOf {b i : Int32} (R : RLw M N) (h : wpX1_matchOf p M tl 3 b i) : p (mat N b i) M tl := by
  unfold wpX1_matchOf at h
  have g := el_c_matchBy R h.2.2
  rw [rl_1 R] at g
  exact g
theorem el_r_matchBy {y b i : Int32} (l : 0 ≤ N 81 2 ∧ N 81 2 ≤ 8) (h : wpX11_matchBy p N u y b i) : p (matB N y b i) N u := by
  unfold wpX11_matchBy wX11_matchBy_17 at h
  unfold matB
  split at h
  · rename_i c
    rw [if_pos c]
    have g := el_in 0 (N 81 2 - 1) rfl rfl rfl h
    split
    · exact i10 (g.1 (by lia))
    · exact i00 (g.2 (by lia))
  · rename_i c
    rw [if_neg c]
    have g := el_in 0 (N 81 2 - 1) rfl rfl rfl h
    split
    · exact i10 (g.1 (by lia))
    · exact i00 (g.2 (by lia))
theorem el_r_matchOf {b i : Int32} (l : 0 ≤ N 81 2 ∧ N 81 2 ≤ 8) (h : wpX11_matchOf p N u b i) : p (mat N b i) N u := by
  unfold wpX11_matchOf at h
  exact el_r_matchBy l h
theorem el_c_twinOf {k : Nat} (hk : k < 6) (R : RLw M N) (h : wpX1_twinOf p M tl 3 (nI k)) : p (N 88 k) M tl := by
  unfold wpX1_twinOf at h
  have g := (i10 ((el_isKind h).1 ⟨nJ_ge0 (by omega), (kI_lt (b := 6) (by omega) (by omega)).mpr hk⟩)).2.2.2
  rw [tn_nI (by omega)] at g
  rw [← rl_twin R k hk]
  exact g
theorem bb2 {b : Nat} (h : b < 2) : 0 ≤ nI b ∧ nI b < 2 := ⟨nJ_ge0 (by omega), (kI_lt (b := 2) (by omega) (by omega)).mpr h⟩
theorem el_c_costOf {b k : Nat} (hb : b < 2) (hk : k < 6) (R : RLw M N) (h : wpX1_costOf p M tl 3 (nI b) (nI k)) : p (N 85 (6 * b + k)) M tl := by
  unfold wpX1_costOf at h
  have g := el_isBuilt (i10 ((el_isBank h).1 (bb2 hb)))
  by_cases q : 1 ≤ k
  · have g := (i10 (g.1 ⟨(kI_le (a := 1) (by omega) (by omega)).mpr q, (kI_lt (b := 6) (by omega) (by omega)).mpr hk⟩)).2.2.2.2.2
    rw [tn_nI (by omega), tn_nI (by omega), show 3 + 2 + 1 + b = 6 + b by omega, rl_cost R b k hb hk q] at g
    exact g
  · have e : k = 0 := by omega
    subst e
    have g := i00 (g.2 (by decide))
    unfold wX1_costOf_25 at g
    rw [rl_2 R] at g
    rw [Nat.add_zero, rl_cost0 R b hb]
    exact g.2
theorem el_c_tasteOf {b k : Nat} (hb : b < 2) (hk : k < 6) (R : RLw M N) (h : wpX1_tasteOf p M tl 3 (nI b) (nI k)) : p (N 86 (6 * b + k)) M tl := by
  unfold wpX1_tasteOf at h
  have g := el_isBuilt (i10 ((el_isBank h).1 (bb2 hb)))
  by_cases q : 1 ≤ k
  · have g := (i10 (g.1 ⟨(kI_le (a := 1) (by omega) (by omega)).mpr q, (kI_lt (b := 6) (by omega) (by omega)).mpr hk⟩)).2.2.2.2.2
    rw [tn_nI (by omega), tn_nI (by omega), show 3 + 5 + 1 + b = 9 + b by omega, rl_taste R b k hb hk q] at g
    exact g
  · have e : k = 0 := by omega
    subst e
    have g := i00 (g.2 (by decide))
    rw [Nat.add_zero, rl_taste0 R b hb]
    exact g
/-- whether a BANK LACKS a KIND -/
abbrev lkP (N : MM) (b k : Nat) : Prop := bI (N 87 b) k = true
theorem el_c_lacks {b k : Nat} (hb : b < 2) (hk : k < 6) (R : RLw M N) (h : wpX1_lacks p M tl 3 (nI b) (nI k)) : (lkP N b k → p 1 M tl) ∧ (¬ lkP N b k → p 0 M tl) := by
  unfold wpX1_lacks at h
  have g := el_isBuilt (i10 ((el_isBank h).1 (bb2 hb)))
  have l := rl_lacks R b hb
  by_cases q : 1 ≤ k
  · have g := (i10 (g.1 ⟨(kI_le (a := 1) (by omega) (by omega)).mpr q, (kI_lt (b := 6) (by omega) (by omega)).mpr hk⟩)).2.2.2
    rw [tn_nI (by omega), show 3 + 8 = 11 by omega, l.1] at g
    have t := bI_test (N 87 b) (k := k) (by omega)
    refine ⟨fun c => iq (fun z => ?_) g, fun c => ip (t.mpr ?_) g⟩
    · have := t.mp z
      rw [c] at this
      exact absurd this (by decide)
    · cases z : bI (N 87 b) k
      · rfl
      · exact absurd z c
  · have e : k = 0 := by omega
    subst e
    have g := i00 (g.2 (by decide))
    exact ⟨fun c => by rw [lkP, l.2] at c; exact absurd c (by decide), fun _ => g⟩
theorem el_r_doesLack {b k : Nat} (hb : b < 2) (hk : k < 6) (h : wpX11_doesLack p N u (nI b) (nI k)) : (lkP N b k → p 1 N u) ∧ (¬ lkP N b k → p 0 N u) := by
  unfold wpX11_doesLack at h
  have g := h.2
  rw [tn_nI (by omega)] at g
  have t := bI_one (N 87 b) (k := k) (by omega)
  exact ⟨fun c => ip (t.mpr c) g, fun c => iq (fun z => c (t.mp z)) g⟩
theorem nI_ge1 {k : Nat} (hk : k < 6) : (1 ≤ nI k ∧ nI k < 6) ↔ 1 ≤ k := by
  constructor
  · intro h; exact (kI_le (a := 1) (by omega) (by omega)).mp h.1
  · intro h; exact ⟨(kI_le (a := 1) (by omega) (by omega)).mpr h, (kI_lt (b := 6) (by omega) (by omega)).mpr hk⟩
/-- the MIRROR of a THING -/
def mirF (N : MM) (t : Int32) : Int32 := if t = 0 then 0 else ((N 88 (t - t / 8 * 8).toNatClampNeg) + ((8 : Int32) * (N 89 ((t / 8) - (t / 8) / 4 * 4).toNatClampNeg))) + ((32 : Int32) * (if (((N 81 11) >>> ((t - t / 8 * 8) &&& 31)) &&& 1) = 1 then t / 32 else (1 : Int32) - (t / 32)))
theorem el_r_mirrorOf {t : Int32} (h : wpX11_mirrorOf p N u t) : p (mirF N t) N u := by
  unfold wpX11_mirrorOf wX11_mirrorOf_29 at h
  unfold mirF
  (repeat' split at h) <;> (repeat' split) <;> first | exact h | exact h.2.2 | contradiction
theorem el_c_doorStays {k : Nat} (hk : k < 6) (R : RLw M N) (h : wpX1_doorStays p M tl 3 (nI k)) : (bI (N 81 11) k = true → p 1 M tl) ∧ (¬ bI (N 81 11) k = true → p 0 M tl) := by
  unfold wpX1_doorStays at h
  have g := h.2
  obtain ⟨j, hj, e1, _, e2⟩ := rl_tw R k hk
  rw [tn_nI (by omega), show 3 + 9 = 12 by omega, rl_twin R k hk, e1] at g
  have t1 := bI_test (M 3 3) (k := k) (by omega)
  have t2 := bI_test (M 3 3) (k := j) (by omega)
  rw [e2]
  by_cases q : bI (M 3 3) k = false
  · have g := (ip (t1.mpr q) g).2.2.2.2
    rw [q]
    by_cases q2 : bI (M 3 3) j = false
    · rw [q2]
      exact ⟨fun c => absurd c (by decide), fun _ => ip (t2.mpr q2) g⟩
    · have q3 : bI (M 3 3) j = true := by simpa using q2
      rw [q3]
      exact ⟨fun _ => iq (fun z => q2 (t2.mp z)) g, fun c => absurd rfl c⟩
  · have q3 : bI (M 3 3) k = true := by simpa using q
    rw [q3]
    exact ⟨fun _ => iq (fun z => q (t1.mp z)) g, fun c => absurd rfl c⟩
theorem el_c_mirrorOf {t : Int32} (R : RLw M N) (ht : TT t) (h : wpX1_mirrorOf p M tl 3 t) : p (mirF N t) M tl := by
  unfold wpX1_mirrorOf at h
  obtain ⟨k, hk, e1, e2, e3⟩ := tt_k ht
  obtain ⟨n, hn, en⟩ := tt_n ht
  obtain ⟨x1, x2, x3, x4, _, ⟨c, hc, ec⟩, _⟩ := tt_all n hn
  rw [← en] at x1 x2 x3 x4 ec
  have g := el_isBuilt h
  rw [e2] at g
  unfold mirF
  by_cases q : t = 0
  · rw [if_pos q]
    have k0 := e3.mpr q
    subst k0
    exact i00 (g.2 (by decide))
  · rw [if_neg q, e1]
    have k1 : 1 ≤ k := by
      have : k ≠ 0 := fun z => q (e3.mp z)
      omega
    have g := (i10 (g.1 ((nI_ge1 hk).mpr k1))).2
    have g := el_c_doorStays hk R g
    have t1 := bI_one (N 81 11) (k := k) (by omega)
    have fin : ∀ (s w : Int32), s = 32 * w → wX1_mirrorOf_35 p M tl 3 t (nI k) s → p (N 88 (nI k).toNatClampNeg + 8 * N 89 (t / 8 - t / 8 / 4 * 4).toNatClampNeg + 32 * w) M tl := by
      intro s w hs h
      unfold wX1_mirrorOf_35 at h
      have h := h.2.2.2.2.2.2
      rw [x4, ec, tn_nI (by omega), tn_nI (by omega), show 3 + 9 = 12 by omega, show 3 + 10 = 13 by omega, rl_twin R k hk, (rl_paint R c hc).1, hs] at h
      rw [ec, tn_nI (by omega), tn_nI (by omega)]
      exact h
    by_cases q2 : bI (N 81 11) k = true
    · rw [if_pos (t1.mpr q2)]
      exact fin _ _ x2 (i10 (g.1 q2))
    · rw [if_neg (fun z => q2 (t1.mp z))]
      exact fin _ _ x3 (i00 (g.2 q2))
end LF
theorem mirF_tt {M N : MM} (R : RLw M N) {t : Int32} (ht : TT t) : TT (mirF N t) := by
  unfold mirF
  obtain ⟨k, hk, e1, e2, e3⟩ := tt_k ht
  obtain ⟨n, hn, en⟩ := tt_n ht
  obtain ⟨x1, x2, x3, x4, _, ⟨c, hc, ec⟩, ⟨d, hd, ed⟩⟩ := tt_all n hn
  rw [← en] at x1 x2 x3 x4 ec ed
  by_cases q : t = 0
  · rw [if_pos q]; exact Or.inl rfl
  · rw [if_neg q, e1, ec, ed, tn_nI (by omega), tn_nI (by omega)]
    obtain ⟨j, hj, f1, f2, _⟩ := rl_tw R k hk
    obtain ⟨_, m, hm, g1⟩ := rl_paint R c hc
    have k1 : j ≠ 0 := fun z => q (e3.mp (f2.mpr z))
    rw [f1, g1]
    split
    · exact (tt_mk j hj (by omega) m hm d hd).1
    · rw [nI_1b hd]
      exact (tt_mk j hj (by omega) m hm (1 - d) (by omega)).1
/-- the LOT as numbers -/
theorem lot_n {N : MM} {b i : Int32} (l : 0 ≤ N 81 2 ∧ N 81 2 ≤ 8) (h : lotP N b i) : ∃ c j, c < 2 ∧ j < 8 ∧ b = nI c ∧ i = nI j ∧ nI j < N 81 2 := by
  obtain ⟨c, hc, e1⟩ := cdN 2 (by omega) h.1.1 h.1.2
  obtain ⟨j, hj, e2⟩ := cdN 8 (by omega) h.2.1 (show i < (8 : Int32) by lia)
  exact ⟨c, j, hc, hj, e1, e2, by rw [← e2]; exact h.2.2⟩
