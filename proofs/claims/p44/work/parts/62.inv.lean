/-! SAFETY: bounds that every call keeps; frames; contracts (printed and by hand: wip/gen/vc.py) -/
theorem vpI {x c : Int32} {n : Nat} (hc : c.toInt = n) (h0 : 0 ≤ x) (h1 : x < c) : vp_in x n := by
  refine vp_of (i_ge_to (k := 0) (by decide) h0) ?_
  have := Int32.lt_iff_toInt_lt.mp h1
  omega
theorem nJ_le {i B : Nat} (h : i ≤ B) (hB : B < 2147483648) : nI i ≤ nI B := Int32.le_iff_toInt_le.mpr (by rw [nI_sm (by omega), nI_sm hB]; omega)
theorem nJ_ge0 {i : Nat} (h : i < 2147483648) : 0 ≤ nI i := Int32.le_iff_toInt_le.mpr (by rw [nI_sm h]; exact Int.natCast_nonneg _)
theorem nJ_lt {i B : Nat} (hB : B < 2147483648) (h : nI i < nI B) (hi : i < 2147483648) : i < B := by
  have := Int32.lt_iff_toInt_lt.mp h
  rw [nI_sm hi, nI_sm hB] at this
  omega
/-- an up-counting loop: v runs from 0 to B at most -/
theorem up_loop {P : Nat → Int32 → Prop} {B : Nat} (hB : B < 2147483647) (c : Int32) (hc : c = nI B) (step : ∀ (d : Nat) (v : Int32), 0 ≤ v → v ≤ c → (v < c → P d (v + 1)) → P (d + 1) v) : ∀ (d i : Nat), i + d = B → P (d + 1) (nI i) := by
  subst hc
  intro d
  induction d with
  | zero =>
    intro i hi
    refine step 0 (nI i) (nJ_ge0 (by omega)) (nJ_le (by omega) (by omega)) (fun h => ?_)
    have := nJ_lt (by omega) h (by omega)
    omega
  | succ d ih =>
    intro i hi
    refine step (d + 1) (nI i) (nJ_ge0 (by omega)) (nJ_le (by omega) (by omega)) (fun h => ?_)
    rw [nI_s1]
    exact ih (i + 1) (by omega)
def Fr (I : List Nat) (J : List (Nat × Nat)) (M M' : MM) : Prop := ∀ a j, a ∉ I → (a, j) ∉ J → M' a j = M a j
theorem fr_rfl {I : List Nat} {J : List (Nat × Nat)} {M : MM} : Fr I J M M := fun _ _ _ _ => rfl
theorem fr_arr {I : List Nat} {J : List (Nat × Nat)} {M M1 : MM} {a j : Nat} {v : Int32} (h : Fr I J M M1) (ha : a ∈ I) : Fr I J M (mset M1 a j v) := fun b k hb hk => by
  rw [mset_ne (i := b) (fun e => hb (by rw [e]; exact ha))]; exact h b k hb hk
theorem fr_fld {I : List Nat} {J : List (Nat × Nat)} {M M1 : MM} {a j : Nat} {v : Int32} (h : Fr I J M M1) (ha : (a, j) ∈ J) : Fr I J M (mset M1 a j v) := fun b k hb hk => by
  rw [mset_if, if_neg (fun e => hk (by rw [e.1, e.2]; exact ha))]; exact h b k hb hk
theorem fr_row {I : List Nat} {J : List (Nat × Nat)} {M M1 : MM} {a : Nat} {f : Nat → Int32} (h : Fr I J M M1) (ha : a ∈ I) : Fr I J M (mrow M1 a f) := fun b k hb hk => by
  rw [mrow_ne (i := b) (fun e => hb (by rw [e]; exact ha))]; exact h b k hb hk
theorem fr_call {I I' : List Nat} {J J' : List (Nat × Nat)} {M M1 M2 : MM} (h : Fr I J M M1) (h' : Fr I' J' M1 M2) (hI : ∀ x ∈ I', x ∈ I) (hJ : ∀ x ∈ J', x ∈ J ∨ x.1 ∈ I) : Fr I J M M2 := fun b k hb hk => by
  rw [h' b k (fun q => hb (hI b q)) (fun q => (hJ _ q).elim hk hb)]
  exact h b k hb hk
theorem and7 (x : Int32) : 0 ≤ (x &&& 7) ∧ (x &&& 7) ≤ 7 := by
  have h : ∀ b : BitVec 32, (b &&& 7#32).toNat ≤ 7 := fun b => by rw [BitVec.toNat_and]; exact Nat.and_le_right
  have h2 := h x.toBitVec
  have e : (x &&& 7) = nI (x.toBitVec &&& 7#32).toNat := by
    apply Int32.toBitVec_inj.mp
    show x.toBitVec &&& 7#32 = BitVec.ofNat 32 (x.toBitVec &&& 7#32).toNat
    simp
  rw [e]
  exact ⟨nJ_ge0 (by omega), nJ_le (B := 7) h2 (by decide)⟩
theorem andc (x : Int32) (c : Nat) (hc : c < 2147483648) : 0 ≤ (x &&& nI c) ∧ (x &&& nI c) ≤ nI c := by
  have h2 : (x.toBitVec &&& BitVec.ofNat 32 c).toNat ≤ c := by
    rw [BitVec.toNat_and, BitVec.toNat_ofNat]
    exact Nat.le_trans Nat.and_le_right (Nat.mod_le _ _)
  have e : (x &&& nI c) = nI (x.toBitVec &&& BitVec.ofNat 32 c).toNat := by
    apply Int32.toBitVec_inj.mp
    show x.toBitVec &&& BitVec.ofNat 32 c = BitVec.ofNat 32 (x.toBitVec &&& BitVec.ofNat 32 c).toNat
    simp [Nat.mod_eq_of_lt (show c < 4294967296 by omega)]
  rw [e]
  exact ⟨nJ_ge0 (by omega), nJ_le h2 (by omega)⟩
theorem nar_b {r : Int32} (h : r = 0 ∨ r = 1) : narrow .boolean (.int r) = .int r := by
  rcases h with h | h <;> subst h <;> rfl
theorem cs2 {v : Int32} (h0 : 0 ≤ v) (h1 : v < 2) : v = 0 ∨ v = 1 := by lia
theorem cs4 {v : Int32} (h0 : 0 ≤ v) (h1 : v < 4) : v = 0 ∨ v = 1 ∨ v = 2 ∨ v = 3 := by lia
theorem m_in {post : Int32 → MM → Int64 → Prop} {M : MM} {tl : Int64} {v lo hi : Int32} {V L H : Int64} (hV : V = v.toInt64) (hL : L = lo.toInt64) (hH : H = hi.toInt64) (h1 : lo ≤ v → v ≤ hi → post 1 M tl) (h0 : ¬ (lo ≤ v ∧ v ≤ hi) → post 0 M tl) : wpX11_in post M tl V L H := by
  subst hV; subst hL; subst hH
  unfold wpX11_in
  by_cases c1 : v < lo
  · have := Int32.lt_iff_toInt_lt.mp c1
    exact ifp (lc_lt (k := lo.toInt) (Int32.toInt_toInt64 lo) (by rw [Int32.toInt_toInt64]; exact this)) (h0 (by lia))
  · have e1 : lo.toInt ≤ v.toInt := Int.not_lt.mp (fun q => c1 (Int32.lt_iff_toInt_lt.mpr q))
    refine ifn (lc_nlt (k := lo.toInt) (Int32.toInt_toInt64 lo) (by rw [Int32.toInt_toInt64]; exact e1)) ?_
    by_cases c2 : hi < v
    · have := Int32.lt_iff_toInt_lt.mp c2
      exact ifp (lc_gt (k := hi.toInt) (Int32.toInt_toInt64 hi) (by rw [Int32.toInt_toInt64]; exact this)) (h0 (by lia))
    · have e2 : v.toInt ≤ hi.toInt := Int.not_lt.mp (fun q => c2 (Int32.lt_iff_toInt_lt.mpr q))
      exact ifn (lc_ngt (k := hi.toInt) (Int32.toInt_toInt64 hi) (by rw [Int32.toInt_toInt64]; exact e2)) (h1 (by lia) (by lia))
theorem ad1 {v c : Int32} (h : v < c) : (v + 1).toInt = v.toInt + 1 := by
  have h1 := Int32.lt_iff_toInt_lt.mp h
  have h2 := Int32.toInt_lt c
  have h3 := Int32.le_toInt v
  rw [Int32.toInt_add, show (1 : Int32).toInt = 1 from rfl, Int.bmod_def]
  split <;> omega
theorem up_ex {P : Nat → Int32 → Prop} (lo c : Int32) (step : ∀ (d : Nat) (v : Int32), lo ≤ v → v ≤ c → (v < c → P d (v + 1)) → P (d + 1) v) : ∀ v, lo ≤ v → v ≤ c → ∃ n, P n v := by
  have key : ∀ (k : Nat) (v : Int32), (c.toInt - v.toInt).toNat ≤ k → lo ≤ v → v ≤ c → ∃ n, P n v := by
    intro k
    induction k with
    | zero =>
      intro v hk h0 h1
      exact ⟨0 + 1, step 0 v h0 h1 (fun h => by have := Int32.lt_iff_toInt_lt.mp h; omega)⟩
    | succ k ih =>
      intro v hk h0 h1
      by_cases h : v < c
      · have e := ad1 h
        have h2 := Int32.lt_iff_toInt_lt.mp h
        obtain ⟨n, hn⟩ := ih (v + 1) (by omega) (by lia) (by lia)
        exact ⟨n + 1, step n v h0 h1 (fun _ => hn)⟩
      · exact ⟨0 + 1, step 0 v h0 h1 (fun q => absurd q h)⟩
  exact fun v => key _ v (Nat.le_refl _)
theorem dn_ex {P : Nat → Int32 → Prop} (s c : Int32) (hs : s = -1 ∨ s = -8) (hc : c ≤ 100000) (step : ∀ (d : Nat) (v : Int32), -8 ≤ v → v ≤ c → (0 ≤ v → P d (v + s)) → P (d + 1) v) : ∀ v, -8 ≤ v → v ≤ c → ∃ n, P n v := by
  have key : ∀ (k : Nat) (v : Int32), (v.toInt + 9).toNat ≤ k → -8 ≤ v → v ≤ c → ∃ n, P n v := by
    intro k
    induction k with
    | zero =>
      intro v hk h0 h1
      exact ⟨0 + 1, step 0 v h0 h1 (fun h => by have := i_ge_to (k := 0) (by decide) h; omega)⟩
    | succ k ih =>
      intro v hk h0 h1
      by_cases h : 0 ≤ v
      · have h2 := i_ge_to (k := 0) (by decide) h
        have e : (v + s).toInt < v.toInt := Int32.lt_iff_toInt_lt.mp (by lia)
        obtain ⟨n, hn⟩ := ih (v + s) (by omega) (by lia) (by lia)
        exact ⟨n + 1, step n v h0 h1 (fun _ => hn)⟩
      · exact ⟨0 + 1, step 0 v h0 h1 (fun q => absurd q h)⟩
  exact fun v => key _ v (Nat.le_refl _)
/-- a loop whose counter is a cell -/
theorem cell_ex {P : Nat → MM → Int64 → Prop} {D : MM → Prop} (a j B : Nat) (hB : B < 1000000) (hD : ∀ M, D M → 0 ≤ M a j ∧ M a j ≤ nI B) (step : ∀ (d : Nat) (M : MM) (tl : Int64), D M → (∀ (M' : MM) (tl' : Int64), D M' → M' a j = M a j + 1 → P d M' tl') → P (d + 1) M tl) : ∀ (M : MM) (tl : Int64), D M → P (B + 1) M tl := by
  have key : ∀ (d : Nat) (M : MM) (tl : Int64), D M → (B : Int) - (M a j).toInt ≤ d → P (d + 1) M tl := by
    intro d
    induction d with
    | zero =>
      intro M tl hM hd
      refine step 0 M tl hM (fun M' tl' hM' e => ?_)
      have h1 := hD M hM
      have h2 := hD M' hM'
      have h3 := Int32.le_iff_toInt_le.mp h1.2
      rw [nI_sm (by omega)] at h3
      have h4 : M a j = nI B := Int32.toInt_inj.mp (by rw [nI_sm (by omega)]; omega)
      rw [e, h4, nI_s1] at h2
      have h5 := Int32.le_iff_toInt_le.mp h2.2
      rw [nI_sm (by omega), nI_sm (by omega)] at h5
      omega
    | succ d ih =>
      intro M tl hM hd
      refine step (d + 1) M tl hM (fun M' tl' hM' e => ?_)
      have h1 := hD M hM
      have h3 := Int32.le_iff_toInt_le.mp h1.2
      rw [nI_sm (by omega)] at h3
      have h4 : (M' a j).toInt = (M a j).toInt + 1 := by
        rw [e]
        exact ad1 (c := nI (B + 1)) (Int32.lt_iff_toInt_lt.mpr (by rw [nI_sm (by omega)]; omega))
      exact ih M' tl' hM' (by omega)
  intro M tl hM
  have h1 := hD M hM
  have h2 := i_ge_to (k := 0) (by decide) h1.1
  exact key B M tl hM (by omega)
