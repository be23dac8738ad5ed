/-! P1: EVERY CALL ON THE FRESH OBJECT. In range: run by the kernel. Out of range: walked by program (printed by wip/gen/sym.py) -/
theorem ifp {c : Prop} [Decidable c] {a b : Prop} (h : c) (k : a) : if c then a else b := by rw [if_pos h]; exact k
theorem ifn {c : Prop} [Decidable c] {a b : Prop} (h : ¬ c) (k : b) : if c then a else b := by rw [if_neg h]; exact k
theorem ifs {c : Prop} [Decidable c] {a b : Prop} (h : c → a) (k : ¬ c → b) : if c then a else b := by
  by_cases hc : c
  · rw [if_pos hc]; exact h hc
  · rw [if_neg hc]; exact k hc
section I32
variable {v c : Int32} {k : Int}
theorem i_lt (hk : c.toInt = k) (h : v.toInt < k) : v < c := Int32.lt_iff_toInt_lt.mpr (by omega)
theorem i_nlt (hk : c.toInt = k) (h : k ≤ v.toInt) : ¬ v < c := fun q => by have := Int32.lt_iff_toInt_lt.mp q; omega
theorem i_le (hk : c.toInt = k) (h : v.toInt ≤ k) : v ≤ c := Int32.le_iff_toInt_le.mpr (by omega)
theorem i_nle (hk : c.toInt = k) (h : k < v.toInt) : ¬ v ≤ c := fun q => by have := Int32.le_iff_toInt_le.mp q; omega
theorem i_gt (hk : c.toInt = k) (h : k < v.toInt) : c < v := Int32.lt_iff_toInt_lt.mpr (by omega)
theorem i_ngt (hk : c.toInt = k) (h : v.toInt ≤ k) : ¬ c < v := fun q => by have := Int32.lt_iff_toInt_lt.mp q; omega
theorem i_ge (hk : c.toInt = k) (h : k ≤ v.toInt) : c ≤ v := Int32.le_iff_toInt_le.mpr (by omega)
theorem i_nge (hk : c.toInt = k) (h : v.toInt < k) : ¬ c ≤ v := fun q => by have := Int32.le_iff_toInt_le.mp q; omega
theorem i_ne (hk : c.toInt = k) (h : v.toInt ≠ k) : ¬ v = c := fun q => by subst q; omega
theorem i_eq (hk : c.toInt = k) (h : v.toInt = k) : v = c := Int32.toInt_inj.mp (by omega)
theorem i_lt_to (hk : c.toInt = k) (h : v < c) : v.toInt < k := by have := Int32.lt_iff_toInt_lt.mp h; omega
theorem i_nlt_to (hk : c.toInt = k) (h : ¬ v < c) : k ≤ v.toInt := Int.not_lt.mp (fun q => h (i_lt hk q))
theorem i_le_to (hk : c.toInt = k) (h : v ≤ c) : v.toInt ≤ k := by have := Int32.le_iff_toInt_le.mp h; omega
theorem i_nle_to (hk : c.toInt = k) (h : ¬ v ≤ c) : k < v.toInt := Int.not_le.mp (fun q => h (i_le hk q))
theorem i_gt_to (hk : c.toInt = k) (h : c < v) : k < v.toInt := by have := Int32.lt_iff_toInt_lt.mp h; omega
theorem i_ngt_to (hk : c.toInt = k) (h : ¬ c < v) : v.toInt ≤ k := Int.not_lt.mp (fun q => h (i_gt hk q))
theorem i_ge_to (hk : c.toInt = k) (h : c ≤ v) : k ≤ v.toInt := by have := Int32.le_iff_toInt_le.mp h; omega
theorem i_nge_to (hk : c.toInt = k) (h : ¬ c ≤ v) : v.toInt < k := Int.not_le.mp (fun q => h (i_ge hk q))
theorem vp_of {n : Nat} (h0 : 0 ≤ v.toInt) (h1 : v.toInt < n) : vp_in v n := by
  unfold vp_in
  rw [Int32.lt_iff_toInt_lt]
  show ¬ (v.toInt < 0 ∨ n ≤ v.toInt.toNat)
  omega
theorem tri (v : Int32) (lo hi : Int) : v.toInt < lo ∨ (lo ≤ v.toInt ∧ v.toInt ≤ hi) ∨ hi < v.toInt := by omega
theorem code_of {hi : Nat} (h : 0 ≤ v.toInt ∧ v.toInt ≤ hi) (hh : hi < 2147483648) : ∃ c : Nat, v = nI c ∧ c < hi + 1 := by
  refine ⟨v.toInt.toNat, Int32.toInt_inj.mp ?_, by omega⟩
  rw [nI_int]
  omega
end I32
section I64
variable {x y : Int64} {k : Int}
theorem lc_lt (hk : y.toInt = k) (h : x.toInt < k) : lg_cmp x y < 0 := by
  have h1 : ¬ x > y := fun q => by have := Int64.lt_iff_toInt_lt.mp q; omega
  have h2 : ¬ x = y := fun q => by subst q; omega
  unfold lg_cmp
  rw [if_neg h1, if_neg h2]
  decide
theorem lc_nlt (hk : y.toInt = k) (h : k ≤ x.toInt) : ¬ lg_cmp x y < 0 := by
  unfold lg_cmp
  by_cases h1 : x > y
  · rw [if_pos h1]; decide
  · have h2 : x = y := Int64.toInt_inj.mp (by
      have h3 : ¬ y.toInt < x.toInt := fun q => h1 (Int64.lt_iff_toInt_lt.mpr q)
      omega)
    rw [if_neg h1, if_pos h2]; decide
theorem lc_gt (hk : y.toInt = k) (h : k < x.toInt) : 0 < lg_cmp x y := by
  unfold lg_cmp
  rw [if_pos (Int64.lt_iff_toInt_lt.mpr (by omega) : x > y)]
  decide
theorem lc_ngt (hk : y.toInt = k) (h : x.toInt ≤ k) : ¬ 0 < lg_cmp x y := by
  have h1 : ¬ x > y := fun q => by have := Int64.lt_iff_toInt_lt.mp q; omega
  unfold lg_cmp
  rw [if_neg h1]
  by_cases h2 : x = y
  · rw [if_pos h2]; decide
  · rw [if_neg h2]; decide
end I64
theorem fin2 {α : Type} {post2 : α → MM → Int64 → Prop} {r r2 : α} {M : MM} {t : Int64} (h2 : ∀ M2 t2, post2 r M2 t2) (e : r = r2) : post2 r2 M t := e ▸ h2 M t
