/-! bounds (printed by wip/gen/vc.py) -/
def blo (a j : Nat) : Int32 := match a with
  | 1 => (match j with | 1 => 0 | _ => (-2147483648))
  | 3 => (match j with | 0 => (-2147483648) | _ => (-2147483648))
  | 16 => (match j with | 3 => 0 | _ => (-2147483648))
  | 18 => (match j with | 3 => 0 | _ => (-2147483648))
  | 20 => (match j with | 3 => 0 | _ => (-2147483648))
  | 22 => (match j with | 6 => 0 | _ => (-2147483648))
  | 23 => (match j with | 0 => (-2147483648) | _ => (-2147483648))
  | 36 => (match j with | 3 => 0 | _ => (-2147483648))
  | 38 => (match j with | 3 => 0 | _ => (-2147483648))
  | 40 => (match j with | 3 => 0 | _ => (-2147483648))
  | 58 => (match j with | 3 => 0 | _ => (-2147483648))
  | 60 => (match j with | 3 => 0 | _ => (-2147483648))
  | 62 => (match j with | 3 => 0 | _ => (-2147483648))
  | 66 => (match j with | 3 => 0 | _ => (-2147483648))
  | 68 => (match j with | 3 => 0 | _ => (-2147483648))
  | 70 => (match j with | 3 => 0 | _ => (-2147483648))
  | 73 => (match j with | 0 => (-1) | _ => (-2147483648))
  | 75 => (match j with | 0 => (-1) | _ => (-2147483648))
  | 77 => (match j with | 0 => (-1) | _ => (-2147483648))
  | 79 => (match j with | 0 => (-1) | _ => (-2147483648))
  | 81 => (match j with | 2 => 0 | 3 => 0 | 4 => 0 | 13 => 0 | 14 => 0 | 15 => 0 | 31 => 0 | 32 => 0 | 33 => 0 | 36 => 0 | _ => (-2147483648))
  | 84 => 0
  | 85 => 0
  | 88 => 0
  | 89 => 0
  | 91 => 0
  | 92 => 0
  | 95 => 0
  | 96 => 0
  | 106 => 0
  | _ => (-2147483648)
def bhi (a j : Nat) : Int32 := match a with
  | 1 => (match j with | 1 => 400 | _ => 2147483647)
  | 3 => (match j with | 0 => 8 | _ => 2147483647)
  | 16 => (match j with | 3 => 12 | _ => 2147483647)
  | 18 => (match j with | 3 => 6 | _ => 2147483647)
  | 20 => (match j with | 3 => 12 | _ => 2147483647)
  | 22 => (match j with | 6 => 400 | _ => 2147483647)
  | 23 => (match j with | 0 => 8 | _ => 2147483647)
  | 36 => (match j with | 3 => 12 | _ => 2147483647)
  | 38 => (match j with | 3 => 6 | _ => 2147483647)
  | 40 => (match j with | 3 => 12 | _ => 2147483647)
  | 58 => (match j with | 3 => 12 | _ => 2147483647)
  | 60 => (match j with | 3 => 6 | _ => 2147483647)
  | 62 => (match j with | 3 => 12 | _ => 2147483647)
  | 66 => (match j with | 3 => 12 | _ => 2147483647)
  | 68 => (match j with | 3 => 6 | _ => 2147483647)
  | 70 => (match j with | 3 => 12 | _ => 2147483647)
  | 73 => (match j with | 0 => 40 | _ => 2147483647)
  | 75 => (match j with | 0 => 40 | _ => 2147483647)
  | 77 => (match j with | 0 => 40 | _ => 2147483647)
  | 79 => (match j with | 0 => 40 | _ => 2147483647)
  | 81 => (match j with | 2 => 8 | 3 => 6 | 4 => 20 | 13 => 8 | 14 => 6 | 15 => 20 | 31 => 400 | 32 => 400 | 33 => 400 | 36 => 6 | _ => 2147483647)
  | 84 => 9
  | 85 => 20
  | 88 => 5
  | 89 => 3
  | 91 => 9
  | 92 => 20
  | 95 => 5
  | 96 => 3
  | 106 => 40
  | _ => 2147483647
/-! the reference's rows st (82), draft (90), now (98) -/
def Th (v : Int32) : Prop := (0 ≤ v ∧ v ≤ 63) ∧ 0 ≤ v - v / 8 * 8 ∧ v - v / 8 * 8 ≤ 5
theorem th_0 : Th 0 := by unfold Th; decide
def sdom (p : Nat) (v : Int32) : Prop :=
  if p < 16 then Th v else if p = 16 then 0 ≤ v ∧ v ≤ 12
  else if p < 65 then (if (p - 17) % 4 = 0 then 0 ≤ v ∧ v ≤ 23 else if (p - 17) % 4 = 1 then 0 ≤ v ∧ v ≤ 1 else if (p - 17) % 4 = 2 then 0 ≤ v ∧ v ≤ 7 else Th v)
  else if p = 65 then 0 ≤ v ∧ v ≤ 6
  else if p < 78 then (if (p - 66) % 2 = 0 then 0 ≤ v ∧ v ≤ 7 else 0 ≤ v ∧ v ≤ 5)
  else if p = 78 then 0 ≤ v ∧ v ≤ 12
  else if (p - 79) % 4 = 0 then 0 ≤ v ∧ v ≤ 1 else if (p - 79) % 4 = 1 then 0 ≤ v ∧ v ≤ 7 else if (p - 79) % 4 = 2 then 0 ≤ v ∧ v ≤ 23 else 0 ≤ v ∧ v ≤ 1
theorem sd_zero (p : Nat) : sdom p 0 := by
  have h := th_0
  unfold sdom
  repeat' (split)
  all_goals first | exact h | decide
def SI (M : MM) : Prop := (∀ j, sdom (j % 127) (M 82 j)) ∧ (∀ j, sdom (j % 127) (M 90 j)) ∧ ∀ j, Th (M 98 j)
def sid (a : Nat) : Bool := a == 82 || a == 90 || a == 98
theorem si_set {M : MM} {a j : Nat} {v : Int32} (h : SI M) (hn : sid a = false) : SI (mset M a j v) := by
  have e : a ≠ 82 ∧ a ≠ 90 ∧ a ≠ 98 := by simpa [sid, and_assoc] using hn
  refine ⟨fun k => ?_, fun k => ?_, fun k => ?_⟩
  · rw [mset_ne (fun q => e.1 q.symm)]; exact h.1 k
  · rw [mset_ne (fun q => e.2.1 q.symm)]; exact h.2.1 k
  · rw [mset_ne (fun q => e.2.2 q.symm)]; exact h.2.2 k
theorem si_row {M : MM} {a : Nat} {f : Nat → Int32} (h : SI M) (hn : sid a = false) : SI (mrow M a f) := by
  have e : a ≠ 82 ∧ a ≠ 90 ∧ a ≠ 98 := by simpa [sid, and_assoc] using hn
  refine ⟨fun k => ?_, fun k => ?_, fun k => ?_⟩
  · rw [mrow_ne (fun q => e.1 q.symm)]; exact h.1 k
  · rw [mrow_ne (fun q => e.2.1 q.symm)]; exact h.2.1 k
  · rw [mrow_ne (fun q => e.2.2 q.symm)]; exact h.2.2 k

def Inv (M : MM) : Prop := (∀ a j, blo a j ≤ M a j ∧ M a j ≤ bhi a j) ∧ SI M
theorem inv_set {M : MM} {a j : Nat} {v : Int32} (h : Inv M) (h1 : blo a j ≤ v ∧ v ≤ bhi a j) (hn : sid a = false := by decide) : Inv (mset M a j v) := by
  refine ⟨?_, si_set h.2 hn⟩
  intro b k
  rw [mset_if]
  by_cases e : b = a ∧ k = j
  · rw [if_pos e, e.1, e.2]; exact h1
  · rw [if_neg e]; exact h.1 b k
theorem inv_row {M : MM} {a : Nat} {f : Nat → Int32} (h : Inv M) (h1 : ∀ j, blo a j ≤ f j ∧ f j ≤ bhi a j) (hn : sid a = false := by decide) : Inv (mrow M a f) := by
  refine ⟨?_, si_row h.2 hn⟩
  intro b k
  by_cases e : b = a
  · subst e; rw [mrow_same]; exact h1 k
  · rw [mrow_ne e]; exact h.1 b k
theorem i_any (v : Int32) : (-2147483648 : Int32) ≤ v ∧ v ≤ 2147483647 := by lia
theorem iv_1_1 {M : MM} (h : Inv M) : 0 ≤ M 1 1 ∧ M 1 1 ≤ 400 := h.1 1 1
theorem iv_3_0 {M : MM} (h : Inv M) : (-2147483648) ≤ M 3 0 ∧ M 3 0 ≤ 8 := h.1 3 0
theorem iv_16_3 {M : MM} (h : Inv M) : 0 ≤ M 16 3 ∧ M 16 3 ≤ 12 := h.1 16 3
theorem iv_18_3 {M : MM} (h : Inv M) : 0 ≤ M 18 3 ∧ M 18 3 ≤ 6 := h.1 18 3
theorem iv_20_3 {M : MM} (h : Inv M) : 0 ≤ M 20 3 ∧ M 20 3 ≤ 12 := h.1 20 3
theorem iv_22_6 {M : MM} (h : Inv M) : 0 ≤ M 22 6 ∧ M 22 6 ≤ 400 := h.1 22 6
theorem iv_23_0 {M : MM} (h : Inv M) : (-2147483648) ≤ M 23 0 ∧ M 23 0 ≤ 8 := h.1 23 0
theorem iv_36_3 {M : MM} (h : Inv M) : 0 ≤ M 36 3 ∧ M 36 3 ≤ 12 := h.1 36 3
theorem iv_38_3 {M : MM} (h : Inv M) : 0 ≤ M 38 3 ∧ M 38 3 ≤ 6 := h.1 38 3
theorem iv_40_3 {M : MM} (h : Inv M) : 0 ≤ M 40 3 ∧ M 40 3 ≤ 12 := h.1 40 3
theorem iv_58_3 {M : MM} (h : Inv M) : 0 ≤ M 58 3 ∧ M 58 3 ≤ 12 := h.1 58 3
theorem iv_60_3 {M : MM} (h : Inv M) : 0 ≤ M 60 3 ∧ M 60 3 ≤ 6 := h.1 60 3
theorem iv_62_3 {M : MM} (h : Inv M) : 0 ≤ M 62 3 ∧ M 62 3 ≤ 12 := h.1 62 3
theorem iv_66_3 {M : MM} (h : Inv M) : 0 ≤ M 66 3 ∧ M 66 3 ≤ 12 := h.1 66 3
theorem iv_68_3 {M : MM} (h : Inv M) : 0 ≤ M 68 3 ∧ M 68 3 ≤ 6 := h.1 68 3
theorem iv_70_3 {M : MM} (h : Inv M) : 0 ≤ M 70 3 ∧ M 70 3 ≤ 12 := h.1 70 3
theorem iv_73_0 {M : MM} (h : Inv M) : (-1) ≤ M 73 0 ∧ M 73 0 ≤ 40 := h.1 73 0
theorem iv_75_0 {M : MM} (h : Inv M) : (-1) ≤ M 75 0 ∧ M 75 0 ≤ 40 := h.1 75 0
theorem iv_77_0 {M : MM} (h : Inv M) : (-1) ≤ M 77 0 ∧ M 77 0 ≤ 40 := h.1 77 0
theorem iv_79_0 {M : MM} (h : Inv M) : (-1) ≤ M 79 0 ∧ M 79 0 ≤ 40 := h.1 79 0
theorem iv_81_2 {M : MM} (h : Inv M) : 0 ≤ M 81 2 ∧ M 81 2 ≤ 8 := h.1 81 2
theorem iv_81_3 {M : MM} (h : Inv M) : 0 ≤ M 81 3 ∧ M 81 3 ≤ 6 := h.1 81 3
theorem iv_81_4 {M : MM} (h : Inv M) : 0 ≤ M 81 4 ∧ M 81 4 ≤ 20 := h.1 81 4
theorem iv_81_13 {M : MM} (h : Inv M) : 0 ≤ M 81 13 ∧ M 81 13 ≤ 8 := h.1 81 13
theorem iv_81_14 {M : MM} (h : Inv M) : 0 ≤ M 81 14 ∧ M 81 14 ≤ 6 := h.1 81 14
theorem iv_81_15 {M : MM} (h : Inv M) : 0 ≤ M 81 15 ∧ M 81 15 ≤ 20 := h.1 81 15
theorem iv_81_31 {M : MM} (h : Inv M) : 0 ≤ M 81 31 ∧ M 81 31 ≤ 400 := h.1 81 31
theorem iv_81_32 {M : MM} (h : Inv M) : 0 ≤ M 81 32 ∧ M 81 32 ≤ 400 := h.1 81 32
theorem iv_81_33 {M : MM} (h : Inv M) : 0 ≤ M 81 33 ∧ M 81 33 ≤ 400 := h.1 81 33
theorem iv_81_36 {M : MM} (h : Inv M) : 0 ≤ M 81 36 ∧ M 81 36 ≤ 6 := h.1 81 36
theorem iv_84 {M : MM} (h : Inv M) (j : Nat) : 0 ≤ M 84 j ∧ M 84 j ≤ 9 := h.1 84 j
theorem iv_85 {M : MM} (h : Inv M) (j : Nat) : 0 ≤ M 85 j ∧ M 85 j ≤ 20 := h.1 85 j
theorem iv_88 {M : MM} (h : Inv M) (j : Nat) : 0 ≤ M 88 j ∧ M 88 j ≤ 5 := h.1 88 j
theorem iv_89 {M : MM} (h : Inv M) (j : Nat) : 0 ≤ M 89 j ∧ M 89 j ≤ 3 := h.1 89 j
theorem iv_91 {M : MM} (h : Inv M) (j : Nat) : 0 ≤ M 91 j ∧ M 91 j ≤ 9 := h.1 91 j
theorem iv_92 {M : MM} (h : Inv M) (j : Nat) : 0 ≤ M 92 j ∧ M 92 j ≤ 20 := h.1 92 j
theorem iv_95 {M : MM} (h : Inv M) (j : Nat) : 0 ≤ M 95 j ∧ M 95 j ≤ 5 := h.1 95 j
theorem iv_96 {M : MM} (h : Inv M) (j : Nat) : 0 ≤ M 96 j ∧ M 96 j ≤ 3 := h.1 96 j
theorem iv_106 {M : MM} (h : Inv M) (j : Nat) : 0 ≤ M 106 j ∧ M 106 j ≤ 40 := h.1 106 j
theorem inv_82 {M : MM} {j : Nat} {v : Int32} (h : Inv M) (hv : sdom (j % 127) v) : Inv (mset M 82 j v) := by
  refine ⟨fun b k => ?_, fun k => ?_, fun k => ?_, fun k => ?_⟩
  · rw [mset_if]
    by_cases e : b = 82 ∧ k = j
    · rw [if_pos e, e.1]; exact i_any v
    · rw [if_neg e]; exact h.1 b k
  · rw [mset_if]
    by_cases e : k = j
    · rw [if_pos ⟨rfl, e⟩, e]; exact hv
    · rw [if_neg (fun q => e q.2)]; exact h.2.1 k
  · rw [mset_ne (by decide)]; exact h.2.2.1 k
  · rw [mset_ne (by decide)]; exact h.2.2.2 k
theorem inv_90 {M : MM} {j : Nat} {v : Int32} (h : Inv M) (hv : sdom (j % 127) v) : Inv (mset M 90 j v) := by
  refine ⟨fun b k => ?_, fun k => ?_, fun k => ?_, fun k => ?_⟩
  · rw [mset_if]
    by_cases e : b = 90 ∧ k = j
    · rw [if_pos e, e.1]; exact i_any v
    · rw [if_neg e]; exact h.1 b k
  · rw [mset_ne (by decide)]; exact h.2.1 k
  · rw [mset_if]
    by_cases e : k = j
    · rw [if_pos ⟨rfl, e⟩, e]; exact hv
    · rw [if_neg (fun q => e q.2)]; exact h.2.2.1 k
  · rw [mset_ne (by decide)]; exact h.2.2.2 k
theorem inv_98 {M : MM} {j : Nat} {v : Int32} (h : Inv M) (hv : Th v) : Inv (mset M 98 j v) := by
  refine ⟨fun b k => ?_, fun k => ?_, fun k => ?_, fun k => ?_⟩
  · rw [mset_if]
    by_cases e : b = 98 ∧ k = j
    · rw [if_pos e, e.1]; exact i_any v
    · rw [if_neg e]; exact h.1 b k
  · rw [mset_ne (by decide)]; exact h.2.1 k
  · rw [mset_ne (by decide)]; exact h.2.2.1 k
  · rw [mset_if]
    by_cases e : k = j
    · rw [if_pos ⟨rfl, e⟩]; exact hv
    · rw [if_neg (fun q => e q.2)]; exact h.2.2.2 k
theorem iv_98 {M : MM} (h : Inv M) (j : Nat) : Th (M 98 j) := h.2.2.2 j
theorem tn_of {x : Int32} {n : Nat} (h : x.toInt = n) : x.toNatClampNeg = n := by
  show x.toInt.toNat = n
  omega
/-- 17 + 4 w + c and their like as numbers -/
theorem lin_to {b m c w : Int32} {B K C : Nat} {W : Int} (hb : b.toInt = B) (hm : m.toInt = K) (hc : c.toInt = C) (hw : w.toInt = W) (h0 : 0 ≤ W) (h1 : W < 13) (hB : B < 200) (hK : K < 10) (hC : C < 10) : (b + m * w + c).toInt = B + K * W + C := by
  have hk : 0 ≤ (K : Int) * W ∧ (K : Int) * W ≤ 120 := ⟨Int.mul_nonneg (by omega) h0, by
    have : (K : Int) * W ≤ 9 * 12 := Int.mul_le_mul (by omega) (by omega) h0 (by omega)
    omega⟩
  rw [Int32.toInt_add, Int32.toInt_add, Int32.toInt_mul, hb, hm, hc, hw]
  generalize (K : Int) * W = z at hk ⊢
  simp only [Int.bmod_def]
  repeat' split
  all_goals omega
section STR
variable {M : MM} (h : Inv M)
theorem sx_th (x : Int32) (h0 : 0 ≤ x) (h1 : x < 16) : x.toNatClampNeg % 127 < 16 := by
  have a0 := i_ge_to (k := 0) (by decide) h0
  have a1 := i_lt_to (k := 16) (by decide) h1
  show x.toInt.toNat % 127 < 16
  omega
theorem r82_th (h : Inv M) (x : Int32) (h0 : 0 ≤ x) (h1 : x < 16) : Th (M 82 x.toNatClampNeg) := by
  have := h.2.1 x.toNatClampNeg
  unfold sdom at this
  rw [if_pos (sx_th x h0 h1)] at this
  exact this
theorem r82_16 (h : Inv M) : 0 ≤ M 82 (16 : Int32).toNatClampNeg ∧ M 82 (16 : Int32).toNatClampNeg ≤ 12 := h.2.1 16
theorem r82_65 (h : Inv M) : 0 ≤ M 82 (65 : Int32).toNatClampNeg ∧ M 82 (65 : Int32).toNatClampNeg ≤ 6 := h.2.1 65
theorem r82_78 (h : Inv M) : 0 ≤ M 82 (78 : Int32).toNatClampNeg ∧ M 82 (78 : Int32).toNatClampNeg ≤ 12 := h.2.1 78
theorem r90_16 (h : Inv M) : 0 ≤ M 90 (16 : Int32).toNatClampNeg ∧ M 90 (16 : Int32).toNatClampNeg ≤ 12 := h.2.2.1 16
end STR
theorem th_z (v : Int32) : v = 0 → v - v / 8 * 8 = 0 := fun h => by subst h; decide
theorem tn_ne {x y : Int32} (hx : 0 ≤ x) (hy : 0 ≤ y) (h : x ≠ y) : x.toNatClampNeg ≠ y.toNatClampNeg := by
  have a := i_ge_to (k := 0) (by decide) hx
  have b := i_ge_to (k := 0) (by decide) hy
  intro e
  apply h
  apply Int32.toInt_inj.mp
  have e2 : x.toInt.toNat = y.toInt.toNat := e
  omega
theorem dv_all : ∀ c, c < 64 → (0 ≤ (nI c / 8) - (nI c / 8) / 4 * 4 ∧ (nI c / 8) - (nI c / 8) / 4 * 4 ≤ 3) ∧ (0 ≤ nI c / 32 ∧ nI c / 32 ≤ 1) ∧ (0 ≤ nI c - nI c / 8 * 8 ∧ nI c - nI c / 8 * 8 ≤ 7) := by decide +kernel
theorem dv (v : Int32) (h0 : 0 ≤ v) (h1 : v ≤ 63) : (0 ≤ (v / 8) - (v / 8) / 4 * 4 ∧ (v / 8) - (v / 8) / 4 * 4 ≤ 3) ∧ (0 ≤ v / 32 ∧ v / 32 ≤ 1) ∧ (0 ≤ v - v / 8 * 8 ∧ v - v / 8 * 8 ≤ 7) := by
  obtain ⟨c, e, hc⟩ := code_of (hi := 63) ⟨i_ge_to (k := 0) (by decide) h0, i_le_to (k := 63) (by decide) h1⟩ (by decide)
  subst e
  exact dv_all c hc
theorem th_all : ∀ a, a < 6 → ∀ b, b < 4 → ∀ c, c < 2 → ((0 ≤ nI a + 8 * nI b + 32 * nI c ∧ nI a + 8 * nI b + 32 * nI c ≤ 63) ∧ 0 ≤ nI a + 8 * nI b + 32 * nI c - (nI a + 8 * nI b + 32 * nI c) / 8 * 8 ∧ nI a + 8 * nI b + 32 * nI c - (nI a + 8 * nI b + 32 * nI c) / 8 * 8 ≤ 5) := by decide +kernel
theorem th_mk {a b c : Int32} (a0 : 0 ≤ a) (a1 : a ≤ 5) (b0 : 0 ≤ b) (b1 : b ≤ 3) (c0 : 0 ≤ c) (c1 : c ≤ 1) : (0 ≤ a + 8 * b + 32 * c ∧ a + 8 * b + 32 * c ≤ 63) ∧ 0 ≤ a + 8 * b + 32 * c - (a + 8 * b + 32 * c) / 8 * 8 ∧ a + 8 * b + 32 * c - (a + 8 * b + 32 * c) / 8 * 8 ≤ 5 := by
  obtain ⟨x, ex, hx⟩ := code_of (hi := 5) ⟨i_ge_to (k := 0) (by decide) a0, i_le_to (k := 5) (by decide) a1⟩ (by decide)
  obtain ⟨y, ey, hy⟩ := code_of (hi := 3) ⟨i_ge_to (k := 0) (by decide) b0, i_le_to (k := 3) (by decide) b1⟩ (by decide)
  obtain ⟨z, ez, hz⟩ := code_of (hi := 1) ⟨i_ge_to (k := 0) (by decide) c0, i_le_to (k := 1) (by decide) c1⟩ (by decide)
  subst ex; subst ey; subst ez
  exact th_all x hx y hy z hz
theorem add_to {c v : Int32} {C : Nat} (hc : c.toInt = C) (h0 : 0 ≤ v) (h1 : v < 127) (hC : C < 1000) : (c + v).toNatClampNeg = C + v.toInt.toNat := by
  have a0 := i_ge_to (k := 0) (by decide) h0
  have a1 := i_lt_to (k := 127) (by decide) h1
  apply tn_of
  rw [Int32.toInt_add, hc, Int.bmod_def]
  split <;> omega
theorem cp_one {c v : Int32} (hc : c = 0 ∨ c = 127 ∨ c = 254) (h0 : 0 ≤ v) (h1 : v < 127) : (c + v).toNatClampNeg % 127 = v.toInt.toNat % 127 := by
  have a0 := i_ge_to (k := 0) (by decide) h0
  rcases hc with h | h | h <;> subst h
  · rw [add_to (C := 0) (by decide) h0 h1 (by decide)]; omega
  · rw [add_to (C := 127) (by decide) h0 h1 (by decide)]; omega
  · rw [add_to (C := 254) (by decide) h0 h1 (by decide)]; omega
theorem cp_mod {c d v : Int32} (hc : c = 0 ∨ c = 127 ∨ c = 254) (hd : d = 0 ∨ d = 127 ∨ d = 254) (h0 : 0 ≤ v) (h1 : v < 127) : (c + v).toNatClampNeg % 127 = (d + v).toNatClampNeg % 127 := (cp_one hc h0 h1).trans (cp_one hd h0 h1).symm

theorem lin_to0 {b m w : Int32} {B K : Nat} {W : Int} (hb : b.toInt = B) (hm : m.toInt = K) (hw : w.toInt = W) (h0 : 0 ≤ W) (h1 : W < 13) (hB : B < 200) (hK : K < 10) : (b + m * w).toInt = B + K * W := by
  have := lin_to (c := 0) (C := 0) hb hm rfl hw h0 h1 hB hK (by omega)
  rw [Int32.add_zero] at this
  rw [this]
  omega
theorem sx_17_0 {w v : Int32} (h0 : 0 ≤ w) (h1 : w < 12) : sdom ((((17 : Int32) + (4 : Int32) * w)).toNatClampNeg % 127) v = (0 ≤ v ∧ v ≤ 23) := by
  have a0 := i_ge_to (k := 0) (by decide) h0
  have a1 := i_lt_to (k := 12) (by decide) h1
  have hx := lin_to0 (b := 17) (m := 4) (w := w) (B := 17) (K := 4) (by decide) (by decide) rfl a0 (by omega) (by decide) (by decide)
  have hn : (((17 : Int32) + (4 : Int32) * w)).toNatClampNeg = 17 + 4 * w.toInt.toNat + 0 := tn_of (by rw [hx]; omega)
  rw [hn]
  have hk : w.toInt.toNat < 12 := by omega
  generalize w.toInt.toNat = k at hk
  rw [show (17 + 4 * k + 0) % 127 = 17 + 4 * k + 0 by omega]
  unfold sdom
  rw [if_neg (by omega), if_neg (by omega), if_pos (by omega), if_pos (by omega)]
theorem r82_17_0 {M : MM} (h : Inv M) (w : Int32) (h0 : 0 ≤ w) (h1 : w < 12) : 0 ≤ M 82 (((17 : Int32) + (4 : Int32) * w)).toNatClampNeg ∧ M 82 (((17 : Int32) + (4 : Int32) * w)).toNatClampNeg ≤ 23 := by
  have := h.2.1 (((17 : Int32) + (4 : Int32) * w)).toNatClampNeg
  rw [sx_17_0 h0 h1] at this
  exact this
theorem w82_17_0 {M : MM} (h : Inv M) (w v : Int32) (h0 : 0 ≤ w) (h1 : w < 12) (hv : 0 ≤ v ∧ v ≤ 23) : Inv (mset M 82 (((17 : Int32) + (4 : Int32) * w)).toNatClampNeg v) := inv_82 h (by rw [sx_17_0 h0 h1]; exact hv)
theorem w90_17_0 {M : MM} (h : Inv M) (w v : Int32) (h0 : 0 ≤ w) (h1 : w < 12) (hv : 0 ≤ v ∧ v ≤ 23) : Inv (mset M 90 (((17 : Int32) + (4 : Int32) * w)).toNatClampNeg v) := inv_90 h (by rw [sx_17_0 h0 h1]; exact hv)
theorem sx_17_1 {w v : Int32} (h0 : 0 ≤ w) (h1 : w < 12) : sdom ((((17 : Int32) + (4 : Int32) * w) + (1 : Int32)).toNatClampNeg % 127) v = (0 ≤ v ∧ v ≤ 1) := by
  have a0 := i_ge_to (k := 0) (by decide) h0
  have a1 := i_lt_to (k := 12) (by decide) h1
  have hx := lin_to (b := 17) (m := 4) (c := 1) (w := w) (B := 17) (K := 4) (C := 1) (by decide) (by decide) (by decide) rfl a0 (by omega) (by decide) (by decide) (by decide)
  have hn : (((17 : Int32) + (4 : Int32) * w) + (1 : Int32)).toNatClampNeg = 17 + 4 * w.toInt.toNat + 1 := tn_of (by rw [hx]; omega)
  rw [hn]
  have hk : w.toInt.toNat < 12 := by omega
  generalize w.toInt.toNat = k at hk
  rw [show (17 + 4 * k + 1) % 127 = 17 + 4 * k + 1 by omega]
  unfold sdom
  rw [if_neg (by omega), if_neg (by omega), if_pos (by omega), if_neg (by omega), if_pos (by omega)]
theorem r82_17_1 {M : MM} (h : Inv M) (w : Int32) (h0 : 0 ≤ w) (h1 : w < 12) : 0 ≤ M 82 (((17 : Int32) + (4 : Int32) * w) + (1 : Int32)).toNatClampNeg ∧ M 82 (((17 : Int32) + (4 : Int32) * w) + (1 : Int32)).toNatClampNeg ≤ 1 := by
  have := h.2.1 (((17 : Int32) + (4 : Int32) * w) + (1 : Int32)).toNatClampNeg
  rw [sx_17_1 h0 h1] at this
  exact this
theorem w82_17_1 {M : MM} (h : Inv M) (w v : Int32) (h0 : 0 ≤ w) (h1 : w < 12) (hv : 0 ≤ v ∧ v ≤ 1) : Inv (mset M 82 (((17 : Int32) + (4 : Int32) * w) + (1 : Int32)).toNatClampNeg v) := inv_82 h (by rw [sx_17_1 h0 h1]; exact hv)
theorem w90_17_1 {M : MM} (h : Inv M) (w v : Int32) (h0 : 0 ≤ w) (h1 : w < 12) (hv : 0 ≤ v ∧ v ≤ 1) : Inv (mset M 90 (((17 : Int32) + (4 : Int32) * w) + (1 : Int32)).toNatClampNeg v) := inv_90 h (by rw [sx_17_1 h0 h1]; exact hv)
theorem sx_17_2 {w v : Int32} (h0 : 0 ≤ w) (h1 : w < 12) : sdom ((((17 : Int32) + (4 : Int32) * w) + (2 : Int32)).toNatClampNeg % 127) v = (0 ≤ v ∧ v ≤ 7) := by
  have a0 := i_ge_to (k := 0) (by decide) h0
  have a1 := i_lt_to (k := 12) (by decide) h1
  have hx := lin_to (b := 17) (m := 4) (c := 2) (w := w) (B := 17) (K := 4) (C := 2) (by decide) (by decide) (by decide) rfl a0 (by omega) (by decide) (by decide) (by decide)
  have hn : (((17 : Int32) + (4 : Int32) * w) + (2 : Int32)).toNatClampNeg = 17 + 4 * w.toInt.toNat + 2 := tn_of (by rw [hx]; omega)
  rw [hn]
  have hk : w.toInt.toNat < 12 := by omega
  generalize w.toInt.toNat = k at hk
  rw [show (17 + 4 * k + 2) % 127 = 17 + 4 * k + 2 by omega]
  unfold sdom
  rw [if_neg (by omega), if_neg (by omega), if_pos (by omega), if_neg (by omega), if_neg (by omega), if_pos (by omega)]
theorem r82_17_2 {M : MM} (h : Inv M) (w : Int32) (h0 : 0 ≤ w) (h1 : w < 12) : 0 ≤ M 82 (((17 : Int32) + (4 : Int32) * w) + (2 : Int32)).toNatClampNeg ∧ M 82 (((17 : Int32) + (4 : Int32) * w) + (2 : Int32)).toNatClampNeg ≤ 7 := by
  have := h.2.1 (((17 : Int32) + (4 : Int32) * w) + (2 : Int32)).toNatClampNeg
  rw [sx_17_2 h0 h1] at this
  exact this
theorem w82_17_2 {M : MM} (h : Inv M) (w v : Int32) (h0 : 0 ≤ w) (h1 : w < 12) (hv : 0 ≤ v ∧ v ≤ 7) : Inv (mset M 82 (((17 : Int32) + (4 : Int32) * w) + (2 : Int32)).toNatClampNeg v) := inv_82 h (by rw [sx_17_2 h0 h1]; exact hv)
theorem w90_17_2 {M : MM} (h : Inv M) (w v : Int32) (h0 : 0 ≤ w) (h1 : w < 12) (hv : 0 ≤ v ∧ v ≤ 7) : Inv (mset M 90 (((17 : Int32) + (4 : Int32) * w) + (2 : Int32)).toNatClampNeg v) := inv_90 h (by rw [sx_17_2 h0 h1]; exact hv)
theorem sx_17_3 {w v : Int32} (h0 : 0 ≤ w) (h1 : w < 12) : sdom ((((17 : Int32) + (4 : Int32) * w) + (3 : Int32)).toNatClampNeg % 127) v = (Th (v)) := by
  have a0 := i_ge_to (k := 0) (by decide) h0
  have a1 := i_lt_to (k := 12) (by decide) h1
  have hx := lin_to (b := 17) (m := 4) (c := 3) (w := w) (B := 17) (K := 4) (C := 3) (by decide) (by decide) (by decide) rfl a0 (by omega) (by decide) (by decide) (by decide)
  have hn : (((17 : Int32) + (4 : Int32) * w) + (3 : Int32)).toNatClampNeg = 17 + 4 * w.toInt.toNat + 3 := tn_of (by rw [hx]; omega)
  rw [hn]
  have hk : w.toInt.toNat < 12 := by omega
  generalize w.toInt.toNat = k at hk
  rw [show (17 + 4 * k + 3) % 127 = 17 + 4 * k + 3 by omega]
  unfold sdom
  rw [if_neg (by omega), if_neg (by omega), if_pos (by omega), if_neg (by omega), if_neg (by omega), if_neg (by omega)]
theorem r82_17_3 {M : MM} (h : Inv M) (w : Int32) (h0 : 0 ≤ w) (h1 : w < 12) : Th (M 82 (((17 : Int32) + (4 : Int32) * w) + (3 : Int32)).toNatClampNeg) := by
  have := h.2.1 (((17 : Int32) + (4 : Int32) * w) + (3 : Int32)).toNatClampNeg
  rw [sx_17_3 h0 h1] at this
  exact this
theorem w82_17_3 {M : MM} (h : Inv M) (w v : Int32) (h0 : 0 ≤ w) (h1 : w < 12) (hv : Th (v)) : Inv (mset M 82 (((17 : Int32) + (4 : Int32) * w) + (3 : Int32)).toNatClampNeg v) := inv_82 h (by rw [sx_17_3 h0 h1]; exact hv)
theorem w90_17_3 {M : MM} (h : Inv M) (w v : Int32) (h0 : 0 ≤ w) (h1 : w < 12) (hv : Th (v)) : Inv (mset M 90 (((17 : Int32) + (4 : Int32) * w) + (3 : Int32)).toNatClampNeg v) := inv_90 h (by rw [sx_17_3 h0 h1]; exact hv)
theorem sx_66_0 {w v : Int32} (h0 : 0 ≤ w) (h1 : w < 6) : sdom ((((66 : Int32) + (2 : Int32) * w)).toNatClampNeg % 127) v = (0 ≤ v ∧ v ≤ 7) := by
  have a0 := i_ge_to (k := 0) (by decide) h0
  have a1 := i_lt_to (k := 6) (by decide) h1
  have hx := lin_to0 (b := 66) (m := 2) (w := w) (B := 66) (K := 2) (by decide) (by decide) rfl a0 (by omega) (by decide) (by decide)
  have hn : (((66 : Int32) + (2 : Int32) * w)).toNatClampNeg = 66 + 2 * w.toInt.toNat + 0 := tn_of (by rw [hx]; omega)
  rw [hn]
  have hk : w.toInt.toNat < 6 := by omega
  generalize w.toInt.toNat = k at hk
  rw [show (66 + 2 * k + 0) % 127 = 66 + 2 * k + 0 by omega]
  unfold sdom
  rw [if_neg (by omega), if_neg (by omega), if_neg (by omega), if_neg (by omega), if_pos (by omega), if_pos (by omega)]
theorem r82_66_0 {M : MM} (h : Inv M) (w : Int32) (h0 : 0 ≤ w) (h1 : w < 6) : 0 ≤ M 82 (((66 : Int32) + (2 : Int32) * w)).toNatClampNeg ∧ M 82 (((66 : Int32) + (2 : Int32) * w)).toNatClampNeg ≤ 7 := by
  have := h.2.1 (((66 : Int32) + (2 : Int32) * w)).toNatClampNeg
  rw [sx_66_0 h0 h1] at this
  exact this
theorem w82_66_0 {M : MM} (h : Inv M) (w v : Int32) (h0 : 0 ≤ w) (h1 : w < 6) (hv : 0 ≤ v ∧ v ≤ 7) : Inv (mset M 82 (((66 : Int32) + (2 : Int32) * w)).toNatClampNeg v) := inv_82 h (by rw [sx_66_0 h0 h1]; exact hv)
theorem w90_66_0 {M : MM} (h : Inv M) (w v : Int32) (h0 : 0 ≤ w) (h1 : w < 6) (hv : 0 ≤ v ∧ v ≤ 7) : Inv (mset M 90 (((66 : Int32) + (2 : Int32) * w)).toNatClampNeg v) := inv_90 h (by rw [sx_66_0 h0 h1]; exact hv)
theorem sx_66_1 {w v : Int32} (h0 : 0 ≤ w) (h1 : w < 6) : sdom ((((66 : Int32) + (2 : Int32) * w) + (1 : Int32)).toNatClampNeg % 127) v = (0 ≤ v ∧ v ≤ 5) := by
  have a0 := i_ge_to (k := 0) (by decide) h0
  have a1 := i_lt_to (k := 6) (by decide) h1
  have hx := lin_to (b := 66) (m := 2) (c := 1) (w := w) (B := 66) (K := 2) (C := 1) (by decide) (by decide) (by decide) rfl a0 (by omega) (by decide) (by decide) (by decide)
  have hn : (((66 : Int32) + (2 : Int32) * w) + (1 : Int32)).toNatClampNeg = 66 + 2 * w.toInt.toNat + 1 := tn_of (by rw [hx]; omega)
  rw [hn]
  have hk : w.toInt.toNat < 6 := by omega
  generalize w.toInt.toNat = k at hk
  rw [show (66 + 2 * k + 1) % 127 = 66 + 2 * k + 1 by omega]
  unfold sdom
  rw [if_neg (by omega), if_neg (by omega), if_neg (by omega), if_neg (by omega), if_pos (by omega), if_neg (by omega)]
theorem r82_66_1 {M : MM} (h : Inv M) (w : Int32) (h0 : 0 ≤ w) (h1 : w < 6) : 0 ≤ M 82 (((66 : Int32) + (2 : Int32) * w) + (1 : Int32)).toNatClampNeg ∧ M 82 (((66 : Int32) + (2 : Int32) * w) + (1 : Int32)).toNatClampNeg ≤ 5 := by
  have := h.2.1 (((66 : Int32) + (2 : Int32) * w) + (1 : Int32)).toNatClampNeg
  rw [sx_66_1 h0 h1] at this
  exact this
theorem w82_66_1 {M : MM} (h : Inv M) (w v : Int32) (h0 : 0 ≤ w) (h1 : w < 6) (hv : 0 ≤ v ∧ v ≤ 5) : Inv (mset M 82 (((66 : Int32) + (2 : Int32) * w) + (1 : Int32)).toNatClampNeg v) := inv_82 h (by rw [sx_66_1 h0 h1]; exact hv)
theorem w90_66_1 {M : MM} (h : Inv M) (w v : Int32) (h0 : 0 ≤ w) (h1 : w < 6) (hv : 0 ≤ v ∧ v ≤ 5) : Inv (mset M 90 (((66 : Int32) + (2 : Int32) * w) + (1 : Int32)).toNatClampNeg v) := inv_90 h (by rw [sx_66_1 h0 h1]; exact hv)
theorem sx_79_0 {w v : Int32} (h0 : 0 ≤ w) (h1 : w < 12) : sdom ((((79 : Int32) + (4 : Int32) * w)).toNatClampNeg % 127) v = (0 ≤ v ∧ v ≤ 1) := by
  have a0 := i_ge_to (k := 0) (by decide) h0
  have a1 := i_lt_to (k := 12) (by decide) h1
  have hx := lin_to0 (b := 79) (m := 4) (w := w) (B := 79) (K := 4) (by decide) (by decide) rfl a0 (by omega) (by decide) (by decide)
  have hn : (((79 : Int32) + (4 : Int32) * w)).toNatClampNeg = 79 + 4 * w.toInt.toNat + 0 := tn_of (by rw [hx]; omega)
  rw [hn]
  have hk : w.toInt.toNat < 12 := by omega
  generalize w.toInt.toNat = k at hk
  rw [show (79 + 4 * k + 0) % 127 = 79 + 4 * k + 0 by omega]
  unfold sdom
  rw [if_neg (by omega), if_neg (by omega), if_neg (by omega), if_neg (by omega), if_neg (by omega), if_neg (by omega), if_pos (by omega)]
theorem r82_79_0 {M : MM} (h : Inv M) (w : Int32) (h0 : 0 ≤ w) (h1 : w < 12) : 0 ≤ M 82 (((79 : Int32) + (4 : Int32) * w)).toNatClampNeg ∧ M 82 (((79 : Int32) + (4 : Int32) * w)).toNatClampNeg ≤ 1 := by
  have := h.2.1 (((79 : Int32) + (4 : Int32) * w)).toNatClampNeg
  rw [sx_79_0 h0 h1] at this
  exact this
theorem w82_79_0 {M : MM} (h : Inv M) (w v : Int32) (h0 : 0 ≤ w) (h1 : w < 12) (hv : 0 ≤ v ∧ v ≤ 1) : Inv (mset M 82 (((79 : Int32) + (4 : Int32) * w)).toNatClampNeg v) := inv_82 h (by rw [sx_79_0 h0 h1]; exact hv)
theorem w90_79_0 {M : MM} (h : Inv M) (w v : Int32) (h0 : 0 ≤ w) (h1 : w < 12) (hv : 0 ≤ v ∧ v ≤ 1) : Inv (mset M 90 (((79 : Int32) + (4 : Int32) * w)).toNatClampNeg v) := inv_90 h (by rw [sx_79_0 h0 h1]; exact hv)
theorem sx_79_1 {w v : Int32} (h0 : 0 ≤ w) (h1 : w < 12) : sdom ((((79 : Int32) + (4 : Int32) * w) + (1 : Int32)).toNatClampNeg % 127) v = (0 ≤ v ∧ v ≤ 7) := by
  have a0 := i_ge_to (k := 0) (by decide) h0
  have a1 := i_lt_to (k := 12) (by decide) h1
  have hx := lin_to (b := 79) (m := 4) (c := 1) (w := w) (B := 79) (K := 4) (C := 1) (by decide) (by decide) (by decide) rfl a0 (by omega) (by decide) (by decide) (by decide)
  have hn : (((79 : Int32) + (4 : Int32) * w) + (1 : Int32)).toNatClampNeg = 79 + 4 * w.toInt.toNat + 1 := tn_of (by rw [hx]; omega)
  rw [hn]
  have hk : w.toInt.toNat < 12 := by omega
  generalize w.toInt.toNat = k at hk
  rw [show (79 + 4 * k + 1) % 127 = 79 + 4 * k + 1 by omega]
  unfold sdom
  rw [if_neg (by omega), if_neg (by omega), if_neg (by omega), if_neg (by omega), if_neg (by omega), if_neg (by omega), if_neg (by omega), if_pos (by omega)]
theorem r82_79_1 {M : MM} (h : Inv M) (w : Int32) (h0 : 0 ≤ w) (h1 : w < 12) : 0 ≤ M 82 (((79 : Int32) + (4 : Int32) * w) + (1 : Int32)).toNatClampNeg ∧ M 82 (((79 : Int32) + (4 : Int32) * w) + (1 : Int32)).toNatClampNeg ≤ 7 := by
  have := h.2.1 (((79 : Int32) + (4 : Int32) * w) + (1 : Int32)).toNatClampNeg
  rw [sx_79_1 h0 h1] at this
  exact this
theorem w82_79_1 {M : MM} (h : Inv M) (w v : Int32) (h0 : 0 ≤ w) (h1 : w < 12) (hv : 0 ≤ v ∧ v ≤ 7) : Inv (mset M 82 (((79 : Int32) + (4 : Int32) * w) + (1 : Int32)).toNatClampNeg v) := inv_82 h (by rw [sx_79_1 h0 h1]; exact hv)
theorem w90_79_1 {M : MM} (h : Inv M) (w v : Int32) (h0 : 0 ≤ w) (h1 : w < 12) (hv : 0 ≤ v ∧ v ≤ 7) : Inv (mset M 90 (((79 : Int32) + (4 : Int32) * w) + (1 : Int32)).toNatClampNeg v) := inv_90 h (by rw [sx_79_1 h0 h1]; exact hv)
theorem sx_79_2 {w v : Int32} (h0 : 0 ≤ w) (h1 : w < 12) : sdom ((((79 : Int32) + (4 : Int32) * w) + (2 : Int32)).toNatClampNeg % 127) v = (0 ≤ v ∧ v ≤ 23) := by
  have a0 := i_ge_to (k := 0) (by decide) h0
  have a1 := i_lt_to (k := 12) (by decide) h1
  have hx := lin_to (b := 79) (m := 4) (c := 2) (w := w) (B := 79) (K := 4) (C := 2) (by decide) (by decide) (by decide) rfl a0 (by omega) (by decide) (by decide) (by decide)
  have hn : (((79 : Int32) + (4 : Int32) * w) + (2 : Int32)).toNatClampNeg = 79 + 4 * w.toInt.toNat + 2 := tn_of (by rw [hx]; omega)
  rw [hn]
  have hk : w.toInt.toNat < 12 := by omega
  generalize w.toInt.toNat = k at hk
  rw [show (79 + 4 * k + 2) % 127 = 79 + 4 * k + 2 by omega]
  unfold sdom
  rw [if_neg (by omega), if_neg (by omega), if_neg (by omega), if_neg (by omega), if_neg (by omega), if_neg (by omega), if_neg (by omega), if_neg (by omega), if_pos (by omega)]
theorem r82_79_2 {M : MM} (h : Inv M) (w : Int32) (h0 : 0 ≤ w) (h1 : w < 12) : 0 ≤ M 82 (((79 : Int32) + (4 : Int32) * w) + (2 : Int32)).toNatClampNeg ∧ M 82 (((79 : Int32) + (4 : Int32) * w) + (2 : Int32)).toNatClampNeg ≤ 23 := by
  have := h.2.1 (((79 : Int32) + (4 : Int32) * w) + (2 : Int32)).toNatClampNeg
  rw [sx_79_2 h0 h1] at this
  exact this
theorem w82_79_2 {M : MM} (h : Inv M) (w v : Int32) (h0 : 0 ≤ w) (h1 : w < 12) (hv : 0 ≤ v ∧ v ≤ 23) : Inv (mset M 82 (((79 : Int32) + (4 : Int32) * w) + (2 : Int32)).toNatClampNeg v) := inv_82 h (by rw [sx_79_2 h0 h1]; exact hv)
theorem w90_79_2 {M : MM} (h : Inv M) (w v : Int32) (h0 : 0 ≤ w) (h1 : w < 12) (hv : 0 ≤ v ∧ v ≤ 23) : Inv (mset M 90 (((79 : Int32) + (4 : Int32) * w) + (2 : Int32)).toNatClampNeg v) := inv_90 h (by rw [sx_79_2 h0 h1]; exact hv)
theorem sx_79_3 {w v : Int32} (h0 : 0 ≤ w) (h1 : w < 12) : sdom ((((79 : Int32) + (4 : Int32) * w) + (3 : Int32)).toNatClampNeg % 127) v = (0 ≤ v ∧ v ≤ 1) := by
  have a0 := i_ge_to (k := 0) (by decide) h0
  have a1 := i_lt_to (k := 12) (by decide) h1
  have hx := lin_to (b := 79) (m := 4) (c := 3) (w := w) (B := 79) (K := 4) (C := 3) (by decide) (by decide) (by decide) rfl a0 (by omega) (by decide) (by decide) (by decide)
  have hn : (((79 : Int32) + (4 : Int32) * w) + (3 : Int32)).toNatClampNeg = 79 + 4 * w.toInt.toNat + 3 := tn_of (by rw [hx]; omega)
  rw [hn]
  have hk : w.toInt.toNat < 12 := by omega
  generalize w.toInt.toNat = k at hk
  rw [show (79 + 4 * k + 3) % 127 = 79 + 4 * k + 3 by omega]
  unfold sdom
  rw [if_neg (by omega), if_neg (by omega), if_neg (by omega), if_neg (by omega), if_neg (by omega), if_neg (by omega), if_neg (by omega), if_neg (by omega), if_neg (by omega)]
theorem r82_79_3 {M : MM} (h : Inv M) (w : Int32) (h0 : 0 ≤ w) (h1 : w < 12) : 0 ≤ M 82 (((79 : Int32) + (4 : Int32) * w) + (3 : Int32)).toNatClampNeg ∧ M 82 (((79 : Int32) + (4 : Int32) * w) + (3 : Int32)).toNatClampNeg ≤ 1 := by
  have := h.2.1 (((79 : Int32) + (4 : Int32) * w) + (3 : Int32)).toNatClampNeg
  rw [sx_79_3 h0 h1] at this
  exact this
theorem w82_79_3 {M : MM} (h : Inv M) (w v : Int32) (h0 : 0 ≤ w) (h1 : w < 12) (hv : 0 ≤ v ∧ v ≤ 1) : Inv (mset M 82 (((79 : Int32) + (4 : Int32) * w) + (3 : Int32)).toNatClampNeg v) := inv_82 h (by rw [sx_79_3 h0 h1]; exact hv)
theorem w90_79_3 {M : MM} (h : Inv M) (w v : Int32) (h0 : 0 ≤ w) (h1 : w < 12) (hv : 0 ≤ v ∧ v ≤ 1) : Inv (mset M 90 (((79 : Int32) + (4 : Int32) * w) + (3 : Int32)).toNatClampNeg v) := inv_90 h (by rw [sx_79_3 h0 h1]; exact hv)
theorem w82_th {M : MM} (h : Inv M) (x v : Int32) (h0 : 0 ≤ x) (h1 : x < 16) (hv : Th v) : Inv (mset M 82 x.toNatClampNeg v) := inv_82 h (by unfold sdom; rw [if_pos (sx_th x h0 h1)]; exact hv)
theorem w90_th {M : MM} (h : Inv M) (x v : Int32) (h0 : 0 ≤ x) (h1 : x < 16) (hv : Th v) : Inv (mset M 90 x.toNatClampNeg v) := inv_90 h (by unfold sdom; rw [if_pos (sx_th x h0 h1)]; exact hv)
theorem w82_16 {M : MM} (h : Inv M) (v : Int32) (hv : 0 ≤ v ∧ v ≤ 12) : Inv (mset M 82 (16 : Int32).toNatClampNeg v) := inv_82 h (show sdom 16 v from hv)
theorem w82_65 {M : MM} (h : Inv M) (v : Int32) (hv : 0 ≤ v ∧ v ≤ 6) : Inv (mset M 82 (65 : Int32).toNatClampNeg v) := inv_82 h (show sdom 65 v from hv)
theorem w82_78 {M : MM} (h : Inv M) (v : Int32) (hv : 0 ≤ v ∧ v ≤ 12) : Inv (mset M 82 (78 : Int32).toNatClampNeg v) := inv_82 h (show sdom 78 v from hv)
theorem w90_16 {M : MM} (h : Inv M) (v : Int32) (hv : 0 ≤ v ∧ v ≤ 12) : Inv (mset M 90 (16 : Int32).toNatClampNeg v) := inv_90 h (show sdom 16 v from hv)
theorem r82_prev {M : MM} (h : Inv M) (n : Int32) (h0 : 1 ≤ n) (h1 : n ≤ 12) : 0 ≤ M 82 (((17 : Int32) + (4 : Int32) * n) - (4 : Int32)).toNatClampNeg ∧ M 82 (((17 : Int32) + (4 : Int32) * n) - (4 : Int32)).toNatClampNeg ≤ 23 := by
  have e : ((17 : Int32) + (4 : Int32) * n) - (4 : Int32) = (17 : Int32) + (4 : Int32) * (n - 1) := by lia
  rw [e]
  have := h.2.1 ((17 : Int32) + (4 : Int32) * (n - 1)).toNatClampNeg
  rw [sx_17_0 (by lia) (by lia)] at this
  exact this
theorem r90_prev {M : MM} (h : Inv M) (n : Int32) (h0 : 1 ≤ n) (h1 : n ≤ 12) : 0 ≤ M 90 (((17 : Int32) + (4 : Int32) * n) - (4 : Int32)).toNatClampNeg ∧ M 90 (((17 : Int32) + (4 : Int32) * n) - (4 : Int32)).toNatClampNeg ≤ 23 := by
  have e : ((17 : Int32) + (4 : Int32) * n) - (4 : Int32) = (17 : Int32) + (4 : Int32) * (n - 1) := by lia
  rw [e]
  have := h.2.2.1 ((17 : Int32) + (4 : Int32) * (n - 1)).toNatClampNeg
  rw [sx_17_0 (by lia) (by lia)] at this
  exact this

