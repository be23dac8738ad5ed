/-! bounds (printed by wip/gen/vc.py) -/
def blo (a j : Nat) : Int32 := match a with
  | 1 => (match j with | 1 => 0 | _ => (-2147483648))
  | 3 => (match j with | 0 => (-2147483648) | _ => (-2147483648))
  | 16 => (match j with | 3 => 0 | _ => (-2147483648))
  | 18 => (match j with | 3 => 0 | _ => (-2147483648))
  | 20 => (match j with | 3 => 0 | _ => (-2147483648))
  | 22 => (match j with | 6 => 0 | _ => (-2147483648))
  | 23 => (match j with | 0 => (-2147483648) | _ => (-2147483648))
  | 36 => (match j with | 3 => 0 | _ => (-2147483648))
  | 38 => (match j with | 3 => 0 | _ => (-2147483648))
  | 40 => (match j with | 3 => 0 | _ => (-2147483648))
  | 58 => (match j with | 3 => 0 | _ => (-2147483648))
  | 60 => (match j with | 3 => 0 | _ => (-2147483648))
  | 62 => (match j with | 3 => 0 | _ => (-2147483648))
  | 66 => (match j with | 3 => 0 | _ => (-2147483648))
  | 68 => (match j with | 3 => 0 | _ => (-2147483648))
  | 70 => (match j with | 3 => 0 | _ => (-2147483648))
  | 73 => (match j with | 0 => (-1) | _ => (-2147483648))
  | 75 => (match j with | 0 => (-1) | _ => (-2147483648))
  | 77 => (match j with | 0 => (-1) | _ => (-2147483648))
  | 79 => (match j with | 0 => (-1) | _ => (-2147483648))
  | 81 => (match j with | 2 => 0 | 13 => 0 | 31 => 0 | 32 => 0 | 33 => 0 | _ => (-2147483648))
  | 88 => 0
  | 89 => 0
  | 95 => 0
  | 96 => 0
  | 98 => 0
  | 106 => 0
  | _ => (-2147483648)
def bhi (a j : Nat) : Int32 := match a with
  | 1 => (match j with | 1 => 400 | _ => 2147483647)
  | 3 => (match j with | 0 => 8 | _ => 2147483647)
  | 16 => (match j with | 3 => 12 | _ => 2147483647)
  | 18 => (match j with | 3 => 6 | _ => 2147483647)
  | 20 => (match j with | 3 => 12 | _ => 2147483647)
  | 22 => (match j with | 6 => 400 | _ => 2147483647)
  | 23 => (match j with | 0 => 8 | _ => 2147483647)
  | 36 => (match j with | 3 => 12 | _ => 2147483647)
  | 38 => (match j with | 3 => 6 | _ => 2147483647)
  | 40 => (match j with | 3 => 12 | _ => 2147483647)
  | 58 => (match j with | 3 => 12 | _ => 2147483647)
  | 60 => (match j with | 3 => 6 | _ => 2147483647)
  | 62 => (match j with | 3 => 12 | _ => 2147483647)
  | 66 => (match j with | 3 => 12 | _ => 2147483647)
  | 68 => (match j with | 3 => 6 | _ => 2147483647)
  | 70 => (match j with | 3 => 12 | _ => 2147483647)
  | 73 => (match j with | 0 => 40 | _ => 2147483647)
  | 75 => (match j with | 0 => 40 | _ => 2147483647)
  | 77 => (match j with | 0 => 40 | _ => 2147483647)
  | 79 => (match j with | 0 => 40 | _ => 2147483647)
  | 81 => (match j with | 2 => 8 | 13 => 8 | 31 => 400 | 32 => 400 | 33 => 400 | _ => 2147483647)
  | 88 => 5
  | 89 => 3
  | 95 => 5
  | 96 => 3
  | 98 => 63
  | 106 => 40
  | _ => 2147483647
def Inv (M : MM) : Prop := ∀ a j, blo a j ≤ M a j ∧ M a j ≤ bhi a j
theorem inv_set {M : MM} {a j : Nat} {v : Int32} (h : Inv M) (h1 : blo a j ≤ v ∧ v ≤ bhi a j) : Inv (mset M a j v) := by
  intro b k
  rw [mset_if]
  by_cases e : b = a ∧ k = j
  · rw [if_pos e, e.1, e.2]; exact h1
  · rw [if_neg e]; exact h b k
theorem inv_row {M : MM} {a : Nat} {f : Nat → Int32} (h : Inv M) (h1 : ∀ j, blo a j ≤ f j ∧ f j ≤ bhi a j) : Inv (mrow M a f) := by
  intro b k
  by_cases e : b = a
  · subst e; rw [mrow_same]; exact h1 k
  · rw [mrow_ne e]; exact h b k
theorem i_any (v : Int32) : (-2147483648 : Int32) ≤ v ∧ v ≤ 2147483647 := by lia
theorem iv_1_1 {M : MM} (h : Inv M) : 0 ≤ M 1 1 ∧ M 1 1 ≤ 400 := h 1 1
theorem iv_3_0 {M : MM} (h : Inv M) : (-2147483648) ≤ M 3 0 ∧ M 3 0 ≤ 8 := h 3 0
theorem iv_16_3 {M : MM} (h : Inv M) : 0 ≤ M 16 3 ∧ M 16 3 ≤ 12 := h 16 3
theorem iv_18_3 {M : MM} (h : Inv M) : 0 ≤ M 18 3 ∧ M 18 3 ≤ 6 := h 18 3
theorem iv_20_3 {M : MM} (h : Inv M) : 0 ≤ M 20 3 ∧ M 20 3 ≤ 12 := h 20 3
theorem iv_22_6 {M : MM} (h : Inv M) : 0 ≤ M 22 6 ∧ M 22 6 ≤ 400 := h 22 6
theorem iv_23_0 {M : MM} (h : Inv M) : (-2147483648) ≤ M 23 0 ∧ M 23 0 ≤ 8 := h 23 0
theorem iv_36_3 {M : MM} (h : Inv M) : 0 ≤ M 36 3 ∧ M 36 3 ≤ 12 := h 36 3
theorem iv_38_3 {M : MM} (h : Inv M) : 0 ≤ M 38 3 ∧ M 38 3 ≤ 6 := h 38 3
theorem iv_40_3 {M : MM} (h : Inv M) : 0 ≤ M 40 3 ∧ M 40 3 ≤ 12 := h 40 3
theorem iv_58_3 {M : MM} (h : Inv M) : 0 ≤ M 58 3 ∧ M 58 3 ≤ 12 := h 58 3
theorem iv_60_3 {M : MM} (h : Inv M) : 0 ≤ M 60 3 ∧ M 60 3 ≤ 6 := h 60 3
theorem iv_62_3 {M : MM} (h : Inv M) : 0 ≤ M 62 3 ∧ M 62 3 ≤ 12 := h 62 3
theorem iv_66_3 {M : MM} (h : Inv M) : 0 ≤ M 66 3 ∧ M 66 3 ≤ 12 := h 66 3
theorem iv_68_3 {M : MM} (h : Inv M) : 0 ≤ M 68 3 ∧ M 68 3 ≤ 6 := h 68 3
theorem iv_70_3 {M : MM} (h : Inv M) : 0 ≤ M 70 3 ∧ M 70 3 ≤ 12 := h 70 3
theorem iv_73_0 {M : MM} (h : Inv M) : (-1) ≤ M 73 0 ∧ M 73 0 ≤ 40 := h 73 0
theorem iv_75_0 {M : MM} (h : Inv M) : (-1) ≤ M 75 0 ∧ M 75 0 ≤ 40 := h 75 0
theorem iv_77_0 {M : MM} (h : Inv M) : (-1) ≤ M 77 0 ∧ M 77 0 ≤ 40 := h 77 0
theorem iv_79_0 {M : MM} (h : Inv M) : (-1) ≤ M 79 0 ∧ M 79 0 ≤ 40 := h 79 0
theorem iv_81_2 {M : MM} (h : Inv M) : 0 ≤ M 81 2 ∧ M 81 2 ≤ 8 := h 81 2
theorem iv_81_13 {M : MM} (h : Inv M) : 0 ≤ M 81 13 ∧ M 81 13 ≤ 8 := h 81 13
theorem iv_81_31 {M : MM} (h : Inv M) : 0 ≤ M 81 31 ∧ M 81 31 ≤ 400 := h 81 31
theorem iv_81_32 {M : MM} (h : Inv M) : 0 ≤ M 81 32 ∧ M 81 32 ≤ 400 := h 81 32
theorem iv_81_33 {M : MM} (h : Inv M) : 0 ≤ M 81 33 ∧ M 81 33 ≤ 400 := h 81 33
theorem iv_88 {M : MM} (h : Inv M) (j : Nat) : 0 ≤ M 88 j ∧ M 88 j ≤ 5 := h 88 j
theorem iv_89 {M : MM} (h : Inv M) (j : Nat) : 0 ≤ M 89 j ∧ M 89 j ≤ 3 := h 89 j
theorem iv_95 {M : MM} (h : Inv M) (j : Nat) : 0 ≤ M 95 j ∧ M 95 j ≤ 5 := h 95 j
theorem iv_96 {M : MM} (h : Inv M) (j : Nat) : 0 ≤ M 96 j ∧ M 96 j ≤ 3 := h 96 j
theorem iv_98 {M : MM} (h : Inv M) (j : Nat) : 0 ≤ M 98 j ∧ M 98 j ≤ 63 := h 98 j
theorem iv_106 {M : MM} (h : Inv M) (j : Nat) : 0 ≤ M 106 j ∧ M 106 j ≤ 40 := h 106 j
