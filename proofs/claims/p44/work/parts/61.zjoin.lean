/-! the two constructors' worlds side by side are WM -/
theorem eqv_map {f g : Nat → Nat × va_E} : ∀ (is : List Nat), (∀ i ∈ is, (f i).1 = (g i).1 ∧ ee (f i).2 (g i).2) → eqv (is.map f) (is.map g)
  | [], _ => trivial
  | i :: l, h => ⟨(h i List.mem_cons_self).1, (h i List.mem_cons_self).2, eqv_map l (fun j hj => h j (List.mem_cons_of_mem _ hj))⟩
theorem kd_A : ∀ i, i < 81 → kd i ≤ 16 ∧ kd i ≠ 11 := by decide +kernel
theorem kd_A1 : ∀ i, i < 81 → (kd i = 1 → i + 10 < 81) ∧ (kd i = 5 → i + 1 < 81) ∧ (kd i = 7 → i + 6 < 81) ∧ (kd i = 8 → i + 1 < 81) ∧ (kd i = 9 → i + 1 < 81) ∧ (kd i = 16 → i + 2 < 81) := by decide +kernel
theorem kd_B : ∀ i, i < 108 → 81 ≤ i → (kd i = 11 ∧ i = 81) ∨ kd i = 12 ∨ kd i = 13 := by decide +kernel
theorem lk_B : ∀ i, i < 108 → 81 ≤ i → tMK.lookup i = tM0.lookup i := by decide +kernel
theorem mk_B {i : Nat} (h1 : i < 108) (h2 : 81 ≤ i) : MK i = M0 i := by
  funext j
  show nI (((tMK.lookup i).getD []).getD j 0) = nI (((tM0.lookup i).getD []).getD j 0)
  rw [lk_B i h1 h2]
theorem cellA {E : EV} {ad ad' : Nat → Nat} {i : Nat} {f : Nat → Int32} {tl : Int64} (h : ∀ j, j < 81 → ad j = ad' j) (hi : i < 81) : ee (cellR E.2.1 ad i f tl) (cellR E.2.1 ad' i f tl) := by
  obtain ⟨b1, b5, b7, b8, b9, b16⟩ := kd_A1 i hi
  obtain ⟨h1, h2⟩ := kd_A i hi
  rcases (by omega : kd i = 0 ∨ kd i = 1 ∨ kd i = 2 ∨ kd i = 3 ∨ kd i = 4 ∨ kd i = 5 ∨ kd i = 6 ∨ kd i = 7 ∨ kd i = 8 ∨ kd i = 9 ∨ kd i = 10 ∨ kd i = 12 ∨ kd i = 13 ∨ kd i = 14 ∨ kd i = 15 ∨ kd i = 16) with hk | hk | hk | hk | hk | hk | hk | hk | hk | hk | hk | hk | hk | hk | hk | hk
  · rw [ce0 hk, ce0 hk, h 3 (by decide), h 14 (by decide)]; exact ee_rfl
  · have b := b1 hk
    rw [ce1 hk, ce1 hk, h (i + 1) (by omega), h (i + 2) (by omega), h (i + 5) (by omega), h (i + 8) (by omega), h (i + 9) (by omega), h (i + 10) (by omega)]; exact ee_rfl
  · rw [ce2 hk, ce2 hk, h 3 (by decide), h 14 (by decide)]; exact ee_rfl
  · rw [ce3 hk, ce3 hk, h 3 (by decide), h 14 (by decide), h 50 (by decide), h 51 (by decide), h 52 (by decide)]; exact ee_rfl
  · rw [ce4 hk, ce4 hk, h 23 (by decide), h 34 (by decide), h 1 (by decide)]; exact ee_rfl
  · have b := b5 hk
    rw [ce5 hk, ce5 hk, h (i + 1) (by omega)]; exact ee_rfl
  · rw [ce6 hk, ce6 hk, h 43 (by decide), h 44 (by decide), h 45 (by decide), h 3 (by decide), h 14 (by decide), h 46 (by decide), h 47 (by decide)]; exact ee_rfl
  · have b := b7 hk
    rw [ce7 hk, ce7 hk, h (i + 1) (by omega), h (i + 2) (by omega), h (i + 4) (by omega), h (i + 6) (by omega)]; exact ee_rfl
  · have b := b8 hk
    rw [ce8 hk, ce8 hk, h (i + 1) (by omega)]; exact ee_rfl
  · have b := b9 hk
    rw [ce9 hk, ce9 hk, h (i + 1) (by omega)]; exact ee_rfl
  · rw [ce10 hk, ce10 hk, h 1 (by decide), h 3 (by decide), h 14 (by decide), h 22 (by decide), h 42 (by decide), h 48 (by decide), h 49 (by decide), h 53 (by decide), h 54 (by decide), h 55 (by decide), h 72 (by decide)]; exact ee_rfl
  · rw [ce12 hk, ce12 hk]; exact ee_rfl
  · rw [ce13 hk, ce13 hk]; exact ee_rfl
  · rw [ce14 hk, ce14 hk]; exact ee_q (fun j hj => by rw [h (56 + 8 * j) (by omega)])
  · rw [ce15 hk, ce15 hk]; exact ee_q (fun j hj => by rw [h (73 + 2 * j) (by omega)])
  · have b := b16 hk
    rw [ce16 hk, ce16 hk]; exact ee_q (fun j hj => by rw [h (i + 1 + j) (by omega)])
theorem cellB {E : EV} {ad ad' : Nat → Nat} {i : Nat} {f : Nat → Int32} {tl : Int64} (h : ∀ j, 81 ≤ j → j < 108 → ad j = ad' j) (hi : i < 108) (h8 : 81 ≤ i) : ee (cellR E.2.1 ad i f tl) (cellR E.2.1 ad' i f tl) := by
  rcases kd_B i hi h8 with ⟨hk, _⟩ | hk | hk
  · rw [ce11 hk, ce11 hk, h 82 (by decide) (by decide), h 83 (by decide) (by decide), h 84 (by decide) (by decide), h 85 (by decide) (by decide), h 86 (by decide) (by decide), h 87 (by decide) (by decide), h 88 (by decide) (by decide), h 89 (by decide) (by decide), h 90 (by decide) (by decide), h 91 (by decide) (by decide), h 92 (by decide) (by decide), h 93 (by decide) (by decide), h 94 (by decide) (by decide), h 95 (by decide) (by decide), h 96 (by decide) (by decide), h 97 (by decide) (by decide), h 98 (by decide) (by decide), h 99 (by decide) (by decide), h 100 (by decide) (by decide), h 101 (by decide) (by decide), h 102 (by decide) (by decide), h 103 (by decide) (by decide), h 104 (by decide) (by decide), h 105 (by decide) (by decide), h 106 (by decide) (by decide), h 107 (by decide) (by decide)]; exact ee_rfl
  · rw [ce12 hk, ce12 hk]; exact ee_rfl
  · rw [ce13 hk, ce13 hk]; exact ee_rfl
theorem ad_A {l1 l2 : List Nat} (hl : l1.length = 81) {j : Nat} (hj : j < 81) : adB 0 l1 j = adB 0 (l1 ++ l2) j := by
  unfold adB
  rw [Nat.sub_zero, List.getD_eq_getElem?_getD, List.getD_eq_getElem?_getD, List.getElem?_append_left (by omega)]
theorem ad_B {l1 l2 : List Nat} (hl : l1.length = 81) {j : Nat} (hj : 81 ≤ j) : adB 81 l2 j = adB 0 (l1 ++ l2) j := by
  unfold adB
  rw [Nat.sub_zero, List.getD_eq_getElem?_getD, List.getD_eq_getElem?_getD, List.getElem?_append_right (by omega), hl]
theorem eqv_law {E : EV} {l1 l2 : List Nat} (hl : l1.length = 81) : eqv (WS 0 81 E (adB 0 l1) M0 0 ++ WS 81 27 E (adB 81 l2) MK 0) (WM E (adB 0 (l1 ++ l2)) M0 0) := by
  have e : List.range 108 = List.range' 0 81 ++ List.range' 81 27 := by decide +kernel
  unfold WM
  rw [e, List.map_append]
  refine eqv_app (eqv_map _ (fun i hi => ?_)) (eqv_map _ (fun i hi => ?_))
  · have h := List.mem_range'_1.mp hi
    exact ⟨ad_A hl (by omega), cellA (fun j hj => ad_A hl hj) (by omega)⟩
  · have h := List.mem_range'_1.mp hi
    refine ⟨ad_B hl (by omega), ?_⟩
    show ee (cellR E.2.1 (adB 81 l2) i (MK i) 0) (cellR E.2.1 (adB 0 (l1 ++ l2)) i (M0 i) 0)
    rw [mk_B (by omega) (by omega)]
    exact cellB (fun j h1 h2 => ad_B hl h1) (by omega) (by omega)
