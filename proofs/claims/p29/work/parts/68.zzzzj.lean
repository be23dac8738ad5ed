/-! PLANS: the least sum by counts of months, and sets of months (numbers alone) -/
def dg (s q : Nat) : Nat := s / 4 ^ q % 4
def pl4 (s : Nat) : Nat := dg s 0 + dg s 1 + dg s 2 + dg s 3
def pick (g : Nat → Nat) (P : Nat → Nat) (c s best q : Nat) : Nat := if dg s q < 3 then (if P q * c + g (s + 4 ^ q) < best then P q * c + g (s + 4 ^ q) else best) else best
def ob (P C : Nat → Nat) (W : Nat) : Nat → Nat → Nat
  | 0, _ => 0
  | r + 1, s => pick (ob P C W r) P (C (W - (r + 1))) s (pick (ob P C W r) P (C (W - (r + 1))) s (pick (ob P C W r) P (C (W - (r + 1))) s (pick (ob P C W r) P (C (W - (r + 1))) s 1000000 0) 1) 2) 3
theorem pick_le {g P : Nat → Nat} {c s best q : Nat} : pick g P c s best q ≤ best := by
  unfold pick
  split
  · split <;> omega
  · omega
theorem pick_c {g P : Nat → Nat} {c s best q : Nat} (h : dg s q < 3) : pick g P c s best q ≤ P q * c + g (s + 4 ^ q) := by
  unfold pick
  rw [if_pos h]
  split <;> omega
theorem pick_or {g P : Nat → Nat} {c s best q : Nat} : pick g P c s best q = best ∨ (dg s q < 3 ∧ pick g P c s best q = P q * c + g (s + 4 ^ q)) := by
  unfold pick
  split
  · rename_i h
    split
    · exact Or.inr ⟨h, rfl⟩
    · exact Or.inl rfl
  · exact Or.inl rfl
theorem ob_le {P C : Nat → Nat} {W r s : Nat} : ob P C W r s ≤ 1000000 := by
  cases r with
  | zero => exact Nat.zero_le _
  | succ r => exact Nat.le_trans pick_le (Nat.le_trans pick_le (Nat.le_trans pick_le pick_le))
theorem ob_lb {P C : Nat → Nat} {W r s q : Nat} (hq : q < 4) (h : dg s q < 3) : ob P C W (r + 1) s ≤ P q * C (W - (r + 1)) + ob P C W r (s + 4 ^ q) := by
  show pick _ _ _ _ _ _ ≤ _
  rcases (by omega : q = 0 ∨ q = 1 ∨ q = 2 ∨ q = 3) with e | e | e | e <;> subst e
  · exact Nat.le_trans pick_le (Nat.le_trans pick_le (Nat.le_trans pick_le (pick_c h)))
  · exact Nat.le_trans pick_le (Nat.le_trans pick_le (pick_c h))
  · exact Nat.le_trans pick_le (pick_c h)
  · exact pick_c h
theorem ob_att {P C : Nat → Nat} {W r s : Nat} (h : ob P C W (r + 1) s < 1000000) : ∃ q, q < 4 ∧ dg s q < 3 ∧ ob P C W (r + 1) s = P q * C (W - (r + 1)) + ob P C W r (s + 4 ^ q) := by
  have e : ob P C W (r + 1) s = pick (ob P C W r) P (C (W - (r + 1))) s (pick (ob P C W r) P (C (W - (r + 1))) s (pick (ob P C W r) P (C (W - (r + 1))) s (pick (ob P C W r) P (C (W - (r + 1))) s 1000000 0) 1) 2) 3 := rfl
  rw [e] at h ⊢
  rcases pick_or (g := ob P C W r) (P := P) (c := C (W - (r + 1))) (s := s) (best := (pick (ob P C W r) P (C (W - (r + 1))) s (pick (ob P C W r) P (C (W - (r + 1))) s (pick (ob P C W r) P (C (W - (r + 1))) s 1000000 0) 1) 2)) (q := 3) with z | ⟨z1, z2⟩
  · rw [z] at h ⊢
    rcases pick_or (g := ob P C W r) (P := P) (c := C (W - (r + 1))) (s := s) (best := (pick (ob P C W r) P (C (W - (r + 1))) s (pick (ob P C W r) P (C (W - (r + 1))) s 1000000 0) 1)) (q := 2) with z | ⟨z1, z2⟩
    · rw [z] at h ⊢
      rcases pick_or (g := ob P C W r) (P := P) (c := C (W - (r + 1))) (s := s) (best := (pick (ob P C W r) P (C (W - (r + 1))) s 1000000 0)) (q := 1) with z | ⟨z1, z2⟩
      · rw [z] at h ⊢
        rcases pick_or (g := ob P C W r) (P := P) (c := C (W - (r + 1))) (s := s) (best := 1000000) (q := 0) with z | ⟨z1, z2⟩
        · rw [z] at h; exact absurd h (by omega)
        · exact ⟨0, by omega, z1, z2⟩
      · exact ⟨1, by omega, z1, z2⟩
    · exact ⟨2, by omega, z1, z2⟩
  · exact ⟨3, by omega, z1, z2⟩
theorem pl_add {s q : Nat} (hs : s < 256) (hq : q < 4) (h : dg s q < 3) : s + 4 ^ q < 256 ∧ pl4 (s + 4 ^ q) = pl4 s + 1 := by
  unfold pl4
  unfold dg at h ⊢
  rcases (by omega : q = 0 ∨ q = 1 ∨ q = 2 ∨ q = 3) with e | e | e | e <;> subst e <;> simp only [Nat.reducePow] at h ⊢ <;> omega
theorem dg_add {s q x : Nat} (hs : s < 256) (hq : q < 4) (hx : x < 4) (h : dg s q < 3) : dg (s + 4 ^ q) x = dg s x + (if x = q then 1 else 0) := by
  unfold dg at h ⊢
  rcases (by omega : q = 0 ∨ q = 1 ∨ q = 2 ∨ q = 3) with e | e | e | e <;> subst e <;> rcases (by omega : x = 0 ∨ x = 1 ∨ x = 2 ∨ x = 3) with e | e | e | e <;> subst e <;> simp only [Nat.reducePow] at h ⊢ <;> simp <;> omega
theorem pl_free {s : Nat} (h : pl4 s ≤ 11) : ∃ q, q < 4 ∧ dg s q < 3 := by
  unfold pl4 at h
  by_cases c0 : dg s 0 < 3
  · exact ⟨0, by omega, c0⟩
  · by_cases c1 : dg s 1 < 3
    · exact ⟨1, by omega, c1⟩
    · by_cases c2 : dg s 2 < 3
      · exact ⟨2, by omega, c2⟩
      · exact ⟨3, by omega, by omega⟩
theorem ob_small {P C : Nat → Nat} {W : Nat} (hP : ∀ q, q < 4 → P q ≤ 9) (hC : ∀ j, C j ≤ 40) : ∀ r s, s < 256 → pl4 s + r ≤ 6 → ob P C W r s ≤ 360 * r := by
  intro r
  induction r with
  | zero => intro s _ _; exact Nat.le_refl _
  | succ r ih =>
    intro s hs hp
    obtain ⟨q, hq, hd⟩ := pl_free (s := s) (by omega)
    have a := pl_add hs hq hd
    have b := ih (s + 4 ^ q) a.1 (by omega)
    have c := ob_lb (P := P) (C := C) (W := W) (r := r) hq hd
    have d : P q * C (W - (r + 1)) ≤ 9 * 40 := Nat.mul_le_mul (hP q hq) (hC _)
    omega
/-! sets of months -/
def bt (u m : Nat) : Nat := u / 2 ^ m % 2
theorem bt_le (u m : Nat) : bt u m ≤ 1 := by unfold bt; omega
def stU (f u : Nat) : Nat := bt u 0 * 4 ^ ((f + 0) % 4) + bt u 1 * 4 ^ ((f + 1) % 4) + bt u 2 * 4 ^ ((f + 2) % 4) + bt u 3 * 4 ^ ((f + 3) % 4) + bt u 4 * 4 ^ ((f + 4) % 4) + bt u 5 * 4 ^ ((f + 5) % 4) + bt u 6 * 4 ^ ((f + 6) % 4) + bt u 7 * 4 ^ ((f + 7) % 4) + bt u 8 * 4 ^ ((f + 8) % 4) + bt u 9 * 4 ^ ((f + 9) % 4) + bt u 10 * 4 ^ ((f + 10) % 4) + bt u 11 * 4 ^ ((f + 11) % 4)
def pcU (u : Nat) : Nat := bt u 0 + bt u 1 + bt u 2 + bt u 3 + bt u 4 + bt u 5 + bt u 6 + bt u 7 + bt u 8 + bt u 9 + bt u 10 + bt u 11
theorem bt_add {u m x : Nat} (hm : m < 12) (hx : x < 12) (h : bt u m = 0) : bt (u + 2 ^ m) x = bt u x + (if x = m then 1 else 0) := by
  unfold bt at h ⊢
  rcases (by omega : m = 0 ∨ m = 1 ∨ m = 2 ∨ m = 3 ∨ m = 4 ∨ m = 5 ∨ m = 6 ∨ m = 7 ∨ m = 8 ∨ m = 9 ∨ m = 10 ∨ m = 11) with e | e | e | e | e | e | e | e | e | e | e | e <;> subst e <;> simp only [Nat.reducePow] at h ⊢ <;> (rcases (by omega : x = 0 ∨ x = 1 ∨ x = 2 ∨ x = 3 ∨ x = 4 ∨ x = 5 ∨ x = 6 ∨ x = 7 ∨ x = 8 ∨ x = 9 ∨ x = 10 ∨ x = 11) with e | e | e | e | e | e | e | e | e | e | e | e <;> subst e <;> simp only [Nat.reducePow] <;> simp <;> omega)
theorem pc_add {u m : Nat} (hm : m < 12) (h : bt u m = 0) : pcU (u + 2 ^ m) = pcU u + 1 := by
  unfold pcU
  rw [bt_add (x := 0) hm (by omega) h, bt_add (x := 1) hm (by omega) h, bt_add (x := 2) hm (by omega) h, bt_add (x := 3) hm (by omega) h, bt_add (x := 4) hm (by omega) h, bt_add (x := 5) hm (by omega) h, bt_add (x := 6) hm (by omega) h, bt_add (x := 7) hm (by omega) h, bt_add (x := 8) hm (by omega) h, bt_add (x := 9) hm (by omega) h, bt_add (x := 10) hm (by omega) h, bt_add (x := 11) hm (by omega) h]
  rcases (by omega : m = 0 ∨ m = 1 ∨ m = 2 ∨ m = 3 ∨ m = 4 ∨ m = 5 ∨ m = 6 ∨ m = 7 ∨ m = 8 ∨ m = 9 ∨ m = 10 ∨ m = 11) with e | e | e | e | e | e | e | e | e | e | e | e <;> subst e <;> simp <;> omega
theorem st_add {f u m : Nat} (hf : f < 4) (hm : m < 12) (h : bt u m = 0) : stU f (u + 2 ^ m) = stU f u + 4 ^ ((f + m) % 4) := by
  unfold stU
  rw [bt_add (x := 0) hm (by omega) h, bt_add (x := 1) hm (by omega) h, bt_add (x := 2) hm (by omega) h, bt_add (x := 3) hm (by omega) h, bt_add (x := 4) hm (by omega) h, bt_add (x := 5) hm (by omega) h, bt_add (x := 6) hm (by omega) h, bt_add (x := 7) hm (by omega) h, bt_add (x := 8) hm (by omega) h, bt_add (x := 9) hm (by omega) h, bt_add (x := 10) hm (by omega) h, bt_add (x := 11) hm (by omega) h]
  rcases (by omega : f = 0 ∨ f = 1 ∨ f = 2 ∨ f = 3) with e | e | e | e <;> subst e <;> (rcases (by omega : m = 0 ∨ m = 1 ∨ m = 2 ∨ m = 3 ∨ m = 4 ∨ m = 5 ∨ m = 6 ∨ m = 7 ∨ m = 8 ∨ m = 9 ∨ m = 10 ∨ m = 11) with e | e | e | e | e | e | e | e | e | e | e | e <;> subst e <;> simp <;> omega)
theorem st_lt {f u : Nat} (hf : f < 4) : stU f u < 256 ∧ pl4 (stU f u) = pcU u := by
  have l0 := bt_le u 0
  have l1 := bt_le u 1
  have l2 := bt_le u 2
  have l3 := bt_le u 3
  have l4 := bt_le u 4
  have l5 := bt_le u 5
  have l6 := bt_le u 6
  have l7 := bt_le u 7
  have l8 := bt_le u 8
  have l9 := bt_le u 9
  have l10 := bt_le u 10
  have l11 := bt_le u 11
  unfold pl4 dg stU pcU
  rcases (by omega : f = 0 ∨ f = 1 ∨ f = 2 ∨ f = 3) with e | e | e | e <;> subst e <;> simp only [Nat.reduceAdd, Nat.reduceMod, Nat.reducePow] <;> omega
theorem st_dg {f u m : Nat} (hf : f < 4) (hm : m < 12) (h : bt u m = 0) : dg (stU f u) ((f + m) % 4) < 3 := by
  have l0 := bt_le u 0
  have l1 := bt_le u 1
  have l2 := bt_le u 2
  have l3 := bt_le u 3
  have l4 := bt_le u 4
  have l5 := bt_le u 5
  have l6 := bt_le u 6
  have l7 := bt_le u 7
  have l8 := bt_le u 8
  have l9 := bt_le u 9
  have l10 := bt_le u 10
  have l11 := bt_le u 11
  unfold dg stU
  rcases (by omega : f = 0 ∨ f = 1 ∨ f = 2 ∨ f = 3) with e | e | e | e <;> subst e <;> (rcases (by omega : m = 0 ∨ m = 1 ∨ m = 2 ∨ m = 3 ∨ m = 4 ∨ m = 5 ∨ m = 6 ∨ m = 7 ∨ m = 8 ∨ m = 9 ∨ m = 10 ∨ m = 11) with e | e | e | e | e | e | e | e | e | e | e | e <;> subst e <;> simp only [Nat.reduceAdd, Nat.reduceMod, Nat.reducePow] <;> omega)
theorem st_fr {f u q : Nat} (hf : f < 4) (hq : q < 4) (h : dg (stU f u) q < 3) : ∃ m, m < 12 ∧ bt u m = 0 ∧ (f + m) % 4 = q := by
  have l0 := bt_le u 0
  have l1 := bt_le u 1
  have l2 := bt_le u 2
  have l3 := bt_le u 3
  have l4 := bt_le u 4
  have l5 := bt_le u 5
  have l6 := bt_le u 6
  have l7 := bt_le u 7
  have l8 := bt_le u 8
  have l9 := bt_le u 9
  have l10 := bt_le u 10
  have l11 := bt_le u 11
  have r4 : (q + (4 - f)) % 4 < 4 := Nat.mod_lt _ (by omega)
  by_cases c0 : bt u ((q + (4 - f)) % 4) = 0
  · exact ⟨(q + (4 - f)) % 4, by omega, c0, by omega⟩
  · by_cases c1 : bt u ((q + (4 - f)) % 4 + 4) = 0
    · exact ⟨(q + (4 - f)) % 4 + 4, by omega, c1, by omega⟩
    · refine ⟨(q + (4 - f)) % 4 + 8, by omega, ?_, by omega⟩
      unfold dg stU at h
      rcases (by omega : f = 0 ∨ f = 1 ∨ f = 2 ∨ f = 3) with e | e | e | e <;> subst e <;> (rcases (by omega : q = 0 ∨ q = 1 ∨ q = 2 ∨ q = 3) with e | e | e | e <;> subst e <;> simp only [Nat.reduceAdd, Nat.reduceSub, Nat.reduceMod, Nat.reducePow] at h c0 c1 ⊢ <;> omega)
theorem bi_all : ∀ a, a < 64 → ∀ b, b < 64 → ∀ m, m < 12 → ((nI (64 * a + b) >>> (nI m &&& 31)) &&& 1) = nI (bt (64 * a + b) m) ∧ (bt (64 * a + b) m = 1 ∨ nI (64 * a + b) ||| ((1 : Int32) <<< (nI m &&& 31)) = nI (64 * a + b + 2 ^ m)) := by decide +kernel
theorem bi_u {u m : Nat} (hu : u < 4096) (hm : m < 12) : ((nI u >>> (nI m &&& 31)) &&& 1) = nI (bt u m) ∧ (bt u m = 0 → nI u ||| ((1 : Int32) <<< (nI m &&& 31)) = nI (u + 2 ^ m)) := by
  have := bi_all (u / 64) (by omega) (u % 64) (by omega) m hm
  rw [show 64 * (u / 64) + u % 64 = u by omega] at this
  exact ⟨this.1, fun z => this.2.resolve_left (by omega)⟩
theorem bt_lt {u m : Nat} (hu : u < 4096) (hm : m < 12) (h : bt u m = 0) : u + 2 ^ m < 4096 := by
  unfold bt at h
  rcases (by omega : m = 0 ∨ m = 1 ∨ m = 2 ∨ m = 3 ∨ m = 4 ∨ m = 5 ∨ m = 6 ∨ m = 7 ∨ m = 8 ∨ m = 9 ∨ m = 10 ∨ m = 11) with e | e | e | e | e | e | e | e | e | e | e | e <;> subst e <;> simp only [Nat.reducePow] at h ⊢ <;> omega
