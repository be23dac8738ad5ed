/-! PLANS on both sides: the class's weights -/
section PLD
variable {P C : Nat → Nat} {W f : Nat} {tl : Int64}
theorem lp_18 {p : Int32 → MM → Int64 → Prop} {N : MM} (hW : W ≤ 6) (wc : ∀ (M : MM) (j : Nat) (pp : Int32 → MM → Int64 → Prop), RA M N → j < W → wpX5_cell (fun r3 M1 t2 => wpX1_costOf (fun r6 M4 t5 => wpX1_twinOf (fun r9 M7 t8 => wpX1_costOf (fun r12 M10 t11 => pp (r6 + r12) M10 t11) M7 t8 3 1 r9) M4 t5 3 r3) M1 t2 3 0 r3) M tl 18 (nI j) 1 → pp (nI (C j)) M tl) : ∀ (n w : Nat) (M : MM), w ≤ W → RA M N → (∀ j, j < w → M 51 j = nI (C j)) → wX3_findPlan_18 p n M tl (nI f) (nI W) (nI w) → ∃ M1, RA M1 N ∧ (∀ a, a ≠ 51 → M1 a = M a) ∧ (∀ j, j < W → M1 51 j = nI (C j)) ∧ ∃ k, wX3_findPlan_81 p k M1 tl (nI f) (nI W) 255 := by
  intro n
  induction n with
  | zero => intro w M _ _ _ h; exact h.elim
  | succ n ih =>
    intro w M hw R su h
    unfold wX3_findPlan_18 at h
    by_cases c : w = W
    · subst c
      exact ⟨M, R, fun _ _ => rfl, su, ip ((kI_le (by omega) (by omega)).mpr (by omega)) h⟩
    · have h := iq (fun z => absurd ((kI_le (by omega) (by omega)).mp z) (by omega)) h
      have h := wc M w (fun r M10 t11 => vp_in (nI w) (al 51) ∧ ∀ M14 : MM, M14 = mset M10 51 (nI w).toNatClampNeg r → wX3_findPlan_18 p n M14 t11 (nI f) (nI W) (nI w + 1)) R (by omega) h
      have h := h.2 _ rfl
      rw [tn_nI (by omega), nI_s1] at h
      obtain ⟨M1, a1, a2, a3, a4⟩ := ih (w + 1) _ (by omega) (ra_48 R (c := 51) (by omega) (fun a ha => mset_ne ha)) (fun j hj => by
        by_cases z : j = w
        · subst z; exact mset_at _ _ _ _
        · rw [mset_nk z]; exact su j (by omega)) h
      exact ⟨M1, a1, fun a ha => by rw [a2 a ha, mset_ne ha], a3, a4⟩
end PLD
