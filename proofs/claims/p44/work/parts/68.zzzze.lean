/-! CALLS on both sides: cannot, shops -/
section CN
variable {q : Int32 → MM → Int64 → Prop} {M N : MM} {tl u : Int64}
theorem want_k (R : RA M N) (i : Inv N) {w : Nat} (hw : w < 6) (h : nI w < N 82 65) : ∃ k, k < 6 ∧ 1 ≤ k ∧ N 82 (66 + (2 * w + 1)) = nI k ∧ M 19 (2 * w + 1) = nI k := by
  have x := R.2.1.2.2.1.2 w hw h
  have d := i.2.1 (66 + (2 * w + 1))
  rw [Nat.mod_eq_of_lt (by omega)] at d
  unfold sdom at d
  rw [if_neg (by omega), if_neg (by omega), if_neg (by omega), if_neg (by omega), if_pos (by omega), if_neg (by omega)] at d
  obtain ⟨k, hk, h1, e⟩ := bl5 (k := N 82 (66 + (2 * w + 1))) ⟨x.2, by lia⟩
  exact ⟨k, hk, h1, e, (x.1 1 (by omega)).trans e⟩
theorem lp_96 {v1 c : Int32} (R : RA M N) (i : Inv N) : ∀ (n' j : Nat) (s0 sm : Int32), j ≤ 6 → wX11_cannot_96 q n' N u v1 s0 c sm (nI j) → ∃ s' sm', (if v1 = 0 then q s' N u else (if c = (-4) then q (-4) N u else q sm' N u)) ∧ (∀ (p : Int32 → MM → Int64 → Prop) (n : Nat), wX3_kindsBarred_4 p n M tl s0 (nI j) → p s' M tl) ∧ (∀ (p : Int32 → MM → Int64 → Prop) (n : Nat), wX3_costInstead_71 p n M tl c sm (nI j) → p sm' M tl) := by
  have e18 : M 18 3 = N 82 65 := R.2.1.2.2.1.1
  have d65 : 0 ≤ N 82 65 ∧ N 82 65 ≤ 6 := i.2.1 65
  intro n'
  induction n' with
  | zero => intro j s0 sm _ h; exact h.elim
  | succ n' ih =>
    intro j s0 sm hj h
    unfold wX11_cannot_96 at h
    have h := h.2
    rw [show (65 : Int32).toNatClampNeg = 65 from by decide] at h
    by_cases cc : N 82 65 ≤ nI j
    · refine ⟨s0, sm, ip cc h, fun p n hA => ?_, fun p n hA => ?_⟩
      · cases n with
        | zero => exact hA.elim
        | succ n =>
        unfold wX3_kindsBarred_4 at hA
        exact ip (show M 18 3 ≤ nI j by rw [e18]; exact cc) hA
      · cases n with
        | zero => exact hA.elim
        | succ n =>
        unfold wX3_costInstead_71 at hA
        exact ip (show M 18 3 ≤ nI j by rw [e18]; exact cc) hA
    · have j6 : j < 6 := by
        rcases Nat.lt_or_ge j 6 with z | z
        · exact z
        · have e : j = 6 := by omega
          subst e
          exact absurd d65.2 cc
      have js : nI j < N 82 65 := by clear R i ih; lia
      have h := (iq cc h).2
      obtain ⟨k, hk, k1, ek, em⟩ := want_k R i j6 js
      rw [(ix66 j j6).2, tn_nI (by omega), ek] at h
      obtain ⟨t1, t2, _⟩ := tw_n R.1 hk
      have h := el_r_doesLack (b := 0) (by omega) hk h
      -- the sum, behind the bits
      have rest : ∀ s1 : Int32, wX11_cannot_158 q (wX11_cannot_96 q n') N u v1 c sm (nI j) (nI k) s0 s1 → (lkP N 1 (twN N k) → wX11_cannot_96 q n' N u v1 (s0 ||| s1) c (sm + c) (nI (j + 1))) ∧ (¬ lkP N 1 (twN N k) → wX11_cannot_96 q n' N u v1 (s0 ||| s1) c (sm + 0) (nI (j + 1))) := fun s1 h => by
        unfold wX11_cannot_158 at h
        have h := h.2
        rw [tn_nI (by omega), t2] at h
        have h := el_r_doesLack (b := 1) (by omega) t1 h
        refine ⟨fun z => ?_, fun z => ?_⟩
        · have h := iq (by decide) (h.1 z)
          unfold wX11_cannot_182 at h
          rw [nI_s1] at h
          exact h
        · have h := i00 (h.2 z)
          unfold wX11_cannot_182 at h
          rw [nI_s1] at h
          exact h
      have fin : ∀ s1 : Int32, wX11_cannot_158 q (wX11_cannot_96 q n') N u v1 c sm (nI j) (nI k) s0 s1 → (∀ (p : Int32 → MM → Int64 → Prop) (n : Nat), wX3_kindsBarred_4 p (n + 1) M tl s0 (nI j) → wX3_kindsBarred_4 p n M tl (s0 ||| s1) (nI (j + 1))) → ∃ s' sm', (if v1 = 0 then q s' N u else (if c = (-4) then q (-4) N u else q sm' N u)) ∧ (∀ (p : Int32 → MM → Int64 → Prop) (n : Nat), wX3_kindsBarred_4 p n M tl s0 (nI j) → p s' M tl) ∧ (∀ (p : Int32 → MM → Int64 → Prop) (n : Nat), wX3_costInstead_71 p n M tl c sm (nI j) → p sm' M tl) := by
        intro s1 h kb
        have h := rest s1 h
        have inst : ∀ (p : Int32 → MM → Int64 → Prop) (n : Nat), wX3_costInstead_71 p (n + 1) M tl c sm (nI j) → (lkP N 1 (twN N k) → wX3_costInstead_71 p n M tl c (sm + c) (nI (j + 1))) ∧ (¬ lkP N 1 (twN N k) → wX3_costInstead_71 p n M tl c (sm + 0) (nI (j + 1))) := fun p n hA => by
          unfold wX3_costInstead_71 at hA
          have hA := (el_cell (c := 1) (W := 2) (by decide) (by omega) (by omega) (by omega) (iq (show ¬ M 18 3 ≤ nI j by rw [e18]; exact cc) hA)).1 (by rw [e18]; exact js)
          rw [em] at hA
          have hA := el_c_twinOf hk R.1 hA
          rw [t2] at hA
          have hA := el_c_lacks (b := 1) (by omega) t1 R.1 hA
          refine ⟨fun z => ?_, fun z => ?_⟩
          · have hA := iq (by decide) (hA.1 z)
            unfold wX3_costInstead_125 at hA
            rw [nI_s1] at hA
            exact hA
          · have hA := i00 (hA.2 z)
            unfold wX3_costInstead_125 at hA
            rw [nI_s1] at hA
            exact hA
        by_cases z : lkP N 1 (twN N k)
        · obtain ⟨s', sm', a1, a2, a3⟩ := ih (j + 1) _ _ (by omega) (h.1 z)
          refine ⟨s', sm', a1, fun p n hA => ?_, fun p n hA => ?_⟩
          · cases n with
            | zero => exact hA.elim
            | succ n => exact a2 p n (kb p n hA)
          · cases n with
            | zero => exact hA.elim
            | succ n => exact a3 p n ((inst p n hA).1 z)
        · obtain ⟨s', sm', a1, a2, a3⟩ := ih (j + 1) _ _ (by omega) (h.2 z)
          refine ⟨s', sm', a1, fun p n hA => ?_, fun p n hA => ?_⟩
          · cases n with
            | zero => exact hA.elim
            | succ n => exact a2 p n (kb p n hA)
          · cases n with
            | zero => exact hA.elim
            | succ n => exact a3 p n ((inst p n hA).2 z)
      have kb0 : ∀ (p : Int32 → MM → Int64 → Prop) (n : Nat), wX3_kindsBarred_4 p (n + 1) M tl s0 (nI j) → (lkP N 0 k ∨ lkP N 1 (twN N k) → wX3_kindsBarred_4 p n M tl (s0 ||| ((1 : Int32) <<< (nI k &&& 31))) (nI (j + 1))) ∧ (¬ (lkP N 0 k ∨ lkP N 1 (twN N k)) → wX3_kindsBarred_4 p n M tl s0 (nI (j + 1))) := fun p n hA => by
        unfold wX3_kindsBarred_4 at hA
        have hA := (el_cell (c := 1) (W := 2) (by decide) (by omega) (by omega) (by omega) (iq (show ¬ M 18 3 ≤ nI j by rw [e18]; exact cc) hA)).1 (by rw [e18]; exact js)
        rw [em] at hA
        have hA := el_c_lacks (b := 0) (by omega) hk R.1 hA
        have yes : wX3_kindsBarred_62 p (wX3_kindsBarred_4 p n) M tl s0 (nI j) (nI k) → wX3_kindsBarred_4 p n M tl (s0 ||| ((1 : Int32) <<< (nI k &&& 31))) (nI (j + 1)) := fun h => by
          unfold wX3_kindsBarred_62 wX3_kindsBarred_68 at h
          rw [nI_s1] at h
          exact h
        by_cases z : lkP N 0 k
        · exact ⟨fun _ => yes (iq (by decide) (hA.1 z)), fun y => absurd (Or.inl z) y⟩
        · have hA := el_c_twinOf hk R.1 (i00 (hA.2 z))
          rw [t2] at hA
          have hA := el_c_lacks (b := 1) (by omega) t1 R.1 hA
          by_cases z2 : lkP N 1 (twN N k)
          · exact ⟨fun _ => yes (iq (by decide) (hA.1 z2)), fun y => absurd (Or.inr z2) y⟩
          · refine ⟨fun y => y.elim (fun y => absurd y z) (fun y => absurd y z2), fun _ => ?_⟩
            have hA := i00 (hA.2 z2)
            unfold wX3_kindsBarred_68 at hA
            rw [nI_s1] at hA
            exact hA
      by_cases c1 : lkP N 0 k
      · have h := iq (by decide) (h.1 c1)
        unfold wX11_cannot_150 at h
        exact fin _ h (fun p n hA => (kb0 p n hA).1 (Or.inl c1))
      · have h := (i00 (h.2 c1)).2
        rw [tn_nI (by omega), t2] at h
        have h := el_r_doesLack (b := 1) (by omega) t1 h
        by_cases c2 : lkP N 1 (twN N k)
        · have h := iq (by decide) (h.1 c2)
          unfold wX11_cannot_150 at h
          exact fin _ h (fun p n hA => (kb0 p n hA).1 (Or.inr c2))
        · refine fin 0 (i00 (h.2 c2)) (fun p n hA => ?_)
          have e0 : s0 ||| 0 = s0 := by simp
          rw [e0]
          exact (kb0 p n hA).2 (fun y => y.elim c1 c2)
theorem lp_20 {v1 : Int32} (R : RA M N) : ∀ (n' k : Nat) (c : Int32), 1 ≤ k → k ≤ 6 → wX11_cannot_20 q n' N u v1 0 c (nI k) → ∃ c', (∃ m, wX11_cannot_96 q m N u v1 0 c' 0 0) ∧ ∀ (p : Int32 → MM → Int64 → Prop) (n : Nat), wX3_costInstead_5 p n M tl c (nI k) → (if c' = (-4) then p (-4) M tl else ∃ m, wX3_costInstead_71 p m M tl c' 0 0) := by
  intro n'
  induction n' with
  | zero => intro k c _ _ h; exact h.elim
  | succ n' ih =>
    intro k c k1 k6 h
    unfold wX11_cannot_20 at h
    by_cases cc : (6 : Int32) ≤ nI k
    · refine ⟨c, ip cc h, fun p n hA => ?_⟩
      cases n with
      | zero => exact hA.elim
      | succ n =>
      unfold wX3_costInstead_5 at hA
      exact ip cc hA
    · have hk : k < 6 := by
        rcases Nat.lt_or_ge k 6 with z | z
        · exact z
        · exact absurd ((kI_le (a := 6) (by omega) (by omega)).mpr z) cc
      have h := el_r_doesLack (b := 1) (by omega) hk (iq cc h)
      have e6 : (6 : Int32) + nI k = nI (6 + k) := kI_add 6 k
      have keepB : wX11_cannot_61 q (wX11_cannot_20 q n') N u v1 0 c (nI k) → wX11_cannot_20 q n' N u v1 0 c (nI (k + 1)) := fun h => by
        unfold wX11_cannot_61 wX11_cannot_62 at h
        have h := ip rfl h
        unfold wX11_cannot_83 at h
        rw [nI_s1] at h
        exact h
      have newB : wX11_cannot_57 q (wX11_cannot_20 q n') N u v1 0 c (nI k) → wX11_cannot_20 q n' N u v1 0 (N 85 (6 * 1 + k)) (nI (k + 1)) := fun h => by
        unfold wX11_cannot_57 wX11_cannot_62 at h
        have h := (iq (show ¬ (1 : Int32) = 0 by decide) h).2
        unfold wX11_cannot_83 at h
        rw [nI_s1, e6, tn_nI (by omega)] at h
        exact h
      have stA : ∀ (p : Int32 → MM → Int64 → Prop) (n : Nat), wX3_costInstead_5 p (n + 1) M tl c (nI k) → (¬ lkP N 1 k ∧ (c = -4 ∨ ¬ c ≤ N 85 (6 * 1 + k)) → wX3_costInstead_5 p n M tl (N 85 (6 * 1 + k)) (nI (k + 1))) ∧ (¬ (¬ lkP N 1 k ∧ (c = -4 ∨ ¬ c ≤ N 85 (6 * 1 + k))) → wX3_costInstead_5 p n M tl c (nI (k + 1))) := fun p n hA => by
        unfold wX3_costInstead_5 at hA
        have hA := el_c_lacks (b := 1) (by omega) hk R.1 (iq cc hA)
        have kp : wX3_costInstead_52 p (wX3_costInstead_5 p n) M tl c (nI k) → wX3_costInstead_5 p n M tl c (nI (k + 1)) := fun h => by
          unfold wX3_costInstead_52 at h
          rw [nI_s1] at h
          exact h
        have nw : wX3_costInstead_42 p (wX3_costInstead_5 p n) M tl (nI k) → wX3_costInstead_5 p n M tl (N 85 (6 * 1 + k)) (nI (k + 1)) := fun h => by
          unfold wX3_costInstead_42 at h
          have h := el_c_costOf (b := 1) (by omega) hk R.1 h
          unfold wX3_costInstead_52 at h
          rw [nI_s1] at h
          exact h
        by_cases z : lkP N 1 k
        · exact ⟨fun y => absurd z y.1, fun _ => kp (iq (by decide) (hA.1 z))⟩
        · have hA := i00 (hA.2 z)
          by_cases z2 : c = -4
          · exact ⟨fun _ => nw (ip z2 hA), fun y => absurd ⟨z, Or.inl z2⟩ y⟩
          · have hA := el_c_costOf (b := 1) (by omega) hk R.1 (iq z2 hA)
            by_cases z3 : c ≤ N 85 (6 * 1 + k)
            · exact ⟨fun y => y.2.elim (fun y => absurd y z2) (fun y => absurd z3 y), fun _ => kp (ip z3 hA)⟩
            · exact ⟨fun _ => nw (iq z3 hA), fun y => absurd ⟨z, Or.inr z3⟩ y⟩
      have go : ∀ c2 : Int32, wX11_cannot_20 q n' N u v1 0 c2 (nI (k + 1)) → (∀ (p : Int32 → MM → Int64 → Prop) (n : Nat), wX3_costInstead_5 p (n + 1) M tl c (nI k) → wX3_costInstead_5 p n M tl c2 (nI (k + 1))) → ∃ c', (∃ m, wX11_cannot_96 q m N u v1 0 c' 0 0) ∧ ∀ (p : Int32 → MM → Int64 → Prop) (n : Nat), wX3_costInstead_5 p n M tl c (nI k) → (if c' = (-4) then p (-4) M tl else ∃ m, wX3_costInstead_71 p m M tl c' 0 0) := by
        intro c2 h st
        obtain ⟨c', a, b⟩ := ih (k + 1) c2 (by omega) (by omega) h
        refine ⟨c', a, fun p n hA => ?_⟩
        cases n with
        | zero => exact hA.elim
        | succ n => exact b p n (st p n hA)
      by_cases z : lkP N 1 k
      · exact go c (keepB (iq (by decide) (h.1 z))) (fun p n hA => (stA p n hA).2 (fun y => absurd z y.1))
      · have h := i00 (h.2 z)
        by_cases z2 : c = -4
        · exact go _ (newB (ip z2 h)) (fun p n hA => (stA p n hA).1 ⟨z, Or.inl z2⟩)
        · have h := (iq z2 h).2
          rw [e6, tn_nI (by omega)] at h
          have e61 : 6 * 1 + k = 6 + k := by omega
          by_cases z3 : c ≤ N 85 (6 * 1 + k)
          · refine go c (keepB (ip (by rw [← e61]; exact z3) h)) (fun p n hA => (stA p n hA).2 (fun y => y.2.elim (fun y => absurd y z2) (fun y => absurd z3 y)))
          · exact go _ (newB (iq (by rw [← e61]; exact z3) h)) (fun p n hA => (stA p n hA).1 ⟨z, Or.inr z3⟩)
theorem pe_cannot {p : Int32 → MM → Int64 → Prop} {v : Int32} (R : RA M N) (i : Inv N) (hA : wpX10_cannot p M tl v) (hB : wpX11_cannot q N u v) : PE p q := by
  unfold wpX10_cannot at hA
  unfold wpX11_cannot at hB
  have hB := el_in 0 1 rfl rfl rfl hB
  by_cases c : 0 ≤ v ∧ v ≤ 1
  · have hA := ip c.2 (iq (show ¬ v < 0 by lia) hA)
    obtain ⟨n', hB⟩ := i10 (hB.1 c)
    obtain ⟨c', ⟨m, hB⟩, ci⟩ := lp_20 (tl := tl) R n' 1 (-4) (by omega) (by omega) hB
    obtain ⟨s', sm', a1, a2, a3⟩ := lp_96 (tl := tl) R i m 0 0 0 (by omega) hB
    by_cases c0 : v = 0
    · have hA := ip c0 hA
      unfold wpX3_kindsBarred at hA
      obtain ⟨x, hA⟩ := hA
      exact pe0 (a2 p x hA) (ip c0 a1) rfl
    · have hA := iq c0 hA
      unfold wpX3_costInstead at hA
      obtain ⟨x, hA⟩ := hA
      have hA := ci p x hA
      have a1 := iq c0 a1
      by_cases c4 : c' = -4
      · exact pe0 (ip c4 hA) (ip c4 a1) rfl
      · obtain ⟨y, hA⟩ := iq c4 hA
        exact pe0 (a3 p y hA) (iq c4 a1) rfl
  · have hB := i00 (hB.2 c)
    by_cases c3 : v < 0
    · exact pe0 (ip c3 hA) hB rfl
    · exact pe0 (iq (show ¬ v ≤ 1 by lia) (iq c3 hA)) hB rfl
end CN
