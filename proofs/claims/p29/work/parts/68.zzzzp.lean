/-! PLANS on both sides: the pair -/
theorem nat_of {v : Int32} (n : Nat) (hn : n < 1000) (h0 : 0 ≤ v) (h1 : v < nI n) : v = nI v.toNatClampNeg ∧ v.toNatClampNeg < n := by
  obtain ⟨k, hk, e⟩ := cdN n hn h0 h1
  rw [e, tn_nI (by omega)]
  exact ⟨rfl, hk⟩
def pP (N : MM) (q : Nat) : Nat := (N 84 q).toNatClampNeg
def pC (N : MM) (j : Nat) : Nat := (N 85 (N 82 (66 + (2 * j + 1))).toNatClampNeg).toNatClampNeg + (N 85 (6 + twN N (N 82 (66 + (2 * j + 1))).toNatClampNeg)).toNatClampNeg
theorem pp_is {N : MM} (i : Inv N) (q : Nat) : N 84 q = nI (pP N q) ∧ pP N q ≤ 9 := by
  have a := iv_84 i q
  have b := nat_of (v := N 84 q) 10 (by omega) a.1 (by have := a.2; clear i; show N 84 q < 10; lia)
  exact ⟨b.1, by unfold pP; omega⟩
theorem pc_is {N : MM} (i : Inv N) (j : Nat) : N 85 j = nI (N 85 j).toNatClampNeg ∧ (N 85 j).toNatClampNeg ≤ 20 := by
  have a := iv_85 i j
  have b := nat_of (v := N 85 j) 21 (by omega) a.1 (by have := a.2; clear i; show N 85 j < 21; lia)
  exact ⟨b.1, by omega⟩
theorem pC_le {N : MM} (i : Inv N) (j : Nat) : pC N j ≤ 40 := by
  unfold pC
  have a := (pc_is i (N 82 (66 + (2 * j + 1))).toNatClampNeg).2
  have b := (pc_is i (6 + twN N (N 82 (66 + (2 * j + 1))).toNatClampNeg)).2
  omega
section PLG
variable {M N : MM} {tl u : Int64} {p q : Int32 → MM → Int64 → Prop}
theorem pk_is {n : Nat} (R : RA M N) (i : Inv N) (hn : n ≤ 6) (en : N 82 65 = nI n) : PK (pP N) (pC N) n N := by
  refine ⟨en, fun q _ => (pp_is i q).1, fun j hj => ?_⟩
  obtain ⟨k, hk, k1, ek, em⟩ := want_k R i (show j < 6 by omega) (by rw [en]; exact (kI_lt (by omega) (by omega)).mpr hj)
  obtain ⟨t1, t2, _⟩ := tw_n R.1 hk
  refine ⟨k, twN N k, _, _, hk, t1, ek, t2, (pc_is i k).1, (pc_is i (6 + twN N k)).1, ?_⟩
  unfold pC
  rw [ek, tn_nI (by omega)]
theorem wc_is {n : Nat} (i : Inv N) (hn : n ≤ 6) (en : N 82 65 = nI n) (M : MM) (j : Nat) (pp : Int32 → MM → Int64 → Prop) (R : RA M N) (hj : j < n) (h : wpX5_cell (fun r3 M1 t2 => wpX1_costOf (fun r6 M4 t5 => wpX1_twinOf (fun r9 M7 t8 => wpX1_costOf (fun r12 M10 t11 => pp (r6 + r12) M10 t11) M7 t8 3 1 r9) M4 t5 3 r3) M1 t2 3 0 r3) M tl 18 (nI j) 1) : pp (nI (pC N j)) M tl := by
  have js : nI j < N 82 65 := by rw [en]; exact (kI_lt (by omega) (by omega)).mpr hj
  obtain ⟨k, hk, k1, ek, em⟩ := want_k R i (show j < 6 by omega) js
  obtain ⟨t1, t2, _⟩ := tw_n R.1 hk
  have e18 : M 18 3 = N 82 65 := R.2.1.2.2.1.1
  have h := (el_cell (a := 18) (W := 2) (w := j) (c := 1) rfl (by omega) (by omega) (by omega) h).1 (by rw [e18]; exact js)
  rw [em] at h
  have h := el_c_costOf (b := 0) (by omega) hk R.1 h
  have h := el_c_twinOf hk R.1 h
  rw [t2] at h
  have h := el_c_costOf (b := 1) (by omega) t1 R.1 h
  rw [show 6 * 0 + k = k by omega, show 6 * 1 + twN N k = 6 + twN N k by omega, (pc_is i k).1, (pc_is i (6 + twN N k)).1, kI_add] at h
  unfold pC
  rw [ek, tn_nI (by omega)]
  exact h
theorem pl_main {n f : Nat} {v2 : Int32} (R : RA M N) (i : Inv N) (hn : n ≤ 6) (en : N 82 65 = nI n) (hf : f < 4) (hv : v2 = 0 ∨ ∃ d, d < n ∧ v2 = nI (d + 10)) (hA : wX10_plan_52 p M tl (nI f) v2 (M 18 3)) (hB : wX11_plan_40 q N u (nI f) v2) : PE p q := by
  have e18 : M 18 3 = nI n := R.2.1.2.2.1.1.trans en
  have t65 : (65 : Int32).toNatClampNeg = 65 := by decide
  unfold wX10_plan_52 at hA
  unfold wX11_plan_40 at hB
  have hB := hB.2
  rw [t65, en] at hB
  rw [e18] at hA
  by_cases n0 : n = 0
  · subst n0
    exact pe0 (ip rfl hA) (ip rfl hB) rfl
  · have nz : ¬ nI n = 0 := fun z => n0 (kI_inj (b := 0) (by omega) (by omega) z)
    have hP : ∀ q, q < 4 → pP N q ≤ 9 := fun q _ => (pp_is i q).2
    have hC := pC_le i
    have K := pk_is R i hn en
    obtain ⟨N1, hB, k1, T⟩ := el_findRests hP hC hf hn K (iq nz hB)
    have hA := iq nz hA
    unfold wpX3_findPlan at hA
    obtain ⟨m, hA⟩ := hA
    rw [e18, if_neg (show ¬ (6 : Int32) < nI n from fun z => absurd ((kI_lt (a := 6) (by omega) (by omega)).mp z) (by omega))] at hA
    obtain ⟨M1, R1, a2, a3, k, hA⟩ := lp_18 (C := pC N) hn (wc_is i hn en) m 0 M (by omega) R (fun j hj => absurd hj (by omega)) hA
    obtain ⟨M2, b1, b2, hA⟩ := lp_81 (P := pP N) hP hC hn k 256 M1 255 (by decide) (by omega) ⟨fun x hx => by rw [rl_price R1.1 x hx]; exact (pp_is i x).1, a3⟩ (fun s h1 h2 => absurd h2 (by omega)) hA
    unfold wpX3_placeWants at hA
    obtain ⟨k2, hA⟩ := hA
    obtain ⟨M3, S, hA, c2, _, s0, hS⟩ := pw_5 (P := pP N) (C := pC N) hP hC hn hf k2 0 0 M2 (by omega) (by omega) (by decide) ⟨fun x hx => by rw [b1 4 (by decide), rl_price R1.1 x hx]; exact (pp_is i x).1, fun j hj => by rw [b1 51 (by decide)]; exact a3 j hj⟩ b2 hA
    have hA := hA.2
    rw [show (0 : Int32).toNatClampNeg = 0 from by decide, c2 50 (by decide), b2 0 (by omega)] at hA
    have st0 : stU f 0 = 0 := by unfold stU bt; simp
    have pc0 : pcU 0 = 0 := by decide
    rcases hv with z | ⟨d, hd, z⟩
    · have hB := (ip z hB).2
      rw [show (0 : Int32).toNatClampNeg = 0 from by decide, T 0 (by omega), rl_is hf (by rw [pc0]; omega), st0] at hB
      exact pe0 (ip z hA) hB rfl
    · have z0 : ¬ v2 = 0 := fun y => absurd (kI_inj (a := d + 10) (b := 0) (by omega) (by omega) (z.symm.trans y)) (by omega)
      obtain ⟨y, hB⟩ := iq z0 hB
      have hA := iq z0 hA
      unfold wpX3_monthOf at hA
      rw [z, sub10 d (by omega)] at hA
      have d0 := nJ_ge0 (i := d) (by omega)
      have hA := (iq (show ¬ (6 : Int32) ≤ nI d from fun z => absurd ((kI_le (a := 6) (by omega) (by omega)).mp z) (by omega)) (iq (show ¬ nI d < 0 by clear R i K T b2 hS a3; lia) hA)).2
      rw [tn_nI (by omega)] at hA
      rw [z] at hB
      have hB := pn_78 (S := S) (X := M3 52) hP hC hn hf hd (pk_keep K k1) T (fun j hj => hS j (Nat.zero_le _) hj) y 0 0 (-4) (by omega) (by omega) pc0 (by rw [st0, s0]) (by rw [s0]; exact fl_0 f) (fun w => absurd w (by omega)) hB
      exact pe0 hA hB rfl
theorem pe_plan {v1 v2 : Int32} (R : RA M N) (i : Inv N) (hA : wpX10_plan p M tl v1 v2) (hB : wpX11_plan q N u v1 v2) : PE p q := by
  unfold wpX10_plan wX10_plan_29 at hA
  unfold wpX11_plan at hB
  obtain ⟨n, hn7, en⟩ := szt i
  have hn : n ≤ 6 := by omega
  have e18 : M 18 3 = nI n := R.2.1.2.2.1.1.trans en
  have t65 : (65 : Int32).toNatClampNeg = 65 := by decide
  have e10 : (10 : Int32) + nI n = nI (10 + n) := kI_add 10 n
  have e9 : (9 : Int32) + nI n = nI (9 + n) := kI_add 9 n
  have l10 := nI_sm (k := 10 + n) (by omega)
  have l9 := nI_sm (k := 9 + n) (by omega)
  have hB := el_in 0 3 rfl rfl rfl hB
  rw [show (10 : Int32) + M 18 3 = nI (10 + n) by rw [e18, e10]] at hA
  by_cases c : 0 ≤ v1 ∧ v1 ≤ 3
  · have hB := i10 (hB.1 c)
    have g1 : ¬ v1 < 0 := by clear R i; lia
    have g2 : ¬ 4 ≤ v1 := by clear R i; lia
    obtain ⟨f, hf, ef⟩ := cdN (v := v1) 4 (by omega) c.1 (by have := c.2; clear R i; show v1 < 4; lia)
    by_cases c2 : v2 = 0
    · have hA := ip (show v2 < 10 by rw [c2]; decide) hA
      unfold wX10_plan_30 at hA
      have hA := ip c2 (iq g2 (iq g1 hA))
      rw [ef] at hA hB
      exact pl_main R i hn en hf (Or.inl c2) hA (ip c2 hB)
    · have hB := (iq c2 hB).2
      rw [t65, en, e9] at hB
      have hB := el_in 10 (nI (9 + n)) rfl rfl rfl hB
      by_cases c3 : 10 ≤ v2 ∧ v2 ≤ nI (9 + n)
      · have hB := i10 (hB.1 c3)
        obtain ⟨m, hm, em⟩ := cdN (v := v2) 20 (by omega) (by clear R i; lia) (by
          refine Int32.lt_of_le_of_lt c3.2 ?_
          exact (kI_lt (b := 20) (by omega) (by omega)).mpr (by omega))
        have m10 : 10 ≤ m := by rw [em] at c3; exact (kI_le (a := 10) (by omega) (by omega)).mp c3.1
        have m9 : m ≤ 9 + n := by rw [em] at c3; exact (kI_le (by omega) (by omega)).mp c3.2
        have hA := iq (show ¬ nI (10 + n) ≤ v2 by rw [em]; exact fun z => absurd ((kI_le (by omega) (by omega)).mp z) (by omega)) (iq (show ¬ v2 < 10 by clear R i; lia) hA)
        unfold wX10_plan_30 at hA
        have hA := iq (show ¬ (1 : Int32) = 0 by decide) (iq c2 (iq g2 (iq g1 hA)))
        rw [ef] at hA hB
        exact pl_main R i hn en hf (Or.inr ⟨m - 10, by omega, by rw [em, show m - 10 + 10 = m by omega]⟩) hA hB
      · have hB := i00 (hB.2 c3)
        unfold wX10_plan_30 at hA
        by_cases c4 : v2 < 10
        · exact pe0 (ip rfl (iq c2 (iq g2 (iq g1 (ip c4 hA))))) hB rfl
        · have c5 : nI (10 + n) ≤ v2 := by
            have a : ¬ v2 ≤ nI (9 + n) := fun z => c3 ⟨by clear R i; lia, z⟩
            rw [Int32.le_iff_toInt_le] at a ⊢
            rw [l9] at a
            rw [l10]
            omega
          exact pe0 (ip rfl (iq c2 (iq g2 (iq g1 (ip c5 (iq c4 hA)))))) hB rfl
  · have hB := i00 (hB.2 c)
    have all : ∀ s : Int32, wX10_plan_30 p M tl v1 v2 (M 18 3) s → p (-1) M tl := fun s h => by
      unfold wX10_plan_30 at h
      by_cases z : v1 < 0
      · exact ip z h
      · exact ip (show 4 ≤ v1 by clear R i; lia) (iq z h)
    by_cases c4 : v2 < 10
    · exact pe0 (all _ (ip c4 hA)) hB rfl
    · by_cases c5 : nI (10 + n) ≤ v2
      · exact pe0 (all _ (ip c5 (iq c4 hA))) hB rfl
      · exact pe0 (all _ (iq c5 (iq c4 hA))) hB rfl
end PLG
