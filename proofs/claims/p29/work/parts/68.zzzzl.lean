/-! PLANS on both sides: the class's sums, the months -/
def Lf (P C : Nat → Nat) (W s : Nat) : Nat := if W ≤ pl4 s then 0 else ob P C W (W - pl4 s) s
theorem lf_le {P C : Nat → Nat} {W s : Nat} : Lf P C W s ≤ 1000000 := by
  unfold Lf
  split
  · omega
  · exact ob_le
theorem lf_more {P C : Nat → Nat} {W s q : Nat} (hs : s < 256) (hq : q < 4) (hd : dg s q < 3) (hw : pl4 s < W) : Lf P C W (s + 4 ^ q) = ob P C W (W - pl4 s - 1) (s + 4 ^ q) := by
  unfold Lf
  rw [(pl_add hs hq hd).2]
  by_cases z : W ≤ pl4 s + 1
  · rw [if_pos z, show W - pl4 s - 1 = 0 by omega]
    rfl
  · rw [if_neg z, show W - (pl4 s + 1) = W - pl4 s - 1 by omega]
/-- the class's prices, weights -/
def PMc (P C : Nat → Nat) (W : Nat) (M : MM) : Prop := (∀ q, q < 4 → M 4 q = nI (P q)) ∧ (∀ j, j < W → M 51 j = nI (C j))
theorem pm_keep {P C : Nat → Nat} {W : Nat} {M M1 : MM} (h : PMc P C W M) (e1 : M1 4 = M 4) (e2 : M1 51 = M 51) : PMc P C W M1 := by
  unfold PMc
  rw [e1, e2]
  exact h
section PLC
variable {P C : Nat → Nat} {W f : Nat} {tl : Int64}
theorem el_costWith {p : Int32 → MM → Int64 → Prop} {M : MM} {s q c v : Nat} (hP : ∀ q, q < 4 → P q ≤ 9) (hs : s < 256) (hq : q < 4) (hd : dg s q < 3) (hc : c ≤ 40) (K : ∀ q, q < 4 → M 4 q = nI (P q)) (e : M 50 (s + 4 ^ q) = nI v) (h : wpX3_costWith p M tl (nI s) (nI q) (nI c)) : p (nI (P q * c + v)) M tl := by
  unfold wpX3_costWith wpX3_withOneMore at h
  have h := h.2.2
  have a := (pl_add hs hq hd).1
  rw [(tk_s hs hq).2 hd, tn_nI (by omega), tn_nI (by omega), K q hq, e, mulB _ (by have := hP q hq; omega) _ (by omega), kI_add] at h
  exact h
theorem lf_6 {p : Int32 → MM → Int64 → Prop} {M : MM} {s c r : Nat} (hP : ∀ q, q < 4 → P q ≤ 9) (hs : s < 256) (hc : c ≤ 40) (K : ∀ q, q < 4 → M 4 q = nI (P q)) (e : ∀ q, q < 4 → dg s q < 3 → M 50 (s + 4 ^ q) = nI (ob P C W r (s + 4 ^ q))) : ∀ (n q best : Nat), q ≤ 4 → best ≤ 1000000 → wX3_leastFrom_6 p n M tl (nI s) (nI c) (nI best) (nI q) → (q = 4 → p (nI best) M tl) ∧ (q = 3 → p (nI (pick (ob P C W r) P c s best 3)) M tl) ∧ (q = 2 → p (nI (pick (ob P C W r) P c s (pick (ob P C W r) P c s best 2) 3)) M tl) ∧ (q = 1 → p (nI (pick (ob P C W r) P c s (pick (ob P C W r) P c s (pick (ob P C W r) P c s best 1) 2) 3)) M tl) ∧ (q = 0 → p (nI (pick (ob P C W r) P c s (pick (ob P C W r) P c s (pick (ob P C W r) P c s (pick (ob P C W r) P c s best 0) 1) 2) 3)) M tl) := by
  intro n
  induction n with
  | zero => intro q best _ _ h; exact h.elim
  | succ n ih =>
    intro q best hq hb h
    unfold wX3_leastFrom_6 at h
    by_cases q4 : q = 4
    · subst q4
      exact ⟨fun _ => ip (by decide) h, fun z => absurd z (by omega), fun z => absurd z (by omega), fun z => absurd z (by omega), fun z => absurd z (by omega)⟩
    · have ql : q < 4 := by omega
      have h := iq (fun z => absurd ((kI_le (a := 4) (by omega) (by omega)).mp z) (by omega)) h
      unfold wpX3_taken at h
      have dl := dg_le s q
      have st : wX3_leastFrom_6 p n M tl (nI s) (nI c) (nI (pick (ob P C W r) P c s best q)) (nI (q + 1)) := by
        have h : (if (3 : Int32) ≤ ((nI s >>> (((2 : Int32) * nI q) &&& 31)) &&& 3) then wX3_leastFrom_35 p (wX3_leastFrom_6 p n) M tl (nI s) (nI c) (nI best) (nI q) else wpX3_costWith (fun r6 M4 t5 => wX3_leastFrom_35 p (wX3_leastFrom_6 p n) M4 t5 (nI s) (nI c) (if r6 < nI best then r6 else nI best) (nI q)) M tl (nI s) (nI q) (nI c)) := h
        rw [(tk_s hs ql).1] at h
        unfold pick
        by_cases d : dg s q < 3
        · rw [if_pos d]
          have h := el_costWith hP hs ql d hc K (e q ql d) (iq (fun z => absurd ((kI_le (a := 3) (by omega) (by omega)).mp z) (by omega)) h)
          unfold wX3_leastFrom_35 at h
          rw [nI_s1] at h
          have ol := ob_le (P := P) (C := C) (W := W) (r := r) (s := s + 4 ^ q)
          have pm : P q * c ≤ 9 * 40 := Nat.mul_le_mul (hP q ql) hc
          by_cases z : P q * c + ob P C W r (s + 4 ^ q) < best
          · rw [if_pos z]
            rw [if_pos ((kB_lt (by omega) (by omega)).mpr z)] at h
            exact h
          · rw [if_neg z]
            rw [if_neg (fun y => z ((kB_lt (by omega) (by omega)).mp y))] at h
            exact h
        · rw [if_neg d]
          have h := ip ((kI_le (a := 3) (by omega) (by omega)).mpr (by omega)) h
          unfold wX3_leastFrom_35 at h
          rw [nI_s1] at h
          exact h
      have g := ih (q + 1) _ (by omega) (Nat.le_trans pick_le hb) st
      refine ⟨fun z => absurd z q4, fun z => ?_, fun z => ?_, fun z => ?_, fun z => ?_⟩
      · subst z; exact g.1 rfl
      · subst z; exact g.2.1 rfl
      · subst z; exact g.2.2.1 rfl
      · subst z; exact g.2.2.2.1 rfl
theorem el_leastFrom {p : Int32 → MM → Int64 → Prop} {M : MM} {s r : Nat} (hP : ∀ q, q < 4 → P q ≤ 9) (hC : ∀ j, C j ≤ 40) (hs : s < 256) (K : ∀ q, q < 4 → M 4 q = nI (P q)) (e : ∀ q, q < 4 → dg s q < 3 → M 50 (s + 4 ^ q) = nI (ob P C W r (s + 4 ^ q))) (h : wpX3_leastFrom p M tl (nI s) (nI (C (W - (r + 1))))) : p (nI (ob P C W (r + 1) s)) M tl := by
  unfold wpX3_leastFrom at h
  rw [i1m] at h
  obtain ⟨n, h⟩ := h
  exact (lf_6 hP hs (hC _) K e n 0 1000000 (by omega) (by omega) h).2.2.2.2 rfl
/-- every state -/
theorem lp_81 {p : Int32 → MM → Int64 → Prop} (hP : ∀ q, q < 4 → P q ≤ 9) (hC : ∀ j, C j ≤ 40) (hW : W ≤ 6) : ∀ (n k : Nat) (M : MM) (i : Int32), i = nI k + (-1) → k ≤ 256 → PMc P C W M → (∀ s, k ≤ s → s < 256 → M 50 s = nI (Lf P C W s)) → wX3_findPlan_81 p n M tl (nI f) (nI W) i → ∃ M1, (∀ a, a ≠ 50 → M1 a = M a) ∧ (∀ s, s < 256 → M1 50 s = nI (Lf P C W s)) ∧ wpX3_placeWants (fun M1 t2 => (vp_in 0 (al 50) ∧ p (M1 50 (0 : Int32).toNatClampNeg) M1 t2)) M1 tl (nI f) (nI W) := by
  intro n
  induction n with
  | zero => intro k M i _ _ _ _ h; exact h.elim
  | succ n ih =>
    intro k M i ei hk K su h
    unfold wX3_findPlan_81 at h
    by_cases k0 : k = 0
    · subst k0; subst ei
      exact ⟨M, fun _ _ => rfl, fun s hs => su s (by omega) hs, ip (by decide) h⟩
    · obtain ⟨z, hz⟩ : ∃ z, k = z + 1 := ⟨k - 1, by omega⟩
      subst hz
      rw [ei, nI_pr] at h
      have x0 := nJ_ge0 (i := z) (by omega)
      have hs : z < 256 := by omega
      have h := iq (show ¬ nI z < 0 by clear ih su K; lia) h
      unfold wpX3_taken at h
      have t0 := (tk_s hs (show 0 < 4 by omega)).1
      have t1 := (tk_s hs (show 1 < 4 by omega)).1
      have t2 := (tk_s hs (show 2 < 4 by omega)).1
      have t3 := (tk_s hs (show 3 < 4 by omega)).1
      have d0 := dg_le z 0
      have d1 := dg_le z 1
      have d2 := dg_le z 2
      have d3 := dg_le z 3
      have sum : (((nI z >>> (((2 : Int32) * 0) &&& 31)) &&& 3) + ((nI z >>> (((2 : Int32) * 1) &&& 31)) &&& 3) + ((nI z >>> (((2 : Int32) * 2) &&& 31)) &&& 3) + ((nI z >>> (((2 : Int32) * 3) &&& 31)) &&& 3)) = nI (pl4 z) := by
        have t0 : (nI z >>> (((2 : Int32) * 0) &&& 31)) &&& 3 = nI (dg z 0) := t0
        have t1 : (nI z >>> (((2 : Int32) * 1) &&& 31)) &&& 3 = nI (dg z 1) := t1
        have t2 : (nI z >>> (((2 : Int32) * 2) &&& 31)) &&& 3 = nI (dg z 2) := t2
        have t3 : (nI z >>> (((2 : Int32) * 3) &&& 31)) &&& 3 = nI (dg z 3) := t3
        rw [t0, t1, t2, t3, kI_add, kI_add, kI_add]
        rfl
      have pl : pl4 z ≤ 12 := by unfold pl4; omega
      have fin : ∀ v : Nat, v = Lf P C W z → wX3_findPlan_137 p (wX3_findPlan_81 p n) M tl (nI f) (nI W) (nI z) (nI z) (nI v) → ∃ M1, (∀ a, a ≠ 50 → M1 a = M a) ∧ (∀ s, s < 256 → M1 50 s = nI (Lf P C W s)) ∧ wpX3_placeWants (fun M1 t2 => (vp_in 0 (al 50) ∧ p (M1 50 (0 : Int32).toNatClampNeg) M1 t2)) M1 tl (nI f) (nI W) := by
        intro v ev h
        unfold wX3_findPlan_137 at h
        have h := h.2 _ rfl
        rw [tn_nI (by omega)] at h
        obtain ⟨M1, b1, b2, b3⟩ := ih z _ _ rfl (by omega) (pm_keep K (mset_ne (a := 50) (by decide)) (mset_ne (a := 50) (by decide))) (fun s h1 h2 => by
          by_cases w : s = z
          · subst w; rw [mset_at, ev]
          · rw [mset_nk w]; exact su s (by omega) h2) h
        exact ⟨M1, fun a ha => by rw [b1 a ha, mset_ne ha], b2, b3⟩
      have h : (if nI W ≤ nI (pl4 z) then wX3_findPlan_137 p (wX3_findPlan_81 p n) M tl (nI f) (nI W) (nI z) (nI z) 0 else (vp_in (nI (pl4 z)) (al 51) ∧ wpX3_leastFrom (fun r19 M17 t18 => wX3_findPlan_137 p (wX3_findPlan_81 p n) M17 t18 (nI f) (nI W) (nI z) (nI z) r19) M tl (nI z) (M 51 (nI (pl4 z)).toNatClampNeg))) := by
        rw [← sum]
        exact h
      by_cases c : W ≤ pl4 z
      · refine fin 0 ?_ (ip ((kI_le (by omega) (by omega)).mpr c) h)
        unfold Lf
        rw [if_pos c]
      · have h := (iq (fun w => c ((kI_le (by omega) (by omega)).mp w)) h).2
        rw [tn_nI (by omega), K.2 _ (by omega)] at h
        obtain ⟨r, hr⟩ : ∃ r, W - pl4 z = r + 1 := ⟨W - pl4 z - 1, by omega⟩
        have cj : pl4 z = W - (r + 1) := by omega
        have h : wpX3_leastFrom (fun r19 M17 t18 => wX3_findPlan_137 p (wX3_findPlan_81 p n) M17 t18 (nI f) (nI W) (nI z) (nI z) r19) M tl (nI z) (nI (C (W - (r + 1)))) := by rw [← cj]; exact h
        have h := el_leastFrom (P := P) (C := C) (W := W) (r := r) hP hC hs K.1 (fun q hq hd => by
          have a := pl_add hs hq hd
          have p4 : 0 < 4 ^ q := Nat.pow_pos (by omega)
          rw [su _ (by omega) a.1, lf_more hs hq hd (by omega), show W - pl4 z - 1 = r by omega]) h
        refine fin _ ?_ h
        unfold Lf
        rw [if_neg c, hr]
end PLC
