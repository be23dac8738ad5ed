/-! CALLS on both sides: what a RUN shows; odd -/
def PE {R : Type} (p q : R → MM → Int64 → Prop) : Prop := ∃ r M1 t1 N1 u1, p r M1 t1 ∧ q r N1 u1
theorem pe0 {R : Type} {p q : R → MM → Int64 → Prop} {r r2 : R} {M N : MM} {tl u : Int64} (a : p r M tl) (b : q r2 N u) (e : r = r2) : PE p q := ⟨r, M, tl, N, u, a, by rw [e]; exact b⟩
theorem bts : ∀ a, a < 16 → ∀ b, b < 16 → ∀ i, i < 8 → nI (16 * a + b) ||| ((1 : Int32) <<< (nI i &&& 31)) = nI ((16 * a + b) ||| (1 <<< i)) ∧ ((16 * a + b) ||| (1 <<< i)) < 256 := by decide +kernel
theorem bt_or {c : Int32} {i : Nat} (hc : ∃ k, k < 256 ∧ c = nI k) (hi : i < 8) : ∃ k, k < 256 ∧ c ||| ((1 : Int32) <<< (nI i &&& 31)) = nI k := by
  obtain ⟨k, hk, e⟩ := hc
  have := bts (k / 16) (by omega) (k % 16) (by omega) i hi
  rw [show 16 * (k / 16) + k % 16 = k by omega] at this
  exact ⟨_, this.2, by rw [e]; exact this.1⟩
theorem bt_some : ∀ a, a < 16 → ∀ b, b < 16 → 16 * a + b = 0 ∨ ∃ i, i < 8 ∧ ((nI (16 * a + b) >>> (nI i &&& 31)) &&& 1) ≠ 0 := by decide +kernel
theorem shl8 : ∀ t, t < 8 → (0 : Int32) <<< (nI t &&& 31) = 0 := by decide
section UN
variable {p q : Int32 → MM → Int64 → Prop} {M N : MM} {tl u : Int64}
/-- LOTS whose PAIRS are not EVEN -/
theorem lp_uneven {a : Nat} (R : RLw M N) (T : ∀ s, s < 16 → M a s = N 98 s ∧ TT (N 98 s)) : ∀ (n n' i : Nat) (c : Int32), i ≤ 8 → (∃ k, k < 256 ∧ c = nI k) → wX1_unevenLots_4 p n M tl 3 a c (nI i) → wX11_oddLots_4 q n' N u c (nI i) → ∃ r, p r M tl ∧ q r N u ∧ ∃ k, k < 256 ∧ r = nI k := by
  have l := rl_lots R
  intro n
  induction n with
  | zero => intro n' i c _ _ h; exact h.elim
  | succ n ih =>
    intro n' i c hi hc hA hB
    cases n' with
    | zero => exact hB.elim
    | succ n' =>
    unfold wX1_unevenLots_4 at hA
    unfold wX11_oddLots_4 at hB
    have hA := hA.2
    rw [rl_0 R] at hA
    by_cases cc : N 81 2 ≤ nI i
    · exact ⟨c, ip cc hA, ip cc hB, hc⟩
    · have i8 : i < 8 := (kI_lt (b := 8) (by omega) (by omega)).mp (show nI i < (8 : Int32) by clear R T ih; lia)
      have hA := el_c_matchOf R (iq cc hA).2
      have hB := el_r_isEven i8 l (iq cc hB)
      have even : wX11_oddLots_26 q (wX11_oddLots_4 q n') N u (nI i) c 0 → wX11_oddLots_4 q n' N u c (nI (i + 1)) := fun h => by
        unfold wX11_oddLots_26 at h
        have h := (el_flag h).1 rfl
        rw [shl8 i i8, nI_s1] at h
        have e0 : c ||| 0 = c := by simp
        rw [e0] at h
        exact h
      by_cases q1 : mat N 0 (nI i) = -4
      · have hA := ip q1 hA
        unfold wX1_unevenLots_55 at hA
        rw [nI_s1] at hA
        exact ih n' (i + 1) c (by omega) hc hA (even (iq (by decide) (hB.1 q1)))
      · obtain ⟨j, hj, ej, _⟩ := mat_n l q1
        have hA := iq q1 hA
        rw [ej] at hA
        have hA := (el_slot (b := 0) (by omega) i8 hA).2.2
        have hA := (el_slot (b := 1) (by omega) hj hA).2.2
        rw [tn_nI (by omega), tn_nI (by omega), show 8 * 0 + i = i by omega, show 8 * 1 + j = 8 + j by omega, (T i (by omega)).1, (T (8 + j) (by omega)).1] at hA
        have hA := el_c_isEven R (T i (by omega)).2 hA.2
        have hB := hB.2 j hj ej
        by_cases q2 : mirF N (N 98 i) = N 98 (8 + j)
        · have hA := iq (by decide) (hA.1 q2)
          unfold wX1_unevenLots_55 at hA
          rw [nI_s1] at hA
          exact ih n' (i + 1) c (by omega) hc hA (even (iq (by decide) (hB.1 q2)))
        · have hA := i00 (hA.2 q2)
          unfold wX1_unevenLots_55 at hA
          have hB := i00 (hB.2 q2)
          unfold wX11_oddLots_26 at hB
          have hB := (el_flag hB).2 (by decide)
          rw [nI_s1] at hA hB
          exact ih n' (i + 1) _ (by omega) (bt_or hc i8) hA hB
theorem pe_odd (R : RA M N) (hA : wpX10_odd p M tl) (hB : wpX11_odd q N u) : PE p q := by
  unfold wpX10_odd wpX1_unevenLots at hA
  unfold wpX11_odd wpX11_asNow at hB
  obtain ⟨n, hA⟩ := hA
  obtain ⟨n', hB⟩ := hB
  obtain ⟨N1, hB, e1, e2⟩ := lp_asNow n' 0 N (by omega) hB (fun x hx => absurd hx (by omega))
  unfold wpX11_oddLots at hB
  obtain ⟨n', hB⟩ := hB
  have R1 : RLw M N1 := rl_eq R.1 (fun _ _ => rfl) (fun a ha => e1 a (by intro z; subst z; exact absurd ha (by decide))) (fun j _ => by rw [e1 81 (by decide)])
  obtain ⟨r, a, b, _⟩ := lp_uneven R1 (fun s hs => by rw [e2 s hs]; exact R.2.1.1 s hs) n n' 0 0 (by omega) ⟨0, by omega, rfl⟩ hA hB
  exact ⟨r, _, _, _, _, a, b⟩
theorem el_isMany {k : Int32} (h : wpX11_isMany p N u k) : ((0 ≤ k ∧ k ≤ 24) → p 1 N u) ∧ (¬ (0 ≤ k ∧ k ≤ 24) → p 0 N u) := by
  unfold wpX11_isMany at h
  have g := el_in 0 24 rfl rfl rfl h
  exact ⟨fun c => (g.1 c).2, fun c => (g.2 c).2⟩
theorem pe_after {v1 v2 v3 : Int32} (R : RA M N) (i : Inv N) (hA : wpX10_after p M tl v1 v2 v3) (hB : wpX11_after q N u v1 v2 v3) : PE p q := by
  unfold wpX10_after at hA
  unfold wpX11_after at hB
  have hB := el_isMany hB
  by_cases c : 0 ≤ v1 ∧ v1 ≤ 24
  · have hA := el_c_isLot R.1 (iq (show ¬ 24 < v1 by lia) (iq (show ¬ v1 < 0 by lia) hA))
    have hB := el_r_isLot (rl_lots R.1) (i10 (hB.1 c))
    by_cases cl : lotP N v2 v3
    · have hA := i10 (hA.1 cl)
      have hB := i10 (hB.1 cl)
      obtain ⟨k, hk, ek⟩ := cdN (v := v1) 25 (by omega) c.1 (show _ < (25 : Int32) by lia)
      subst ek
      obtain ⟨M1, N1, RB1, hA, hB⟩ := pl_run (by omega) (ra_rls R i) hA hB
      obtain ⟨b, j, hb, hj, e1, e2, _⟩ := lot_n (rl_lots R.1) cl
      rw [e1, e2] at hA hB
      have hA := (el_slot hb hj hA).2
      have hB := hB.2
      rw [sl_r b hb j hj, tn_nI (by omega)] at hB
      rw [tn_nI (by omega)] at hA
      exact pe0 hA hB (RB1.2.1 (8 * b + j) (by omega)).1
    · exact pe0 (i00 (hA.2 cl)) (i00 (hB.2 cl)) rfl
  · have hB := i00 (hB.2 c)
    by_cases c4 : v1 < 0
    · exact pe0 (ip c4 hA) hB rfl
    · exact pe0 (ip (show 24 < v1 by lia) (iq c4 hA)) hB rfl
theorem pe_paid {v1 v2 : Int32} (R : RA M N) (i : Inv N) (hA : wpX10_paid p M tl v1 v2) (hB : wpX11_paid q N u v1 v2) : PE p q := by
  unfold wpX10_paid at hA
  unfold wpX11_paid at hB
  have hB := el_isMany hB
  by_cases c : 0 ≤ v1 ∧ v1 ≤ 24
  · have hA := el_isBank (iq (show ¬ 24 < v1 by lia) (iq (show ¬ v1 < 0 by lia) hA))
    have hB := el_r_isBank (i10 (hB.1 c))
    by_cases cl : 0 ≤ v2 ∧ v2 < 2
    · have hA := i10 (hA.1 cl)
      have hB := i10 (hB.1 cl)
      obtain ⟨k, hk, ek⟩ := cdN (v := v1) 25 (by omega) c.1 (show _ < (25 : Int32) by lia)
      obtain ⟨b, hb, eb⟩ := cdN (v := v2) 2 (by omega) cl.1 cl.2
      subst ek eb
      obtain ⟨M1, N1, RB1, hA, hB⟩ := pl_run (by omega) (ra_rls R i) hA hB
      have hA := hA.2
      have hB := hB.2
      rw [tn_nI (by omega)] at hA hB
      exact pe0 hA hB (RB1.2.2.1 b hb)
    · exact pe0 (i00 (hA.2 cl)) (i00 (hB.2 cl)) rfl
  · have hB := i00 (hB.2 c)
    by_cases c4 : v1 < 0
    · exact pe0 (ip c4 hA) hB rfl
    · exact pe0 (ip (show 24 < v1 by lia) (iq c4 hA)) hB rfl
theorem lp_owes {k b : Nat} {g : Nat → Int32} (hb : b < 2) (H : RB k g M N) : ∀ (n n' i : Nat) (c : Int32), i ≤ 8 → wX6_lotsOwedBy_4 p n M tl (nI b) c (nI i) → wX11_owes_26 q n' N u (nI b) c (nI i) → ∃ r, p r M tl ∧ q r N u := by
  obtain ⟨⟨⟨R, S, sd⟩, h0⟩, h2, h3, h4, h5, h6, h8⟩ := H
  have l := rl_lots R
  intro n
  induction n with
  | zero => intro n' i c _ h; exact h.elim
  | succ n ih =>
    intro n' i c hi hA hB
    cases n' with
    | zero => exact hB.elim
    | succ n' =>
    unfold wX6_lotsOwedBy_4 at hA
    unfold wX11_owes_26 at hB
    rw [rl_0 R] at hA
    by_cases cc : N 81 2 ≤ nI i
    · exact ⟨c, ip cc hA, ip cc hB⟩
    · have i8 : i < 8 := (kI_lt (b := 8) (by omega) (by omega)).mp (show nI i < (8 : Int32) by clear R S sd h2 h3 h4 h5 h6 h8 ih; lia)
      have hA := el_c_matchOf R (iq cc hA)
      have hB := el_r_isEven i8 l (iq cc hB)
      have sB : wX11_owes_78 q (wX11_owes_26 q n') N u (nI b) c (nI i) → wX11_owes_26 q n' N u (nI b) c (nI (i + 1)) := fun h => by
        unfold wX11_owes_78 at h
        rw [nI_s1] at h
        exact h
      have sA : wX6_lotsOwedBy_70 p (wX6_lotsOwedBy_4 p n) M tl (nI b) c (nI i) → wX6_lotsOwedBy_4 p n M tl (nI b) c (nI (i + 1)) := fun h => by
        unfold wX6_lotsOwedBy_70 at h
        rw [nI_s1] at h
        exact h
      by_cases q1 : mat N 0 (nI i) = -4
      · exact ih n' (i + 1) c (by omega) (sA (ip q1 hA)) (sB (iq (by decide) (hB.1 q1)))
      · obtain ⟨j, hj, ej, _⟩ := mat_n l q1
        have hA := (iq q1 hA).2
        rw [ej, tn_nI (by omega), (h5 i i8).1] at hA
        have hB := hB.2 j hj ej
        have x1 := h2 i (by omega)
        have x2 := h2 (8 + j) (by omega)
        by_cases q2 : mirF N (N 98 i) = N 98 (8 + j)
        · have hB := sB (iq (by decide) (hB.1 q2))
          by_cases q3 : N 99 i = (1 : Int32) - nI b
          · have hA := el_evenPair i8 hj R (by rw [x1.1]; exact x1.2) (ip q3 hA)
            rw [x1.1, x2.1] at hA
            exact ih n' (i + 1) c (by omega) (sA (iq (by decide) (hA.1 q2))) hB
          · exact ih n' (i + 1) c (by omega) (sA (iq q3 hA)) hB
        · have hB := (i00 (hB.2 q2)).2
          rw [tn_nI (by omega)] at hB
          by_cases q3 : N 99 i = (1 : Int32) - nI b
          · have hA := el_evenPair i8 hj R (by rw [x1.1]; exact x1.2) (ip q3 hA)
            rw [x1.1, x2.1] at hA
            have hA := i00 (hA.2 q2)
            have hB := ip q3 hB
            by_cases q4 : nI b = 0
            · have hA := ip q4 hA
              have hB := ip q4 hB
              unfold wX6_lotsOwedBy_67 wX6_lotsOwedBy_70 at hA
              unfold wX11_owes_75 wX11_owes_78 at hB
              rw [nI_s1] at hA hB
              exact ih n' (i + 1) _ (by omega) hA hB
            · have hA := iq q4 hA
              have hB := el_r_matchOf l (iq q4 hB)
              rw [ej] at hB
              unfold wX6_lotsOwedBy_67 wX6_lotsOwedBy_70 at hA
              unfold wX11_owes_75 wX11_owes_78 at hB
              rw [nI_s1] at hA hB
              exact ih n' (i + 1) _ (by omega) hA hB
          · exact ih n' (i + 1) c (by omega) (sA (iq q3 hA)) (sB (iq q3 hB))
theorem pe_owes {v1 v2 : Int32} (R : RA M N) (i : Inv N) (hA : wpX10_owes p M tl v1 v2) (hB : wpX11_owes q N u v1 v2) : PE p q := by
  unfold wpX10_owes at hA
  unfold wpX11_owes at hB
  have hB := el_isMany hB
  by_cases c : 0 ≤ v1 ∧ v1 ≤ 24
  · have hA := el_isBank (iq (show ¬ 24 < v1 by lia) (iq (show ¬ v1 < 0 by lia) hA))
    have hB := el_r_isBank (i10 (hB.1 c))
    by_cases cl : 0 ≤ v2 ∧ v2 < 2
    · have hA := i10 (hA.1 cl)
      have hB := i10 (hB.1 cl)
      obtain ⟨k, hk, ek⟩ := cdN (v := v1) 25 (by omega) c.1 (show _ < (25 : Int32) by lia)
      obtain ⟨b, hb, eb⟩ := cdN (v := v2) 2 (by omega) cl.1 cl.2
      subst ek eb
      obtain ⟨M1, N1, RB1, hA, ⟨n', hB⟩⟩ := pl_run (by omega) (ra_rls R i) hA hB
      unfold wpX6_lotsOwedBy at hA
      obtain ⟨n, hA⟩ := hA
      obtain ⟨r, a, b⟩ := lp_owes hb RB1 n n' 0 0 (by omega) hA hB
      exact ⟨r, _, _, _, _, a, b⟩
    · exact pe0 (i00 (hA.2 cl)) (i00 (hB.2 cl)) rfl
  · have hB := i00 (hB.2 c)
    by_cases c4 : v1 < 0
    · exact pe0 (ip c4 hA) hB rfl
    · exact pe0 (ip (show 24 < v1 by lia) (iq c4 hA)) hB rfl
theorem pe_fate {v : Int32} (R : RA M N) (i : Inv N) (hA : wpX10_fate p M tl v) (hB : wpX11_fate q N u v) : PE p q := by
  unfold wpX10_fate at hA
  unfold wpX11_fate at hB
  obtain ⟨n, hn, en⟩ := szw i
  have e16 : M 16 3 = nI n := R.2.1.2.1.1.trans en
  have b12 : nI n ≤ 12 := (kI_le (b := 12) (by omega) (by omega)).mpr (by omega)
  have b0 := nJ_ge0 (i := n) (by omega)
  have hB := el_in 0 (nI n - 1) rfl rfl (by rw [show (16 : Int32).toNatClampNeg = 16 from by decide, en]) hB.2
  rw [e16] at hA
  by_cases c : 0 ≤ v ∧ v < nI n
  · obtain ⟨w, hw, ew⟩ := cdN (v := v) n (by omega) c.1 c.2
    have hA := ip (show v < 12 by lia) (iq (show ¬ nI n ≤ v by lia) (iq (show ¬ v < 0 by lia) hA))
    have hB := i10 (hB.1 (by lia))
    obtain ⟨M1, N1, RB1, hA, hB⟩ := pl_run (k := 24) (by omega) (ra_rls R i) hA hB
    have hA := hA.2
    have hB := hB.2
    rw [ew, tn_nI (by omega)] at hA hB
    refine pe0 hA hB (RB1.2.2.2.1 w (by omega) (by rw [en, ← ew]; exact c.2) ?_)
    have d := i.2.1 (17 + (4 * w + 0))
    rw [Nat.mod_eq_of_lt (by omega)] at d
    unfold sdom at d
    rw [if_neg (by omega), if_neg (by omega), if_pos (by omega), if_pos (by omega)] at d
    exact show N 82 (17 + (4 * w + 0)) < (24 : Int32) by lia
  · have hB := i00 (hB.2 (by lia))
    by_cases c3 : v < 0
    · exact pe0 (ip c3 hA) hB rfl
    · exact pe0 (ip (show nI n ≤ v by lia) (iq c3 hA)) hB rfl
theorem lp_first {v1 v2 c : Int32} (hc : ∃ i, i < 8 ∧ ((c >>> (nI i &&& 31)) &&& 1) ≠ 0) : ∀ (n n' i : Nat), i ≤ 8 → (∀ x, x < i → ((c >>> (nI x &&& 31)) &&& 1) = 0) → wX10_firstLot_2 p n M tl c (nI i) → wX11_uneven_41 q n' N u v1 v2 c (nI i) → ∃ r, p r M tl ∧ (if v1 = 0 then q v2 N u else q r N u) := by
  intro n
  induction n with
  | zero => intro n' i _ _ h; exact h.elim
  | succ n ih =>
    intro n' i hi hz hA hB
    cases n' with
    | zero => exact hB.elim
    | succ n' =>
    unfold wX10_firstLot_2 at hA
    unfold wX11_uneven_41 at hB
    have i8 : i < 8 := by
      rcases Nat.lt_or_ge i 8 with z | z
      · exact z
      · obtain ⟨x, hx, y⟩ := hc
        exact absurd (hz x (by omega)) y
    have hA := iq (fun z => absurd ((kI_le (a := 8) (by omega) (by omega)).mp z) (by omega)) hA
    by_cases q1 : ((c >>> (nI i &&& 31)) &&& 1) = 0
    · have hA := ip q1 hA
      have hB := ip q1 hB
      rw [nI_s1] at hA hB
      refine ih n' (i + 1) (by omega) (fun x hx => ?_) hA hB
      by_cases y : x = i
      · subst y; exact q1
      · exact hz x (by omega)
    · exact ⟨_, iq q1 hA, iq q1 hB⟩
theorem lp_41 {v2 c : Int32} : ∀ (n' : Nat) (v4 : Int32), wX11_uneven_41 q n' N u 0 v2 c v4 → q v2 N u := by
  intro n
  induction n with
  | zero => intro v4 h; exact h.elim
  | succ n ih =>
    intro v4 h
    unfold wX11_uneven_41 at h
    split at h
    · exact ih _ h
    · exact ip rfl h
theorem lp_unev {g : Nat → Int32} {v1 : Int32} : ∀ (n n' m : Nat) (M N : MM), m ≤ 24 → RB m g M N → wX10_uneven_20 p n M tl v1 (nI m) → wX11_uneven_18 q n' N u v1 (nI m) → PE p q := by
  intro n
  induction n with
  | zero => intro n' m M N _ _ h; exact h.elim
  | succ n ih =>
    intro n' m M N hm H hA hB
    cases n' with
    | zero => exact hB.elim
    | succ n' =>
    unfold wX10_uneven_20 at hA
    unfold wX11_uneven_18 at hB
    by_cases c : (24 : Int32) ≤ nI m
    · exact pe0 (ip c hA) (ip c hB) rfl
    · have m24 : m < 24 := by
        rcases Nat.lt_or_ge m 24 with z | z
        · exact z
        · exact absurd ((kI_le (a := 24) (by omega) (by omega)).mpr z) c
      obtain ⟨M1, N1, R1, hA, hB⟩ := pl_month m24 H (iq c hA) (iq c hB)
      unfold wpX1_unevenLots at hA
      unfold wpX11_oddLots at hB
      obtain ⟨a, hA⟩ := hA
      obtain ⟨b, hB⟩ := hB
      obtain ⟨r, hA, hB, ⟨k, hk, ek⟩⟩ := lp_uneven R1.1.1.1 R1.2.1 a b 0 0 (by omega) ⟨0, by omega, rfl⟩ hA hB
      by_cases c2 : r = 0
      · have hA := ip c2 hA
        have hB := ip c2 hB
        rw [nI_s1] at hA hB
        exact ih n' (m + 1) M1 N1 (by omega) R1 hA hB
      · have hA := iq c2 hA
        obtain ⟨x, hB⟩ := iq c2 hB
        by_cases c3 : v1 = 0
        · subst c3
          exact pe0 (ip rfl hA) (lp_41 x _ hB) rfl
        · have hA := iq c3 hA
          unfold wpX10_firstLot at hA
          obtain ⟨y, hA⟩ := hA
          have so : ∃ i, i < 8 ∧ ((r >>> (nI i &&& 31)) &&& 1) ≠ 0 := by
            have := bt_some (k / 16) (by omega) (k % 16) (by omega)
            rw [show 16 * (k / 16) + k % 16 = k by omega, ← ek] at this
            rcases this with z | z
            · rw [z] at ek; exact absurd ek c2
            · exact z
          obtain ⟨s, a1, a2⟩ := lp_first so y x 0 (by omega) (fun x hx => absurd hx (by omega)) hA hB
          exact pe0 a1 (iq c3 a2) rfl
theorem pe_uneven {v : Int32} (R : RA M N) (i : Inv N) (hA : wpX10_uneven p M tl v) (hB : wpX11_uneven q N u v) : PE p q := by
  unfold wpX10_uneven at hA
  unfold wpX11_uneven at hB
  have hB := el_in 0 1 rfl rfl rfl hB
  by_cases c : 0 ≤ v ∧ v ≤ 1
  · obtain ⟨M1, N1, R1, ⟨n, hA⟩, ⟨n', hB⟩⟩ := pl_start (ra_rls R i) (ip c.2 (iq (show ¬ v < 0 by lia) hA)) (i10 (hB.1 c))
    exact lp_unev n n' 0 M1 N1 (by omega) R1 hA hB
  · have hB := i00 (hB.2 c)
    by_cases c3 : v < 0
    · exact pe0 (ip c3 hA) hB rfl
    · exact pe0 (iq (show ¬ v ≤ 1 by lia) (iq c3 hA)) hB rfl
end UN
