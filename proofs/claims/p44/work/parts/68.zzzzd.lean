/-! CALLS on both sides: to begin or to wait, fires, bends, counts -/
def kdN (N : MM) (b i : Nat) : Nat := (N 82 (8 * b + i) - N 82 (8 * b + i) / 8 * 8).toNatClampNeg
theorem kd_n {M N : MM} (R : RA M N) {b i : Nat} (hb : b < 2) (hi : i < 8) : kdN N b i < 6 ∧ N 82 (8 * b + i) - N 82 (8 * b + i) / 8 * 8 = nI (kdN N b i) ∧ (kdN N b i = 0 ↔ N 82 (8 * b + i) = 0) := by
  obtain ⟨k, hk, e1, e2, e3⟩ := tt_k (ra_tt R (show 8 * b + i < 16 by omega))
  unfold kdN
  rw [e1, tn_nI (by omega)]
  exact ⟨hk, rfl, e3⟩
/-- GAIN -/
def gnF (N : MM) (b i k : Nat) : Int32 := N 86 (6 * b + k) - N 85 (6 * b + k) - N 86 (6 * b + kdN N b i)
section GN
variable {p q : Int32 → MM → Int64 → Prop} {M N : MM} {tl u : Int64}
theorem el_c_kindN {b i : Nat} (hb : b < 2) (hi : i < 8) (R : RA M N) (h : wpX7_kindAt p M tl 14 (nI b) (nI i)) : p (nI (kdN N b i)) M tl := by
  have h := el_c_kindAt hb hi R h
  rw [(kd_n R hb hi).2.1] at h
  exact h
theorem el_r_kindN {b i : Nat} (hb : b < 2) (hi : i < 8) (R : RA M N) (h : wpX11_kindThere q N u (nI b) (nI i)) : q (nI (kdN N b i)) N u := by
  unfold wpX11_kindThere at h
  have h := h.2
  rw [sl_r b hb i hi, tn_nI (by omega), (kd_n R hb hi).2.1] at h
  exact h
theorem el_c_gainOf {b i k : Nat} (hb : b < 2) (hi : i < 8) (hk : k < 6) (R : RA M N) (h : wpX0_gainOf p M tl (nI b) (nI i) (nI k)) : p (gnF N b i k) M tl := by
  unfold wpX0_gainOf at h
  have h := el_c_costOf hb hk R.1 (el_c_tasteOf hb hk R.1 h)
  exact el_c_tasteOf hb (kd_n R hb hi).1 R.1 (el_c_kindN hb hi R h)
theorem el_r_gainOf {b i k : Nat} (hb : b < 2) (hi : i < 8) (hk : k < 6) (R : RA M N) (h : wpX11_gainOf q N u (nI b) (nI i) (nI k)) : q (gnF N b i k) N u := by
  unfold wpX11_gainOf at h
  have h := (el_r_kindN hb hi R h.2.2).2
  rw [k6_r b hb k hk, k6_r b hb _ (kd_n R hb hi).1, tn_nI (by omega), tn_nI (by have := (kd_n R hb hi).1; omega)] at h
  exact h
theorem el_r_mayBe {b k : Nat} {i : Int32} (hb : b < 2) (hk : k < 6) (R : RLw M N) (h : wpX11_mayBe q N u (nI b) i (nI k)) : (mbP N b i k → q 1 N u) ∧ (¬ mbP N b i k → q 0 N u) := by
  unfold wpX11_mayBe at h
  have l := rl_lots R
  have g := el_r_doesLack hb hk h
  by_cases c : lkP N b k
  · exact ⟨fun z => absurd c z.1, fun _ => iq (by decide) (g.1 c)⟩
  · have g := el_r_matchOf l (i00 (g.2 c))
    by_cases c2 : mat N (nI b) i = -4
    · exact ⟨fun _ => ip c2 g, fun z => absurd ⟨c, Or.inl c2⟩ z⟩
    · have g := (iq c2 g).2
      obtain ⟨t1, t2, _⟩ := tw_n R hk
      rw [nI_1b hb, tn_nI (by omega), t2] at g
      have g := el_r_doesLack (by omega) t1 g
      by_cases c3 : lkP N (1 - b) (twN N k)
      · exact ⟨fun z => z.2.elim (fun y => absurd y c2) (fun y => absurd c3 y), fun _ => iq (by decide) (g.1 c3)⟩
      · exact ⟨fun _ => i00 (g.2 c3), fun z => absurd ⟨c, Or.inr c3⟩ z⟩
theorem bl5 {k : Int32} (h : 1 ≤ k ∧ k < 6) : ∃ j, j < 6 ∧ 1 ≤ j ∧ k = nI j := by
  obtain ⟨j, hj, e⟩ := cdN (v := k) 6 (by omega) (by lia) h.2
  refine ⟨j, hj, ?_, e⟩
  rcases Nat.eq_zero_or_pos j with z | z
  · subst z; rw [e] at h; exact absurd h.1 (by decide)
  · exact z
theorem pe_gain {v1 v2 v3 : Int32} (R : RA M N) (hA : wpX10_gain p M tl v1 v2 v3) (hB : wpX11_gain q N u v1 v2 v3) : PE p q := by
  unfold wpX10_gain at hA
  unfold wpX11_gain at hB
  have hA := el_c_isLot R.1 hA
  have hB := el_r_isLot (rl_lots R.1) hB
  by_cases c : lotP N v1 v2
  · have hA := el_isBuilt (i10 (hA.1 c))
    have hB := el_in 1 5 rfl rfl rfl (i10 (hB.1 c))
    by_cases c2 : 1 ≤ v3 ∧ v3 < 6
    · have hA := i10 (hA.1 c2)
      have hB := i10 (hB.1 (by lia))
      obtain ⟨b, j, hb, hj, e1, e2, _⟩ := lot_n (rl_lots R.1) c
      obtain ⟨k, hk, _, e3⟩ := bl5 c2
      subst e1 e2 e3
      have hA := el_c_gainOf hb hj hk R hA
      have hB := el_r_gainOf hb hj hk R hB
      exact pe0 hA hB rfl
    · exact pe0 (i00 (hA.2 c2)) (i00 (hB.2 (by lia))) rfl
  · exact pe0 (i00 (hA.2 c)) (i00 (hB.2 c)) rfl
/-- BEGIN -/
def BK (r s : Int32) : Prop := (r = 0 ∧ s = -4) ∨ ∃ k, 1 ≤ k ∧ k < 6 ∧ r = nI k ∧ s = nI k
theorem lp_best {b i : Nat} (hb : b < 2) (hi : i < 8) (R : RA M N) : ∀ (n n' k : Nat) (x y m : Int32), 1 ≤ k → k ≤ 6 → BK x y → wX0_bestKind_8 p n M tl (nI b) (nI i) x m (nI k) → wX11_beginOf_9 q n' N u (nI b) (nI i) y m (nI k) → ∃ r s, p r M tl ∧ q s N u ∧ BK r s := by
  intro n
  induction n with
  | zero => intro n' k x y m _ _ _ h; exact h.elim
  | succ n ih =>
    intro n' k x y m h1 h6 B hA hB
    cases n' with
    | zero => exact hB.elim
    | succ n' =>
    unfold wX0_bestKind_8 at hA
    unfold wX11_beginOf_9 at hB
    by_cases c : (6 : Int32) ≤ nI k
    · exact ⟨_, _, ip c hA, ip c hB, B⟩
    · have k6 : k < 6 := by
        rcases Nat.lt_or_ge k 6 with z | z
        · exact z
        · exact absurd ((kI_le (a := 6) (by omega) (by omega)).mpr z) c
      have hA := el_c_gainOf hb hi k6 R (iq c hA)
      have hB := el_r_mayBe hb k6 R.1 (iq c hB)
      have sA : wX0_bestKind_53 p (wX0_bestKind_8 p n) M tl (nI b) (nI i) x m (nI k) → wX0_bestKind_8 p n M tl (nI b) (nI i) x m (nI (k + 1)) := fun h => by
        unfold wX0_bestKind_53 at h
        rw [nI_s1] at h
        exact h
      have sB : wX11_beginOf_44 q (wX11_beginOf_9 q n') N u (nI b) (nI i) y m (nI k) → wX11_beginOf_9 q n' N u (nI b) (nI i) y m (nI (k + 1)) := fun h => by
        unfold wX11_beginOf_44 wX11_beginOf_45 at h
        have h := ip rfl h
        unfold wX11_beginOf_58 wX11_beginOf_77 at h
        have h := ip rfl h
        rw [nI_s1] at h
        exact h
      by_cases c2 : mbP N b (nI i) k
      · have hB := el_r_gainOf hb hi k6 R (i10 (hB.1 c2))
        by_cases c3 : gnF N b i k ≤ m
        · exact ih n' (k + 1) x y m (by omega) (by omega) B (sA (ip c3 hA)) (sB (ip c3 hB))
        · have hA := i10 ((el_c_mayBuild hb k6 R.1 (iq c3 hA)).1 c2)
          have hB := iq c3 hB
          unfold wX0_bestKind_53 at hA
          unfold wX11_beginOf_45 at hB
          have hB := iq (show ¬ (1 : Int32) = 0 by decide) hB
          unfold wX11_beginOf_58 at hB
          have hB := el_r_gainOf hb hi k6 R (iq (show ¬ (1 : Int32) = 0 by decide) hB)
          unfold wX11_beginOf_77 at hB
          rw [nI_s1] at hA hB
          exact ih n' (k + 1) _ _ _ (by omega) (by omega) (Or.inr ⟨k, h1, k6, rfl, rfl⟩) hA hB
      · have hB := sB (i00 (hB.2 c2))
        by_cases c3 : gnF N b i k ≤ m
        · exact ih n' (k + 1) x y m (by omega) (by omega) B (sA (ip c3 hA)) hB
        · have hA := i00 ((el_c_mayBuild hb k6 R.1 (iq c3 hA)).2 c2)
          exact ih n' (k + 1) x y m (by omega) (by omega) B (sA hA) hB
theorem pl_best {b i : Nat} (hb : b < 2) (hi : i < 8) (R : RA M N) (hA : wpX0_bestKind p M tl (nI b) (nI i)) (hB : wpX11_beginOf q N u (nI b) (nI i)) : ∃ r s, p r M tl ∧ q s N u ∧ BK r s := by
  unfold wpX0_bestKind at hA
  unfold wpX11_beginOf at hB
  obtain ⟨n, hA⟩ := hA
  obtain ⟨n', hB⟩ := hB
  exact lp_best hb hi R n n' 1 0 (-4) 0 (by omega) (by omega) (Or.inl ⟨rfl, rfl⟩) hA hB
theorem pe_begin {v1 v2 v3 : Int32} (R : RA M N) (hA : wpX10_begin p M tl v1 v2 v3) (hB : wpX11_begin q N u v1 v2 v3) : PE p q := by
  unfold wpX10_begin at hA
  unfold wpX11_begin at hB
  have hA := el_c_isLot R.1 hA
  have hB := el_r_isLot (rl_lots R.1) hB
  by_cases c : lotP N v1 v2
  · have hA := i10 (hA.1 c)
    have hB := el_in 0 1 rfl rfl rfl (i10 (hB.1 c))
    by_cases c2 : 0 ≤ v3 ∧ v3 ≤ 1
    · have hA := ip c2.2 (iq (show ¬ v3 < 0 by lia) hA)
      have hB := i10 (hB.1 c2)
      obtain ⟨b, j, hb, hj, e1, e2, _⟩ := lot_n (rl_lots R.1) c
      subst e1 e2
      obtain ⟨r, s, hA, hB, B⟩ := pl_best hb hj R hA hB
      rcases B with ⟨z1, z2⟩ | ⟨k, k1, k2, z1, z2⟩
      · subst z1 z2
        exact pe0 (ip rfl hA) (ip rfl hB) rfl
      · subst z1 z2
        have hA := iq (show ¬ nI k = 0 from fun z => absurd (kI_inj (b := 0) (by omega) (by omega) z) (by omega)) hA
        have hB := iq (n4n (by omega)) hB
        by_cases c3 : v3 = 0
        · exact pe0 (ip c3 hA) (ip c3 hB) rfl
        · exact pe0 (el_c_gainOf hb hj k2 R (iq c3 hA)) (el_r_gainOf hb hj k2 R (iq c3 hB)) rfl
    · have hB := i00 (hB.2 c2)
      by_cases c3 : v3 < 0
      · exact pe0 (ip c3 hA) hB rfl
      · exact pe0 (iq (show ¬ v3 ≤ 1 by lia) (iq c3 hA)) hB rfl
  · exact pe0 (i00 (hA.2 c)) (i00 (hB.2 c)) rfl
theorem pe_waits {v1 v2 : Int32} (R : RA M N) (hA : wpX10_waits p M tl v1 v2) (hB : wpX11_waits q N u v1 v2) : PE p q := by
  unfold wpX10_waits at hA
  unfold wpX11_waits at hB
  have hA := el_c_isLot R.1 hA
  have hB := el_r_isLot (rl_lots R.1) hB
  by_cases c : lotP N v1 v2
  · have hA := el_c_matchOf R.1 (i10 (hA.1 c))
    have hB := el_r_matchOf (rl_lots R.1) (i10 (hB.1 c))
    by_cases c2 : mat N v1 v2 = -4
    · exact pe0 (ip c2 hA) (ip c2 hB) rfl
    · obtain ⟨j, hj, ej, _⟩ := mat_n (rl_lots R.1) c2
      have hA := iq c2 hA
      have hB := iq c2 hB
      obtain ⟨b, i, hb, hi, e1, e2, _⟩ := lot_n (rl_lots R.1) c
      rw [ej] at hA hB
      subst e1 e2
      rw [nI_1b hb] at hA hB
      obtain ⟨r, s, hA, hB, B⟩ := pl_best (by omega) hj R hA hB
      rcases B with ⟨z1, z2⟩ | ⟨k, k1, k2, z1, z2⟩
      · subst z1 z2
        exact pe0 (ip rfl hA) (ip rfl hB) (by decide)
      · subst z1 z2
        have hA := el_c_twinOf k2 R.1 (iq (show ¬ nI k = 0 from fun z => absurd (kI_inj (b := 0) (by omega) (by omega) z) (by omega)) hA)
        have hB := (iq (n4n (by omega)) hB).2
        obtain ⟨t1, t2, _⟩ := tw_n R.1 k2
        rw [tn_nI (by omega), t2] at hB
        rw [t2] at hA
        have hA := el_c_gainOf hb hi t1 R hA
        have hB := el_r_gainOf hb hi t1 R hB
        exact pe0 hA hB (Int32.add_comm _ _)
  · exact pe0 (i00 (hA.2 c)) (i00 (hB.2 c)) rfl
theorem pe_fire {v1 v2 v3 : Int32} (R : RA M N) (hA : wpX10_fire p M tl v1 v2 v3) (hB : wpX11_fire q N u v1 v2 v3) : PE p q := by
  unfold wpX10_fire at hA
  unfold wpX11_fire at hB
  have l := rl_lots R.1
  have hA := el_c_isLot R.1 hA
  have hB := el_r_isLot l hB
  by_cases c : lotP N v1 v2
  · have hA := i10 (hA.1 c)
    have hB := el_in 0 1 rfl rfl rfl (i10 (hB.1 c))
    by_cases c2 : 0 ≤ v3 ∧ v3 ≤ 1
    · have hA := ip c2.2 (iq (show ¬ v3 < 0 by lia) hA)
      have hB := i10 (hB.1 c2)
      obtain ⟨b, i, hb, hi, e1, e2, _⟩ := lot_n l c
      subst e1 e2
      have hA := el_c_kindN hb hi R hA
      have hB := el_r_kindN hb hi R hB
      have k6 := (kd_n R hb hi).1
      by_cases c3 : nI (kdN N b i) = 0
      · exact pe0 (ip c3 hA) (ip c3 hB) rfl
      · have hA := el_c_costOf hb k6 R.1 (iq c3 hA)
        have hB := (el_r_matchOf l (iq c3 hB)).2.2
        rw [k6_r b hb _ k6, tn_nI (by omega)] at hB
        unfold wpX10_lossOfBoth at hA
        have hA := el_c_matchOf R.1 (el_c_tasteOf hb k6 R.1 hA)
        have fin : ∀ (o s1 : Int32), o = N 86 (6 * b + kdN N b i) + s1 → (if v3 = 0 then (if o < N 85 (6 * b + kdN N b i) then p 0 M tl else p 1 M tl) else p (if o < N 85 (6 * b + kdN N b i) then o else N 85 (6 * b + kdN N b i)) M tl) → wX11_fire_108 q N u v3 (N 85 (6 * b + kdN N b i)) (N 86 (6 * b + kdN N b i)) s1 → PE p q := by
          intro o s1 e hA hB
          unfold wX11_fire_108 at hB
          rw [← e] at hB
          by_cases d1 : v3 = 0
          · have hA := ip d1 hA
            have hB := ip d1 hB
            unfold wX11_fire_127 at hB
            by_cases d2 : o < N 85 (6 * b + kdN N b i)
            · exact pe0 (ip d2 hA) ((el_flag (ip d2 hB)).1 rfl) rfl
            · exact pe0 (iq d2 hA) ((el_flag (iq d2 hB)).2 (by decide)) rfl
          · have hA := iq d1 hA
            have hB := iq d1 hB
            by_cases d2 : o < N 85 (6 * b + kdN N b i)
            · rw [if_pos d2] at hA
              exact pe0 hA (ip d2 hB) rfl
            · rw [if_neg d2] at hA
              exact pe0 hA (iq d2 hB) rfl
        by_cases c4 : mat N (nI b) (nI i) = -4
        · exact fin _ 0 (by simp) (ip c4 hA) (ip c4 hB)
        · obtain ⟨j, hj, ej, _⟩ := mat_n l c4
          have hA := iq c4 hA
          have hB := iq c4 hB
          rw [ej, nI_1b hb] at hA hB
          have j6 := (kd_n R (show 1 - b < 2 by omega) hj).1
          have hA := el_c_tasteOf (by omega) j6 R.1 (el_c_kindN (by omega) hj R hA)
          have hB := (el_r_kindN (by omega) hj R hB).2
          rw [k6_r (1 - b) (by omega) _ j6, tn_nI (by omega)] at hB
          rw [rl_2 R.1] at hA
          exact fin _ _ (by rw [Int32.add_comm (N 81 4), Int32.add_assoc]) hA hB
    · have hB := i00 (hB.2 c2)
      by_cases c3 : v3 < 0
      · exact pe0 (ip c3 hA) hB rfl
      · exact pe0 (iq (show ¬ v3 ≤ 1 by lia) (iq c3 hA)) hB rfl
  · exact pe0 (i00 (hA.2 c)) (i00 (hB.2 c)) rfl
/-- QUARREL by a BEND: what LOT i adds, and the sum from it on -/
def qt0 (N : MM) (y : Int32) (i : Nat) : Int32 := if matB N y 0 (nI i) = -4 then (if N 82 i = 0 then 0 else 1) else (if mirF N (N 82 i) = N 82 (8 + (matB N y 0 (nI i)).toNatClampNeg) then 0 else 1)
def qt1 (N : MM) (y : Int32) (i : Nat) : Int32 := if matB N y 1 (nI i) = -4 then (if N 82 (8 + i) = 0 then 0 else 1) else 0
def qsum (N : MM) (y : Int32) : Nat → Nat → Int32 → Int32
  | 0, _, c => c
  | d + 1, i, c => if N 81 2 ≤ nI i then c else qsum N y d (i + 1) (c + qt0 N y i + qt1 N y i)
theorem matB_n {y b i : Int32} (l : 0 ≤ N 81 2 ∧ N 81 2 ≤ 8) (h : matB N y b i ≠ -4) : ∃ j, j < 8 ∧ matB N y b i = nI j := by
  rcases matB_v N y b i with z | z
  · exact absurd z h
  · obtain ⟨j, hj, e⟩ := cdN 8 (by omega) z.1 (show _ < (8 : Int32) by lia)
    exact ⟨j, hj, e⟩
theorem el_c_quarrel {y : Int32} (R : RA M N) : ∀ (n d i : Nat) (c : Int32), i + d = 8 → wX10_quarrelBy_4 p n M tl y c (nI i) → p (qsum N y d i c) M tl := by
  have l := rl_lots R.1
  intro n
  induction n with
  | zero => intro d i c _ h; exact h.elim
  | succ n ih =>
    intro d i c hd h
    unfold wX10_quarrelBy_4 at h
    rw [rl_0 R.1] at h
    cases d with
    | zero =>
      have e : i = 8 := by omega
      subst e
      exact ip l.2 h
    | succ d =>
    unfold qsum
    by_cases cc : N 81 2 ≤ nI i
    · rw [if_pos cc]; exact ip cc h
    · rw [if_neg cc]
      have i8 : i < 8 := by omega
      have h := el_c_matchBy R.1 (iq cc h)
      have fin : ∀ c2 : Int32, c2 = c + qt0 N y i → wX10_quarrelBy_89 p (wX10_quarrelBy_4 p n) M tl y c2 (nI i) → p (qsum N y d (i + 1) (c + qt0 N y i + qt1 N y i)) M tl := by
        intro c2 e h
        subst e
        unfold wX10_quarrelBy_89 at h
        have h := el_c_matchBy R.1 h
        unfold qt1
        by_cases c1 : matB N y 1 (nI i) = -4
        · rw [if_pos c1]
          have h := el_c_kindN (b := 1) (by omega) i8 R (ip c1 h)
          have k := (kd_n R (b := 1) (by omega) i8).2.2
          rw [show 8 * 1 + i = 8 + i by omega] at k
          by_cases c3 : N 82 (8 + i) = 0
          · rw [if_pos c3]
            have h := ip (show nI (kdN N 1 i) = 0 by rw [k.mpr c3]; rfl) h
            unfold wX10_quarrelBy_119 at h
            rw [nI_s1] at h
            have z : c + qt0 N y i + 0 = c + qt0 N y i := by simp
            rw [z]
            exact ih d (i + 1) _ (by omega) h
          · rw [if_neg c3]
            have h := iq (show ¬ nI (kdN N 1 i) = 0 from fun z => c3 (k.mp (kI_inj (b := 0) (by have := (kd_n R (b := 1) (by omega) i8).1; omega) (by omega) z))) h
            unfold wX10_quarrelBy_119 at h
            rw [nI_s1] at h
            exact ih d (i + 1) _ (by omega) h
        · rw [if_neg c1]
          have h := iq c1 h
          unfold wX10_quarrelBy_119 at h
          rw [nI_s1] at h
          have z : c + qt0 N y i + 0 = c + qt0 N y i := by simp
          rw [z]
          exact ih d (i + 1) _ (by omega) h
      by_cases c1 : matB N y 0 (nI i) = -4
      · have h := el_c_kindN (b := 0) (by omega) i8 R (ip c1 h)
        have k := (kd_n R (b := 0) (by omega) i8).2.2
        rw [show 8 * 0 + i = i by omega] at k
        by_cases c3 : N 82 i = 0
        · have h := ip (show nI (kdN N 0 i) = 0 by rw [k.mpr c3]; rfl) h
          unfold wX10_quarrelBy_52 at h
          refine fin _ ?_ h
          unfold qt0
          rw [if_pos c1, if_pos c3]
        · have h := iq (show ¬ nI (kdN N 0 i) = 0 from fun z => c3 (k.mp (kI_inj (b := 0) (by have := (kd_n R (b := 0) (by omega) i8).1; omega) (by omega) z))) h
          unfold wX10_quarrelBy_52 at h
          refine fin _ ?_ h
          unfold qt0
          rw [if_pos c1, if_neg c3]
      · obtain ⟨j, hj, ej⟩ := matB_n l c1
        have h := iq c1 h
        rw [ej] at h
        have h := el_c_thingAt (b := 1) (by omega) hj R (el_c_thingAt (b := 0) (by omega) i8 R h)
        rw [show 8 * 0 + i = i by omega, show 8 * 1 + j = 8 + j by omega] at h
        have h := el_c_isEven R.1 (ra_tt R (by omega)) h
        by_cases c3 : mirF N (N 82 i) = N 82 (8 + j)
        · refine fin _ ?_ (iq (by decide) (h.1 c3))
          unfold qt0
          rw [if_neg c1, ej, tn_nI (by omega), if_pos c3]
          simp
        · refine fin _ ?_ (i00 (h.2 c3))
          unfold qt0
          rw [if_neg c1, ej, tn_nI (by omega), if_neg c3]
theorem el_r_quarrel {y : Int32} (R : RA M N) : ∀ (n d i : Nat) (c : Int32), i + d = 8 → wX11_quarrelOf_4 q n N u y c (nI i) → q (qsum N y d i c) N u := by
  have l := rl_lots R.1
  intro n
  induction n with
  | zero => intro d i c _ h; exact h.elim
  | succ n ih =>
    intro d i c hd h
    unfold wX11_quarrelOf_4 at h
    cases d with
    | zero =>
      have e : i = 8 := by omega
      subst e
      exact ip l.2 h
    | succ d =>
    unfold qsum
    by_cases cc : N 81 2 ≤ nI i
    · rw [if_pos cc]; exact ip cc h
    · rw [if_neg cc]
      have i8 : i < 8 := by omega
      have h := el_r_matchBy l (iq cc h)
      have fin : ∀ s1 : Int32, s1 = qt0 N y i → wX11_quarrelOf_80 q (wX11_quarrelOf_4 q n) N u y (nI i) c s1 → q (qsum N y d (i + 1) (c + qt0 N y i + qt1 N y i)) N u := by
        intro s1 e h
        subst e
        unfold wX11_quarrelOf_80 at h
        have h := el_r_matchBy l h
        unfold qt1
        have e8 : (8 : Int32) + nI i = nI (8 + i) := kI_add 8 i
        by_cases c1 : matB N y 1 (nI i) = -4
        · rw [if_pos c1]
          have h := (ip c1 h).2
          rw [e8, tn_nI (by omega)] at h
          by_cases c3 : N 82 (8 + i) = 0
          · rw [if_pos c3]
            have h := ip c3 h
            unfold wX11_quarrelOf_112 at h
            have h := (el_flag h).1 rfl
            unfold wX11_quarrelOf_119 at h
            rw [nI_s1] at h
            exact ih d (i + 1) _ (by omega) h
          · rw [if_neg c3]
            have h := iq c3 h
            unfold wX11_quarrelOf_112 at h
            have h := (el_flag h).2 (by decide)
            unfold wX11_quarrelOf_119 at h
            rw [nI_s1] at h
            exact ih d (i + 1) _ (by omega) h
        · rw [if_neg c1]
          have h := iq c1 h
          unfold wX11_quarrelOf_119 at h
          rw [nI_s1] at h
          exact ih d (i + 1) _ (by omega) h
      by_cases c1 : matB N y 0 (nI i) = -4
      · have h := (ip c1 h).2
        rw [tn_nI (by omega)] at h
        by_cases c3 : N 82 i = 0
        · have h := ip c3 h
          unfold wX11_quarrelOf_43 at h
          refine fin _ ?_ ((el_flag h).1 rfl)
          unfold qt0
          rw [if_pos c1, if_pos c3]
        · have h := iq c3 h
          unfold wX11_quarrelOf_43 at h
          refine fin _ ?_ ((el_flag h).2 (by decide))
          unfold qt0
          rw [if_pos c1, if_neg c3]
      · obtain ⟨j, hj, ej⟩ := matB_n l c1
        have h := (iq c1 h).2.2
        have e8 : (8 : Int32) + nI j = nI (8 + j) := kI_add 8 j
        rw [ej, e8, tn_nI (by omega), tn_nI (by omega)] at h
        have h := el_r_mirrorOf h
        by_cases c3 : mirF N (N 82 i) = N 82 (8 + j)
        · have h := ip c3.symm h
          unfold wX11_quarrelOf_77 at h
          refine fin _ ?_ ((el_flag h).1 rfl)
          unfold qt0
          rw [if_neg c1, ej, tn_nI (by omega), if_pos c3]
        · have h := iq (fun z => c3 z.symm) h
          unfold wX11_quarrelOf_77 at h
          refine fin _ ?_ ((el_flag h).2 (by decide))
          unfold qt0
          rw [if_neg c1, ej, tn_nI (by omega), if_neg c3]
theorem el_c_qb {y : Int32} (R : RA M N) (h : wpX10_quarrelBy p M tl y) : p (qsum N y 8 0 0) M tl := by
  unfold wpX10_quarrelBy at h
  obtain ⟨n, h⟩ := h
  exact el_c_quarrel R n 8 0 0 (by omega) h
theorem el_r_qo {y : Int32} (R : RA M N) (h : wpX11_quarrelOf q N u y) : q (qsum N y 8 0 0) N u := by
  unfold wpX11_quarrelOf at h
  obtain ⟨n, h⟩ := h
  exact el_r_quarrel R n 8 0 0 (by omega) h
theorem pe_quarrel {v : Int32} (R : RA M N) (hA : wpX10_quarrel p M tl v) (hB : wpX11_quarrel q N u v) : PE p q := by
  unfold wpX10_quarrel at hA
  unfold wpX11_quarrel at hB
  have hB := el_in 0 6 rfl rfl rfl hB
  by_cases c : 0 ≤ v ∧ v ≤ 6
  · exact pe0 (el_c_qb R (ip c.2 (iq (show ¬ v < 0 by lia) hA))) (el_r_qo R (i10 (hB.1 c))) rfl
  · have hB := i00 (hB.2 c)
    by_cases c3 : v < 0
    · exact pe0 (ip c3 hA) hB rfl
    · exact pe0 (iq (show ¬ v ≤ 6 by lia) (iq c3 hA)) hB rfl
theorem lp_bend (R : RA M N) : ∀ (n n' k : Nat) (x : Int32), k ≤ 7 → wX10_bend_10 p n M tl x (qsum N x 8 0 0) (nI k) → wX11_bend_4 q n' N u x (nI k) → PE p q := by
  intro n
  induction n with
  | zero => intro n' k x _ h; exact h.elim
  | succ n ih =>
    intro n' k x hk hA hB
    cases n' with
    | zero => exact hB.elim
    | succ n' =>
    unfold wX10_bend_10 at hA
    unfold wX11_bend_4 at hB
    by_cases c : k = 7
    · subst c
      exact pe0 (ip (by decide) hA) (ip (by decide) hB) rfl
    · have hA := el_c_qb R (iq (fun z => absurd ((kI_lt (a := 6) (by omega) (by omega)).mp z) (by omega)) hA)
      have hB := el_r_qo R (el_r_qo R (iq (fun z => absurd ((kI_le (a := 7) (by omega) (by omega)).mp z) (by omega)) hB))
      by_cases c2 : qsum N x 8 0 0 ≤ qsum N (nI k) 8 0 0
      · have hA := ip c2 hA
        have hB := ip c2 hB
        unfold wX10_bend_34 at hA
        unfold wX11_bend_28 at hB
        rw [nI_s1] at hA hB
        exact ih n' (k + 1) x (by omega) hA hB
      · have hA := iq c2 hA
        have hB := iq c2 hB
        unfold wX10_bend_34 at hA
        unfold wX11_bend_28 at hB
        rw [nI_s1] at hA hB
        exact ih n' (k + 1) _ (by omega) hA hB
theorem pe_bend (R : RA M N) (hA : wpX10_bend p M tl) (hB : wpX11_bend q N u) : PE p q := by
  unfold wpX10_bend at hA
  unfold wpX11_bend at hB
  obtain ⟨n', hB⟩ := hB
  obtain ⟨n, hA⟩ := el_c_qb R hA
  exact lp_bend R n n' 1 0 (by omega) hA hB
/-- COUNT -/
def cntE (q : Int32 → MM → Int64 → Prop) (N : MM) (u : Int64) (v1 v2 : Int32) : Prop := (if v1 = 0 then wpX11_thingMany (fun r4 M2 t3 => q r4 M2 t3) N u else (if v1 = 1 then q v2 N u else (if v1 = 2 then (vp_in 65 (al 82) ∧ q (N 82 (65 : Int32).toNatClampNeg) N u) else (if v1 = 3 then (vp_in 78 (al 82) ∧ q (N 82 (78 : Int32).toNatClampNeg) N u) else (if v1 = 4 then (vp_in 0 (al 83) ∧ wpX11_flag (fun r14 M12 t13 => (vp_in 1 (al 83) ∧ wpX11_flag (fun r18 M16 t17 => q (r14 + r18) M16 t17) M12 t13 (M12 83 (1 : Int32).toNatClampNeg))) N u (N 83 (0 : Int32).toNatClampNeg)) else (if v1 = 5 then q (N 81 31) N u else (if v1 = 6 then (vp_in 0 (al 105) ∧ (if (N 105 (0 : Int32).toNatClampNeg) = (-4) then q (-4) N u else (vp_in 0 (al 106) ∧ q (N 106 (0 : Int32).toNatClampNeg) N u))) else q (-1) N u)))))))
theorem lp_pairs {v1 : Int32} (R : RA M N) : ∀ (n' i : Nat) (c : Int32), i ≤ 8 → wX11_count_4 q n' N u v1 c (nI i) → ∃ c', cntE q N u v1 c' ∧ ∀ n, wX1_countPairs_4 p n M tl 3 c (nI i) → p c' M tl := by
  have l := rl_lots R.1
  intro n'
  induction n' with
  | zero => intro i c _ h; exact h.elim
  | succ n' ih =>
    intro i c hi hB
    unfold wX11_count_4 at hB
    by_cases cc : N 81 2 ≤ nI i
    · refine ⟨c, ip cc hB, fun n hA => ?_⟩
      cases n with
      | zero => exact hA.elim
      | succ n =>
      unfold wX1_countPairs_4 at hA
      rw [rl_0 R.1] at hA
      exact ip cc hA.2
    · have i8 : i < 8 := (kI_lt (b := 8) (by omega) (by omega)).mp (show nI i < (8 : Int32) by clear R ih; lia)
      have hB := el_r_matchOf l (iq cc hB)
      by_cases c1 : mat N 0 (nI i) = -4
      · have hB := ip c1 hB
        unfold wX11_count_29 at hB
        have hB := (el_flag hB).1 rfl
        rw [nI_s1] at hB
        obtain ⟨c', a, b⟩ := ih (i + 1) _ (by omega) hB
        refine ⟨c', a, fun n hA => ?_⟩
        cases n with
        | zero => exact hA.elim
        | succ n =>
        unfold wX1_countPairs_4 at hA
        rw [rl_0 R.1] at hA
        have hA := ip c1 (el_c_matchOf R.1 (iq cc hA.2).2)
        unfold wX1_countPairs_29 at hA
        rw [nI_s1] at hA
        exact b n hA
      · have hB := iq c1 hB
        unfold wX11_count_29 at hB
        have hB := (el_flag hB).2 (by decide)
        rw [nI_s1] at hB
        obtain ⟨c', a, b⟩ := ih (i + 1) _ (by omega) hB
        refine ⟨c', a, fun n hA => ?_⟩
        cases n with
        | zero => exact hA.elim
        | succ n =>
        unfold wX1_countPairs_4 at hA
        rw [rl_0 R.1] at hA
        have hA := iq c1 (el_c_matchOf R.1 (iq cc hA.2).2)
        unfold wX1_countPairs_29 at hA
        rw [nI_s1] at hA
        exact b n hA
theorem pe_count {v : Int32} (R : RA M N) (Z : ∀ k, k < 4 → ShK M N k) (T : M 1 1 = N 81 31) (hA : wpX10_count p M tl v) (hB : wpX11_count q N u v) : PE p q := by
  unfold wpX11_count at hB
  obtain ⟨n', hB⟩ := hB
  obtain ⟨c', hB, cp⟩ := lp_pairs (p := p) (tl := tl) R n' 0 0 (by omega) hB
  unfold cntE at hB
  unfold wpX10_count at hA
  by_cases c0 : v = 0
  · have hA := ip c0 hA
    have hB := ip c0 hB
    unfold wpX7_countThings at hA
    unfold wpX11_thingMany at hB
    obtain ⟨a, hA⟩ := hA
    obtain ⟨b, hB⟩ := hB
    obtain ⟨r, x, y⟩ := lp_count (fun s hs => (R.2.1.1 s hs).1) a b 0 0 (by omega) hA hB
    exact pe0 x y rfl
  have hA := iq c0 hA
  have hB := iq c0 hB
  by_cases c1 : v = 1
  · have hA := ip c1 hA
    unfold wpX1_countPairs at hA
    obtain ⟨a, hA⟩ := hA
    exact pe0 (cp a hA) (ip c1 hB) rfl
  have hA := iq c1 hA
  have hB := iq c1 hB
  by_cases c2 : v = 2
  · exact pe0 (ip c2 hA) (ip c2 hB).2 R.2.1.2.2.1.1
  have hA := iq c2 hA
  have hB := iq c2 hB
  by_cases c3 : v = 3
  · exact pe0 (ip c3 hA) (ip c3 hB).2 R.2.1.2.2.2.1
  have hA := iq c3 hA
  have hB := iq c3 hB
  by_cases c4 : v = 4
  · have hA := (ip c4 hA).2
    have hB := el_flag (ip c4 hB).2
    have x0 : M 55 0 = N 83 0 := (R.2.2.1 0 (by omega)).1
    have x1 : M 55 1 = N 83 1 := (R.2.2.1 1 (by omega)).1
    have t0 : (0 : Int32).toNatClampNeg = 0 := by decide
    have t1 : (1 : Int32).toNatClampNeg = 1 := by decide
    rw [t0, t1] at hB
    rw [t0, x0] at hA
    have fin : ∀ s : Int32, wX10_count_96 p M tl s → (vp_in 1 (al 83) ∧ wpX11_flag (fun r18 M16 t17 => q (s + r18) M16 t17) N u (N 83 1)) → PE p q := by
      intro s hA hB
      unfold wX10_count_96 at hA
      have hA := hA.2
      rw [t1, x1] at hA
      have hB := el_flag hB.2
      by_cases d : N 83 1 = 0
      · exact pe0 (ip d hA) (hB.1 d) rfl
      · exact pe0 (iq d hA) (hB.2 d) rfl
    by_cases d : N 83 0 = 0
    · exact fin _ (ip d hA) (hB.1 d)
    · exact fin _ (iq d hA) (hB.2 d)
  have hA := iq c4 hA
  have hB := iq c4 hB
  by_cases c5 : v = 5
  · exact pe0 (ip c5 hA) (ip c5 hB) T
  have hA := iq c5 hA
  have hB := iq c5 hB
  by_cases c6 : v = 6
  · have hA := (ip c6 hA).2.2
    have hB := (ip c6 hB).2
    have t0 : (0 : Int32).toNatClampNeg = 0 := by decide
    rw [t0] at hA hB
    rcases (Z 0 (by omega)).1 with ⟨z1, z2⟩ | ⟨z1, z2, z3, z4⟩
    · exact pe0 (iq (show ¬ 0 ≤ M (73 + 2 * 0) 0 by rw [z1]; decide) hA) (ip z2 hB) rfl
    · exact pe0 (ip z1 hA).2.2 (iq z2 hB).2 z3.symm
  · exact pe0 (iq c6 hA) (iq c6 hB) rfl
end GN
