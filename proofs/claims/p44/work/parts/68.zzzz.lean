/-! CALLS on both sides: go, images -/
section GO
variable {p q : Int32 → MM → Int64 → Prop} {tl u : Int64}
theorem lp_done {M N : MM} (e16 : M 16 3 = N 82 16) (d16 : N 82 16 ≤ 12) (hf : ∀ w, w < 12 → nI w < N 82 16 → M 45 w = N 103 w) : ∀ (n n' w : Nat) (c : Int32), w ≤ 12 → wX6_worksDone_4 p n M tl c (nI w) → wX11_go_10 q n' N u c (nI w) → ∃ r, p r M tl ∧ ∃ k, wX11_go_49 q k N u r 0 := by
  intro n
  induction n with
  | zero => intro n' w c _ h; exact h.elim
  | succ n ih =>
    intro n' w c hw hA hB
    cases n' with
    | zero => exact hB.elim
    | succ n' =>
    unfold wX6_worksDone_4 at hA
    unfold wX11_go_10 at hB
    have hB := hB.2
    rw [show (16 : Int32).toNatClampNeg = 16 from by decide] at hB
    by_cases cc : N 82 16 ≤ nI w
    · exact ⟨c, ip (show M 16 3 ≤ nI w by rw [e16]; exact cc) hA, ip cc hB⟩
    · have w12 : w < 12 := by
        rcases Nat.lt_or_ge w 12 with z | z
        · exact z
        · have e : w = 12 := by omega
          subst e
          exact absurd d16 cc
      have hA := (iq (fun z => absurd ((kI_le (a := 12) (by omega) (by omega)).mp z) (by omega)) (iq (show ¬ M 16 3 ≤ nI w by rw [e16]; exact cc) hA)).2
      have hB := (iq cc hB).2
      rw [tn_nI (by omega)] at hA hB
      rw [hf w w12 (by lia)] at hA
      by_cases c2 : N 103 w = 0
      · have hA := ip c2 hA
        have hB := ip c2 hB
        unfold wX6_worksDone_39 at hA
        unfold wX11_go_36 at hB
        have hB := (el_flag hB).2 (by decide)
        rw [nI_s1] at hA hB
        exact ih n' (w + 1) _ (by omega) hA hB
      · have hA := iq c2 hA
        have hB := iq c2 hB
        unfold wX6_worksDone_39 at hA
        unfold wX11_go_36 at hB
        have hB := (el_flag hB).1 rfl
        rw [nI_s1] at hA hB
        exact ih n' (w + 1) _ (by omega) hA hB
theorem lp_go49 {c : Int32} : ∀ (n s : Nat) (N : MM), s ≤ 16 → wX11_go_49 q n N u c (nI s) → (∀ x, x < s → N 82 x = N 98 x) → ∃ N1, q c N1 u ∧ (∀ a, a ≠ 82 → N1 a = N a) ∧ (∀ x, x < 16 → N1 82 x = N 98 x) ∧ N1 82 16 = 0 ∧ (∀ x, 17 ≤ x → N1 82 x = N 82 x) := by
  intro n
  induction n with
  | zero => intro b M _ h; exact h.elim
  | succ n ih =>
    intro b M hb h hx
    unfold wX11_go_49 at h
    by_cases cc : (16 : Int32) ≤ nI b
    · have e : b = 16 := by
        have := (kI_le (a := 16) (by omega) (by omega)).mp cc
        omega
      subst e
      replace h := (ip cc h).2 _ rfl
      rw [show (16 : Int32).toNatClampNeg = 16 from by decide] at h
      refine ⟨_, h, fun a ha => mset_ne ha, fun x hx2 => ?_, mset_at _ _ _ _, fun x hx2 => mset_nk (by omega)⟩
      rw [mset_nk (by omega)]; exact hx x hx2
    · have b2 : b < 16 := by
        rcases Nat.lt_or_ge b 16 with z | z
        · exact z
        · exact absurd ((kI_le (a := 16) (by omega) (by omega)).mpr z) cc
      have h := (iq cc h).2.2 _ rfl
      rw [nI_s1, tn_nI (by omega)] at h
      obtain ⟨M1, g1, g2, g3, g4, g5⟩ := ih (b + 1) _ (by omega) h (fun x hx2 => by
        rw [mset_ne (a := 82) (i := 98) (by decide)]
        by_cases z : x = b
        · subst z
          rw [mset_at]
        · rw [mset_nk z]; exact hx x (by omega))
      refine ⟨M1, g1, fun a h1 => by rw [g2 a h1, mset_ne h1], fun x hx2 => ?_, g4, fun x hx2 => by rw [g5 x hx2, mset_nk (by omega)]⟩
      have := g3 x hx2
      rw [mset_ne (a := 82) (i := 98) (by decide)] at this
      exact this
theorem pl_go {M N : MM} (R : RA M N) (i : Inv N) (fA : ∀ r M1 t1, p r M1 t1 → ∀ a, (a < 14 ∨ (54 ≤ a ∧ a < 72)) → M1 a = M a) (fB : ∀ r N1 u1, q r N1 u1 → ∀ a, (a = 81 ∨ (83 ≤ a ∧ a < 90)) → N1 a = N a) (hA : wpX10_go p M tl) (hB : wpX11_go q N u) : PO p q := by
  unfold wpX10_go at hA
  unfold wpX11_go at hB
  obtain ⟨M1, N1, RB1, hA, ⟨n', hB⟩⟩ := pl_run (k := 24) (by omega) (ra_rls R i) hA hB
  obtain ⟨⟨⟨R1, S1, sd⟩, g1⟩, b2, b3, b4, b5, b6, b8⟩ := RB1
  unfold wpX6_worksDone at hA
  obtain ⟨n, hA⟩ := hA
  have d16 : 0 ≤ N1 82 16 ∧ N1 82 16 ≤ 12 := sd 16
  have hf : ∀ w, w < 12 → nI w < N1 82 16 → M1 45 w = N1 103 w := fun w hw y => by
    refine b4 w hw (by rw [← g1]; exact y) ?_
    have d := sd (17 + (4 * w + 0))
    rw [Nat.mod_eq_of_lt (by omega)] at d
    unfold sdom at d
    rw [if_neg (by omega), if_neg (by omega), if_pos (by omega), if_pos (by omega)] at d
    rw [← g1]
    exact show N1 82 (17 + (4 * w + 0)) < (24 : Int32) by lia
  obtain ⟨r, hA, ⟨k, hB⟩⟩ := lp_done S1.2.1.1 d16.2 hf n n' 0 0 (by omega) hA hB
  have hA := hA.2.2 _ rfl _ rfl
  obtain ⟨N2, hB, f1, f2, f3, f4⟩ := lp_go49 k 0 N1 (by omega) hB (fun x hx => absurd hx (by omega))
  refine po1 hA hB rfl (ra_scene R (fA _ _ _ hA) (fB _ _ _ hB) (fun j hj => by rw [f4 j (by omega), g1]) ?_)
  obtain ⟨s1, ⟨s2, s3⟩, ⟨s4, s5⟩, s6, s7⟩ := S1
  rw [f1 81 (by decide)]
  have ne : ∀ a, a ≠ 15 → a ≠ 16 → (mset (mrow M1 15 (va_cpy (M1 43) (M1 15) (0 : Int32).toNatClampNeg (0 : Int32).toNatClampNeg (16 : Int32).toNatClampNeg)) 16 3 0) a = M1 a := fun a h1 h2 => by rw [mset_ne h2, mrow_ne h1]
  refine ⟨fun x hx => ?_, ⟨?_, fun w hw y => ?_⟩, ⟨?_, fun w hw y => ?_⟩, ?_, fun w hw y c hc => ?_⟩
  · rw [mset_ne (by omega), mrow_same, f2 x hx]
    have e : va_cpy (M1 43) (M1 15) (0 : Int32).toNatClampNeg (0 : Int32).toNatClampNeg (16 : Int32).toNatClampNeg x = M1 43 x := sb_cpy0 hx
    rw [e]
    exact b2 x hx
  · rw [f3]; exact mset_at _ _ _ _
  · rw [f3] at y
    have := nJ_ge0 (i := w) (by omega)
    exfalso; lia
  · rw [ne _ (by omega) (by omega), f4 65 (by omega)]; exact s4
  · rw [f4 65 (by omega)] at y
    rw [ne _ (by omega) (by omega), f4 (66 + (2 * w + 1)) (by omega)]
    exact ⟨fun c hc => by rw [f4 _ (by omega)]; exact (s5 w hw y).1 c hc, (s5 w hw y).2⟩
  · rw [ne _ (by omega) (by omega), f4 78 (by omega)]; exact s6
  · rw [f4 78 (by omega)] at y
    rw [ne _ (by omega) (by omega), f4 (79 + (4 * w + c)) (by omega)]
    exact s7 w hw y c hc
end GO
/-! images -/
theorem el_copyScene2 {p : MM → Int64 → Prop} {M : MM} {tl : Int64} {a b : Nat} (hd : a + 8 ≤ b ∨ b + 8 ≤ a) (ha : al (a + 3) = 48 ∧ al (a + 5) = 12 ∧ al (a + 7) = 48) (hb : al (b + 3) = 48 ∧ al (b + 5) = 12 ∧ al (b + 7) = 48) (h : wpX7_copyFrom p M tl a b) : ∃ M1, p M1 tl ∧ CS M b M1 a ∧ ∀ c, (c ≤ a ∨ a + 8 ≤ c) → M1 c = M c := by
  have h0 := h
  unfold wpX7_copyFrom at h
  have h := (h.2.2.2.2.2.2 _ rfl).2.2.2
  have h := (el_copyRows (L := 48) ha.1 hb.1 (by omega) h).2.2.2
  have h := (el_copyRows (L := 12) ha.2.1 hb.2.1 (by omega) h).2.2.2
  have h := el_copyRows (L := 48) ha.2.2 hb.2.2 (by omega) h
  refine ⟨_, h, ⟨?_, ⟨?_, ?_⟩, ⟨?_, ?_⟩, ?_, ?_⟩, fun c hc => ?_⟩
  · intro s hs
    rw [cpR_2 (by omega) (by omega), cpR_2 (by omega) (by omega), cpR_2 (by omega) (by omega), mrow_same]
    exact sb_cpy0 hs
  · rw [cpR_2 (by omega) (by omega), cpR_2 (by omega) (by omega), cpR_0, mrow_ne (by omega)]
  · intro j hj
    rw [cpR_2 (c := a + 3) (by omega) (by omega), cpR_2 (c := a + 3) (by omega) (by omega)]
    rw [show a + 3 = a + 2 + 1 from rfl, cpR_1 (by omega) hj, mrow_ne (by omega)]
  · rw [cpR_2 (by omega) (by omega), cpR_0, cpR_2 (by omega) (by omega), mrow_ne (by omega)]
  · intro j hj
    rw [cpR_2 (c := a + 5) (by omega) (by omega)]
    rw [show a + 5 = a + 4 + 1 from rfl, cpR_1 (by omega) hj, cpR_2 (by omega) (by omega), mrow_ne (by omega)]
  · rw [cpR_0, cpR_2 (by omega) (by omega), cpR_2 (by omega) (by omega), mrow_ne (by omega)]
  · intro j hj
    rw [show a + 7 = a + 6 + 1 from rfl, cpR_1 (by omega) hj, cpR_2 (by omega) (by omega), cpR_2 (by omega) (by omega), mrow_ne (by omega)]
  · rw [cpR_2 (by omega) (by omega), cpR_2 (by omega) (by omega), cpR_2 (by omega) (by omega), mrow_ne (by omega)]
theorem lp_copies {p : MM → Int64 → Prop} {u : Int64} {a b : Nat} {N0 : MM} (ha : a ≤ 254) (hb : b ≤ 254) (hd : a + 127 ≤ b ∨ b + 127 ≤ a) : ∀ (n s : Nat) (N : MM), s ≤ 127 → wX11_copies_2 p n N u (nI a) (nI b) (nI s) → (∀ c, c ≠ 82 → N c = N0 c) → (∀ x, N 82 x = if a ≤ x ∧ x < a + s then N0 82 (b + (x - a)) else N0 82 x) → ∃ N1, p N1 u ∧ (∀ c, c ≠ 82 → N1 c = N0 c) ∧ (∀ x, N1 82 x = if a ≤ x ∧ x < a + 127 then N0 82 (b + (x - a)) else N0 82 x) := by
  intro n
  induction n with
  | zero => intro s N _ h; exact h.elim
  | succ n ih =>
    intro s N hs h h1 h2
    unfold wX11_copies_2 at h
    by_cases cc : (127 : Int32) ≤ nI s
    · have e : s = 127 := by
        have := (kI_le (a := 127) (by omega) (by omega)).mp cc
        omega
      subst e
      exact ⟨N, ip cc h, h1, h2⟩
    · have s2 : s < 127 := by
        rcases Nat.lt_or_ge s 127 with z | z
        · exact z
        · exact absurd ((kI_le (a := 127) (by omega) (by omega)).mpr z) cc
      have h := (iq cc h).2.2 _ rfl
      rw [nI_s1, kI_add, kI_add, tn_nI (by omega), tn_nI (by omega)] at h
      refine ih (s + 1) _ (by omega) h (fun c hc => by rw [mset_ne hc]; exact h1 c hc) (fun x => ?_)
      rw [m82, h2 x, h2 (b + s)]
      by_cases z : x = a + s
      · subst z
        rw [if_pos rfl, if_neg (by omega), if_pos (by omega), show a + s - a = s by omega]
      · rw [if_neg z]
        by_cases y : a ≤ x ∧ x < a + s
        · rw [if_pos y, if_pos (by omega)]
        · rw [if_neg y, if_neg (by omega)]
theorem el_copies {p : MM → Int64 → Prop} {u : Int64} {a b : Nat} {N : MM} (ha : a ≤ 254) (hb : b ≤ 254) (hd : a + 127 ≤ b ∨ b + 127 ≤ a) (h : wpX11_copies p N u (nI a) (nI b)) : ∃ N1, p N1 u ∧ (∀ c, c ≠ 82 → N1 c = N c) ∧ (∀ x, N1 82 x = if a ≤ x ∧ x < a + 127 then N 82 (b + (x - a)) else N 82 x) := by
  unfold wpX11_copies at h
  obtain ⟨n, h⟩ := h
  exact lp_copies ha hb hd n 0 N (by omega) h (fun _ _ => rfl) (fun x => by rw [if_neg (by omega)])
section IM
variable {p q : Int32 → MM → Int64 → Prop} {M N : MM} {tl u : Int64}
theorem i127 : ∀ k, k < 2 → (127 : Int32) * (nI k + 1) = nI (127 * (k + 1)) := by decide +kernel
theorem im_al : ∀ k, k < 2 → al (56 + 8 * k + 3) = 48 ∧ al (56 + 8 * k + 5) = 12 ∧ al (56 + 8 * k + 7) = 48 := by decide
theorem lc56 {a : Nat} (ha : a ∈ lawC) (k : Nat) : a ≤ 56 + 8 * k := by
  have h : ∀ a ∈ lawC, a ≤ 56 := by decide
  have := h a ha
  omega
theorem pl_keep {v : Int32} (R : RA M N) (hA : wpX10_keep p M tl v) (hB : wpX11_keep q N u v) : PO p q := by
  unfold wpX10_keep at hA
  unfold wpX11_keep at hB
  have hB := el_in 0 1 rfl rfl rfl hB
  by_cases c : 0 ≤ v ∧ v < 2
  · obtain ⟨k, hk, ek⟩ := cdN (v := v) 2 (by omega) c.1 c.2
    have hA := (ip c.2 (iq (show ¬ v < 0 by lia) hA)).2
    have hB := (i10 (hB.1 (by lia))).2
    subst ek
    rw [tn_nI (by omega)] at hA hB
    have x := R.2.2.1 k hk
    rw [x.1] at hA
    have hB := el_flag hB
    have key : ∀ s : Int32, wX10_keep_25 p M tl (nI k) s → (vp_in (nI k) (al 83) ∧ (∀ M9 : MM, M9 = mset N 83 k (vp_nar .boolean 1) → wpX11_copies (fun M10 t11 => q s M10 t11) M9 u ((127 : Int32) * (nI k + 1)) 0)) → PO p q := by
      intro s hA hB
      unfold wX10_keep_25 at hA
      rw [tn_nI (by omega)] at hA
      obtain ⟨M1, hA, cs, fr⟩ := el_copyScene2 (by omega) (im_al k hk) (by decide) hA.2.2
      have hA := hA.2 _ rfl
      have hB := hB.2 _ rfl
      rw [i127 k hk] at hB
      obtain ⟨N1, hB, g1, g2⟩ := el_copies (b := 0) (by omega) (by omega) (by omega) hB
      have eC : ∀ a, a ≠ 55 → (a ≤ 56 + 8 * k ∨ 56 + 8 * k + 8 ≤ a) → mset M1 55 k (vp_nar .boolean 1) a = M a := fun a h1 h2 => by rw [mset_ne h1, fr a h2]
      have eD : ∀ a, a ≠ 55 → mset M1 55 k (vp_nar .boolean 1) a = M1 a := fun a h1 => mset_ne h1
      have eN : ∀ a, a ≠ 82 → a ≠ 83 → N1 a = N a := fun a h1 h2 => by rw [g1 a h1, mset_ne h2]
      have n82 : ∀ x, N1 82 x = if 127 * (k + 1) ≤ x ∧ x < 127 * (k + 1) + 127 then N 82 (x - 127 * (k + 1)) else N 82 x := fun x => by
        rw [g2 x, mset_ne (by decide), Nat.zero_add]
      refine po1 hA hB rfl ⟨rl_eq R.1 (fun a ha => eC a (by intro z; subst z; exact absurd ha (by decide)) (Or.inl (lc56 ha k))) (fun a ha => eN a (by intro z; subst z; exact absurd ha (by decide)) (by intro z; subst z; exact absurd ha (by decide))) (fun j _ => by rw [eN 81 (by decide) (by decide)]), ?_, fun j hj => ?_, by rw [eC 0 (by omega) (by omega), eN 81 (by decide) (by decide)]; exact R.2.2.2⟩
      · rw [eN 81 (by decide) (by decide)]
        refine rsg_g (rsg_m R.2.1 (eC _ (by omega) (by omega)) (by rw [eC _ (by omega) (by omega)]) (eC _ (by omega) (by omega)) (by rw [eC _ (by omega) (by omega)]) (eC _ (by omega) (by omega)) (by rw [eC _ (by omega) (by omega)]) (eC _ (by omega) (by omega))) (fun j hj => ?_)
        rw [n82 j, if_neg (by omega)]
      · rw [g1 83 (by decide), eN 81 (by decide) (by decide), mset_if, mset_if]
        by_cases z : j = k
        · subst z
          rw [if_pos ⟨rfl, rfl⟩, if_pos ⟨rfl, rfl⟩]
          refine ⟨rfl, fun _ => ?_⟩
          have s1 := rsg_cs R.2.1 cs
          refine rsg_g (rsg_m s1 (eD _ (by omega)) (by rw [eD _ (by omega)]) (eD _ (by omega)) (by rw [eD _ (by omega)]) (eD _ (by omega)) (by rw [eD _ (by omega)]) (eD _ (by omega))) (fun x hx => ?_)
          rw [n82, if_pos (by omega), Nat.add_sub_cancel_left]
        · rw [if_neg (fun y => z y.2), if_neg (fun y => z y.2), fr 55 (by omega)]
          have y := R.2.2.1 j hj
          refine ⟨y.1, fun h => ?_⟩
          refine rsg_g (rsg_m (y.2 h) (eC _ (by omega) (by omega)) (by rw [eC _ (by omega) (by omega)]) (eC _ (by omega) (by omega)) (by rw [eC _ (by omega) (by omega)]) (eC _ (by omega) (by omega)) (by rw [eC _ (by omega) (by omega)]) (eC _ (by omega) (by omega))) (fun x hx => ?_)
          rw [n82, if_neg (by omega)]
    by_cases c0 : N 83 k = 0
    · exact key 0 (ip c0 hA) (hB.1 c0)
    · exact key 1 (iq c0 hA) (hB.2 c0)
  · have hB := i00 (hB.2 (by lia))
    by_cases c4 : v < 0
    · exact po0 R (ip c4 hA) hB rfl
    · exact po0 R (iq (show ¬ v < 2 by lia) (iq c4 hA)) hB rfl
/-- THINGS that there are, counted -/
theorem lp_count (e : ∀ s, s < 16 → M 15 s = N 82 s) : ∀ (n n' s : Nat) (c : Int32), s ≤ 16 → wX7_countThings_4 p n M tl 14 c (nI s) → wX11_thingMany_4 q n' N u c (nI s) → ∃ r, p r M tl ∧ q r N u := by
  intro n
  induction n with
  | zero => intro n' w c _ h; exact h.elim
  | succ n ih =>
    intro n' s c hs hA hB
    cases n' with
    | zero => exact hB.elim
    | succ n' =>
    unfold wX7_countThings_4 at hA
    unfold wX11_thingMany_4 at hB
    by_cases cc : (16 : Int32) ≤ nI s
    · exact ⟨c, ip cc hA, ip cc hB⟩
    · have s2 : s < 16 := by
        rcases Nat.lt_or_ge s 16 with z | z
        · exact z
        · exact absurd ((kI_le (a := 16) (by omega) (by omega)).mpr z) cc
      have hA := (iq cc hA).2.2.2
      have hB := (iq cc hB).2
      rw [tn_nI (by omega)] at hA hB
      rw [show 14 + 1 = 15 from rfl, e s s2] at hA
      by_cases c2 : N 82 s = 0
      · have hA := ip c2 hA
        have hB := ip c2 hB
        unfold wX7_countThings_25 at hA
        unfold wX11_thingMany_25 at hB
        have hB := (el_flag hB).1 rfl
        rw [nI_s1] at hA hB
        exact ih n' (s + 1) _ (by omega) hA hB
      · have hA := iq c2 hA
        have hB := iq c2 hB
        unfold wX7_countThings_25 at hA
        unfold wX11_thingMany_25 at hB
        have hB := (el_flag hB).2 (by decide)
        rw [nI_s1] at hA hB
        exact ih n' (s + 1) _ (by omega) hA hB
theorem pl_back {v : Int32} (R : RA M N) (hA : wpX10_back p M tl v) (hB : wpX11_back q N u v) : PO p q := by
  unfold wpX10_back at hA
  unfold wpX11_back at hB
  have hB := el_in 0 1 rfl rfl rfl hB
  by_cases c : 0 ≤ v ∧ v < 2
  · obtain ⟨k, hk, ek⟩ := cdN (v := v) 2 (by omega) c.1 c.2
    have hA := (ip c.2 (iq (show ¬ v < 0 by lia) hA)).2
    have hB := (i10 (hB.1 (by lia))).2
    subst ek
    rw [tn_nI (by omega)] at hA hB
    have x := R.2.2.1 k hk
    rw [x.1] at hA
    by_cases c0 : N 83 k = 0
    · exact po0 R (ip c0 hA) (ip c0 hB) rfl
    · obtain ⟨M1, hA, cs, fr⟩ := el_copyScene2 (by omega) (by decide) (im_al k hk) (iq c0 hA).2
      have hB := iq c0 hB
      rw [i127 k hk] at hB
      obtain ⟨N1, hB, g1, g2⟩ := el_copies (a := 0) (by omega) (by omega) (by omega) hB
      have S := rsg_cs (x.2 (by rw [x.1]; exact c0)) cs
      have n82 : ∀ y, y < 127 → N1 82 y = N 82 (127 * (k + 1) + y) := fun y hy => by
        rw [g2 y, if_pos (by omega), Nat.sub_zero]
      have S : RSg M1 14 (N1 82) (N1 81 2) := by
        rw [g1 81 (by decide)]
        exact rsg_g S (fun y hy => n82 y hy)
      have RA1 : RA M1 N1 := ra_scene R (fun a ha => fr a (by omega)) (fun a ha => g1 a (by omega)) (fun j hj => by rw [g2 j, if_neg (by omega)]) S
      unfold wpX7_countThings at hA
      unfold wpX11_thingMany at hB
      obtain ⟨n, hA⟩ := hA
      obtain ⟨n', hB⟩ := hB
      obtain ⟨r, a, b⟩ := lp_count (fun s hs => (S.1 s hs).1) n n' 0 0 (by omega) hA hB
      exact po1 a b rfl RA1
  · have hB := i00 (hB.2 (by lia))
    by_cases c4 : v < 0
    · exact po0 R (ip c4 hA) hB rfl
    · exact po0 R (iq (show ¬ v < 2 by lia) (iq c4 hA)) hB rfl
end IM
