theorem by_lt {T : Nat → Int32} {n p : Int32} (h : bya T n p ≠ -1) : p < n := by
  by_cases q : p < n
  · exact q
  · exact absurd (by unfold bya; rw [if_neg q]) h
/-- a token lies within the tape -/
theorem lx_st {T : Nat → Int32} {n p st nx ty vl fa pl : Int32} (h0 : 0 ≤ p) (hp : p ≤ n) (l : Lx T n p st nx ty vl fa pl) : st ≤ n := by
  obtain ⟨⟨k1, k2, k3⟩, b, _⟩ := l
  by_cases q : st ≤ n
  · exact q
  · have := k2 n hp (by clear k2; lia)
    unfold bya at this
    rw [if_neg (by clear k2; lia)] at this
    exact absurd this (by decide)
theorem lx_nx {T : Nat → Int32} {n p st nx ty vl fa pl : Int32} (h0 : 0 ≤ p) (q : fa = 0) (l : Lx T n p st nx ty vl fa pl) : ty ≠ 0 → st < nx ∧ st < n := by
  intro t0
  obtain ⟨_, b, z⟩ := l
  rcases z with ⟨_, t, n4, bn, c0, c1, c2, c3⟩ | z
  · have tt := t
    unfold TY at tt
    have sn : st < n := by_lt (by intro w; rw [w] at tt; clear c1 c2; lia)
    refine ⟨?_, sn⟩
    rcases (by clear c1 c2; lia : ty = 1 ∨ ty = 2 ∨ ty = 3) with z | z | z
    · have r := c1 z
      by_cases w : st = nx
      · rw [z] at tt
        have := r.2.2
        rw [← w] at this
        clear c1 c2 r; lia
      · have := r.1
        clear c1 c2 r; lia
    · have r := (c2 z).1
      by_cases w : st = nx
      · rw [z] at tt
        have := r.2.2
        rw [← w] at this
        clear c1 c2 r; lia
      · have := r.1
        clear c1 c2 r; lia
    · have := c3 z
      clear c1 c2; lia
  · rw [z.1] at q; exact absurd q (by decide)
theorem lx_le {T : Nat → Int32} {n p st nx ty vl fa pl : Int32} (h0 : 0 ≤ p) (hp : p ≤ n) (q : fa = 0) (l : Lx T n p st nx ty vl fa pl) : nx ≤ n := by
  have s := lx_st h0 hp l
  have nn := lx_nx h0 q l
  obtain ⟨_, b, z⟩ := l
  rcases z with ⟨_, t, n4, bn, c0, c1, c2, c3⟩ | z
  · by_cases t0 : ty = 0
    · rw [c0 t0]; exact s
    · have w := nn t0
      have inr : ∀ lo hi : Int32, 0 ≤ lo → Rn T n lo hi st nx → nx ≤ n := by
        intro lo hi hlo r
        have y := r.2.1 (nx - 1) (by clear c1 c2 r nn; lia) (by clear c1 c2 r nn; lia)
        have := by_lt (T := T) (n := n) (p := nx - 1) (by intro e; rw [e] at y; clear c1 c2 r nn; lia)
        clear c1 c2 r nn y; lia
      unfold TY at t
      rcases (by clear c1 c2; lia : ty = 1 ∨ ty = 2 ∨ ty = 3) with z | z | z
      · exact inr 97 122 (by decide) (c1 z)
      · exact inr 48 57 (by decide) (c2 z).1
      · have := c3 z
        clear c1 c2; lia
  · rw [z.1] at q; exact absurd q (by decide)
/-! the class's reader goes on: (22, 6) never falls (printed by wip/gen/mono.py) -/
theorem sm_X4_takeToken {post : MM → Int64 → Prop} {M : MM} {tl : Int64} (hI : Inv M) (hp : ∀ (M1 : MM) (t1 : Int64), Inv M1 → Fr [] [(22, 2), (22, 3), (22, 6), (22, 7), (22, 8), (22, 9)] M M1 → (M 22 2 = 0 ∨ M1 22 2 ≠ 0) ∧ (M1 22 2 ≠ 0 ∨ M 22 6 ≤ M1 22 6) ∧ (M1 22 2 ≠ 0 ∨ M 1 1 < M 22 6 ∨ M1 22 6 ≤ M 1 1) → post M1 t1) : wpX4_takeToken post M tl := by
  by_cases hf : M 22 2 = 0
  · refine lx_takeToken hI hf (fun M1 i1 f1 l1 => hp M1 tl i1 f1 ⟨Or.inl hf, ?_, ?_⟩)
    · by_cases q : M1 22 2 = 0
      · refine Or.inr ?_
        have b := l1.2.1
        rcases l1.2.2 with z | z
        · have := z.2.2.2.1
          clear l1 z; lia
        · rw [z.1] at q; exact absurd q (by decide)
      · exact Or.inl q
    · by_cases q : M1 22 2 = 0
      · by_cases p : M 1 1 < M 22 6
        · exact Or.inr (Or.inl p)
        · exact Or.inr (Or.inr (lx_le (iv_22_6 hI).1 (by clear l1; lia) q l1))
      · exact Or.inl q
  · exact tok_f hf (hp M tl hI fr_rfl ⟨Or.inr hf, Or.inl hf, Or.inl hf⟩)
set_option maxHeartbeats 4000000 in
theorem sm_X4_fail {post : Int32 → MM → Int64 → Prop} {M : MM} {tl : Int64} {v1 : Int32} {v2 : Int32} (hI : Inv M) (hp1 : v1 ≠ 0) (hp : ∀ (r : Int32) (M1 : MM) (t1 : Int64), Inv M1 → Fr [] [(22, 2), (22, 3)] M M1 → (r = -1 ∧ M1 22 2 ≠ 0) → post r M1 t1) : wpX4_fail post M tl v1 v2 := by
  unfold wpX4_fail
  intro W1 hW2
  have hI3 : Inv W1 := by rw [hW2]; exact inv_set hI (i_any _)
  have hF4 : Fr [] [(22, 2), (22, 3)] M W1 := by rw [hW2]; exact fr_fld fr_rfl (by decide)
  have hv5 : W1 22 2 = v1 := by rw [hW2]; exact mset_at _ _ _ _
  intro W6 hW7
  have hI8 : Inv W6 := by rw [hW7]; exact inv_set hI3 (i_any _)
  have hF9 : Fr [] [(22, 2), (22, 3)] M W6 := by rw [hW7]; exact fr_fld hF4 (by decide)
  have hv10 : W6 22 3 = v2 := by rw [hW7]; exact mset_at _ _ _ _
  have hx11 : W6 22 2 = W1 22 2 := by rw [hW7, mset_nk (by decide)]
  have hx12 : W6 22 2 = W1 22 2 := by rw [hW7, mset_nk (by decide)]
  have hx13 : W6 22 6 = W1 22 6 := by rw [hW7, mset_nk (by decide)]
  have hx14 : W1 22 6 = M 22 6 := by rw [hW2, mset_nk (by decide)]
  have hx15 : W6 22 6 = W1 22 6 := by rw [hW7, mset_nk (by decide)]
  have hr16 := iv_22_6 hI3
  have hx17 : W1 22 6 = M 22 6 := by rw [hW2, mset_nk (by decide)]
  have hr18 := iv_22_6 hI
  have hr19 := iv_22_6 hI8
  have hx20 : W6 1 1 = W1 1 1 := by rw [hW7, mset_ne (by decide)]
  have hx21 : W1 1 1 = M 1 1 := by rw [hW2, mset_ne (by decide)]
  have hx22 : W6 1 1 = W1 1 1 := by rw [hW7, mset_ne (by decide)]
  have hr23 := iv_1_1 hI3
  have hx24 : W1 1 1 = M 1 1 := by rw [hW2, mset_ne (by decide)]
  have hr25 := iv_1_1 hI
  have hr26 := iv_1_1 hI8
  exact hp _ _ _ hI8 hF9 (by lia)
set_option maxHeartbeats 4000000 in
theorem sm_X4_tellOnce {post : MM → Int64 → Prop} {M : MM} {tl : Int64} {v1 : Int32} (hI : Inv M) (hp : ∀ (M1 : MM) (t1 : Int64), Inv M1 → Fr [] [(22, 2), (22, 3)] M M1 → (M 22 2 = 0 ∨ M1 22 2 ≠ 0) ∧ (M1 22 2 ≠ 0 ∨ M 22 6 ≤ M1 22 6) ∧ (M1 22 2 ≠ 0 ∨ M 1 1 < M 22 6 ∨ M1 22 6 ≤ M 1 1) → post M1 t1) : wpX4_tellOnce post M tl v1 := by
  unfold wpX4_tellOnce
  refine ifs (fun hc1 => ?_) (fun hc2 => ?_)
  · skip
    refine ifs (fun hc3 => ?_) (fun hc4 => ?_)
    · skip
      unfold wX4_tellOnce_31
      have hr5 := iv_22_6 hI
      have hr6 := iv_1_1 hI
      exact hp _ _ hI fr_rfl (by lia)
    · skip
      refine sm_X4_fail hI (by lia) (fun r7 M8 t9 hI10 hF11 hq12 => ?_)
      have hF13 : Fr [] [(22, 2), (22, 3)] M M8 := fr_call fr_rfl hF11 (by decide) (by decide)
      unfold wX4_tellOnce_31
      have hx14 : M8 22 6 = M 22 6 := hF11 22 6 (by decide) (by decide)
      have hx15 : M8 22 6 = M 22 6 := hF11 22 6 (by decide) (by decide)
      have hr16 := iv_22_6 hI
      have hr17 := iv_22_6 hI10
      have hx18 : M8 1 1 = M 1 1 := hF11 1 1 (by decide) (by decide)
      have hx19 : M8 1 1 = M 1 1 := hF11 1 1 (by decide) (by decide)
      have hr20 := iv_1_1 hI
      have hr21 := iv_1_1 hI10
      exact hp _ _ hI10 hF13 (by lia)
  · skip
    have hr22 := iv_22_6 hI
    have hr23 := iv_1_1 hI
    exact hp _ _ hI fr_rfl (by lia)
set_option maxHeartbeats 4000000 in
theorem sm_X4_takeNumber {post : Int32 → MM → Int64 → Prop} {M : MM} {tl : Int64} {v1 : Int32} {v2 : Int32} (hI : Inv M) (hp : ∀ (r : Int32) (M1 : MM) (t1 : Int64), Inv M1 → Fr [] [(22, 2), (22, 3), (22, 6), (22, 7), (22, 8), (22, 9)] M M1 → (M 22 2 = 0 ∨ M1 22 2 ≠ 0) ∧ ((r = -1 ∧ M1 22 2 ≠ 0) ∨ (v1 ≤ r ∧ r ≤ v2 ∧ M1 22 2 = 0)) ∧ (M1 22 2 ≠ 0 ∨ M 22 6 ≤ M1 22 6) ∧ (M1 22 2 ≠ 0 ∨ M 1 1 < M 22 6 ∨ M1 22 6 ≤ M 1 1) → post r M1 t1) : wpX4_takeNumber post M tl v1 v2 := by
  unfold wpX4_takeNumber
  refine sm_X4_takeToken hI  (fun M2 t3 hI4 hF5 hq6 => ?_)
  have hF7 : Fr [] [(22, 2), (22, 3), (22, 6), (22, 7), (22, 8), (22, 9)] M M2 := fr_call fr_rfl hF5 (by decide) (by decide)
  refine ifs (fun hc8 => ?_) (fun hc9 => ?_)
  · skip
    refine ifs (fun hc10 => ?_) (fun hc11 => ?_)
    · skip
      refine ifs (fun hc12 => ?_) (fun hc13 => ?_)
      · skip
        unfold wX4_takeNumber_47
        refine sm_X4_fail hI4 (by lia) (fun r14 M15 t16 hI17 hF18 hq19 => ?_)
        have hF20 : Fr [] [(22, 2), (22, 3), (22, 6), (22, 7), (22, 8), (22, 9)] M M15 := fr_call hF7 hF18 (by decide) (by decide)
        have hx21 : M15 22 6 = M2 22 6 := hF18 22 6 (by decide) (by decide)
        have hx22 : M15 22 6 = M2 22 6 := hF18 22 6 (by decide) (by decide)
        have hr23 := iv_22_6 hI4
        have hr24 := iv_22_6 hI17
        have hx25 : M15 1 1 = M2 1 1 := hF18 1 1 (by decide) (by decide)
        have hx26 : M2 1 1 = M 1 1 := hF5 1 1 (by decide) (by decide)
        have hx27 : M15 1 1 = M2 1 1 := hF18 1 1 (by decide) (by decide)
        have hr28 := iv_1_1 hI4
        have hx29 : M2 1 1 = M 1 1 := hF5 1 1 (by decide) (by decide)
        have hr30 := iv_1_1 hI
        have hr31 := iv_1_1 hI17
        exact hp _ _ _ hI17 hF20 (by lia)
      · skip
        refine ifs (fun hc32 => ?_) (fun hc33 => ?_)
        · skip
          have hr34 := iv_22_6 hI4
          have hx35 : M2 1 1 = M 1 1 := hF5 1 1 (by decide) (by decide)
          have hx36 : M2 1 1 = M 1 1 := hF5 1 1 (by decide) (by decide)
          have hr37 := iv_1_1 hI
          have hr38 := iv_1_1 hI4
          exact hp _ _ _ hI4 hF7 (by lia)
        · skip
          unfold wX4_takeNumber_47
          refine sm_X4_fail hI4 (by lia) (fun r39 M40 t41 hI42 hF43 hq44 => ?_)
          have hF45 : Fr [] [(22, 2), (22, 3), (22, 6), (22, 7), (22, 8), (22, 9)] M M40 := fr_call hF7 hF43 (by decide) (by decide)
          have hx46 : M40 22 6 = M2 22 6 := hF43 22 6 (by decide) (by decide)
          have hx47 : M40 22 6 = M2 22 6 := hF43 22 6 (by decide) (by decide)
          have hr48 := iv_22_6 hI4
          have hr49 := iv_22_6 hI42
          have hx50 : M40 1 1 = M2 1 1 := hF43 1 1 (by decide) (by decide)
          have hx51 : M2 1 1 = M 1 1 := hF5 1 1 (by decide) (by decide)
          have hx52 : M40 1 1 = M2 1 1 := hF43 1 1 (by decide) (by decide)
          have hr53 := iv_1_1 hI4
          have hx54 : M2 1 1 = M 1 1 := hF5 1 1 (by decide) (by decide)
          have hr55 := iv_1_1 hI
          have hr56 := iv_1_1 hI42
          exact hp _ _ _ hI42 hF45 (by lia)
    · skip
      refine sm_X4_fail hI4 (by lia) (fun r57 M58 t59 hI60 hF61 hq62 => ?_)
      have hF63 : Fr [] [(22, 2), (22, 3), (22, 6), (22, 7), (22, 8), (22, 9)] M M58 := fr_call hF7 hF61 (by decide) (by decide)
      have hx64 : M58 22 6 = M2 22 6 := hF61 22 6 (by decide) (by decide)
      have hx65 : M58 22 6 = M2 22 6 := hF61 22 6 (by decide) (by decide)
      have hr66 := iv_22_6 hI4
      have hr67 := iv_22_6 hI60
      have hx68 : M58 1 1 = M2 1 1 := hF61 1 1 (by decide) (by decide)
      have hx69 : M2 1 1 = M 1 1 := hF5 1 1 (by decide) (by decide)
      have hx70 : M58 1 1 = M2 1 1 := hF61 1 1 (by decide) (by decide)
      have hr71 := iv_1_1 hI4
      have hx72 : M2 1 1 = M 1 1 := hF5 1 1 (by decide) (by decide)
      have hr73 := iv_1_1 hI
      have hr74 := iv_1_1 hI60
      exact hp _ _ _ hI60 hF63 (by lia)
  · skip
    have hr75 := iv_22_6 hI4
    have hx76 : M2 1 1 = M 1 1 := hF5 1 1 (by decide) (by decide)
    have hx77 : M2 1 1 = M 1 1 := hF5 1 1 (by decide) (by decide)
    have hr78 := iv_1_1 hI
    have hr79 := iv_1_1 hI4
    exact hp _ _ _ hI4 hF7 (by lia)
set_option maxHeartbeats 4000000 in
theorem sn_X4_readPrices_2 {post : MM → Int64 → Prop} {Mb : MM} (hp : ∀ (M1 : MM) (t1 : Int64), Inv M1 → Fr [24] [(22, 2), (22, 3), (22, 6), (22, 7), (22, 8), (22, 9)] Mb M1 → (Mb 22 2 = 0 ∨ M1 22 2 ≠ 0) ∧ (M1 22 2 ≠ 0 ∨ Mb 22 6 ≤ M1 22 6) ∧ (M1 22 2 ≠ 0 ∨ Mb 1 1 < Mb 22 6 ∨ M1 22 6 ≤ Mb 1 1) → post M1 t1) : ∀ v1 : Int32, 0 ≤ v1 → v1 ≤ 4 → ∃ n, ∀ (M : MM) (tl : Int64), Inv M → Fr [24] [(22, 2), (22, 3), (22, 6), (22, 7), (22, 8), (22, 9)] Mb M → ((Mb 22 2 = 0 ∨ M 22 2 ≠ 0) ∧ (M 22 2 ≠ 0 ∨ Mb 22 6 ≤ M 22 6) ∧ (M 22 2 ≠ 0 ∨ Mb 1 1 < Mb 22 6 ∨ M 22 6 ≤ Mb 1 1) ∧ M 1 1 = Mb 1 1) → wX4_readPrices_2 post n M tl v1 := by
  refine up_ex (P := fun d v1 => ∀ (M : MM) (tl : Int64), Inv M → Fr [24] [(22, 2), (22, 3), (22, 6), (22, 7), (22, 8), (22, 9)] Mb M → ((Mb 22 2 = 0 ∨ M 22 2 ≠ 0) ∧ (M 22 2 ≠ 0 ∨ Mb 22 6 ≤ M 22 6) ∧ (M 22 2 ≠ 0 ∨ Mb 1 1 < Mb 22 6 ∨ M 22 6 ≤ Mb 1 1) ∧ M 1 1 = Mb 1 1) → wX4_readPrices_2 post d M tl v1) 0 4 ?_
  intro d v1 hlo hhi rec M tl  hI hF hli
  unfold wX4_readPrices_2
  refine ifs (fun hc1 => ?_) (fun hc2 => ?_)
  · skip
    have hr3 := iv_22_6 hI
    have hr4 := iv_1_1 hI
    exact hp _ _ hI hF (by lia)
  · skip
    refine ifs (fun hc5 => ?_) (fun hc6 => ?_)
    · skip
      refine sm_X4_takeNumber hI  (fun r7 M8 t9 hI10 hF11 hq12 => ?_)
      have hF13 : Fr [24] [(22, 2), (22, 3), (22, 6), (22, 7), (22, 8), (22, 9)] Mb M8 := fr_call hF hF11 (by decide) (by decide)
      refine And.intro (vpI (c := 4) (by decide) (by lia) (by lia)) ?_
      intro W14 hW15
      have hI16 : Inv W14 := by rw [hW15]; exact inv_set hI10 (i_any _)
      have hF17 : Fr [24] [(22, 2), (22, 3), (22, 6), (22, 7), (22, 8), (22, 9)] Mb W14 := by rw [hW15]; exact fr_arr hF13 (by decide)
      have hx18 : W14 1 1 = M8 1 1 := by rw [hW15, mset_ne (by decide)]
      have hx19 : M8 1 1 = M 1 1 := hF11 1 1 (by decide) (by decide)
      have hx20 : W14 22 2 = M8 22 2 := by rw [hW15, mset_ne (by decide)]
      have hx21 : W14 22 6 = M8 22 6 := by rw [hW15, mset_ne (by decide)]
      have hx22 : W14 81 32 = M8 81 32 := by rw [hW15, mset_ne (by decide)]
      have hx23 : M8 81 32 = M 81 32 := hF11 81 32 (by decide) (by decide)
      have hx24 : W14 81 34 = M8 81 34 := by rw [hW15, mset_ne (by decide)]
      have hx25 : M8 81 34 = M 81 34 := hF11 81 34 (by decide) (by decide)
      have hx26 : W14 81 36 = M8 81 36 := by rw [hW15, mset_ne (by decide)]
      have hx27 : M8 81 36 = M 81 36 := hF11 81 36 (by decide) (by decide)
      have hx28 : W14 22 2 = M8 22 2 := by rw [hW15, mset_ne (by decide)]
      have hx29 : W14 1 1 = M8 1 1 := by rw [hW15, mset_ne (by decide)]
      have hr30 := iv_1_1 hI10
      have hx31 : M8 1 1 = M 1 1 := hF11 1 1 (by decide) (by decide)
      have hr32 := iv_1_1 hI
      have hr33 := iv_1_1 hI16
      have hx34 : W14 22 6 = M8 22 6 := by rw [hW15, mset_ne (by decide)]
      have hr35 := iv_22_6 hI10
      have hr36 := iv_22_6 hI16
      exact rec (by lia) _ _  hI16 hF17 (by lia)
    · skip
      have hr37 := iv_22_6 hI
      have hr38 := iv_1_1 hI
      exact hp _ _ hI hF (by lia)
set_option maxHeartbeats 4000000 in
theorem sm_X4_readPrices {post : MM → Int64 → Prop} {M : MM} {tl : Int64} (hI : Inv M) (hp : ∀ (M1 : MM) (t1 : Int64), Inv M1 → Fr [24] [(22, 2), (22, 3), (22, 6), (22, 7), (22, 8), (22, 9)] M M1 → (M 22 2 = 0 ∨ M1 22 2 ≠ 0) ∧ (M1 22 2 ≠ 0 ∨ M 22 6 ≤ M1 22 6) ∧ (M1 22 2 ≠ 0 ∨ M 1 1 < M 22 6 ∨ M1 22 6 ≤ M 1 1) → post M1 t1) : wpX4_readPrices post M tl  := by
  unfold wpX4_readPrices
  have hr1 := iv_1_1 hI
  have hr2 := iv_22_6 hI
  obtain ⟨n3, hn4⟩ := sn_X4_readPrices_2 (Mb := M) hp  (0 : Int32) (by lia) (by lia)
  exact ⟨n3, hn4 _ _  hI fr_rfl (by lia)⟩
set_option maxHeartbeats 4000000 in
theorem sm_X4_takeBank {post : Int32 → MM → Int64 → Prop} {M : MM} {tl : Int64} (hI : Inv M) (hp : ∀ (r : Int32) (M1 : MM) (t1 : Int64), Inv M1 → Fr [] [(22, 2), (22, 3), (22, 6), (22, 7), (22, 8), (22, 9)] M M1 → (M 22 2 = 0 ∨ M1 22 2 ≠ 0) ∧ ((r = -1 ∧ M1 22 2 ≠ 0) ∨ (0 ≤ r ∧ r ≤ 1 ∧ M1 22 2 = 0)) ∧ (M1 22 2 ≠ 0 ∨ M 22 6 ≤ M1 22 6) ∧ (M1 22 2 ≠ 0 ∨ M 1 1 < M 22 6 ∨ M1 22 6 ≤ M 1 1) → post r M1 t1) : wpX4_takeBank post M tl  := by
  unfold wpX4_takeBank
  refine sm_X4_takeNumber hI  (fun r1 M2 t3 hI4 hF5 hq6 => ?_)
  have hF7 : Fr [] [(22, 2), (22, 3), (22, 6), (22, 7), (22, 8), (22, 9)] M M2 := fr_call fr_rfl hF5 (by decide) (by decide)
  have hr8 := iv_22_6 hI4
  have hx9 : M2 1 1 = M 1 1 := hF5 1 1 (by decide) (by decide)
  have hx10 : M2 1 1 = M 1 1 := hF5 1 1 (by decide) (by decide)
  have hr11 := iv_1_1 hI
  have hr12 := iv_1_1 hI4
  exact hp _ _ _ hI4 hF7 (by lia)
set_option maxHeartbeats 4000000 in
theorem sn_X4_readOfKinds_15__25 {post : MM → Int64 → Prop} {Mb : MM} (hp : ∀ (M1 : MM) (t1 : Int64), Inv M1 → Fr [26, 27] [(22, 2), (22, 3), (22, 6), (22, 7), (22, 8), (22, 9)] Mb M1 → (Mb 22 2 = 0 ∨ M1 22 2 ≠ 0) ∧ (M1 22 2 ≠ 0 ∨ Mb 22 6 ≤ M1 22 6) ∧ (M1 22 2 ≠ 0 ∨ Mb 1 1 < Mb 22 6 ∨ M1 22 6 ≤ Mb 1 1) → post M1 t1) : ∀ v4 : Int32, 0 ≤ v4 → v4 ≤ 6 → ∃ n, ∀ (M : MM) (tl : Int64) (v3 : Int32), Inv M → Fr [26, 27] [(22, 2), (22, 3), (22, 6), (22, 7), (22, 8), (22, 9)] Mb M → (((v3 = -1 ∧ M 22 2 ≠ 0) ∨ (0 ≤ v3 ∧ v3 ≤ 1)) ∧ (Mb 22 2 = 0 ∨ M 22 2 ≠ 0) ∧ (M 22 2 ≠ 0 ∨ Mb 22 6 ≤ M 22 6) ∧ (M 22 2 ≠ 0 ∨ Mb 1 1 < Mb 22 6 ∨ M 22 6 ≤ Mb 1 1) ∧ M 1 1 = Mb 1 1) → wX4_readOfKinds_15 post n M tl 25 v3 v4 := by
  refine up_ex (P := fun d v4 => ∀ (M : MM) (tl : Int64) (v3 : Int32), Inv M → Fr [26, 27] [(22, 2), (22, 3), (22, 6), (22, 7), (22, 8), (22, 9)] Mb M → (((v3 = -1 ∧ M 22 2 ≠ 0) ∨ (0 ≤ v3 ∧ v3 ≤ 1)) ∧ (Mb 22 2 = 0 ∨ M 22 2 ≠ 0) ∧ (M 22 2 ≠ 0 ∨ Mb 22 6 ≤ M 22 6) ∧ (M 22 2 ≠ 0 ∨ Mb 1 1 < Mb 22 6 ∨ M 22 6 ≤ Mb 1 1) ∧ M 1 1 = Mb 1 1) → wX4_readOfKinds_15 post d M tl 25 v3 v4) 0 6 ?_
  intro d v4 hlo hhi rec M tl v3 hI hF hli
  unfold wX4_readOfKinds_15
  refine ifs (fun hc1 => ?_) (fun hc2 => ?_)
  · skip
    have hr3 := iv_22_6 hI
    have hr4 := iv_1_1 hI
    exact hp _ _ hI hF (by lia)
  · skip
    refine ifs (fun hc5 => ?_) (fun hc6 => ?_)
    · skip
      refine And.intro (by decide) ?_
      refine And.intro (vpI (c := 2) (by decide) (by lia) (by lia)) ?_
      refine sm_X4_takeNumber hI  (fun r7 M8 t9 hI10 hF11 hq12 => ?_)
      have hF13 : Fr [26, 27] [(22, 2), (22, 3), (22, 6), (22, 7), (22, 8), (22, 9)] Mb M8 := fr_call hF hF11 (by decide) (by decide)
      rcases cs2 (v := v3) (by lia) (by lia) with hs | hs <;> subst hs
      · skip
        refine And.intro (by decide) ?_
        refine And.intro (vpI (c := 6) (by decide) (by lia) (by lia)) ?_
        intro W14 hW15
        have hI16 : Inv W14 := by rw [hW15]; exact inv_set hI10 (i_any _)
        have hF17 : Fr [26, 27] [(22, 2), (22, 3), (22, 6), (22, 7), (22, 8), (22, 9)] Mb W14 := by rw [hW15]; exact fr_arr hF13 (by decide)
        have hx18 : W14 1 1 = M8 1 1 := by rw [hW15, mset_ne (by decide)]
        have hx19 : M8 1 1 = M 1 1 := hF11 1 1 (by decide) (by decide)
        have hx20 : W14 22 2 = M8 22 2 := by rw [hW15, mset_ne (by decide)]
        have hx21 : W14 22 6 = M8 22 6 := by rw [hW15, mset_ne (by decide)]
        have hx22 : W14 81 32 = M8 81 32 := by rw [hW15, mset_ne (by decide)]
        have hx23 : M8 81 32 = M 81 32 := hF11 81 32 (by decide) (by decide)
        have hx24 : W14 81 34 = M8 81 34 := by rw [hW15, mset_ne (by decide)]
        have hx25 : M8 81 34 = M 81 34 := hF11 81 34 (by decide) (by decide)
        have hx26 : W14 81 36 = M8 81 36 := by rw [hW15, mset_ne (by decide)]
        have hx27 : M8 81 36 = M 81 36 := hF11 81 36 (by decide) (by decide)
        have hx28 : W14 22 2 = M8 22 2 := by rw [hW15, mset_ne (by decide)]
        have hx29 : W14 1 1 = M8 1 1 := by rw [hW15, mset_ne (by decide)]
        have hr30 := iv_1_1 hI10
        have hx31 : M8 1 1 = M 1 1 := hF11 1 1 (by decide) (by decide)
        have hr32 := iv_1_1 hI
        have hr33 := iv_1_1 hI16
        have hx34 : W14 22 6 = M8 22 6 := by rw [hW15, mset_ne (by decide)]
        have hr35 := iv_22_6 hI10
        have hr36 := iv_22_6 hI16
        exact rec (by lia) _ _ (0 : Int32) hI16 hF17 (by lia)
      · skip
        refine And.intro (by decide) ?_
        refine And.intro (vpI (c := 6) (by decide) (by lia) (by lia)) ?_
        intro W37 hW38
        have hI39 : Inv W37 := by rw [hW38]; exact inv_set hI10 (i_any _)
        have hF40 : Fr [26, 27] [(22, 2), (22, 3), (22, 6), (22, 7), (22, 8), (22, 9)] Mb W37 := by rw [hW38]; exact fr_arr hF13 (by decide)
        have hx41 : W37 1 1 = M8 1 1 := by rw [hW38, mset_ne (by decide)]
        have hx42 : M8 1 1 = M 1 1 := hF11 1 1 (by decide) (by decide)
        have hx43 : W37 22 2 = M8 22 2 := by rw [hW38, mset_ne (by decide)]
        have hx44 : W37 22 6 = M8 22 6 := by rw [hW38, mset_ne (by decide)]
        have hx45 : W37 81 32 = M8 81 32 := by rw [hW38, mset_ne (by decide)]
        have hx46 : M8 81 32 = M 81 32 := hF11 81 32 (by decide) (by decide)
        have hx47 : W37 81 34 = M8 81 34 := by rw [hW38, mset_ne (by decide)]
        have hx48 : M8 81 34 = M 81 34 := hF11 81 34 (by decide) (by decide)
        have hx49 : W37 81 36 = M8 81 36 := by rw [hW38, mset_ne (by decide)]
        have hx50 : M8 81 36 = M 81 36 := hF11 81 36 (by decide) (by decide)
        have hx51 : W37 22 2 = M8 22 2 := by rw [hW38, mset_ne (by decide)]
        have hx52 : W37 1 1 = M8 1 1 := by rw [hW38, mset_ne (by decide)]
        have hr53 := iv_1_1 hI10
        have hx54 : M8 1 1 = M 1 1 := hF11 1 1 (by decide) (by decide)
        have hr55 := iv_1_1 hI
        have hr56 := iv_1_1 hI39
        have hx57 : W37 22 6 = M8 22 6 := by rw [hW38, mset_ne (by decide)]
        have hr58 := iv_22_6 hI10
        have hr59 := iv_22_6 hI39
        exact rec (by lia) _ _ (1 : Int32) hI39 hF40 (by lia)
    · skip
      have hr60 := iv_22_6 hI
      have hr61 := iv_1_1 hI
      exact hp _ _ hI hF (by lia)
set_option maxHeartbeats 4000000 in
theorem sm_X4_readOfKinds__25 {post : MM → Int64 → Prop} {M : MM} {tl : Int64} {v2 : Int32} (hI : Inv M) (hp : ∀ (M1 : MM) (t1 : Int64), Inv M1 → Fr [26, 27] [(22, 2), (22, 3), (22, 6), (22, 7), (22, 8), (22, 9)] M M1 → (M 22 2 = 0 ∨ M1 22 2 ≠ 0) ∧ (M1 22 2 ≠ 0 ∨ M 22 6 ≤ M1 22 6) ∧ (M1 22 2 ≠ 0 ∨ M 1 1 < M 22 6 ∨ M1 22 6 ≤ M 1 1) → post M1 t1) : wpX4_readOfKinds post M tl 25 v2 := by
  unfold wpX4_readOfKinds
  refine sm_X4_takeBank hI  (fun r1 M2 t3 hI4 hF5 hq6 => ?_)
  have hF7 : Fr [26, 27] [(22, 2), (22, 3), (22, 6), (22, 7), (22, 8), (22, 9)] M M2 := fr_call fr_rfl hF5 (by decide) (by decide)
  refine sm_X4_tellOnce hI4  (fun M9 t10 hI11 hF12 hq13 => ?_)
  have hF14 : Fr [26, 27] [(22, 2), (22, 3), (22, 6), (22, 7), (22, 8), (22, 9)] M M9 := fr_call hF7 hF12 (by decide) (by decide)
  have hx15 : M9 1 1 = M2 1 1 := hF12 1 1 (by decide) (by decide)
  have hx16 : M2 1 1 = M 1 1 := hF5 1 1 (by decide) (by decide)
  have hx17 : M9 22 6 = M2 22 6 := hF12 22 6 (by decide) (by decide)
  have hx18 : M9 81 32 = M2 81 32 := hF12 81 32 (by decide) (by decide)
  have hx19 : M2 81 32 = M 81 32 := hF5 81 32 (by decide) (by decide)
  have hx20 : M9 81 34 = M2 81 34 := hF12 81 34 (by decide) (by decide)
  have hx21 : M2 81 34 = M 81 34 := hF5 81 34 (by decide) (by decide)
  have hx22 : M9 81 36 = M2 81 36 := hF12 81 36 (by decide) (by decide)
  have hx23 : M2 81 36 = M 81 36 := hF5 81 36 (by decide) (by decide)
  have hx24 : M9 1 1 = M2 1 1 := hF12 1 1 (by decide) (by decide)
  have hr25 := iv_1_1 hI4
  have hx26 : M2 1 1 = M 1 1 := hF5 1 1 (by decide) (by decide)
  have hr27 := iv_1_1 hI
  have hr28 := iv_1_1 hI11
  have hx29 : M9 22 6 = M2 22 6 := hF12 22 6 (by decide) (by decide)
  have hr30 := iv_22_6 hI4
  have hr31 := iv_22_6 hI11
  obtain ⟨n32, hn33⟩ := sn_X4_readOfKinds_15__25 (Mb := M) hp  (1 : Int32) (by lia) (by lia)
  exact ⟨n32, hn33 _ _ r1 hI11 hF14 (by lia)⟩
set_option maxHeartbeats 4000000 in
theorem sn_X4_readOfKinds_15__28 {post : MM → Int64 → Prop} {Mb : MM} (hp : ∀ (M1 : MM) (t1 : Int64), Inv M1 → Fr [29, 30] [(22, 2), (22, 3), (22, 6), (22, 7), (22, 8), (22, 9)] Mb M1 → (Mb 22 2 = 0 ∨ M1 22 2 ≠ 0) ∧ (M1 22 2 ≠ 0 ∨ Mb 22 6 ≤ M1 22 6) ∧ (M1 22 2 ≠ 0 ∨ Mb 1 1 < Mb 22 6 ∨ M1 22 6 ≤ Mb 1 1) → post M1 t1) : ∀ v4 : Int32, 0 ≤ v4 → v4 ≤ 6 → ∃ n, ∀ (M : MM) (tl : Int64) (v3 : Int32), Inv M → Fr [29, 30] [(22, 2), (22, 3), (22, 6), (22, 7), (22, 8), (22, 9)] Mb M → (((v3 = -1 ∧ M 22 2 ≠ 0) ∨ (0 ≤ v3 ∧ v3 ≤ 1)) ∧ (Mb 22 2 = 0 ∨ M 22 2 ≠ 0) ∧ (M 22 2 ≠ 0 ∨ Mb 22 6 ≤ M 22 6) ∧ (M 22 2 ≠ 0 ∨ Mb 1 1 < Mb 22 6 ∨ M 22 6 ≤ Mb 1 1) ∧ M 1 1 = Mb 1 1) → wX4_readOfKinds_15 post n M tl 28 v3 v4 := by
  refine up_ex (P := fun d v4 => ∀ (M : MM) (tl : Int64) (v3 : Int32), Inv M → Fr [29, 30] [(22, 2), (22, 3), (22, 6), (22, 7), (22, 8), (22, 9)] Mb M → (((v3 = -1 ∧ M 22 2 ≠ 0) ∨ (0 ≤ v3 ∧ v3 ≤ 1)) ∧ (Mb 22 2 = 0 ∨ M 22 2 ≠ 0) ∧ (M 22 2 ≠ 0 ∨ Mb 22 6 ≤ M 22 6) ∧ (M 22 2 ≠ 0 ∨ Mb 1 1 < Mb 22 6 ∨ M 22 6 ≤ Mb 1 1) ∧ M 1 1 = Mb 1 1) → wX4_readOfKinds_15 post d M tl 28 v3 v4) 0 6 ?_
  intro d v4 hlo hhi rec M tl v3 hI hF hli
  unfold wX4_readOfKinds_15
  refine ifs (fun hc1 => ?_) (fun hc2 => ?_)
  · skip
    have hr3 := iv_22_6 hI
    have hr4 := iv_1_1 hI
    exact hp _ _ hI hF (by lia)
  · skip
    refine ifs (fun hc5 => ?_) (fun hc6 => ?_)
    · skip
      refine And.intro (by decide) ?_
      refine And.intro (vpI (c := 2) (by decide) (by lia) (by lia)) ?_
      refine sm_X4_takeNumber hI  (fun r7 M8 t9 hI10 hF11 hq12 => ?_)
      have hF13 : Fr [29, 30] [(22, 2), (22, 3), (22, 6), (22, 7), (22, 8), (22, 9)] Mb M8 := fr_call hF hF11 (by decide) (by decide)
      rcases cs2 (v := v3) (by lia) (by lia) with hs | hs <;> subst hs
      · skip
        refine And.intro (by decide) ?_
        refine And.intro (vpI (c := 6) (by decide) (by lia) (by lia)) ?_
        intro W14 hW15
        have hI16 : Inv W14 := by rw [hW15]; exact inv_set hI10 (i_any _)
        have hF17 : Fr [29, 30] [(22, 2), (22, 3), (22, 6), (22, 7), (22, 8), (22, 9)] Mb W14 := by rw [hW15]; exact fr_arr hF13 (by decide)
        have hx18 : W14 1 1 = M8 1 1 := by rw [hW15, mset_ne (by decide)]
        have hx19 : M8 1 1 = M 1 1 := hF11 1 1 (by decide) (by decide)
        have hx20 : W14 22 2 = M8 22 2 := by rw [hW15, mset_ne (by decide)]
        have hx21 : W14 22 6 = M8 22 6 := by rw [hW15, mset_ne (by decide)]
        have hx22 : W14 81 32 = M8 81 32 := by rw [hW15, mset_ne (by decide)]
        have hx23 : M8 81 32 = M 81 32 := hF11 81 32 (by decide) (by decide)
        have hx24 : W14 81 34 = M8 81 34 := by rw [hW15, mset_ne (by decide)]
        have hx25 : M8 81 34 = M 81 34 := hF11 81 34 (by decide) (by decide)
        have hx26 : W14 81 36 = M8 81 36 := by rw [hW15, mset_ne (by decide)]
        have hx27 : M8 81 36 = M 81 36 := hF11 81 36 (by decide) (by decide)
        have hx28 : W14 22 2 = M8 22 2 := by rw [hW15, mset_ne (by decide)]
        have hx29 : W14 1 1 = M8 1 1 := by rw [hW15, mset_ne (by decide)]
        have hr30 := iv_1_1 hI10
        have hx31 : M8 1 1 = M 1 1 := hF11 1 1 (by decide) (by decide)
        have hr32 := iv_1_1 hI
        have hr33 := iv_1_1 hI16
        have hx34 : W14 22 6 = M8 22 6 := by rw [hW15, mset_ne (by decide)]
        have hr35 := iv_22_6 hI10
        have hr36 := iv_22_6 hI16
        exact rec (by lia) _ _ (0 : Int32) hI16 hF17 (by lia)
      · skip
        refine And.intro (by decide) ?_
        refine And.intro (vpI (c := 6) (by decide) (by lia) (by lia)) ?_
        intro W37 hW38
        have hI39 : Inv W37 := by rw [hW38]; exact inv_set hI10 (i_any _)
        have hF40 : Fr [29, 30] [(22, 2), (22, 3), (22, 6), (22, 7), (22, 8), (22, 9)] Mb W37 := by rw [hW38]; exact fr_arr hF13 (by decide)
        have hx41 : W37 1 1 = M8 1 1 := by rw [hW38, mset_ne (by decide)]
        have hx42 : M8 1 1 = M 1 1 := hF11 1 1 (by decide) (by decide)
        have hx43 : W37 22 2 = M8 22 2 := by rw [hW38, mset_ne (by decide)]
        have hx44 : W37 22 6 = M8 22 6 := by rw [hW38, mset_ne (by decide)]
        have hx45 : W37 81 32 = M8 81 32 := by rw [hW38, mset_ne (by decide)]
        have hx46 : M8 81 32 = M 81 32 := hF11 81 32 (by decide) (by decide)
        have hx47 : W37 81 34 = M8 81 34 := by rw [hW38, mset_ne (by decide)]
        have hx48 : M8 81 34 = M 81 34 := hF11 81 34 (by decide) (by decide)
        have hx49 : W37 81 36 = M8 81 36 := by rw [hW38, mset_ne (by decide)]
        have hx50 : M8 81 36 = M 81 36 := hF11 81 36 (by decide) (by decide)
        have hx51 : W37 22 2 = M8 22 2 := by rw [hW38, mset_ne (by decide)]
        have hx52 : W37 1 1 = M8 1 1 := by rw [hW38, mset_ne (by decide)]
        have hr53 := iv_1_1 hI10
        have hx54 : M8 1 1 = M 1 1 := hF11 1 1 (by decide) (by decide)
        have hr55 := iv_1_1 hI
        have hr56 := iv_1_1 hI39
        have hx57 : W37 22 6 = M8 22 6 := by rw [hW38, mset_ne (by decide)]
        have hr58 := iv_22_6 hI10
        have hr59 := iv_22_6 hI39
        exact rec (by lia) _ _ (1 : Int32) hI39 hF40 (by lia)
    · skip
      have hr60 := iv_22_6 hI
      have hr61 := iv_1_1 hI
      exact hp _ _ hI hF (by lia)
set_option maxHeartbeats 4000000 in
theorem sm_X4_readOfKinds__28 {post : MM → Int64 → Prop} {M : MM} {tl : Int64} {v2 : Int32} (hI : Inv M) (hp : ∀ (M1 : MM) (t1 : Int64), Inv M1 → Fr [29, 30] [(22, 2), (22, 3), (22, 6), (22, 7), (22, 8), (22, 9)] M M1 → (M 22 2 = 0 ∨ M1 22 2 ≠ 0) ∧ (M1 22 2 ≠ 0 ∨ M 22 6 ≤ M1 22 6) ∧ (M1 22 2 ≠ 0 ∨ M 1 1 < M 22 6 ∨ M1 22 6 ≤ M 1 1) → post M1 t1) : wpX4_readOfKinds post M tl 28 v2 := by
  unfold wpX4_readOfKinds
  refine sm_X4_takeBank hI  (fun r1 M2 t3 hI4 hF5 hq6 => ?_)
  have hF7 : Fr [29, 30] [(22, 2), (22, 3), (22, 6), (22, 7), (22, 8), (22, 9)] M M2 := fr_call fr_rfl hF5 (by decide) (by decide)
  refine sm_X4_tellOnce hI4  (fun M9 t10 hI11 hF12 hq13 => ?_)
  have hF14 : Fr [29, 30] [(22, 2), (22, 3), (22, 6), (22, 7), (22, 8), (22, 9)] M M9 := fr_call hF7 hF12 (by decide) (by decide)
  have hx15 : M9 1 1 = M2 1 1 := hF12 1 1 (by decide) (by decide)
  have hx16 : M2 1 1 = M 1 1 := hF5 1 1 (by decide) (by decide)
  have hx17 : M9 22 6 = M2 22 6 := hF12 22 6 (by decide) (by decide)
  have hx18 : M9 81 32 = M2 81 32 := hF12 81 32 (by decide) (by decide)
  have hx19 : M2 81 32 = M 81 32 := hF5 81 32 (by decide) (by decide)
  have hx20 : M9 81 34 = M2 81 34 := hF12 81 34 (by decide) (by decide)
  have hx21 : M2 81 34 = M 81 34 := hF5 81 34 (by decide) (by decide)
  have hx22 : M9 81 36 = M2 81 36 := hF12 81 36 (by decide) (by decide)
  have hx23 : M2 81 36 = M 81 36 := hF5 81 36 (by decide) (by decide)
  have hx24 : M9 1 1 = M2 1 1 := hF12 1 1 (by decide) (by decide)
  have hr25 := iv_1_1 hI4
  have hx26 : M2 1 1 = M 1 1 := hF5 1 1 (by decide) (by decide)
  have hr27 := iv_1_1 hI
  have hr28 := iv_1_1 hI11
  have hx29 : M9 22 6 = M2 22 6 := hF12 22 6 (by decide) (by decide)
  have hr30 := iv_22_6 hI4
  have hr31 := iv_22_6 hI11
  obtain ⟨n32, hn33⟩ := sn_X4_readOfKinds_15__28 (Mb := M) hp  (1 : Int32) (by lia) (by lia)
  exact ⟨n32, hn33 _ _ r1 hI11 hF14 (by lia)⟩
set_option maxHeartbeats 4000000 in
theorem sm_X4_takeNameOf__1 {post : Int32 → MM → Int64 → Prop} {M : MM} {tl : Int64} (hI : Inv M) (hp : ∀ (r : Int32) (M1 : MM) (t1 : Int64), Inv M1 → Fr [] [(22, 2), (22, 3), (22, 6), (22, 7), (22, 8), (22, 9)] M M1 → (M 22 2 = 0 ∨ M1 22 2 ≠ 0) ∧ ((r = -1 ∧ M1 22 2 ≠ 0) ∨ (0 ≤ r ∧ r ≤ 4 ∧ M1 22 2 = 0)) ∧ (M1 22 2 ≠ 0 ∨ M 22 6 ≤ M1 22 6) ∧ (M1 22 2 ≠ 0 ∨ M 1 1 < M 22 6 ∨ M1 22 6 ≤ M 1 1) → post r M1 t1) : wpX4_takeNameOf post M tl 1 := by
  unfold wpX4_takeNameOf
  refine sm_X4_takeToken hI  (fun M2 t3 hI4 hF5 hq6 => ?_)
  have hF7 : Fr [] [(22, 2), (22, 3), (22, 6), (22, 7), (22, 8), (22, 9)] M M2 := fr_call fr_rfl hF5 (by decide) (by decide)
  refine ifs (fun hc8 => ?_) (fun hc9 => ?_)
  · skip
    refine sf_X4_nameAmong__1 hI4  (fun r10 hq11 => ?_)
    refine ifs (fun hc12 => ?_) (fun hc13 => ?_)
    · skip
      have hr14 := iv_22_6 hI4
      have hx15 : M2 1 1 = M 1 1 := hF5 1 1 (by decide) (by decide)
      have hx16 : M2 1 1 = M 1 1 := hF5 1 1 (by decide) (by decide)
      have hr17 := iv_1_1 hI
      have hr18 := iv_1_1 hI4
      exact hp _ _ _ hI4 hF7 (by lia)
    · skip
      refine sm_X4_fail hI4 (by lia) (fun r19 M20 t21 hI22 hF23 hq24 => ?_)
      have hF25 : Fr [] [(22, 2), (22, 3), (22, 6), (22, 7), (22, 8), (22, 9)] M M20 := fr_call hF7 hF23 (by decide) (by decide)
      have hx26 : M20 22 6 = M2 22 6 := hF23 22 6 (by decide) (by decide)
      have hx27 : M20 22 6 = M2 22 6 := hF23 22 6 (by decide) (by decide)
      have hr28 := iv_22_6 hI4
      have hr29 := iv_22_6 hI22
      have hx30 : M20 1 1 = M2 1 1 := hF23 1 1 (by decide) (by decide)
      have hx31 : M2 1 1 = M 1 1 := hF5 1 1 (by decide) (by decide)
      have hx32 : M20 1 1 = M2 1 1 := hF23 1 1 (by decide) (by decide)
      have hr33 := iv_1_1 hI4
      have hx34 : M2 1 1 = M 1 1 := hF5 1 1 (by decide) (by decide)
      have hr35 := iv_1_1 hI
      have hr36 := iv_1_1 hI22
      exact hp _ _ _ hI22 hF25 (by lia)
  · skip
    have hr37 := iv_22_6 hI4
    have hx38 : M2 1 1 = M 1 1 := hF5 1 1 (by decide) (by decide)
    have hx39 : M2 1 1 = M 1 1 := hF5 1 1 (by decide) (by decide)
    have hr40 := iv_1_1 hI
    have hr41 := iv_1_1 hI4
    exact hp _ _ _ hI4 hF7 (by lia)
set_option maxHeartbeats 4000000 in
theorem sm_X4_readLack {post : MM → Int64 → Prop} {M : MM} {tl : Int64} (hI : Inv M) (hp : ∀ (M1 : MM) (t1 : Int64), Inv M1 → Fr [31] [(22, 2), (22, 3), (22, 6), (22, 7), (22, 8), (22, 9)] M M1 → (M 22 2 = 0 ∨ M1 22 2 ≠ 0) ∧ (M1 22 2 ≠ 0 ∨ M 22 6 ≤ M1 22 6) ∧ (M1 22 2 ≠ 0 ∨ M 1 1 < M 22 6 ∨ M1 22 6 ≤ M 1 1) → post M1 t1) : wpX4_readLack post M tl  := by
  unfold wpX4_readLack
  refine sm_X4_takeBank hI  (fun r1 M2 t3 hI4 hF5 hq6 => ?_)
  have hF7 : Fr [31] [(22, 2), (22, 3), (22, 6), (22, 7), (22, 8), (22, 9)] M M2 := fr_call fr_rfl hF5 (by decide) (by decide)
  refine sm_X4_takeNameOf__1 hI4  (fun r8 M9 t10 hI11 hF12 hq13 => ?_)
  have hF14 : Fr [31] [(22, 2), (22, 3), (22, 6), (22, 7), (22, 8), (22, 9)] M M9 := fr_call hF7 hF12 (by decide) (by decide)
  refine ifs (fun hc15 => ?_) (fun hc16 => ?_)
  · skip
    refine And.intro (vpI (c := 2) (by decide) (by lia) (by lia)) ?_
    refine And.intro (vpI (c := 2) (by decide) (by lia) (by lia)) ?_
    have hm19 : (0 : Int32) ≤ ((r8 + (1 : Int32)) &&& (31 : Int32)) ∧ ((r8 + (1 : Int32)) &&& (31 : Int32)) ≤ (31 : Int32) := andc (r8 + (1 : Int32)) 31 (by decide)
    intro W17 hW18
    have hI20 : Inv W17 := by rw [hW18]; exact inv_set hI11 (i_any _)
    have hF21 : Fr [31] [(22, 2), (22, 3), (22, 6), (22, 7), (22, 8), (22, 9)] M W17 := by rw [hW18]; exact fr_arr hF14 (by decide)
    have hx22 : W17 22 2 = M9 22 2 := by rw [hW18, mset_ne (by decide)]
    have hx23 : W17 22 2 = M9 22 2 := by rw [hW18, mset_ne (by decide)]
    have hx24 : W17 22 6 = M9 22 6 := by rw [hW18, mset_ne (by decide)]
    have hx25 : W17 22 6 = M9 22 6 := by rw [hW18, mset_ne (by decide)]
    have hr26 := iv_22_6 hI11
    have hr27 := iv_22_6 hI20
    have hx28 : W17 1 1 = M9 1 1 := by rw [hW18, mset_ne (by decide)]
    have hx29 : M9 1 1 = M2 1 1 := hF12 1 1 (by decide) (by decide)
    have hx30 : M2 1 1 = M 1 1 := hF5 1 1 (by decide) (by decide)
    have hx31 : W17 1 1 = M9 1 1 := by rw [hW18, mset_ne (by decide)]
    have hr32 := iv_1_1 hI11
    have hx33 : M9 1 1 = M2 1 1 := hF12 1 1 (by decide) (by decide)
    have hr34 := iv_1_1 hI4
    have hx35 : M2 1 1 = M 1 1 := hF5 1 1 (by decide) (by decide)
    have hr36 := iv_1_1 hI
    have hr37 := iv_1_1 hI20
    exact hp _ _ hI20 hF21 (by lia)
  · skip
    have hr38 := iv_22_6 hI11
    have hx39 : M9 1 1 = M2 1 1 := hF12 1 1 (by decide) (by decide)
    have hx40 : M2 1 1 = M 1 1 := hF5 1 1 (by decide) (by decide)
    have hx41 : M9 1 1 = M2 1 1 := hF12 1 1 (by decide) (by decide)
    have hr42 := iv_1_1 hI4
    have hx43 : M2 1 1 = M 1 1 := hF5 1 1 (by decide) (by decide)
    have hr44 := iv_1_1 hI
    have hr45 := iv_1_1 hI11
    exact hp _ _ hI11 hF14 (by lia)
set_option maxHeartbeats 4000000 in
theorem sm_X4_readTwins {post : MM → Int64 → Prop} {M : MM} {tl : Int64} (hI : Inv M) (hp : ∀ (M1 : MM) (t1 : Int64), Inv M1 → Fr [32] [(22, 2), (22, 3), (22, 6), (22, 7), (22, 8), (22, 9)] M M1 → (M 22 2 = 0 ∨ M1 22 2 ≠ 0) ∧ (M1 22 2 ≠ 0 ∨ M 22 6 ≤ M1 22 6) ∧ (M1 22 2 ≠ 0 ∨ M 1 1 < M 22 6 ∨ M1 22 6 ≤ M 1 1) → post M1 t1) : wpX4_readTwins post M tl  := by
  unfold wpX4_readTwins
  refine sm_X4_takeNameOf__1 hI  (fun r1 M2 t3 hI4 hF5 hq6 => ?_)
  have hF7 : Fr [32] [(22, 2), (22, 3), (22, 6), (22, 7), (22, 8), (22, 9)] M M2 := fr_call fr_rfl hF5 (by decide) (by decide)
  refine sm_X4_tellOnce hI4  (fun M9 t10 hI11 hF12 hq13 => ?_)
  have hF14 : Fr [32] [(22, 2), (22, 3), (22, 6), (22, 7), (22, 8), (22, 9)] M M9 := fr_call hF7 hF12 (by decide) (by decide)
  refine sm_X4_takeNameOf__1 hI11  (fun r15 M16 t17 hI18 hF19 hq20 => ?_)
  have hF21 : Fr [32] [(22, 2), (22, 3), (22, 6), (22, 7), (22, 8), (22, 9)] M M16 := fr_call hF14 hF19 (by decide) (by decide)
  refine sm_X4_tellOnce hI18  (fun M23 t24 hI25 hF26 hq27 => ?_)
  have hF28 : Fr [32] [(22, 2), (22, 3), (22, 6), (22, 7), (22, 8), (22, 9)] M M23 := fr_call hF21 hF26 (by decide) (by decide)
  refine ifs (fun hc29 => ?_) (fun hc30 => ?_)
  · skip
    refine And.intro (vpI (c := 6) (by decide) (by lia) (by lia)) ?_
    intro W31 hW32
    have hI33 : Inv W31 := by rw [hW32]; exact inv_set hI25 (i_any _)
    have hF34 : Fr [32] [(22, 2), (22, 3), (22, 6), (22, 7), (22, 8), (22, 9)] M W31 := by rw [hW32]; exact fr_arr hF28 (by decide)
    refine And.intro (vpI (c := 6) (by decide) (by lia) (by lia)) ?_
    intro W35 hW36
    have hI37 : Inv W35 := by rw [hW36]; exact inv_set hI33 (i_any _)
    have hF38 : Fr [32] [(22, 2), (22, 3), (22, 6), (22, 7), (22, 8), (22, 9)] M W35 := by rw [hW36]; exact fr_arr hF34 (by decide)
    have hx39 : W35 22 2 = W31 22 2 := by rw [hW36, mset_ne (by decide)]
    have hx40 : W31 22 2 = M23 22 2 := by rw [hW32, mset_ne (by decide)]
    have hx41 : W35 22 2 = W31 22 2 := by rw [hW36, mset_ne (by decide)]
    have hx42 : W31 22 2 = M23 22 2 := by rw [hW32, mset_ne (by decide)]
    have hx43 : W35 22 6 = W31 22 6 := by rw [hW36, mset_ne (by decide)]
    have hx44 : W31 22 6 = M23 22 6 := by rw [hW32, mset_ne (by decide)]
    have hx45 : M23 22 6 = M16 22 6 := hF26 22 6 (by decide) (by decide)
    have hx46 : M9 22 6 = M2 22 6 := hF12 22 6 (by decide) (by decide)
    have hx47 : W35 22 6 = W31 22 6 := by rw [hW36, mset_ne (by decide)]
    have hr48 := iv_22_6 hI33
    have hx49 : W31 22 6 = M23 22 6 := by rw [hW32, mset_ne (by decide)]
    have hr50 := iv_22_6 hI25
    have hx51 : M23 22 6 = M16 22 6 := hF26 22 6 (by decide) (by decide)
    have hr52 := iv_22_6 hI18
    have hr53 := iv_22_6 hI37
    have hx54 : W35 1 1 = W31 1 1 := by rw [hW36, mset_ne (by decide)]
    have hx55 : W31 1 1 = M23 1 1 := by rw [hW32, mset_ne (by decide)]
    have hx56 : M23 1 1 = M16 1 1 := hF26 1 1 (by decide) (by decide)
    have hx57 : M16 1 1 = M9 1 1 := hF19 1 1 (by decide) (by decide)
    have hx58 : M9 1 1 = M2 1 1 := hF12 1 1 (by decide) (by decide)
    have hx59 : M2 1 1 = M 1 1 := hF5 1 1 (by decide) (by decide)
    have hx60 : W35 1 1 = W31 1 1 := by rw [hW36, mset_ne (by decide)]
    have hr61 := iv_1_1 hI33
    have hx62 : W31 1 1 = M23 1 1 := by rw [hW32, mset_ne (by decide)]
    have hr63 := iv_1_1 hI25
    have hx64 : M23 1 1 = M16 1 1 := hF26 1 1 (by decide) (by decide)
    have hr65 := iv_1_1 hI18
    have hx66 : M16 1 1 = M9 1 1 := hF19 1 1 (by decide) (by decide)
    have hr67 := iv_1_1 hI11
    have hx68 : M9 1 1 = M2 1 1 := hF12 1 1 (by decide) (by decide)
    have hr69 := iv_1_1 hI4
    have hx70 : M2 1 1 = M 1 1 := hF5 1 1 (by decide) (by decide)
    have hr71 := iv_1_1 hI
    have hr72 := iv_1_1 hI37
    exact hp _ _ hI37 hF38 (by lia)
  · skip
    have hx73 : M23 22 6 = M16 22 6 := hF26 22 6 (by decide) (by decide)
    have hx74 : M9 22 6 = M2 22 6 := hF12 22 6 (by decide) (by decide)
    have hx75 : M23 22 6 = M16 22 6 := hF26 22 6 (by decide) (by decide)
    have hr76 := iv_22_6 hI18
    have hr77 := iv_22_6 hI25
    have hx78 : M23 1 1 = M16 1 1 := hF26 1 1 (by decide) (by decide)
    have hx79 : M16 1 1 = M9 1 1 := hF19 1 1 (by decide) (by decide)
    have hx80 : M9 1 1 = M2 1 1 := hF12 1 1 (by decide) (by decide)
    have hx81 : M2 1 1 = M 1 1 := hF5 1 1 (by decide) (by decide)
    have hx82 : M23 1 1 = M16 1 1 := hF26 1 1 (by decide) (by decide)
    have hr83 := iv_1_1 hI18
    have hx84 : M16 1 1 = M9 1 1 := hF19 1 1 (by decide) (by decide)
    have hr85 := iv_1_1 hI11
    have hx86 : M9 1 1 = M2 1 1 := hF12 1 1 (by decide) (by decide)
    have hr87 := iv_1_1 hI4
    have hx88 : M2 1 1 = M 1 1 := hF5 1 1 (by decide) (by decide)
    have hr89 := iv_1_1 hI
    have hr90 := iv_1_1 hI25
    exact hp _ _ hI25 hF28 (by lia)
set_option maxHeartbeats 4000000 in
theorem sm_X4_readPaint {post : MM → Int64 → Prop} {M : MM} {tl : Int64} (hI : Inv M) (hp : ∀ (M1 : MM) (t1 : Int64), Inv M1 → Fr [33] [(22, 2), (22, 3), (22, 6), (22, 7), (22, 8), (22, 9)] M M1 → (M 22 2 = 0 ∨ M1 22 2 ≠ 0) ∧ (M1 22 2 ≠ 0 ∨ M 22 6 ≤ M1 22 6) ∧ (M1 22 2 ≠ 0 ∨ M 1 1 < M 22 6 ∨ M1 22 6 ≤ M 1 1) → post M1 t1) : wpX4_readPaint post M tl  := by
  unfold wpX4_readPaint
  refine sm_X4_takeNumber hI  (fun r1 M2 t3 hI4 hF5 hq6 => ?_)
  have hF7 : Fr [33] [(22, 2), (22, 3), (22, 6), (22, 7), (22, 8), (22, 9)] M M2 := fr_call fr_rfl hF5 (by decide) (by decide)
  refine sm_X4_tellOnce hI4  (fun M9 t10 hI11 hF12 hq13 => ?_)
  have hF14 : Fr [33] [(22, 2), (22, 3), (22, 6), (22, 7), (22, 8), (22, 9)] M M9 := fr_call hF7 hF12 (by decide) (by decide)
  refine sm_X4_takeNumber hI11  (fun r15 M16 t17 hI18 hF19 hq20 => ?_)
  have hF21 : Fr [33] [(22, 2), (22, 3), (22, 6), (22, 7), (22, 8), (22, 9)] M M16 := fr_call hF14 hF19 (by decide) (by decide)
  refine sm_X4_tellOnce hI18  (fun M23 t24 hI25 hF26 hq27 => ?_)
  have hF28 : Fr [33] [(22, 2), (22, 3), (22, 6), (22, 7), (22, 8), (22, 9)] M M23 := fr_call hF21 hF26 (by decide) (by decide)
  refine ifs (fun hc29 => ?_) (fun hc30 => ?_)
  · skip
    refine And.intro (vpI (c := 4) (by decide) (by lia) (by lia)) ?_
    intro W31 hW32
    have hI33 : Inv W31 := by rw [hW32]; exact inv_set hI25 (i_any _)
    have hF34 : Fr [33] [(22, 2), (22, 3), (22, 6), (22, 7), (22, 8), (22, 9)] M W31 := by rw [hW32]; exact fr_arr hF28 (by decide)
    refine And.intro (vpI (c := 4) (by decide) (by lia) (by lia)) ?_
    intro W35 hW36
    have hI37 : Inv W35 := by rw [hW36]; exact inv_set hI33 (i_any _)
    have hF38 : Fr [33] [(22, 2), (22, 3), (22, 6), (22, 7), (22, 8), (22, 9)] M W35 := by rw [hW36]; exact fr_arr hF34 (by decide)
    have hx39 : W35 22 2 = W31 22 2 := by rw [hW36, mset_ne (by decide)]
    have hx40 : W31 22 2 = M23 22 2 := by rw [hW32, mset_ne (by decide)]
    have hx41 : W35 22 2 = W31 22 2 := by rw [hW36, mset_ne (by decide)]
    have hx42 : W31 22 2 = M23 22 2 := by rw [hW32, mset_ne (by decide)]
    have hx43 : W35 22 6 = W31 22 6 := by rw [hW36, mset_ne (by decide)]
    have hx44 : W31 22 6 = M23 22 6 := by rw [hW32, mset_ne (by decide)]
    have hx45 : M23 22 6 = M16 22 6 := hF26 22 6 (by decide) (by decide)
    have hx46 : M9 22 6 = M2 22 6 := hF12 22 6 (by decide) (by decide)
    have hx47 : W35 22 6 = W31 22 6 := by rw [hW36, mset_ne (by decide)]
    have hr48 := iv_22_6 hI33
    have hx49 : W31 22 6 = M23 22 6 := by rw [hW32, mset_ne (by decide)]
    have hr50 := iv_22_6 hI25
    have hx51 : M23 22 6 = M16 22 6 := hF26 22 6 (by decide) (by decide)
    have hr52 := iv_22_6 hI18
    have hr53 := iv_22_6 hI37
    have hx54 : W35 1 1 = W31 1 1 := by rw [hW36, mset_ne (by decide)]
    have hx55 : W31 1 1 = M23 1 1 := by rw [hW32, mset_ne (by decide)]
    have hx56 : M23 1 1 = M16 1 1 := hF26 1 1 (by decide) (by decide)
    have hx57 : M16 1 1 = M9 1 1 := hF19 1 1 (by decide) (by decide)
    have hx58 : M9 1 1 = M2 1 1 := hF12 1 1 (by decide) (by decide)
    have hx59 : M2 1 1 = M 1 1 := hF5 1 1 (by decide) (by decide)
    have hx60 : W35 1 1 = W31 1 1 := by rw [hW36, mset_ne (by decide)]
    have hr61 := iv_1_1 hI33
    have hx62 : W31 1 1 = M23 1 1 := by rw [hW32, mset_ne (by decide)]
    have hr63 := iv_1_1 hI25
    have hx64 : M23 1 1 = M16 1 1 := hF26 1 1 (by decide) (by decide)
    have hr65 := iv_1_1 hI18
    have hx66 : M16 1 1 = M9 1 1 := hF19 1 1 (by decide) (by decide)
    have hr67 := iv_1_1 hI11
    have hx68 : M9 1 1 = M2 1 1 := hF12 1 1 (by decide) (by decide)
    have hr69 := iv_1_1 hI4
    have hx70 : M2 1 1 = M 1 1 := hF5 1 1 (by decide) (by decide)
    have hr71 := iv_1_1 hI
    have hr72 := iv_1_1 hI37
    exact hp _ _ hI37 hF38 (by lia)
  · skip
    have hx73 : M23 22 6 = M16 22 6 := hF26 22 6 (by decide) (by decide)
    have hx74 : M9 22 6 = M2 22 6 := hF12 22 6 (by decide) (by decide)
    have hx75 : M23 22 6 = M16 22 6 := hF26 22 6 (by decide) (by decide)
    have hr76 := iv_22_6 hI18
    have hr77 := iv_22_6 hI25
    have hx78 : M23 1 1 = M16 1 1 := hF26 1 1 (by decide) (by decide)
    have hx79 : M16 1 1 = M9 1 1 := hF19 1 1 (by decide) (by decide)
    have hx80 : M9 1 1 = M2 1 1 := hF12 1 1 (by decide) (by decide)
    have hx81 : M2 1 1 = M 1 1 := hF5 1 1 (by decide) (by decide)
    have hx82 : M23 1 1 = M16 1 1 := hF26 1 1 (by decide) (by decide)
    have hr83 := iv_1_1 hI18
    have hx84 : M16 1 1 = M9 1 1 := hF19 1 1 (by decide) (by decide)
    have hr85 := iv_1_1 hI11
    have hx86 : M9 1 1 = M2 1 1 := hF12 1 1 (by decide) (by decide)
    have hr87 := iv_1_1 hI4
    have hx88 : M2 1 1 = M 1 1 := hF5 1 1 (by decide) (by decide)
    have hr89 := iv_1_1 hI
    have hr90 := iv_1_1 hI25
    exact hp _ _ hI25 hF28 (by lia)
set_option maxHeartbeats 4000000 in
theorem sm_X4_readRight {post : MM → Int64 → Prop} {M : MM} {tl : Int64} (hI : Inv M) (hp : ∀ (M1 : MM) (t1 : Int64), Inv M1 → Fr [] [(22, 2), (22, 3), (22, 6), (22, 7), (22, 8), (22, 9), (23, 3)] M M1 → (M 22 2 = 0 ∨ M1 22 2 ≠ 0) ∧ (M1 22 2 ≠ 0 ∨ M 22 6 ≤ M1 22 6) ∧ (M1 22 2 ≠ 0 ∨ M 1 1 < M 22 6 ∨ M1 22 6 ≤ M 1 1) → post M1 t1) : wpX4_readRight post M tl  := by
  unfold wpX4_readRight
  refine sm_X4_takeNameOf__1 hI  (fun r1 M2 t3 hI4 hF5 hq6 => ?_)
  have hF7 : Fr [] [(22, 2), (22, 3), (22, 6), (22, 7), (22, 8), (22, 9), (23, 3)] M M2 := fr_call fr_rfl hF5 (by decide) (by decide)
  refine ifs (fun hc8 => ?_) (fun hc9 => ?_)
  · skip
    have hx12 : M2 23 3 = M 23 3 := hF5 23 3 (by decide) (by decide)
    have hm13 : (0 : Int32) ≤ ((r1 + (1 : Int32)) &&& (31 : Int32)) ∧ ((r1 + (1 : Int32)) &&& (31 : Int32)) ≤ (31 : Int32) := andc (r1 + (1 : Int32)) 31 (by decide)
    intro W10 hW11
    have hI14 : Inv W10 := by rw [hW11]; exact inv_set hI4 (i_any _)
    have hF15 : Fr [] [(22, 2), (22, 3), (22, 6), (22, 7), (22, 8), (22, 9), (23, 3)] M W10 := by rw [hW11]; exact fr_fld hF7 (by decide)
    have hv16 : W10 23 3 = ((M2 23 3) ||| ((1 : Int32) <<< ((r1 + (1 : Int32)) &&& (31 : Int32)))) := by rw [hW11]; exact mset_at _ _ _ _
    have hx17 : W10 22 2 = M2 22 2 := by rw [hW11, mset_ne (by decide)]
    have hx18 : W10 22 2 = M2 22 2 := by rw [hW11, mset_ne (by decide)]
    have hx19 : W10 22 6 = M2 22 6 := by rw [hW11, mset_ne (by decide)]
    have hx20 : W10 22 6 = M2 22 6 := by rw [hW11, mset_ne (by decide)]
    have hr21 := iv_22_6 hI4
    have hr22 := iv_22_6 hI14
    have hx23 : W10 1 1 = M2 1 1 := by rw [hW11, mset_ne (by decide)]
    have hx24 : M2 1 1 = M 1 1 := hF5 1 1 (by decide) (by decide)
    have hx25 : W10 1 1 = M2 1 1 := by rw [hW11, mset_ne (by decide)]
    have hr26 := iv_1_1 hI4
    have hx27 : M2 1 1 = M 1 1 := hF5 1 1 (by decide) (by decide)
    have hr28 := iv_1_1 hI
    have hr29 := iv_1_1 hI14
    exact hp _ _ hI14 hF15 (by lia)
  · skip
    have hr30 := iv_22_6 hI4
    have hx31 : M2 1 1 = M 1 1 := hF5 1 1 (by decide) (by decide)
    have hx32 : M2 1 1 = M 1 1 := hF5 1 1 (by decide) (by decide)
    have hr33 := iv_1_1 hI
    have hr34 := iv_1_1 hI4
    exact hp _ _ hI4 hF7 (by lia)
set_option maxHeartbeats 4000000 in
theorem sm_X4_takeNameOf__2 {post : Int32 → MM → Int64 → Prop} {M : MM} {tl : Int64} (hI : Inv M) (hp : ∀ (r : Int32) (M1 : MM) (t1 : Int64), Inv M1 → Fr [] [(22, 2), (22, 3), (22, 6), (22, 7), (22, 8), (22, 9)] M M1 → (M 22 2 = 0 ∨ M1 22 2 ≠ 0) ∧ ((r = -1 ∧ M1 22 2 ≠ 0) ∨ (0 ≤ r ∧ r ≤ 5 ∧ M1 22 2 = 0)) ∧ (M1 22 2 ≠ 0 ∨ M 22 6 ≤ M1 22 6) ∧ (M1 22 2 ≠ 0 ∨ M 1 1 < M 22 6 ∨ M1 22 6 ≤ M 1 1) → post r M1 t1) : wpX4_takeNameOf post M tl 2 := by
  unfold wpX4_takeNameOf
  refine sm_X4_takeToken hI  (fun M2 t3 hI4 hF5 hq6 => ?_)
  have hF7 : Fr [] [(22, 2), (22, 3), (22, 6), (22, 7), (22, 8), (22, 9)] M M2 := fr_call fr_rfl hF5 (by decide) (by decide)
  refine ifs (fun hc8 => ?_) (fun hc9 => ?_)
  · skip
    refine sf_X4_nameAmong__2 hI4  (fun r10 hq11 => ?_)
    refine ifs (fun hc12 => ?_) (fun hc13 => ?_)
    · skip
      have hr14 := iv_22_6 hI4
      have hx15 : M2 1 1 = M 1 1 := hF5 1 1 (by decide) (by decide)
      have hx16 : M2 1 1 = M 1 1 := hF5 1 1 (by decide) (by decide)
      have hr17 := iv_1_1 hI
      have hr18 := iv_1_1 hI4
      exact hp _ _ _ hI4 hF7 (by lia)
    · skip
      refine sm_X4_fail hI4 (by lia) (fun r19 M20 t21 hI22 hF23 hq24 => ?_)
      have hF25 : Fr [] [(22, 2), (22, 3), (22, 6), (22, 7), (22, 8), (22, 9)] M M20 := fr_call hF7 hF23 (by decide) (by decide)
      have hx26 : M20 22 6 = M2 22 6 := hF23 22 6 (by decide) (by decide)
      have hx27 : M20 22 6 = M2 22 6 := hF23 22 6 (by decide) (by decide)
      have hr28 := iv_22_6 hI4
      have hr29 := iv_22_6 hI22
      have hx30 : M20 1 1 = M2 1 1 := hF23 1 1 (by decide) (by decide)
      have hx31 : M2 1 1 = M 1 1 := hF5 1 1 (by decide) (by decide)
      have hx32 : M20 1 1 = M2 1 1 := hF23 1 1 (by decide) (by decide)
      have hr33 := iv_1_1 hI4
      have hx34 : M2 1 1 = M 1 1 := hF5 1 1 (by decide) (by decide)
      have hr35 := iv_1_1 hI
      have hr36 := iv_1_1 hI22
      exact hp _ _ _ hI22 hF25 (by lia)
  · skip
    have hr37 := iv_22_6 hI4
    have hx38 : M2 1 1 = M 1 1 := hF5 1 1 (by decide) (by decide)
    have hx39 : M2 1 1 = M 1 1 := hF5 1 1 (by decide) (by decide)
    have hr40 := iv_1_1 hI
    have hr41 := iv_1_1 hI4
    exact hp _ _ _ hI4 hF7 (by lia)
set_option maxHeartbeats 4000000 in
theorem sm_X4_takeNameOf__3 {post : Int32 → MM → Int64 → Prop} {M : MM} {tl : Int64} (hI : Inv M) (hp : ∀ (r : Int32) (M1 : MM) (t1 : Int64), Inv M1 → Fr [] [(22, 2), (22, 3), (22, 6), (22, 7), (22, 8), (22, 9)] M M1 → (M 22 2 = 0 ∨ M1 22 2 ≠ 0) ∧ ((r = -1 ∧ M1 22 2 ≠ 0) ∨ (0 ≤ r ∧ r ≤ 1 ∧ M1 22 2 = 0)) ∧ (M1 22 2 ≠ 0 ∨ M 22 6 ≤ M1 22 6) ∧ (M1 22 2 ≠ 0 ∨ M 1 1 < M 22 6 ∨ M1 22 6 ≤ M 1 1) → post r M1 t1) : wpX4_takeNameOf post M tl 3 := by
  unfold wpX4_takeNameOf
  refine sm_X4_takeToken hI  (fun M2 t3 hI4 hF5 hq6 => ?_)
  have hF7 : Fr [] [(22, 2), (22, 3), (22, 6), (22, 7), (22, 8), (22, 9)] M M2 := fr_call fr_rfl hF5 (by decide) (by decide)
  refine ifs (fun hc8 => ?_) (fun hc9 => ?_)
  · skip
    refine sf_X4_nameAmong__3 hI4  (fun r10 hq11 => ?_)
    refine ifs (fun hc12 => ?_) (fun hc13 => ?_)
    · skip
      have hr14 := iv_22_6 hI4
      have hx15 : M2 1 1 = M 1 1 := hF5 1 1 (by decide) (by decide)
      have hx16 : M2 1 1 = M 1 1 := hF5 1 1 (by decide) (by decide)
      have hr17 := iv_1_1 hI
      have hr18 := iv_1_1 hI4
      exact hp _ _ _ hI4 hF7 (by lia)
    · skip
      refine sm_X4_fail hI4 (by lia) (fun r19 M20 t21 hI22 hF23 hq24 => ?_)
      have hF25 : Fr [] [(22, 2), (22, 3), (22, 6), (22, 7), (22, 8), (22, 9)] M M20 := fr_call hF7 hF23 (by decide) (by decide)
      have hx26 : M20 22 6 = M2 22 6 := hF23 22 6 (by decide) (by decide)
      have hx27 : M20 22 6 = M2 22 6 := hF23 22 6 (by decide) (by decide)
      have hr28 := iv_22_6 hI4
      have hr29 := iv_22_6 hI22
      have hx30 : M20 1 1 = M2 1 1 := hF23 1 1 (by decide) (by decide)
      have hx31 : M2 1 1 = M 1 1 := hF5 1 1 (by decide) (by decide)
      have hx32 : M20 1 1 = M2 1 1 := hF23 1 1 (by decide) (by decide)
      have hr33 := iv_1_1 hI4
      have hx34 : M2 1 1 = M 1 1 := hF5 1 1 (by decide) (by decide)
      have hr35 := iv_1_1 hI
      have hr36 := iv_1_1 hI22
      exact hp _ _ _ hI22 hF25 (by lia)
  · skip
    have hr37 := iv_22_6 hI4
    have hx38 : M2 1 1 = M 1 1 := hF5 1 1 (by decide) (by decide)
    have hx39 : M2 1 1 = M 1 1 := hF5 1 1 (by decide) (by decide)
    have hr40 := iv_1_1 hI
    have hr41 := iv_1_1 hI4
    exact hp _ _ _ hI4 hF7 (by lia)
set_option maxHeartbeats 4000000 in
theorem sm_X4_takeThing {post : Int32 → MM → Int64 → Prop} {M : MM} {tl : Int64} (hI : Inv M) (hp : ∀ (r : Int32) (M1 : MM) (t1 : Int64), Inv M1 → Fr [] [(22, 2), (22, 3), (22, 6), (22, 7), (22, 8), (22, 9)] M M1 → (M 22 2 = 0 ∨ M1 22 2 ≠ 0) ∧ (M1 22 2 ≠ 0 ∨ M 22 6 ≤ M1 22 6) ∧ (M1 22 2 ≠ 0 ∨ M 1 1 < M 22 6 ∨ M1 22 6 ≤ M 1 1) → post r M1 t1) : wpX4_takeThing post M tl  := by
  unfold wpX4_takeThing
  refine sm_X4_takeNameOf__2 hI  (fun r1 M2 t3 hI4 hF5 hq6 => ?_)
  have hF7 : Fr [] [(22, 2), (22, 3), (22, 6), (22, 7), (22, 8), (22, 9)] M M2 := fr_call fr_rfl hF5 (by decide) (by decide)
  refine ifs (fun hc8 => ?_) (fun hc9 => ?_)
  · skip
    refine sm_X4_takeNumber hI4  (fun r10 M11 t12 hI13 hF14 hq15 => ?_)
    have hF16 : Fr [] [(22, 2), (22, 3), (22, 6), (22, 7), (22, 8), (22, 9)] M M11 := fr_call hF7 hF14 (by decide) (by decide)
    refine sm_X4_takeNameOf__3 hI13  (fun r17 M18 t19 hI20 hF21 hq22 => ?_)
    have hF23 : Fr [] [(22, 2), (22, 3), (22, 6), (22, 7), (22, 8), (22, 9)] M M18 := fr_call hF16 hF21 (by decide) (by decide)
    refine ifs (fun hc24 => ?_) (fun hc25 => ?_)
    · skip
      have hr26 := iv_22_6 hI20
      have hx27 : M18 1 1 = M11 1 1 := hF21 1 1 (by decide) (by decide)
      have hx28 : M11 1 1 = M2 1 1 := hF14 1 1 (by decide) (by decide)
      have hx29 : M2 1 1 = M 1 1 := hF5 1 1 (by decide) (by decide)
      have hx30 : M18 1 1 = M11 1 1 := hF21 1 1 (by decide) (by decide)
      have hr31 := iv_1_1 hI13
      have hx32 : M11 1 1 = M2 1 1 := hF14 1 1 (by decide) (by decide)
      have hr33 := iv_1_1 hI4
      have hx34 : M2 1 1 = M 1 1 := hF5 1 1 (by decide) (by decide)
      have hr35 := iv_1_1 hI
      have hr36 := iv_1_1 hI20
      exact hp _ _ _ hI20 hF23 (by lia)
    · skip
      have hr37 := iv_22_6 hI20
      have hx38 : M18 1 1 = M11 1 1 := hF21 1 1 (by decide) (by decide)
      have hx39 : M11 1 1 = M2 1 1 := hF14 1 1 (by decide) (by decide)
      have hx40 : M2 1 1 = M 1 1 := hF5 1 1 (by decide) (by decide)
      have hx41 : M18 1 1 = M11 1 1 := hF21 1 1 (by decide) (by decide)
      have hr42 := iv_1_1 hI13
      have hx43 : M11 1 1 = M2 1 1 := hF14 1 1 (by decide) (by decide)
      have hr44 := iv_1_1 hI4
      have hx45 : M2 1 1 = M 1 1 := hF5 1 1 (by decide) (by decide)
      have hr46 := iv_1_1 hI
      have hr47 := iv_1_1 hI20
      exact hp _ _ _ hI20 hF23 (by lia)
  · skip
    have hr48 := iv_22_6 hI4
    have hx49 : M2 1 1 = M 1 1 := hF5 1 1 (by decide) (by decide)
    have hx50 : M2 1 1 = M 1 1 := hF5 1 1 (by decide) (by decide)
    have hr51 := iv_1_1 hI
    have hr52 := iv_1_1 hI4
    exact hp _ _ _ hI4 hF7 (by lia)
set_option maxHeartbeats 4000000 in
theorem sm_X4_readThing {post : MM → Int64 → Prop} {M : MM} {tl : Int64} (hI : Inv M) (hp : ∀ (M1 : MM) (t1 : Int64), Inv M1 → Fr [35] [(22, 2), (22, 3), (22, 6), (22, 7), (22, 8), (22, 9)] M M1 → (M 22 2 = 0 ∨ M1 22 2 ≠ 0) ∧ (M1 22 2 ≠ 0 ∨ M 22 6 ≤ M1 22 6) ∧ (M1 22 2 ≠ 0 ∨ M 1 1 < M 22 6 ∨ M1 22 6 ≤ M 1 1) → post M1 t1) : wpX4_readThing post M tl  := by
  unfold wpX4_readThing
  refine sm_X4_takeBank hI  (fun r1 M2 t3 hI4 hF5 hq6 => ?_)
  have hF7 : Fr [35] [(22, 2), (22, 3), (22, 6), (22, 7), (22, 8), (22, 9)] M M2 := fr_call fr_rfl hF5 (by decide) (by decide)
  refine sm_X4_takeNumber hI4  (fun r8 M9 t10 hI11 hF12 hq13 => ?_)
  have hF14 : Fr [35] [(22, 2), (22, 3), (22, 6), (22, 7), (22, 8), (22, 9)] M M9 := fr_call hF7 hF12 (by decide) (by decide)
  refine sf_X10_slot hI11  (fun r15 hq16 => ?_)
  refine sm_X4_tellOnce hI11  (fun M18 t19 hI20 hF21 hq22 => ?_)
  have hF23 : Fr [35] [(22, 2), (22, 3), (22, 6), (22, 7), (22, 8), (22, 9)] M M18 := fr_call hF14 hF21 (by decide) (by decide)
  refine sm_X4_takeThing hI20  (fun r24 M25 t26 hI27 hF28 hq29 => ?_)
  have hF30 : Fr [35] [(22, 2), (22, 3), (22, 6), (22, 7), (22, 8), (22, 9)] M M25 := fr_call hF23 hF28 (by decide) (by decide)
  refine ifs (fun hc31 => ?_) (fun hc32 => ?_)
  · skip
    refine sf_X7_setThing__34 hI27  (fun M34 t35 hI36 hF37 hq38 => ?_)
    have hF39 : Fr [35] [(22, 2), (22, 3), (22, 6), (22, 7), (22, 8), (22, 9)] M M34 := fr_call hF30 hF37 (by decide) (by decide)
    have hx40 : M34 22 2 = M25 22 2 := hF37 22 2 (by decide) (by decide)
    have hx41 : M34 22 2 = M25 22 2 := hF37 22 2 (by decide) (by decide)
    have hx42 : M34 22 6 = M25 22 6 := hF37 22 6 (by decide) (by decide)
    have hx43 : M18 22 6 = M9 22 6 := hF21 22 6 (by decide) (by decide)
    have hx44 : M34 22 6 = M25 22 6 := hF37 22 6 (by decide) (by decide)
    have hr45 := iv_22_6 hI27
    have hr46 := iv_22_6 hI36
    have hx47 : M34 1 1 = M25 1 1 := hF37 1 1 (by decide) (by decide)
    have hx48 : M25 1 1 = M18 1 1 := hF28 1 1 (by decide) (by decide)
    have hx49 : M18 1 1 = M9 1 1 := hF21 1 1 (by decide) (by decide)
    have hx50 : M9 1 1 = M2 1 1 := hF12 1 1 (by decide) (by decide)
    have hx51 : M2 1 1 = M 1 1 := hF5 1 1 (by decide) (by decide)
    have hx52 : M34 1 1 = M25 1 1 := hF37 1 1 (by decide) (by decide)
    have hr53 := iv_1_1 hI27
    have hx54 : M25 1 1 = M18 1 1 := hF28 1 1 (by decide) (by decide)
    have hr55 := iv_1_1 hI20
    have hx56 : M18 1 1 = M9 1 1 := hF21 1 1 (by decide) (by decide)
    have hr57 := iv_1_1 hI11
    have hx58 : M9 1 1 = M2 1 1 := hF12 1 1 (by decide) (by decide)
    have hr59 := iv_1_1 hI4
    have hx60 : M2 1 1 = M 1 1 := hF5 1 1 (by decide) (by decide)
    have hr61 := iv_1_1 hI
    have hr62 := iv_1_1 hI36
    exact hp _ _ hI36 hF39 (by lia)
  · skip
    have hx63 : M18 22 6 = M9 22 6 := hF21 22 6 (by decide) (by decide)
    have hr64 := iv_22_6 hI27
    have hx65 : M25 1 1 = M18 1 1 := hF28 1 1 (by decide) (by decide)
    have hx66 : M18 1 1 = M9 1 1 := hF21 1 1 (by decide) (by decide)
    have hx67 : M9 1 1 = M2 1 1 := hF12 1 1 (by decide) (by decide)
    have hx68 : M2 1 1 = M 1 1 := hF5 1 1 (by decide) (by decide)
    have hx69 : M25 1 1 = M18 1 1 := hF28 1 1 (by decide) (by decide)
    have hr70 := iv_1_1 hI20
    have hx71 : M18 1 1 = M9 1 1 := hF21 1 1 (by decide) (by decide)
    have hr72 := iv_1_1 hI11
    have hx73 : M9 1 1 = M2 1 1 := hF12 1 1 (by decide) (by decide)
    have hr74 := iv_1_1 hI4
    have hx75 : M2 1 1 = M 1 1 := hF5 1 1 (by decide) (by decide)
    have hr76 := iv_1_1 hI
    have hr77 := iv_1_1 hI27
    exact hp _ _ hI27 hF30 (by lia)
set_option maxHeartbeats 4000000 in
theorem sm_X4_readWork {post : MM → Int64 → Prop} {M : MM} {tl : Int64} (hI : Inv M) (hp : ∀ (M1 : MM) (t1 : Int64), Inv M1 → Fr [37] [(22, 2), (22, 3), (22, 6), (22, 7), (22, 8), (22, 9), (36, 3)] M M1 → (M 22 2 = 0 ∨ M1 22 2 ≠ 0) ∧ (M1 22 2 ≠ 0 ∨ M 22 6 ≤ M1 22 6) ∧ (M1 22 2 ≠ 0 ∨ M 1 1 < M 22 6 ∨ M1 22 6 ≤ M 1 1) → post M1 t1) : wpX4_readWork post M tl  := by
  unfold wpX4_readWork
  refine sf_X5_isFull__36 hI  (fun r1 hq2 => ?_)
  refine ifs (fun hc3 => ?_) (fun hc4 => ?_)
  · skip
    unfold wX4_readWork_23
    refine sf_X7_lastMonth__34 hI  (fun r5 hq6 => ?_)
    refine sm_X4_takeNumber hI  (fun r7 M8 t9 hI10 hF11 hq12 => ?_)
    have hF13 : Fr [37] [(22, 2), (22, 3), (22, 6), (22, 7), (22, 8), (22, 9), (36, 3)] M M8 := fr_call fr_rfl hF11 (by decide) (by decide)
    refine sm_X4_takeBank hI10  (fun r14 M15 t16 hI17 hF18 hq19 => ?_)
    have hF20 : Fr [37] [(22, 2), (22, 3), (22, 6), (22, 7), (22, 8), (22, 9), (36, 3)] M M15 := fr_call hF13 hF18 (by decide) (by decide)
    refine sm_X4_takeNumber hI17  (fun r21 M22 t23 hI24 hF25 hq26 => ?_)
    have hF27 : Fr [37] [(22, 2), (22, 3), (22, 6), (22, 7), (22, 8), (22, 9), (36, 3)] M M22 := fr_call hF20 hF25 (by decide) (by decide)
    refine sm_X4_takeThing hI24  (fun r28 M29 t30 hI31 hF32 hq33 => ?_)
    have hF34 : Fr [37] [(22, 2), (22, 3), (22, 6), (22, 7), (22, 8), (22, 9), (36, 3)] M M29 := fr_call hF27 hF32 (by decide) (by decide)
    refine ifs (fun hc35 => ?_) (fun hc36 => ?_)
    · skip
      refine sf_X5_addRow__36 hI31  (fun M38 t39 hI40 hF41 hq42 => ?_)
      have hF43 : Fr [37] [(22, 2), (22, 3), (22, 6), (22, 7), (22, 8), (22, 9), (36, 3)] M M38 := fr_call hF34 hF41 (by decide) (by decide)
      have hx44 : M38 22 2 = M29 22 2 := hF41 22 2 (by decide) (by decide)
      have hx45 : M38 22 2 = M29 22 2 := hF41 22 2 (by decide) (by decide)
      have hx46 : M38 22 6 = M29 22 6 := hF41 22 6 (by decide) (by decide)
      have hx47 : M38 22 6 = M29 22 6 := hF41 22 6 (by decide) (by decide)
      have hr48 := iv_22_6 hI31
      have hr49 := iv_22_6 hI40
      have hx50 : M38 1 1 = M29 1 1 := hF41 1 1 (by decide) (by decide)
      have hx51 : M29 1 1 = M22 1 1 := hF32 1 1 (by decide) (by decide)
      have hx52 : M22 1 1 = M15 1 1 := hF25 1 1 (by decide) (by decide)
      have hx53 : M15 1 1 = M8 1 1 := hF18 1 1 (by decide) (by decide)
      have hx54 : M8 1 1 = M 1 1 := hF11 1 1 (by decide) (by decide)
      have hx55 : M38 1 1 = M29 1 1 := hF41 1 1 (by decide) (by decide)
      have hr56 := iv_1_1 hI31
      have hx57 : M29 1 1 = M22 1 1 := hF32 1 1 (by decide) (by decide)
      have hr58 := iv_1_1 hI24
      have hx59 : M22 1 1 = M15 1 1 := hF25 1 1 (by decide) (by decide)
      have hr60 := iv_1_1 hI17
      have hx61 : M15 1 1 = M8 1 1 := hF18 1 1 (by decide) (by decide)
      have hr62 := iv_1_1 hI10
      have hx63 : M8 1 1 = M 1 1 := hF11 1 1 (by decide) (by decide)
      have hr64 := iv_1_1 hI
      have hr65 := iv_1_1 hI40
      exact hp _ _ hI40 hF43 (by lia)
    · skip
      have hr66 := iv_22_6 hI31
      have hx67 : M29 1 1 = M22 1 1 := hF32 1 1 (by decide) (by decide)
      have hx68 : M22 1 1 = M15 1 1 := hF25 1 1 (by decide) (by decide)
      have hx69 : M15 1 1 = M8 1 1 := hF18 1 1 (by decide) (by decide)
      have hx70 : M8 1 1 = M 1 1 := hF11 1 1 (by decide) (by decide)
      have hx71 : M29 1 1 = M22 1 1 := hF32 1 1 (by decide) (by decide)
      have hr72 := iv_1_1 hI24
      have hx73 : M22 1 1 = M15 1 1 := hF25 1 1 (by decide) (by decide)
      have hr74 := iv_1_1 hI17
      have hx75 : M15 1 1 = M8 1 1 := hF18 1 1 (by decide) (by decide)
      have hr76 := iv_1_1 hI10
      have hx77 : M8 1 1 = M 1 1 := hF11 1 1 (by decide) (by decide)
      have hr78 := iv_1_1 hI
      have hr79 := iv_1_1 hI31
      exact hp _ _ hI31 hF34 (by lia)
  · skip
    refine sm_X4_fail hI (by lia) (fun r80 M81 t82 hI83 hF84 hq85 => ?_)
    have hF86 : Fr [37] [(22, 2), (22, 3), (22, 6), (22, 7), (22, 8), (22, 9), (36, 3)] M M81 := fr_call fr_rfl hF84 (by decide) (by decide)
    unfold wX4_readWork_23
    refine sf_X7_lastMonth__34 hI83  (fun r87 hq88 => ?_)
    refine sm_X4_takeNumber hI83  (fun r89 M90 t91 hI92 hF93 hq94 => ?_)
    have hF95 : Fr [37] [(22, 2), (22, 3), (22, 6), (22, 7), (22, 8), (22, 9), (36, 3)] M M90 := fr_call hF86 hF93 (by decide) (by decide)
    refine sm_X4_takeBank hI92  (fun r96 M97 t98 hI99 hF100 hq101 => ?_)
    have hF102 : Fr [37] [(22, 2), (22, 3), (22, 6), (22, 7), (22, 8), (22, 9), (36, 3)] M M97 := fr_call hF95 hF100 (by decide) (by decide)
    refine sm_X4_takeNumber hI99  (fun r103 M104 t105 hI106 hF107 hq108 => ?_)
    have hF109 : Fr [37] [(22, 2), (22, 3), (22, 6), (22, 7), (22, 8), (22, 9), (36, 3)] M M104 := fr_call hF102 hF107 (by decide) (by decide)
    refine sm_X4_takeThing hI106  (fun r110 M111 t112 hI113 hF114 hq115 => ?_)
    have hF116 : Fr [37] [(22, 2), (22, 3), (22, 6), (22, 7), (22, 8), (22, 9), (36, 3)] M M111 := fr_call hF109 hF114 (by decide) (by decide)
    refine ifs (fun hc117 => ?_) (fun hc118 => ?_)
    · skip
      refine sf_X5_addRow__36 hI113  (fun M120 t121 hI122 hF123 hq124 => ?_)
      have hF125 : Fr [37] [(22, 2), (22, 3), (22, 6), (22, 7), (22, 8), (22, 9), (36, 3)] M M120 := fr_call hF116 hF123 (by decide) (by decide)
      have hx126 : M120 22 2 = M111 22 2 := hF123 22 2 (by decide) (by decide)
      have hx127 : M120 22 2 = M111 22 2 := hF123 22 2 (by decide) (by decide)
      have hx128 : M120 22 6 = M111 22 6 := hF123 22 6 (by decide) (by decide)
      have hx129 : M81 22 6 = M 22 6 := hF84 22 6 (by decide) (by decide)
      have hx130 : M120 22 6 = M111 22 6 := hF123 22 6 (by decide) (by decide)
      have hr131 := iv_22_6 hI113
      have hr132 := iv_22_6 hI122
      have hx133 : M120 1 1 = M111 1 1 := hF123 1 1 (by decide) (by decide)
      have hx134 : M111 1 1 = M104 1 1 := hF114 1 1 (by decide) (by decide)
      have hx135 : M104 1 1 = M97 1 1 := hF107 1 1 (by decide) (by decide)
      have hx136 : M97 1 1 = M90 1 1 := hF100 1 1 (by decide) (by decide)
      have hx137 : M90 1 1 = M81 1 1 := hF93 1 1 (by decide) (by decide)
      have hx138 : M81 1 1 = M 1 1 := hF84 1 1 (by decide) (by decide)
      have hx139 : M120 1 1 = M111 1 1 := hF123 1 1 (by decide) (by decide)
      have hr140 := iv_1_1 hI113
      have hx141 : M111 1 1 = M104 1 1 := hF114 1 1 (by decide) (by decide)
      have hr142 := iv_1_1 hI106
      have hx143 : M104 1 1 = M97 1 1 := hF107 1 1 (by decide) (by decide)
      have hr144 := iv_1_1 hI99
      have hx145 : M97 1 1 = M90 1 1 := hF100 1 1 (by decide) (by decide)
      have hr146 := iv_1_1 hI92
      have hx147 : M90 1 1 = M81 1 1 := hF93 1 1 (by decide) (by decide)
      have hr148 := iv_1_1 hI83
      have hx149 : M81 1 1 = M 1 1 := hF84 1 1 (by decide) (by decide)
      have hr150 := iv_1_1 hI
      have hr151 := iv_1_1 hI122
      exact hp _ _ hI122 hF125 (by lia)
    · skip
      have hx152 : M81 22 6 = M 22 6 := hF84 22 6 (by decide) (by decide)
      have hr153 := iv_22_6 hI113
      have hx154 : M111 1 1 = M104 1 1 := hF114 1 1 (by decide) (by decide)
      have hx155 : M104 1 1 = M97 1 1 := hF107 1 1 (by decide) (by decide)
      have hx156 : M97 1 1 = M90 1 1 := hF100 1 1 (by decide) (by decide)
      have hx157 : M90 1 1 = M81 1 1 := hF93 1 1 (by decide) (by decide)
      have hx158 : M81 1 1 = M 1 1 := hF84 1 1 (by decide) (by decide)
      have hx159 : M111 1 1 = M104 1 1 := hF114 1 1 (by decide) (by decide)
      have hr160 := iv_1_1 hI106
      have hx161 : M104 1 1 = M97 1 1 := hF107 1 1 (by decide) (by decide)
      have hr162 := iv_1_1 hI99
      have hx163 : M97 1 1 = M90 1 1 := hF100 1 1 (by decide) (by decide)
      have hr164 := iv_1_1 hI92
      have hx165 : M90 1 1 = M81 1 1 := hF93 1 1 (by decide) (by decide)
      have hr166 := iv_1_1 hI83
      have hx167 : M81 1 1 = M 1 1 := hF84 1 1 (by decide) (by decide)
      have hr168 := iv_1_1 hI
      have hr169 := iv_1_1 hI113
      exact hp _ _ hI113 hF116 (by lia)
set_option maxHeartbeats 4000000 in
theorem sm_X4_readLine {post : MM → Int64 → Prop} {M : MM} {tl : Int64} (hI : Inv M) (hp : ∀ (M1 : MM) (t1 : Int64), Inv M1 → Fr [24, 26, 27, 29, 30, 31, 32, 33, 35, 37] [(22, 2), (22, 3), (22, 6), (22, 7), (22, 8), (22, 9), (23, 0), (23, 1), (23, 2), (23, 3), (36, 3)] M M1 → (M 22 2 = 0 ∨ M1 22 2 ≠ 0) ∧ (M1 22 2 ≠ 0 ∨ M 22 6 ≤ M1 22 6) ∧ (M1 22 2 ≠ 0 ∨ M 1 1 < M 22 6 ∨ M1 22 6 ≤ M 1 1) → post M1 t1) : wpX4_readLine post M tl  := by
  unfold wpX4_readLine
  refine sf_X4_nameAmong__0 hI  (fun r1 hq2 => ?_)
  refine ifs (fun hc3 => ?_) (fun hc4 => ?_)
  · skip
    unfold wX4_readLine_21
    refine ifs (fun hc5 => ?_) (fun hc6 => ?_)
    · skip
      refine sm_X4_tellOnce hI  (fun M8 t9 hI10 hF11 hq12 => ?_)
      have hF13 : Fr [24, 26, 27, 29, 30, 31, 32, 33, 35, 37] [(22, 2), (22, 3), (22, 6), (22, 7), (22, 8), (22, 9), (23, 0), (23, 1), (23, 2), (23, 3), (36, 3)] M M8 := fr_call fr_rfl hF11 (by decide) (by decide)
      refine sm_X4_takeNumber hI10  (fun r14 M15 t16 hI17 hF18 hq19 => ?_)
      have hF20 : Fr [24, 26, 27, 29, 30, 31, 32, 33, 35, 37] [(22, 2), (22, 3), (22, 6), (22, 7), (22, 8), (22, 9), (23, 0), (23, 1), (23, 2), (23, 3), (36, 3)] M M15 := fr_call hF13 hF18 (by decide) (by decide)
      intro W21 hW22
      have hI23 : Inv W21 := by rw [hW22]; exact inv_set hI17 (show (-2147483648) ≤ r14 ∧ r14 ≤ 8 from ⟨by lia, by lia⟩)
      have hF24 : Fr [24, 26, 27, 29, 30, 31, 32, 33, 35, 37] [(22, 2), (22, 3), (22, 6), (22, 7), (22, 8), (22, 9), (23, 0), (23, 1), (23, 2), (23, 3), (36, 3)] M W21 := by rw [hW22]; exact fr_fld hF20 (by decide)
      have hv25 : W21 23 0 = r14 := by rw [hW22]; exact mset_at _ _ _ _
      have hx26 : W21 22 2 = M15 22 2 := by rw [hW22, mset_ne (by decide)]
      have hx27 : W21 22 2 = M15 22 2 := by rw [hW22, mset_ne (by decide)]
      have hx28 : W21 22 6 = M15 22 6 := by rw [hW22, mset_ne (by decide)]
      have hx29 : M8 22 6 = M 22 6 := hF11 22 6 (by decide) (by decide)
      have hx30 : W21 22 6 = M15 22 6 := by rw [hW22, mset_ne (by decide)]
      have hr31 := iv_22_6 hI17
      have hr32 := iv_22_6 hI23
      have hx33 : W21 1 1 = M15 1 1 := by rw [hW22, mset_ne (by decide)]
      have hx34 : M15 1 1 = M8 1 1 := hF18 1 1 (by decide) (by decide)
      have hx35 : M8 1 1 = M 1 1 := hF11 1 1 (by decide) (by decide)
      have hx36 : W21 1 1 = M15 1 1 := by rw [hW22, mset_ne (by decide)]
      have hr37 := iv_1_1 hI17
      have hx38 : M15 1 1 = M8 1 1 := hF18 1 1 (by decide) (by decide)
      have hr39 := iv_1_1 hI10
      have hx40 : M8 1 1 = M 1 1 := hF11 1 1 (by decide) (by decide)
      have hr41 := iv_1_1 hI
      have hr42 := iv_1_1 hI23
      exact hp _ _ hI23 hF24 (by lia)
    · skip
      refine ifs (fun hc43 => ?_) (fun hc44 => ?_)
      · skip
        refine sm_X4_tellOnce hI  (fun M46 t47 hI48 hF49 hq50 => ?_)
        have hF51 : Fr [24, 26, 27, 29, 30, 31, 32, 33, 35, 37] [(22, 2), (22, 3), (22, 6), (22, 7), (22, 8), (22, 9), (23, 0), (23, 1), (23, 2), (23, 3), (36, 3)] M M46 := fr_call fr_rfl hF49 (by decide) (by decide)
        refine sm_X4_takeNumber hI48  (fun r52 M53 t54 hI55 hF56 hq57 => ?_)
        have hF58 : Fr [24, 26, 27, 29, 30, 31, 32, 33, 35, 37] [(22, 2), (22, 3), (22, 6), (22, 7), (22, 8), (22, 9), (23, 0), (23, 1), (23, 2), (23, 3), (36, 3)] M M53 := fr_call hF51 hF56 (by decide) (by decide)
        intro W59 hW60
        have hI61 : Inv W59 := by rw [hW60]; exact inv_set hI55 (i_any _)
        have hF62 : Fr [24, 26, 27, 29, 30, 31, 32, 33, 35, 37] [(22, 2), (22, 3), (22, 6), (22, 7), (22, 8), (22, 9), (23, 0), (23, 1), (23, 2), (23, 3), (36, 3)] M W59 := by rw [hW60]; exact fr_fld hF58 (by decide)
        have hv63 : W59 23 1 = r52 := by rw [hW60]; exact mset_at _ _ _ _
        have hx64 : W59 22 2 = M53 22 2 := by rw [hW60, mset_ne (by decide)]
        have hx65 : W59 22 2 = M53 22 2 := by rw [hW60, mset_ne (by decide)]
        have hx66 : W59 22 6 = M53 22 6 := by rw [hW60, mset_ne (by decide)]
        have hx67 : M46 22 6 = M 22 6 := hF49 22 6 (by decide) (by decide)
        have hx68 : W59 22 6 = M53 22 6 := by rw [hW60, mset_ne (by decide)]
        have hr69 := iv_22_6 hI55
        have hr70 := iv_22_6 hI61
        have hx71 : W59 1 1 = M53 1 1 := by rw [hW60, mset_ne (by decide)]
        have hx72 : M53 1 1 = M46 1 1 := hF56 1 1 (by decide) (by decide)
        have hx73 : M46 1 1 = M 1 1 := hF49 1 1 (by decide) (by decide)
        have hx74 : W59 1 1 = M53 1 1 := by rw [hW60, mset_ne (by decide)]
        have hr75 := iv_1_1 hI55
        have hx76 : M53 1 1 = M46 1 1 := hF56 1 1 (by decide) (by decide)
        have hr77 := iv_1_1 hI48
        have hx78 : M46 1 1 = M 1 1 := hF49 1 1 (by decide) (by decide)
        have hr79 := iv_1_1 hI
        have hr80 := iv_1_1 hI61
        exact hp _ _ hI61 hF62 (by lia)
      · skip
        refine ifs (fun hc81 => ?_) (fun hc82 => ?_)
        · skip
          refine sm_X4_tellOnce hI  (fun M84 t85 hI86 hF87 hq88 => ?_)
          have hF89 : Fr [24, 26, 27, 29, 30, 31, 32, 33, 35, 37] [(22, 2), (22, 3), (22, 6), (22, 7), (22, 8), (22, 9), (23, 0), (23, 1), (23, 2), (23, 3), (36, 3)] M M84 := fr_call fr_rfl hF87 (by decide) (by decide)
          refine sm_X4_takeNumber hI86  (fun r90 M91 t92 hI93 hF94 hq95 => ?_)
          have hF96 : Fr [24, 26, 27, 29, 30, 31, 32, 33, 35, 37] [(22, 2), (22, 3), (22, 6), (22, 7), (22, 8), (22, 9), (23, 0), (23, 1), (23, 2), (23, 3), (36, 3)] M M91 := fr_call hF89 hF94 (by decide) (by decide)
          intro W97 hW98
          have hI99 : Inv W97 := by rw [hW98]; exact inv_set hI93 (i_any _)
          have hF100 : Fr [24, 26, 27, 29, 30, 31, 32, 33, 35, 37] [(22, 2), (22, 3), (22, 6), (22, 7), (22, 8), (22, 9), (23, 0), (23, 1), (23, 2), (23, 3), (36, 3)] M W97 := by rw [hW98]; exact fr_fld hF96 (by decide)
          have hv101 : W97 23 2 = r90 := by rw [hW98]; exact mset_at _ _ _ _
          have hx102 : W97 22 2 = M91 22 2 := by rw [hW98, mset_ne (by decide)]
          have hx103 : W97 22 2 = M91 22 2 := by rw [hW98, mset_ne (by decide)]
          have hx104 : W97 22 6 = M91 22 6 := by rw [hW98, mset_ne (by decide)]
          have hx105 : M84 22 6 = M 22 6 := hF87 22 6 (by decide) (by decide)
          have hx106 : W97 22 6 = M91 22 6 := by rw [hW98, mset_ne (by decide)]
          have hr107 := iv_22_6 hI93
          have hr108 := iv_22_6 hI99
          have hx109 : W97 1 1 = M91 1 1 := by rw [hW98, mset_ne (by decide)]
          have hx110 : M91 1 1 = M84 1 1 := hF94 1 1 (by decide) (by decide)
          have hx111 : M84 1 1 = M 1 1 := hF87 1 1 (by decide) (by decide)
          have hx112 : W97 1 1 = M91 1 1 := by rw [hW98, mset_ne (by decide)]
          have hr113 := iv_1_1 hI93
          have hx114 : M91 1 1 = M84 1 1 := hF94 1 1 (by decide) (by decide)
          have hr115 := iv_1_1 hI86
          have hx116 : M84 1 1 = M 1 1 := hF87 1 1 (by decide) (by decide)
          have hr117 := iv_1_1 hI
          have hr118 := iv_1_1 hI99
          exact hp _ _ hI99 hF100 (by lia)
        · skip
          refine ifs (fun hc119 => ?_) (fun hc120 => ?_)
          · skip
            refine sm_X4_tellOnce hI  (fun M122 t123 hI124 hF125 hq126 => ?_)
            have hF127 : Fr [24, 26, 27, 29, 30, 31, 32, 33, 35, 37] [(22, 2), (22, 3), (22, 6), (22, 7), (22, 8), (22, 9), (23, 0), (23, 1), (23, 2), (23, 3), (36, 3)] M M122 := fr_call fr_rfl hF125 (by decide) (by decide)
            refine sm_X4_readPrices hI124  (fun M129 t130 hI131 hF132 hq133 => ?_)
            have hF134 : Fr [24, 26, 27, 29, 30, 31, 32, 33, 35, 37] [(22, 2), (22, 3), (22, 6), (22, 7), (22, 8), (22, 9), (23, 0), (23, 1), (23, 2), (23, 3), (36, 3)] M M129 := fr_call hF127 hF132 (by decide) (by decide)
            have hx135 : M122 22 6 = M 22 6 := hF125 22 6 (by decide) (by decide)
            have hr136 := iv_22_6 hI131
            have hx137 : M129 1 1 = M122 1 1 := hF132 1 1 (by decide) (by decide)
            have hx138 : M122 1 1 = M 1 1 := hF125 1 1 (by decide) (by decide)
            have hx139 : M129 1 1 = M122 1 1 := hF132 1 1 (by decide) (by decide)
            have hr140 := iv_1_1 hI124
            have hx141 : M122 1 1 = M 1 1 := hF125 1 1 (by decide) (by decide)
            have hr142 := iv_1_1 hI
            have hr143 := iv_1_1 hI131
            exact hp _ _ hI131 hF134 (by lia)
          · skip
            refine ifs (fun hc144 => ?_) (fun hc145 => ?_)
            · skip
              refine sm_X4_readOfKinds__25 hI  (fun M147 t148 hI149 hF150 hq151 => ?_)
              have hF152 : Fr [24, 26, 27, 29, 30, 31, 32, 33, 35, 37] [(22, 2), (22, 3), (22, 6), (22, 7), (22, 8), (22, 9), (23, 0), (23, 1), (23, 2), (23, 3), (36, 3)] M M147 := fr_call fr_rfl hF150 (by decide) (by decide)
              have hr153 := iv_22_6 hI149
              have hx154 : M147 1 1 = M 1 1 := hF150 1 1 (by decide) (by decide)
              have hx155 : M147 1 1 = M 1 1 := hF150 1 1 (by decide) (by decide)
              have hr156 := iv_1_1 hI
              have hr157 := iv_1_1 hI149
              exact hp _ _ hI149 hF152 (by lia)
            · skip
              refine ifs (fun hc158 => ?_) (fun hc159 => ?_)
              · skip
                refine sm_X4_readOfKinds__28 hI  (fun M161 t162 hI163 hF164 hq165 => ?_)
                have hF166 : Fr [24, 26, 27, 29, 30, 31, 32, 33, 35, 37] [(22, 2), (22, 3), (22, 6), (22, 7), (22, 8), (22, 9), (23, 0), (23, 1), (23, 2), (23, 3), (36, 3)] M M161 := fr_call fr_rfl hF164 (by decide) (by decide)
                have hr167 := iv_22_6 hI163
                have hx168 : M161 1 1 = M 1 1 := hF164 1 1 (by decide) (by decide)
                have hx169 : M161 1 1 = M 1 1 := hF164 1 1 (by decide) (by decide)
                have hr170 := iv_1_1 hI
                have hr171 := iv_1_1 hI163
                exact hp _ _ hI163 hF166 (by lia)
              · skip
                refine ifs (fun hc172 => ?_) (fun hc173 => ?_)
                · skip
                  refine sm_X4_readLack hI  (fun M175 t176 hI177 hF178 hq179 => ?_)
                  have hF180 : Fr [24, 26, 27, 29, 30, 31, 32, 33, 35, 37] [(22, 2), (22, 3), (22, 6), (22, 7), (22, 8), (22, 9), (23, 0), (23, 1), (23, 2), (23, 3), (36, 3)] M M175 := fr_call fr_rfl hF178 (by decide) (by decide)
                  have hr181 := iv_22_6 hI177
                  have hx182 : M175 1 1 = M 1 1 := hF178 1 1 (by decide) (by decide)
                  have hx183 : M175 1 1 = M 1 1 := hF178 1 1 (by decide) (by decide)
                  have hr184 := iv_1_1 hI
                  have hr185 := iv_1_1 hI177
                  exact hp _ _ hI177 hF180 (by lia)
                · skip
                  refine ifs (fun hc186 => ?_) (fun hc187 => ?_)
                  · skip
                    refine sm_X4_readTwins hI  (fun M189 t190 hI191 hF192 hq193 => ?_)
                    have hF194 : Fr [24, 26, 27, 29, 30, 31, 32, 33, 35, 37] [(22, 2), (22, 3), (22, 6), (22, 7), (22, 8), (22, 9), (23, 0), (23, 1), (23, 2), (23, 3), (36, 3)] M M189 := fr_call fr_rfl hF192 (by decide) (by decide)
                    have hr195 := iv_22_6 hI191
                    have hx196 : M189 1 1 = M 1 1 := hF192 1 1 (by decide) (by decide)
                    have hx197 : M189 1 1 = M 1 1 := hF192 1 1 (by decide) (by decide)
                    have hr198 := iv_1_1 hI
                    have hr199 := iv_1_1 hI191
                    exact hp _ _ hI191 hF194 (by lia)
                  · skip
                    refine ifs (fun hc200 => ?_) (fun hc201 => ?_)
                    · skip
                      refine sm_X4_readPaint hI  (fun M203 t204 hI205 hF206 hq207 => ?_)
                      have hF208 : Fr [24, 26, 27, 29, 30, 31, 32, 33, 35, 37] [(22, 2), (22, 3), (22, 6), (22, 7), (22, 8), (22, 9), (23, 0), (23, 1), (23, 2), (23, 3), (36, 3)] M M203 := fr_call fr_rfl hF206 (by decide) (by decide)
                      have hr209 := iv_22_6 hI205
                      have hx210 : M203 1 1 = M 1 1 := hF206 1 1 (by decide) (by decide)
                      have hx211 : M203 1 1 = M 1 1 := hF206 1 1 (by decide) (by decide)
                      have hr212 := iv_1_1 hI
                      have hr213 := iv_1_1 hI205
                      exact hp _ _ hI205 hF208 (by lia)
                    · skip
                      refine ifs (fun hc214 => ?_) (fun hc215 => ?_)
                      · skip
                        refine sm_X4_readRight hI  (fun M217 t218 hI219 hF220 hq221 => ?_)
                        have hF222 : Fr [24, 26, 27, 29, 30, 31, 32, 33, 35, 37] [(22, 2), (22, 3), (22, 6), (22, 7), (22, 8), (22, 9), (23, 0), (23, 1), (23, 2), (23, 3), (36, 3)] M M217 := fr_call fr_rfl hF220 (by decide) (by decide)
                        have hr223 := iv_22_6 hI219
                        have hx224 : M217 1 1 = M 1 1 := hF220 1 1 (by decide) (by decide)
                        have hx225 : M217 1 1 = M 1 1 := hF220 1 1 (by decide) (by decide)
                        have hr226 := iv_1_1 hI
                        have hr227 := iv_1_1 hI219
                        exact hp _ _ hI219 hF222 (by lia)
                      · skip
                        refine ifs (fun hc228 => ?_) (fun hc229 => ?_)
                        · skip
                          refine sm_X4_readThing hI  (fun M231 t232 hI233 hF234 hq235 => ?_)
                          have hF236 : Fr [24, 26, 27, 29, 30, 31, 32, 33, 35, 37] [(22, 2), (22, 3), (22, 6), (22, 7), (22, 8), (22, 9), (23, 0), (23, 1), (23, 2), (23, 3), (36, 3)] M M231 := fr_call fr_rfl hF234 (by decide) (by decide)
                          have hr237 := iv_22_6 hI233
                          have hx238 : M231 1 1 = M 1 1 := hF234 1 1 (by decide) (by decide)
                          have hx239 : M231 1 1 = M 1 1 := hF234 1 1 (by decide) (by decide)
                          have hr240 := iv_1_1 hI
                          have hr241 := iv_1_1 hI233
                          exact hp _ _ hI233 hF236 (by lia)
                        · skip
                          refine ifs (fun hc242 => ?_) (fun hc243 => ?_)
                          · skip
                            refine sm_X4_readWork hI  (fun M245 t246 hI247 hF248 hq249 => ?_)
                            have hF250 : Fr [24, 26, 27, 29, 30, 31, 32, 33, 35, 37] [(22, 2), (22, 3), (22, 6), (22, 7), (22, 8), (22, 9), (23, 0), (23, 1), (23, 2), (23, 3), (36, 3)] M M245 := fr_call fr_rfl hF248 (by decide) (by decide)
                            have hr251 := iv_22_6 hI247
                            have hx252 : M245 1 1 = M 1 1 := hF248 1 1 (by decide) (by decide)
                            have hx253 : M245 1 1 = M 1 1 := hF248 1 1 (by decide) (by decide)
                            have hr254 := iv_1_1 hI
                            have hr255 := iv_1_1 hI247
                            exact hp _ _ hI247 hF250 (by lia)
                          · skip
                            have hr256 := iv_22_6 hI
                            have hr257 := iv_1_1 hI
                            exact hp _ _ hI fr_rfl (by lia)
  · skip
    refine sm_X4_fail hI (by lia) (fun r258 M259 t260 hI261 hF262 hq263 => ?_)
    have hF264 : Fr [24, 26, 27, 29, 30, 31, 32, 33, 35, 37] [(22, 2), (22, 3), (22, 6), (22, 7), (22, 8), (22, 9), (23, 0), (23, 1), (23, 2), (23, 3), (36, 3)] M M259 := fr_call fr_rfl hF262 (by decide) (by decide)
    unfold wX4_readLine_21
    refine ifs (fun hc265 => ?_) (fun hc266 => ?_)
    · skip
      refine sm_X4_tellOnce hI261  (fun M268 t269 hI270 hF271 hq272 => ?_)
      have hF273 : Fr [24, 26, 27, 29, 30, 31, 32, 33, 35, 37] [(22, 2), (22, 3), (22, 6), (22, 7), (22, 8), (22, 9), (23, 0), (23, 1), (23, 2), (23, 3), (36, 3)] M M268 := fr_call hF264 hF271 (by decide) (by decide)
      refine sm_X4_takeNumber hI270  (fun r274 M275 t276 hI277 hF278 hq279 => ?_)
      have hF280 : Fr [24, 26, 27, 29, 30, 31, 32, 33, 35, 37] [(22, 2), (22, 3), (22, 6), (22, 7), (22, 8), (22, 9), (23, 0), (23, 1), (23, 2), (23, 3), (36, 3)] M M275 := fr_call hF273 hF278 (by decide) (by decide)
      intro W281 hW282
      have hI283 : Inv W281 := by rw [hW282]; exact inv_set hI277 (show (-2147483648) ≤ r274 ∧ r274 ≤ 8 from ⟨by lia, by lia⟩)
      have hF284 : Fr [24, 26, 27, 29, 30, 31, 32, 33, 35, 37] [(22, 2), (22, 3), (22, 6), (22, 7), (22, 8), (22, 9), (23, 0), (23, 1), (23, 2), (23, 3), (36, 3)] M W281 := by rw [hW282]; exact fr_fld hF280 (by decide)
      have hv285 : W281 23 0 = r274 := by rw [hW282]; exact mset_at _ _ _ _
      have hx286 : W281 22 2 = M275 22 2 := by rw [hW282, mset_ne (by decide)]
      have hx287 : W281 22 2 = M275 22 2 := by rw [hW282, mset_ne (by decide)]
      have hx288 : W281 22 6 = M275 22 6 := by rw [hW282, mset_ne (by decide)]
      have hx289 : M268 22 6 = M259 22 6 := hF271 22 6 (by decide) (by decide)
      have hx290 : M259 22 6 = M 22 6 := hF262 22 6 (by decide) (by decide)
      have hx291 : W281 22 6 = M275 22 6 := by rw [hW282, mset_ne (by decide)]
      have hr292 := iv_22_6 hI277
      have hr293 := iv_22_6 hI283
      have hx294 : W281 1 1 = M275 1 1 := by rw [hW282, mset_ne (by decide)]
      have hx295 : M275 1 1 = M268 1 1 := hF278 1 1 (by decide) (by decide)
      have hx296 : M268 1 1 = M259 1 1 := hF271 1 1 (by decide) (by decide)
      have hx297 : M259 1 1 = M 1 1 := hF262 1 1 (by decide) (by decide)
      have hx298 : W281 1 1 = M275 1 1 := by rw [hW282, mset_ne (by decide)]
      have hr299 := iv_1_1 hI277
      have hx300 : M275 1 1 = M268 1 1 := hF278 1 1 (by decide) (by decide)
      have hr301 := iv_1_1 hI270
      have hx302 : M268 1 1 = M259 1 1 := hF271 1 1 (by decide) (by decide)
      have hr303 := iv_1_1 hI261
      have hx304 : M259 1 1 = M 1 1 := hF262 1 1 (by decide) (by decide)
      have hr305 := iv_1_1 hI
      have hr306 := iv_1_1 hI283
      exact hp _ _ hI283 hF284 (by lia)
    · skip
      refine ifs (fun hc307 => ?_) (fun hc308 => ?_)
      · skip
        refine sm_X4_tellOnce hI261  (fun M310 t311 hI312 hF313 hq314 => ?_)
        have hF315 : Fr [24, 26, 27, 29, 30, 31, 32, 33, 35, 37] [(22, 2), (22, 3), (22, 6), (22, 7), (22, 8), (22, 9), (23, 0), (23, 1), (23, 2), (23, 3), (36, 3)] M M310 := fr_call hF264 hF313 (by decide) (by decide)
        refine sm_X4_takeNumber hI312  (fun r316 M317 t318 hI319 hF320 hq321 => ?_)
        have hF322 : Fr [24, 26, 27, 29, 30, 31, 32, 33, 35, 37] [(22, 2), (22, 3), (22, 6), (22, 7), (22, 8), (22, 9), (23, 0), (23, 1), (23, 2), (23, 3), (36, 3)] M M317 := fr_call hF315 hF320 (by decide) (by decide)
        intro W323 hW324
        have hI325 : Inv W323 := by rw [hW324]; exact inv_set hI319 (i_any _)
        have hF326 : Fr [24, 26, 27, 29, 30, 31, 32, 33, 35, 37] [(22, 2), (22, 3), (22, 6), (22, 7), (22, 8), (22, 9), (23, 0), (23, 1), (23, 2), (23, 3), (36, 3)] M W323 := by rw [hW324]; exact fr_fld hF322 (by decide)
        have hv327 : W323 23 1 = r316 := by rw [hW324]; exact mset_at _ _ _ _
        have hx328 : W323 22 2 = M317 22 2 := by rw [hW324, mset_ne (by decide)]
        have hx329 : W323 22 2 = M317 22 2 := by rw [hW324, mset_ne (by decide)]
        have hx330 : W323 22 6 = M317 22 6 := by rw [hW324, mset_ne (by decide)]
        have hx331 : M310 22 6 = M259 22 6 := hF313 22 6 (by decide) (by decide)
        have hx332 : M259 22 6 = M 22 6 := hF262 22 6 (by decide) (by decide)
        have hx333 : W323 22 6 = M317 22 6 := by rw [hW324, mset_ne (by decide)]
        have hr334 := iv_22_6 hI319
        have hr335 := iv_22_6 hI325
        have hx336 : W323 1 1 = M317 1 1 := by rw [hW324, mset_ne (by decide)]
        have hx337 : M317 1 1 = M310 1 1 := hF320 1 1 (by decide) (by decide)
        have hx338 : M310 1 1 = M259 1 1 := hF313 1 1 (by decide) (by decide)
        have hx339 : M259 1 1 = M 1 1 := hF262 1 1 (by decide) (by decide)
        have hx340 : W323 1 1 = M317 1 1 := by rw [hW324, mset_ne (by decide)]
        have hr341 := iv_1_1 hI319
        have hx342 : M317 1 1 = M310 1 1 := hF320 1 1 (by decide) (by decide)
        have hr343 := iv_1_1 hI312
        have hx344 : M310 1 1 = M259 1 1 := hF313 1 1 (by decide) (by decide)
        have hr345 := iv_1_1 hI261
        have hx346 : M259 1 1 = M 1 1 := hF262 1 1 (by decide) (by decide)
        have hr347 := iv_1_1 hI
        have hr348 := iv_1_1 hI325
        exact hp _ _ hI325 hF326 (by lia)
      · skip
        refine ifs (fun hc349 => ?_) (fun hc350 => ?_)
        · skip
          refine sm_X4_tellOnce hI261  (fun M352 t353 hI354 hF355 hq356 => ?_)
          have hF357 : Fr [24, 26, 27, 29, 30, 31, 32, 33, 35, 37] [(22, 2), (22, 3), (22, 6), (22, 7), (22, 8), (22, 9), (23, 0), (23, 1), (23, 2), (23, 3), (36, 3)] M M352 := fr_call hF264 hF355 (by decide) (by decide)
          refine sm_X4_takeNumber hI354  (fun r358 M359 t360 hI361 hF362 hq363 => ?_)
          have hF364 : Fr [24, 26, 27, 29, 30, 31, 32, 33, 35, 37] [(22, 2), (22, 3), (22, 6), (22, 7), (22, 8), (22, 9), (23, 0), (23, 1), (23, 2), (23, 3), (36, 3)] M M359 := fr_call hF357 hF362 (by decide) (by decide)
          intro W365 hW366
          have hI367 : Inv W365 := by rw [hW366]; exact inv_set hI361 (i_any _)
          have hF368 : Fr [24, 26, 27, 29, 30, 31, 32, 33, 35, 37] [(22, 2), (22, 3), (22, 6), (22, 7), (22, 8), (22, 9), (23, 0), (23, 1), (23, 2), (23, 3), (36, 3)] M W365 := by rw [hW366]; exact fr_fld hF364 (by decide)
          have hv369 : W365 23 2 = r358 := by rw [hW366]; exact mset_at _ _ _ _
          have hx370 : W365 22 2 = M359 22 2 := by rw [hW366, mset_ne (by decide)]
          have hx371 : W365 22 2 = M359 22 2 := by rw [hW366, mset_ne (by decide)]
          have hx372 : W365 22 6 = M359 22 6 := by rw [hW366, mset_ne (by decide)]
          have hx373 : M352 22 6 = M259 22 6 := hF355 22 6 (by decide) (by decide)
          have hx374 : M259 22 6 = M 22 6 := hF262 22 6 (by decide) (by decide)
          have hx375 : W365 22 6 = M359 22 6 := by rw [hW366, mset_ne (by decide)]
          have hr376 := iv_22_6 hI361
          have hr377 := iv_22_6 hI367
          have hx378 : W365 1 1 = M359 1 1 := by rw [hW366, mset_ne (by decide)]
          have hx379 : M359 1 1 = M352 1 1 := hF362 1 1 (by decide) (by decide)
          have hx380 : M352 1 1 = M259 1 1 := hF355 1 1 (by decide) (by decide)
          have hx381 : M259 1 1 = M 1 1 := hF262 1 1 (by decide) (by decide)
          have hx382 : W365 1 1 = M359 1 1 := by rw [hW366, mset_ne (by decide)]
          have hr383 := iv_1_1 hI361
          have hx384 : M359 1 1 = M352 1 1 := hF362 1 1 (by decide) (by decide)
          have hr385 := iv_1_1 hI354
          have hx386 : M352 1 1 = M259 1 1 := hF355 1 1 (by decide) (by decide)
          have hr387 := iv_1_1 hI261
          have hx388 : M259 1 1 = M 1 1 := hF262 1 1 (by decide) (by decide)
          have hr389 := iv_1_1 hI
          have hr390 := iv_1_1 hI367
          exact hp _ _ hI367 hF368 (by lia)
        · skip
          refine ifs (fun hc391 => ?_) (fun hc392 => ?_)
          · skip
            refine sm_X4_tellOnce hI261  (fun M394 t395 hI396 hF397 hq398 => ?_)
            have hF399 : Fr [24, 26, 27, 29, 30, 31, 32, 33, 35, 37] [(22, 2), (22, 3), (22, 6), (22, 7), (22, 8), (22, 9), (23, 0), (23, 1), (23, 2), (23, 3), (36, 3)] M M394 := fr_call hF264 hF397 (by decide) (by decide)
            refine sm_X4_readPrices hI396  (fun M401 t402 hI403 hF404 hq405 => ?_)
            have hF406 : Fr [24, 26, 27, 29, 30, 31, 32, 33, 35, 37] [(22, 2), (22, 3), (22, 6), (22, 7), (22, 8), (22, 9), (23, 0), (23, 1), (23, 2), (23, 3), (36, 3)] M M401 := fr_call hF399 hF404 (by decide) (by decide)
            have hx407 : M394 22 6 = M259 22 6 := hF397 22 6 (by decide) (by decide)
            have hx408 : M259 22 6 = M 22 6 := hF262 22 6 (by decide) (by decide)
            have hr409 := iv_22_6 hI403
            have hx410 : M401 1 1 = M394 1 1 := hF404 1 1 (by decide) (by decide)
            have hx411 : M394 1 1 = M259 1 1 := hF397 1 1 (by decide) (by decide)
            have hx412 : M259 1 1 = M 1 1 := hF262 1 1 (by decide) (by decide)
            have hx413 : M401 1 1 = M394 1 1 := hF404 1 1 (by decide) (by decide)
            have hr414 := iv_1_1 hI396
            have hx415 : M394 1 1 = M259 1 1 := hF397 1 1 (by decide) (by decide)
            have hr416 := iv_1_1 hI261
            have hx417 : M259 1 1 = M 1 1 := hF262 1 1 (by decide) (by decide)
            have hr418 := iv_1_1 hI
            have hr419 := iv_1_1 hI403
            exact hp _ _ hI403 hF406 (by lia)
          · skip
            refine ifs (fun hc420 => ?_) (fun hc421 => ?_)
            · skip
              refine sm_X4_readOfKinds__25 hI261  (fun M423 t424 hI425 hF426 hq427 => ?_)
              have hF428 : Fr [24, 26, 27, 29, 30, 31, 32, 33, 35, 37] [(22, 2), (22, 3), (22, 6), (22, 7), (22, 8), (22, 9), (23, 0), (23, 1), (23, 2), (23, 3), (36, 3)] M M423 := fr_call hF264 hF426 (by decide) (by decide)
              have hx429 : M259 22 6 = M 22 6 := hF262 22 6 (by decide) (by decide)
              have hr430 := iv_22_6 hI425
              have hx431 : M423 1 1 = M259 1 1 := hF426 1 1 (by decide) (by decide)
              have hx432 : M259 1 1 = M 1 1 := hF262 1 1 (by decide) (by decide)
              have hx433 : M423 1 1 = M259 1 1 := hF426 1 1 (by decide) (by decide)
              have hr434 := iv_1_1 hI261
              have hx435 : M259 1 1 = M 1 1 := hF262 1 1 (by decide) (by decide)
              have hr436 := iv_1_1 hI
              have hr437 := iv_1_1 hI425
              exact hp _ _ hI425 hF428 (by lia)
            · skip
              refine ifs (fun hc438 => ?_) (fun hc439 => ?_)
              · skip
                refine sm_X4_readOfKinds__28 hI261  (fun M441 t442 hI443 hF444 hq445 => ?_)
                have hF446 : Fr [24, 26, 27, 29, 30, 31, 32, 33, 35, 37] [(22, 2), (22, 3), (22, 6), (22, 7), (22, 8), (22, 9), (23, 0), (23, 1), (23, 2), (23, 3), (36, 3)] M M441 := fr_call hF264 hF444 (by decide) (by decide)
                have hx447 : M259 22 6 = M 22 6 := hF262 22 6 (by decide) (by decide)
                have hr448 := iv_22_6 hI443
                have hx449 : M441 1 1 = M259 1 1 := hF444 1 1 (by decide) (by decide)
                have hx450 : M259 1 1 = M 1 1 := hF262 1 1 (by decide) (by decide)
                have hx451 : M441 1 1 = M259 1 1 := hF444 1 1 (by decide) (by decide)
                have hr452 := iv_1_1 hI261
                have hx453 : M259 1 1 = M 1 1 := hF262 1 1 (by decide) (by decide)
                have hr454 := iv_1_1 hI
                have hr455 := iv_1_1 hI443
                exact hp _ _ hI443 hF446 (by lia)
              · skip
                refine ifs (fun hc456 => ?_) (fun hc457 => ?_)
                · skip
                  refine sm_X4_readLack hI261  (fun M459 t460 hI461 hF462 hq463 => ?_)
                  have hF464 : Fr [24, 26, 27, 29, 30, 31, 32, 33, 35, 37] [(22, 2), (22, 3), (22, 6), (22, 7), (22, 8), (22, 9), (23, 0), (23, 1), (23, 2), (23, 3), (36, 3)] M M459 := fr_call hF264 hF462 (by decide) (by decide)
                  have hx465 : M259 22 6 = M 22 6 := hF262 22 6 (by decide) (by decide)
                  have hr466 := iv_22_6 hI461
                  have hx467 : M459 1 1 = M259 1 1 := hF462 1 1 (by decide) (by decide)
                  have hx468 : M259 1 1 = M 1 1 := hF262 1 1 (by decide) (by decide)
                  have hx469 : M459 1 1 = M259 1 1 := hF462 1 1 (by decide) (by decide)
                  have hr470 := iv_1_1 hI261
                  have hx471 : M259 1 1 = M 1 1 := hF262 1 1 (by decide) (by decide)
                  have hr472 := iv_1_1 hI
                  have hr473 := iv_1_1 hI461
                  exact hp _ _ hI461 hF464 (by lia)
                · skip
                  refine ifs (fun hc474 => ?_) (fun hc475 => ?_)
                  · skip
                    refine sm_X4_readTwins hI261  (fun M477 t478 hI479 hF480 hq481 => ?_)
                    have hF482 : Fr [24, 26, 27, 29, 30, 31, 32, 33, 35, 37] [(22, 2), (22, 3), (22, 6), (22, 7), (22, 8), (22, 9), (23, 0), (23, 1), (23, 2), (23, 3), (36, 3)] M M477 := fr_call hF264 hF480 (by decide) (by decide)
                    have hx483 : M259 22 6 = M 22 6 := hF262 22 6 (by decide) (by decide)
                    have hr484 := iv_22_6 hI479
                    have hx485 : M477 1 1 = M259 1 1 := hF480 1 1 (by decide) (by decide)
                    have hx486 : M259 1 1 = M 1 1 := hF262 1 1 (by decide) (by decide)
                    have hx487 : M477 1 1 = M259 1 1 := hF480 1 1 (by decide) (by decide)
                    have hr488 := iv_1_1 hI261
                    have hx489 : M259 1 1 = M 1 1 := hF262 1 1 (by decide) (by decide)
                    have hr490 := iv_1_1 hI
                    have hr491 := iv_1_1 hI479
                    exact hp _ _ hI479 hF482 (by lia)
                  · skip
                    refine ifs (fun hc492 => ?_) (fun hc493 => ?_)
                    · skip
                      refine sm_X4_readPaint hI261  (fun M495 t496 hI497 hF498 hq499 => ?_)
                      have hF500 : Fr [24, 26, 27, 29, 30, 31, 32, 33, 35, 37] [(22, 2), (22, 3), (22, 6), (22, 7), (22, 8), (22, 9), (23, 0), (23, 1), (23, 2), (23, 3), (36, 3)] M M495 := fr_call hF264 hF498 (by decide) (by decide)
                      have hx501 : M259 22 6 = M 22 6 := hF262 22 6 (by decide) (by decide)
                      have hr502 := iv_22_6 hI497
                      have hx503 : M495 1 1 = M259 1 1 := hF498 1 1 (by decide) (by decide)
                      have hx504 : M259 1 1 = M 1 1 := hF262 1 1 (by decide) (by decide)
                      have hx505 : M495 1 1 = M259 1 1 := hF498 1 1 (by decide) (by decide)
                      have hr506 := iv_1_1 hI261
                      have hx507 : M259 1 1 = M 1 1 := hF262 1 1 (by decide) (by decide)
                      have hr508 := iv_1_1 hI
                      have hr509 := iv_1_1 hI497
                      exact hp _ _ hI497 hF500 (by lia)
                    · skip
                      refine ifs (fun hc510 => ?_) (fun hc511 => ?_)
                      · skip
                        refine sm_X4_readRight hI261  (fun M513 t514 hI515 hF516 hq517 => ?_)
                        have hF518 : Fr [24, 26, 27, 29, 30, 31, 32, 33, 35, 37] [(22, 2), (22, 3), (22, 6), (22, 7), (22, 8), (22, 9), (23, 0), (23, 1), (23, 2), (23, 3), (36, 3)] M M513 := fr_call hF264 hF516 (by decide) (by decide)
                        have hx519 : M259 22 6 = M 22 6 := hF262 22 6 (by decide) (by decide)
                        have hr520 := iv_22_6 hI515
                        have hx521 : M513 1 1 = M259 1 1 := hF516 1 1 (by decide) (by decide)
                        have hx522 : M259 1 1 = M 1 1 := hF262 1 1 (by decide) (by decide)
                        have hx523 : M513 1 1 = M259 1 1 := hF516 1 1 (by decide) (by decide)
                        have hr524 := iv_1_1 hI261
                        have hx525 : M259 1 1 = M 1 1 := hF262 1 1 (by decide) (by decide)
                        have hr526 := iv_1_1 hI
                        have hr527 := iv_1_1 hI515
                        exact hp _ _ hI515 hF518 (by lia)
                      · skip
                        refine ifs (fun hc528 => ?_) (fun hc529 => ?_)
                        · skip
                          refine sm_X4_readThing hI261  (fun M531 t532 hI533 hF534 hq535 => ?_)
                          have hF536 : Fr [24, 26, 27, 29, 30, 31, 32, 33, 35, 37] [(22, 2), (22, 3), (22, 6), (22, 7), (22, 8), (22, 9), (23, 0), (23, 1), (23, 2), (23, 3), (36, 3)] M M531 := fr_call hF264 hF534 (by decide) (by decide)
                          have hx537 : M259 22 6 = M 22 6 := hF262 22 6 (by decide) (by decide)
                          have hr538 := iv_22_6 hI533
                          have hx539 : M531 1 1 = M259 1 1 := hF534 1 1 (by decide) (by decide)
                          have hx540 : M259 1 1 = M 1 1 := hF262 1 1 (by decide) (by decide)
                          have hx541 : M531 1 1 = M259 1 1 := hF534 1 1 (by decide) (by decide)
                          have hr542 := iv_1_1 hI261
                          have hx543 : M259 1 1 = M 1 1 := hF262 1 1 (by decide) (by decide)
                          have hr544 := iv_1_1 hI
                          have hr545 := iv_1_1 hI533
                          exact hp _ _ hI533 hF536 (by lia)
                        · skip
                          refine ifs (fun hc546 => ?_) (fun hc547 => ?_)
                          · skip
                            refine sm_X4_readWork hI261  (fun M549 t550 hI551 hF552 hq553 => ?_)
                            have hF554 : Fr [24, 26, 27, 29, 30, 31, 32, 33, 35, 37] [(22, 2), (22, 3), (22, 6), (22, 7), (22, 8), (22, 9), (23, 0), (23, 1), (23, 2), (23, 3), (36, 3)] M M549 := fr_call hF264 hF552 (by decide) (by decide)
                            have hx555 : M259 22 6 = M 22 6 := hF262 22 6 (by decide) (by decide)
                            have hr556 := iv_22_6 hI551
                            have hx557 : M549 1 1 = M259 1 1 := hF552 1 1 (by decide) (by decide)
                            have hx558 : M259 1 1 = M 1 1 := hF262 1 1 (by decide) (by decide)
                            have hx559 : M549 1 1 = M259 1 1 := hF552 1 1 (by decide) (by decide)
                            have hr560 := iv_1_1 hI261
                            have hx561 : M259 1 1 = M 1 1 := hF262 1 1 (by decide) (by decide)
                            have hr562 := iv_1_1 hI
                            have hr563 := iv_1_1 hI551
                            exact hp _ _ hI551 hF554 (by lia)
                          · skip
                            have hx564 : M259 22 6 = M 22 6 := hF262 22 6 (by decide) (by decide)
                            have hx565 : M259 22 6 = M 22 6 := hF262 22 6 (by decide) (by decide)
                            have hr566 := iv_22_6 hI
                            have hr567 := iv_22_6 hI261
                            have hx568 : M259 1 1 = M 1 1 := hF262 1 1 (by decide) (by decide)
                            have hx569 : M259 1 1 = M 1 1 := hF262 1 1 (by decide) (by decide)
                            have hr570 := iv_1_1 hI
                            have hr571 := iv_1_1 hI261
                            exact hp _ _ hI261 hF264 (by lia)
set_option maxHeartbeats 4000000 in
theorem sm_X4_takeStop {post : MM → Int64 → Prop} {M : MM} {tl : Int64} (hI : Inv M) (hp : ∀ (M1 : MM) (t1 : Int64), Inv M1 → Fr [] [(22, 2), (22, 3), (22, 6), (22, 7), (22, 8), (22, 9)] M M1 → (M 22 2 = 0 ∨ M1 22 2 ≠ 0) ∧ (M1 22 2 ≠ 0 ∨ M 22 6 ≤ M1 22 6) ∧ (M1 22 2 ≠ 0 ∨ M 1 1 < M 22 6 ∨ M1 22 6 ≤ M 1 1) → post M1 t1) : wpX4_takeStop post M tl  := by
  unfold wpX4_takeStop
  refine sm_X4_takeToken hI  (fun M2 t3 hI4 hF5 hq6 => ?_)
  have hF7 : Fr [] [(22, 2), (22, 3), (22, 6), (22, 7), (22, 8), (22, 9)] M M2 := fr_call fr_rfl hF5 (by decide) (by decide)
  refine ifs (fun hc8 => ?_) (fun hc9 => ?_)
  · skip
    refine ifs (fun hc10 => ?_) (fun hc11 => ?_)
    · skip
      have hr12 := iv_22_6 hI4
      have hx13 : M2 1 1 = M 1 1 := hF5 1 1 (by decide) (by decide)
      have hx14 : M2 1 1 = M 1 1 := hF5 1 1 (by decide) (by decide)
      have hr15 := iv_1_1 hI
      have hr16 := iv_1_1 hI4
      exact hp _ _ hI4 hF7 (by lia)
    · skip
      refine sm_X4_fail hI4 (by lia) (fun r17 M18 t19 hI20 hF21 hq22 => ?_)
      have hF23 : Fr [] [(22, 2), (22, 3), (22, 6), (22, 7), (22, 8), (22, 9)] M M18 := fr_call hF7 hF21 (by decide) (by decide)
      have hx24 : M18 22 6 = M2 22 6 := hF21 22 6 (by decide) (by decide)
      have hx25 : M18 22 6 = M2 22 6 := hF21 22 6 (by decide) (by decide)
      have hr26 := iv_22_6 hI4
      have hr27 := iv_22_6 hI20
      have hx28 : M18 1 1 = M2 1 1 := hF21 1 1 (by decide) (by decide)
      have hx29 : M2 1 1 = M 1 1 := hF5 1 1 (by decide) (by decide)
      have hx30 : M18 1 1 = M2 1 1 := hF21 1 1 (by decide) (by decide)
      have hr31 := iv_1_1 hI4
      have hx32 : M2 1 1 = M 1 1 := hF5 1 1 (by decide) (by decide)
      have hr33 := iv_1_1 hI
      have hr34 := iv_1_1 hI20
      exact hp _ _ hI20 hF23 (by lia)
  · skip
    have hr35 := iv_22_6 hI4
    have hx36 : M2 1 1 = M 1 1 := hF5 1 1 (by decide) (by decide)
    have hx37 : M2 1 1 = M 1 1 := hF5 1 1 (by decide) (by decide)
    have hr38 := iv_1_1 hI
    have hr39 := iv_1_1 hI4
    exact hp _ _ hI4 hF7 (by lia)
