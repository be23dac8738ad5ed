/-! CALLS on both sides: the law, things, works, wants, what was seen -/
section LE
variable {p : Int32 → MM → Int64 → Prop} {M N : MM} {tl u : Int64}
theorem el_c_thingAt {b i : Nat} (hb : b < 2) (hi : i < 8) (R : RA M N) (h : wpX7_thingAt p M tl 14 (nI b) (nI i)) : p (N 82 (8 * b + i)) M tl := by
  unfold wpX7_thingAt at h
  have h := (i10 ((el_isSlot h).1 ⟨bb2 hb, nJ_ge0 (by omega), (kI_lt (b := 8) (by omega) (by omega)).mpr hi⟩)).2
  have h := (el_slot hb hi h).2.2
  rw [tn_nI (by omega), show 14 + 1 = 15 from rfl, (R.2.1.1 (8 * b + i) (by omega)).1] at h
  exact h
theorem el_c_kindAt {b i : Nat} (hb : b < 2) (hi : i < 8) (R : RA M N) (h : wpX7_kindAt p M tl 14 (nI b) (nI i)) : p (N 82 (8 * b + i) - N 82 (8 * b + i) / 8 * 8) M tl := by
  unfold wpX7_kindAt at h
  have h := el_c_thingAt hb hi R h.2
  obtain ⟨k, hk, e1, e2, _⟩ := tt_k (R.2.1.1 (8 * b + i) (by omega)).2
  rw [e1]
  rw [e2] at h
  exact h
theorem ra_tt {s : Nat} (R : RA M N) (hs : s < 16) : TT (N 82 s) := (R.2.1.1 s hs).2
theorem ixw : ∀ w, w < 12 → ∀ c, c < 4 → (17 : Int32) + 4 * nI w + nI c = nI (17 + (4 * w + c)) := by decide +kernel
theorem szw (i : Inv N) : ∃ n, n < 13 ∧ N 82 16 = nI n := by
  have d : 0 ≤ N 82 16 ∧ N 82 16 ≤ 12 := i.2.1 16
  exact cdN 13 (by omega) d.1 (show _ < (13 : Int32) by lia)
theorem szt (i : Inv N) : ∃ n, n < 7 ∧ N 82 65 = nI n := by
  have d : 0 ≤ N 82 65 ∧ N 82 65 ≤ 6 := i.2.1 65
  exact cdN 7 (by omega) d.1 (show _ < (7 : Int32) by lia)
theorem szs (i : Inv N) : ∃ n, n < 13 ∧ N 82 78 = nI n := by
  have d : 0 ≤ N 82 78 ∧ N 82 78 ≤ 12 := i.2.1 78
  exact cdN 13 (by omega) d.1 (show _ < (13 : Int32) by lia)
theorem el_c_lastMonth {n : Nat} (hn : n < 13) (e : M 16 3 = nI n) (h : wpX7_lastMonth p M tl 14) : (n = 0 → p 0 M tl) ∧ (1 ≤ n → p (M 17 (4 * (n - 1) + 0)) M tl) := by
  unfold wpX7_lastMonth at h
  have h := h.2.2.2.2
  rw [show 14 + 2 = 16 from rfl, e] at h
  refine ⟨fun z => ?_, fun z => ?_⟩
  · subst z
    unfold wpX5_cell at h
    exact ip (by decide) h
  · have e1 : nI n - 1 = nI (n - 1) := by
      have : ∀ n, n < 13 → 1 ≤ n → nI n - 1 = nI (n - 1) := by decide +kernel
      exact this n hn z
    rw [e1] at h
    exact (el_cell (c := 0) (W := 4) (by decide) (by omega) (by omega) (by omega) h).1 (by rw [e]; exact (kI_lt (by omega) (by omega)).mpr (by omega))
theorem el_isFull {a n L : Nat} (ha : al a = L) (hL : L < 1000) (hn : n < 1000) (e : M a 3 = nI n) (h : wpX5_isFull p M tl a) : (n < L → p 0 M tl) ∧ (¬ n < L → p 1 M tl) := by
  unfold wpX5_isFull at h
  have h := h.2.2
  rw [ha, e] at h
  exact ⟨fun c => ip ((kI_lt (by omega) (by omega)).mpr c) h, fun c => iq (fun z => c ((kI_lt (by omega) (by omega)).mp z)) h⟩
end LE
section PLS
variable {p q : Int32 → MM → Int64 → Prop} {M N : MM} {tl u : Int64}
theorem pl_rule {v : Int32} (R : RA M N) (hA : wpX10_rule p M tl v) (hB : wpX11_rule q N u v) : PO p q := by
  unfold wpX10_rule at hA
  unfold wpX11_rule at hB
  by_cases c0 : v = 0
  · exact po0 R (ip c0 hA) (ip c0 hB) (rl_0 R.1)
  have hA := iq c0 hA
  have hB := iq c0 hB
  by_cases c1 : v = 1
  · exact po0 R (ip c1 hA) (ip c1 hB) (rl_1 R.1)
  have hA := iq c1 hA
  have hB := iq c1 hB
  by_cases c2 : v = 2
  · exact po0 R (ip c2 hA) (ip c2 hB) (rl_2 R.1)
  have hA := iq c2 hA
  have hB := iq c2 hB
  by_cases c3 : v = 3
  · exact po0 R (ip c3 hA) (ip c3 hB).2 R.2.1.2.1.1
  have hA := iq c3 hA
  have hB := el_in 10 13 rfl rfl rfl (iq c3 hB)
  by_cases c4 : v < 10
  · exact po0 R (ip c4 hA) (i00 (hB.2 (by lia))) rfl
  have hA := iq c4 hA
  by_cases c5 : 14 ≤ v
  · exact po0 R (ip c5 hA) (i00 (hB.2 (by lia))) rfl
  have hA := (iq c5 hA).2
  have hB := (i10 (hB.1 (by lia))).2
  obtain ⟨k, hk, e⟩ := cdN (v := v - 10) 4 (by omega) (by lia) (show _ < (4 : Int32) by lia)
  rw [e, tn_nI (by omega)] at hA hB
  exact po0 R hA hB (rl_price R.1 k hk)
theorem pl_colour {v : Int32} (R : RA M N) (hA : wpX10_colour p M tl v) (hB : wpX11_colour q N u v) : PO p q := by
  unfold wpX10_colour at hA
  unfold wpX11_colour at hB
  have hB := el_in 0 3 rfl rfl rfl hB
  by_cases c4 : v < 0
  · exact po0 R (ip c4 hA) (i00 (hB.2 (by lia))) rfl
  have hA := iq c4 hA
  by_cases c5 : 4 ≤ v
  · exact po0 R (ip c5 hA) (i00 (hB.2 (by lia))) rfl
  have hA := (iq c5 hA).2
  have hB := (i10 (hB.1 (by lia))).2
  obtain ⟨k, hk, e⟩ := cdN (v := v) 4 (by omega) (by lia) (show _ < (4 : Int32) by lia)
  rw [e, tn_nI (by omega)] at hA hB
  exact po0 R hA hB (rl_paint R.1 k hk).1
theorem pl_mirror {v : Int32} (R : RA M N) (hA : wpX10_mirror p M tl v) (hB : wpX11_mirror q N u v) : PO p q := by
  unfold wpX10_mirror at hA
  unfold wpX11_mirror at hB
  have hA := el_c_isThing hA
  have hB := el_r_isThing hB
  by_cases c : TT v
  · exact po0 R (el_c_mirrorOf R.1 c (i10 (hA.1 c))) (el_r_mirrorOf (i10 (hB.1 c))) rfl
  · exact po0 R (i00 (hA.2 c)) (i00 (hB.2 c)) rfl
theorem pl_match {v1 v2 : Int32} (R : RA M N) (hA : wpX10_match p M tl v1 v2) (hB : wpX11_match q N u v1 v2) : PO p q := by
  unfold wpX10_match at hA
  unfold wpX11_match at hB
  have hA := el_c_isLot R.1 hA
  have hB := el_r_isLot (rl_lots R.1) hB
  by_cases c : lotP N v1 v2
  · exact po0 R (el_c_matchOf R.1 (i10 (hA.1 c))) (el_r_matchOf (rl_lots R.1) (i10 (hB.1 c))) rfl
  · exact po0 R (i00 (hA.2 c)) (i00 (hB.2 c)) rfl
theorem pl_work {v1 v2 : Int32} (R : RA M N) (i : Inv N) (hA : wpX10_work p M tl v1 v2) (hB : wpX11_work q N u v1 v2) : PO p q := by
  unfold wpX10_work at hA
  unfold wpX11_work at hB
  obtain ⟨n, hn, en⟩ := szw i
  have e16 : M 16 3 = nI n := R.2.1.2.1.1.trans en
  have b12 : nI n ≤ 12 := (kI_le (b := 12) (by omega) (by omega)).mpr (by omega)
  have b0 := nJ_ge0 (i := n) (by omega)
  have hB := el_in 0 (nI n - 1) rfl rfl (by rw [show (16 : Int32).toNatClampNeg = 16 from by decide, en]) hB.2
  rw [e16, show wd 16 = 4 from by decide] at hA
  by_cases c : 0 ≤ v1 ∧ v1 < nI n
  · obtain ⟨w, hw, ew⟩ := cdN (v := v1) n (by omega) c.1 c.2
    have hA := iq (show ¬ nI n ≤ v1 by lia) (iq (show ¬ v1 < 0 by lia) hA)
    have hB := el_in 0 3 rfl rfl rfl (i10 (hB.1 (by lia)))
    by_cases c2 : 0 ≤ v2 ∧ v2 < 4
    · obtain ⟨k, hk, ek⟩ := cdN (v := v2) 4 (by omega) c2.1 c2.2
      have hA := ip (show v2 < nI 4 from c2.2) (iq (show ¬ v2 < 0 by lia) hA)
      have hB := (i10 (hB.1 (by lia))).2
      rw [ew, ek] at hA hB
      have hA := (el_cell (W := 4) (by decide) (by omega) hk (by omega) hA).1 (by rw [e16, ← ew]; exact c.2)
      rw [ixw w (by omega) k hk, tn_nI (by omega)] at hB
      refine po0 R hA hB ((R.2.1.2.1.2 w (by omega) (by rw [en, ← ew]; exact c.2)).1 k hk)
    · have hB := i00 (hB.2 (by lia))
      by_cases c3 : v2 < 0
      · exact po0 R (ip c3 hA) hB rfl
      · exact po0 R (iq (show ¬ v2 < nI 4 from fun z => c2 ⟨by lia, z⟩) (iq c3 hA)) hB rfl
  · have hB := i00 (hB.2 (by lia))
    by_cases c3 : v1 < 0
    · exact po0 R (ip c3 hA) hB rfl
    · exact po0 R (ip (show nI n ≤ v1 by lia) (iq c3 hA)) hB rfl
theorem pl_thing {v1 v2 : Int32} (R : RA M N) (hA : wpX10_thing p M tl v1 v2) (hB : wpX11_thing q N u v1 v2) : PO p q := by
  unfold wpX10_thing at hA
  unfold wpX11_thing at hB
  have hA := el_c_isLot R.1 hA
  have hB := el_r_isLot (rl_lots R.1) hB
  by_cases c : lotP N v1 v2
  · have hA := i10 (hA.1 c)
    have hB := (i10 (hB.1 c)).2
    obtain ⟨b, j, hb, hj, e1, e2, _⟩ := lot_n (rl_lots R.1) c
    rw [e1, e2] at hA hB
    rw [sl_r b hb j hj, tn_nI (by omega)] at hB
    exact po0 R (el_c_thingAt hb hj R hA) hB rfl
  · exact po0 R (i00 (hA.2 c)) (i00 (hB.2 c)) rfl
theorem pl_third {v : Int32} (R : RA M N) (hA : wpX10_third p M tl v) (hB : wpX11_third q N u v) : PO p q := by
  unfold wpX10_third at hA
  unfold wpX11_third at hB
  have hA := el_c_isLot R.1 hA
  have hB := el_r_isLot (rl_lots R.1) hB
  by_cases c : lotP N 0 v
  · have hA := el_c_matchOf R.1 (i10 (hA.1 c))
    have hB := el_r_matchOf (rl_lots R.1) (i10 (hB.1 c))
    by_cases c2 : mat N 0 v = -4
    · exact po0 R (ip c2 hA) (ip c2 hB) rfl
    · obtain ⟨j, hj, ej, _⟩ := mat_n (rl_lots R.1) c2
      have hA := iq c2 hA
      have hB := (iq c2 hB).2
      rw [ej] at hA hB
      have e8 : (8 : Int32) + nI j = nI (8 + j) := kI_add 8 j
      rw [e8, tn_nI (by omega)] at hB
      have hA := el_c_thingAt (b := 1) (by omega) hj R hA
      exact po0 R (el_c_mirrorOf R.1 (ra_tt R (by omega)) hA) (el_r_mirrorOf hB) (by rw [show 8 * 1 + j = 8 + j by omega])
  · exact po0 R (i00 (hA.2 c)) (i00 (hB.2 c)) rfl
theorem pl_put {v1 v2 v3 : Int32} (R : RA M N) (hA : wpX10_put p M tl v1 v2 v3) (hB : wpX11_put q N u v1 v2 v3) : PO p q := by
  unfold wpX10_put at hA
  unfold wpX11_put at hB
  have hA := el_c_isLot R.1 hA
  have hB := el_r_isLot (rl_lots R.1) hB
  by_cases c : lotP N v1 v2
  · have hA := el_c_isThing (i10 (hA.1 c))
    have hB := el_r_isThing (i10 (hB.1 c))
    by_cases ct : TT v3
    · have hA := i10 (hA.1 ct)
      have hB := (i10 (hB.1 ct)).2.2 _ rfl
      obtain ⟨b, j, hb, hj, e1, e2, _⟩ := lot_n (rl_lots R.1) c
      rw [e1, e2] at hA hB
      rw [sl_r b hb j hj, tn_nI (by omega)] at hB
      have hA := (el_setThing (el_c_thingAt hb hj R hA)).2 b j hb hj rfl rfl
      refine po1 hA hB rfl (ra_scene R (fun a ha => mset_ne (by omega)) (fun a ha => mset_ne (by omega)) (fun x hx => mset_nk (by omega)) ?_)
      rw [mset_ne (a := 82) (i := 81) (by decide)]
      refine rsg_thing (s := 8 * b + j) R.2.1 (by omega) ct (fun x => ?_) (fun a h1 h2 => mset_ne (by omega)) (fun x => m82 x)
      rw [mset_if]
      simp
    · exact po0 R (i00 (hA.2 ct)) (i00 (hB.2 ct)) rfl
  · exact po0 R (i00 (hA.2 c)) (i00 (hB.2 c)) rfl
theorem pl_torn (R : RA M N) (hA : wpX10_torn p M tl) (hB : wpX11_torn q N u) : PO p q := by
  unfold wpX10_torn at hA
  unfold wpX11_torn at hB
  exact po0 R hA hB R.2.2.2
theorem pl_content (R : RA M N) (hA : wpX10_content p M tl) (hB : wpX11_content q N u) : PO p q := by
  unfold wpX10_content wpX5_empty at hA
  unfold wpX11_content at hB
  have hA := hA.2.2 _ rfl
  have hB := hB.2.2 _ rfl
  rw [show (65 : Int32).toNatClampNeg = 65 from by decide] at hB
  refine po1 hA hB R.2.1.2.2.1.1 (ra_scene R (fun a ha => mset_ne (by omega)) (fun a ha => mset_ne (by omega)) (fun x hx => mset_nk (by omega)) ?_)
  rw [mset_ne (a := 82) (i := 81) (by decide)]
  exact rsg_none R.2.1 (Or.inr (Or.inl ⟨rfl, rfl⟩)) (fun x => m82 x)
theorem pl_forget (R : RA M N) (hA : wpX10_forget p M tl) (hB : wpX11_forget q N u) : PO p q := by
  unfold wpX10_forget wpX5_empty at hA
  unfold wpX11_forget at hB
  have hA := hA.2.2 _ rfl
  have hB := hB.2.2 _ rfl
  rw [show (78 : Int32).toNatClampNeg = 78 from by decide] at hB
  refine po1 hA hB R.2.1.2.2.2.1 (ra_scene R (fun a ha => mset_ne (by omega)) (fun a ha => mset_ne (by omega)) (fun x hx => mset_nk (by omega)) ?_)
  rw [mset_ne (a := 82) (i := 81) (by decide)]
  exact rsg_none R.2.1 (Or.inr (Or.inr ⟨rfl, rfl⟩)) (fun x => m82 x)
theorem ix66 : ∀ n, n < 6 → (66 : Int32) + 2 * nI n = nI (66 + (2 * n + 0)) ∧ (66 : Int32) + 2 * nI n + 1 = nI (66 + (2 * n + 1)) := by decide +kernel
theorem ix79 : ∀ n, n < 12 → (79 : Int32) + 4 * nI n = nI (79 + (4 * n + 0)) ∧ (79 : Int32) + 4 * nI n + 1 = nI (79 + (4 * n + 1)) ∧ (79 : Int32) + 4 * nI n + 2 = nI (79 + (4 * n + 2)) ∧ (79 : Int32) + 4 * nI n + 3 = nI (79 + (4 * n + 3)) := by decide +kernel
theorem pl_want {v1 v2 : Int32} (R : RA M N) (i : Inv N) (hA : wpX10_want p M tl v1 v2) (hB : wpX11_want q N u v1 v2) : PO p q := by
  unfold wpX10_want at hA
  unfold wpX11_want at hB
  have hA := el_c_isLot R.1 hA
  have hB := el_r_isLot (rl_lots R.1) hB
  by_cases c : lotP N 0 v1
  · have hA := el_isBuilt (i10 (hA.1 c))
    have hB := el_in 1 5 rfl rfl rfl (i10 (hB.1 c))
    by_cases c2 : 1 ≤ v2 ∧ v2 < 6
    · obtain ⟨n, hn, en⟩ := szt i
      have e18 : M 18 3 = nI n := R.2.1.2.2.1.1.trans en
      have hA := el_isFull (L := 6) (by decide) (by omega) (by omega) e18 (i10 (hA.1 c2))
      have hB := (i10 (hB.1 (by lia))).2
      have t65 : (65 : Int32).toNatClampNeg = 65 := by decide
      rw [t65, en] at hB
      by_cases c3 : n < 6
      · have hA := el_addRow2 (by decide) c3 e18 (i00 (hA.1 c3))
        have hB := (iq (show ¬ nI n = 6 from fun z => absurd (kI_inj (b := 6) (by omega) (by omega) z) (by omega)) hB).2.2 _ rfl
        have hB := (hB.2 _ rfl).2.2 _ rfl
        rw [(ix66 n c3).2, (ix66 n c3).1, tn_nI (by omega), tn_nI (by omega)] at hB
        have hB := hB.2
        have x65 : mset (mset N 82 (66 + (2 * n + 0)) v1) 82 (66 + (2 * n + 1)) v2 82 65 = nI n := by rw [mset_nk (by omega), mset_nk (by omega), en]
        rw [x65, nI_s1] at hB
        refine po1 hA hB ?_ (ra_scene R (fun a ha => ?_) (fun a ha => by rw [mset_ne (by omega), mset_ne (by omega), mset_ne (by omega)]) (fun x hx => by rw [mset_nk (by omega), mset_nk (by omega), mset_nk (by omega)]) ?_)
        · unfold row2
          rw [mset_ne (by decide), mset_ne (by decide), mset_at, mset_at]
        · unfold row2
          rw [mset_ne (by omega), mset_ne (by omega), mset_ne (by omega)]
        · rw [mset_ne (a := 82) (i := 81) (by decide), mset_ne (a := 82) (i := 81) (by decide), mset_ne (a := 82) (i := 81) (by decide)]
          refine rsg_want R.2.1 c3 en c2.1 ?_ ?_ ?_ (fun x h1 h2 => ?_)
          · rw [mset_at]
          · rw [mset_nk (by omega), mset_nk (by omega), mset_at]
          · rw [mset_nk (by omega), mset_at]
          · rw [mset_nk (by omega), mset_nk (by omega), mset_nk (by omega)]
      · have e6 : n = 6 := by omega
        subst e6
        exact po0 R (iq (by decide) (hA.2 c3)) (ip rfl hB) rfl
    · exact po0 R (i00 (hA.2 c2)) (i00 (hB.2 (by lia))) rfl
  · exact po0 R (i00 (hA.2 c)) (i00 (hB.2 c)) rfl
theorem pl_saw {v1 v2 v3 v4 : Int32} (R : RA M N) (i : Inv N) (hA : wpX10_saw p M tl v1 v2 v3 v4) (hB : wpX11_saw q N u v1 v2 v3 v4) : PO p q := by
  unfold wpX10_saw at hA
  unfold wpX11_saw at hB
  have hA := el_c_isLot R.1 hA
  have hB := el_r_isLot (rl_lots R.1) hB
  by_cases c : lotP N v1 v2
  · have hA := i10 (hA.1 c)
    have hB := el_in 0 23 rfl rfl rfl (i10 (hB.1 c))
    by_cases c2 : 0 ≤ v3 ∧ v3 < 24
    · obtain ⟨n, hn, en⟩ := szs i
      have e20 : M 20 3 = nI n := R.2.1.2.2.2.1.trans en
      have hA := el_isFull (L := 12) (by decide) (by omega) (by omega) e20 (ip c2.2 (iq (show ¬ v3 < 0 by lia) hA))
      have hB := (i10 (hB.1 (by lia))).2
      have t78 : (78 : Int32).toNatClampNeg = 78 := by decide
      rw [t78, en] at hB
      by_cases c3 : n < 12
      · have hA := i00 (hA.1 c3)
        have hB := (iq (show ¬ nI n = 12 from fun z => absurd (kI_inj (b := 12) (by omega) (by omega) z) (by omega)) hB).2.2 _ rfl
        have hB := (hB.2 _ rfl).2 _ rfl
        have hB := el_flag hB
        have ix := ix79 n c3
        have key : ∀ s : Int32, wX10_saw_60 p M tl v1 v2 v3 s → (vp_in (((79 : Int32) + ((4 : Int32) * nI n)) + 3) (al 82) ∧ (∀ M19 : MM, M19 = mset (mset (mset (mset N 82 ((79 : Int32) + ((4 : Int32) * nI n)).toNatClampNeg v1) 82 (((79 : Int32) + ((4 : Int32) * nI n)) + 1).toNatClampNeg v2) 82 (((79 : Int32) + ((4 : Int32) * nI n)) + 2).toNatClampNeg v3) 82 (((79 : Int32) + ((4 : Int32) * nI n)) + 3 : Int32).toNatClampNeg s → (vp_in 78 (al 82) ∧ (vp_in 78 (al 82) ∧ (∀ M22 : MM, M22 = mset M19 82 78 ((M19 82 78) + 1) → (vp_in 78 (al 82) ∧ q (M22 82 78) M22 u)))))) → PO p q := by
          intro s hA hB
          unfold wX10_saw_60 at hA
          have hA := el_addRow4 (by decide) c3 e20 hA
          have hB := (hB.2 _ rfl).2.2 _ rfl
          rw [ix.2.1, ix.2.2.1, ix.2.2.2, ix.1, tn_nI (by omega), tn_nI (by omega), tn_nI (by omega), tn_nI (by omega)] at hB
          have hB := hB.2
          have x78 : mset (mset (mset (mset N 82 (79 + (4 * n + 0)) v1) 82 (79 + (4 * n + 1)) v2) 82 (79 + (4 * n + 2)) v3) 82 (79 + (4 * n + 3)) s 82 78 = nI n := by rw [mset_nk (by omega), mset_nk (by omega), mset_nk (by omega), mset_nk (by omega), en]
          rw [x78, nI_s1] at hB
          refine po1 hA hB ?_ (ra_scene R (fun a ha => row4_ne (by omega) (by omega)) (fun a ha => by rw [mset_ne (by omega), mset_ne (by omega), mset_ne (by omega), mset_ne (by omega), mset_ne (by omega)]) (fun x hx => by rw [mset_nk (by omega), mset_nk (by omega), mset_nk (by omega), mset_nk (by omega), mset_nk (by omega)]) ?_)
          · rw [row4_sz, mset_at]
          · rw [mset_ne (a := 82) (i := 81) (by decide), mset_ne (a := 82) (i := 81) (by decide), mset_ne (a := 82) (i := 81) (by decide), mset_ne (a := 82) (i := 81) (by decide), mset_ne (a := 82) (i := 81) (by decide)]
            refine rsg_seen R.2.1 c3 en ?_ ?_ ?_ ?_ ?_ (fun x h1 h2 => ?_)
            · rw [mset_at]
            · rw [mset_nk (by omega), mset_nk (by omega), mset_nk (by omega), mset_nk (by omega), mset_at]
            · rw [mset_nk (by omega), mset_nk (by omega), mset_nk (by omega), mset_at]
            · rw [mset_nk (by omega), mset_nk (by omega), mset_at]
            · rw [mset_nk (by omega), mset_at]
            · rw [mset_nk (by omega), mset_nk (by omega), mset_nk (by omega), mset_nk (by omega), mset_nk (by omega)]
        by_cases c4 : v4 = 0
        · exact key 0 (ip c4 hA) (hB.1 c4)
        · exact key 1 (iq c4 hA) (hB.2 c4)
      · have e12 : n = 12 := by omega
        subst e12
        exact po0 R (iq (by decide) (hA.2 c3)) (ip rfl hB) rfl
    · have hB := i00 (hB.2 (by lia))
      by_cases c4 : v3 < 0
      · exact po0 R (ip c4 hA) hB rfl
      · exact po0 R (iq (show ¬ v3 < 24 by lia) (iq c4 hA)) hB rfl
  · exact po0 R (i00 (hA.2 c)) (i00 (hB.2 c)) rfl
theorem pl_plot {v1 v2 v3 v4 : Int32} (R : RA M N) (i : Inv N) (hA : wpX10_plot p M tl v1 v2 v3 v4) (hB : wpX11_plot q N u v1 v2 v3 v4) : PO p q := by
  unfold wpX10_plot at hA
  unfold wpX11_plot at hB
  obtain ⟨n, hn, en⟩ := szw i
  have e16 : M 16 3 = nI n := R.2.1.2.1.1.trans en
  have hA := el_c_lastMonth hn e16 hA
  have hB := hB.2
  have t16 : (16 : Int32).toNatClampNeg = 16 := by decide
  rw [t16, en] at hB
  have key : ∀ (lm : Int32) (s1 : Int64), s1 = lm.toInt64 → (if v1 < lm then p (-1) M tl else (if 24 ≤ v1 then p (-1) M tl else wpX1_isLot (fun r6 M4 t5 => (if r6 = 0 then p (-1) M4 t5 else wpX10_isThing (fun r9 M7 t8 => (if r9 = 0 then p (-1) M7 t8 else wpX5_isFull (fun r12 M10 t11 => (if r12 = 0 then wpX5_addRow (fun M13 t14 => p (M13 16 3) M13 t14) M10 t11 16 v1 v2 v3 v4 else p (-3) M10 t11)) M7 t8 16)) M4 t5 v4)) M tl 3 v2 v3)) → wX11_plot_39 q N u v1 v2 v3 v4 (nI n) ((17 : Int32) + ((4 : Int32) * nI n)) v1.toInt64 s1 → PO p q := by
    intro lm s1 es hA hB
    unfold wX11_plot_39 at hB
    have hB := el_in lm 23 rfl es rfl hB
    by_cases c : lm ≤ v1 ∧ v1 ≤ 23
    · have hA := el_c_isLot R.1 (iq (show ¬ 24 ≤ v1 by lia) (iq (show ¬ v1 < lm by lia) hA))
      have hB := el_r_isLot (rl_lots R.1) (i10 (hB.1 c))
      by_cases cl : lotP N v2 v3
      · have hA := el_c_isThing (i10 (hA.1 cl))
        have hB := el_r_isThing (i10 (hB.1 cl))
        by_cases ct : TT v4
        · have hA := el_isFull (L := 12) (by decide) (by omega) (by omega) e16 (i10 (hA.1 ct))
          have hB := i10 (hB.1 ct)
          by_cases c3 : n < 12
          · have hA := el_addRow4 (by decide) c3 e16 (i00 (hA.1 c3))
            have hB := (iq (show ¬ nI n = 12 from fun z => absurd (kI_inj (b := 12) (by omega) (by omega) z) (by omega)) hB).2 _ rfl
            have hB := (hB.2 _ rfl).2 _ rfl
            have hB := (hB.2 _ rfl).2 _ rfl
            have ix := ix17b n c3
            rw [ix.2.1, ix.2.2.1, ix.2.2.2, ix.1, tn_nI (by omega), tn_nI (by omega), tn_nI (by omega), tn_nI (by omega), t16, nI_s1] at hB
            refine po1 hA hB row4_sz (ra_scene R (fun a ha => row4_ne (by omega) (by omega)) (fun a ha => by rw [mset_ne (by omega), mset_ne (by omega), mset_ne (by omega), mset_ne (by omega), mset_ne (by omega)]) (fun x hx => by rw [mset_nk (by omega), mset_nk (by omega), mset_nk (by omega), mset_nk (by omega), mset_nk (by omega)]) ?_)
            rw [mset_ne (a := 82) (i := 81) (by decide), mset_ne (a := 82) (i := 81) (by decide), mset_ne (a := 82) (i := 81) (by decide), mset_ne (a := 82) (i := 81) (by decide), mset_ne (a := 82) (i := 81) (by decide)]
            refine rsg_work R.2.1 c3 en ct cl.2.2 ?_ ?_ ?_ ?_ ?_ (fun x h1 h2 => ?_)
            · rw [mset_at]
            · rw [mset_nk (by omega), mset_nk (by omega), mset_nk (by omega), mset_nk (by omega), mset_at]
            · rw [mset_nk (by omega), mset_nk (by omega), mset_nk (by omega), mset_at]
            · rw [mset_nk (by omega), mset_nk (by omega), mset_at]
            · rw [mset_nk (by omega), mset_at]
            · rw [mset_nk (by omega), mset_nk (by omega), mset_nk (by omega), mset_nk (by omega), mset_nk (by omega)]
          · have e12 : n = 12 := by omega
            subst e12
            exact po0 R (iq (by decide) (hA.2 c3)) (ip rfl hB) rfl
        · exact po0 R (i00 (hA.2 ct)) (i00 (hB.2 ct)) rfl
      · exact po0 R (i00 (hA.2 cl)) (i00 (hB.2 cl)) rfl
    · have hB := i00 (hB.2 c)
      by_cases c4 : v1 < lm
      · exact po0 R (ip c4 hA) hB rfl
      · exact po0 R (ip (show 24 ≤ v1 by lia) (iq c4 hA)) hB rfl
  by_cases c0 : n = 0
  · have hB := ip (show nI n = 0 by rw [c0]; rfl) hB
    exact key 0 0 rfl (hA.1 c0) hB
  · have hB := (iq (show ¬ nI n = 0 from fun z => c0 (kI_inj (b := 0) (by omega) (by omega) z)) hB).2
    have e4 : (17 : Int32) + 4 * nI n - 4 = nI (17 + (4 * (n - 1) + 0)) := by
      have : ∀ n, n < 13 → 1 ≤ n → (17 : Int32) + 4 * nI n - 4 = nI (17 + (4 * (n - 1) + 0)) := by decide +kernel
      exact this n hn (by omega)
    rw [e4, tn_nI (by omega)] at hB
    have hA := hA.2 (by omega)
    rw [(R.2.1.2.1.2 (n - 1) (by omega) (by rw [en]; exact (kI_lt (by omega) (by omega)).mpr (by omega))).1 0 (by omega)] at hA
    exact key _ _ rfl hA hB
end PLS
