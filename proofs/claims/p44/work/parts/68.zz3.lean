/-! cost and taste, from the bank on (printed by wip/gen/lines3.py) -/
theorem dh_tl {M N V : MM} {tl t2 : Int64} (h : DH M tl N) (hb : ∀ s, s < 16 → bL t2 (18 + s) = bL tl (18 + s)) (e29 : V 81 29 = N 81 29) : DH M t2 V := by
  unfold DH at h ⊢
  rw [e29]
  obtain ⟨h1, h2, h3⟩ := h
  refine ⟨fun b i hb2 hi q => h1 b i hb2 hi (by rw [← hb _ (by omega)]; exact q), h2, ?_⟩
  rcases h3 with z | ⟨b, i, hb2, hi, q, e⟩ | z
  · exact Or.inl z
  · exact Or.inr (Or.inl ⟨b, i, hb2, hi, by rw [hb _ (by omega)]; exact q, e⟩)
  · exact Or.inr (Or.inr z)
theorem d_tld {M N V : MM} {tl t2 : Int64} (h : D M tl N) (ht : DT t2 V) (hb : ∀ s, s < 16 → bL t2 (18 + s) = bL tl (18 + s)) (eR : ∀ a ∈ dRR, V a = N a) (e : ∀ j, j = 13 ∨ j = 14 ∨ j = 15 ∨ j = 22 ∨ j = 29 → V 81 j = N 81 j) (e27 : ∀ k, k < 6 → bI (V 81 27) k = false → bI (N 81 27) k = false) : D M t2 V := by
  obtain ⟨hl, hi, hs, _, hh⟩ := h
  refine ⟨?_, ?_, dscn_eq hs rfl rfl rfl (eR 90 (by decide)), ht, dh_tl hh hb (e 29 (by omega))⟩
  · unfold Dlaw at hl ⊢
    rw [e 13 (by omega), e 14 (by omega), e 15 (by omega), e 22 (by omega), eR 91 (by decide), eR 92 (by decide), eR 93 (by decide), eR 94 (by decide), eR 95 (by decide), eR 96 (by decide)]
    exact hl
  · unfold Dinv at hi ⊢
    rw [eR 94 (by decide), eR 95 (by decide)]
    exact ⟨hi.1, hi.2.1, hi.2.2.1, fun k hk q => hi.2.2.2 k hk (e27 k hk q)⟩
theorem md_wr {M N V : MM} {tl t2 : Int64} (h : Md M tl N) (iV : Inv V) (r97 : V 97 = N 97) (r81 : ∀ j, 31 ≤ j → j ≤ 37 → V 81 j = N 81 j) (hd : D M tl N → D M t2 V) : Md M t2 V := by
  refine ⟨iV, tp_eq h.2.1 rfl rfl (r81 31 (by decide) (by decide)) r97, ?_⟩
  rcases h.2.2 with ⟨a, b, d⟩ | z
  · refine Or.inl ⟨a, ?_, hd d⟩
    unfold Tk at b ⊢
    rw [r81 33 (by decide) (by decide), r81 32 (by decide) (by decide), r81 34 (by decide) (by decide), r81 35 (by decide) (by decide), r81 36 (by decide) (by decide)]
    exact b
  · exact Or.inr ⟨z.1, by rw [r81 36 (by decide) (by decide)]; exact z.2.1, by rw [r81 37 (by decide) (by decide)]; exact z.2.2⟩
theorem bits_off {tl : Int64} {B : Nat} (hB : B < 18) : ∀ s, s < 16 → bL (tl ||| ((1 : Int64) <<< ((nI B).toInt64 &&& 63))) (18 + s) = bL tl (18 + s) := fun s hs => by
  rw [bL_or _ (by omega) (by omega), decide_eq_false (by omega), Bool.or_false]
theorem cd2 {v : Int32} (h : 0 ≤ v ∧ v ≤ 1) : ∃ b, b < 2 ∧ v = nI b := by
  obtain ⟨c, e, hc⟩ := code_of (hi := 1) (v := v) ⟨i_ge_to (k := 0) (by decide) h.1, i_le_to (c := 1) (k := 1) (by decide) h.2⟩ (by decide)
  exact ⟨c, hc, e⟩
/-- told costs and tastes, as the reference writes them -/
theorem tw_fr {N V : MM} {x y : Int32} (e : V = mset (mset N 81 25 x) 81 26 y) (hI : Inv N) : Inv V ∧ RFr N V ∧ V 97 = N 97 ∧ (∀ j, j ≠ 25 → j ≠ 26 → V 81 j = N 81 j) ∧ (∀ a ∈ dRR, V a = N a) := by
  refine ⟨by rw [e]; exact inv_set (inv_set hI (i_any _)) (i_any _), by rw [e]; exact fr_fld (fr_fld fr_rfl (by decide)) (by decide), by rw [e, mset_ne (by decide), mset_ne (by decide)], fun j h1 h2 => by rw [e, mset_nk h2, mset_nk h1], fun a ha => ?_⟩
  have : a ≠ 81 := by intro q; subst q; exact absurd ha (by decide)
  rw [e, mset_ne this, mset_ne this]
def LKg_cost (b i d : Nat) (M : MM) (tl : Int64) (M1 : MM) (t1 : Int64) : Prop := Inv M1 ∧ CFr M M1 ∧ (M 22 2 ≠ 0 → M1 = M ∧ t1 = tl) ∧ (i < 6 → ∀ N, Bt M tl N → N 81 36 ≠ 0 → Bt M1 t1 N) ∧ ∀ (N : MM) (u : Int64) (post2 : MM → Int64 → Prop), Bt M tl N → (∀ N1, RFr N N1 → Bt M1 t1 N1 → post2 N1 u) → wX11_readCosts_92 post2 (d + 1) N u 1 (nI b) (nI i)
theorem lkg_cost {post : MM → Int64 → Prop} {tl : Int64} {b : Nat} (hb : b < 2) {M : MM} (hI : Inv M) (hp : ∀ (M1 : MM) (t1 : Int64), LKg_cost b 1 5 M tl M1 t1 → post M1 t1) : wX4_readOfKinds_15 post (5 + 1) M tl 25 (nI b) 1 := by
  rcases (by omega : b = 0 ∨ b = 1) with z | z <;> subst z
  · exact lk_cost0 5 1 (by omega) (by omega) M hI hp
  · exact lk_cost1 5 1 (by omega) (by omega) M hI hp

theorem dd_cost {M N1 V : MM} {tl : Int64} {b : Nat} (hb : b < 2) (d : D M tl N1) (eV : V = mset (mset N1 81 25 (N1 81 25 ||| ((1 : Int32) <<< (nI b &&& 31)))) 81 26 (N1 81 26 ||| 0)) (iN : Inv N1) : D M (tl ||| ((1 : Int64) <<< ((nI (4 + b)).toInt64 &&& 63))) V := by
  have w := tw_fr eV iN
  refine d_tld d ?_ (bits_off (by omega)) w.2.2.2.2 (fun j hj => w.2.2.2.1 j (by omega) (by omega)) (fun k hk q => by rw [w.2.2.2.1 27 (by decide) (by decide)] at q; exact q)
  · have q1 := dt_cos (k := b) hb d.2.2.2.1
    rw [show 4 + b = 4 + b from rfl] at q1
    exact dt_eq q1 (fun j h1 h2 => by
      rw [eV]
      by_cases z : j = 26
      · subst z; rw [mset_at, or_z, mset_nk (by decide)]
      · rw [mset_nk z, show 0 + b = b by omega])
/-- the reference's told, its next and its loop -/
theorem rt_cost {post : MM → Int64 → Prop} {N1 : MM} {u : Int64} {b : Nat} (hp : ∀ V : MM, V = mset (mset N1 81 25 (N1 81 25 ||| ((1 : Int32) <<< (nI b &&& 31)))) 81 26 (N1 81 26 ||| 0) → wpX11_next (fun M2 t3 => (∃ n9, wX11_readCosts_92 post n9 M2 t3 1 (nI b) 1)) V u) : wX11_readCosts_46 post N1 u 1 (nI b) := by
  unfold wX11_readCosts_46
  refine ifn (by decide) ?_
  unfold wX11_readCosts_62
  intro V1 e1
  refine ifn (by decide) ?_
  unfold wX11_readCosts_82
  intro V2 e2
  have e26 : V1 81 26 = N1 81 26 := by rw [e1, mset_nk (by decide)]
  refine hp V2 ?_
  rw [e2, e26, e1]
theorem ln_cost {post : MM → Int64 → Prop} {M : MM} {tl : Int64} (hI : Inv M) (hp : ∀ (M1 : MM) (t1 : Int64), LC (fun p N u => wpX11_readLineOf p N u 14) M tl M1 t1 → post M1 t1) : wpX4_readOfKinds post M tl 25 4 := by
  unfold wpX4_readOfKinds wpX4_takeBank
  refine u_num hI (fun r1 M1 i1 f1 s1 a1 b1 n1 g1 => ?_)
  by_cases q : M1 22 2 = 0
  · obtain ⟨b, hb, eb⟩ := cd2 (a1 q).2
    subst eb
    have eb : (4 : Int32) + nI b = nI (4 + b) := nM_add 4 b
    rw [eb]
    refine u_tell (by omega) q (fun M2 t2 hT => ?_)
    have fT := tl_fr i1 hT
    refine ⟨5 + 1, lkg_cost hb fT.1 (fun M3 t3 l => hp M3 t3 ⟨l.1, fr_call (cf_tk (cf_tk fr_rfl f1) fT.2) l.2.1 (fun _ h => h) (fun _ h => Or.inl h), fun N h z => absurd q (n1 N h z).2, fun N u post2 h z k => ?_⟩)⟩
    unfold wpX11_readLineOf
    refine ifn (by decide) (ifn (by decide) (ifn (by decide) (ifn (by decide) (ifp rfl (ifp rfl ?_)))))
    unfold wX11_readLineOf_147 wpX11_readCosts
    refine g1 N u _ h (fun r2 N1 f2 m2 a2 b2 => ?_)
    have er := a2 q
    subst er
    obtain ⟨t, d⟩ := md_ok m2 q
    refine ifp t.1 (ifn (by decide) ?_)
    unfold wX11_readCosts_30
    have hbit := d.2.2.2.1.2.1 b hb
    rcases hT with ⟨et, hT⟩
    rcases hT with ⟨bz, eM⟩ | ⟨bz, eM⟩
    · refine ifp ((bI_test _ (by omega)).mpr (by rw [← hbit]; exact bz)) ?_
      unfold wX11_readCosts_42
      refine nd_1 (by decide) (rt_cost (fun V eV => ?_))
      have w := tw_fr eV m2.1
      have mV : Md M2 t2 V := by
        rw [eM, et]
        exact md_wr m2 w.1 w.2.2.1 (fun j h1 h2 => w.2.2.2.1 j (by omega) (by omega)) (fun d => dd_cost hb d eV m2.1)
      refine u_next mV (fun N3 f3 h3 => ⟨5 + 1, l.2.2.2.2 N3 u post2 h3 (fun N4 f4 h4 => k N4 ?_ h4)⟩)
      exact fr_call (rf_nx (fr_call (rf_nx fr_rfl f2) w.2.1 (fun _ h => h) (fun _ h => Or.inl h)) f3) f4 (fun _ h => h) (fun _ h => Or.inl h)
    · refine ifn (fun y => by rw [bI_test _ (by omega), ← hbit, bz] at y; exact Bool.noConfusion y) ?_
      unfold wX11_readCosts_42
      refine nd_0 t.1 (fun N2 e2 => rt_cost (fun V eV => ?_))
      have x := fl_in m2.1 (by decide) e2
      have w := tw_fr eV x.1
      have bd : Bad M2 V := by
        have y := bad_of (by decide) t.2.1 eM e2
        exact ⟨y.1, by rw [w.2.2.2.1 36 (by decide) (by decide)]; exact y.2.1, by rw [w.2.2.2.1 37 (by decide) (by decide)]; exact y.2.2⟩
      have tpV : Tp M2 V := rf_tp w.2.1 (fl_tp (j := 0) m2.2.1 eM x.2)
      refine rf_next w.1 (bad_n bd) ⟨5 + 1, l.2.2.2.2 V u post2 (bt_bad w.1 tpV bd) (fun N4 f4 h4 => k N4 ?_ h4)⟩
      exact fr_call (fr_call (rf_nx (rf_nx fr_rfl f2) x.2) w.2.1 (fun _ h => h) (fun _ h => Or.inl h)) f4 (fun _ h => h) (fun _ h => Or.inl h)
  · refine u_tell_f q ⟨0 + 1, ?_⟩
    unfold wX4_readOfKinds_15
    refine ifn (by decide) (ifn q (hp M1 tl ⟨i1, cf_tk fr_rfl f1, fun N h z => (md_bad (n1 N h z).1 (n1 N h z).2).2, fun N u post2 h z k => ?_⟩))
    unfold wpX11_readLineOf
    refine ifn (by decide) (ifn (by decide) (ifn (by decide) (ifn (by decide) (ifp rfl (ifp rfl ?_)))))
    unfold wX11_readLineOf_147 wpX11_readCosts
    refine g1 N u _ h (fun r2 N1 f2 m2 a2 b2 => ?_)
    have er := b2 q
    subst er
    have bd := md_f0 m2 q
    refine ifn (bad_n bd) ?_
    refine rt_cost (b := 0) (fun V eV => ?_)
    have w := tw_fr eV m2.1
    have nV : V 81 36 ≠ 0 := by rw [w.2.2.2.1 36 (by decide) (by decide)]; exact bad_n bd
    refine rf_next w.1 nV ⟨5 + 1, rf_costs (b := 0) (by decide) (fun N4 i4 f4 e4 => k N4 (fr_call (rf_nx fr_rfl f2) f4 (fun _ h => h) (fun _ h => Or.inl h)) (bt_rf (md_bad m2 q).2 q i4 f4 e4)) 5 1 (by omega) V w.1 w.2.1 (fun j h1 h2 => w.2.2.2.1 j (by omega) (by omega)) nV⟩
def LKg_taste (b i d : Nat) (M : MM) (tl : Int64) (M1 : MM) (t1 : Int64) : Prop := Inv M1 ∧ CFr M M1 ∧ (M 22 2 ≠ 0 → M1 = M ∧ t1 = tl) ∧ (i < 6 → ∀ N, Bt M tl N → N 81 36 ≠ 0 → Bt M1 t1 N) ∧ ∀ (N : MM) (u : Int64) (post2 : MM → Int64 → Prop), Bt M tl N → (∀ N1, RFr N N1 → Bt M1 t1 N1 → post2 N1 u) → wX11_readCosts_92 post2 (d + 1) N u 0 (nI b) (nI i)
theorem lkg_taste {post : MM → Int64 → Prop} {tl : Int64} {b : Nat} (hb : b < 2) {M : MM} (hI : Inv M) (hp : ∀ (M1 : MM) (t1 : Int64), LKg_taste b 1 5 M tl M1 t1 → post M1 t1) : wX4_readOfKinds_15 post (5 + 1) M tl 28 (nI b) 1 := by
  rcases (by omega : b = 0 ∨ b = 1) with z | z <;> subst z
  · exact lk_taste0 5 1 (by omega) (by omega) M hI hp
  · exact lk_taste1 5 1 (by omega) (by omega) M hI hp

theorem dd_taste {M N1 V : MM} {tl : Int64} {b : Nat} (hb : b < 2) (d : D M tl N1) (eV : V = mset (mset N1 81 25 (N1 81 25 ||| 0)) 81 26 (N1 81 26 ||| ((1 : Int32) <<< (nI b &&& 31)))) (iN : Inv N1) : D M (tl ||| ((1 : Int64) <<< ((nI (6 + b)).toInt64 &&& 63))) V := by
  have w := tw_fr eV iN
  refine d_tld d ?_ (bits_off (by omega)) w.2.2.2.2 (fun j hj => w.2.2.2.1 j (by omega) (by omega)) (fun k hk q => by rw [w.2.2.2.1 27 (by decide) (by decide)] at q; exact q)
  · have q1 := dt_tas (k := b) hb d.2.2.2.1
    exact dt_eq q1 (fun j h1 h2 => by
      rw [eV]
      by_cases z : j = 26
      · subst z; rw [mset_at, mset_at, show 0 + b = b by omega]
      · rw [mset_nk z, mset_nk z]
        by_cases z2 : j = 25
        · subst z2; rw [mset_at, or_z]
        · rw [mset_nk z2])
/-- the reference's told, its next and its loop -/
theorem rt_taste {post : MM → Int64 → Prop} {N1 : MM} {u : Int64} {b : Nat} (hp : ∀ V : MM, V = mset (mset N1 81 25 (N1 81 25 ||| 0)) 81 26 (N1 81 26 ||| ((1 : Int32) <<< (nI b &&& 31))) → wpX11_next (fun M2 t3 => (∃ n9, wX11_readCosts_92 post n9 M2 t3 0 (nI b) 1)) V u) : wX11_readCosts_46 post N1 u 0 (nI b) := by
  unfold wX11_readCosts_46
  refine ifp rfl ?_
  unfold wX11_readCosts_62
  intro V1 e1
  refine ifp rfl ?_
  unfold wX11_readCosts_82
  intro V2 e2
  have e26 : V1 81 26 = N1 81 26 := by rw [e1, mset_nk (by decide)]
  refine hp V2 ?_
  rw [e2, e26, e1]
theorem ln_taste {post : MM → Int64 → Prop} {M : MM} {tl : Int64} (hI : Inv M) (hp : ∀ (M1 : MM) (t1 : Int64), LC (fun p N u => wpX11_readLineOf p N u 15) M tl M1 t1 → post M1 t1) : wpX4_readOfKinds post M tl 28 6 := by
  unfold wpX4_readOfKinds wpX4_takeBank
  refine u_num hI (fun r1 M1 i1 f1 s1 a1 b1 n1 g1 => ?_)
  by_cases q : M1 22 2 = 0
  · obtain ⟨b, hb, eb⟩ := cd2 (a1 q).2
    subst eb
    have eb : (6 : Int32) + nI b = nI (6 + b) := nM_add 6 b
    rw [eb]
    refine u_tell (by omega) q (fun M2 t2 hT => ?_)
    have fT := tl_fr i1 hT
    refine ⟨5 + 1, lkg_taste hb fT.1 (fun M3 t3 l => hp M3 t3 ⟨l.1, fr_call (cf_tk (cf_tk fr_rfl f1) fT.2) l.2.1 (fun _ h => h) (fun _ h => Or.inl h), fun N h z => absurd q (n1 N h z).2, fun N u post2 h z k => ?_⟩)⟩
    unfold wpX11_readLineOf
    refine ifn (by decide) (ifn (by decide) (ifn (by decide) (ifn (by decide) (ifn (by decide) (ifp rfl (ifn (by decide) ?_))))))
    unfold wX11_readLineOf_147 wpX11_readCosts
    refine g1 N u _ h (fun r2 N1 f2 m2 a2 b2 => ?_)
    have er := a2 q
    subst er
    obtain ⟨t, d⟩ := md_ok m2 q
    refine ifp t.1 (ifp rfl ?_)
    unfold wX11_readCosts_30
    have hbit := d.2.2.2.1.2.2.1 b hb
    rcases hT with ⟨et, hT⟩
    rcases hT with ⟨bz, eM⟩ | ⟨bz, eM⟩
    · refine ifp ((bI_test _ (by omega)).mpr (by rw [← hbit]; exact bz)) ?_
      unfold wX11_readCosts_42
      refine nd_1 (by decide) (rt_taste (fun V eV => ?_))
      have w := tw_fr eV m2.1
      have mV : Md M2 t2 V := by
        rw [eM, et]
        exact md_wr m2 w.1 w.2.2.1 (fun j h1 h2 => w.2.2.2.1 j (by omega) (by omega)) (fun d => dd_taste hb d eV m2.1)
      refine u_next mV (fun N3 f3 h3 => ⟨5 + 1, l.2.2.2.2 N3 u post2 h3 (fun N4 f4 h4 => k N4 ?_ h4)⟩)
      exact fr_call (rf_nx (fr_call (rf_nx fr_rfl f2) w.2.1 (fun _ h => h) (fun _ h => Or.inl h)) f3) f4 (fun _ h => h) (fun _ h => Or.inl h)
    · refine ifn (fun y => by rw [bI_test _ (by omega), ← hbit, bz] at y; exact Bool.noConfusion y) ?_
      unfold wX11_readCosts_42
      refine nd_0 t.1 (fun N2 e2 => rt_taste (fun V eV => ?_))
      have x := fl_in m2.1 (by decide) e2
      have w := tw_fr eV x.1
      have bd : Bad M2 V := by
        have y := bad_of (by decide) t.2.1 eM e2
        exact ⟨y.1, by rw [w.2.2.2.1 36 (by decide) (by decide)]; exact y.2.1, by rw [w.2.2.2.1 37 (by decide) (by decide)]; exact y.2.2⟩
      have tpV : Tp M2 V := rf_tp w.2.1 (fl_tp (j := 0) m2.2.1 eM x.2)
      refine rf_next w.1 (bad_n bd) ⟨5 + 1, l.2.2.2.2 V u post2 (bt_bad w.1 tpV bd) (fun N4 f4 h4 => k N4 ?_ h4)⟩
      exact fr_call (fr_call (rf_nx (rf_nx fr_rfl f2) x.2) w.2.1 (fun _ h => h) (fun _ h => Or.inl h)) f4 (fun _ h => h) (fun _ h => Or.inl h)
  · refine u_tell_f q ⟨0 + 1, ?_⟩
    unfold wX4_readOfKinds_15
    refine ifn (by decide) (ifn q (hp M1 tl ⟨i1, cf_tk fr_rfl f1, fun N h z => (md_bad (n1 N h z).1 (n1 N h z).2).2, fun N u post2 h z k => ?_⟩))
    unfold wpX11_readLineOf
    refine ifn (by decide) (ifn (by decide) (ifn (by decide) (ifn (by decide) (ifn (by decide) (ifp rfl (ifn (by decide) ?_))))))
    unfold wX11_readLineOf_147 wpX11_readCosts
    refine g1 N u _ h (fun r2 N1 f2 m2 a2 b2 => ?_)
    have er := b2 q
    subst er
    have bd := md_f0 m2 q
    refine ifn (bad_n bd) ?_
    refine rt_taste (b := 0) (fun V eV => ?_)
    have w := tw_fr eV m2.1
    have nV : V 81 36 ≠ 0 := by rw [w.2.2.2.1 36 (by decide) (by decide)]; exact bad_n bd
    refine rf_next w.1 nV ⟨5 + 1, rf_costs (b := 0) (by decide) (fun N4 i4 f4 e4 => k N4 (fr_call (rf_nx fr_rfl f2) f4 (fun _ h => h) (fun _ h => Or.inl h)) (bt_rf (md_bad m2 q).2 q i4 f4 e4)) 5 1 (by omega) V w.1 w.2.1 (fun j h1 h2 => w.2.2.2.1 j (by omega) (by omega)) nV⟩
