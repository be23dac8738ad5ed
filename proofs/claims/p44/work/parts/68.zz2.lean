/-! LINES cost and taste (printed by wip/gen/lines2.py) -/
theorem nM_add (a k : Nat) : nI a + nI k = nI (a + k) := (r_add rfl rfl).trans (nI_md (by show (k + a) % 4294967296 % 4294967296 = _; omega))
theorem nM_mul (a k : Nat) : nI a * nI k = nI (a * k) := (r_mul rfl rfl).trans (nI_md (by show (a * k) % 4294967296 % 4294967296 = _; omega))
theorem tn_nI {i : Nat} (h : i < 1000) : (nI i).toNatClampNeg = i := tn_of (nI_sm (by omega))
theorem ix_6 {b i : Nat} : (6 : Int32) * nI b + nI i = nI (6 * b + i) := by
  have e : (6 : Int32) = nI 6 := rfl
  rw [e, nM_mul, nM_add]
theorem vp_nM {a L : Nat} (hL : L ≤ 1000) (h : a < L) : vp_in (nI a) L := vp_of (by rw [nI_sm (by omega)]; omega) (by rw [nI_sm (by omega)]; omega)
theorem or_z (x : Int32) : x ||| 0 = x := by
  apply Int32.toBitVec_inj.mp
  show x.toBitVec ||| 0#32 = x.toBitVec
  simp
/-- once there is a fault the reference's costs change nothing that counts -/
theorem rf_costs {post : MM → Int64 → Prop} {N0 : MM} {u : Int64} {c : Int32} {b : Nat} (hb : b < 2) (hp : ∀ N1 : MM, Inv N1 → RFr N0 N1 → (∀ j, 31 ≤ j → j ≤ 37 → N1 81 j = N0 81 j) → post N1 u) : ∀ (d i : Nat), i + d = 6 → ∀ N : MM, Inv N → RFr N0 N → (∀ j, 31 ≤ j → j ≤ 37 → N 81 j = N0 81 j) → N 81 36 ≠ 0 → wX11_readCosts_92 post (d + 1) N u c (nI b) (nI i) := by
  intro d
  induction d with
  | zero =>
    intro i hi N iN f e hf
    have hi : i = 6 := by omega
    subst hi
    unfold wX11_readCosts_92
    exact ifp (by decide) (hp N iN f e)
  | succ d ih =>
    intro i hi N iN f e hf
    have b6 := nI_le4 (i := i) (n := 6) (by omega) (by decide)
    have b4 : (nI 6 : Int32) = 6 := rfl
    rw [b4] at b6
    unfold wX11_readCosts_92
    refine ifn (by lia) ?_
    rw [ix_6]
    refine rf_readNumber iN hf (ifs (fun _ => And.intro (vp_nM (by decide) (by show _ < 12; omega)) ?_) (fun _ => And.intro (vp_nM (by decide) (by show _ < 12; omega)) ?_))
    · intro V eV
      have e81 : ∀ j, V 81 j = N 81 j := fun j => by rw [eV, mset_ne (by decide)]
      unfold wX11_readCosts_140
      rw [nI_s1]
      exact ih (i + 1) (by omega) V (by rw [eV]; exact inv_set iN (i_any _)) (by rw [eV]; exact fr_arr f (by decide)) (fun j h1 h2 => by rw [e81]; exact e j h1 h2) (by rw [e81]; exact hf)
    · intro V eV
      have e81 : ∀ j, V 81 j = N 81 j := fun j => by rw [eV, mset_ne (by decide)]
      unfold wX11_readCosts_140
      rw [nI_s1]
      exact ih (i + 1) (by omega) V (by rw [eV]; exact inv_set iN (show 0 ≤ (0 : Int32) ∧ (0 : Int32) ≤ 20 by decide)) (by rw [eV]; exact fr_arr f (by decide)) (fun j h1 h2 => by rw [e81]; exact e j h1 h2) (by rw [e81]; exact hf)
theorem d_cost0 {M N : MM} {tl : Int64} {v : Int32} {k : Nat} (h1 : 1 ≤ k) (h6 : k < 6) (h : D M tl N) : D (mset M 26 k v) tl (mset N 92 (0 + k) v) := by
  obtain ⟨⟨⟨s0, s1, s2, s3⟩, l2, l3, l4, l5, l6, l7, l8⟩, hi, hs, ht, hh⟩ := h
  refine ⟨⟨?_, ?_, ?_, ?_, ?_, ?_, ?_, ?_⟩, dinv_eq hi (mset_ne (by decide)) (mset_ne (by decide)) (by rw [mset_ne (by decide)]), dscn_eq hs (mset_ne (by decide)) (mset_ne (by decide)) (mset_ne (by decide)) (mset_ne (by decide)), dt_eq ht (fun j h1 h2 => by rw [mset_ne (by decide)]), dh_eq hh (mset_ne (by decide)) (mset_ne (by decide)) (by rw [mset_ne (by decide)])⟩
  · rw [mset_ne (i := 23) (by decide), mset_ne (i := 81) (by decide)]
    exact ⟨s0, s1, s2, s3⟩
  · rw [mset_ne (i := 24) (by decide), mset_ne (i := 91) (by decide)]; exact l2
  · intro q hq hq1
    have z := l3 q hq hq1
    rw [mset_if, mset_if, mset_if, mset_if]
    by_cases e : q = k
    · subst e
      rw [if_pos ⟨rfl, rfl⟩, if_pos ⟨rfl, by omega⟩, if_neg (fun y => absurd y.1 (by decide)), if_neg (by omega)]
      exact ⟨rfl, z.2⟩
    · rw [if_neg (fun y => e y.2), if_neg (fun y => e (by omega)), if_neg (fun y => absurd y.1 (by decide)), if_neg (by omega)]
      exact z
  · rw [mset_ne (i := 29) (by decide), mset_ne (i := 30) (by decide), mset_ne (i := 93) (by decide)]; exact l4
  · rw [mset_ne (i := 93) (by decide)]; exact l5
  · rw [mset_ne (i := 31) (by decide), mset_ne (i := 94) (by decide)]; exact l6
  · rw [mset_ne (i := 32) (by decide), mset_ne (i := 95) (by decide)]; exact l7
  · rw [mset_ne (i := 33) (by decide), mset_ne (i := 96) (by decide)]; exact l8
def LK_cost0 (i d : Nat) (M : MM) (tl : Int64) (M1 : MM) (t1 : Int64) : Prop := Inv M1 ∧ CFr M M1 ∧ (M 22 2 ≠ 0 → M1 = M ∧ t1 = tl) ∧ (i < 6 → ∀ N, Bt M tl N → N 81 36 ≠ 0 → Bt M1 t1 N) ∧ ∀ (N : MM) (u : Int64) (post2 : MM → Int64 → Prop), Bt M tl N → (∀ N1, RFr N N1 → Bt M1 t1 N1 → post2 N1 u) → wX11_readCosts_92 post2 (d + 1) N u 1 (nI 0) (nI i)
theorem lk_cost0 {post : MM → Int64 → Prop} {tl : Int64} : ∀ (d i : Nat), 1 ≤ i → i + d = 6 → ∀ M : MM, Inv M → (∀ (M1 : MM) (t1 : Int64), LK_cost0 i d M tl M1 t1 → post M1 t1) → wX4_readOfKinds_15 post (d + 1) M tl 25 (nI 0) (nI i) := by
  intro d
  induction d with
  | zero =>
    intro i i1 hi M hI hp
    have hi : i = 6 := by omega
    subst hi
    unfold wX4_readOfKinds_15
    refine ifp (by decide) (hp M tl ⟨hI, fr_rfl, fun _ => ⟨rfl, rfl⟩, fun q => absurd q (by omega), fun N u post2 h k => ?_⟩)
    unfold wX11_readCosts_92
    exact ifp (by decide) (k N fr_rfl h)
  | succ d ih =>
    intro i i1 hi M hI hp
    have b6 := nI_le4 (i := i) (n := 6) (by omega) (by decide)
    have b4 : (nI 6 : Int32) = 6 := rfl
    rw [b4] at b6
    have tn : (nI i).toNatClampNeg = i := tn_nI (by omega)
    unfold wX4_readOfKinds_15
    refine ifn (by lia) (ifs (fun c2 => ?_) (fun c2 => hp M tl ⟨hI, fr_rfl, fun _ => ⟨rfl, rfl⟩, fun _ N h _ => h, fun N u post2 h k => rf_costs (by decide) (fun N1 i1 f1 e1 => k N1 f1 (bt_rf h c2 i1 f1 e1)) (d + 1) i (by omega) N h.1 fr_rfl (fun _ _ _ => rfl) (bad_n (bt_f0 h c2))⟩))
    refine And.intro (by decide) (And.intro (vp_nM (by decide) (by decide)) ?_)
    refine u_rnum hI (fun r1 M1 j1 f1 s1 a1 b1 n1 g1 => And.intro (by decide) (And.intro (vpI (c := 6) (by decide) b6.1 b6.2) ?_))
    intro W e
    have e : W = mset M1 26 i r1 := by rw [e, tn]; rfl
    have iW : Inv W := by rw [e]; exact inv_set j1 (i_any _)
    have c22 : W 22 = M1 22 := by rw [e]; exact mset_ne (by decide)
    have c1 : W 1 = M1 1 := by rw [e]; exact mset_ne (by decide)
    have c2' : W 2 = M1 2 := by rw [e]; exact mset_ne (by decide)
    have fW : CFr M W := by rw [e]; exact fr_arr (cf_tk fr_rfl f1) (by decide)
    rw [nI_s1]
    refine ih (i + 1) (by omega) (by omega) W iW (fun M2 t2 l => hp M2 t2 ⟨l.1, fr_call fW l.2.1 (fun _ h => h) (fun _ h => Or.inl h), fun z => absurd c2 z, fun _ N h q => ?_, fun N u post2 h k => ?_⟩)
    · have z := n1 N h q
      have zw : W 22 2 ≠ 0 := by rw [c22]; exact z.2
      have y := l.2.2.1 zw
      rw [y.1, y.2]
      exact bt_wc z.1 z.2 c22 c1 c2'
    · unfold wX11_readCosts_92
      refine ifn (by lia) (g1 N u _ h (fun r2 N1 f2 h2 a2 b2 => ifn (by decide) ?_))
      rw [ix_6]
      refine And.intro (vp_nM (by decide) (by show _ < 12; omega)) ?_
      intro V eV
      rw [tn_nI (by omega)] at eV
      have rr : 0 ≤ r2 ∧ r2 ≤ 20 := by
        by_cases q : M1 22 2 = 0
        · rw [a2 q]; have := a1 q; clear n1 g1 k ih hp l; lia
        · rw [b2 q]; decide
      have hV : Bt W tl V := bt_wr h2 (by rw [eV]; exact inv_set h2.1 (show 0 ≤ r2 ∧ r2 ≤ 20 from rr)) c22 c1 c2' (by rw [eV]; exact mset_ne (by decide)) (fun j h1 h2 => by rw [eV, mset_ne (by decide)]) (fun q d => by rw [e, eV, a2 q]; exact d_cost0 i1 (by omega) d)
      have fV : RFr N V := by rw [eV]; exact fr_arr (rf_nx fr_rfl f2) (by decide)
      unfold wX11_readCosts_140
      rw [nI_s1]
      exact l.2.2.2.2 V u post2 hV (fun N3 f3 h3 => k N3 (fr_call fV f3 (fun _ h => h) (fun _ h => Or.inl h)) h3)
theorem d_cost1 {M N : MM} {tl : Int64} {v : Int32} {k : Nat} (h1 : 1 ≤ k) (h6 : k < 6) (h : D M tl N) : D (mset M 27 k v) tl (mset N 92 (6 + k) v) := by
  obtain ⟨⟨⟨s0, s1, s2, s3⟩, l2, l3, l4, l5, l6, l7, l8⟩, hi, hs, ht, hh⟩ := h
  refine ⟨⟨?_, ?_, ?_, ?_, ?_, ?_, ?_, ?_⟩, dinv_eq hi (mset_ne (by decide)) (mset_ne (by decide)) (by rw [mset_ne (by decide)]), dscn_eq hs (mset_ne (by decide)) (mset_ne (by decide)) (mset_ne (by decide)) (mset_ne (by decide)), dt_eq ht (fun j h1 h2 => by rw [mset_ne (by decide)]), dh_eq hh (mset_ne (by decide)) (mset_ne (by decide)) (by rw [mset_ne (by decide)])⟩
  · rw [mset_ne (i := 23) (by decide), mset_ne (i := 81) (by decide)]
    exact ⟨s0, s1, s2, s3⟩
  · rw [mset_ne (i := 24) (by decide), mset_ne (i := 91) (by decide)]; exact l2
  · intro q hq hq1
    have z := l3 q hq hq1
    rw [mset_if, mset_if, mset_if, mset_if]
    by_cases e : q = k
    · subst e
      rw [if_neg (fun y => absurd y.1 (by decide)), if_neg (by omega), if_pos ⟨rfl, rfl⟩, if_pos ⟨rfl, by omega⟩]
      exact ⟨z.1, rfl⟩
    · rw [if_neg (fun y => absurd y.1 (by decide)), if_neg (by omega), if_neg (fun y => e y.2), if_neg (fun y => e (by omega))]
      exact z
  · rw [mset_ne (i := 29) (by decide), mset_ne (i := 30) (by decide), mset_ne (i := 93) (by decide)]; exact l4
  · rw [mset_ne (i := 93) (by decide)]; exact l5
  · rw [mset_ne (i := 31) (by decide), mset_ne (i := 94) (by decide)]; exact l6
  · rw [mset_ne (i := 32) (by decide), mset_ne (i := 95) (by decide)]; exact l7
  · rw [mset_ne (i := 33) (by decide), mset_ne (i := 96) (by decide)]; exact l8
def LK_cost1 (i d : Nat) (M : MM) (tl : Int64) (M1 : MM) (t1 : Int64) : Prop := Inv M1 ∧ CFr M M1 ∧ (M 22 2 ≠ 0 → M1 = M ∧ t1 = tl) ∧ (i < 6 → ∀ N, Bt M tl N → N 81 36 ≠ 0 → Bt M1 t1 N) ∧ ∀ (N : MM) (u : Int64) (post2 : MM → Int64 → Prop), Bt M tl N → (∀ N1, RFr N N1 → Bt M1 t1 N1 → post2 N1 u) → wX11_readCosts_92 post2 (d + 1) N u 1 (nI 1) (nI i)
theorem lk_cost1 {post : MM → Int64 → Prop} {tl : Int64} : ∀ (d i : Nat), 1 ≤ i → i + d = 6 → ∀ M : MM, Inv M → (∀ (M1 : MM) (t1 : Int64), LK_cost1 i d M tl M1 t1 → post M1 t1) → wX4_readOfKinds_15 post (d + 1) M tl 25 (nI 1) (nI i) := by
  intro d
  induction d with
  | zero =>
    intro i i1 hi M hI hp
    have hi : i = 6 := by omega
    subst hi
    unfold wX4_readOfKinds_15
    refine ifp (by decide) (hp M tl ⟨hI, fr_rfl, fun _ => ⟨rfl, rfl⟩, fun q => absurd q (by omega), fun N u post2 h k => ?_⟩)
    unfold wX11_readCosts_92
    exact ifp (by decide) (k N fr_rfl h)
  | succ d ih =>
    intro i i1 hi M hI hp
    have b6 := nI_le4 (i := i) (n := 6) (by omega) (by decide)
    have b4 : (nI 6 : Int32) = 6 := rfl
    rw [b4] at b6
    have tn : (nI i).toNatClampNeg = i := tn_nI (by omega)
    unfold wX4_readOfKinds_15
    refine ifn (by lia) (ifs (fun c2 => ?_) (fun c2 => hp M tl ⟨hI, fr_rfl, fun _ => ⟨rfl, rfl⟩, fun _ N h _ => h, fun N u post2 h k => rf_costs (by decide) (fun N1 i1 f1 e1 => k N1 f1 (bt_rf h c2 i1 f1 e1)) (d + 1) i (by omega) N h.1 fr_rfl (fun _ _ _ => rfl) (bad_n (bt_f0 h c2))⟩))
    refine And.intro (by decide) (And.intro (vp_nM (by decide) (by decide)) ?_)
    refine u_rnum hI (fun r1 M1 j1 f1 s1 a1 b1 n1 g1 => And.intro (by decide) (And.intro (vpI (c := 6) (by decide) b6.1 b6.2) ?_))
    intro W e
    have e : W = mset M1 27 i r1 := by rw [e, tn]; rfl
    have iW : Inv W := by rw [e]; exact inv_set j1 (i_any _)
    have c22 : W 22 = M1 22 := by rw [e]; exact mset_ne (by decide)
    have c1 : W 1 = M1 1 := by rw [e]; exact mset_ne (by decide)
    have c2' : W 2 = M1 2 := by rw [e]; exact mset_ne (by decide)
    have fW : CFr M W := by rw [e]; exact fr_arr (cf_tk fr_rfl f1) (by decide)
    rw [nI_s1]
    refine ih (i + 1) (by omega) (by omega) W iW (fun M2 t2 l => hp M2 t2 ⟨l.1, fr_call fW l.2.1 (fun _ h => h) (fun _ h => Or.inl h), fun z => absurd c2 z, fun _ N h q => ?_, fun N u post2 h k => ?_⟩)
    · have z := n1 N h q
      have zw : W 22 2 ≠ 0 := by rw [c22]; exact z.2
      have y := l.2.2.1 zw
      rw [y.1, y.2]
      exact bt_wc z.1 z.2 c22 c1 c2'
    · unfold wX11_readCosts_92
      refine ifn (by lia) (g1 N u _ h (fun r2 N1 f2 h2 a2 b2 => ifn (by decide) ?_))
      rw [ix_6]
      refine And.intro (vp_nM (by decide) (by show _ < 12; omega)) ?_
      intro V eV
      rw [tn_nI (by omega)] at eV
      have rr : 0 ≤ r2 ∧ r2 ≤ 20 := by
        by_cases q : M1 22 2 = 0
        · rw [a2 q]; have := a1 q; clear n1 g1 k ih hp l; lia
        · rw [b2 q]; decide
      have hV : Bt W tl V := bt_wr h2 (by rw [eV]; exact inv_set h2.1 (show 0 ≤ r2 ∧ r2 ≤ 20 from rr)) c22 c1 c2' (by rw [eV]; exact mset_ne (by decide)) (fun j h1 h2 => by rw [eV, mset_ne (by decide)]) (fun q d => by rw [e, eV, a2 q]; exact d_cost1 i1 (by omega) d)
      have fV : RFr N V := by rw [eV]; exact fr_arr (rf_nx fr_rfl f2) (by decide)
      unfold wX11_readCosts_140
      rw [nI_s1]
      exact l.2.2.2.2 V u post2 hV (fun N3 f3 h3 => k N3 (fr_call fV f3 (fun _ h => h) (fun _ h => Or.inl h)) h3)
theorem d_taste0 {M N : MM} {tl : Int64} {v : Int32} {k : Nat} (h1 : 1 ≤ k) (h6 : k < 6) (h : D M tl N) : D (mset M 29 k v) tl (mset N 93 (0 + k) v) := by
  obtain ⟨⟨⟨s0, s1, s2, s3⟩, l2, l3, l4, l5, l6, l7, l8⟩, hi, hs, ht, hh⟩ := h
  refine ⟨⟨?_, ?_, ?_, ?_, ?_, ?_, ?_, ?_⟩, dinv_eq hi (mset_ne (by decide)) (mset_ne (by decide)) (by rw [mset_ne (by decide)]), dscn_eq hs (mset_ne (by decide)) (mset_ne (by decide)) (mset_ne (by decide)) (mset_ne (by decide)), dt_eq ht (fun j h1 h2 => by rw [mset_ne (by decide)]), dh_eq hh (mset_ne (by decide)) (mset_ne (by decide)) (by rw [mset_ne (by decide)])⟩
  · rw [mset_ne (i := 23) (by decide), mset_ne (i := 81) (by decide)]
    exact ⟨s0, s1, s2, s3⟩
  · rw [mset_ne (i := 24) (by decide), mset_ne (i := 91) (by decide)]; exact l2
  · rw [mset_ne (i := 26) (by decide), mset_ne (i := 27) (by decide), mset_ne (i := 92) (by decide)]; exact l3
  · intro q hq hq1
    have z := l4 q hq hq1
    rw [mset_if, mset_if, mset_if, mset_if]
    by_cases e : q = k
    · subst e
      rw [if_pos ⟨rfl, rfl⟩, if_pos ⟨rfl, by omega⟩, if_neg (fun y => absurd y.1 (by decide)), if_neg (by omega)]
      exact ⟨rfl, z.2⟩
    · rw [if_neg (fun y => e y.2), if_neg (fun y => e (by omega)), if_neg (fun y => absurd y.1 (by decide)), if_neg (by omega)]
      exact z
  · rw [mset_nk (by omega), mset_nk (by omega)]; exact l5
  · rw [mset_ne (i := 31) (by decide), mset_ne (i := 94) (by decide)]; exact l6
  · rw [mset_ne (i := 32) (by decide), mset_ne (i := 95) (by decide)]; exact l7
  · rw [mset_ne (i := 33) (by decide), mset_ne (i := 96) (by decide)]; exact l8
def LK_taste0 (i d : Nat) (M : MM) (tl : Int64) (M1 : MM) (t1 : Int64) : Prop := Inv M1 ∧ CFr M M1 ∧ (M 22 2 ≠ 0 → M1 = M ∧ t1 = tl) ∧ (i < 6 → ∀ N, Bt M tl N → N 81 36 ≠ 0 → Bt M1 t1 N) ∧ ∀ (N : MM) (u : Int64) (post2 : MM → Int64 → Prop), Bt M tl N → (∀ N1, RFr N N1 → Bt M1 t1 N1 → post2 N1 u) → wX11_readCosts_92 post2 (d + 1) N u 0 (nI 0) (nI i)
theorem lk_taste0 {post : MM → Int64 → Prop} {tl : Int64} : ∀ (d i : Nat), 1 ≤ i → i + d = 6 → ∀ M : MM, Inv M → (∀ (M1 : MM) (t1 : Int64), LK_taste0 i d M tl M1 t1 → post M1 t1) → wX4_readOfKinds_15 post (d + 1) M tl 28 (nI 0) (nI i) := by
  intro d
  induction d with
  | zero =>
    intro i i1 hi M hI hp
    have hi : i = 6 := by omega
    subst hi
    unfold wX4_readOfKinds_15
    refine ifp (by decide) (hp M tl ⟨hI, fr_rfl, fun _ => ⟨rfl, rfl⟩, fun q => absurd q (by omega), fun N u post2 h k => ?_⟩)
    unfold wX11_readCosts_92
    exact ifp (by decide) (k N fr_rfl h)
  | succ d ih =>
    intro i i1 hi M hI hp
    have b6 := nI_le4 (i := i) (n := 6) (by omega) (by decide)
    have b4 : (nI 6 : Int32) = 6 := rfl
    rw [b4] at b6
    have tn : (nI i).toNatClampNeg = i := tn_nI (by omega)
    unfold wX4_readOfKinds_15
    refine ifn (by lia) (ifs (fun c2 => ?_) (fun c2 => hp M tl ⟨hI, fr_rfl, fun _ => ⟨rfl, rfl⟩, fun _ N h _ => h, fun N u post2 h k => rf_costs (by decide) (fun N1 i1 f1 e1 => k N1 f1 (bt_rf h c2 i1 f1 e1)) (d + 1) i (by omega) N h.1 fr_rfl (fun _ _ _ => rfl) (bad_n (bt_f0 h c2))⟩))
    refine And.intro (by decide) (And.intro (vp_nM (by decide) (by decide)) ?_)
    refine u_rnum hI (fun r1 M1 j1 f1 s1 a1 b1 n1 g1 => And.intro (by decide) (And.intro (vpI (c := 6) (by decide) b6.1 b6.2) ?_))
    intro W e
    have e : W = mset M1 29 i r1 := by rw [e, tn]; rfl
    have iW : Inv W := by rw [e]; exact inv_set j1 (i_any _)
    have c22 : W 22 = M1 22 := by rw [e]; exact mset_ne (by decide)
    have c1 : W 1 = M1 1 := by rw [e]; exact mset_ne (by decide)
    have c2' : W 2 = M1 2 := by rw [e]; exact mset_ne (by decide)
    have fW : CFr M W := by rw [e]; exact fr_arr (cf_tk fr_rfl f1) (by decide)
    rw [nI_s1]
    refine ih (i + 1) (by omega) (by omega) W iW (fun M2 t2 l => hp M2 t2 ⟨l.1, fr_call fW l.2.1 (fun _ h => h) (fun _ h => Or.inl h), fun z => absurd c2 z, fun _ N h q => ?_, fun N u post2 h k => ?_⟩)
    · have z := n1 N h q
      have zw : W 22 2 ≠ 0 := by rw [c22]; exact z.2
      have y := l.2.2.1 zw
      rw [y.1, y.2]
      exact bt_wc z.1 z.2 c22 c1 c2'
    · unfold wX11_readCosts_92
      refine ifn (by lia) (g1 N u _ h (fun r2 N1 f2 h2 a2 b2 => ifp rfl ?_))
      rw [ix_6]
      refine And.intro (vp_nM (by decide) (by show _ < 12; omega)) ?_
      intro V eV
      rw [tn_nI (by omega)] at eV
      have rr : 0 ≤ r2 ∧ r2 ≤ 20 := by
        by_cases q : M1 22 2 = 0
        · rw [a2 q]; have := a1 q; clear n1 g1 k ih hp l; lia
        · rw [b2 q]; decide
      have hV : Bt W tl V := bt_wr h2 (by rw [eV]; exact inv_set h2.1 (i_any _)) c22 c1 c2' (by rw [eV]; exact mset_ne (by decide)) (fun j h1 h2 => by rw [eV, mset_ne (by decide)]) (fun q d => by rw [e, eV, a2 q]; exact d_taste0 i1 (by omega) d)
      have fV : RFr N V := by rw [eV]; exact fr_arr (rf_nx fr_rfl f2) (by decide)
      unfold wX11_readCosts_140
      rw [nI_s1]
      exact l.2.2.2.2 V u post2 hV (fun N3 f3 h3 => k N3 (fr_call fV f3 (fun _ h => h) (fun _ h => Or.inl h)) h3)
theorem d_taste1 {M N : MM} {tl : Int64} {v : Int32} {k : Nat} (h1 : 1 ≤ k) (h6 : k < 6) (h : D M tl N) : D (mset M 30 k v) tl (mset N 93 (6 + k) v) := by
  obtain ⟨⟨⟨s0, s1, s2, s3⟩, l2, l3, l4, l5, l6, l7, l8⟩, hi, hs, ht, hh⟩ := h
  refine ⟨⟨?_, ?_, ?_, ?_, ?_, ?_, ?_, ?_⟩, dinv_eq hi (mset_ne (by decide)) (mset_ne (by decide)) (by rw [mset_ne (by decide)]), dscn_eq hs (mset_ne (by decide)) (mset_ne (by decide)) (mset_ne (by decide)) (mset_ne (by decide)), dt_eq ht (fun j h1 h2 => by rw [mset_ne (by decide)]), dh_eq hh (mset_ne (by decide)) (mset_ne (by decide)) (by rw [mset_ne (by decide)])⟩
  · rw [mset_ne (i := 23) (by decide), mset_ne (i := 81) (by decide)]
    exact ⟨s0, s1, s2, s3⟩
  · rw [mset_ne (i := 24) (by decide), mset_ne (i := 91) (by decide)]; exact l2
  · rw [mset_ne (i := 26) (by decide), mset_ne (i := 27) (by decide), mset_ne (i := 92) (by decide)]; exact l3
  · intro q hq hq1
    have z := l4 q hq hq1
    rw [mset_if, mset_if, mset_if, mset_if]
    by_cases e : q = k
    · subst e
      rw [if_neg (fun y => absurd y.1 (by decide)), if_neg (by omega), if_pos ⟨rfl, rfl⟩, if_pos ⟨rfl, by omega⟩]
      exact ⟨z.1, rfl⟩
    · rw [if_neg (fun y => absurd y.1 (by decide)), if_neg (by omega), if_neg (fun y => e y.2), if_neg (fun y => e (by omega))]
      exact z
  · rw [mset_nk (by omega), mset_nk (by omega)]; exact l5
  · rw [mset_ne (i := 31) (by decide), mset_ne (i := 94) (by decide)]; exact l6
  · rw [mset_ne (i := 32) (by decide), mset_ne (i := 95) (by decide)]; exact l7
  · rw [mset_ne (i := 33) (by decide), mset_ne (i := 96) (by decide)]; exact l8
def LK_taste1 (i d : Nat) (M : MM) (tl : Int64) (M1 : MM) (t1 : Int64) : Prop := Inv M1 ∧ CFr M M1 ∧ (M 22 2 ≠ 0 → M1 = M ∧ t1 = tl) ∧ (i < 6 → ∀ N, Bt M tl N → N 81 36 ≠ 0 → Bt M1 t1 N) ∧ ∀ (N : MM) (u : Int64) (post2 : MM → Int64 → Prop), Bt M tl N → (∀ N1, RFr N N1 → Bt M1 t1 N1 → post2 N1 u) → wX11_readCosts_92 post2 (d + 1) N u 0 (nI 1) (nI i)
theorem lk_taste1 {post : MM → Int64 → Prop} {tl : Int64} : ∀ (d i : Nat), 1 ≤ i → i + d = 6 → ∀ M : MM, Inv M → (∀ (M1 : MM) (t1 : Int64), LK_taste1 i d M tl M1 t1 → post M1 t1) → wX4_readOfKinds_15 post (d + 1) M tl 28 (nI 1) (nI i) := by
  intro d
  induction d with
  | zero =>
    intro i i1 hi M hI hp
    have hi : i = 6 := by omega
    subst hi
    unfold wX4_readOfKinds_15
    refine ifp (by decide) (hp M tl ⟨hI, fr_rfl, fun _ => ⟨rfl, rfl⟩, fun q => absurd q (by omega), fun N u post2 h k => ?_⟩)
    unfold wX11_readCosts_92
    exact ifp (by decide) (k N fr_rfl h)
  | succ d ih =>
    intro i i1 hi M hI hp
    have b6 := nI_le4 (i := i) (n := 6) (by omega) (by decide)
    have b4 : (nI 6 : Int32) = 6 := rfl
    rw [b4] at b6
    have tn : (nI i).toNatClampNeg = i := tn_nI (by omega)
    unfold wX4_readOfKinds_15
    refine ifn (by lia) (ifs (fun c2 => ?_) (fun c2 => hp M tl ⟨hI, fr_rfl, fun _ => ⟨rfl, rfl⟩, fun _ N h _ => h, fun N u post2 h k => rf_costs (by decide) (fun N1 i1 f1 e1 => k N1 f1 (bt_rf h c2 i1 f1 e1)) (d + 1) i (by omega) N h.1 fr_rfl (fun _ _ _ => rfl) (bad_n (bt_f0 h c2))⟩))
    refine And.intro (by decide) (And.intro (vp_nM (by decide) (by decide)) ?_)
    refine u_rnum hI (fun r1 M1 j1 f1 s1 a1 b1 n1 g1 => And.intro (by decide) (And.intro (vpI (c := 6) (by decide) b6.1 b6.2) ?_))
    intro W e
    have e : W = mset M1 30 i r1 := by rw [e, tn]; rfl
    have iW : Inv W := by rw [e]; exact inv_set j1 (i_any _)
    have c22 : W 22 = M1 22 := by rw [e]; exact mset_ne (by decide)
    have c1 : W 1 = M1 1 := by rw [e]; exact mset_ne (by decide)
    have c2' : W 2 = M1 2 := by rw [e]; exact mset_ne (by decide)
    have fW : CFr M W := by rw [e]; exact fr_arr (cf_tk fr_rfl f1) (by decide)
    rw [nI_s1]
    refine ih (i + 1) (by omega) (by omega) W iW (fun M2 t2 l => hp M2 t2 ⟨l.1, fr_call fW l.2.1 (fun _ h => h) (fun _ h => Or.inl h), fun z => absurd c2 z, fun _ N h q => ?_, fun N u post2 h k => ?_⟩)
    · have z := n1 N h q
      have zw : W 22 2 ≠ 0 := by rw [c22]; exact z.2
      have y := l.2.2.1 zw
      rw [y.1, y.2]
      exact bt_wc z.1 z.2 c22 c1 c2'
    · unfold wX11_readCosts_92
      refine ifn (by lia) (g1 N u _ h (fun r2 N1 f2 h2 a2 b2 => ifp rfl ?_))
      rw [ix_6]
      refine And.intro (vp_nM (by decide) (by show _ < 12; omega)) ?_
      intro V eV
      rw [tn_nI (by omega)] at eV
      have rr : 0 ≤ r2 ∧ r2 ≤ 20 := by
        by_cases q : M1 22 2 = 0
        · rw [a2 q]; have := a1 q; clear n1 g1 k ih hp l; lia
        · rw [b2 q]; decide
      have hV : Bt W tl V := bt_wr h2 (by rw [eV]; exact inv_set h2.1 (i_any _)) c22 c1 c2' (by rw [eV]; exact mset_ne (by decide)) (fun j h1 h2 => by rw [eV, mset_ne (by decide)]) (fun q d => by rw [e, eV, a2 q]; exact d_taste1 i1 (by omega) d)
      have fV : RFr N V := by rw [eV]; exact fr_arr (rf_nx fr_rfl f2) (by decide)
      unfold wX11_readCosts_140
      rw [nI_s1]
      exact l.2.2.2.2 V u post2 hV (fun N3 f3 h3 => k N3 (fr_call fV f3 (fun _ h => h) (fun _ h => Or.inl h)) h3)
