/-! LINES of one number, of four prices, of costs and tastes (printed by wip/gen/lines1.py) -/
def LC (R : (MM → Int64 → Prop) → MM → Int64 → Prop) (M : MM) (tl : Int64) (M1 : MM) (t1 : Int64) : Prop := Inv M1 ∧ CFr M M1 ∧ (∀ N, Bt M tl N → N 81 36 ≠ 0 → Bt M1 t1 N) ∧ ∀ (N : MM) (u : Int64) (post2 : MM → Int64 → Prop), Bt M tl N → N 81 36 = 0 → (∀ N1, RFr N N1 → Bt M1 t1 N1 → post2 N1 u) → R post2 N u
theorem dscn_eq {M M1 N N1 : MM} (h : Dscn M N) (e35 : M1 35 = M 35) (e36 : M1 36 = M 36) (e37 : M1 37 = M 37) (e90 : N1 90 = N 90) : Dscn M1 N1 := by
  unfold Dscn at h ⊢
  rw [e35, e36, e37, e90]; exact h
theorem dt_eq {tl : Int64} {N N1 : MM} (h : DT tl N) (e : ∀ j, 23 ≤ j → j ≤ 28 → N1 81 j = N 81 j) : DT tl N1 := by
  unfold DT at h ⊢
  rw [e 23 (by decide) (by decide), e 24 (by decide) (by decide), e 25 (by decide) (by decide), e 26 (by decide) (by decide), e 27 (by decide) (by decide), e 28 (by decide) (by decide)]; exact h
theorem dh_eq {tl : Int64} {M M1 N N1 : MM} (h : DH M tl N) (e36 : M1 36 = M 36) (e37 : M1 37 = M 37) (e29 : N1 81 29 = N 81 29) : DH M1 tl N1 := by
  unfold DH at h ⊢
  rw [e36, e37, e29]; exact h
theorem dinv_eq {N N1 : MM} (h : Dinv N) (e94 : N1 94 = N 94) (e95 : N1 95 = N 95) (e27 : N1 81 27 = N 81 27) : Dinv N1 := by
  unfold Dinv at h ⊢
  rw [e94, e95, e27]; exact h
/-- Bt where the class has no fault -/
theorem bt_ok {M N : MM} {tl : Int64} (h : Bt M tl N) (q : M 22 2 = 0) : Lx (M 2) (M 1 1) (M 22 6) (N 81 33) (N 81 32) (N 81 34) (N 81 35) (N 81 36) (N 81 37) ∧ (N 81 36 = 0 → D M tl N) := by
  rcases h.2.2 with ⟨_, z⟩ | z
  · exact z
  · exact absurd q z.1
/-- writes on both sides behind a unit -/
theorem bt_wr {M1 W N1 V : MM} {tl : Int64} (h : Bt M1 tl N1) (iV : Inv V) (c22 : W 22 = M1 22) (c1 : W 1 = M1 1) (c2 : W 2 = M1 2) (r97 : V 97 = N1 97) (r81 : ∀ j, 31 ≤ j → j ≤ 37 → V 81 j = N1 81 j) (hd : M1 22 2 = 0 → D M1 tl N1 → D W tl V) : Bt W tl V := by
  refine ⟨iV, tp_eq h.2.1 (by rw [c1]) c2 (r81 31 (by decide) (by decide)) r97, ?_⟩
  rcases h.2.2 with ⟨a, b, d⟩ | z
  · refine Or.inl ⟨by rw [c22]; exact a, ?_, fun z => hd a (d (by rw [← r81 36 (by decide) (by decide)]; exact z))⟩
    rw [c1, c2, c22, r81 33 (by decide) (by decide), r81 32 (by decide) (by decide), r81 34 (by decide) (by decide), r81 35 (by decide) (by decide), r81 36 (by decide) (by decide), r81 37 (by decide) (by decide)]
    exact b
  · refine Or.inr ⟨by rw [c22]; exact z.1, ?_, ?_⟩
    · rw [c22, r81 36 (by decide) (by decide)]; exact z.2.1
    · rw [c22, r81 37 (by decide) (by decide)]; exact z.2.2
theorem bt_wc {M1 W N : MM} {tl : Int64} (h : Bt M1 tl N) (q : M1 22 2 ≠ 0) (c22 : W 22 = M1 22) (c1 : W 1 = M1 1) (c2 : W 2 = M1 2) : Bt W tl N := bt_wr h h.1 c22 c1 c2 rfl (fun _ _ _ => rfl) (fun z => absurd z q)
theorem d_lots {M N : MM} {tl : Int64} {v : Int32} (h : D M tl N) : D (mset M 23 0 v) tl (mset N 81 13 v) := by
  obtain ⟨⟨⟨s0, s1, s2, s3⟩, l2, l3, l4, l5, l6, l7, l8⟩, hi, hs, ht, hh⟩ := h
  refine ⟨⟨⟨by rw [mset_at, mset_at], by rw [mset_nk (by decide), mset_nk (by decide)]; exact s1, by rw [mset_nk (by decide), mset_nk (by decide)]; exact s2, by rw [mset_nk (by decide), mset_nk (by decide)]; exact s3⟩, ?_⟩, dinv_eq hi (mset_ne (by decide)) (mset_ne (by decide)) (mset_nk (by decide)), dscn_eq hs (mset_ne (by decide)) (mset_ne (by decide)) (mset_ne (by decide)) (mset_ne (by decide)), dt_eq ht (fun j h1 h2 => mset_nk (by omega)), dh_eq hh (mset_ne (by decide)) (mset_ne (by decide)) (mset_nk (by decide))⟩
  rw [mset_ne (i := 24) (by decide), mset_ne (i := 26) (by decide), mset_ne (i := 27) (by decide), mset_ne (i := 29) (by decide), mset_ne (i := 30) (by decide), mset_ne (i := 31) (by decide), mset_ne (i := 32) (by decide), mset_ne (i := 33) (by decide), mset_ne (i := 91) (by decide), mset_ne (i := 92) (by decide), mset_ne (i := 93) (by decide), mset_ne (i := 94) (by decide), mset_ne (i := 95) (by decide), mset_ne (i := 96) (by decide)]
  exact ⟨l2, l3, l4, l5, l6, l7, l8⟩
theorem ln_lots {post : MM → Int64 → Prop} {M : MM} {tl : Int64} (hI : Inv M) (hp : ∀ (M1 : MM) (t1 : Int64), LC (fun p N u => wpX11_readLineOf p N u 10) M tl M1 t1 → post M1 t1) : wpX4_takeNumber (fun r6 M4 t5 => (∀ M7 : MM, M7 = mset M4 23 0 r6 → post M7 t5)) M tl 1 8 := by
  refine u_rnum hI (fun r1 M1 i1 f1 s1 a1 b1 n1 g1 => ?_)
  intro W e
  have iW : Inv W := by
    rw [e]
    refine inv_set i1 ?_
    show -2147483648 ≤ r1 ∧ r1 ≤ 8
    by_cases q : M1 22 2 = 0
    · have := a1 q; clear n1 g1; lia
    · rw [b1 q]; decide
  have c22 : W 22 = M1 22 := by rw [e]; exact mset_ne (by decide)
  have c1 : W 1 = M1 1 := by rw [e]; exact mset_ne (by decide)
  have c2 : W 2 = M1 2 := by rw [e]; exact mset_ne (by decide)
  refine hp W tl ⟨iW, by rw [e]; exact fr_fld (cf_tk fr_rfl f1) (by decide), fun N h q => ?_, fun N u post2 h q k => ?_⟩
  · have z := n1 N h q
    exact bt_wc z.1 z.2 c22 c1 c2
  · unfold wpX11_readLineOf
    refine ifp rfl ?_
    refine g1 N u _ h (fun r2 N1 f2 h2 a2 b2 => ?_)
    intro V eV
    have rr : 0 ≤ r2 ∧ r2 ≤ 8 := by
      by_cases q : M1 22 2 = 0
      · rw [a2 q]; have := a1 q; clear n1 g1 k; lia
      · rw [b2 q]; decide
    refine k V (by rw [eV]; exact fr_fld (rf_nx fr_rfl f2) (by decide)) (bt_wr h2 (by rw [eV]; exact inv_set h2.1 (show 0 ≤ r2 ∧ r2 ≤ 8 from rr)) c22 c1 c2 (by rw [eV]; exact mset_ne (by decide)) (fun j h1 h2 => by rw [eV]; exact mset_nk (by omega)) (fun q d => ?_))
    rw [e, eV, a2 q]
    exact d_lots d
theorem d_bend {M N : MM} {tl : Int64} {v : Int32} (h : D M tl N) : D (mset M 23 1 v) tl (mset N 81 14 v) := by
  obtain ⟨⟨⟨s0, s1, s2, s3⟩, l2, l3, l4, l5, l6, l7, l8⟩, hi, hs, ht, hh⟩ := h
  refine ⟨⟨⟨by rw [mset_nk (by decide), mset_nk (by decide)]; exact s0, by rw [mset_at, mset_at], by rw [mset_nk (by decide), mset_nk (by decide)]; exact s2, by rw [mset_nk (by decide), mset_nk (by decide)]; exact s3⟩, ?_⟩, dinv_eq hi (mset_ne (by decide)) (mset_ne (by decide)) (mset_nk (by decide)), dscn_eq hs (mset_ne (by decide)) (mset_ne (by decide)) (mset_ne (by decide)) (mset_ne (by decide)), dt_eq ht (fun j h1 h2 => mset_nk (by omega)), dh_eq hh (mset_ne (by decide)) (mset_ne (by decide)) (mset_nk (by decide))⟩
  rw [mset_ne (i := 24) (by decide), mset_ne (i := 26) (by decide), mset_ne (i := 27) (by decide), mset_ne (i := 29) (by decide), mset_ne (i := 30) (by decide), mset_ne (i := 31) (by decide), mset_ne (i := 32) (by decide), mset_ne (i := 33) (by decide), mset_ne (i := 91) (by decide), mset_ne (i := 92) (by decide), mset_ne (i := 93) (by decide), mset_ne (i := 94) (by decide), mset_ne (i := 95) (by decide), mset_ne (i := 96) (by decide)]
  exact ⟨l2, l3, l4, l5, l6, l7, l8⟩
theorem ln_bend {post : MM → Int64 → Prop} {M : MM} {tl : Int64} (hI : Inv M) (hp : ∀ (M1 : MM) (t1 : Int64), LC (fun p N u => wpX11_readLineOf p N u 11) M tl M1 t1 → post M1 t1) : wpX4_takeNumber (fun r6 M4 t5 => (∀ M7 : MM, M7 = mset M4 23 1 r6 → post M7 t5)) M tl 0 6 := by
  refine u_rnum hI (fun r1 M1 i1 f1 s1 a1 b1 n1 g1 => ?_)
  intro W e
  have iW : Inv W := by
    rw [e]
    refine inv_set i1 ?_
    exact i_any _
  have c22 : W 22 = M1 22 := by rw [e]; exact mset_ne (by decide)
  have c1 : W 1 = M1 1 := by rw [e]; exact mset_ne (by decide)
  have c2 : W 2 = M1 2 := by rw [e]; exact mset_ne (by decide)
  refine hp W tl ⟨iW, by rw [e]; exact fr_fld (cf_tk fr_rfl f1) (by decide), fun N h q => ?_, fun N u post2 h q k => ?_⟩
  · have z := n1 N h q
    exact bt_wc z.1 z.2 c22 c1 c2
  · unfold wpX11_readLineOf
    refine ifn (by decide) (ifp rfl ?_)
    refine g1 N u _ h (fun r2 N1 f2 h2 a2 b2 => ?_)
    intro V eV
    have rr : 0 ≤ r2 ∧ r2 ≤ 6 := by
      by_cases q : M1 22 2 = 0
      · rw [a2 q]; have := a1 q; clear n1 g1 k; lia
      · rw [b2 q]; decide
    refine k V (by rw [eV]; exact fr_fld (rf_nx fr_rfl f2) (by decide)) (bt_wr h2 (by rw [eV]; exact inv_set h2.1 (show 0 ≤ r2 ∧ r2 ≤ 6 from rr)) c22 c1 c2 (by rw [eV]; exact mset_ne (by decide)) (fun j h1 h2 => by rw [eV]; exact mset_nk (by omega)) (fun q d => ?_))
    rw [e, eV, a2 q]
    exact d_bend d
theorem d_pull {M N : MM} {tl : Int64} {v : Int32} (h : D M tl N) : D (mset M 23 2 v) tl (mset N 81 15 v) := by
  obtain ⟨⟨⟨s0, s1, s2, s3⟩, l2, l3, l4, l5, l6, l7, l8⟩, hi, hs, ht, hh⟩ := h
  refine ⟨⟨⟨by rw [mset_nk (by decide), mset_nk (by decide)]; exact s0, by rw [mset_nk (by decide), mset_nk (by decide)]; exact s1, by rw [mset_at, mset_at], by rw [mset_nk (by decide), mset_nk (by decide)]; exact s3⟩, ?_⟩, dinv_eq hi (mset_ne (by decide)) (mset_ne (by decide)) (mset_nk (by decide)), dscn_eq hs (mset_ne (by decide)) (mset_ne (by decide)) (mset_ne (by decide)) (mset_ne (by decide)), dt_eq ht (fun j h1 h2 => mset_nk (by omega)), dh_eq hh (mset_ne (by decide)) (mset_ne (by decide)) (mset_nk (by decide))⟩
  rw [mset_ne (i := 24) (by decide), mset_ne (i := 26) (by decide), mset_ne (i := 27) (by decide), mset_ne (i := 29) (by decide), mset_ne (i := 30) (by decide), mset_ne (i := 31) (by decide), mset_ne (i := 32) (by decide), mset_ne (i := 33) (by decide), mset_ne (i := 91) (by decide), mset_ne (i := 92) (by decide), mset_ne (i := 93) (by decide), mset_ne (i := 94) (by decide), mset_ne (i := 95) (by decide), mset_ne (i := 96) (by decide)]
  exact ⟨l2, l3, l4, l5, l6, l7, l8⟩
theorem ln_pull {post : MM → Int64 → Prop} {M : MM} {tl : Int64} (hI : Inv M) (hp : ∀ (M1 : MM) (t1 : Int64), LC (fun p N u => wpX11_readLineOf p N u 12) M tl M1 t1 → post M1 t1) : wpX4_takeNumber (fun r6 M4 t5 => (∀ M7 : MM, M7 = mset M4 23 2 r6 → post M7 t5)) M tl 0 20 := by
  refine u_rnum hI (fun r1 M1 i1 f1 s1 a1 b1 n1 g1 => ?_)
  intro W e
  have iW : Inv W := by
    rw [e]
    refine inv_set i1 ?_
    exact i_any _
  have c22 : W 22 = M1 22 := by rw [e]; exact mset_ne (by decide)
  have c1 : W 1 = M1 1 := by rw [e]; exact mset_ne (by decide)
  have c2 : W 2 = M1 2 := by rw [e]; exact mset_ne (by decide)
  refine hp W tl ⟨iW, by rw [e]; exact fr_fld (cf_tk fr_rfl f1) (by decide), fun N h q => ?_, fun N u post2 h q k => ?_⟩
  · have z := n1 N h q
    exact bt_wc z.1 z.2 c22 c1 c2
  · unfold wpX11_readLineOf
    refine ifn (by decide) (ifn (by decide) (ifp rfl ?_))
    refine g1 N u _ h (fun r2 N1 f2 h2 a2 b2 => ?_)
    intro V eV
    have rr : 0 ≤ r2 ∧ r2 ≤ 20 := by
      by_cases q : M1 22 2 = 0
      · rw [a2 q]; have := a1 q; clear n1 g1 k; lia
      · rw [b2 q]; decide
    refine k V (by rw [eV]; exact fr_fld (rf_nx fr_rfl f2) (by decide)) (bt_wr h2 (by rw [eV]; exact inv_set h2.1 (show 0 ≤ r2 ∧ r2 ≤ 20 from rr)) c22 c1 c2 (by rw [eV]; exact mset_ne (by decide)) (fun j h1 h2 => by rw [eV]; exact mset_nk (by omega)) (fun q d => ?_))
    rw [e, eV, a2 q]
    exact d_pull d
theorem d_price {M N : MM} {tl : Int64} {v : Int32} {k : Nat} (h : D M tl N) : D (mset M 24 k v) tl (mset N 91 k v) := by
  obtain ⟨⟨⟨s0, s1, s2, s3⟩, l2, l3, l4, l5, l6, l7, l8⟩, hi, hs, ht, hh⟩ := h
  refine ⟨⟨?_, fun q hq => ?_, ?_⟩, dinv_eq hi (mset_ne (by decide)) (mset_ne (by decide)) (by rw [mset_ne (by decide)]), dscn_eq hs (mset_ne (by decide)) (mset_ne (by decide)) (mset_ne (by decide)) (mset_ne (by decide)), dt_eq ht (fun j h1 h2 => by rw [mset_ne (by decide)]), dh_eq hh (mset_ne (by decide)) (mset_ne (by decide)) (by rw [mset_ne (by decide)])⟩
  · rw [mset_ne (i := 23) (by decide), mset_ne (i := 81) (by decide)]
    exact ⟨s0, s1, s2, s3⟩
  · rw [mset_if, mset_if]
    by_cases e : q = k
    · rw [if_pos ⟨rfl, e⟩, if_pos ⟨rfl, e⟩]
    · rw [if_neg (fun z => e z.2), if_neg (fun z => e z.2)]; exact l2 q hq
  · rw [mset_ne (i := 26) (by decide), mset_ne (i := 27) (by decide), mset_ne (i := 29) (by decide), mset_ne (i := 30) (by decide), mset_ne (i := 31) (by decide), mset_ne (i := 32) (by decide), mset_ne (i := 33) (by decide), mset_ne (i := 92) (by decide), mset_ne (i := 93) (by decide), mset_ne (i := 94) (by decide), mset_ne (i := 95) (by decide), mset_ne (i := 96) (by decide)]
    exact ⟨l3, l4, l5, l6, l7, l8⟩
theorem nI_le4 {i n : Nat} (h : i < n) (hn : n < 100) : 0 ≤ nI i ∧ nI i < nI n := ⟨nJ_ge0 (by omega), nI_ltl h hn⟩
/-- once there is a fault the reference's prices change nothing that counts -/
theorem rf_price {post : MM → Int64 → Prop} {N0 : MM} {u : Int64} (hp : ∀ N1 : MM, Inv N1 → RFr N0 N1 → (∀ j, 31 ≤ j → j ≤ 37 → N1 81 j = N0 81 j) → post N1 u) : ∀ (d i : Nat), i + d = 4 → ∀ N : MM, Inv N → RFr N0 N → (∀ j, 31 ≤ j → j ≤ 37 → N 81 j = N0 81 j) → N 81 36 ≠ 0 → wX11_readLineOf_108 post (d + 1) N u (nI i) := by
  intro d
  induction d with
  | zero =>
    intro i hi N iN f e hf
    have hi : i = 4 := by omega
    subst hi
    unfold wX11_readLineOf_108
    exact ifp (by decide) (hp N iN f e)
  | succ d ih =>
    intro i hi N iN f e hf
    have b := nI_le4 (i := i) (n := 4) (by omega) (by decide)
    have b4 : (nI 4 : Int32) = 4 := rfl
    rw [b4] at b
    unfold wX11_readLineOf_108
    refine ifn (by lia) ?_
    refine rf_readNumber iN hf (And.intro (vpI (c := 4) (by decide) b.1 b.2) ?_)
    intro V eV
    have e81 : ∀ j, V 81 j = N 81 j := fun j => by rw [eV, mset_ne (by decide)]
    rw [nI_s1]
    exact ih (i + 1) (by omega) V (by rw [eV]; exact inv_set iN (show 0 ≤ (0 : Int32) ∧ (0 : Int32) ≤ 9 by decide)) (by rw [eV]; exact fr_arr f (by decide)) (fun j h1 h2 => by rw [e81]; exact e j h1 h2) (by rw [e81]; exact hf)
theorem bt_rf {M N N1 : MM} {tl : Int64} (h : Bt M tl N) (q : M 22 2 ≠ 0) (iN : Inv N1) (f : RFr N N1) (e : ∀ j, 31 ≤ j → j ≤ 37 → N1 81 j = N 81 j) : Bt M tl N1 := by
  have z := bt_f0 h q
  exact ⟨iN, rf_tp f h.2.1, Or.inr ⟨z.1, by rw [e 36 (by decide) (by decide)]; exact z.2.1, by rw [e 37 (by decide) (by decide)]; exact z.2.2⟩⟩
/-- prices: from the i-th on, d left -/
def LPr (i d : Nat) (M : MM) (tl : Int64) (M1 : MM) (t1 : Int64) : Prop := Inv M1 ∧ CFr M M1 ∧ (M 22 2 ≠ 0 → M1 = M ∧ t1 = tl) ∧ (i < 4 → ∀ N, Bt M tl N → N 81 36 ≠ 0 → Bt M1 t1 N) ∧ ∀ (N : MM) (u : Int64) (post2 : MM → Int64 → Prop), Bt M tl N → (∀ N1, RFr N N1 → Bt M1 t1 N1 → post2 N1 u) → wX11_readLineOf_108 post2 (d + 1) N u (nI i)
theorem lp_2 {post : MM → Int64 → Prop} {tl : Int64} : ∀ (d i : Nat), i + d = 4 → ∀ M : MM, Inv M → (∀ (M1 : MM) (t1 : Int64), LPr i d M tl M1 t1 → post M1 t1) → wX4_readPrices_2 post (d + 1) M tl (nI i) := by
  intro d
  induction d with
  | zero =>
    intro i hi M hI hp
    have hi : i = 4 := by omega
    subst hi
    unfold wX4_readPrices_2
    refine ifp (by decide) (hp M tl ⟨hI, fr_rfl, fun _ => ⟨rfl, rfl⟩, fun q => absurd q (by omega), fun N u post2 h k => ?_⟩)
    unfold wX11_readLineOf_108
    exact ifp (by decide) (k N fr_rfl h)
  | succ d ih =>
    intro i hi M hI hp
    have b := nI_le4 (i := i) (n := 4) (by omega) (by decide)
    have b4 : (nI 4 : Int32) = 4 := rfl
    rw [b4] at b
    have tn : (nI i).toNatClampNeg = i := tn_of (nI_sm (by omega))
    unfold wX4_readPrices_2
    refine ifn (by lia) (ifs (fun c2 => ?_) (fun c2 => hp M tl ⟨hI, fr_rfl, fun _ => ⟨rfl, rfl⟩, fun _ N h _ => h, fun N u post2 h k => rf_price (fun N1 i1 f1 e1 => k N1 f1 (bt_rf h c2 i1 f1 e1)) (d + 1) i (by omega) N h.1 fr_rfl (fun _ _ _ => rfl) (bad_n (bt_f0 h c2))⟩))
    refine u_rnum hI (fun r1 M1 i1 f1 s1 a1 b1 n1 g1 => And.intro (vpI (c := 4) (by decide) b.1 b.2) ?_)
    intro W e
    have iW : Inv W := by rw [e]; exact inv_set i1 (i_any _)
    have c22 : W 22 = M1 22 := by rw [e]; exact mset_ne (by decide)
    have c1 : W 1 = M1 1 := by rw [e]; exact mset_ne (by decide)
    have c2' : W 2 = M1 2 := by rw [e]; exact mset_ne (by decide)
    have fW : CFr M W := by rw [e]; exact fr_arr (cf_tk fr_rfl f1) (by decide)
    rw [nI_s1]
    refine ih (i + 1) (by omega) W iW (fun M2 t2 l => hp M2 t2 ⟨l.1, fr_call fW l.2.1 (fun _ h => h) (fun _ h => Or.inl h), fun z => absurd c2 z, fun _ N h q => ?_, fun N u post2 h k => ?_⟩)
    · have z := n1 N h q
      have zw : W 22 2 ≠ 0 := by rw [c22]; exact z.2
      have y := l.2.2.1 zw
      rw [y.1, y.2]
      exact bt_wc z.1 z.2 c22 c1 c2'
    · unfold wX11_readLineOf_108
      refine ifn (by lia) (g1 N u _ h (fun r2 N1 f2 h2 a2 b2 => And.intro (vpI (c := 4) (by decide) b.1 b.2) ?_))
      intro V eV
      have rr : 0 ≤ r2 ∧ r2 ≤ 9 := by
        by_cases q : M1 22 2 = 0
        · rw [a2 q]; have := a1 q; clear n1 g1 k ih hp l; lia
        · rw [b2 q]; decide
      have hV : Bt W tl V := bt_wr h2 (by rw [eV]; exact inv_set h2.1 (show 0 ≤ r2 ∧ r2 ≤ 9 from rr)) c22 c1 c2' (by rw [eV]; exact mset_ne (by decide)) (fun j h1 h2 => by rw [eV, mset_ne (by decide)]) (fun q d => by rw [e, eV, a2 q]; exact d_price d)
      have fV : RFr N V := by rw [eV]; exact fr_arr (rf_nx fr_rfl f2) (by decide)
      rw [nI_s1]
      exact l.2.2.2.2 V u post2 hV (fun N3 f3 h3 => k N3 (fr_call fV f3 (fun _ h => h) (fun _ h => Or.inl h)) h3)
theorem ln_price {post : MM → Int64 → Prop} {M : MM} {tl : Int64} (hI : Inv M) (hp : ∀ (M1 : MM) (t1 : Int64), LC (fun p N u => wpX11_readLineOf p N u 13) M tl M1 t1 → post M1 t1) : wpX4_readPrices post M tl := by
  unfold wpX4_readPrices
  refine ⟨4 + 1, lp_2 4 0 (by omega) M hI (fun M1 t1 l => hp M1 t1 ⟨l.1, l.2.1, l.2.2.2.1 (by omega), fun N u post2 h q k => ?_⟩)⟩
  unfold wpX11_readLineOf
  exact ifn (by decide) (ifn (by decide) (ifn (by decide) (ifp rfl ⟨4 + 1, l.2.2.2.2 N u post2 h k⟩)))
