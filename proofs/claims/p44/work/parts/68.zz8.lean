/-! LINE thing (printed by wip/gen/zz8.py) -/
theorem u_numT {post : Int32 → MM → Int64 → Prop} {M : MM} {tl : Int64} {lo hi : Int32} (hI : Inv M) (hp : ∀ (r1 : Int32) (M1 : MM), Inv M1 → TkF M M1 → (M 22 2 ≠ 0 → M1 = M) → (M1 22 2 = 0 → M 22 2 = 0 ∧ (lo ≤ r1 ∧ r1 ≤ hi) ∧ M1 22 8 = 2 ∧ r1 = M1 22 9) → (M1 22 2 ≠ 0 → r1 = -1) → (∀ (N : MM), Bt M tl N → N 81 36 ≠ 0 → Md M1 tl N ∧ M1 22 2 ≠ 0) → (∀ (N : MM) (u : Int64) (post2 : Int32 → MM → Int64 → Prop), Bt M tl N → (∀ (r2 : Int32) (N1 : MM), NxF N N1 → Md M1 tl N1 → (M1 22 2 = 0 → r2 = r1) → (M1 22 2 ≠ 0 → r2 = 0) → post2 r2 N1 u) → wpX11_looked post2 N u lo hi) → post r1 M1 tl) : wpX4_takeNumber post M tl lo hi := by
  unfold wpX4_takeNumber
  refine u_tok hI (fun M1 i1 f1 s1 g1 => ?_)
  have nb : ∀ (N : MM), Bt M tl N → N 81 36 ≠ 0 → M1 22 2 ≠ 0 := fun N h q z => by
    have := md_ok (g1 N h) z
    exact q this.1.1
  refine ifs (fun c => ?_) (fun c => ?_)
  · have m0 : M 22 2 = 0 := by
      by_cases z : M 22 2 = 0
      · exact z
      · rw [s1 z] at c; exact absurd c z
    have fl : ∀ k : Int32, (k = 2 ∨ k = 3) → ∀ W : MM, W = mset (mset M1 22 2 k) 22 3 (M1 22 7) → (∀ (N : MM) (u : Int64) (post2 : Int32 → MM → Int64 → Prop), Bt M tl N → (∀ (r2 : Int32) (N1 : MM), NxF N N1 → Md W tl N1 → (W 22 2 = 0 → r2 = -1) → (W 22 2 ≠ 0 → r2 = 0) → post2 r2 N1 u) → wpX11_looked post2 N u lo hi) → post (-1) W tl := by
      intro k hk W e hr
      have w2 : W 22 2 = k := by rw [e, mset_nk (by decide)]; exact mset_at _ _ _ _
      have kz : k ≠ 0 := by lia
      refine hp (-1) W (by rw [e]; exact inv_set (inv_set i1 (i_any _)) (i_any _)) (by rw [e]; exact tkf_set (tkf_set f1 (by decide)) (by decide)) (fun z => absurd m0 z) (fun z => absurd (w2.symm.trans z) kz) (fun _ => rfl) (fun N h q => ?_) hr
      exact absurd c (nb N h q)
    have bd : ∀ (k : Int32) (W : MM), W = mset (mset M1 22 2 k) 22 3 (M1 22 7) → k ≠ 0 → ∀ (N N1 : MM), Inv N1 → Tp M1 N → M1 22 7 = N 81 33 → NxF N N1 → N1 = mset (mset N 81 36 k) 81 37 (N 81 33) → Md W tl N1 := by
      intro k W e kz N N1 iN1 tp t1 fN eN
      have w2 : W 22 2 = k := by rw [e, mset_nk (by decide)]; exact mset_at _ _ _ _
      have w3 : W 22 3 = M1 22 7 := by rw [e]; exact mset_at _ _ _ _
      refine ⟨iN1, tp_nx fN (tp_eq tp (by rw [e, mset_ne (by decide), mset_ne (by decide)]) (by rw [e, mset_ne (by decide), mset_ne (by decide)]) rfl rfl), Or.inr ⟨by rw [w2]; exact kz, ?_, ?_⟩⟩
      · rw [w2, eN, mset_nk (by decide)]; exact mset_at _ _ _ _
      · rw [w3, t1, eN]; exact mset_at _ _ _ _
    refine ifs (fun c2 => ?_) (fun c2 => ?_)
    · have bad3 : (M1 22 9 < lo ∨ hi < M1 22 9) → wX4_takeNumber_47 post M1 tl := by
        intro hb
        unfold wX4_takeNumber_47 wpX4_fail
        intro W0 e0 W e
        subst e0
        refine fl 3 (Or.inr rfl) W e (fun N u post2 h k2 => ?_)
        have m := g1 N h
        obtain ⟨⟨t0, t1, t2, t3, t4, t5⟩, d⟩ := md_ok m c
        have t4 := t4 c2
        unfold wpX11_looked
        refine ifp t0 (ifp (by rw [← t3]; exact c2) ?_)
        unfold wX11_looked_21
        refine nd_1 (by decide) ?_
        unfold wX11_looked_25
        refine ifp t0 ?_
        refine m_in (v := N 81 35) (lo := lo) (hi := hi) rfl rfl rfl (fun a b => ?_) (fun a => ?_)
        · rw [← t4] at a b; exact absurd hb (by clear k2 g1; lia)
        · refine nd_0 t0 (fun N1 eN => ?_)
          have n6 : N1 81 36 ≠ 0 := by rw [eN, mset_nk (by decide), mset_at]; decide
          unfold wX11_looked_49
          refine ifn n6 ?_
          have fN : NxF N N1 := by rw [eN]; exact nxf_set (nxf_set fr_rfl (by decide)) (by decide)
          have iN : Inv N1 := by rw [eN]; exact inv_set (inv_set m.1 (show 0 ≤ (3 : Int32) ∧ (3 : Int32) ≤ 6 by decide)) (i_any _)
          have w2 : W 22 2 = 3 := by rw [e, mset_nk (by decide)]; exact mset_at _ _ _ _
          exact k2 0 N1 fN (bd 3 W e (by decide) N N1 iN m.2.1 t1 fN eN) (fun z => absurd (w2.symm.trans z) (by decide)) (fun _ => rfl)
      refine ifs (fun c3 => bad3 (Or.inl c3)) (fun c3 => ifs (fun c4 => ?_) (fun c4 => bad3 (Or.inr (by clear g1 nb fl bd; lia))))
      refine hp _ M1 i1 f1 (fun z => absurd m0 z) (fun _ => ⟨m0, ⟨by clear g1 nb fl bd; lia, c4⟩, c2, rfl⟩) (fun z => absurd c z) (fun N h q => absurd c (nb N h q)) (fun N u post2 h k2 => ?_)
      have m := g1 N h
      obtain ⟨⟨t0, t1, t2, t3, t4, t5⟩, d⟩ := md_ok m c
      have t4 := t4 c2
      unfold wpX11_looked
      refine ifp t0 (ifp (by rw [← t3]; exact c2) ?_)
      unfold wX11_looked_21
      refine nd_1 (by decide) ?_
      unfold wX11_looked_25
      refine ifp t0 ?_
      refine m_in (v := N 81 35) (lo := lo) (hi := hi) rfl rfl rfl (fun a b => ?_) (fun a => ?_)
      · refine nd_1 (by decide) ?_
        unfold wX11_looked_49
        exact ifp t0 (k2 _ N fr_rfl m (fun _ => t4.symm) (fun z => absurd c z))
      · rw [← t4] at a; exact absurd a (by clear g1 nb fl bd k2; lia)
    · unfold wpX4_fail
      intro W0 e0 W e
      subst e0
      refine fl 2 (Or.inl rfl) W e (fun N u post2 h k2 => ?_)
      have m := g1 N h
      obtain ⟨⟨t0, t1, t2, t3, t4, t5⟩, d⟩ := md_ok m c
      unfold wpX11_looked
      refine ifp t0 (ifn (by rw [← t3]; exact c2) ?_)
      unfold wX11_looked_21
      refine nd_0 t0 (fun N1 eN => ?_)
      have n6 : N1 81 36 ≠ 0 := by rw [eN, mset_nk (by decide), mset_at]; decide
      unfold wX11_looked_25 wX11_looked_49
      refine ifn n6 (ifn n6 ?_)
      have fN : NxF N N1 := by rw [eN]; exact nxf_set (nxf_set fr_rfl (by decide)) (by decide)
      have iN : Inv N1 := by rw [eN]; exact inv_set (inv_set m.1 (show 0 ≤ (2 : Int32) ∧ (2 : Int32) ≤ 6 by decide)) (i_any _)
      have w2 : W 22 2 = 2 := by rw [e, mset_nk (by decide)]; exact mset_at _ _ _ _
      exact k2 0 N1 fN (bd 2 W e (by decide) N N1 iN m.2.1 t1 fN eN) (fun z => absurd (w2.symm.trans z) (by decide)) (fun _ => rfl)
  · refine hp _ M1 i1 f1 s1 (fun z => absurd z c) (fun _ => rfl) (fun N h q => ⟨g1 N h, c⟩) (fun N u post2 h k2 => ?_)
    have m := g1 N h
    have z := md_f0 m c
    refine rf_looked (by rw [z.2.1]; exact z.1) (k2 0 N fr_rfl m (fun y => absurd y c) (fun _ => rfl))

theorem ix_8 {b i : Nat} : (8 : Int32) * nI b + nI i = nI (8 * b + i) := by
  have e : (8 : Int32) = nI 8 := rfl
  rw [e, nM_mul, nM_add]
theorem ix_8c {b i : Nat} : nI b * (8 : Int32) + nI i = nI (8 * b + i) := by
  have e : (8 : Int32) = nI 8 := rfl
  rw [e, nM_mul, nM_add, Nat.mul_comm]
theorem cd8 {v : Int32} (h : 0 ≤ v ∧ v ≤ 7) : ∃ c, c < 8 ∧ v = nI c := by
  obtain ⟨c, e, hc⟩ := code_of (hi := 7) (v := v) ⟨i_ge_to (k := 0) (by decide) h.1, i_le_to (c := 7) (k := 7) (by decide) h.2⟩ (by decide)
  exact ⟨c, hc, e⟩
theorem thing_f {post : Int32 → MM → Int64 → Prop} {M : MM} {tl : Int64} (hf : M 22 2 ≠ 0) (hp : post (-1) M tl) : wpX4_takeThing post M tl := by
  unfold wpX4_takeThing
  exact tn_f hf (ifn (by decide) hp)
theorem slot_1 {post : Int32 → MM → Int64 → Prop} {M : MM} {tl : Int64} {b i : Nat} (hb : b < 2) (hi : i < 8) (hp : post 1 M tl) : wpX10_isSlot post M tl (nI b) (nI i) := by
  unfold wpX10_isSlot wpX10_isBank
  have b0 := nI_le4 (i := b) (n := 2) hb (by decide)
  have i0 := nI_le4 (i := i) (n := 8) hi (by decide)
  have e2 : (nI 2 : Int32) = 2 := rfl
  have e8 : (nI 8 : Int32) = 8 := rfl
  rw [e2] at b0
  rw [e8] at i0
  exact ifn (by lia) (ifn (by lia) (ifn (by decide) (ifn (by lia) (ifn (by lia) hp))))
/-- the highest lot -/
def mx (h i : Int32) : Int32 := if i ≤ h then h else i
theorem mx_l (h i : Int32) : h ≤ mx h i ∧ i ≤ mx h i := by
  unfold mx
  by_cases c : i ≤ h
  · rw [if_pos c]; exact ⟨by lia, c⟩
  · rw [if_neg c]; exact ⟨by lia, by lia⟩
theorem mx_or (h i : Int32) : mx h i = h ∨ mx h i = i := by
  unfold mx
  by_cases c : i ≤ h
  · rw [if_pos c]; exact Or.inl rfl
  · rw [if_neg c]; exact Or.inr rfl
/-- the reference behind the telling of a thing: its bit stands, its lot (hl) is counted or not yet -/
def PT1 (M : MM) (tl : Int64) (s : Nat) (hl : Int32 → Int32) (N : MM) : Prop := ∃ N0 : MM, D M tl N0 ∧ (∀ a ∈ dRR, N a = N0 a) ∧ (∀ j ∈ dRJ, j ≠ 24 → j ≠ 29 → N 81 j = N0 81 j) ∧ N 81 24 = (N0 81 24 ||| ((1 : Int32) <<< (nI s &&& 31))) ∧ N 81 29 = hl (N0 81 29)
theorem drj_nx : ∀ j ∈ dRJ, (81, j) ∉ [(81, 32), (81, 33), (81, 34), (81, 35), (81, 36), (81, 37)] := by decide
theorem pt1_nx {M : MM} {tl : Int64} {s : Nat} {hl : Int32 → Int32} : NxS (PT1 M tl s hl) := by
  intro N N1 f ⟨N0, d, e1, e2, e3, e4⟩
  refine ⟨N0, d, fun a ha => ?_, fun j hj h1 h2 => ?_, ?_, ?_⟩
  · rw [nxf_row f (by intro q; subst q; exact absurd ha (by decide))]; exact e1 a ha
  · rw [f 81 j (by simp) (drj_nx j hj)]; exact e2 j hj h1 h2
  · rw [f 81 24 (by simp) (drj_nx 24 (by decide))]; exact e3
  · rw [f 81 29 (by simp) (drj_nx 29 (by decide))]; exact e4
theorem d_thing {M N : MM} {tl : Int64} {b i : Nat} {v : Int32} (hb : b < 2) (hi : i < 8) (h : PT1 M tl (8 * b + i) (fun h0 => mx h0 (nI i)) N) : D (mset M 35 (8 * b + i) v) (tl ||| ((1 : Int64) <<< ((nI (18 + (8 * b + i))).toInt64 &&& 63))) (mset N 90 (8 * b + i) v) := by
  obtain ⟨N0, ⟨hl, hv, hs, ht, hh⟩, e1, e2, e3, e4⟩ := h
  have f81 : ∀ j ∈ dRJ, j ≠ 24 → j ≠ 29 → mset N 90 (8 * b + i) v 81 j = N0 81 j := fun j hj h1 h2 => by rw [mset_ne (by decide)]; exact e2 j hj h1 h2
  refine ⟨?_, ?_, ?_, ?_, ?_⟩
  · unfold Dlaw at hl ⊢
    rw [mset_ne (i := 23) (by decide), mset_ne (i := 24) (by decide), mset_ne (i := 26) (by decide), mset_ne (i := 27) (by decide), mset_ne (i := 29) (by decide), mset_ne (i := 30) (by decide), mset_ne (i := 31) (by decide), mset_ne (i := 32) (by decide), mset_ne (i := 33) (by decide), mset_ne (i := 91) (by decide), mset_ne (i := 92) (by decide), mset_ne (i := 93) (by decide), mset_ne (i := 94) (by decide), mset_ne (i := 95) (by decide), mset_ne (i := 96) (by decide), f81 13 (by decide) (by decide) (by decide), f81 14 (by decide) (by decide) (by decide), f81 15 (by decide) (by decide) (by decide), f81 22 (by decide) (by decide) (by decide), e1 91 (by decide), e1 92 (by decide), e1 93 (by decide), e1 94 (by decide), e1 95 (by decide), e1 96 (by decide)]
    exact hl
  · exact dinv_eq hv (by rw [mset_ne (by decide)]; exact e1 94 (by decide)) (by rw [mset_ne (by decide)]; exact e1 95 (by decide)) (f81 27 (by decide) (by decide) (by decide))
  · obtain ⟨h1, h2, h3⟩ := hs
    refine ⟨fun s hs => ?_, ?_, fun w c hw h4 hc => ?_⟩
    · rw [mset_if, mset_if]
      by_cases q : s = 8 * b + i
      · rw [if_pos ⟨rfl, q⟩, if_pos ⟨rfl, q⟩]
      · rw [if_neg (fun z => q z.2), if_neg (fun z => q z.2), e1 90 (by decide)]; exact h1 s hs
    · rw [mset_ne (by decide), mset_nk (by omega), e1 90 (by decide)]; exact h2
    · rw [mset_ne (by decide)] at h4
      rw [mset_ne (by decide), mset_nk (by omega), e1 90 (by decide)]; exact h3 w c hw h4 hc
  · have q := dt_thg (k := 8 * b + i) (by omega) ht
    refine dt_eq q (fun j h1 h2 => ?_)
    rw [mset_ne (by decide)]
    by_cases z : j = 24
    · subst z; rw [mset_at, e3, show 0 + (8 * b + i) = 8 * b + i by omega]
    · rw [mset_nk z]
      exact e2 j (by rcases (by omega : j = 23 ∨ j = 25 ∨ j = 26 ∨ j = 27 ∨ j = 28) with y | y | y | y | y <;> subst y <;> decide) z (by omega)
  · obtain ⟨h1, h2, h3⟩ := hh
    have m := mx_l (N0 81 29) (nI i)
    have e29 : mset N 90 (8 * b + i) v 81 29 = mx (N0 81 29) (nI i) := by rw [mset_ne (by decide)]; exact e4
    unfold DH
    rw [mset_ne (i := 36) (by decide), mset_ne (i := 37) (by decide), e29]
    refine ⟨fun b' i' hb' hi' q => ?_, fun w hw h4 => ?_, ?_⟩
    · rw [bL_or _ (by omega) (by omega), Bool.or_eq_true] at q
      rcases q with q | q
      · have := h1 b' i' hb' hi' q
        clear h1 h2 h3; lia
      · have := of_decide_eq_true q
        have e : i' = i := by omega
        rw [e]; exact m.2
    · have := h2 w hw h4
      clear h1 h2 h3; lia
    · rcases mx_or (N0 81 29) (nI i) with z | z
      · rw [z]
        rcases h3 with y | ⟨b', i', hb', hi', q, y⟩ | y
        · exact Or.inl y
        · exact Or.inr (Or.inl ⟨b', i', hb', hi', by rw [bL_or _ (by omega) (by omega), q]; rfl, y⟩)
        · exact Or.inr (Or.inr y)
      · exact Or.inr (Or.inl ⟨b, i, hb, hi, by rw [bL_or _ (by omega) (by omega), decide_eq_true rfl, Bool.or_true], z.symm⟩)
theorem btp_wr {P P' : MM → Prop} {M N V : MM} (h : BtP P M N) (iV : Inv V) (r97 : V 97 = N 97) (r81 : ∀ j, 31 ≤ j → j ≤ 37 → V 81 j = N 81 j) (hd : P N → P' V) : BtP P' M V := by
  refine ⟨iV, tp_eq h.2.1 rfl rfl (r81 31 (by decide) (by decide)) r97, ?_⟩
  rcases h.2.2 with ⟨a, b, d⟩ | z
  · refine Or.inl ⟨a, ?_, fun z => ?_⟩
    · rw [r81 33 (by decide) (by decide), r81 32 (by decide) (by decide), r81 34 (by decide) (by decide), r81 35 (by decide) (by decide), r81 36 (by decide) (by decide), r81 37 (by decide) (by decide)]
      exact b
    · rw [r81 36 (by decide) (by decide)] at z
      exact hd (d z)
  · exact Or.inr ⟨z.1, by rw [r81 36 (by decide) (by decide)]; exact z.2.1, by rw [r81 37 (by decide) (by decide)]; exact z.2.2⟩
/-- the reference's lot: the same token looked at once more, then the highest -/
theorem r_lot {P P' : MM → Prop} (hP : NxS P) {post : Int32 → MM → Int64 → Prop} {M N : MM} {u : Int64} {i : Nat} (hi : i < 8) (h : MdP P M N) (q : M 22 2 = 0) (h8 : M 22 8 = 2) (h9 : nI i = M 22 9) (hd : ∀ N1 V : MM, NxF N N1 → P N1 → V = mset N1 81 29 (mx (N1 81 29) (nI i)) → P' V) (hp : ∀ V : MM, RFr N V → BtP P' M V → post (nI i) V u) : wpX11_readLot post N u := by
  obtain ⟨t, p⟩ := mdp_ok h q
  have i0 := nI_le4 (i := i) (n := 8) hi (by decide)
  have e8 : (nI 8 : Int32) = 8 := rfl
  rw [e8] at i0
  have v : N 81 35 = nI i := by rw [h9]; exact (t.2.2.2.2.1 h8).symm
  unfold wpX11_readLot wpX11_readNumber wpX11_looked
  refine ifp t.1 (ifp (by rw [← t.2.2.2.1]; exact h8) ?_)
  unfold wX11_looked_21
  refine nd_1 (by decide) ?_
  unfold wX11_looked_25
  refine ifp t.1 ?_
  refine m_in (v := N 81 35) (lo := 0) (hi := 7) rfl rfl rfl (fun a b => ?_) (fun a => ?_)
  · refine nd_1 (by decide) ?_
    unfold wX11_looked_49
    refine ifp t.1 (u_nextP hP h (fun N1 f1 h1 => ?_))
    rw [v]
    have fin : ∀ V : MM, V = mset N1 81 29 (mx (N1 81 29) (nI i)) → post (nI i) V u := fun V eV => hp V (by rw [eV]; exact fr_fld (rf_nx fr_rfl f1) (by decide)) (btp_wr h1 (by rw [eV]; exact inv_set h1.1 (i_any _)) (by rw [eV]; exact mset_ne (by decide)) (fun j h1 h2 => by rw [eV]; exact mset_nk (by omega)) (fun p1 => hd N1 V f1 p1 eV))
    refine ifs (fun c => ?_) (fun c => ?_)
    · unfold wX11_readLot_25
      intro V eV
      exact fin V (by rw [eV]; unfold mx; rw [if_pos c])
    · unfold wX11_readLot_25
      intro V eV
      exact fin V (by rw [eV]; unfold mx; rw [if_neg c])
  · rw [v] at a
    exact absurd ⟨i0.1, by clear a hd hp; lia⟩ a
theorem rf_lot {post : Int32 → MM → Int64 → Prop} {N : MM} {u : Int64} (iN : Inv N) (hf : N 81 36 ≠ 0) (hp : ∀ V : MM, Inv V → RFr N V → V 97 = N 97 → (∀ j, 31 ≤ j → j ≤ 37 → V 81 j = N 81 j) → (∀ a, a ≠ 81 → V a = N a) → post 0 V u) : wpX11_readLot post N u := by
  unfold wpX11_readLot
  refine rf_readNumber iN hf ?_
  have fin : ∀ (x : Int32) (V : MM), V = mset N 81 29 x → post 0 V u := fun x V eV => hp V (by rw [eV]; exact inv_set iN (i_any _)) (by rw [eV]; exact fr_fld fr_rfl (by decide)) (by rw [eV]; exact mset_ne (by decide)) (fun j h1 h2 => by rw [eV]; exact mset_nk (by omega)) (fun a ha => by rw [eV]; exact mset_ne ha)
  refine ifs (fun c => ?_) (fun c => ?_)
  · unfold wX11_readLot_25
    intro V eV
    exact fin _ V eV
  · unfold wX11_readLot_25
    intro V eV
    exact fin _ V eV
/-- the reference's thing once there is a fault -/
theorem rf_thing48 {post : MM → Int64 → Prop} {N : MM} {u : Int64} {b : Nat} {v2 : Int32} (hb : b < 2) (iN : Inv N) (hf : N 81 36 ≠ 0) (hp : ∀ V : MM, Inv V → RFr N V → V 97 = N 97 → (∀ j, 31 ≤ j → j ≤ 37 → V 81 j = N 81 j) → post V u) : wX11_readThing_48 post N u (nI b) v2 := by
  unfold wX11_readThing_48
  intro W e
  have iW : Inv W := by rw [e]; exact inv_set iN (i_any _)
  have e81 : ∀ j, 31 ≤ j → j ≤ 37 → W 81 j = N 81 j := fun j h1 h2 => by rw [e]; exact mset_nk (by omega)
  refine rf_lot iW (by rw [e81 36 (by decide) (by decide)]; exact hf) (fun V iV fV r97 r81 _ => ?_)
  have fN : RFr N V := by
    refine fr_call (J := [(81, 13), (81, 14), (81, 15), (81, 22), (81, 23), (81, 24), (81, 25), (81, 26), (81, 27), (81, 28), (81, 29), (81, 32), (81, 33), (81, 34), (81, 35), (81, 36), (81, 37)]) (by rw [e]; exact fr_fld fr_rfl (by decide)) fV (fun _ h => h) (fun _ h => Or.inl h)
  have eV : ∀ j, 31 ≤ j → j ≤ 37 → V 81 j = N 81 j := fun j h1 h2 => by rw [r81 j h1 h2]; exact e81 j h1 h2
  refine rf_readWhat iV (by rw [eV 36 (by decide) (by decide)]; exact hf) ?_
  have e0 : (8 : Int32) * nI b + 0 = nI (8 * b + 0) := ix_8 (i := 0)
  rw [e0]
  refine And.intro (vp_nM (by decide) (by show _ < 127; omega)) ?_
  intro V2 e2
  rw [tn_nI (by omega)] at e2
  refine hp V2 ?_ (by rw [e2]; exact fr_arr fN (by decide)) (by rw [e2, mset_ne (by decide), r97, e, mset_ne (by decide)]) (fun j h1 h2 => by rw [e2, mset_ne (by decide)]; exact eV j h1 h2)
  rw [e2]
  exact inv_90 iV (sd_zero _)
theorem i90_th {M : MM} {s : Nat} {v : Int32} (hI : Inv M) (hs : s < 16) (hv : Th v) : Inv (mset M 90 s v) := inv_90 hI (by unfold sdom; rw [if_pos (by omega)]; exact hv)
theorem ln_thing {post : MM → Int64 → Prop} {M : MM} {tl : Int64} (hI : Inv M) (hp : ∀ (M1 : MM) (t1 : Int64), LC (fun p N u => wpX11_readLineOf p N u 20) M tl M1 t1 → post M1 t1) : wpX4_readThing post M tl := by
  unfold wpX4_readThing wpX4_takeBank
  have opn : ∀ {post2 : MM → Int64 → Prop} {N : MM} {u : Int64}, wpX11_readThing post2 N u → wpX11_readLineOf post2 N u 20 := by
    intro post2 N u h
    unfold wpX11_readLineOf
    exact ifn (by decide) (ifn (by decide) (ifn (by decide) (ifn (by decide) (ifn (by decide) (ifn (by decide) (ifn (by decide) (ifn (by decide) (ifn (by decide) (ifn (by decide) (ifp rfl h))))))))))
  refine u_rnum hI (fun r1 M1 i1 f1 s1 a1 b1 n1 g1 => ?_)
  refine u_numT i1 (fun r2 M2 i2 f2 s2 a2 b2 n2 g2 => ?_)
  unfold wpX10_slot
  by_cases q : M2 22 2 = 0
  · obtain ⟨q1, ri, h8, h9⟩ := a2 q
    obtain ⟨b, hb, eb⟩ := cd2 (a1 q1).2
    obtain ⟨i, hi, ei⟩ := cd8 ri
    subst eb; subst ei
    rw [ix_8c]
    have e18 : (18 : Int32) + nI (8 * b + i) = nI (18 + (8 * b + i)) := nM_add 18 (8 * b + i)
    rw [e18]
    have nbv : ∀ (X : MM) (t : Int64) (N : MM), Bt M tl N → N 81 36 ≠ 0 → Bt X t N := fun X t N h z => absurd q1 (n1 N h z).2
    -- the reference up to its bit
    have first : ∀ (N : MM) (u : Int64) (post2 : MM → Int64 → Prop), Bt M tl N → (∀ N2, NxF N N2 → Md M2 tl N2 → (bL tl (18 + (8 * b + i)) = false → wX11_readThing_44 post2 N2 u (nI b) (nI i) 1) ∧ (bL tl (18 + (8 * b + i)) = true → wX11_readThing_44 post2 N2 u (nI b) (nI i) 0)) → wpX11_readThing post2 N u := by
      intro N u post2 h kk
      unfold wpX11_readThing
      refine g1 N u _ h (fun r N1 x1 h1 aa bb => ?_)
      have er := aa q1
      subst er
      refine g2 N1 u _ h1 (fun r N2 x2 m2 aa2 bb2 => ?_)
      have er := aa2 q
      subst er
      have tk := md_ok m2 q
      have w := kk N2 (fr_call x1 x2 (by decide) (by decide)) m2
      have hbit := tk.2.2.2.2.1.2.2.2.2.2 (8 * b + i) (by omega)
      refine ifp tk.1.1 ?_
      rw [ix_8]
      refine ifs (fun c => w.1 ?_) (fun c => w.2 ?_)
      · rw [bI_test _ (by omega)] at c
        rw [hbit]; exact c
      · rw [bI_test _ (by omega)] at c
        rw [hbit]; simpa using c
    refine u_tell (by omega) q (fun M3 t3 hT => ?_)
    rcases hT with ⟨et, ⟨bz, eM⟩ | ⟨bz, eM⟩⟩
    · subst eM
      refine u_what (P := PT1 M3 tl (8 * b + i) (fun h0 => mx h0 (nI i))) pt1_nx i2 (fun r3 M4 i4 f4 s4 a4 n4 g4 => ?_)
      have frC : CFr M M4 := cf_tk (cf_tk (cf_tk fr_rfl f1) f2) f4
      -- the reference from its bit on
      have rest : ∀ (N N2 : MM) (u : Int64) (post2 : MM → Int64 → Prop), NxF N N2 → Md M3 tl N2 → (∀ (r : Int32) (N6 : MM), RFr N N6 → BtP (PT1 M3 tl (8 * b + i) (fun h0 => mx h0 (nI i))) M4 N6 → (M4 22 2 = 0 → N6 81 36 = 0 → r = r3) → Th r → ∀ V, V = mset N6 90 (8 * b + i) r → post2 V u) → wX11_readThing_44 post2 N2 u (nI b) (nI i) 1 := by
        intro N N2 u post2 x2 m2 kk
        unfold wX11_readThing_44
        refine nd_1 (by decide) ?_
        unfold wX11_readThing_48
        rw [ix_8]
        intro N3 e3
        have m3 : MdP (PT1 M3 tl (8 * b + i) id) M3 N3 := by
          have tk := md_ok m2 q
          refine ⟨by rw [e3]; exact inv_set m2.1 (i_any _), tp_eq m2.2.1 rfl rfl (by rw [e3]; exact mset_nk (by decide)) (by rw [e3]; exact mset_ne (by decide)), Or.inl ⟨q, ?_, N2, tk.2, fun a ha => ?_, fun j hj h1 h2 => ?_, ?_, ?_⟩⟩
          · unfold Tk
            rw [e3, mset_nk (by decide), mset_nk (by decide), mset_nk (by decide), mset_nk (by decide), mset_nk (by decide)]
            exact tk.1
          · rw [e3]; exact mset_ne (by intro z; subst z; exact absurd ha (by decide))
          · rw [e3]; exact mset_nk h1
          · rw [e3]; exact mset_at _ _ _ _
          · rw [e3]; exact mset_nk (by decide)
        refine r_lot (P' := PT1 M3 tl (8 * b + i) (fun h0 => mx h0 (nI i))) pt1_nx hi m3 q h8 h9 (fun N4 V x4 p4 eV => ?_) (fun N5 x5 h5 => ?_)
        · obtain ⟨N0, d0, y1, y2, y3, y4⟩ := p4
          refine ⟨N0, d0, fun a ha => ?_, fun j hj h1 h2 => ?_, ?_, ?_⟩
          · rw [eV, mset_ne (by intro z; subst z; exact absurd ha (by decide))]; exact y1 a ha
          · rw [eV, mset_nk h2]; exact y2 j hj h1 h2
          · rw [eV, mset_nk (by decide)]; exact y3
          · rw [eV, mset_at, y4]; rfl
        · refine g4 N5 u _ h5 (fun r N6 x6 h6 aa th => ?_)
          rw [ix_8]
          refine And.intro (vp_nM (by decide) (by show _ < 127; omega)) ?_
          intro V eV
          rw [tn_nI (by omega)] at eV
          have fN3 : RFr N N3 := by rw [e3]; exact fr_fld (rf_nx fr_rfl x2) (by decide)
          exact kk r N6 (rf_nx (fr_call fN3 x5 (fun _ h => h) (fun _ h => Or.inl h)) x6) h6 aa th V eV
      refine ifs (fun q4 => ?_) (fun q4 => ?_)
      · unfold wpX7_setThing
        refine slot_1 hb hi (ifn (by decide) (And.intro (by decide) ?_))
        unfold wpX10_slot
        rw [ix_8c]
        refine And.intro (by decide) (And.intro (vp_nM (by decide) (by show _ < 16; omega)) ?_)
        intro W e
        rw [tn_nI (by omega)] at e
        have e : W = mset M4 35 (8 * b + i) r3 := e
        refine hp W t3 ⟨by rw [e]; exact inv_set i4 (i_any _), by rw [e]; exact fr_arr frC (by decide), nbv W t3, fun N u post2 h z k => opn (first N u post2 h (fun N2 x2 m2 => ⟨fun _ => rest N N2 u post2 x2 m2 (fun r N6 x6 h6 aa th V eV => ?_), fun y => by rw [bz] at y; exact Bool.noConfusion y⟩))⟩
        refine k V (by rw [eV]; exact fr_arr x6 (by decide)) ?_
        have c22 : W 22 = M4 22 := by rw [e]; exact mset_ne (by decide)
        have c1 : W 1 = M4 1 := by rw [e]; exact mset_ne (by decide)
        have c2 : W 2 = M4 2 := by rw [e]; exact mset_ne (by decide)
        have hV : BtP (fun X => D W t3 X) M4 V := by
          refine ⟨by rw [eV]; exact i90_th h6.1 (by omega) th, tp_eq h6.2.1 rfl rfl (by rw [eV, mset_ne (by decide)]) (by rw [eV]; exact mset_ne (by decide)), ?_⟩
          rcases h6.2.2 with ⟨a, l, p⟩ | z
          · refine Or.inl ⟨a, ?_, fun z => ?_⟩
            · rw [eV, mset_ne (by decide)]; exact l
            · rw [eV, mset_ne (by decide)] at z
              have pz := p z
              rw [eV, e, aa a z, et]
              obtain ⟨N0, d0, y⟩ := pz
              exact d_thing hb hi ⟨N0, d_tk f4 d0, y⟩
          · exact Or.inr (by rw [eV]; exact ⟨z.1, by rw [mset_ne (by decide)]; exact z.2.1, by rw [mset_ne (by decide)]; exact z.2.2⟩)
        refine ⟨hV.1, tp_eq hV.2.1 (by rw [c1]) c2 rfl rfl, ?_⟩
        rcases hV.2.2 with ⟨a, l, p⟩ | z
        · exact Or.inl ⟨by rw [c22]; exact a, by rw [c1, c2, c22]; exact l, p⟩
        · exact Or.inr ⟨by rw [c22]; exact z.1, by rw [c22]; exact z.2.1, by rw [c22]; exact z.2.2⟩
      · refine hp M4 t3 ⟨i4, frC, nbv M4 t3, fun N u post2 h z k => opn (first N u post2 h (fun N2 x2 m2 => ⟨fun _ => rest N N2 u post2 x2 m2 (fun r N6 x6 h6 aa th V eV => ?_), fun y => by rw [bz] at y; exact Bool.noConfusion y⟩))⟩
        have bd := btp_f0 h6 q4
        exact k V (by rw [eV]; exact fr_arr x6 (by decide)) (fin_bad bd h6.2.1 (by rw [eV]; exact i90_th h6.1 (by omega) th) (by rw [eV]; exact mset_ne (by decide)) (fun j h1 h2 => by rw [eV, mset_ne (by decide)]))
    · have x3 : M3 22 2 ≠ 0 := by rw [eM, mset_nk (by decide), mset_at]; decide
      refine thing_f x3 (ifn x3 (hp M3 t3 ⟨by rw [eM]; exact inv_set (inv_set i2 (i_any _)) (i_any _), by rw [eM]; exact cf_tk (cf_tk (cf_tk fr_rfl f1) f2) (tkf_set (tkf_set fr_rfl (by decide)) (by decide)), nbv M3 t3, fun N u post2 h z k => opn (first N u post2 h (fun N2 x2 m2 => ⟨fun y => (by rw [bz] at y; exact Bool.noConfusion y), fun _ => ?_⟩))⟩))
      have tk := md_ok m2 q
      unfold wX11_readThing_44
      refine nd_0 tk.1.1 (fun N3 e3 => ?_)
      have x := fl_in m2.1 (by decide) e3
      have bd := bad_of (by decide) tk.1.2.1 eM e3
      refine rf_thing48 hb x.1 (bad_n bd) (fun V iV fV r97 r81 => ?_)
      exact k V (fr_call (rf_nx (rf_nx fr_rfl x2) x.2) fV (fun _ h => h) (fun _ h => Or.inl h)) (fin_bad bd (fl_tp (j := 0) m2.2.1 eM x.2) iV r97 r81)
  · refine u_tell_f q (thing_f q (ifn q (hp M2 tl ⟨i2, cf_tk (cf_tk fr_rfl f1) f2, fun N h z => ?_, fun N u post2 h z k => opn ?_⟩)))
    · have y := n1 N h z
      have y2 := s2 y.2
      rw [y2]; exact y.1
    · unfold wpX11_readThing
      refine g1 N u _ h (fun r N1 x1 h1 aa bb => ?_)
      have rr : ∃ b, b < 2 ∧ r = nI b := by
        by_cases y : M1 22 2 = 0
        · rw [aa y]; exact cd2 (a1 y).2
        · exact ⟨0, by decide, bb y⟩
      obtain ⟨b, hb, eb⟩ := rr
      subst eb
      refine g2 N1 u _ h1 (fun r N2 x2 m2 aa2 bb2 => ?_)
      have bd := md_f0 m2 q
      refine ifn (bad_n bd) (rf_thing48 hb m2.1 (bad_n bd) (fun V iV fV r97 r81 => ?_))
      exact k V (fr_call (rf_nx (rf_nx fr_rfl x1) x2) fV (fun _ h => h) (fun _ h => Or.inl h)) (fin_bad bd m2.2.1 iV r97 r81)
