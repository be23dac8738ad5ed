/-! DRAFTS: the class's reader (M, told) against the reference's draft (N) -/
def Dlaw (M N : MM) : Prop := (M 23 0 = N 81 13 ∧ M 23 1 = N 81 14 ∧ M 23 2 = N 81 15 ∧ M 23 3 = N 81 22) ∧ (∀ q, q < 4 → M 24 q = N 91 q) ∧ (∀ k, k < 6 → 1 ≤ k → M 26 k = N 92 k ∧ M 27 k = N 92 (6 + k)) ∧ (∀ k, k < 6 → 1 ≤ k → M 29 k = N 93 k ∧ M 30 k = N 93 (6 + k)) ∧ (N 93 0 = 0 ∧ N 93 6 = 0) ∧ (M 31 0 = N 94 0 ∧ M 31 1 = N 94 1) ∧ (∀ k, k < 6 → M 32 k = N 95 k) ∧ (∀ c, c < 4 → M 33 c = N 96 c)
def Dinv (N : MM) : Prop := (bI (N 94 0) 0 = false ∧ bI (N 94 1) 0 = false) ∧ N 95 0 = 0 ∧ (∀ k, k < 6 → ∃ j, j < 6 ∧ N 95 k = nI j ∧ N 95 j = nI k) ∧ (∀ k, k < 6 → bI (N 81 27) k = false → N 95 k = nI k)
def Dscn (M N : MM) : Prop := (∀ s, s < 16 → M 35 s = N 90 s) ∧ M 36 3 = N 90 16 ∧ (∀ w c, w < 12 → nI w < M 36 3 → c < 4 → M 37 (4 * w + c) = N 90 (17 + 4 * w + c))
def DT (tl : Int64) (N : MM) : Prop := (∀ i, i < 4 → bL tl i = bI (N 81 23) (10 + i)) ∧ (∀ b, b < 2 → bL tl (4 + b) = bI (N 81 25) b) ∧ (∀ b, b < 2 → bL tl (6 + b) = bI (N 81 26) b) ∧ (∀ k, k < 6 → bL tl (8 + k) = bI (N 81 27) k) ∧ (∀ c, c < 4 → bL tl (14 + c) = bI (N 81 28) c) ∧ (∀ s, s < 16 → bL tl (18 + s) = bI (N 81 24) s)
def DH (M : MM) (tl : Int64) (N : MM) : Prop := (∀ b i, b < 2 → i < 8 → bL tl (18 + (8 * b + i)) = true → nI i ≤ N 81 29) ∧ (∀ w, w < 12 → nI w < M 36 3 → M 37 (4 * w + 2) ≤ N 81 29) ∧ (N 81 29 = -4 ∨ (∃ b i, b < 2 ∧ i < 8 ∧ bL tl (18 + (8 * b + i)) = true ∧ nI i = N 81 29) ∨ ∃ w, w < 12 ∧ nI w < M 36 3 ∧ M 37 (4 * w + 2) = N 81 29)
def D (M : MM) (tl : Int64) (N : MM) : Prop := Dlaw M N ∧ Dinv N ∧ Dscn M N ∧ DT tl N ∧ DH M tl N
def dCR : List Nat := [23, 24, 26, 27, 29, 30, 31, 32, 33, 35, 36, 37]
def dRR : List Nat := [90, 91, 92, 93, 94, 95, 96]
def dRJ : List Nat := [13, 14, 15, 22, 23, 24, 25, 26, 27, 28, 29]
theorem d_eq {M M1 N N1 : MM} {tl : Int64} (h : D M tl N) (e1 : ∀ a ∈ dCR, M1 a = M a) (e2 : ∀ a ∈ dRR, N1 a = N a) (e3 : ∀ j ∈ dRJ, N1 81 j = N 81 j) : D M1 tl N1 := by
  unfold D Dlaw Dinv Dscn DT DH at h ⊢
  rw [e1 23 (by decide), e1 24 (by decide), e1 26 (by decide), e1 27 (by decide), e1 29 (by decide), e1 30 (by decide), e1 31 (by decide), e1 32 (by decide), e1 33 (by decide), e1 35 (by decide), e1 36 (by decide), e1 37 (by decide)]
  rw [e2 90 (by decide), e2 91 (by decide), e2 92 (by decide), e2 93 (by decide), e2 94 (by decide), e2 95 (by decide), e2 96 (by decide)]
  rw [e3 13 (by decide), e3 14 (by decide), e3 15 (by decide), e3 22 (by decide), e3 23 (by decide), e3 24 (by decide), e3 25 (by decide), e3 26 (by decide), e3 27 (by decide), e3 28 (by decide), e3 29 (by decide)]
  exact h
theorem d_tk {M M1 N : MM} {tl : Int64} (f : TkF M M1) (h : D M tl N) : D M1 tl N := d_eq h (fun a ha => tkf_row f (by intro e; subst e; exact absurd ha (by decide))) (fun _ _ => rfl) (fun _ _ => rfl)
theorem d_nx {M N N1 : MM} {tl : Int64} (f : NxF N N1) (h : D M tl N) : D M tl N1 := d_eq h (fun _ _ => rfl) (fun a ha => nxf_row f (by intro e; subst e; exact absurd ha (by decide))) (fun j hj => f 81 j (by simp) (by
  intro q
  have : ∀ j ∈ dRJ, (81, j) ∉ [(81, 32), (81, 33), (81, 34), (81, 35), (81, 36), (81, 37)] := by decide
  exact this j hj q))
/-- one tape -/
def Tp (M N : MM) : Prop := M 1 1 = N 81 31 ∧ M 2 = N 97
theorem tp_eq {M M1 N N1 : MM} (h : Tp M N) (e1 : M1 1 1 = M 1 1) (e2 : M1 2 = M 2) (e3 : N1 81 31 = N 81 31) (e4 : N1 97 = N 97) : Tp M1 N1 := ⟨by rw [e1, e3]; exact h.1, by rw [e2, e4]; exact h.2⟩
theorem tp_tk {M M1 N : MM} (f : TkF M M1) (h : Tp M N) : Tp M1 N := tp_eq h (by rw [tkf_row f (by decide)]) (tkf_row f (by decide)) rfl rfl
theorem tp_nx {M N N1 : MM} (f : NxF N N1) (h : Tp M N) : Tp M N1 := tp_eq h rfl rfl (nxf_31 f) (nxf_row f (by decide))
/-- the same fault at the same place -/
def Bad (M N : MM) : Prop := M 22 2 ≠ 0 ∧ N 81 36 = M 22 2 ∧ N 81 37 = M 22 3
/-- the reference has looked at the token that the class takes next -/
def Bt (M : MM) (tl : Int64) (N : MM) : Prop := Inv N ∧ Tp M N ∧ ((M 22 2 = 0 ∧ Lx (M 2) (M 1 1) (M 22 6) (N 81 33) (N 81 32) (N 81 34) (N 81 35) (N 81 36) (N 81 37) ∧ (N 81 36 = 0 → D M tl N)) ∨ Bad M N)
/-- both stand at the same token -/
def Tk (M N : MM) : Prop := N 81 36 = 0 ∧ M 22 7 = N 81 33 ∧ M 22 6 = N 81 32 ∧ M 22 8 = N 81 34 ∧ (M 22 8 = 2 → M 22 9 = N 81 35) ∧ (0 ≤ M 22 7 ∧ M 22 7 ≤ 400)
def Md (M : MM) (tl : Int64) (N : MM) : Prop := Inv N ∧ Tp M N ∧ ((M 22 2 = 0 ∧ Tk M N ∧ D M tl N) ∨ Bad M N)
theorem md_bad {M N : MM} {tl t1 : Int64} (h : Md M tl N) (q : M 22 2 ≠ 0) : Md M t1 N ∧ Bt M t1 N := by
  rcases h.2.2 with ⟨z, _⟩ | z
  · exact absurd z q
  · exact ⟨⟨h.1, h.2.1, Or.inr z⟩, ⟨h.1, h.2.1, Or.inr z⟩⟩
theorem bt_f0 {M N : MM} {tl : Int64} (h : Bt M tl N) (q : M 22 2 ≠ 0) : Bad M N := by
  rcases h.2.2 with ⟨z, _⟩ | z
  · exact absurd z q
  · exact z
theorem md_f0 {M N : MM} {tl : Int64} (h : Md M tl N) (q : M 22 2 ≠ 0) : Bad M N := by
  rcases h.2.2 with ⟨z, _⟩ | z
  · exact absurd z q
  · exact z
theorem md_ok {M N : MM} {tl : Int64} (h : Md M tl N) (q : M 22 2 = 0) : Tk M N ∧ D M tl N := by
  rcases h.2.2 with ⟨_, z⟩ | z
  · exact z
  · exact absurd q z.1
/-- the class takes a token -/
theorem u_tok {post : MM → Int64 → Prop} {M : MM} {tl : Int64} (hI : Inv M) (hp : ∀ M1 : MM, Inv M1 → TkF M M1 → (M 22 2 ≠ 0 → M1 = M) → (∀ N, Bt M tl N → Md M1 tl N) → post M1 tl) : wpX4_takeToken post M tl := by
  by_cases hf : M 22 2 = 0
  · refine lx_takeToken hI hf (fun M1 i1 f1 l1 => hp M1 i1 f1 (fun q => absurd hf q) (fun N h => ?_))
    obtain ⟨iN, tp, h⟩ := h
    rcases h with ⟨_, l2, d⟩ | z
    · have b6 := iv_22_6 hI
      obtain ⟨u1, u2, u3, u4⟩ := lx_un b6.1 l1 l2
      refine ⟨iN, tp_tk f1 tp, ?_⟩
      by_cases q : M1 22 2 = 0
      · obtain ⟨v1, v2, v3⟩ := u3 q
        exact Or.inl ⟨q, ⟨by rw [← u2]; exact q, u1, v1, v2, v3, by have := l1.2.1; clear u1 u3 u4 l1 l2; lia⟩, d_tk f1 (d (by rw [← u2]; exact q))⟩
      · exact Or.inr ⟨q, u2.symm, (u4 q).symm⟩
    · exact absurd hf z.1
  · unfold wpX4_takeToken
    exact ifn hf (hp M hI fr_rfl (fun _ => rfl) (fun N h => ⟨h.1, h.2.1, Or.inr (bt_f0 h hf)⟩))
/-- the reference looks at the next -/
theorem u_next {post : MM → Int64 → Prop} {M N : MM} {tl u : Int64} (h : Md M tl N) (hp : ∀ N1 : MM, NxF N N1 → Bt M tl N1 → post N1 u) : wpX11_next post N u := by
  obtain ⟨iN, tp, h⟩ := h
  rcases h with ⟨q, ⟨t0, t1, t2, t3, t4, t5⟩, d⟩ | z
  · refine lx_next iN t0 (fun N1 i1 f1 l1 => hp N1 f1 ⟨i1, tp_nx f1 tp, Or.inl ⟨q, ?_, fun _ => d_nx f1 d⟩⟩)
    rw [tp.1, tp.2, t2]
    exact l1
  · unfold wpX11_next
    have b := iv_81_36 iN
    have : ¬ N 81 36 ≤ 0 := by
      have := z.1
      rw [← z.2.1] at this
      clear z; lia
    exact ifn this (hp N fr_rfl ⟨iN, tp, Or.inr z⟩)
/-! the reference, once there is a fault -/
theorem rf_next {post : MM → Int64 → Prop} {N : MM} {u : Int64} (hI : Inv N) (hf : N 81 36 ≠ 0) (hp : post N u) : wpX11_next post N u := by
  unfold wpX11_next
  have b := iv_81_36 hI
  exact ifn (by lia) hp
theorem rf_looked {post : Int32 → MM → Int64 → Prop} {N : MM} {u : Int64} {lo hi : Int32} (hf : N 81 36 ≠ 0) (hp : post 0 N u) : wpX11_looked post N u lo hi := by
  unfold wpX11_looked wX11_looked_25 wX11_looked_49
  exact ifn hf (ifn hf (ifn hf hp))
theorem rf_readNumber {post : Int32 → MM → Int64 → Prop} {N : MM} {u : Int64} {lo hi : Int32} (hI : Inv N) (hf : N 81 36 ≠ 0) (hp : post 0 N u) : wpX11_readNumber post N u lo hi := by
  unfold wpX11_readNumber
  exact rf_looked hf (rf_next hI hf hp)
theorem rf_readKind {post : Int32 → MM → Int64 → Prop} {N : MM} {u : Int64} {but : Int32} (hI : Inv N) (hf : N 81 36 ≠ 0) (hp : post 0 N u) : wpX11_readKind post N u but := by
  unfold wpX11_readKind
  refine ifn hf ?_
  unfold wX11_readKind_22 wX11_readKind_24
  refine ifp rfl ?_
  unfold wX11_readKind_37
  refine nd_f hf (ifp rfl ?_)
  unfold wX11_readKind_56 wX11_readKind_61
  exact nd_f hf (rf_next hI hf (ifp rfl hp))
theorem rf_readColour {post : Int32 → MM → Int64 → Prop} {N : MM} {u : Int64} {but : Int32} (hI : Inv N) (hf : N 81 36 ≠ 0) (hp : post 0 N u) : wpX11_readColour post N u but := by
  unfold wpX11_readColour
  refine rf_looked hf (ifn hf ?_)
  unfold wX11_readColour_32
  exact rf_next hI hf hp
theorem rf_readWhat {post : Int32 → MM → Int64 → Prop} {N : MM} {u : Int64} (hI : Inv N) (hf : N 81 36 ≠ 0) (hp : post 0 N u) : wpX11_readWhat post N u := by
  have b := iv_81_36 hI
  unfold wpX11_readWhat
  refine ifn hf ?_
  unfold wX11_readWhat_28
  refine rf_readKind hI hf (rf_readNumber hI hf (ifn hf ?_))
  unfold wX11_readWhat_63 wX11_readWhat_65
  refine ifp rfl ?_
  unfold wX11_readWhat_78
  exact nd_f hf (rf_next hI hf (ifn (by lia) hp))
/-- a number: the class takes and holds it against its bounds, the reference looks -/
theorem u_num {post : Int32 → MM → Int64 → Prop} {M : MM} {tl : Int64} {lo hi : Int32} (hI : Inv M) (hp : ∀ (r1 : Int32) (M1 : MM), Inv M1 → TkF M M1 → (M 22 2 ≠ 0 → M1 = M) → (M1 22 2 = 0 → M 22 2 = 0 ∧ lo ≤ r1 ∧ r1 ≤ hi) → (M1 22 2 ≠ 0 → r1 = -1) → (∀ (N : MM), Bt M tl N → N 81 36 ≠ 0 → Md M1 tl N ∧ M1 22 2 ≠ 0) → (∀ (N : MM) (u : Int64) (post2 : Int32 → MM → Int64 → Prop), Bt M tl N → (∀ (r2 : Int32) (N1 : MM), NxF N N1 → Md M1 tl N1 → (M1 22 2 = 0 → r2 = r1) → (M1 22 2 ≠ 0 → r2 = 0) → post2 r2 N1 u) → wpX11_looked post2 N u lo hi) → post r1 M1 tl) : wpX4_takeNumber post M tl lo hi := by
  unfold wpX4_takeNumber
  refine u_tok hI (fun M1 i1 f1 s1 g1 => ?_)
  have nb : ∀ (N : MM), Bt M tl N → N 81 36 ≠ 0 → M1 22 2 ≠ 0 := fun N h q z => by
    have := md_ok (g1 N h) z
    exact q this.1.1
  refine ifs (fun c => ?_) (fun c => ?_)
  · have m0 : M 22 2 = 0 := by
      by_cases z : M 22 2 = 0
      · exact z
      · rw [s1 z] at c; exact absurd c z
    have fl : ∀ k : Int32, (k = 2 ∨ k = 3) → ∀ W : MM, W = mset (mset M1 22 2 k) 22 3 (M1 22 7) → (∀ (N : MM) (u : Int64) (post2 : Int32 → MM → Int64 → Prop), Bt M tl N → (∀ (r2 : Int32) (N1 : MM), NxF N N1 → Md W tl N1 → (W 22 2 = 0 → r2 = -1) → (W 22 2 ≠ 0 → r2 = 0) → post2 r2 N1 u) → wpX11_looked post2 N u lo hi) → post (-1) W tl := by
      intro k hk W e hr
      have w2 : W 22 2 = k := by rw [e, mset_nk (by decide)]; exact mset_at _ _ _ _
      have kz : k ≠ 0 := by lia
      refine hp (-1) W (by rw [e]; exact inv_set (inv_set i1 (i_any _)) (i_any _)) (by rw [e]; exact tkf_set (tkf_set f1 (by decide)) (by decide)) (fun z => absurd m0 z) (fun z => absurd (w2.symm.trans z) kz) (fun _ => rfl) (fun N h q => ?_) hr
      exact absurd c (nb N h q)
    have bd : ∀ (k : Int32) (W : MM), W = mset (mset M1 22 2 k) 22 3 (M1 22 7) → k ≠ 0 → ∀ (N N1 : MM), Inv N1 → Tp M1 N → M1 22 7 = N 81 33 → NxF N N1 → N1 = mset (mset N 81 36 k) 81 37 (N 81 33) → Md W tl N1 := by
      intro k W e kz N N1 iN1 tp t1 fN eN
      have w2 : W 22 2 = k := by rw [e, mset_nk (by decide)]; exact mset_at _ _ _ _
      have w3 : W 22 3 = M1 22 7 := by rw [e]; exact mset_at _ _ _ _
      refine ⟨iN1, tp_nx fN (tp_eq tp (by rw [e, mset_ne (by decide), mset_ne (by decide)]) (by rw [e, mset_ne (by decide), mset_ne (by decide)]) rfl rfl), Or.inr ⟨by rw [w2]; exact kz, ?_, ?_⟩⟩
      · rw [w2, eN, mset_nk (by decide)]; exact mset_at _ _ _ _
      · rw [w3, t1, eN]; exact mset_at _ _ _ _
    refine ifs (fun c2 => ?_) (fun c2 => ?_)
    · have bad3 : (M1 22 9 < lo ∨ hi < M1 22 9) → wX4_takeNumber_47 post M1 tl := by
        intro hb
        unfold wX4_takeNumber_47 wpX4_fail
        intro W0 e0 W e
        subst e0
        refine fl 3 (Or.inr rfl) W e (fun N u post2 h k2 => ?_)
        have m := g1 N h
        obtain ⟨⟨t0, t1, t2, t3, t4, t5⟩, d⟩ := md_ok m c
        have t4 := t4 c2
        unfold wpX11_looked
        refine ifp t0 (ifp (by rw [← t3]; exact c2) ?_)
        unfold wX11_looked_21
        refine nd_1 (by decide) ?_
        unfold wX11_looked_25
        refine ifp t0 ?_
        refine m_in (v := N 81 35) (lo := lo) (hi := hi) rfl rfl rfl (fun a b => ?_) (fun a => ?_)
        · rw [← t4] at a b; exact absurd hb (by clear k2 g1; lia)
        · refine nd_0 t0 (fun N1 eN => ?_)
          have n6 : N1 81 36 ≠ 0 := by rw [eN, mset_nk (by decide), mset_at]; decide
          unfold wX11_looked_49
          refine ifn n6 ?_
          have fN : NxF N N1 := by rw [eN]; exact nxf_set (nxf_set fr_rfl (by decide)) (by decide)
          have iN : Inv N1 := by rw [eN]; exact inv_set (inv_set m.1 (show 0 ≤ (3 : Int32) ∧ (3 : Int32) ≤ 6 by decide)) (i_any _)
          have w2 : W 22 2 = 3 := by rw [e, mset_nk (by decide)]; exact mset_at _ _ _ _
          exact k2 0 N1 fN (bd 3 W e (by decide) N N1 iN m.2.1 t1 fN eN) (fun z => absurd (w2.symm.trans z) (by decide)) (fun _ => rfl)
      refine ifs (fun c3 => bad3 (Or.inl c3)) (fun c3 => ifs (fun c4 => ?_) (fun c4 => bad3 (Or.inr (by clear g1 nb fl bd; lia))))
      refine hp _ M1 i1 f1 (fun z => absurd m0 z) (fun _ => ⟨m0, by clear g1 nb fl bd; lia, c4⟩) (fun z => absurd c z) (fun N h q => absurd c (nb N h q)) (fun N u post2 h k2 => ?_)
      have m := g1 N h
      obtain ⟨⟨t0, t1, t2, t3, t4, t5⟩, d⟩ := md_ok m c
      have t4 := t4 c2
      unfold wpX11_looked
      refine ifp t0 (ifp (by rw [← t3]; exact c2) ?_)
      unfold wX11_looked_21
      refine nd_1 (by decide) ?_
      unfold wX11_looked_25
      refine ifp t0 ?_
      refine m_in (v := N 81 35) (lo := lo) (hi := hi) rfl rfl rfl (fun a b => ?_) (fun a => ?_)
      · refine nd_1 (by decide) ?_
        unfold wX11_looked_49
        exact ifp t0 (k2 _ N fr_rfl m (fun _ => t4.symm) (fun z => absurd c z))
      · rw [← t4] at a; exact absurd a (by clear g1 nb fl bd k2; lia)
    · unfold wpX4_fail
      intro W0 e0 W e
      subst e0
      refine fl 2 (Or.inl rfl) W e (fun N u post2 h k2 => ?_)
      have m := g1 N h
      obtain ⟨⟨t0, t1, t2, t3, t4, t5⟩, d⟩ := md_ok m c
      unfold wpX11_looked
      refine ifp t0 (ifn (by rw [← t3]; exact c2) ?_)
      unfold wX11_looked_21
      refine nd_0 t0 (fun N1 eN => ?_)
      have n6 : N1 81 36 ≠ 0 := by rw [eN, mset_nk (by decide), mset_at]; decide
      unfold wX11_looked_25 wX11_looked_49
      refine ifn n6 (ifn n6 ?_)
      have fN : NxF N N1 := by rw [eN]; exact nxf_set (nxf_set fr_rfl (by decide)) (by decide)
      have iN : Inv N1 := by rw [eN]; exact inv_set (inv_set m.1 (show 0 ≤ (2 : Int32) ∧ (2 : Int32) ≤ 6 by decide)) (i_any _)
      have w2 : W 22 2 = 2 := by rw [e, mset_nk (by decide)]; exact mset_at _ _ _ _
      exact k2 0 N1 fN (bd 2 W e (by decide) N N1 iN m.2.1 t1 fN eN) (fun z => absurd (w2.symm.trans z) (by decide)) (fun _ => rfl)
  · refine hp _ M1 i1 f1 s1 (fun z => absurd z c) (fun _ => rfl) (fun N h q => ⟨g1 N h, c⟩) (fun N u post2 h k2 => ?_)
    have m := g1 N h
    have z := md_f0 m c
    refine rf_looked (by rw [z.2.1]; exact z.1) (k2 0 N fr_rfl m (fun y => absurd y c) (fun _ => rfl))
