/-! UNITS over any predicate P of the draft that the next token keeps (printed by wip/gen/readp.py) -/
def NxS (P : MM → Prop) : Prop := ∀ N N1 : MM, NxF N N1 → P N → P N1
def BtP (P : MM → Prop) (M N : MM) : Prop := Inv N ∧ Tp M N ∧ ((M 22 2 = 0 ∧ Lx (M 2) (M 1 1) (M 22 6) (N 81 33) (N 81 32) (N 81 34) (N 81 35) (N 81 36) (N 81 37) ∧ (N 81 36 = 0 → P N)) ∨ Bad M N)
def MdP (P : MM → Prop) (M N : MM) : Prop := Inv N ∧ Tp M N ∧ ((M 22 2 = 0 ∧ Tk M N ∧ P N) ∨ Bad M N)
theorem mdp_bad {P P' : MM → Prop} {M N : MM} (h : MdP P M N) (q : M 22 2 ≠ 0) : MdP P' M N ∧ BtP P' M N := by
  rcases h.2.2 with ⟨z, _⟩ | z
  · exact absurd z q
  · exact ⟨⟨h.1, h.2.1, Or.inr z⟩, ⟨h.1, h.2.1, Or.inr z⟩⟩
theorem btp_f0 {P : MM → Prop} {M N : MM} (h : BtP P M N) (q : M 22 2 ≠ 0) : Bad M N := by
  rcases h.2.2 with ⟨z, _⟩ | z
  · exact absurd z q
  · exact z
theorem mdp_f0 {P : MM → Prop} {M N : MM} (h : MdP P M N) (q : M 22 2 ≠ 0) : Bad M N := by
  rcases h.2.2 with ⟨z, _⟩ | z
  · exact absurd z q
  · exact z
theorem mdp_ok {P : MM → Prop} {M N : MM} (h : MdP P M N) (q : M 22 2 = 0) : Tk M N ∧ P N := by
  rcases h.2.2 with ⟨_, z⟩ | z
  · exact z
  · exact absurd q z.1
theorem btp_of {M N : MM} {tl : Int64} : Bt M tl N ↔ BtP (D M tl) M N := Iff.rfl
/-- M moves, P is weakened or changed -/
theorem btp_mono {P P' : MM → Prop} {M N : MM} (h : BtP P M N) (hp : P N → P' N) : BtP P' M N := by
  refine ⟨h.1, h.2.1, ?_⟩
  rcases h.2.2 with ⟨a, b, c⟩ | z
  · exact Or.inl ⟨a, b, fun q => hp (c q)⟩
  · exact Or.inr z
theorem u_tokP {P : MM → Prop} {post : MM → Int64 → Prop} {M : MM} {tl : Int64} (hI : Inv M) (hp : ∀ M1 : MM, Inv M1 → TkF M M1 → (M 22 2 ≠ 0 → M1 = M) → (M1 22 2 = 0 → 0 ≤ M1 22 7 ∧ M1 22 7 ≤ 400) → (∀ N, BtP P M N → MdP P M1 N) → post M1 tl) : wpX4_takeToken post M tl := by
  by_cases hf : M 22 2 = 0
  · refine lx_takeToken hI hf (fun M1 i1 f1 l1 => hp M1 i1 f1 (fun q => absurd hf q) (fun _ => by have b6 := iv_22_6 hI; have := l1.2.1; clear l1; lia) (fun N h => ?_))
    obtain ⟨iN, tp, h⟩ := h
    rcases h with ⟨_, l2, d⟩ | z
    · have b6 := iv_22_6 hI
      obtain ⟨u1, u2, u3, u4⟩ := lx_un b6.1 l1 l2
      refine ⟨iN, tp_tk f1 tp, ?_⟩
      by_cases q : M1 22 2 = 0
      · obtain ⟨v1, v2, v3⟩ := u3 q
        exact Or.inl ⟨q, ⟨by rw [← u2]; exact q, u1, v1, v2, v3, by have := l1.2.1; clear u1 u3 u4 l1 l2; lia⟩, d (by rw [← u2]; exact q)⟩
      · exact Or.inr ⟨q, u2.symm, (u4 q).symm⟩
    · exact absurd hf z.1
  · unfold wpX4_takeToken
    exact ifn hf (hp M hI fr_rfl (fun _ => rfl) (fun q => absurd q hf) (fun N h => ⟨h.1, h.2.1, Or.inr (btp_f0 h hf)⟩))
theorem u_namP {P : MM → Prop} (i : Nat) (ws : List (List Nat)) (hne : ∀ {post : Int32 → MM → Int64 → Prop} {M : MM} {tl : Int64}, Inv M → (0 ≤ M 22 7 ∧ M 22 7 ≤ 400) → (∀ r : Int32, NQ M ws r → post r M tl) → wpX4_nameAmong post M tl i) (hlen : ws.length < 100) {post : Int32 → MM → Int64 → Prop} {M : MM} {tl : Int64} (hI : Inv M) (hp : ∀ (r1 : Int32) (M1 : MM), Inv M1 → TkF M M1 → (M 22 2 ≠ 0 → M1 = M) → (M1 22 2 = 0 → M 22 2 = 0 ∧ ∃ j, j < ws.length ∧ r1 = nI j ∧ ∀ N, BtP P M N → MdP P M1 N ∧ N 81 34 = 1 ∧ RW N (ws.getD j [])) → (M1 22 2 ≠ 0 → r1 = -1 ∧ ∀ N, BtP P M N → Tp M1 N ∧ (Bad M1 N ∨ (N 81 36 = 0 ∧ M1 22 2 = 2 ∧ M1 22 3 = N 81 33 ∧ (N 81 34 ≠ 1 ∨ ∀ j, j < ws.length → ¬ RW N (ws.getD j []))))) → (∀ (N : MM), BtP P M N → N 81 36 ≠ 0 → BtP P M1 N ∧ M1 22 2 ≠ 0) → post r1 M1 tl) : wpX4_takeNameOf post M tl i := by
  unfold wpX4_takeNameOf
  refine u_tokP (P := P) hI (fun M1 i1 f1 s1 b1 g1 => ?_)
  refine ifs (fun c => ?_) (fun c => hp _ M1 i1 f1 s1 (fun z => absurd z c) (fun _ => ⟨rfl, fun N h => ⟨(g1 N h).2.1, Or.inl (mdp_f0 (g1 N h) c)⟩⟩) (fun N h q => ⟨(mdp_bad (g1 N h) c).2, c⟩))
  have m0 : M 22 2 = 0 := by
    by_cases z : M 22 2 = 0
    · exact z
    · rw [s1 z] at c; exact absurd c z
  have nb : ∀ (N : MM), BtP P M N → ¬ N 81 36 ≠ 0 := fun N h q => q (mdp_ok (g1 N h) c).1.1
  refine hne i1 (b1 c) (fun r hr => ?_)
  rcases hr with ⟨e, hn⟩ | ⟨j, hj, e, hw⟩
  · refine ifn (by rw [e]; decide) ?_
    unfold wpX4_fail
    intro W0 e0 W eW
    subst e0
    have w2 : W 22 2 = 2 := by rw [eW, mset_nk (by decide)]; exact mset_at _ _ _ _
    have w3 : W 22 3 = M1 22 7 := by rw [eW]; exact mset_at _ _ _ _
    have fW : TkF M W := by rw [eW]; exact tkf_set (tkf_set f1 (by decide)) (by decide)
    refine hp _ W (by rw [eW]; exact inv_set (inv_set i1 (i_any _)) (i_any _)) fW (fun z => absurd m0 z) (fun z => absurd (w2.symm.trans z) (by decide)) (fun _ => ⟨rfl, fun N h => ?_⟩) (fun N h q => absurd q (nb N h))
    have m := g1 N h
    have t := (mdp_ok m c).1
    refine ⟨tp_tk fW h.2.1, Or.inr ⟨t.1, w2, by rw [w3]; exact t.2.1, ?_⟩⟩
    by_cases y : N 81 34 = 1
    · exact Or.inr (fun j hj z => hn j hj ((isw_rw m.2.1 t).mpr ⟨y, z⟩))
    · exact Or.inl y
  · refine ifp (by rw [e]; exact nJ_ge0 (by omega)) ?_
    refine hp _ M1 i1 f1 (fun z => absurd m0 z) (fun _ => ⟨m0, j, hj, e, fun N h => ⟨g1 N h, ?_⟩⟩) (fun z => absurd c z) (fun N h q => absurd q (nb N h))
    have m := g1 N h
    exact (isw_rw m.2.1 (mdp_ok m c).1).mp hw
theorem u_numP {P : MM → Prop} {post : Int32 → MM → Int64 → Prop} {M : MM} {tl : Int64} {lo hi : Int32} (hI : Inv M) (hp : ∀ (r1 : Int32) (M1 : MM), Inv M1 → TkF M M1 → (M 22 2 ≠ 0 → M1 = M) → (M1 22 2 = 0 → M 22 2 = 0 ∧ lo ≤ r1 ∧ r1 ≤ hi) → (M1 22 2 ≠ 0 → r1 = -1) → (∀ (N : MM), BtP P M N → N 81 36 ≠ 0 → MdP P M1 N ∧ M1 22 2 ≠ 0) → (∀ (N : MM) (u : Int64) (post2 : Int32 → MM → Int64 → Prop), BtP P M N → (∀ (r2 : Int32) (N1 : MM), NxF N N1 → MdP P M1 N1 → (M1 22 2 = 0 → r2 = r1) → (M1 22 2 ≠ 0 → r2 = 0) → post2 r2 N1 u) → wpX11_looked post2 N u lo hi) → post r1 M1 tl) : wpX4_takeNumber post M tl lo hi := by
  unfold wpX4_takeNumber
  refine u_tokP (P := P) hI (fun M1 i1 f1 s1 _ g1 => ?_)
  have nb : ∀ (N : MM), BtP P M N → N 81 36 ≠ 0 → M1 22 2 ≠ 0 := fun N h q z => by
    have := mdp_ok (g1 N h) z
    exact q this.1.1
  refine ifs (fun c => ?_) (fun c => ?_)
  · have m0 : M 22 2 = 0 := by
      by_cases z : M 22 2 = 0
      · exact z
      · rw [s1 z] at c; exact absurd c z
    have fl : ∀ k : Int32, (k = 2 ∨ k = 3) → ∀ W : MM, W = mset (mset M1 22 2 k) 22 3 (M1 22 7) → (∀ (N : MM) (u : Int64) (post2 : Int32 → MM → Int64 → Prop), BtP P M N → (∀ (r2 : Int32) (N1 : MM), NxF N N1 → MdP P W N1 → (W 22 2 = 0 → r2 = -1) → (W 22 2 ≠ 0 → r2 = 0) → post2 r2 N1 u) → wpX11_looked post2 N u lo hi) → post (-1) W tl := by
      intro k hk W e hr
      have w2 : W 22 2 = k := by rw [e, mset_nk (by decide)]; exact mset_at _ _ _ _
      have kz : k ≠ 0 := by lia
      refine hp (-1) W (by rw [e]; exact inv_set (inv_set i1 (i_any _)) (i_any _)) (by rw [e]; exact tkf_set (tkf_set f1 (by decide)) (by decide)) (fun z => absurd m0 z) (fun z => absurd (w2.symm.trans z) kz) (fun _ => rfl) (fun N h q => ?_) hr
      exact absurd c (nb N h q)
    have bd : ∀ (k : Int32) (W : MM), W = mset (mset M1 22 2 k) 22 3 (M1 22 7) → k ≠ 0 → ∀ (N N1 : MM), Inv N1 → Tp M1 N → M1 22 7 = N 81 33 → NxF N N1 → N1 = mset (mset N 81 36 k) 81 37 (N 81 33) → MdP P W N1 := by
      intro k W e kz N N1 iN1 tp t1 fN eN
      have w2 : W 22 2 = k := by rw [e, mset_nk (by decide)]; exact mset_at _ _ _ _
      have w3 : W 22 3 = M1 22 7 := by rw [e]; exact mset_at _ _ _ _
      refine ⟨iN1, tp_nx fN (tp_eq tp (by rw [e, mset_ne (by decide), mset_ne (by decide)]) (by rw [e, mset_ne (by decide), mset_ne (by decide)]) rfl rfl), Or.inr ⟨by rw [w2]; exact kz, ?_, ?_⟩⟩
      · rw [w2, eN, mset_nk (by decide)]; exact mset_at _ _ _ _
      · rw [w3, t1, eN]; exact mset_at _ _ _ _
    refine ifs (fun c2 => ?_) (fun c2 => ?_)
    · have bad3 : (M1 22 9 < lo ∨ hi < M1 22 9) → wX4_takeNumber_47 post M1 tl := by
        intro hb
        unfold wX4_takeNumber_47 wpX4_fail
        intro W0 e0 W e
        subst e0
        refine fl 3 (Or.inr rfl) W e (fun N u post2 h k2 => ?_)
        have m := g1 N h
        obtain ⟨⟨t0, t1, t2, t3, t4, t5⟩, d⟩ := mdp_ok m c
        have t4 := t4 c2
        unfold wpX11_looked
        refine ifp t0 (ifp (by rw [← t3]; exact c2) ?_)
        unfold wX11_looked_21
        refine nd_1 (by decide) ?_
        unfold wX11_looked_25
        refine ifp t0 ?_
        refine m_in (v := N 81 35) (lo := lo) (hi := hi) rfl rfl rfl (fun a b => ?_) (fun a => ?_)
        · rw [← t4] at a b; exact absurd hb (by clear k2 g1; lia)
        · refine nd_0 t0 (fun N1 eN => ?_)
          have n6 : N1 81 36 ≠ 0 := by rw [eN, mset_nk (by decide), mset_at]; decide
          unfold wX11_looked_49
          refine ifn n6 ?_
          have fN : NxF N N1 := by rw [eN]; exact nxf_set (nxf_set fr_rfl (by decide)) (by decide)
          have iN : Inv N1 := by rw [eN]; exact inv_set (inv_set m.1 (show 0 ≤ (3 : Int32) ∧ (3 : Int32) ≤ 6 by decide)) (i_any _)
          have w2 : W 22 2 = 3 := by rw [e, mset_nk (by decide)]; exact mset_at _ _ _ _
          exact k2 0 N1 fN (bd 3 W e (by decide) N N1 iN m.2.1 t1 fN eN) (fun z => absurd (w2.symm.trans z) (by decide)) (fun _ => rfl)
      refine ifs (fun c3 => bad3 (Or.inl c3)) (fun c3 => ifs (fun c4 => ?_) (fun c4 => bad3 (Or.inr (by clear g1 nb fl bd; lia))))
      refine hp _ M1 i1 f1 (fun z => absurd m0 z) (fun _ => ⟨m0, by clear g1 nb fl bd; lia, c4⟩) (fun z => absurd c z) (fun N h q => absurd c (nb N h q)) (fun N u post2 h k2 => ?_)
      have m := g1 N h
      obtain ⟨⟨t0, t1, t2, t3, t4, t5⟩, d⟩ := mdp_ok m c
      have t4 := t4 c2
      unfold wpX11_looked
      refine ifp t0 (ifp (by rw [← t3]; exact c2) ?_)
      unfold wX11_looked_21
      refine nd_1 (by decide) ?_
      unfold wX11_looked_25
      refine ifp t0 ?_
      refine m_in (v := N 81 35) (lo := lo) (hi := hi) rfl rfl rfl (fun a b => ?_) (fun a => ?_)
      · refine nd_1 (by decide) ?_
        unfold wX11_looked_49
        exact ifp t0 (k2 _ N fr_rfl m (fun _ => t4.symm) (fun z => absurd c z))
      · rw [← t4] at a; exact absurd a (by clear g1 nb fl bd k2; lia)
    · unfold wpX4_fail
      intro W0 e0 W e
      subst e0
      refine fl 2 (Or.inl rfl) W e (fun N u post2 h k2 => ?_)
      have m := g1 N h
      obtain ⟨⟨t0, t1, t2, t3, t4, t5⟩, d⟩ := mdp_ok m c
      unfold wpX11_looked
      refine ifp t0 (ifn (by rw [← t3]; exact c2) ?_)
      unfold wX11_looked_21
      refine nd_0 t0 (fun N1 eN => ?_)
      have n6 : N1 81 36 ≠ 0 := by rw [eN, mset_nk (by decide), mset_at]; decide
      unfold wX11_looked_25 wX11_looked_49
      refine ifn n6 (ifn n6 ?_)
      have fN : NxF N N1 := by rw [eN]; exact nxf_set (nxf_set fr_rfl (by decide)) (by decide)
      have iN : Inv N1 := by rw [eN]; exact inv_set (inv_set m.1 (show 0 ≤ (2 : Int32) ∧ (2 : Int32) ≤ 6 by decide)) (i_any _)
      have w2 : W 22 2 = 2 := by rw [e, mset_nk (by decide)]; exact mset_at _ _ _ _
      exact k2 0 N1 fN (bd 2 W e (by decide) N N1 iN m.2.1 t1 fN eN) (fun z => absurd (w2.symm.trans z) (by decide)) (fun _ => rfl)
  · refine hp _ M1 i1 f1 s1 (fun z => absurd z c) (fun _ => rfl) (fun N h q => ⟨g1 N h, c⟩) (fun N u post2 h k2 => ?_)
    have m := g1 N h
    have z := mdp_f0 m c
    refine rf_looked (by rw [z.2.1]; exact z.1) (k2 0 N fr_rfl m (fun y => absurd y c) (fun _ => rfl))


theorem u_nextP {P : MM → Prop} (hP : NxS P) {post : MM → Int64 → Prop} {M N : MM} {u : Int64} (h : MdP P M N) (hp : ∀ N1 : MM, NxF N N1 → BtP P M N1 → post N1 u) : wpX11_next post N u := by
  obtain ⟨iN, tp, h⟩ := h
  rcases h with ⟨q, ⟨t0, t1, t2, t3, t4, t5⟩, d⟩ | z
  · refine lx_next iN t0 (fun N1 i1 f1 l1 => hp N1 f1 ⟨i1, tp_nx f1 tp, Or.inl ⟨q, ?_, fun _ => hP N N1 f1 d⟩⟩)
    rw [tp.1, tp.2, t2]
    exact l1
  · unfold wpX11_next
    have b := iv_81_36 iN
    have : ¬ N 81 36 ≤ 0 := by
      have := z.1
      rw [← z.2.1] at this
      clear z; lia
    exact ifn this (hp N fr_rfl ⟨iN, tp, Or.inr z⟩)
theorem u_rnumP {P : MM → Prop} (hP : NxS P) {post : Int32 → MM → Int64 → Prop} {M : MM} {tl : Int64} {lo hi : Int32} (hI : Inv M) (hp : ∀ (r1 : Int32) (M1 : MM), Inv M1 → TkF M M1 → (M 22 2 ≠ 0 → M1 = M) → (M1 22 2 = 0 → M 22 2 = 0 ∧ lo ≤ r1 ∧ r1 ≤ hi) → (M1 22 2 ≠ 0 → r1 = -1) → (∀ (N : MM), BtP P M N → N 81 36 ≠ 0 → BtP P M1 N ∧ M1 22 2 ≠ 0) → (∀ (N : MM) (u : Int64) (post2 : Int32 → MM → Int64 → Prop), BtP P M N → (∀ (r2 : Int32) (N1 : MM), NxF N N1 → BtP P M1 N1 → (M1 22 2 = 0 → r2 = r1) → (M1 22 2 ≠ 0 → r2 = 0) → post2 r2 N1 u) → wpX11_readNumber post2 N u lo hi) → post r1 M1 tl) : wpX4_takeNumber post M tl lo hi := by
  refine u_numP (P := P) hI (fun r1 M1 i1 f1 s1 a1 b1 n1 g1 => hp r1 M1 i1 f1 s1 a1 b1 (fun N h q => ?_) (fun N u post2 h k => ?_))
  · have z := n1 N h q
    exact ⟨(mdp_bad z.1 z.2).2, z.2⟩
  · unfold wpX11_readNumber
    refine g1 N u _ h (fun r2 N1 f2 m2 a2 b2 => ?_)
    exact u_nextP hP m2 (fun N2 f3 h3 => k r2 N2 (fr_call f2 f3 (by decide) (by decide)) h3 a2 b2)
theorem rk_passP {P : MM → Prop} (hP : NxS P) {post : Int32 → MM → Int64 → Prop} {M N : MM} {u : Int64} {but : Int32} {k : Nat} (hk : k < 6) (h : MdP P M N) (hb : bI but k = false) (hp : ∀ N1 : MM, NxF N N1 → BtP P M N1 → post (nI k) N1 u) : wX11_readKind_37 post N u but (nI k) 1 := by
  have k0 : nI k ≠ -4 := fun q => by
    have := nJ_ge0 (i := k) (by omega)
    rw [q] at this
    exact absurd this (by decide)
  unfold wX11_readKind_37
  refine nd_1 (by decide) (ifn k0 (ifp ((bI_test but (by omega)).mpr hb) ?_))
  unfold wX11_readKind_56 wX11_readKind_61
  exact nd_1 (by decide) (u_nextP hP h (fun N1 f1 h1 => ifn k0 (hp N1 f1 h1)))
theorem btp_fin {P : MM → Prop} {M N V : MM} (bd : Bad M N) (tp : Tp M N) (iV : Inv V) (r97 : V 97 = N 97) (e : ∀ j, 31 ≤ j → j ≤ 37 → V 81 j = N 81 j) : BtP P M V := ⟨iV, tp_eq tp rfl rfl (e 31 (by decide) (by decide)) r97, Or.inr ⟨bd.1, by rw [e 36 (by decide) (by decide)]; exact bd.2.1, by rw [e 37 (by decide) (by decide)]; exact bd.2.2⟩⟩
theorem ne_2' : ∀ {post : Int32 → MM → Int64 → Prop} {M : MM} {tl : Int64}, Inv M → (0 ≤ M 22 7 ∧ M 22 7 ≤ 400) → (∀ r : Int32, NQ M ws2 r → post r M tl) → wpX4_nameAmong post M tl 2 := fun h1 h2 h3 => ne_2 h1 h2 h3
theorem ne_3' : ∀ {post : Int32 → MM → Int64 → Prop} {M : MM} {tl : Int64}, Inv M → (0 ≤ M 22 7 ∧ M 22 7 ≤ 400) → (∀ r : Int32, NQ M ws3 r → post r M tl) → wpX4_nameAmong post M tl 3 := fun h1 h2 h3 => ne_3 h1 h2 h3
theorem ws2_s : ∀ j, j < 5 → ws2.getD (j + 1) [] = ws1.getD j [] := by decide
/-- the reference's sides -/
def sdK (post : Int32 → MM → Int64 → Prop) (N : MM) (u : Int64) (v1 v2 : Int32) : Prop := (if (N 81 36) = 0 then (if (N 81 34) = 1 then wpX11_sideNow (fun r9 M7 t8 => wX11_readWhat_65 post M7 t8 v1 v2 r9) N u else wX11_readWhat_63 post N u v1 v2) else wX11_readWhat_63 post N u v1 v2)
theorem sd_fault {post : Int32 → MM → Int64 → Prop} {N : MM} {u : Int64} {v1 v2 : Int32} (iN : Inv N) (hf : N 81 36 ≠ 0) (hp : post 0 N u) : sdK post N u v1 v2 := by
  have b := iv_81_36 iN
  unfold sdK
  refine ifn hf ?_
  unfold wX11_readWhat_63 wX11_readWhat_65
  refine ifp rfl ?_
  unfold wX11_readWhat_78
  exact nd_f hf (rf_next iN hf (ifn (by lia) hp))
theorem sd_none {post : Int32 → MM → Int64 → Prop} {N : MM} {u : Int64} {v1 v2 : Int32} (iN : Inv N) (h0 : N 81 36 = 0) (h1 : N 81 34 ≠ 1 ∨ ∀ j, j < ws3.length → ¬ RW N (ws3.getD j [])) (hp : ∀ N1 : MM, N1 = mset (mset N 81 36 2) 81 37 (N 81 33) → post 0 N1 u) : sdK post N u v1 v2 := by
  have key : wX11_readWhat_65 post N u v1 v2 (-4) := by
    unfold wX11_readWhat_65
    refine ifp rfl ?_
    unfold wX11_readWhat_78
    refine nd_0 h0 (fun N1 e => ?_)
    have x := fl_in iN (by decide) e
    have n6 : N1 81 36 ≠ 0 := by rw [e, mset_nk (by decide), mset_at]; decide
    have b := iv_81_36 x.1
    exact rf_next x.1 n6 (ifn (by lia) (hp N1 e))
  unfold sdK
  refine ifp h0 (ifs (fun c => ?_) (fun c => by unfold wX11_readWhat_63; exact key))
  refine sd_r iN (fun r hr => ?_)
  rcases hr with ⟨e, _⟩ | ⟨k, hk, e, z⟩
  · rw [e]; exact key
  · exact absurd z ((h1.resolve_left (fun y => y c)) k hk)
theorem th_nI {a b c : Nat} (ha : a < 6) (hb : b < 4) (hc : c < 2) : Th (nI a + (8 : Int32) * nI b + (32 : Int32) * nI c) := th_all a ha b hb c hc
theorem sd_found {P : MM → Prop} (hP : NxS P) {post : Int32 → MM → Int64 → Prop} {M N : MM} {u : Int64} {v1 v2 : Int32} {j : Nat} (h : MdP P M N) (q : M 22 2 = 0) (h1 : N 81 34 = 1) (hj : j < 2) (hw : RW N (ws3.getD j [])) (hp : ∀ (N1 : MM), NxF N N1 → BtP P M N1 → (N1 81 36 = 0 → post (v1 + (8 : Int32) * v2 + (32 : Int32) * nI j) N1 u) ∧ (N1 81 36 ≠ 0 → post 0 N1 u)) : sdK post N u v1 v2 := by
  unfold sdK
  refine ifp (mdp_ok h q).1.1 (ifp h1 (sd_r h.1 (fun r hr => ?_)))
  rcases hr with ⟨_, z⟩ | ⟨k, hk, e, z⟩
  · exact absurd hw (z j hj)
  · have ek := ws3_d k hk j hj (ws_un (by decide) hk hj z hw)
    subst ek
    unfold wX11_readWhat_65
    rw [e]
    refine ifn ?_ ?_
    · intro w
      have := nJ_ge0 (i := k) (by omega)
      rw [w] at this
      exact absurd this (by decide)
    · unfold wX11_readWhat_78
      refine nd_1 (by decide) (u_nextP hP h (fun N1 f1 h1 => ?_))
      have b := iv_81_36 h1.1
      have w := hp N1 f1 h1
      exact ifs (fun c => w.1 (by lia)) (fun c => w.2 (by lia))
/-- a thing: taken, and read -/
theorem u_what {P : MM → Prop} (hP : NxS P) {post : Int32 → MM → Int64 → Prop} {M : MM} {tl : Int64} (hI : Inv M) (hp : ∀ (r1 : Int32) (M1 : MM), Inv M1 → TkF M M1 → (M 22 2 ≠ 0 → M1 = M) → (M1 22 2 = 0 → M 22 2 = 0 ∧ Th r1) → (∀ (N : MM), BtP P M N → N 81 36 ≠ 0 → BtP P M1 N ∧ M1 22 2 ≠ 0) → (∀ (N : MM) (u : Int64) (post2 : Int32 → MM → Int64 → Prop), BtP P M N → (∀ (r2 : Int32) (N1 : MM), NxF N N1 → BtP P M1 N1 → (M1 22 2 = 0 → N1 81 36 = 0 → r2 = r1) → Th r2 → post2 r2 N1 u) → wpX11_readWhat post2 N u) → post r1 M1 tl) : wpX4_takeThing post M tl := by
  unfold wpX4_takeThing
  refine u_namP (P := P) 2 ws2 ne_2' (by decide) hI (fun r1 M1 i1 f1 s1 a1 b1 n1 => ?_)
  by_cases q : M1 22 2 = 0
  · obtain ⟨q0, j, hj, ej, gN⟩ := a1 q
    have hj : j < 6 := hj
    subst ej
    rcases (show j = 0 ∨ ∃ k, j = k + 1 from by cases j with | zero => exact Or.inl rfl | succ k => exact Or.inr ⟨k, rfl⟩) with z | ⟨k, z⟩
    · -- nothing
      subst z
      refine ifn (by decide) (hp _ M1 i1 f1 s1 (fun _ => ⟨q0, th_0⟩) (fun N h y => n1 N h y) (fun N u post2 h kk => ?_))
      obtain ⟨m, n34, w⟩ := gN N h
      unfold wpX11_readWhat
      refine ifp (mdp_ok m q).1.1 (ifp n34 (no_r m.1 (fun _ => ifn (by decide) ?_) (fun y => absurd w y)))
      exact u_nextP hP m (fun N1 f2 h2 => kk 0 N1 f2 h2 (fun _ _ => rfl) th_0)
    · subst z
      have hk : k < 5 := by omega
      have pos : (0 : Int32) < nI (k + 1) := Int32.lt_iff_toInt_lt.mpr (by rw [nI_sm (by omega)]; show (0 : Int) < _; omega)
      refine ifp pos ?_
      -- the reference finds the kind
      have start : ∀ (N : MM) (u : Int64) (post2 : Int32 → MM → Int64 → Prop), BtP P M N → (∀ N1, NxF N N1 → BtP P M1 N1 → wpX11_readNumber (fun r6 M4 t5 => sdK post2 M4 t5 (nI (k + 1)) r6) N1 u 0 3) → wpX11_readWhat post2 N u := by
        intro N u post2 h kk
        obtain ⟨m, n34, w⟩ := gN N h
        have w' : RW N (ws1.getD k []) := by rw [← ws2_s k hk]; exact w
        unfold wpX11_readWhat
        refine ifp (mdp_ok m q).1.1 (ifp n34 (no_r m.1 (fun y => ?_) (fun _ => ifp rfl ?_)))
        · exact absurd (ws2_d 0 (by omega) (k + 1) (by omega) (ws_un (by decide) (by decide) (by show k + 1 < 6; omega) y w)) (by omega)
        · unfold wX11_readWhat_28
          refine rk_found m.1 (mdp_ok m q).1.1 n34 hk w' (rk_passP hP (by omega) m (bI_0 _) (fun N1 f2 h2 => ?_))
          exact kk N1 f2 h2
      refine u_rnumP (P := P) hP i1 (fun r2 M2 i2 f2 s2 a2 b2 n2 g2 => ?_)
      refine u_namP (P := P) 3 ws3 ne_3' (by decide) i2 (fun r3 M3 i3 f3 s3 a3 b3 n3 => ?_)
      have fM : TkF M M3 := fr_call (fr_call f1 f2 (by decide) (by decide)) f3 (by decide) (by decide)
      refine ifs (fun q3 => ?_) (fun q3 => ?_)
      · obtain ⟨q2, j3, hj3, ej3, gN3⟩ := a3 q3
        have hj3 : j3 < 2 := hj3
        subst ej3
        obtain ⟨c, ec, hc⟩ : ∃ c, r2 = nI c ∧ c < 4 := code_of (hi := 3) (v := r2) ⟨i_ge_to (k := 0) (by decide) (a2 q2).2.1, i_le_to (c := 3) (k := 3) (by decide) (a2 q2).2.2⟩ (by decide)
        subst ec
        refine hp _ M3 i3 fM (fun z => absurd q0 z) (fun _ => ⟨q0, th_nI (by omega) hc hj3⟩) (fun N h y => absurd q (n1 N h y).2) (fun N u post2 h kk => start N u post2 h (fun N1 g1 h1 => ?_))
        refine g2 N1 u _ h1 (fun r N2 g3 h2 aa bb => ?_)
        have er := aa q2
        subst er
        obtain ⟨m3, n343, w3⟩ := gN3 N2 h2
        refine sd_found hP m3 q3 n343 hj3 w3 (fun N3 g4 h3 => ?_)
        have fN : NxF N N3 := fr_call (fr_call g1 g3 (by decide) (by decide)) g4 (by decide) (by decide)
        exact ⟨fun _ => kk _ N3 fN h3 (fun _ _ => rfl) (th_nI (by omega) hc hj3), fun z => kk 0 N3 fN h3 (fun _ y => absurd y z) th_0⟩
      · refine hp _ M3 i3 fM (fun z => absurd q0 z) (fun z => absurd z q3) (fun N h y => absurd q (n1 N h y).2) (fun N u post2 h kk => start N u post2 h (fun N1 g1 h1 => ?_))
        refine g2 N1 u _ h1 (fun r N2 g3 h2 aa bb => ?_)
        have fN2 : NxF N N2 := fr_call g1 g3 (by decide) (by decide)
        obtain ⟨tp, hbd⟩ := (b3 q3).2 N2 h2
        rcases hbd with bd | ⟨z0, z1, z2, z3⟩
        · exact sd_fault h2.1 (bad_n bd) (kk 0 N2 fN2 (btp_fin bd tp h2.1 rfl (fun _ _ _ => rfl)) (fun z => absurd z q3) th_0)
        · refine sd_none h2.1 z0 z3 (fun N3 e3 => ?_)
          have x := fl_in h2.1 (by decide) e3
          have bd : Bad M3 N3 := ⟨q3, by rw [z1, e3, mset_nk (by decide), mset_at], by rw [z2, e3, mset_at]⟩
          exact kk 0 N3 (fr_call fN2 x.2 (by decide) (by decide)) (btp_fin bd (tp_nx x.2 tp) x.1 rfl (fun _ _ _ => rfl)) (fun z => absurd z q3) th_0
  · have e := (b1 q).1
    subst e
    refine ifn (by decide) (hp _ M1 i1 f1 s1 (fun z => absurd z q) (fun N h y => n1 N h y) (fun N u post2 h kk => ?_))
    obtain ⟨tp, hbd⟩ := (b1 q).2 N h
    rcases hbd with bd | ⟨z0, z1, z2, z3⟩
    · exact rf_readWhat h.1 (bad_n bd) (kk 0 N fr_rfl (btp_fin bd tp h.1 rfl (fun _ _ _ => rfl)) (fun z => absurd z q) th_0)
    · have nn : ∀ j, j < 6 → N 81 34 = 1 → ¬ RW N (ws2.getD j []) := fun j hj y => (z3.resolve_left (fun w => w y)) j hj
      have k1 : N 81 34 ≠ 1 ∨ ∀ j, j < 5 → ¬ RW N (ws1.getD j []) := by
        by_cases y : N 81 34 = 1
        · exact Or.inr (fun j hj w => nn (j + 1) (by omega) y (by rw [ws2_s j hj]; exact w))
        · exact Or.inl y
      have body : wX11_readWhat_28 post2 N u := by
        unfold wX11_readWhat_28
        refine rk_none h.1 z0 k1 (fun N2 e2 => ?_)
        have x := fl_in h.1 (by decide) e2
        have bd : Bad M1 N2 := ⟨q, by rw [z1, e2, mset_nk (by decide), mset_at], by rw [z2, e2, mset_at]⟩
        refine rf_readNumber x.1 (bad_n bd) ?_
        exact sd_fault x.1 (bad_n bd) (kk 0 N2 x.2 (btp_fin bd (tp_nx x.2 tp) x.1 rfl (fun _ _ _ => rfl)) (fun z => absurd z q) th_0)
      unfold wpX11_readWhat
      refine ifp z0 (ifs (fun c => no_r h.1 (fun y => absurd y (nn 0 (by omega) c)) (fun _ => ifp rfl body)) (fun c => body))
