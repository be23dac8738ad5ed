/-! units of reading: numbers, what is told once, names -/
abbrev CFr (M M1 : MM) : Prop := Fr [24, 26, 27, 29, 30, 31, 32, 33, 35, 37] [(22, 2), (22, 3), (22, 4), (22, 6), (22, 7), (22, 8), (22, 9), (23, 0), (23, 1), (23, 2), (23, 3), (36, 3), (38, 3), (40, 3)] M M1
abbrev RFr (N N1 : MM) : Prop := Fr [90, 91, 92, 93, 94, 95, 96] [(81, 13), (81, 14), (81, 15), (81, 22), (81, 23), (81, 24), (81, 25), (81, 26), (81, 27), (81, 28), (81, 29), (81, 32), (81, 33), (81, 34), (81, 35), (81, 36), (81, 37)] N N1
theorem cf_tk {M M1 M2 : MM} (f : CFr M M1) (g : TkF M1 M2) : CFr M M2 := fr_call f g (by decide) (by decide)
theorem rf_nx {N N1 N2 : MM} (f : RFr N N1) (g : NxF N1 N2) : RFr N N2 := fr_call f g (by decide) (by decide)
theorem cf_tp {M M1 N : MM} (f : CFr M M1) (h : Tp M N) : Tp M1 N := tp_eq h (f 1 1 (by decide) (by decide)) (funext fun j => f 2 j (by decide) (by simp)) rfl rfl
theorem rf_tp {M N N1 : MM} (f : RFr N N1) (h : Tp M N) : Tp M N1 := tp_eq h rfl rfl (f 81 31 (by decide) (by decide)) (funext fun j => f 97 j (by decide) (by simp))
theorem bt_in {M N : MM} {tl : Int64} (h : Bt M tl N) : Inv N := h.1
theorem bad_n {M N : MM} (h : Bad M N) : N 81 36 ≠ 0 := by rw [h.2.1]; exact h.1
theorem bt_bad {M N : MM} {tl : Int64} (iN : Inv N) (tp : Tp M N) (h : Bad M N) : Bt M tl N := ⟨iN, tp, Or.inr h⟩
theorem bt_md {M N : MM} {tl : Int64} (h : Bt M tl N) (q : M 22 2 ≠ 0) : Md M tl N := ⟨h.1, h.2.1, Or.inr (bt_f0 h q)⟩
/-- a number, taken and read on -/
theorem u_rnum {post : Int32 → MM → Int64 → Prop} {M : MM} {tl : Int64} {lo hi : Int32} (hI : Inv M) (hp : ∀ (r1 : Int32) (M1 : MM), Inv M1 → TkF M M1 → (M 22 2 ≠ 0 → M1 = M) → (M1 22 2 = 0 → M 22 2 = 0 ∧ lo ≤ r1 ∧ r1 ≤ hi) → (M1 22 2 ≠ 0 → r1 = -1) → (∀ (N : MM), Bt M tl N → N 81 36 ≠ 0 → Bt M1 tl N ∧ M1 22 2 ≠ 0) → (∀ (N : MM) (u : Int64) (post2 : Int32 → MM → Int64 → Prop), Bt M tl N → (∀ (r2 : Int32) (N1 : MM), NxF N N1 → Bt M1 tl N1 → (M1 22 2 = 0 → r2 = r1) → (M1 22 2 ≠ 0 → r2 = 0) → post2 r2 N1 u) → wpX11_readNumber post2 N u lo hi) → post r1 M1 tl) : wpX4_takeNumber post M tl lo hi := by
  refine u_num hI (fun r1 M1 i1 f1 s1 a1 b1 n1 g1 => hp r1 M1 i1 f1 s1 a1 b1 (fun N h q => ?_) (fun N u post2 h k => ?_))
  · have z := n1 N h q
    exact ⟨(md_bad z.1 z.2).2, z.2⟩
  · unfold wpX11_readNumber
    refine g1 N u _ h (fun r2 N1 f2 m2 a2 b2 => ?_)
    exact u_next m2 (fun N2 f3 h3 => k r2 N2 (fr_call f2 f3 (by decide) (by decide)) h3 a2 b2)
/-- what is told once -/
def TL (M : MM) (tl : Int64) (bit : Nat) (M1 : MM) (t1 : Int64) : Prop := t1 = (tl ||| ((1 : Int64) <<< ((nI bit).toInt64 &&& 63))) ∧ ((bL tl bit = false ∧ M1 = M) ∨ (bL tl bit = true ∧ M1 = mset (mset M 22 2 4) 22 3 (M 22 7)))
theorem u_tell {post : MM → Int64 → Prop} {M : MM} {tl : Int64} {bit : Nat} (hb : bit < 64) (hf : M 22 2 = 0) (hp : ∀ (M1 : MM) (t1 : Int64), TL M tl bit M1 t1 → post M1 t1) : wpX4_tellOnce post M tl (nI bit) := by
  unfold wpX4_tellOnce
  refine ifp hf (ifs (fun c => ?_) (fun c => ?_))
  · rw [lgc_0, bL_test _ hb] at c
    unfold wX4_tellOnce_31
    exact hp _ _ ⟨rfl, Or.inl ⟨c, rfl⟩⟩
  · rw [lgc_0, bL_test _ hb] at c
    unfold wpX4_fail wX4_tellOnce_31
    intro W e W2 e2
    subst e
    exact hp _ _ ⟨rfl, Or.inr ⟨by simpa using c, e2⟩⟩
theorem u_tell_f {post : MM → Int64 → Prop} {M : MM} {tl : Int64} {v : Int32} (hf : M 22 2 ≠ 0) (hp : post M tl) : wpX4_tellOnce post M tl v := by
  unfold wpX4_tellOnce
  exact ifn hf hp
theorem tl_fr {M M1 : MM} {tl t1 : Int64} {bit : Nat} (hI : Inv M) (h : TL M tl bit M1 t1) : Inv M1 ∧ TkF M M1 := by
  rcases h.2 with ⟨_, e⟩ | ⟨_, e⟩
  · rw [e]; exact ⟨hI, fr_rfl⟩
  · rw [e]; exact ⟨inv_set (inv_set hI (i_any _)) (i_any _), tkf_set (tkf_set fr_rfl (by decide)) (by decide)⟩
/-- a fault at the token: class and reference the same -/
theorem bad_of {M N : MM} {k : Int32} (hk : k ≠ 0) (t1 : M 22 7 = N 81 33) {W N1 : MM} (e : W = mset (mset M 22 2 k) 22 3 (M 22 7)) (eN : N1 = mset (mset N 81 36 k) 81 37 (N 81 33)) : Bad W N1 := by
  have w2 : W 22 2 = k := by rw [e, mset_nk (by decide)]; exact mset_at _ _ _ _
  refine ⟨by rw [w2]; exact hk, ?_, ?_⟩
  · rw [w2, eN, mset_nk (by decide)]; exact mset_at _ _ _ _
  · rw [e, eN, mset_at, mset_at]; exact t1.symm
theorem fl_in {N N1 : MM} {k : Int32} (hI : Inv N) (hk : 0 ≤ k ∧ k ≤ 6) (eN : N1 = mset (mset N 81 36 k) 81 37 (N 81 33)) : Inv N1 ∧ NxF N N1 := by
  rw [eN]
  exact ⟨inv_set (inv_set hI (show 0 ≤ k ∧ k ≤ 6 from hk)) (i_any _), nxf_set (nxf_set fr_rfl (by decide)) (by decide)⟩
theorem fl_tp {M N : MM} {k j : Int32} {W N1 : MM} (tp : Tp M N) (e : W = mset (mset M 22 2 k) 22 3 (M 22 7)) (f : NxF N N1) : Tp W N1 := tp_nx f (tp_eq tp (by rw [e, mset_ne (by decide), mset_ne (by decide)]) (by rw [e, mset_ne (by decide), mset_ne (by decide)]) rfl rfl)
theorem u_tok2 {post : MM → Int64 → Prop} {M : MM} {tl : Int64} (hI : Inv M) (hp : ∀ M1 : MM, Inv M1 → TkF M M1 → (M 22 2 ≠ 0 → M1 = M) → (M1 22 2 = 0 → 0 ≤ M1 22 7 ∧ M1 22 7 ≤ 400) → (∀ N, Bt M tl N → Md M1 tl N) → post M1 tl) : wpX4_takeToken post M tl := by
  by_cases hf : M 22 2 = 0
  · refine lx_takeToken hI hf (fun M1 i1 f1 l1 => hp M1 i1 f1 (fun q => absurd hf q) (fun _ => by have b6 := iv_22_6 hI; have := l1.2.1; clear l1; lia) (fun N h => ?_))
    obtain ⟨iN, tp, h⟩ := h
    rcases h with ⟨_, l2, d⟩ | z
    · have b6 := iv_22_6 hI
      obtain ⟨u1, u2, u3, u4⟩ := lx_un b6.1 l1 l2
      refine ⟨iN, tp_tk f1 tp, ?_⟩
      by_cases q : M1 22 2 = 0
      · obtain ⟨v1, v2, v3⟩ := u3 q
        exact Or.inl ⟨q, ⟨by rw [← u2]; exact q, u1, v1, v2, v3, by have := l1.2.1; clear u1 u3 u4 l1 l2; lia⟩, d_tk f1 (d (by rw [← u2]; exact q))⟩
      · exact Or.inr ⟨q, u2.symm, (u4 q).symm⟩
    · exact absurd hf z.1
  · unfold wpX4_takeToken
    exact ifn hf (hp M hI fr_rfl (fun _ => rfl) (fun q => absurd q hf) (fun N h => ⟨h.1, h.2.1, Or.inr (bt_f0 h hf)⟩))
theorem isw_rw {M N : MM} {w : List Nat} (tp : Tp M N) (t : Tk M N) : IsW M w ↔ (N 81 34 = 1 ∧ RW N w) := by
  unfold IsW RW
  rw [tp.1, tp.2, t.2.1, t.2.2.1, t.2.2.2.1]
/-- a name of the class's -/
theorem u_nam (i : Nat) (ws : List (List Nat)) (hne : ∀ {post : Int32 → MM → Int64 → Prop} {M : MM} {tl : Int64}, Inv M → (0 ≤ M 22 7 ∧ M 22 7 ≤ 400) → (∀ r : Int32, NQ M ws r → post r M tl) → wpX4_nameAmong post M tl i) (hlen : ws.length < 100) {post : Int32 → MM → Int64 → Prop} {M : MM} {tl : Int64} (hI : Inv M) (hp : ∀ (r1 : Int32) (M1 : MM), Inv M1 → TkF M M1 → (M 22 2 ≠ 0 → M1 = M) → (M1 22 2 = 0 → M 22 2 = 0 ∧ ∃ j, j < ws.length ∧ r1 = nI j ∧ ∀ N, Bt M tl N → Md M1 tl N ∧ N 81 34 = 1 ∧ RW N (ws.getD j [])) → (M1 22 2 ≠ 0 → r1 = -1 ∧ ∀ N, Bt M tl N → Tp M1 N ∧ (Bad M1 N ∨ (N 81 36 = 0 ∧ M1 22 2 = 2 ∧ M1 22 3 = N 81 33 ∧ (N 81 34 ≠ 1 ∨ ∀ j, j < ws.length → ¬ RW N (ws.getD j []))))) → (∀ (N : MM), Bt M tl N → N 81 36 ≠ 0 → Bt M1 tl N ∧ M1 22 2 ≠ 0) → post r1 M1 tl) : wpX4_takeNameOf post M tl i := by
  unfold wpX4_takeNameOf
  refine u_tok2 hI (fun M1 i1 f1 s1 b1 g1 => ?_)
  refine ifs (fun c => ?_) (fun c => hp _ M1 i1 f1 s1 (fun z => absurd z c) (fun _ => ⟨rfl, fun N h => ⟨(g1 N h).2.1, Or.inl (md_f0 (g1 N h) c)⟩⟩) (fun N h q => ⟨(md_bad (g1 N h) c).2, c⟩))
  have m0 : M 22 2 = 0 := by
    by_cases z : M 22 2 = 0
    · exact z
    · rw [s1 z] at c; exact absurd c z
  have nb : ∀ (N : MM), Bt M tl N → ¬ N 81 36 ≠ 0 := fun N h q => q (md_ok (g1 N h) c).1.1
  refine hne i1 (b1 c) (fun r hr => ?_)
  rcases hr with ⟨e, hn⟩ | ⟨j, hj, e, hw⟩
  · refine ifn (by rw [e]; decide) ?_
    unfold wpX4_fail
    intro W0 e0 W eW
    subst e0
    have w2 : W 22 2 = 2 := by rw [eW, mset_nk (by decide)]; exact mset_at _ _ _ _
    have w3 : W 22 3 = M1 22 7 := by rw [eW]; exact mset_at _ _ _ _
    have fW : TkF M W := by rw [eW]; exact tkf_set (tkf_set f1 (by decide)) (by decide)
    refine hp _ W (by rw [eW]; exact inv_set (inv_set i1 (i_any _)) (i_any _)) fW (fun z => absurd m0 z) (fun z => absurd (w2.symm.trans z) (by decide)) (fun _ => ⟨rfl, fun N h => ?_⟩) (fun N h q => absurd q (nb N h))
    have m := g1 N h
    have t := (md_ok m c).1
    refine ⟨tp_tk fW h.2.1, Or.inr ⟨t.1, w2, by rw [w3]; exact t.2.1, ?_⟩⟩
    by_cases y : N 81 34 = 1
    · exact Or.inr (fun j hj z => hn j hj ((isw_rw m.2.1 t).mpr ⟨y, z⟩))
    · exact Or.inl y
  · refine ifp (by rw [e]; exact nJ_ge0 (by omega)) ?_
    refine hp _ M1 i1 f1 (fun z => absurd m0 z) (fun _ => ⟨m0, j, hj, e, fun N h => ⟨g1 N h, ?_⟩⟩) (fun z => absurd c z) (fun N h q => absurd q (nb N h))
    have m := g1 N h
    exact (isw_rw m.2.1 (md_ok m c).1).mp hw
/-! the reference's kinds -/
theorem rk_found {post : Int32 → MM → Int64 → Prop} {N : MM} {u : Int64} {but : Int32} {j : Nat} (hI : Inv N) (h0 : N 81 36 = 0) (h1 : N 81 34 = 1) (hj : j < 5) (hw : RW N (ws1.getD j [])) (hp : wX11_readKind_37 post N u but (nI (j + 1)) 1) : wpX11_readKind post N u but := by
  unfold wpX11_readKind
  refine ifp h0 (ifp h1 (kn_r hI (fun r hr => ?_)))
  rcases hr with ⟨_, z⟩ | ⟨k, hk, e, z⟩
  · exact absurd hw (z j hj)
  · have ek := ws1_d k hk j hj (ws_un (by decide) hk hj z hw)
    subst ek
    unfold wX11_readKind_24
    rw [e]
    refine ifn ?_ hp
    intro q
    have := nJ_ge0 (i := k + 1) (by omega)
    rw [q] at this
    exact absurd this (by decide)
theorem rk_none {post : Int32 → MM → Int64 → Prop} {N : MM} {u : Int64} {but : Int32} (hI : Inv N) (h0 : N 81 36 = 0) (h1 : N 81 34 ≠ 1 ∨ ∀ j, j < 5 → ¬ RW N (ws1.getD j [])) (hp : ∀ N1 : MM, N1 = mset (mset N 81 36 2) 81 37 (N 81 33) → post 0 N1 u) : wpX11_readKind post N u but := by
  have key : wX11_readKind_24 post N u but (-4) := by
    unfold wX11_readKind_24
    refine ifp rfl ?_
    unfold wX11_readKind_37
    refine nd_0 h0 (fun N1 e => ifp rfl ?_)
    unfold wX11_readKind_56 wX11_readKind_61
    refine nd_1 (by decide) (rf_next (fl_in hI (by decide) e).1 ?_ (ifp rfl (hp N1 e)))
    rw [e, mset_nk (by decide), mset_at]; decide
  unfold wpX11_readKind
  refine ifp h0 (ifs (fun c => ?_) (fun c => by unfold wX11_readKind_22; exact key))
  refine kn_r hI (fun r hr => ?_)
  rcases hr with ⟨e, _⟩ | ⟨k, hk, e, z⟩
  · rw [e]; exact key
  · exact absurd z ((h1.resolve_left (fun y => y c)) k hk)
/-- the rest of readKind where nothing bars the kind -/
theorem rk_pass {post : Int32 → MM → Int64 → Prop} {M N : MM} {tl u : Int64} {but : Int32} {k : Nat} (hk : k < 6) (h : Md M tl N) (hb : bI but k = false) (hp : ∀ N1 : MM, NxF N N1 → Bt M tl N1 → post (nI k) N1 u) : wX11_readKind_37 post N u but (nI k) 1 := by
  have k0 : nI k ≠ -4 := fun q => by
    have := nJ_ge0 (i := k) (by omega)
    rw [q] at this
    exact absurd this (by decide)
  unfold wX11_readKind_37
  refine nd_1 (by decide) (ifn k0 (ifp ((bI_test but (by omega)).mpr hb) ?_))
  unfold wX11_readKind_56 wX11_readKind_61
  exact nd_1 (by decide) (u_next h (fun N1 f1 h1 => ifn k0 (hp N1 f1 h1)))
theorem rk_twice {post : Int32 → MM → Int64 → Prop} {N : MM} {u : Int64} {but : Int32} {k : Nat} (hI : Inv N) (h0 : N 81 36 = 0) (hk : k < 6) (hb : bI but k = true) (hp : ∀ N1 : MM, N1 = mset (mset N 81 36 4) 81 37 (N 81 33) → post (nI k) N1 u) : wX11_readKind_37 post N u but (nI k) 1 := by
  have k0 : nI k ≠ -4 := fun q => by
    have := nJ_ge0 (i := k) (by omega)
    rw [q] at this
    exact absurd this (by decide)
  unfold wX11_readKind_37
  refine nd_1 (by decide) (ifn k0 (ifn (fun z => by rw [bI_test but (by omega), hb] at z; exact Bool.noConfusion z) ?_))
  unfold wX11_readKind_61
  refine nd_0 h0 (fun N1 e => rf_next (fl_in hI (by decide) e).1 ?_ (ifn k0 (hp N1 e)))
  rw [e, mset_nk (by decide), mset_at]; decide
/-! S -/
theorem u_tokS {post : MM → Int64 → Prop} {M : MM} {tl : Int64} (ts : Int64) (hI : Inv M) (hp : ∀ M1 : MM, Inv M1 → TkF M M1 → (M 22 2 ≠ 0 → M1 = M) → (M1 22 2 = 0 → 0 ≤ M1 22 7 ∧ M1 22 7 ≤ 400) → (∀ N, Bt M ts N → Md M1 ts N) → post M1 tl) : wpX4_takeToken post M tl := by
  by_cases hf : M 22 2 = 0
  · refine lx_takeToken hI hf (fun M1 i1 f1 l1 => hp M1 i1 f1 (fun q => absurd hf q) (fun _ => by have b6 := iv_22_6 hI; have := l1.2.1; clear l1; lia) (fun N h => ?_))
    obtain ⟨iN, tp, h⟩ := h
    rcases h with ⟨_, l2, d⟩ | z
    · have b6 := iv_22_6 hI
      obtain ⟨u1, u2, u3, u4⟩ := lx_un b6.1 l1 l2
      refine ⟨iN, tp_tk f1 tp, ?_⟩
      by_cases q : M1 22 2 = 0
      · obtain ⟨v1, v2, v3⟩ := u3 q
        exact Or.inl ⟨q, ⟨by rw [← u2]; exact q, u1, v1, v2, v3, by have := l1.2.1; clear u1 u3 u4 l1 l2; lia⟩, d_tk f1 (d (by rw [← u2]; exact q))⟩
      · exact Or.inr ⟨q, u2.symm, (u4 q).symm⟩
    · exact absurd hf z.1
  · unfold wpX4_takeToken
    exact ifn hf (hp M hI fr_rfl (fun _ => rfl) (fun q => absurd q hf) (fun N h => ⟨h.1, h.2.1, Or.inr (bt_f0 h hf)⟩))
theorem u_namS (i : Nat) (ws : List (List Nat)) (hne : ∀ {post : Int32 → MM → Int64 → Prop} {M : MM} {tl : Int64}, Inv M → (0 ≤ M 22 7 ∧ M 22 7 ≤ 400) → (∀ r : Int32, NQ M ws r → post r M tl) → wpX4_nameAmong post M tl i) (hlen : ws.length < 100) {post : Int32 → MM → Int64 → Prop} {M : MM} {tl : Int64} (ts : Int64) (hI : Inv M) (hp : ∀ (r1 : Int32) (M1 : MM), Inv M1 → TkF M M1 → (M 22 2 ≠ 0 → M1 = M) → (M1 22 2 = 0 → M 22 2 = 0 ∧ ∃ j, j < ws.length ∧ r1 = nI j ∧ ∀ N, Bt M ts N → Md M1 ts N ∧ N 81 34 = 1 ∧ RW N (ws.getD j [])) → (M1 22 2 ≠ 0 → r1 = -1 ∧ ∀ N, Bt M ts N → Tp M1 N ∧ (Bad M1 N ∨ (N 81 36 = 0 ∧ M1 22 2 = 2 ∧ M1 22 3 = N 81 33 ∧ (N 81 34 ≠ 1 ∨ ∀ j, j < ws.length → ¬ RW N (ws.getD j []))))) → (∀ (N : MM), Bt M ts N → N 81 36 ≠ 0 → Bt M1 ts N ∧ M1 22 2 ≠ 0) → post r1 M1 tl) : wpX4_takeNameOf post M tl i := by
  unfold wpX4_takeNameOf
  refine u_tokS ts hI (fun M1 i1 f1 s1 b1 g1 => ?_)
  refine ifs (fun c => ?_) (fun c => hp _ M1 i1 f1 s1 (fun z => absurd z c) (fun _ => ⟨rfl, fun N h => ⟨(g1 N h).2.1, Or.inl (md_f0 (g1 N h) c)⟩⟩) (fun N h q => ⟨(md_bad (g1 N h) c).2, c⟩))
  have m0 : M 22 2 = 0 := by
    by_cases z : M 22 2 = 0
    · exact z
    · rw [s1 z] at c; exact absurd c z
  have nb : ∀ (N : MM), Bt M ts N → ¬ N 81 36 ≠ 0 := fun N h q => q (md_ok (g1 N h) c).1.1
  refine hne i1 (b1 c) (fun r hr => ?_)
  rcases hr with ⟨e, hn⟩ | ⟨j, hj, e, hw⟩
  · refine ifn (by rw [e]; decide) ?_
    unfold wpX4_fail
    intro W0 e0 W eW
    subst e0
    have w2 : W 22 2 = 2 := by rw [eW, mset_nk (by decide)]; exact mset_at _ _ _ _
    have w3 : W 22 3 = M1 22 7 := by rw [eW]; exact mset_at _ _ _ _
    have fW : TkF M W := by rw [eW]; exact tkf_set (tkf_set f1 (by decide)) (by decide)
    refine hp _ W (by rw [eW]; exact inv_set (inv_set i1 (i_any _)) (i_any _)) fW (fun z => absurd m0 z) (fun z => absurd (w2.symm.trans z) (by decide)) (fun _ => ⟨rfl, fun N h => ?_⟩) (fun N h q => absurd q (nb N h))
    have m := g1 N h
    have t := (md_ok m c).1
    refine ⟨tp_tk fW h.2.1, Or.inr ⟨t.1, w2, by rw [w3]; exact t.2.1, ?_⟩⟩
    by_cases y : N 81 34 = 1
    · exact Or.inr (fun j hj z => hn j hj ((isw_rw m.2.1 t).mpr ⟨y, z⟩))
    · exact Or.inl y
  · refine ifp (by rw [e]; exact nJ_ge0 (by omega)) ?_
    refine hp _ M1 i1 f1 (fun z => absurd m0 z) (fun _ => ⟨m0, j, hj, e, fun N h => ⟨g1 N h, ?_⟩⟩) (fun z => absurd c z) (fun N h q => absurd q (nb N h))
    have m := g1 N h
    exact (isw_rw m.2.1 (md_ok m c).1).mp hw
theorem u_numS {post : Int32 → MM → Int64 → Prop} {M : MM} {tl : Int64} (ts : Int64) {lo hi : Int32} (hI : Inv M) (hp : ∀ (r1 : Int32) (M1 : MM), Inv M1 → TkF M M1 → (M 22 2 ≠ 0 → M1 = M) → (M1 22 2 = 0 → M 22 2 = 0 ∧ lo ≤ r1 ∧ r1 ≤ hi) → (M1 22 2 ≠ 0 → r1 = -1) → (∀ (N : MM), Bt M ts N → N 81 36 ≠ 0 → Md M1 ts N ∧ M1 22 2 ≠ 0) → (∀ (N : MM) (u : Int64) (post2 : Int32 → MM → Int64 → Prop), Bt M ts N → (∀ (r2 : Int32) (N1 : MM), NxF N N1 → Md M1 ts N1 → (M1 22 2 = 0 → r2 = r1) → (M1 22 2 ≠ 0 → r2 = 0) → post2 r2 N1 u) → wpX11_looked post2 N u lo hi) → post r1 M1 tl) : wpX4_takeNumber post M tl lo hi := by
  unfold wpX4_takeNumber
  refine u_tokS ts hI (fun M1 i1 f1 s1 _ g1 => ?_)
  have nb : ∀ (N : MM), Bt M ts N → N 81 36 ≠ 0 → M1 22 2 ≠ 0 := fun N h q z => by
    have := md_ok (g1 N h) z
    exact q this.1.1
  refine ifs (fun c => ?_) (fun c => ?_)
  · have m0 : M 22 2 = 0 := by
      by_cases z : M 22 2 = 0
      · exact z
      · rw [s1 z] at c; exact absurd c z
    have fl : ∀ k : Int32, (k = 2 ∨ k = 3) → ∀ W : MM, W = mset (mset M1 22 2 k) 22 3 (M1 22 7) → (∀ (N : MM) (u : Int64) (post2 : Int32 → MM → Int64 → Prop), Bt M ts N → (∀ (r2 : Int32) (N1 : MM), NxF N N1 → Md W ts N1 → (W 22 2 = 0 → r2 = -1) → (W 22 2 ≠ 0 → r2 = 0) → post2 r2 N1 u) → wpX11_looked post2 N u lo hi) → post (-1) W tl := by
      intro k hk W e hr
      have w2 : W 22 2 = k := by rw [e, mset_nk (by decide)]; exact mset_at _ _ _ _
      have kz : k ≠ 0 := by lia
      refine hp (-1) W (by rw [e]; exact inv_set (inv_set i1 (i_any _)) (i_any _)) (by rw [e]; exact tkf_set (tkf_set f1 (by decide)) (by decide)) (fun z => absurd m0 z) (fun z => absurd (w2.symm.trans z) kz) (fun _ => rfl) (fun N h q => ?_) hr
      exact absurd c (nb N h q)
    have bd : ∀ (k : Int32) (W : MM), W = mset (mset M1 22 2 k) 22 3 (M1 22 7) → k ≠ 0 → ∀ (N N1 : MM), Inv N1 → Tp M1 N → M1 22 7 = N 81 33 → NxF N N1 → N1 = mset (mset N 81 36 k) 81 37 (N 81 33) → Md W ts N1 := by
      intro k W e kz N N1 iN1 tp t1 fN eN
      have w2 : W 22 2 = k := by rw [e, mset_nk (by decide)]; exact mset_at _ _ _ _
      have w3 : W 22 3 = M1 22 7 := by rw [e]; exact mset_at _ _ _ _
      refine ⟨iN1, tp_nx fN (tp_eq tp (by rw [e, mset_ne (by decide), mset_ne (by decide)]) (by rw [e, mset_ne (by decide), mset_ne (by decide)]) rfl rfl), Or.inr ⟨by rw [w2]; exact kz, ?_, ?_⟩⟩
      · rw [w2, eN, mset_nk (by decide)]; exact mset_at _ _ _ _
      · rw [w3, t1, eN]; exact mset_at _ _ _ _
    refine ifs (fun c2 => ?_) (fun c2 => ?_)
    · have bad3 : (M1 22 9 < lo ∨ hi < M1 22 9) → wX4_takeNumber_47 post M1 tl := by
        intro hb
        unfold wX4_takeNumber_47 wpX4_fail
        intro W0 e0 W e
        subst e0
        refine fl 3 (Or.inr rfl) W e (fun N u post2 h k2 => ?_)
        have m := g1 N h
        obtain ⟨⟨t0, t1, t2, t3, t4, t5⟩, d⟩ := md_ok m c
        have t4 := t4 c2
        unfold wpX11_looked
        refine ifp t0 (ifp (by rw [← t3]; exact c2) ?_)
        unfold wX11_looked_21
        refine nd_1 (by decide) ?_
        unfold wX11_looked_25
        refine ifp t0 ?_
        refine m_in (v := N 81 35) (lo := lo) (hi := hi) rfl rfl rfl (fun a b => ?_) (fun a => ?_)
        · rw [← t4] at a b; exact absurd hb (by clear k2 g1; lia)
        · refine nd_0 t0 (fun N1 eN => ?_)
          have n6 : N1 81 36 ≠ 0 := by rw [eN, mset_nk (by decide), mset_at]; decide
          unfold wX11_looked_49
          refine ifn n6 ?_
          have fN : NxF N N1 := by rw [eN]; exact nxf_set (nxf_set fr_rfl (by decide)) (by decide)
          have iN : Inv N1 := by rw [eN]; exact inv_set (inv_set m.1 (show 0 ≤ (3 : Int32) ∧ (3 : Int32) ≤ 6 by decide)) (i_any _)
          have w2 : W 22 2 = 3 := by rw [e, mset_nk (by decide)]; exact mset_at _ _ _ _
          exact k2 0 N1 fN (bd 3 W e (by decide) N N1 iN m.2.1 t1 fN eN) (fun z => absurd (w2.symm.trans z) (by decide)) (fun _ => rfl)
      refine ifs (fun c3 => bad3 (Or.inl c3)) (fun c3 => ifs (fun c4 => ?_) (fun c4 => bad3 (Or.inr (by clear g1 nb fl bd; lia))))
      refine hp _ M1 i1 f1 (fun z => absurd m0 z) (fun _ => ⟨m0, by clear g1 nb fl bd; lia, c4⟩) (fun z => absurd c z) (fun N h q => absurd c (nb N h q)) (fun N u post2 h k2 => ?_)
      have m := g1 N h
      obtain ⟨⟨t0, t1, t2, t3, t4, t5⟩, d⟩ := md_ok m c
      have t4 := t4 c2
      unfold wpX11_looked
      refine ifp t0 (ifp (by rw [← t3]; exact c2) ?_)
      unfold wX11_looked_21
      refine nd_1 (by decide) ?_
      unfold wX11_looked_25
      refine ifp t0 ?_
      refine m_in (v := N 81 35) (lo := lo) (hi := hi) rfl rfl rfl (fun a b => ?_) (fun a => ?_)
      · refine nd_1 (by decide) ?_
        unfold wX11_looked_49
        exact ifp t0 (k2 _ N fr_rfl m (fun _ => t4.symm) (fun z => absurd c z))
      · rw [← t4] at a; exact absurd a (by clear g1 nb fl bd k2; lia)
    · unfold wpX4_fail
      intro W0 e0 W e
      subst e0
      refine fl 2 (Or.inl rfl) W e (fun N u post2 h k2 => ?_)
      have m := g1 N h
      obtain ⟨⟨t0, t1, t2, t3, t4, t5⟩, d⟩ := md_ok m c
      unfold wpX11_looked
      refine ifp t0 (ifn (by rw [← t3]; exact c2) ?_)
      unfold wX11_looked_21
      refine nd_0 t0 (fun N1 eN => ?_)
      have n6 : N1 81 36 ≠ 0 := by rw [eN, mset_nk (by decide), mset_at]; decide
      unfold wX11_looked_25 wX11_looked_49
      refine ifn n6 (ifn n6 ?_)
      have fN : NxF N N1 := by rw [eN]; exact nxf_set (nxf_set fr_rfl (by decide)) (by decide)
      have iN : Inv N1 := by rw [eN]; exact inv_set (inv_set m.1 (show 0 ≤ (2 : Int32) ∧ (2 : Int32) ≤ 6 by decide)) (i_any _)
      have w2 : W 22 2 = 2 := by rw [e, mset_nk (by decide)]; exact mset_at _ _ _ _
      exact k2 0 N1 fN (bd 2 W e (by decide) N N1 iN m.2.1 t1 fN eN) (fun z => absurd (w2.symm.trans z) (by decide)) (fun _ => rfl)
  · refine hp _ M1 i1 f1 s1 (fun z => absurd z c) (fun _ => rfl) (fun N h q => ⟨g1 N h, c⟩) (fun N u post2 h k2 => ?_)
    have m := g1 N h
    have z := md_f0 m c
    refine rf_looked (by rw [z.2.1]; exact z.1) (k2 0 N fr_rfl m (fun y => absurd y c) (fun _ => rfl))

theorem dt_lin {tl : Int64} {N : MM} {k : Nat} (hk : k < 4) (h : DT tl N) : DT (tl ||| ((1 : Int64) <<< ((nI (0 + k)).toInt64 &&& 63))) (mset N 81 23 (N 81 23 ||| ((1 : Int32) <<< (nI (10 + k) &&& 31)))) := by
  obtain ⟨h1, h2, h3, h4, h5, h6⟩ := h
  refine ⟨?_, ?_, ?_, ?_, ?_, ?_⟩
  · intro i hv
    rw [mset_at, bL_or _ (by omega) (by omega), bI_or _ (by omega) (by omega), h1 i hv]
    congr 1
    exact decide_eq_decide.mpr (by omega)
  · intro b hv
    rw [mset_nk (by decide), bL_or _ (by omega) (by omega), h2 b hv, decide_eq_false (by omega), Bool.or_false]
  · intro b hv
    rw [mset_nk (by decide), bL_or _ (by omega) (by omega), h3 b hv, decide_eq_false (by omega), Bool.or_false]
  · intro k hv
    rw [mset_nk (by decide), bL_or _ (by omega) (by omega), h4 k hv, decide_eq_false (by omega), Bool.or_false]
  · intro c hv
    rw [mset_nk (by decide), bL_or _ (by omega) (by omega), h5 c hv, decide_eq_false (by omega), Bool.or_false]
  · intro s hv
    rw [mset_nk (by decide), bL_or _ (by omega) (by omega), h6 s hv, decide_eq_false (by omega), Bool.or_false]
theorem dt_cos {tl : Int64} {N : MM} {k : Nat} (hk : k < 2) (h : DT tl N) : DT (tl ||| ((1 : Int64) <<< ((nI (4 + k)).toInt64 &&& 63))) (mset N 81 25 (N 81 25 ||| ((1 : Int32) <<< (nI (0 + k) &&& 31)))) := by
  obtain ⟨h1, h2, h3, h4, h5, h6⟩ := h
  refine ⟨?_, ?_, ?_, ?_, ?_, ?_⟩
  · intro i hv
    rw [mset_nk (by decide), bL_or _ (by omega) (by omega), h1 i hv, decide_eq_false (by omega), Bool.or_false]
  · intro b hv
    rw [mset_at, bL_or _ (by omega) (by omega), bI_or _ (by omega) (by omega), h2 b hv]
    congr 1
    exact decide_eq_decide.mpr (by omega)
  · intro b hv
    rw [mset_nk (by decide), bL_or _ (by omega) (by omega), h3 b hv, decide_eq_false (by omega), Bool.or_false]
  · intro k hv
    rw [mset_nk (by decide), bL_or _ (by omega) (by omega), h4 k hv, decide_eq_false (by omega), Bool.or_false]
  · intro c hv
    rw [mset_nk (by decide), bL_or _ (by omega) (by omega), h5 c hv, decide_eq_false (by omega), Bool.or_false]
  · intro s hv
    rw [mset_nk (by decide), bL_or _ (by omega) (by omega), h6 s hv, decide_eq_false (by omega), Bool.or_false]
theorem dt_tas {tl : Int64} {N : MM} {k : Nat} (hk : k < 2) (h : DT tl N) : DT (tl ||| ((1 : Int64) <<< ((nI (6 + k)).toInt64 &&& 63))) (mset N 81 26 (N 81 26 ||| ((1 : Int32) <<< (nI (0 + k) &&& 31)))) := by
  obtain ⟨h1, h2, h3, h4, h5, h6⟩ := h
  refine ⟨?_, ?_, ?_, ?_, ?_, ?_⟩
  · intro i hv
    rw [mset_nk (by decide), bL_or _ (by omega) (by omega), h1 i hv, decide_eq_false (by omega), Bool.or_false]
  · intro b hv
    rw [mset_nk (by decide), bL_or _ (by omega) (by omega), h2 b hv, decide_eq_false (by omega), Bool.or_false]
  · intro b hv
    rw [mset_at, bL_or _ (by omega) (by omega), bI_or _ (by omega) (by omega), h3 b hv]
    congr 1
    exact decide_eq_decide.mpr (by omega)
  · intro k hv
    rw [mset_nk (by decide), bL_or _ (by omega) (by omega), h4 k hv, decide_eq_false (by omega), Bool.or_false]
  · intro c hv
    rw [mset_nk (by decide), bL_or _ (by omega) (by omega), h5 c hv, decide_eq_false (by omega), Bool.or_false]
  · intro s hv
    rw [mset_nk (by decide), bL_or _ (by omega) (by omega), h6 s hv, decide_eq_false (by omega), Bool.or_false]
theorem dt_kin {tl : Int64} {N : MM} {k : Nat} (hk : k < 6) (h : DT tl N) : DT (tl ||| ((1 : Int64) <<< ((nI (8 + k)).toInt64 &&& 63))) (mset N 81 27 (N 81 27 ||| ((1 : Int32) <<< (nI (0 + k) &&& 31)))) := by
  obtain ⟨h1, h2, h3, h4, h5, h6⟩ := h
  refine ⟨?_, ?_, ?_, ?_, ?_, ?_⟩
  · intro i hv
    rw [mset_nk (by decide), bL_or _ (by omega) (by omega), h1 i hv, decide_eq_false (by omega), Bool.or_false]
  · intro b hv
    rw [mset_nk (by decide), bL_or _ (by omega) (by omega), h2 b hv, decide_eq_false (by omega), Bool.or_false]
  · intro b hv
    rw [mset_nk (by decide), bL_or _ (by omega) (by omega), h3 b hv, decide_eq_false (by omega), Bool.or_false]
  · intro k hv
    rw [mset_at, bL_or _ (by omega) (by omega), bI_or _ (by omega) (by omega), h4 k hv]
    congr 1
    exact decide_eq_decide.mpr (by omega)
  · intro c hv
    rw [mset_nk (by decide), bL_or _ (by omega) (by omega), h5 c hv, decide_eq_false (by omega), Bool.or_false]
  · intro s hv
    rw [mset_nk (by decide), bL_or _ (by omega) (by omega), h6 s hv, decide_eq_false (by omega), Bool.or_false]
theorem dt_col {tl : Int64} {N : MM} {k : Nat} (hk : k < 4) (h : DT tl N) : DT (tl ||| ((1 : Int64) <<< ((nI (14 + k)).toInt64 &&& 63))) (mset N 81 28 (N 81 28 ||| ((1 : Int32) <<< (nI (0 + k) &&& 31)))) := by
  obtain ⟨h1, h2, h3, h4, h5, h6⟩ := h
  refine ⟨?_, ?_, ?_, ?_, ?_, ?_⟩
  · intro i hv
    rw [mset_nk (by decide), bL_or _ (by omega) (by omega), h1 i hv, decide_eq_false (by omega), Bool.or_false]
  · intro b hv
    rw [mset_nk (by decide), bL_or _ (by omega) (by omega), h2 b hv, decide_eq_false (by omega), Bool.or_false]
  · intro b hv
    rw [mset_nk (by decide), bL_or _ (by omega) (by omega), h3 b hv, decide_eq_false (by omega), Bool.or_false]
  · intro k hv
    rw [mset_nk (by decide), bL_or _ (by omega) (by omega), h4 k hv, decide_eq_false (by omega), Bool.or_false]
  · intro c hv
    rw [mset_at, bL_or _ (by omega) (by omega), bI_or _ (by omega) (by omega), h5 c hv]
    congr 1
    exact decide_eq_decide.mpr (by omega)
  · intro s hv
    rw [mset_nk (by decide), bL_or _ (by omega) (by omega), h6 s hv, decide_eq_false (by omega), Bool.or_false]
theorem dt_thg {tl : Int64} {N : MM} {k : Nat} (hk : k < 16) (h : DT tl N) : DT (tl ||| ((1 : Int64) <<< ((nI (18 + k)).toInt64 &&& 63))) (mset N 81 24 (N 81 24 ||| ((1 : Int32) <<< (nI (0 + k) &&& 31)))) := by
  obtain ⟨h1, h2, h3, h4, h5, h6⟩ := h
  refine ⟨?_, ?_, ?_, ?_, ?_, ?_⟩
  · intro i hv
    rw [mset_nk (by decide), bL_or _ (by omega) (by omega), h1 i hv, decide_eq_false (by omega), Bool.or_false]
  · intro b hv
    rw [mset_nk (by decide), bL_or _ (by omega) (by omega), h2 b hv, decide_eq_false (by omega), Bool.or_false]
  · intro b hv
    rw [mset_nk (by decide), bL_or _ (by omega) (by omega), h3 b hv, decide_eq_false (by omega), Bool.or_false]
  · intro k hv
    rw [mset_nk (by decide), bL_or _ (by omega) (by omega), h4 k hv, decide_eq_false (by omega), Bool.or_false]
  · intro c hv
    rw [mset_nk (by decide), bL_or _ (by omega) (by omega), h5 c hv, decide_eq_false (by omega), Bool.or_false]
  · intro s hv
    rw [mset_at, bL_or _ (by omega) (by omega), bI_or _ (by omega) (by omega), h6 s hv]
    congr 1
    exact decide_eq_decide.mpr (by omega)

