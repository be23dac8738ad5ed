/-! LINES lack and right -/
theorem tn_f {post : Int32 → MM → Int64 → Prop} {M : MM} {tl : Int64} {i : Nat} (hf : M 22 2 ≠ 0) (hp : post (-1) M tl) : wpX4_takeNameOf post M tl i := by
  unfold wpX4_takeNameOf wpX4_takeToken
  exact ifn hf (ifn hf hp)
theorem tnum_f {post : Int32 → MM → Int64 → Prop} {M : MM} {tl : Int64} {lo hi : Int32} (hf : M 22 2 ≠ 0) (hp : post (-1) M tl) : wpX4_takeNumber post M tl lo hi := by
  unfold wpX4_takeNumber wpX4_takeToken
  exact ifn hf (ifn hf hp)
theorem rk_bad {post : Int32 → MM → Int64 → Prop} {M2 N1 : MM} {u : Int64} {but : Int32} (iN : Inv N1) (tp : Tp M2 N1) (h : Bad M2 N1 ∨ (N1 81 36 = 0 ∧ M2 22 2 = 2 ∧ M2 22 3 = N1 81 33 ∧ (N1 81 34 ≠ 1 ∨ ∀ j, j < ws1.length → ¬ RW N1 (ws1.getD j [])))) (hp : ∀ N2 : MM, Inv N2 → NxF N1 N2 → Tp M2 N2 → Bad M2 N2 → post 0 N2 u) : wpX11_readKind post N1 u but := by
  rcases h with h | ⟨h0, h1, h2, h3⟩
  · exact rf_readKind iN (bad_n h) (hp N1 iN fr_rfl tp h)
  · refine rk_none iN h0 h3 (fun N2 e => ?_)
    have x := fl_in iN (by decide) e
    refine hp N2 x.1 x.2 (tp_nx x.2 tp) ⟨by rw [h1]; decide, ?_, ?_⟩
    · rw [h1, e, mset_nk (by decide), mset_at]
    · rw [h2, e, mset_at]
theorem d_right {M N : MM} {tl : Int64} {x : Int32} (h : D M tl N) : D (mset M 23 3 (M 23 3 ||| x)) tl (mset N 81 22 (N 81 22 ||| x)) := by
  obtain ⟨⟨⟨s0, s1, s2, s3⟩, l2, l3, l4, l5, l6, l7, l8⟩, hi, hs, ht, hh⟩ := h
  refine ⟨⟨⟨by rw [mset_nk (by decide), mset_nk (by decide)]; exact s0, by rw [mset_nk (by decide), mset_nk (by decide)]; exact s1, by rw [mset_nk (by decide), mset_nk (by decide)]; exact s2, by rw [mset_at, mset_at, s3]⟩, ?_⟩, dinv_eq hi (mset_ne (by decide)) (mset_ne (by decide)) (mset_nk (by decide)), dscn_eq hs (mset_ne (by decide)) (mset_ne (by decide)) (mset_ne (by decide)) (mset_ne (by decide)), dt_eq ht (fun j h1 h2 => mset_nk (by omega)), dh_eq hh (mset_ne (by decide)) (mset_ne (by decide)) (mset_nk (by decide))⟩
  rw [mset_ne (i := 24) (by decide), mset_ne (i := 26) (by decide), mset_ne (i := 27) (by decide), mset_ne (i := 29) (by decide), mset_ne (i := 30) (by decide), mset_ne (i := 31) (by decide), mset_ne (i := 32) (by decide), mset_ne (i := 33) (by decide), mset_ne (i := 91) (by decide), mset_ne (i := 92) (by decide), mset_ne (i := 93) (by decide), mset_ne (i := 94) (by decide), mset_ne (i := 95) (by decide), mset_ne (i := 96) (by decide)]
  exact ⟨l2, l3, l4, l5, l6, l7, l8⟩
theorem d_lack {M N : MM} {tl : Int64} {b k : Nat} (hb : b < 2) (h1 : 1 ≤ k) (h6 : k < 6) (h : D M tl N) : D (mset M 31 b (M 31 b ||| ((1 : Int32) <<< (nI k &&& 31)))) tl (mset N 94 b (N 94 b ||| ((1 : Int32) <<< (nI k &&& 31)))) := by
  obtain ⟨⟨s, l2, l3, l4, l5, l6, l7, l8⟩, ⟨v1, v2, v3, v4⟩, hs, ht, hh⟩ := h
  have bz : ∀ x : Int32, bI x 0 = false → bI (x ||| ((1 : Int32) <<< (nI k &&& 31))) 0 = false := fun x hx => by
    rw [bI_or x (by omega) (by omega), hx, decide_eq_false (by omega)]; rfl
  refine ⟨⟨?_, ?_, ?_, ?_, ?_, ?_, ?_, ?_⟩, ⟨?_, ?_, ?_, ?_⟩, dscn_eq hs (mset_ne (by decide)) (mset_ne (by decide)) (mset_ne (by decide)) (mset_ne (by decide)), dt_eq ht (fun j h1 h2 => by rw [mset_ne (by decide)]), dh_eq hh (mset_ne (by decide)) (mset_ne (by decide)) (by rw [mset_ne (by decide)])⟩
  · rw [mset_ne (i := 23) (by decide), mset_ne (i := 81) (by decide)]; exact s
  · rw [mset_ne (i := 24) (by decide), mset_ne (i := 91) (by decide)]; exact l2
  · rw [mset_ne (i := 26) (by decide), mset_ne (i := 27) (by decide), mset_ne (i := 92) (by decide)]; exact l3
  · rw [mset_ne (i := 29) (by decide), mset_ne (i := 30) (by decide), mset_ne (i := 93) (by decide)]; exact l4
  · rw [mset_ne (i := 93) (by decide)]; exact l5
  · rcases (by omega : b = 0 ∨ b = 1) with z | z <;> subst z
    · rw [mset_at, mset_at, mset_nk (by decide), mset_nk (by decide), l6.1]; exact ⟨rfl, l6.2⟩
    · rw [mset_at, mset_at, mset_nk (by decide), mset_nk (by decide), l6.2]; exact ⟨l6.1, rfl⟩
  · rw [mset_ne (i := 32) (by decide), mset_ne (i := 95) (by decide)]; exact l7
  · rw [mset_ne (i := 33) (by decide), mset_ne (i := 96) (by decide)]; exact l8
  · rcases (by omega : b = 0 ∨ b = 1) with z | z <;> subst z
    · rw [mset_at, mset_nk (by decide)]; exact ⟨bz _ v1.1, v1.2⟩
    · rw [mset_at, mset_nk (by decide)]; exact ⟨v1.1, bz _ v1.2⟩
  · rw [mset_ne (i := 95) (by decide)]; exact v2
  · rw [mset_ne (i := 95) (by decide)]; exact v3
  · rw [mset_ne (i := 95) (by decide), mset_ne (i := 81) (by decide)]; exact v4
theorem ne_1' : ∀ {post : Int32 → MM → Int64 → Prop} {M : MM} {tl : Int64}, Inv M → (0 ≤ M 22 7 ∧ M 22 7 ≤ 400) → (∀ r : Int32, NQ M ws1 r → post r M tl) → wpX4_nameAmong post M tl 1 := fun h1 h2 h3 => ne_1 h1 h2 h3
theorem ln_right {post : MM → Int64 → Prop} {M : MM} {tl : Int64} (hI : Inv M) (hp : ∀ (M1 : MM) (t1 : Int64), LC (fun p N u => wpX11_readLineOf p N u 19) M tl M1 t1 → post M1 t1) : wpX4_readRight post M tl := by
  unfold wpX4_readRight
  refine u_namS 1 ws1 ne_1' (by decide) tl hI (fun r1 M1 i1 f1 s1 a1 b1 n1 => ?_)
  have opn : ∀ {post2 : MM → Int64 → Prop} {N : MM} {u : Int64}, wpX11_readKind (fun r12 M10 t11 => (∀ M13 : MM, M13 = mset M10 81 22 ((N 81 22) ||| ((1 : Int32) <<< (r12 &&& 31))) → post2 M13 t11)) N u 0 → wpX11_readLineOf post2 N u 19 := by
    intro post2 N u h
    unfold wpX11_readLineOf
    refine ifn (by decide) (ifn (by decide) (ifn (by decide) (ifn (by decide) (ifn (by decide) (ifn (by decide) (ifn (by decide) (ifn (by decide) (ifn (by decide) (ifp rfl ?_)))))))))
    unfold wpX11_readLaw
    exact ifn (by decide) (ifn (by decide) (ifp rfl h))
  refine ifs (fun q => ?_) (fun q => ?_)
  · obtain ⟨q0, j, hj, ej, gN⟩ := a1 q
    have hj : j < 5 := hj
    subst ej
    rw [nI_s1]
    intro W e
    have c22 : W 22 = M1 22 := by rw [e]; exact mset_ne (by decide)
    refine hp W tl ⟨by rw [e]; exact inv_set i1 (i_any _), by rw [e]; exact fr_fld (cf_tk fr_rfl f1) (by decide), fun N h z => absurd q (n1 N h z).2, fun N u post2 h z k => opn ?_⟩
    obtain ⟨m, n34, rw'⟩ := gN N h
    refine rk_found m.1 (md_ok m q).1.1 n34 hj rw' (rk_pass (by omega) m (bI_0 _) (fun N2 f2 h2 => ?_))
    intro V eV
    have e22 : N 81 22 = N2 81 22 := (f2 81 22 (by decide) (by decide)).symm
    rw [e22] at eV
    refine k V (by rw [eV]; exact fr_fld (rf_nx fr_rfl f2) (by decide)) (bt_wr h2 (by rw [eV]; exact inv_set h2.1 (i_any _)) c22 (by rw [e]; exact mset_ne (by decide)) (by rw [e]; exact mset_ne (by decide)) (by rw [eV]; exact mset_ne (by decide)) (fun j h1 h2 => by rw [eV]; exact mset_nk (by omega)) (fun _ d => by rw [e, eV]; exact d_right d))
  · refine hp M1 tl ⟨i1, cf_tk fr_rfl f1, fun N h z => (n1 N h z).1, fun N u post2 h z k => opn ?_⟩
    obtain ⟨tp, hb⟩ := (b1 q).2 N h
    refine rk_bad h.1 tp hb (fun N2 i2 f2 tp2 bd => ?_)
    intro V eV
    refine k V (by rw [eV]; exact fr_fld (rf_nx fr_rfl f2) (by decide)) (bt_bad (by rw [eV]; exact inv_set i2 (i_any _)) (tp_eq tp2 rfl rfl (by rw [eV]; exact mset_nk (by decide)) (by rw [eV]; exact mset_ne (by decide))) ⟨bd.1, by rw [eV, mset_nk (by decide)]; exact bd.2.1, by rw [eV, mset_nk (by decide)]; exact bd.2.2⟩)
theorem ln_lack {post : MM → Int64 → Prop} {M : MM} {tl : Int64} (hI : Inv M) (hp : ∀ (M1 : MM) (t1 : Int64), LC (fun p N u => wpX11_readLineOf p N u 16) M tl M1 t1 → post M1 t1) : wpX4_readLack post M tl := by
  unfold wpX4_readLack wpX4_takeBank
  refine u_rnum hI (fun r1 M1 i1 f1 s1 a1 b1 n1 g1 => ?_)
  refine u_namS 1 ws1 ne_1' (by decide) tl i1 (fun r2 M2 i2 f2 s2 a2 b2 n2 => ?_)
  have opn : ∀ {post2 : MM → Int64 → Prop} {N : MM} {u : Int64}, wpX11_readNumber (fun r3 M1 t2 => (vp_in r3 (al 94) ∧ wpX11_readKind (fun r7 M5 t6 => (vp_in r3 (al 94) ∧ (∀ M9 : MM, M9 = mset M5 94 (r3 : Int32).toNatClampNeg ((M1 94 (r3 : Int32).toNatClampNeg) ||| ((1 : Int32) <<< (r7 &&& 31))) → post2 M9 t6))) M1 t2 0)) N u 0 1 → wpX11_readLineOf post2 N u 16 := by
    intro post2 N u h
    unfold wpX11_readLineOf
    refine ifn (by decide) (ifn (by decide) (ifn (by decide) (ifn (by decide) (ifn (by decide) (ifn (by decide) (ifp rfl ?_))))))
    unfold wpX11_readLaw
    exact ifn (by decide) (ifn (by decide) (ifn (by decide) h))
  refine ifs (fun q => ?_) (fun q => ?_)
  · obtain ⟨q1, j, hj, ej, gN⟩ := a2 q
    have hj : j < 5 := hj
    subst ej
    obtain ⟨b, hb, eb⟩ := cd2 (a1 q1).2
    subst eb
    rw [nI_s1, tn_nI (by omega)]
    refine And.intro (vp_nM (by decide) hb) (And.intro (vp_nM (by decide) hb) ?_)
    intro W e
    have c22 : W 22 = M2 22 := by rw [e]; exact mset_ne (by decide)
    refine hp W tl ⟨by rw [e]; exact inv_set i2 (i_any _), by rw [e]; exact fr_arr (cf_tk (cf_tk fr_rfl f1) f2) (by decide), fun N h z => absurd q1 (n1 N h z).2, fun N u post2 h z k => opn ?_⟩
    refine g1 N u _ h (fun r3 N1 g2 h1 a3 b3 => ?_)
    have er := a3 q1
    subst er
    obtain ⟨m, n34, rw'⟩ := gN N1 h1
    refine And.intro (vp_nM (by decide) hb) ?_
    refine rk_found m.1 (md_ok m q).1.1 n34 hj rw' (rk_pass (by omega) m (bI_0 _) (fun N2 f3 h2 => And.intro (vp_nM (by decide) hb) ?_))
    intro V eV
    have e94 : N1 94 = N2 94 := (nxf_row f3 (by decide)).symm
    rw [e94, tn_nI (by omega)] at eV
    refine k V (by rw [eV]; exact fr_arr (rf_nx (rf_nx fr_rfl g2) f3) (by decide)) (bt_wr h2 (by rw [eV]; exact inv_set h2.1 (i_any _)) c22 (by rw [e]; exact mset_ne (by decide)) (by rw [e]; exact mset_ne (by decide)) (by rw [eV]; exact mset_ne (by decide)) (fun j h1 h2 => by rw [eV, mset_ne (by decide)]) (fun _ d => by rw [e, eV]; exact d_lack hb (by omega) (by omega) d))
  · refine hp M2 tl ⟨i2, cf_tk (cf_tk fr_rfl f1) f2, fun N h z => ?_, fun N u post2 h z k => opn ?_⟩
    · have y := n1 N h z
      have y2 := s2 y.2
      rw [y2]; exact y.1
    · refine g1 N u _ h (fun r3 N1 g2 h1 a3 b3 => ?_)
      have rr : ∃ b, b < 2 ∧ r3 = nI b := by
        by_cases y : M1 22 2 = 0
        · rw [a3 y]; exact cd2 (a1 y).2
        · exact ⟨0, by decide, b3 y⟩
      obtain ⟨b, hb, eb⟩ := rr
      subst eb
      obtain ⟨tp, hbd⟩ := (b2 q).2 N1 h1
      refine And.intro (vp_nM (by decide) hb) (rk_bad h1.1 tp hbd (fun N2 i3 f3 tp2 bd => And.intro (vp_nM (by decide) hb) ?_))
      intro V eV
      refine k V (by rw [eV]; exact fr_arr (rf_nx (rf_nx fr_rfl g2) f3) (by decide)) (bt_bad (by rw [eV]; exact inv_set i3 (i_any _)) (tp_eq tp2 rfl rfl (by rw [eV, mset_ne (by decide)]) (by rw [eV]; exact mset_ne (by decide))) ⟨bd.1, by rw [eV, mset_ne (by decide)]; exact bd.2.1, by rw [eV, mset_ne (by decide)]; exact bd.2.2⟩)
