/-! A LINE whole: its name, its rest, its stop, the next token (printed by wip/gen/lineall.py) -/
def tail150 (post : MM → Int64 → Prop) (N : MM) (u : Int64) : Prop := (if (N 81 36) = 0 then (if (N 81 34) = 3 then wX11_readLine_146 post N u 1 else wX11_readLine_146 post N u 0) else wX11_readLine_150 post N u)
theorem tok_f {post : MM → Int64 → Prop} {M : MM} {tl : Int64} (hf : M 22 2 ≠ 0) (hp : post M tl) : wpX4_takeToken post M tl := by
  unfold wpX4_takeToken
  exact ifn hf hp
theorem stop_f {post : MM → Int64 → Prop} {M : MM} {tl : Int64} (hf : M 22 2 ≠ 0) (hp : post M tl) : wpX4_takeStop post M tl := by
  unfold wpX4_takeStop
  exact tok_f hf (ifn hf hp)
abbrev SB (M : MM) : Prop := M 22 2 = 0 → 0 ≤ M 22 7 ∧ M 22 7 ≤ 400
/-- the stop and the token behind it -/
theorem u_stop {Q : MM → Int64 → Prop} {M : MM} {tl : Int64} (hI : Inv M) (hp : ∀ M5 : MM, Inv M5 → CFr M M5 → SB M5 → (∀ N, Bt M tl N → N 81 36 ≠ 0 → Md M5 tl N) → (∀ (N : MM) (u : Int64) (post2 : MM → Int64 → Prop), Bt M tl N → (∀ N1, RFr N N1 → Md M5 tl N1 → post2 N1 u) → tail150 post2 N u) → Q M5 tl) : wpX4_takeStop (fun M3 t4 => wpX4_takeToken (fun M5 t6 => Q M5 t6) M3 t4) M tl := by
  unfold wpX4_takeStop
  refine u_tok2 hI (fun M2 i2 f2 s2 b2 g2 => ?_)
  refine ifs (fun c => ifs (fun c3 => ?_) (fun c3 => ?_)) (fun c => ?_)
  · refine u_tok2 i2 (fun M5 i5 f5 s5 b5 g5 => hp M5 i5 (cf_tk (cf_tk fr_rfl f2) f5) b5 (fun N h z => absurd (md_ok (g2 N h) c).1.1 z) (fun N u post2 h k => ?_))
    have m := g2 N h
    have t := (md_ok m c).1
    unfold tail150
    refine ifp t.1 (ifp (by rw [← t.2.2.2.1]; exact c3) ?_)
    unfold wX11_readLine_146 wX11_readLine_150
    exact nd_1 (by decide) (u_next m (fun N1 f1 h1 => k N1 (rf_nx fr_rfl f1) (g5 N1 h1)))
  · unfold wpX4_fail
    intro W0 e0 W e
    subst e0
    have w2 : W 22 2 ≠ 0 := by rw [e, mset_nk (by decide), mset_at]; decide
    refine tok_f w2 (hp W (by rw [e]; exact inv_set (inv_set i2 (i_any _)) (i_any _)) (by rw [e]; exact cf_tk (cf_tk fr_rfl f2) (tkf_set (tkf_set fr_rfl (by decide)) (by decide))) (fun z => absurd z w2) (fun N h z => absurd (md_ok (g2 N h) c).1.1 z) (fun N u post2 h k => ?_))
    have m := g2 N h
    have t := (md_ok m c).1
    unfold tail150
    refine ifp t.1 (ifn (by rw [← t.2.2.2.1]; exact c3) ?_)
    unfold wX11_readLine_146 wX11_readLine_150
    refine nd_0 t.1 (fun N1 e1 => ?_)
    have x := fl_in m.1 (by decide) e1
    have bd := bad_of (by decide) t.2.1 e e1
    exact rf_next x.1 (bad_n bd) (k N1 (rf_nx fr_rfl x.2) ⟨x.1, fl_tp (j := 0) m.2.1 e x.2, Or.inr bd⟩)
  · refine tok_f c (hp M2 i2 (cf_tk fr_rfl f2) b2 (fun N h z => g2 N h) (fun N u post2 h k => ?_))
    have m := g2 N h
    have bd := md_f0 m c
    unfold tail150
    refine ifn (bad_n bd) ?_
    unfold wX11_readLine_150
    exact rf_next m.1 (bad_n bd) (k N fr_rfl m)
/-- what a line leaves -/
def LN (M : MM) (tl : Int64) (M5 : MM) (t5 : Int64) : Prop := Inv M5 ∧ CFr M M5 ∧ SB M5 ∧ ∀ (N : MM) (u : Int64) (post2 : MM → Int64 → Prop), Md M tl N → (∀ N1, RFr N N1 → Md M5 t5 N1 → post2 N1 u) → wpX11_readLine post2 N u
/-- the reference from its next token on -/
theorem r_108 {post2 : MM → Int64 → Prop} {M0 M M1 M5 N : MM} {tl t1 : Int64} {u : Int64} {v : Int32} (m : Md M tl N) (l : LC (fun p N u => wpX11_readLineOf p N u v) M tl M1 t1) (gA : ∀ N, Bt M1 t1 N → N 81 36 ≠ 0 → Md M5 t1 N) (gB : ∀ (N : MM) (u : Int64) (post2 : MM → Int64 → Prop), Bt M1 t1 N → (∀ N1, RFr N N1 → Md M5 t1 N1 → post2 N1 u) → tail150 post2 N u) (k : ∀ N1, RFr N N1 → Md M5 t1 N1 → post2 N1 u) : wX11_readLine_108 post2 N u v := by
  unfold wX11_readLine_108
  refine u_next m (fun N1 f1 h1 => ?_)
  have b := iv_81_36 h1.1
  refine ifs (fun c => ?_) (fun c => ?_)
  · refine l.2.2.2 N1 u _ h1 (by lia) (fun N2 f2 h2 => ?_)
    exact gB N2 u post2 h2 (fun N3 f3 h3 => k N3 (fr_call (fr_call (rf_nx fr_rfl f1) f2 (fun _ h => h) (fun _ h => Or.inl h)) f3 (fun _ h => h) (fun _ h => Or.inl h)) h3)
  · have z : N1 81 36 ≠ 0 := by lia
    exact k N1 (rf_nx fr_rfl f1) (gA N1 (l.2.2.1 N1 h1 z) z)
/-- the reference's name of a line -/
theorem r_name {post2 : MM → Int64 → Prop} {M N : MM} {tl u : Int64} {j : Nat} (hj : j < 12) (m : Md M tl N) (q : M 22 2 = 0) (hw : IsW M (ws0.getD j [])) (hp : wX11_readLine_30 post2 N u (nI (j + 10)) 1) : wpX11_readLine post2 N u := by
  have t := md_ok m q
  have w := (isw_rw m.2.1 t.1).mp hw
  unfold wpX11_readLine
  refine ifp w.1 (ln_r m.1 (fun r hr => ?_))
  rcases hr with ⟨_, z⟩ | ⟨k, hk, e, z⟩
  · exact absurd w.2 (z j hj)
  · have ek := ws0_d k hk j hj (ws_un (by decide) hk hj z w.2)
    subst ek
    unfold wX11_readLine_17
    rw [e]
    refine ifn ?_ hp
    intro y
    have := nJ_ge0 (i := k + 10) (by omega)
    rw [y] at this
    exact absurd this (by decide)
/-- once the name is known, and its line has a fault -/
theorem r_fault {post2 : MM → Int64 → Prop} {N1 : MM} {u : Int64} {v : Int32} (iN : Inv N1) (hf : N1 81 36 ≠ 0) (hp : post2 N1 u) : wX11_readLine_108 post2 N1 u v := by
  have b := iv_81_36 iN
  unfold wX11_readLine_108
  exact rf_next iN hf (ifn (by lia) hp)
theorem r_none {post2 : MM → Int64 → Prop} {M N W : MM} {tl u : Int64} (m : Md M tl N) (q : M 22 2 = 0) (hn : ∀ j, j < 12 → ¬ IsW M (ws0.getD j [])) (e : W = mset (mset M 22 2 2) 22 3 (M 22 7)) (hp : ∀ N1, RFr N N1 → Md W tl N1 → post2 N1 u) : wpX11_readLine post2 N u := by
  have t := md_ok m q
  have key : wX11_readLine_17 post2 N u (-4) := by
    unfold wX11_readLine_17
    refine ifp rfl ?_
    unfold wX11_readLine_30
    refine nd_0 t.1.1 (fun N1 e1 => ifn (by decide) ?_)
    have x := fl_in m.1 (by decide) e1
    have bd := bad_of (by decide) t.1.2.1 e e1
    unfold wX11_readLine_53 wX11_readLine_58
    exact nd_1 (by decide) (ifn (bad_n bd) (r_fault x.1 (bad_n bd) (hp N1 (rf_nx fr_rfl x.2) ⟨x.1, fl_tp (j := 0) m.2.1 e x.2, Or.inr bd⟩)))
  unfold wpX11_readLine
  refine ifs (fun c => ln_r m.1 (fun r hr => ?_)) (fun c => key)
  rcases hr with ⟨z, _⟩ | ⟨k, hk, _, z⟩
  · rw [z]; exact key
  · exact absurd ((isw_rw m.2.1 t.1).mpr ⟨c, z⟩) (hn k hk)
/-- behind the name, where nothing is told once -/
theorem r_30 {post2 : MM → Int64 → Prop} {N : MM} {u : Int64} {k : Nat} (hk : k < 21) (h13 : 13 < k) (t0 : N 81 36 = 0) (hp : wX11_readLine_108 post2 N u (nI k)) : wX11_readLine_30 post2 N u (nI k) 1 := by
  unfold wX11_readLine_30
  have e : nI k ≠ 21 := fun z => by have := nI_inj (a := k) (b := 21) (by omega) (by omega) z; omega
  refine nd_1 (by decide) (ifn e ?_)
  unfold wX11_readLine_53 wX11_readLine_58
  refine nd_1 (by decide) (ifp t0 (ifp ?_ hp))
  exact Int32.lt_iff_toInt_lt.mpr (by rw [nI_sm (by omega)]; show (13 : Int) < k; omega)
theorem d_line {M N : MM} {tl : Int64} {i : Nat} (hi : i < 4) (h : D M tl N) : D M (tl ||| ((1 : Int64) <<< ((nI i).toInt64 &&& 63))) (mset N 81 23 (N 81 23 ||| ((1 : Int32) <<< (nI (i + 10) &&& 31)))) := by
  have q := dt_lin (k := i) hi h.2.2.2.1
  rw [show 0 + i = i by omega, Nat.add_comm 10 i] at q
  refine d_tld h q (bits_off (by omega)) (fun a ha => mset_ne (by intro z; subst z; exact absurd ha (by decide))) (fun j hj => mset_nk (by omega)) (fun k hk q => by rw [mset_nk (by decide)] at q; exact q)
/-- behind the name, where it may be told once -/
theorem r_30t {post2 : MM → Int64 → Prop} {M N : MM} {tl u : Int64} {i : Nat} (hi : i < 4) (m : Md M tl N) (q : M 22 2 = 0) {M2 : MM} {t2 : Int64} (hT : TL M tl i M2 t2) (h0 : bL tl i = false → ∀ N1, RFr N N1 → Md M2 t2 N1 → wX11_readLine_108 post2 N1 u (nI (i + 10))) (h1 : bL tl i = true → ∀ N1, RFr N N1 → Inv N1 → Tp M2 N1 → Bad M2 N1 → wX11_readLine_108 post2 N1 u (nI (i + 10))) : wX11_readLine_30 post2 N u (nI (i + 10)) 1 := by
  have t := md_ok m q
  unfold wX11_readLine_30
  have e : nI (i + 10) ≠ 21 := fun z => by have := nI_inj (a := i + 10) (b := 21) (by omega) (by omega) z; omega
  refine nd_1 (by decide) (ifn e ?_)
  unfold wX11_readLine_53 wX11_readLine_58
  refine nd_1 (by decide) (ifp t.1.1 (ifn ?_ ?_))
  · intro z
    have := Int32.lt_iff_toInt_lt.mp z
    rw [nI_sm (by omega)] at this
    have : (13 : Int) < (i + 10 : Nat) := this
    omega
  · have hbit := t.2.2.2.2.1.1 i hi
    rw [Nat.add_comm 10 i] at hbit
    rcases hT with ⟨et, ⟨bz, eM⟩ | ⟨bz, eM⟩⟩
    · refine ifp ((bI_test _ (by omega)).mpr (by rw [← hbit]; exact bz)) ?_
      unfold wX11_readLine_92
      refine nd_1 (by decide) ?_
      intro V eV
      refine h0 bz V (by rw [eV]; exact fr_fld fr_rfl (by decide)) ?_
      rw [eM, et]
      exact md_wr m (by rw [eV]; exact inv_set m.1 (i_any _)) (by rw [eV]; exact mset_ne (by decide)) (fun j h1 h2 => by rw [eV]; exact mset_nk (by omega)) (fun d => by rw [eV]; exact d_line hi d)
    · refine ifn (fun y => by rw [bI_test _ (by omega), ← hbit, bz] at y; exact Bool.noConfusion y) ?_
      unfold wX11_readLine_92
      refine nd_0 t.1.1 (fun N1 e1 => ?_)
      have x := fl_in m.1 (by decide) e1
      have bd := bad_of (by decide) t.1.2.1 eM e1
      intro V eV
      have v6 : V 81 36 = N1 81 36 := by rw [eV]; exact mset_nk (by decide)
      have v7 : V 81 37 = N1 81 37 := by rw [eV]; exact mset_nk (by decide)
      exact h1 bz V (by rw [eV]; exact fr_fld (rf_nx fr_rfl x.2) (by decide)) (by rw [eV]; exact inv_set x.1 (i_any _)) (tp_eq (fl_tp (j := 0) m.2.1 eM x.2) rfl rfl (by rw [eV]; exact mset_nk (by decide)) (by rw [eV]; exact mset_ne (by decide))) ⟨bd.1, by rw [v6]; exact bd.2.1, by rw [v7]; exact bd.2.2⟩
/-- the class's line behind its name, with its stop and the next token -/
theorem u_21 {Q : MM → Int64 → Prop} {M : MM} {tl : Int64} (hI : Inv M) (q : M 22 2 = 0) {j : Nat} (hj : j < 12) (hw : IsW M (ws0.getD j [])) (hp : ∀ (M5 : MM) (t5 : Int64), LN M tl M5 t5 → Q M5 t5) : wX4_readLine_21 (fun M1 t2 => wpX4_takeStop (fun M3 t4 => wpX4_takeToken (fun M5 t6 => Q M5 t6) M3 t4) M1 t2) M tl (nI j) := by
  unfold wX4_readLine_21
  -- a line told as often as one likes
  have free : ∀ {M1 : MM} {t1 : Int64} (k : Nat), k < 21 → 13 < k → k = j + 10 → LC (fun p N u => wpX11_readLineOf p N u (nI k)) M tl M1 t1 → wpX4_takeStop (fun M3 t4 => wpX4_takeToken (fun M5 t6 => Q M5 t6) M3 t4) M1 t1 := by
    intro M1 t1 k hk h13 ek l
    refine u_stop l.1 (fun M5 i5 f5 b5 gA gB => hp M5 t1 ⟨i5, fr_call l.2.1 f5 (fun _ h => h) (fun _ h => Or.inl h), b5, fun N u post2 m kk => ?_⟩)
    refine r_name hj m q hw ?_
    rw [← ek]
    exact r_30 hk h13 (md_ok m q).1.1 (r_108 (M0 := M) m l gA gB kk)
  -- a line told once
  have once : ∀ {M2 : MM} {t2 : Int64} (i : Nat), i < 4 → i = j → TL M tl i M2 t2 → (M2 22 2 = 0 → ∀ (P : MM → Int64 → Prop), (∀ (M1 : MM) (t1 : Int64), LC (fun p N u => wpX11_readLineOf p N u (nI (i + 10))) M2 t2 M1 t1 → P M1 t1) → True) → True := fun _ _ _ _ _ => trivial
  have told : ∀ {M2 : MM} {t2 : Int64} (i : Nat), i < 4 → i = j → TL M tl i M2 t2 → ∀ {M1 : MM} {t1 : Int64}, LC (fun p N u => wpX11_readLineOf p N u (nI (i + 10))) M2 t2 M1 t1 → wpX4_takeStop (fun M3 t4 => wpX4_takeToken (fun M5 t6 => Q M5 t6) M3 t4) M1 t1 := by
    intro M2 t2 i hi ei hT M1 t1 l
    have fT := tl_fr hI hT
    refine u_stop l.1 (fun M5 i5 f5 b5 gA gB => hp M5 t1 ⟨i5, fr_call (fr_call (cf_tk fr_rfl fT.2) l.2.1 (fun _ h => h) (fun _ h => Or.inl h)) f5 (fun _ h => h) (fun _ h => Or.inl h), b5, fun N u post2 m kk => ?_⟩)
    refine r_name hj m q hw ?_
    rw [← ei]
    refine r_30t hi m q hT (fun _ N1 f1 m1 => ?_) (fun _ N1 f1 iN tp bd => ?_)
    · exact r_108 (M0 := M) m1 l gA gB (fun N2 f2 h2 => kk N2 (fr_call f1 f2 (fun _ h => h) (fun _ h => Or.inl h)) h2)
    · have bt : Bt M2 t2 N1 := ⟨iN, tp, Or.inr bd⟩
      exact r_fault iN (bad_n bd) (kk N1 f1 (gA N1 (l.2.2.1 N1 bt (bad_n bd)) (bad_n bd)))
  rcases (by omega : j = 0 ∨ j = 1 ∨ j = 2 ∨ j = 3 ∨ j = 4 ∨ j = 5 ∨ j = 6 ∨ j = 7 ∨ j = 8 ∨ j = 9 ∨ j = 10 ∨ j = 11) with z | z | z | z | z | z | z | z | z | z | z | z <;> subst z
  · exact ifp rfl (u_tell (bit := 0) (by decide) q (fun M2 t2 hT => ln_lots (tl_fr hI hT).1 (fun M1 t1 l => told 0 (by decide) rfl hT l)))
  · exact ifn (by decide) (ifp rfl (u_tell (bit := 1) (by decide) q (fun M2 t2 hT => ln_bend (tl_fr hI hT).1 (fun M1 t1 l => told 1 (by decide) rfl hT l))))
  · exact ifn (by decide) (ifn (by decide) (ifp rfl (u_tell (bit := 2) (by decide) q (fun M2 t2 hT => ln_pull (tl_fr hI hT).1 (fun M1 t1 l => told 2 (by decide) rfl hT l)))))
  · exact ifn (by decide) (ifn (by decide) (ifn (by decide) (ifp rfl (u_tell (bit := 3) (by decide) q (fun M2 t2 hT => ln_price (tl_fr hI hT).1 (fun M1 t1 l => told 3 (by decide) rfl hT l))))))
  · exact ifn (by decide) (ifn (by decide) (ifn (by decide) (ifn (by decide) (ifp rfl (ln_cost hI (fun M1 t1 l => free 14 (by decide) (by decide) rfl l))))))
  · exact ifn (by decide) (ifn (by decide) (ifn (by decide) (ifn (by decide) (ifn (by decide) (ifp rfl (ln_taste hI (fun M1 t1 l => free 15 (by decide) (by decide) rfl l)))))))
  · exact ifn (by decide) (ifn (by decide) (ifn (by decide) (ifn (by decide) (ifn (by decide) (ifn (by decide) (ifp rfl (ln_lack hI (fun M1 t1 l => free 16 (by decide) (by decide) rfl l))))))))
  · exact ifn (by decide) (ifn (by decide) (ifn (by decide) (ifn (by decide) (ifn (by decide) (ifn (by decide) (ifn (by decide) (ifp rfl (ln_twin hI (fun M1 t1 l => free 17 (by decide) (by decide) rfl l)))))))))
  · exact ifn (by decide) (ifn (by decide) (ifn (by decide) (ifn (by decide) (ifn (by decide) (ifn (by decide) (ifn (by decide) (ifn (by decide) (ifp rfl (ln_paint hI (fun M1 t1 l => free 18 (by decide) (by decide) rfl l))))))))))
  · exact ifn (by decide) (ifn (by decide) (ifn (by decide) (ifn (by decide) (ifn (by decide) (ifn (by decide) (ifn (by decide) (ifn (by decide) (ifn (by decide) (ifp rfl (ln_right hI (fun M1 t1 l => free 19 (by decide) (by decide) rfl l)))))))))))
  · exact ifn (by decide) (ifn (by decide) (ifn (by decide) (ifn (by decide) (ifn (by decide) (ifn (by decide) (ifn (by decide) (ifn (by decide) (ifn (by decide) (ifn (by decide) (ifp rfl (ln_thing hI (fun M1 t1 l => free 20 (by decide) (by decide) rfl l))))))))))))
  · refine ifn (by decide) (ifn (by decide) (ifn (by decide) (ifn (by decide) (ifn (by decide) (ifn (by decide) (ifn (by decide) (ifn (by decide) (ifn (by decide) (ifn (by decide) (ifn (by decide) (ifp rfl (?_))))))))))))
    unfold wpX4_readWork wpX5_isFull
    have b36 := iv_36_3 hI
    have e12 : (nI (al 36) : Int32) = 12 := by decide
    refine And.intro (by decide) (And.intro (by decide) ?_)
    rw [e12]
    refine ifs (fun c => ?_) (fun c => ?_)
    · refine ifp rfl ?_
      obtain ⟨n, en, hn⟩ := code_of (hi := 11) (v := M 36 3) ⟨i_ge_to (k := 0) (by decide) b36.1, i_le_to (c := 11) (k := 11) (by decide) (by lia)⟩ (by decide)
      refine ln_work hI hn en (fun M1 t1 l => ?_)
      refine u_stop l.1 (fun M5 i5 f5 b5 gA gB => hp M5 t1 ⟨i5, fr_call l.2.1 f5 (fun _ h => h) (fun _ h => Or.inl h), b5, fun N u post2 m kk => ?_⟩)
      refine r_name hj m q hw ?_
      have t := md_ok m q
      have c16 : N 90 16 = M 36 3 := t.2.2.2.1.2.1.symm
      have t16 : (16 : Int32).toNatClampNeg = 16 := rfl
      unfold wX11_readLine_30
      refine nd_1 (by decide) (ifp rfl (And.intro (vp_nM (a := 16) (by decide) (by decide)) (ifn ?_ ?_)))
      · rw [t16, c16]; lia
      · unfold wX11_readLine_53 wX11_readLine_58
        refine nd_1 (by decide) (ifp t.1.1 (ifp (by decide) ?_))
        exact r_108 (M0 := M) m l gA gB kk
    · refine ifn (by decide) ?_
      unfold wpX4_fail
      intro W0 e0 W e
      subst e0
      have iW : Inv W := by rw [e]; exact inv_set (inv_set hI (i_any _)) (i_any _)
      have w2 : W 22 2 ≠ 0 := by rw [e, mset_nk (by decide), mset_at]; decide
      unfold wX4_readWork_23
      refine sf_X7_lastMonth__34 iW (fun r _ => tnum_f w2 ?_)
      unfold wpX4_takeBank
      refine tnum_f w2 (tnum_f w2 (thing_f w2 (ifn w2 (stop_f w2 (tok_f w2 (hp W tl ⟨iW, by rw [e]; exact cf_tk fr_rfl (tkf_set (tkf_set fr_rfl (by decide)) (by decide)), fun z => absurd z w2, fun N u post2 m kk => ?_⟩))))))
      refine r_name hj m q hw ?_
      have t := md_ok m q
      have c16 : N 90 16 = M 36 3 := t.2.2.2.1.2.1.symm
      have t16 : (16 : Int32).toNatClampNeg = 16 := rfl
      unfold wX11_readLine_30
      refine nd_1 (by decide) (ifp rfl (And.intro (vp_nM (a := 16) (by decide) (by decide)) (ifp ?_ ?_)))
      · rw [t16, c16]; lia
      · unfold wX11_readLine_58
        refine nd_0 t.1.1 (fun N1 e1 => ?_)
        have x := fl_in m.1 (by decide) e1
        have bd := bad_of (by decide) t.1.2.1 e e1
        exact ifn (bad_n bd) (r_fault x.1 (bad_n bd) (kk N1 (rf_nx fr_rfl x.2) ⟨x.1, fl_tp (j := 0) m.2.1 e x.2, Or.inr bd⟩))
theorem u_line {Q : MM → Int64 → Prop} {M : MM} {tl : Int64} (hI : Inv M) (q : M 22 2 = 0) (sb : 0 ≤ M 22 7 ∧ M 22 7 ≤ 400) (hp : ∀ (M5 : MM) (t5 : Int64), LN M tl M5 t5 → Q M5 t5) : wpX4_readLine (fun M1 t2 => wpX4_takeStop (fun M3 t4 => wpX4_takeToken (fun M5 t6 => Q M5 t6) M3 t4) M1 t2) M tl := by
  unfold wpX4_readLine
  refine ne_0 hI sb (fun r hr => ?_)
  rcases hr with ⟨e, hn⟩ | ⟨j, hj, e, hw⟩
  · subst e
    refine ifn (by decide) ?_
    unfold wpX4_fail
    intro W0 e0 W e
    subst e0
    have w2 : W 22 2 ≠ 0 := by rw [e, mset_nk (by decide), mset_at]; decide
    unfold wX4_readLine_21
    refine ifn (by decide) (ifn (by decide) (ifn (by decide) (ifn (by decide) (ifn (by decide) (ifn (by decide) (ifn (by decide) (ifn (by decide) (ifn (by decide) (ifn (by decide) (ifn (by decide) (ifn (by decide) ?_)))))))))))
    exact stop_f w2 (tok_f w2 (hp W tl ⟨by rw [e]; exact inv_set (inv_set hI (i_any _)) (i_any _), by rw [e]; exact cf_tk fr_rfl (tkf_set (tkf_set fr_rfl (by decide)) (by decide)), fun z => absurd z w2, fun N u post2 m kk => r_none m q hn e kk⟩))
  · subst e
    have hj : j < 12 := hj
    exact ifp (nJ_ge0 (by omega)) (u_21 hI q hj hw hp)
