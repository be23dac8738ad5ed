/-! TEXT, on both sides -/
abbrev TFr (M M1 : MM) : Prop := Fr [4, 6, 7, 9, 10, 11, 12, 13, 15, 17, 19, 21, 24, 26, 27, 29, 30, 31, 32, 33, 35, 37, 55] [(0, 11), (1, 1), (3, 0), (3, 1), (3, 2), (3, 3), (16, 3), (18, 3), (20, 3), (22, 2), (22, 3), (22, 4), (22, 6), (22, 7), (22, 8), (22, 9), (23, 0), (23, 1), (23, 2), (23, 3), (36, 3), (38, 3), (40, 3)] M M1
abbrev XFr (M M1 : MM) : Prop := Fr [82, 83, 84, 85, 86, 87, 88, 89, 90, 91, 92, 93, 94, 95, 96] [(81, 2), (81, 3), (81, 4), (81, 11), (81, 13), (81, 14), (81, 15), (81, 22), (81, 23), (81, 24), (81, 25), (81, 26), (81, 27), (81, 28), (81, 29), (81, 31), (81, 32), (81, 33), (81, 34), (81, 35), (81, 36), (81, 37)] M M1
theorem fa_55 : al 55 = 2 := by decide
theorem t_77 {post : Int32 → MM → Int64 → Prop} {M : MM} {tl : Int64} (h : post (M 22 4) (mset (mset M 55 0 (vp_nar .boolean 0)) 55 1 (vp_nar .boolean 0)) tl) : wX10_text_77 post 3 M tl 0 := by
  have e : (mset (mset M 55 0 (vp_nar .boolean 0)) 55 1 (vp_nar .boolean 0)) 22 4 = M 22 4 := by rw [mset_ne (by decide), mset_ne (by decide)]
  rw [← e] at h
  simp [wX10_text_77, vp_in, fa_55]
  exact h
theorem u_73 {post2 : Int32 → MM → Int64 → Prop} {N : MM} {u : Int64} {f p m r : Int32} (iN : Inv N) (e1 : N 81 36 = f) (e2 : f ≠ 0 → N 81 37 = p) (hr : r = if f = 0 then m else (-10 : Int32) - p) (k : ∀ (N1 : MM) (t : Int64), XFr N N1 → Inv N1 → N1 81 31 = 0 → N1 81 36 = f → post2 r N1 t) : wX11_text_73 post2 N u m := by
  unfold wX11_text_73
  intro W e
  have iW : Inv W := by rw [e]; exact inv_set iN (show 0 ≤ (0 : Int32) ∧ (0 : Int32) ≤ 400 by decide)
  have fW : XFr N W := by rw [e]; exact fr_fld fr_rfl (by decide)
  have zW : W 81 31 = 0 := by rw [e]; exact mset_at _ _ _ _
  have x36 : W 81 36 = f := by rw [e, mset_nk (by decide)]; exact e1
  have x37 : W 81 37 = N 81 37 := by rw [e, mset_nk (by decide)]
  have b := iv_81_36 iW
  rw [x36] at b ⊢
  refine ifs (fun c => ?_) (fun c => ?_)
  · have z : f = 0 := by lia
    rw [if_pos z] at hr
    subst hr
    refine sf_X11_keepDraft iW (fun M2 t2 i2 f2 _ => ?_)
    refine k _ _ (fr_call fW f2 (by decide) (by decide)) i2 ?_ ?_
    · rw [f2 81 31 (by decide) (by decide)]; exact zW
    · rw [f2 81 36 (by decide) (by decide)]; exact x36
  · have z : f ≠ 0 := fun z => c (by rw [z]; decide)
    rw [if_neg z] at hr
    rw [x37, e2 z, ← hr]
    exact k _ _ fW iW zW x36
theorem u_text {post : Int32 → MM → Int64 → Prop} {M : MM} {tl : Int64} (hI : Inv M) (hb : HB M) (hp : ∀ (r : Int32) (M1 : MM) (t1 : Int64), Inv M1 → TFr M M1 → M1 1 1 = 0 → (∀ (N : MM) (u : Int64) (post2 : Int32 → MM → Int64 → Prop), Inv N → Tp M N → (∀ (N1 : MM) (t : Int64), XFr N N1 → Inv N1 → N1 81 31 = 0 → N1 81 36 = M1 0 11 → post2 r N1 t) → wpX11_text post2 N u) → post r M1 t1) : wpX10_text post M tl := by
  unfold wpX10_text
  refine u_readAll hI hb (fun A t iA fA kA => ?_)
  have gA : TFr M A := fr_call fr_rfl fA (by decide) (by decide)
  intro B eB C eC
  have iB : Inv B := by rw [eB]; exact inv_set iA (show 0 ≤ (0 : Int32) ∧ (0 : Int32) ≤ 400 by decide)
  have iC : Inv C := by rw [eC]; exact inv_set iB (i_any _)
  have gC : TFr M C := by rw [eC, eB]; exact fr_fld (fr_fld gA (by decide)) (by decide)
  have b2 : B 22 2 = A 22 2 := by rw [eB, mset_ne (by decide)]
  have c2 : C 22 2 = A 22 2 := by rw [eC, mset_ne (by decide), b2]
  have c3 : C 22 3 = A 22 3 := by rw [eC, mset_ne (by decide), eB, mset_ne (by decide)]
  have c4 : C 22 4 = A 22 4 := by rw [eC, mset_ne (by decide), eB, mset_ne (by decide)]
  have c11 : C 0 11 = A 22 2 := by rw [eC, mset_at, b2]
  have c1 : C 1 1 = 0 := by rw [eC, mset_ne (by decide), eB, mset_at]
  have K : ∀ (r : Int32) (E : MM), r = (if A 22 2 = 0 then A 22 4 else (-10 : Int32) - A 22 3) → E 0 11 = A 22 2 → (∀ (N : MM) (u : Int64) (post2 : Int32 → MM → Int64 → Prop), Inv N → Tp M N → (∀ (N1 : MM) (t : Int64), XFr N N1 → Inv N1 → N1 81 31 = 0 → N1 81 36 = E 0 11 → post2 r N1 t) → wpX11_text post2 N u) := by
    intro r E hr hE N u post2 iN tp k
    refine kA N u post2 iN tp (fun N1 f1 i1 p1 q1 _ => u_73 i1 p1 q1 hr (fun N2 t2 f2 i2 z2 w2 => ?_))
    exact k N2 t2 (fr_call (fr_call fr_rfl f1 (by decide) (by decide)) f2 (by decide) (by decide)) i2 z2 (by rw [w2, hE])
  rw [c2]
  refine ifs (fun c => ?_) (fun c => ?_)
  · refine sf_X1_copyFrom__3_23 iC (fun E t2 iE fE _ => ?_)
    refine sf_X7_copyFrom__14_34 iE (fun G t3 iG fG _ => ?_)
    have gG : TFr M G := fr_call (fr_call gC fE (by decide) (by decide)) fG (by decide) (by decide)
    have r4 : G 22 4 = A 22 4 := by rw [fG 22 4 (by decide) (by decide), fE 22 4 (by decide) (by decide), c4]
    have r11 : G 0 11 = A 22 2 := by rw [fG 0 11 (by decide) (by decide), fE 0 11 (by decide) (by decide), c11]
    have r1 : G 1 1 = 0 := by rw [fG 1 1 (by decide) (by decide), fE 1 1 (by decide) (by decide), c1]
    refine ⟨3, t_77 (hp _ _ _ ?_ ?_ ?_ (K _ _ ?_ ?_))⟩
    · exact inv_set (inv_set iG (by decide)) (by decide)
    · exact fr_arr (fr_arr gG (by decide)) (by decide)
    · rw [mset_ne (by decide), mset_ne (by decide)]; exact r1
    · rw [if_pos c]; exact r4
    · rw [mset_ne (by decide), mset_ne (by decide)]; exact r11
  · rw [c3]
    exact hp _ _ _ iC gC c1 (K _ _ (by rw [if_neg c]) c11)
