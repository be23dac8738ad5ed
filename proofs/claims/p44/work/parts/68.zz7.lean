/-! LINE paint -/
theorem mset2 (M : MM) (c a b k : Nat) (x y : Int32) : mset (mset M c a x) c b y c k = if k = b then y else if k = a then x else M c k := by
  rw [mset_if]
  by_cases e1 : k = b
  · rw [if_pos ⟨rfl, e1⟩, if_pos e1]
  · rw [if_neg (fun z => e1 z.2), if_neg e1, mset_if]
    by_cases e2 : k = a
    · rw [if_pos ⟨rfl, e2⟩, if_pos e2]
    · rw [if_neg (fun z => e2 z.2), if_neg e2]
section PAINT
variable {post : MM → Int64 → Prop} {N : MM} {u : Int64} {a b : Nat}
theorem pn_ok (ha : a < 4) (hb : b < 4) (h0 : N 81 36 = 0) (hp : ∀ V : MM, V = mset (mset (mset N 96 a (nI b)) 96 b (nI a)) 81 28 (N 81 28 ||| (((1 : Int32) <<< (nI a &&& 31)) ||| ((1 : Int32) <<< (nI b &&& 31)))) → post V u) : wX11_readLaw_143 post N u (nI a) (nI b) (nI a) (nI b) := by
  unfold wX11_readLaw_143
  refine And.intro (vp_nM (by decide) ha) ?_
  intro W e
  refine ifp (by rw [e, mset_ne (by decide)]; exact h0) ?_
  unfold wX11_readLaw_166
  refine And.intro (vp_nM (by decide) hb) ?_
  intro W2 e2 W3 e3
  rw [tn_nI (by omega)] at e e2
  refine hp W3 ?_
  have e28 : W2 81 28 = N 81 28 := by rw [e2, mset_ne (by decide), e, mset_ne (by decide)]
  rw [e3, e28, e2, e]
theorem pn_f (ha : a < 4) (hb : b < 4) (h0 : N 81 36 ≠ 0) (iN : Inv N) (hp : ∀ V : MM, Inv V → RFr N V → V 97 = N 97 → (∀ j, 31 ≤ j → j ≤ 37 → V 81 j = N 81 j) → post V u) : (vp_in (nI a) (al 96) ∧ wX11_readLaw_143 post N u (nI a) (nI b) (nI a) (N 96 (nI a).toNatClampNeg)) := by
  refine And.intro (vp_nM (by decide) ha) ?_
  unfold wX11_readLaw_143
  refine And.intro (vp_nM (by decide) ha) ?_
  intro W e
  have iW : Inv W := by rw [e]; exact inv_set iN (show 0 ≤ N 96 (nI a).toNatClampNeg ∧ N 96 (nI a).toNatClampNeg ≤ 3 from iv_96 iN _)
  refine ifn (by rw [e, mset_ne (by decide)]; exact h0) (And.intro (vp_nM (by decide) hb) ?_)
  unfold wX11_readLaw_166
  refine And.intro (vp_nM (by decide) hb) ?_
  intro W2 e2 W3 e3
  have iW2 : Inv W2 := by rw [e2]; exact inv_set iW (show 0 ≤ W 96 (nI b).toNatClampNeg ∧ W 96 (nI b).toNatClampNeg ≤ 3 from iv_96 iW _)
  refine hp W3 (by rw [e3]; exact inv_set iW2 (i_any _)) (by rw [e3, e2, e]; exact fr_fld (fr_arr (fr_arr fr_rfl (by decide)) (by decide)) (by decide)) (by rw [e3, e2, e, mset_ne (by decide), mset_ne (by decide), mset_ne (by decide)]) (fun j h1 h2 => by rw [e3, mset_nk (by omega), e2, mset_ne (by decide), e, mset_ne (by decide)])
theorem d_paint {M : MM} {tl : Int64} (ha : a < 4) (hb : b < 4) (h : D M tl N) : D (mset (mset M 33 a (nI b)) 33 b (nI a)) ((tl ||| ((1 : Int64) <<< ((nI (14 + a)).toInt64 &&& 63))) ||| ((1 : Int64) <<< ((nI (14 + b)).toInt64 &&& 63))) (mset (mset (mset N 96 a (nI b)) 96 b (nI a)) 81 28 (N 81 28 ||| (((1 : Int32) <<< (nI a &&& 31)) ||| ((1 : Int32) <<< (nI b &&& 31))))) := by
  obtain ⟨⟨s, l2, l3, l4, l5, l6, l7, l8⟩, hi, hs, ht, hh⟩ := h
  have l8' : ∀ k, k < 4 → mset (mset M 33 a (nI b)) 33 b (nI a) 33 k = mset (mset (mset N 96 a (nI b)) 96 b (nI a)) 81 28 (N 81 28 ||| (((1 : Int32) <<< (nI a &&& 31)) ||| ((1 : Int32) <<< (nI b &&& 31)))) 96 k := by
    intro k hk
    rw [mset_ne (i := 96) (by decide), mset2, mset2, l8 k hk]
  have rr : ∀ c, c ≠ 81 → c ≠ 96 → mset (mset (mset N 96 a (nI b)) 96 b (nI a)) 81 28 (N 81 28 ||| (((1 : Int32) <<< (nI a &&& 31)) ||| ((1 : Int32) <<< (nI b &&& 31)))) c = N c := fun c h1 h2 => by rw [mset_ne h1, mset_ne h2, mset_ne h2]
  have r81 : ∀ j, j ≠ 28 → mset (mset (mset N 96 a (nI b)) 96 b (nI a)) 81 28 (N 81 28 ||| (((1 : Int32) <<< (nI a &&& 31)) ||| ((1 : Int32) <<< (nI b &&& 31)))) 81 j = N 81 j := fun j hj => by rw [mset_nk hj, mset_ne (by decide), mset_ne (by decide)]
  have r28 : mset (mset (mset N 96 a (nI b)) 96 b (nI a)) 81 28 (N 81 28 ||| (((1 : Int32) <<< (nI a &&& 31)) ||| ((1 : Int32) <<< (nI b &&& 31)))) 81 28 = N 81 28 ||| (((1 : Int32) <<< (nI a &&& 31)) ||| ((1 : Int32) <<< (nI b &&& 31))) := mset_at _ _ _ _
  have rc : ∀ c, c ≠ 33 → mset (mset M 33 a (nI b)) 33 b (nI a) c = M c := fun c hc => by rw [mset_ne hc, mset_ne hc]
  have rl : ∀ k, k < 64 → bL ((tl ||| ((1 : Int64) <<< ((nI (14 + a)).toInt64 &&& 63))) ||| ((1 : Int64) <<< ((nI (14 + b)).toInt64 &&& 63))) k = (bL tl k || decide (k = 14 + a) || decide (k = 14 + b)) := fun k hk => by rw [bL_or _ (by omega) (by omega), bL_or _ (by omega) (by omega)]
  have off : ∀ k, k < 64 → (k < 14 ∨ 18 ≤ k) → bL ((tl ||| ((1 : Int64) <<< ((nI (14 + a)).toInt64 &&& 63))) ||| ((1 : Int64) <<< ((nI (14 + b)).toInt64 &&& 63))) k = bL tl k := fun k hk h14 => by rw [rl k hk, decide_eq_false (by omega), decide_eq_false (by omega), Bool.or_false, Bool.or_false]
  generalize (tl ||| ((1 : Int64) <<< ((nI (14 + a)).toInt64 &&& 63))) ||| ((1 : Int64) <<< ((nI (14 + b)).toInt64 &&& 63)) = t2 at rl off ⊢
  generalize mset (mset (mset N 96 a (nI b)) 96 b (nI a)) 81 28 (N 81 28 ||| (((1 : Int32) <<< (nI a &&& 31)) ||| ((1 : Int32) <<< (nI b &&& 31)))) = V at rr r81 r28 l8' ⊢
  generalize mset (mset M 33 a (nI b)) 33 b (nI a) = W at rc l8' ⊢
  obtain ⟨t1, t2', t3, t4, t5, t6⟩ := ht
  refine ⟨⟨?_, ?_, ?_, ?_, ?_, ?_, ?_, l8'⟩, dinv_eq hi (rr 94 (by decide) (by decide)) (rr 95 (by decide) (by decide)) (r81 27 (by decide)), dscn_eq hs (rc 35 (by decide)) (rc 36 (by decide)) (rc 37 (by decide)) (rr 90 (by decide) (by decide)), ⟨?_, ?_, ?_, ?_, ?_, ?_⟩, ?_⟩
  · rw [rc 23 (by decide), r81 13 (by decide), r81 14 (by decide), r81 15 (by decide), r81 22 (by decide)]; exact s
  · rw [rc 24 (by decide), rr 91 (by decide) (by decide)]; exact l2
  · rw [rc 26 (by decide), rc 27 (by decide), rr 92 (by decide) (by decide)]; exact l3
  · rw [rc 29 (by decide), rc 30 (by decide), rr 93 (by decide) (by decide)]; exact l4
  · rw [rr 93 (by decide) (by decide)]; exact l5
  · rw [rc 31 (by decide), rr 94 (by decide) (by decide)]; exact l6
  · rw [rc 32 (by decide), rr 95 (by decide) (by decide)]; exact l7
  · intro i hi
    rw [r81 23 (by decide), off i (by omega) (by omega)]; exact t1 i hi
  · intro i hi
    rw [r81 25 (by decide), off (4 + i) (by omega) (by omega)]; exact t2' i hi
  · intro i hi
    rw [r81 26 (by decide), off (6 + i) (by omega) (by omega)]; exact t3 i hi
  · intro i hi
    rw [r81 27 (by decide), off (8 + i) (by omega) (by omega)]; exact t4 i hi
  · intro i hi
    rw [r28, rl (14 + i) (by omega), t5 i hi, bI_or2 _ (by omega) (by omega) (by omega), Bool.or_assoc]
    congr 1
    congr 1
    · exact decide_eq_decide.mpr (by omega)
    · exact decide_eq_decide.mpr (by omega)
  · intro i hi
    rw [r81 24 (by decide), off (18 + i) (by omega) (by omega)]; exact t6 i hi
  · have hh2 := dh_tl (V := V) hh (fun s hs => off (18 + s) (by omega) (by omega)) (r81 29 (by decide))
    exact dh_eq hh2 (rc 36 (by decide)) (rc 37 (by decide)) rfl
end PAINT
/-- the reference's colour, looked at -/
def clK (post : Int32 → MM → Int64 → Prop) (N : MM) (u : Int64) (but r : Int32) : Prop := (if (N 81 36) = 0 then (if ((but >>> (r &&& 31)) &&& 1) = 0 then wX11_readColour_28 post N u r 1 else wX11_readColour_28 post N u r 0) else wX11_readColour_32 post N u r)
theorem cl_pass {post : Int32 → MM → Int64 → Prop} {M N : MM} {tl u : Int64} {but : Int32} {c : Nat} (hc : c < 4) (h : Md M tl N) (q : M 22 2 = 0) (hb : bI but c = false) (hp : ∀ N1 : MM, NxF N N1 → Bt M tl N1 → post (nI c) N1 u) : clK post N u but (nI c) := by
  unfold clK
  refine ifp (md_ok h q).1.1 (ifp ((bI_test but (by omega)).mpr hb) ?_)
  unfold wX11_readColour_28 wX11_readColour_32
  exact nd_1 (by decide) (u_next h (fun N1 f1 h1 => hp N1 f1 h1))
theorem cl_twice {post : Int32 → MM → Int64 → Prop} {N : MM} {u : Int64} {but : Int32} {c : Nat} (hI : Inv N) (h0 : N 81 36 = 0) (hc : c < 4) (hb : bI but c = true) (hp : ∀ N1 : MM, N1 = mset (mset N 81 36 4) 81 37 (N 81 33) → post (nI c) N1 u) : clK post N u but (nI c) := by
  unfold clK
  refine ifp h0 (ifn (fun z => by rw [bI_test but (by omega), hb] at z; exact Bool.noConfusion z) ?_)
  unfold wX11_readColour_28 wX11_readColour_32
  refine nd_0 h0 (fun N1 e => rf_next (fl_in hI (by decide) e).1 ?_ (hp N1 e))
  rw [e, mset_nk (by decide), mset_at]; decide
theorem cl_f {post : Int32 → MM → Int64 → Prop} {N : MM} {u : Int64} {but r : Int32} (hI : Inv N) (h0 : N 81 36 ≠ 0) (hp : post r N u) : clK post N u but r := by
  unfold clK
  refine ifn h0 ?_
  unfold wX11_readColour_32
  exact rf_next hI h0 hp
theorem cd4n {v : Int32} (h : 0 ≤ v ∧ v ≤ 3) : ∃ c, c < 4 ∧ v = nI c := by
  obtain ⟨c, e, hc⟩ := code_of (hi := 3) (v := v) ⟨i_ge_to (k := 0) (by decide) h.1, i_le_to (c := 3) (k := 3) (by decide) h.2⟩ (by decide)
  exact ⟨c, hc, e⟩
theorem ln_paint {post : MM → Int64 → Prop} {M : MM} {tl : Int64} (hI : Inv M) (hp : ∀ (M1 : MM) (t1 : Int64), LC (fun p N u => wpX11_readLineOf p N u 18) M tl M1 t1 → post M1 t1) : wpX4_readPaint post M tl := by
  unfold wpX4_readPaint
  have opn : ∀ {post2 : MM → Int64 → Prop} {N : MM} {u : Int64}, wpX11_readColour (fun r16 M14 t15 => wpX11_readColour (fun r19 M17 t18 => (if (M17 81 36) = 0 then wX11_readLaw_143 post2 M17 t18 r16 r19 r16 r19 else (vp_in r16 (al 96) ∧ wX11_readLaw_143 post2 M17 t18 r16 r19 r16 (M17 96 (r16 : Int32).toNatClampNeg)))) M14 t15 ((M14 81 28) ||| ((1 : Int32) <<< (r16 &&& 31)))) N u (N 81 28) → wpX11_readLineOf post2 N u 18 := by
    intro post2 N u h
    unfold wpX11_readLineOf
    refine ifn (by decide) (ifn (by decide) (ifn (by decide) (ifn (by decide) (ifn (by decide) (ifn (by decide) (ifn (by decide) (ifn (by decide) (ifp rfl ?_))))))))
    unfold wpX11_readLaw
    exact ifn (by decide) (ifp rfl h)
  refine u_numS tl hI (fun r1 M1 i1 f1 s1 a1 b1 n1 g1 => ?_)
  by_cases q : M1 22 2 = 0
  · obtain ⟨c, hc, ec⟩ := cd4n (a1 q).2
    subst ec
    have e8 : (14 : Int32) + nI c = nI (14 + c) := nM_add 14 c
    rw [e8]
    refine u_tell (by omega) q (fun M2 t2 hT => ?_)
    rcases hT with ⟨et, ⟨bz, eM⟩ | ⟨bz, eM⟩⟩
    · subst eM
      refine u_numS tl i1 (fun r2 M3 i3 f3 s3 a3 b3 n3 g3 => ?_)
      have frC : CFr M M3 := cf_tk (cf_tk fr_rfl f1) f3
      by_cases q3 : M3 22 2 = 0
      · obtain ⟨c2, hc2, ec2⟩ := cd4n (a3 q3).2
        subst ec2
        have e8' : (14 : Int32) + nI c2 = nI (14 + c2) := nM_add 14 c2
        rw [e8']
        refine u_tell (by omega) q3 (fun M4 t4 hT4 => ?_)
        have bit2 : ∀ N2, DT tl N2 → bL t2 (14 + c2) = bI (N2 81 28 ||| ((1 : Int32) <<< (nI c &&& 31))) c2 := by
          intro N2 dt
          rw [et, bL_or _ (by omega) (by omega), bI_or _ (by omega) (by omega), dt.2.2.2.2.1 c2 (by omega)]
          congr 1
          exact decide_eq_decide.mpr (by omega)
        have first : ∀ (N : MM) (u : Int64) (p2 : Int32 → MM → Int64 → Prop), Bt M tl N → (∀ N2, NxF N N2 → Bt M2 tl N2 → p2 (nI c) N2 u) → wpX11_readColour p2 N u (N 81 28) := by
          intro N u p2 h kk
          unfold wpX11_readColour
          refine g1 N u _ h (fun r N1 f2 m aa bb => ?_)
          have er := aa q
          subst er
          have e28 : N 81 28 = N1 81 28 := (f2 81 28 (by decide) (by decide)).symm
          refine cl_pass hc m q (by rw [e28, ← (md_ok m q).2.2.2.2.1.2.2.2.2.1 c hc]; exact bz) (fun N2 f3 h3 => kk N2 (fr_call f2 f3 (by decide) (by decide)) h3)
        rcases hT4 with ⟨et4, ⟨bz4, eM4⟩ | ⟨bz4, eM4⟩⟩
        · subst eM4
          refine ifp q3 ?_
          refine And.intro (vp_nM (by decide) hc) ?_
          intro W e
          refine And.intro (vp_nM (by decide) hc2) ?_
          intro W2 e2
          rw [tn_nI (by omega)] at e e2
          have c22 : W2 22 = M4 22 := by rw [e2, mset_ne (by decide), e]; exact mset_ne (by decide)
          have c1 : W2 1 = M4 1 := by rw [e2, mset_ne (by decide), e]; exact mset_ne (by decide)
          have c2' : W2 2 = M4 2 := by rw [e2, mset_ne (by decide), e]; exact mset_ne (by decide)
          refine hp W2 t4 ⟨by rw [e2, e]; exact inv_set (inv_set i3 (i_any _)) (i_any _), by rw [e2, e]; exact fr_arr (fr_arr frC (by decide)) (by decide), fun N h z => absurd q (n1 N h z).2, fun N u post2 h z k => opn (first N u _ h (fun N2 f2 h2 => ?_))⟩
          unfold wpX11_readColour
          refine g3 N2 u _ h2 (fun r N2' f2' m2 aa bb => ?_)
          have er := aa q3
          subst er
          have tk2 := md_ok m2 q3
          have e28 : N2 81 28 = N2' 81 28 := (f2' 81 28 (by decide) (by decide)).symm
          refine cl_pass hc2 m2 q3 (by rw [e28, ← bit2 N2' tk2.2.2.2.2.1]; exact bz4) (fun N3 f3' h3 => ?_)
          have fN : RFr N N3 := rf_nx (rf_nx (rf_nx fr_rfl f2) f2') f3'
          refine ifs (fun cc => pn_ok hc hc2 cc (fun V eV => ?_)) (fun cc => pn_f hc hc2 cc h3.1 (fun V iV fV r97 r81 => ?_))
          · have iV : Inv V := by
              rw [eV]
              have lo : ∀ x, x < 4 → 0 ≤ nI x ∧ nI x ≤ 3 := fun x hx => ⟨nJ_ge0 (by omega), i_le (k := 3) (by decide) (by rw [nI_sm (by omega)]; omega)⟩
              exact inv_set (inv_set (inv_set h3.1 (show 0 ≤ nI c2 ∧ nI c2 ≤ 3 from lo _ hc2)) (show 0 ≤ nI c ∧ nI c ≤ 3 from lo _ hc)) (i_any _)
            refine k V (by rw [eV]; exact fr_fld (fr_arr (fr_arr fN (by decide)) (by decide)) (by decide)) (bt_wrT h3 iV c22 c1 c2' (by rw [eV, mset_ne (by decide), mset_ne (by decide), mset_ne (by decide)]) (fun x h1 h2 => by rw [eV, mset_nk (by omega), mset_ne (by decide), mset_ne (by decide)]) (fun _ _ d => ?_))
            rw [e2, e, eV, et4, et]
            exact d_paint hc hc2 d
          · exact k V (fr_call fN fV (fun _ h => h) (fun _ h => Or.inl h)) (bt_wrT h3 iV c22 c1 c2' r97 r81 (fun _ z _ => absurd z cc))
        · have x4 : M4 22 2 ≠ 0 := by rw [eM4, mset_nk (by decide), mset_at]; decide
          refine ifn x4 (hp M4 t4 ⟨by rw [eM4]; exact inv_set (inv_set i3 (i_any _)) (i_any _), by rw [eM4]; exact cf_tk frC (tkf_set (tkf_set fr_rfl (by decide)) (by decide)), fun N h z => absurd q (n1 N h z).2, fun N u post2 h z k => opn (first N u _ h (fun N2 f2 h2 => ?_))⟩)
          unfold wpX11_readColour
          refine g3 N2 u _ h2 (fun r N2' f2' m2 aa bb => ?_)
          have er := aa q3
          subst er
          have tk2 := md_ok m2 q3
          have e28 : N2 81 28 = N2' 81 28 := (f2' 81 28 (by decide) (by decide)).symm
          refine cl_twice m2.1 tk2.1.1 hc2 (by rw [e28, ← bit2 N2' tk2.2.2.2.2.1]; exact bz4) (fun N3 e3 => ?_)
          have x := fl_in m2.1 (by decide) e3
          have bd := bad_of (by decide) tk2.1.2.1 eM4 e3
          refine ifn (bad_n bd) (pn_f hc hc2 (bad_n bd) x.1 (fun V iV fV r97 r81 => ?_))
          exact k V (fr_call (rf_nx (rf_nx (rf_nx fr_rfl f2) f2') x.2) fV (fun _ h => h) (fun _ h => Or.inl h)) (fin_bad bd (fl_tp (j := 0) m2.2.1 eM4 x.2) iV r97 r81)
      · refine u_tell_f q3 (ifn q3 (hp M3 t2 ⟨i3, frC, fun N h z => absurd q (n1 N h z).2, fun N u post2 h z k => opn ?_⟩))
        unfold wpX11_readColour
        refine g1 N u _ h (fun r N1 f2 m aa bb => ?_)
        have er := aa q
        subst er
        have e28 : N 81 28 = N1 81 28 := (f2 81 28 (by decide) (by decide)).symm
        refine cl_pass hc m q (by rw [e28, ← (md_ok m q).2.2.2.2.1.2.2.2.2.1 c hc]; exact bz) (fun N2 f3' h2 => ?_)
        refine g3 N2 u _ h2 (fun r N3 f4 m3 aa3 bb3 => ?_)
        have er3 := bb3 q3
        subst er3
        have bd := md_f0 m3 q3
        refine cl_f m3.1 (bad_n bd) (ifn (bad_n bd) (pn_f (b := 0) hc (by decide) (bad_n bd) m3.1 (fun V iV fV r97 r81 => ?_)))
        exact k V (fr_call (rf_nx (rf_nx (rf_nx fr_rfl f2) f3') f4) fV (fun _ h => h) (fun _ h => Or.inl h)) (fin_bad bd m3.2.1 iV r97 r81)
    · have x2 : M2 22 2 ≠ 0 := by rw [eM, mset_nk (by decide), mset_at]; decide
      refine tnum_f x2 (u_tell_f x2 (ifn x2 (hp M2 t2 ⟨by rw [eM]; exact inv_set (inv_set i1 (i_any _)) (i_any _), by rw [eM]; exact cf_tk (cf_tk fr_rfl f1) (tkf_set (tkf_set fr_rfl (by decide)) (by decide)), fun N h z => absurd q (n1 N h z).2, fun N u post2 h z k => opn ?_⟩)))
      unfold wpX11_readColour
      refine g1 N u _ h (fun r N1 f2 m aa bb => ?_)
      have er := aa q
      subst er
      have tk := md_ok m q
      have e28 : N 81 28 = N1 81 28 := (f2 81 28 (by decide) (by decide)).symm
      refine cl_twice m.1 tk.1.1 hc (by rw [e28, ← tk.2.2.2.2.1.2.2.2.2.1 c hc]; exact bz) (fun N2 e2 => ?_)
      have x := fl_in m.1 (by decide) e2
      have bd := bad_of (by decide) tk.1.2.1 eM e2
      refine rf_looked (bad_n bd) (cl_f x.1 (bad_n bd) (ifn (bad_n bd) (pn_f (b := 0) hc (by decide) (bad_n bd) x.1 (fun V iV fV r97 r81 => ?_))))
      exact k V (fr_call (rf_nx (rf_nx fr_rfl f2) x.2) fV (fun _ h => h) (fun _ h => Or.inl h)) (fin_bad bd (fl_tp (j := 0) m.2.1 eM x.2) iV r97 r81)
  · refine u_tell_f q (tnum_f q (u_tell_f q (ifn q (hp M1 tl ⟨i1, cf_tk fr_rfl f1, fun N h z => (md_bad (n1 N h z).1 q).2, fun N u post2 h z k => opn ?_⟩))))
    unfold wpX11_readColour
    refine g1 N u _ h (fun r N1 f2 m aa bb => ?_)
    have er := bb q
    subst er
    have bd := md_f0 m q
    refine cl_f m.1 (bad_n bd) (rf_looked (bad_n bd) (cl_f m.1 (bad_n bd) (ifn (bad_n bd) (pn_f (a := 0) (b := 0) (by decide) (by decide) (bad_n bd) m.1 (fun V iV fV r97 r81 => ?_)))))
    exact k V (fr_call (rf_nx fr_rfl f2) fV (fun _ h => h) (fun _ h => Or.inl h)) (fin_bad bd m.2.1 iV r97 r81)
