/-! LINES twin and paint -/
theorem bt_wrT {M1 W N1 V : MM} {tl t2 : Int64} (h : Bt M1 tl N1) (iV : Inv V) (c22 : W 22 = M1 22) (c1 : W 1 = M1 1) (c2 : W 2 = M1 2) (r97 : V 97 = N1 97) (r81 : ∀ j, 31 ≤ j → j ≤ 37 → V 81 j = N1 81 j) (hd : M1 22 2 = 0 → N1 81 36 = 0 → D M1 tl N1 → D W t2 V) : Bt W t2 V := by
  refine ⟨iV, tp_eq h.2.1 (by rw [c1]) c2 (r81 31 (by decide) (by decide)) r97, ?_⟩
  rcases h.2.2 with ⟨a, b, d⟩ | z
  · refine Or.inl ⟨by rw [c22]; exact a, ?_, fun z => ?_⟩
    · rw [c1, c2, c22, r81 33 (by decide) (by decide), r81 32 (by decide) (by decide), r81 34 (by decide) (by decide), r81 35 (by decide) (by decide), r81 36 (by decide) (by decide), r81 37 (by decide) (by decide)]
      exact b
    · rw [r81 36 (by decide) (by decide)] at z
      exact hd a z (d z)
  · refine Or.inr ⟨by rw [c22]; exact z.1, ?_, ?_⟩
    · rw [c22, r81 36 (by decide) (by decide)]; exact z.2.1
    · rw [c22, r81 37 (by decide) (by decide)]; exact z.2.2
theorem fin_bad {M N V : MM} {t : Int64} (bd : Bad M N) (tp : Tp M N) (iV : Inv V) (r97 : V 97 = N 97) (e : ∀ j, 31 ≤ j → j ≤ 37 → V 81 j = N 81 j) : Bt M t V := ⟨iV, tp_eq tp rfl rfl (e 31 (by decide) (by decide)) r97, Or.inr ⟨bd.1, by rw [e 36 (by decide) (by decide)]; exact bd.2.1, by rw [e 37 (by decide) (by decide)]; exact bd.2.2⟩⟩
theorem bI_or2 (x : Int32) {a b j : Nat} (ha : a < 32) (hb : b < 32) (hj : j < 32) : bI (x ||| (((1 : Int32) <<< (nI a &&& 31)) ||| ((1 : Int32) <<< (nI b &&& 31)))) j = (bI x j || (decide (j = a) || decide (j = b))) := by
  show (x.toBitVec ||| (((1 : Int32) <<< (nI a &&& 31)).toBitVec ||| ((1 : Int32) <<< (nI b &&& 31)).toBitVec)).getLsbD j = _
  rw [BitVec.getLsbD_or, BitVec.getLsbD_or, oneI_all a ha j hj, oneI_all b hb j hj]
  rfl
section TWIN
variable {post : MM → Int64 → Prop} {N : MM} {u : Int64} {a b : Nat}
theorem tw_ok (ha : a < 6) (hb : b < 6) (h0 : N 81 36 = 0) (hp : ∀ V : MM, V = mset (mset (mset N 95 a (nI b)) 95 b (nI a)) 81 27 (N 81 27 ||| (((1 : Int32) <<< (nI a &&& 31)) ||| ((1 : Int32) <<< (nI b &&& 31)))) → post V u) : wX11_readLaw_50 post N u (nI a) (nI b) (nI a) (nI b) := by
  unfold wX11_readLaw_50
  refine And.intro (vp_nM (by decide) ha) ?_
  intro W e
  refine ifp (by rw [e, mset_ne (by decide)]; exact h0) ?_
  unfold wX11_readLaw_73
  refine And.intro (vp_nM (by decide) hb) ?_
  intro W2 e2 W3 e3
  rw [tn_nI (by omega)] at e e2
  refine hp W3 ?_
  have e27 : W2 81 27 = N 81 27 := by rw [e2, mset_ne (by decide), e, mset_ne (by decide)]
  rw [e3, e27, e2, e]
theorem tw_f (ha : a < 6) (hb : b < 6) (h0 : N 81 36 ≠ 0) (iN : Inv N) (hp : ∀ V : MM, Inv V → RFr N V → V 97 = N 97 → (∀ j, 31 ≤ j → j ≤ 37 → V 81 j = N 81 j) → post V u) : (vp_in (nI a) (al 95) ∧ wX11_readLaw_50 post N u (nI a) (nI b) (nI a) (N 95 (nI a).toNatClampNeg)) := by
  refine And.intro (vp_nM (by decide) ha) ?_
  unfold wX11_readLaw_50
  refine And.intro (vp_nM (by decide) ha) ?_
  intro W e
  have iW : Inv W := by rw [e]; exact inv_set iN (show 0 ≤ N 95 (nI a).toNatClampNeg ∧ N 95 (nI a).toNatClampNeg ≤ 5 from iv_95 iN _)
  refine ifn (by rw [e, mset_ne (by decide)]; exact h0) (And.intro (vp_nM (by decide) hb) ?_)
  unfold wX11_readLaw_73
  refine And.intro (vp_nM (by decide) hb) ?_
  intro W2 e2 W3 e3
  have iW2 : Inv W2 := by rw [e2]; exact inv_set iW (show 0 ≤ W 95 (nI b).toNatClampNeg ∧ W 95 (nI b).toNatClampNeg ≤ 5 from iv_95 iW _)
  refine hp W3 (by rw [e3]; exact inv_set iW2 (i_any _)) (by rw [e3, e2, e]; exact fr_fld (fr_arr (fr_arr fr_rfl (by decide)) (by decide)) (by decide)) (by rw [e3, e2, e, mset_ne (by decide), mset_ne (by decide), mset_ne (by decide)]) (fun j h1 h2 => by rw [e3, mset_nk (by omega), e2, mset_ne (by decide), e, mset_ne (by decide)])
theorem d_twin {M : MM} {tl : Int64} (ha : 1 ≤ a ∧ a < 6) (hb : 1 ≤ b ∧ b < 6) (na : bI (N 81 27) a = false) (nb : bI (N 81 27) b = false) (hab : a ≠ b) (iN : Inv N) (h : D M tl N) : D (mset (mset M 32 a (nI b)) 32 b (nI a)) ((tl ||| ((1 : Int64) <<< ((nI (8 + a)).toInt64 &&& 63))) ||| ((1 : Int64) <<< ((nI (8 + b)).toInt64 &&& 63))) (mset (mset (mset N 95 a (nI b)) 95 b (nI a)) 81 27 (N 81 27 ||| (((1 : Int32) <<< (nI a &&& 31)) ||| ((1 : Int32) <<< (nI b &&& 31))))) := by
  obtain ⟨⟨s, l2, l3, l4, l5, l6, l7, l8⟩, ⟨v1, v2, v3, v4⟩, hs, ht, hh⟩ := h
  have r95 : ∀ k, mset (mset (mset N 95 a (nI b)) 95 b (nI a)) 81 27 (N 81 27 ||| (((1 : Int32) <<< (nI a &&& 31)) ||| ((1 : Int32) <<< (nI b &&& 31)))) 95 k = if k = b then nI a else if k = a then nI b else N 95 k := by
    intro k
    rw [mset_ne (by decide), mset_if]
    by_cases e1 : k = b
    · rw [if_pos ⟨rfl, e1⟩, if_pos e1]
    · rw [if_neg (fun z => e1 z.2), if_neg e1, mset_if]
      by_cases e2 : k = a
      · rw [if_pos ⟨rfl, e2⟩, if_pos e2]
      · rw [if_neg (fun z => e2 z.2), if_neg e2]
  have rr : ∀ c, c ≠ 81 → c ≠ 95 → mset (mset (mset N 95 a (nI b)) 95 b (nI a)) 81 27 (N 81 27 ||| (((1 : Int32) <<< (nI a &&& 31)) ||| ((1 : Int32) <<< (nI b &&& 31)))) c = N c := fun c h1 h2 => by rw [mset_ne h1, mset_ne h2, mset_ne h2]
  have r81 : ∀ j, j ≠ 27 → mset (mset (mset N 95 a (nI b)) 95 b (nI a)) 81 27 (N 81 27 ||| (((1 : Int32) <<< (nI a &&& 31)) ||| ((1 : Int32) <<< (nI b &&& 31)))) 81 j = N 81 j := fun j hj => by rw [mset_nk hj, mset_ne (by decide), mset_ne (by decide)]
  have r27 : mset (mset (mset N 95 a (nI b)) 95 b (nI a)) 81 27 (N 81 27 ||| (((1 : Int32) <<< (nI a &&& 31)) ||| ((1 : Int32) <<< (nI b &&& 31)))) 81 27 = N 81 27 ||| (((1 : Int32) <<< (nI a &&& 31)) ||| ((1 : Int32) <<< (nI b &&& 31))) := mset_at _ _ _ _
  have rc : ∀ c, c ≠ 32 → mset (mset M 32 a (nI b)) 32 b (nI a) c = M c := fun c hc => by rw [mset_ne hc, mset_ne hc]
  have rl : ∀ k, k < 24 → bL ((tl ||| ((1 : Int64) <<< ((nI (8 + a)).toInt64 &&& 63))) ||| ((1 : Int64) <<< ((nI (8 + b)).toInt64 &&& 63))) k = (bL tl k || decide (k = 8 + a) || decide (k = 8 + b)) := fun k hk => by rw [bL_or _ (by omega) (by omega), bL_or _ (by omega) (by omega)]
  have rl2 : ∀ k, k < 64 → 14 ≤ k → bL ((tl ||| ((1 : Int64) <<< ((nI (8 + a)).toInt64 &&& 63))) ||| ((1 : Int64) <<< ((nI (8 + b)).toInt64 &&& 63))) k = bL tl k := fun k hk h14 => by rw [bL_or _ (by omega) (by omega), bL_or _ (by omega) (by omega), decide_eq_false (by omega), decide_eq_false (by omega), Bool.or_false, Bool.or_false]
  generalize (tl ||| ((1 : Int64) <<< ((nI (8 + a)).toInt64 &&& 63))) ||| ((1 : Int64) <<< ((nI (8 + b)).toInt64 &&& 63)) = t2 at rl rl2 ⊢
  have sa := v4 a ha.2 na
  have sb := v4 b hb.2 nb
  have l7' : ∀ k, k < 6 → mset (mset M 32 a (nI b)) 32 b (nI a) 32 k = if k = b then nI a else if k = a then nI b else N 95 k := by
    intro k hk
    rw [mset_if]
    by_cases e1 : k = b
    · rw [if_pos ⟨rfl, e1⟩, if_pos e1]
    · rw [if_neg (fun z => e1 z.2), if_neg e1, mset_if]
      by_cases e2 : k = a
      · rw [if_pos ⟨rfl, e2⟩, if_pos e2]
      · rw [if_neg (fun z => e2 z.2), if_neg e2]; exact l7 k hk
  generalize mset (mset (mset N 95 a (nI b)) 95 b (nI a)) 81 27 (N 81 27 ||| (((1 : Int32) <<< (nI a &&& 31)) ||| ((1 : Int32) <<< (nI b &&& 31)))) = V at r95 rr r81 r27 ⊢
  generalize mset (mset M 32 a (nI b)) 32 b (nI a) = W at rc l7' ⊢
  have inj : ∀ x y : Nat, x < 6 → y < 6 → nI x = nI y → x = y := fun x y hx hy e => nI_inj (by omega) (by omega) e
  obtain ⟨t1, t2', t3, t4, t5, t6⟩ := ht
  refine ⟨⟨?_, ?_, ?_, ?_, ?_, ?_, fun k hk => by rw [l7' k hk, r95 k], ?_⟩, ⟨?_, ?_, fun k hk => ?_, fun k hk q => ?_⟩, dscn_eq hs (rc 35 (by decide)) (rc 36 (by decide)) (rc 37 (by decide)) (rr 90 (by decide) (by decide)), ⟨?_, ?_, ?_, ?_, ?_, ?_⟩, ?_⟩
  · rw [rc 23 (by decide), r81 13 (by decide), r81 14 (by decide), r81 15 (by decide), r81 22 (by decide)]; exact s
  · rw [rc 24 (by decide), rr 91 (by decide) (by decide)]; exact l2
  · rw [rc 26 (by decide), rc 27 (by decide), rr 92 (by decide) (by decide)]; exact l3
  · rw [rc 29 (by decide), rc 30 (by decide), rr 93 (by decide) (by decide)]; exact l4
  · rw [rr 93 (by decide) (by decide)]; exact l5
  · rw [rc 31 (by decide), rr 94 (by decide) (by decide)]; exact l6
  · rw [rc 33 (by decide), rr 96 (by decide) (by decide)]; exact l8
  · rw [rr 94 (by decide) (by decide)]; exact v1
  · rw [r95 0, if_neg (by omega), if_neg (by omega)]; exact v2
  · by_cases e1 : k = b
    · subst e1
      exact ⟨a, ha.2, by rw [r95, if_pos rfl], by rw [r95, if_neg hab, if_pos rfl]⟩
    · by_cases e2 : k = a
      · subst e2
        exact ⟨b, hb.2, by rw [r95, if_neg e1, if_pos rfl], by rw [r95, if_pos rfl]⟩
      · obtain ⟨j, hj, j1, j2⟩ := v3 k hk
        have ja : j ≠ a := fun z => by subst z; rw [sa] at j2; exact e2 (inj _ _ (by omega) (by omega) j2).symm
        have jb : j ≠ b := fun z => by subst z; rw [sb] at j2; exact e1 (inj _ _ (by omega) (by omega) j2).symm
        exact ⟨j, hj, by rw [r95, if_neg e1, if_neg e2]; exact j1, by rw [r95, if_neg jb, if_neg ja]; exact j2⟩
  · rw [r27, bI_or2 _ (by omega) (by omega) (by omega)] at q
    rw [Bool.or_eq_false_iff, Bool.or_eq_false_iff] at q
    have n1 := of_decide_eq_false q.2.1
    have n2 := of_decide_eq_false q.2.2
    rw [r95, if_neg n2, if_neg n1]
    exact v4 k hk q.1
  · intro i hi
    rw [r81 23 (by decide), rl i (by omega), t1 i hi, decide_eq_false (by omega), decide_eq_false (by omega), Bool.or_false, Bool.or_false]
  · intro i hi
    rw [r81 25 (by decide), rl (4 + i) (by omega), t2' i hi, decide_eq_false (by omega), decide_eq_false (by omega), Bool.or_false, Bool.or_false]
  · intro i hi
    rw [r81 26 (by decide), rl (6 + i) (by omega), t3 i hi, decide_eq_false (by omega), decide_eq_false (by omega), Bool.or_false, Bool.or_false]
  · intro i hi
    rw [r27, rl (8 + i) (by omega), t4 i hi, bI_or2 _ (by omega) (by omega) (by omega), Bool.or_assoc]
    congr 1
    congr 1
    · exact decide_eq_decide.mpr (by omega)
    · exact decide_eq_decide.mpr (by omega)
  · intro i hi
    rw [r81 28 (by decide), rl2 (14 + i) (by omega) (by omega)]; exact t5 i hi
  · intro i hi
    rw [r81 24 (by decide), rl2 (18 + i) (by omega) (by omega)]; exact t6 i hi
  · have hh2 := dh_tl (V := V) hh (fun s hs => rl2 (18 + s) (by omega) (by omega)) (r81 29 (by decide))
    exact dh_eq hh2 (rc 36 (by decide)) (rc 37 (by decide)) rfl
end TWIN
theorem ln_twin {post : MM → Int64 → Prop} {M : MM} {tl : Int64} (hI : Inv M) (hp : ∀ (M1 : MM) (t1 : Int64), LC (fun p N u => wpX11_readLineOf p N u 17) M tl M1 t1 → post M1 t1) : wpX4_readTwins post M tl := by
  unfold wpX4_readTwins
  have opn : ∀ {post2 : MM → Int64 → Prop} {N : MM} {u : Int64}, wpX11_readKind (fun r23 M21 t22 => wpX11_readKind (fun r26 M24 t25 => (if (M24 81 36) = 0 then wX11_readLaw_50 post2 M24 t25 r23 r26 r23 r26 else (vp_in r23 (al 95) ∧ wX11_readLaw_50 post2 M24 t25 r23 r26 r23 (M24 95 (r23 : Int32).toNatClampNeg)))) M21 t22 ((M21 81 27) ||| ((1 : Int32) <<< (r23 &&& 31)))) N u (N 81 27) → wpX11_readLineOf post2 N u 17 := by
    intro post2 N u h
    unfold wpX11_readLineOf
    refine ifn (by decide) (ifn (by decide) (ifn (by decide) (ifn (by decide) (ifn (by decide) (ifn (by decide) (ifn (by decide) (ifp rfl ?_)))))))
    unfold wpX11_readLaw
    exact ifp rfl h
  refine u_namS 1 ws1 ne_1' (by decide) tl hI (fun r1 M1 i1 f1 s1 a1 b1 n1 => ?_)
  by_cases q : M1 22 2 = 0
  · obtain ⟨q0, j, hj, ej, gN⟩ := a1 q
    have hj : j < 5 := hj
    subst ej
    have e8 : (8 : Int32) + (nI j + 1) = nI (8 + (j + 1)) := by rw [nI_s1]; exact nM_add 8 (j + 1)
    rw [e8]
    refine u_tell (by omega) q (fun M2 t2 hT => ?_)
    rcases hT with ⟨et, ⟨bz, eM⟩ | ⟨bz, eM⟩⟩
    · subst eM
      refine u_namS 1 ws1 ne_1' (by decide) tl i1 (fun r2 M3 i3 f3 s3 a3 b3 n3 => ?_)
      have frC : CFr M M3 := cf_tk (cf_tk fr_rfl f1) f3
      by_cases q3 : M3 22 2 = 0
      · obtain ⟨_, j2, hj2, ej2, gN2⟩ := a3 q3
        have hj2 : j2 < 5 := hj2
        subst ej2
        have e8' : (8 : Int32) + (nI j2 + 1) = nI (8 + (j2 + 1)) := by rw [nI_s1]; exact nM_add 8 (j2 + 1)
        rw [e8']
        refine u_tell (by omega) q3 (fun M4 t4 hT4 => ?_)
        have bit2 : ∀ N2, DT tl N2 → bL t2 (8 + (j2 + 1)) = bI (N2 81 27 ||| ((1 : Int32) <<< (nI (j + 1) &&& 31))) (j2 + 1) := by
          intro N2 dt
          rw [et, bL_or _ (by omega) (by omega), bI_or _ (by omega) (by omega), dt.2.2.2.1 (j2 + 1) (by omega)]
          congr 1
          exact decide_eq_decide.mpr (by omega)
        rcases hT4 with ⟨et4, ⟨bz4, eM4⟩ | ⟨bz4, eM4⟩⟩
        · subst eM4
          refine ifp q3 ?_
          rw [nI_s1, nI_s1]
          refine And.intro (vp_nM (by decide) (by show _ < 6; omega)) ?_
          intro W e
          refine And.intro (vp_nM (by decide) (by show _ < 6; omega)) ?_
          intro W2 e2
          rw [tn_nI (by omega)] at e e2
          have c22 : W2 22 = M4 22 := by rw [e2, mset_ne (by decide), e]; exact mset_ne (by decide)
          have c1 : W2 1 = M4 1 := by rw [e2, mset_ne (by decide), e]; exact mset_ne (by decide)
          have c2 : W2 2 = M4 2 := by rw [e2, mset_ne (by decide), e]; exact mset_ne (by decide)
          refine hp W2 t4 ⟨by rw [e2, e]; exact inv_set (inv_set i3 (i_any _)) (i_any _), by rw [e2, e]; exact fr_arr (fr_arr frC (by decide)) (by decide), fun N h z => absurd q (n1 N h z).2, fun N u post2 h z k => opn ?_⟩
          obtain ⟨m, n34, w⟩ := gN N h
          have dm := (md_ok m q).2
          refine rk_found m.1 (md_ok m q).1.1 n34 hj w (rk_pass (by omega) m (by rw [← dm.2.2.2.1.2.2.2.1 (j + 1) (by omega)]; exact bz) (fun N2 f2 h2 => ?_))
          obtain ⟨m2, n342, w2⟩ := gN2 N2 h2
          have dm2 := (md_ok m2 q3).2
          have b2f : bI (N2 81 27 ||| ((1 : Int32) <<< (nI (j + 1) &&& 31))) (j2 + 1) = false := by rw [← bit2 N2 dm2.2.2.2.1]; exact bz4
          refine rk_found m2.1 (md_ok m2 q3).1.1 n342 hj2 w2 (rk_pass (by omega) m2 b2f (fun N3 f3' h3 => ?_))
          have fN : RFr N N3 := rf_nx (rf_nx fr_rfl f2) f3'
          refine ifs (fun c => tw_ok (by omega) (by omega) c (fun V eV => ?_)) (fun c => tw_f (by omega) (by omega) c h3.1 (fun V iV fV r97 r81 => ?_))
          · have e27 : N3 81 27 = N2 81 27 := f3' 81 27 (by decide) (by decide)
            rw [bI_or _ (by omega) (by omega), Bool.or_eq_false_iff] at b2f
            have ne := of_decide_eq_false b2f.2
            have iV : Inv V := by
              rw [eV]
              have lo : ∀ x, x < 6 → 0 ≤ nI x ∧ nI x ≤ 5 := fun x hx => ⟨nJ_ge0 (by omega), i_le (k := 5) (by decide) (by rw [nI_sm (by omega)]; omega)⟩
              exact inv_set (inv_set (inv_set h3.1 (show 0 ≤ nI (j2 + 1) ∧ nI (j2 + 1) ≤ 5 from lo _ (by omega))) (show 0 ≤ nI (j + 1) ∧ nI (j + 1) ≤ 5 from lo _ (by omega))) (i_any _)
            refine k V (by rw [eV]; exact fr_fld (fr_arr (fr_arr fN (by decide)) (by decide)) (by decide)) (bt_wrT h3 iV c22 c1 c2 (by rw [eV, mset_ne (by decide), mset_ne (by decide), mset_ne (by decide)]) (fun x h1 h2 => by rw [eV, mset_nk (by omega), mset_ne (by decide), mset_ne (by decide)]) (fun _ _ d => ?_))
            rw [e2, e, eV, et4, et]
            refine d_twin ⟨by omega, by omega⟩ ⟨by omega, by omega⟩ ?_ (by rw [e27]; exact b2f.1) (by omega) h3.1 d
            have e27' : N2 81 27 = N 81 27 := f2 81 27 (by decide) (by decide)
            rw [e27, e27', ← dm.2.2.2.1.2.2.2.1 (j + 1) (by omega)]; exact bz
          · exact k V (fr_call fN fV (fun _ h => h) (fun _ h => Or.inl h)) (bt_wrT h3 iV c22 c1 c2 r97 r81 (fun _ z _ => absurd z c))
        · have x4 : M4 22 2 ≠ 0 := by rw [eM4, mset_nk (by decide), mset_at]; decide
          refine ifn x4 (hp M4 t4 ⟨by rw [eM4]; exact inv_set (inv_set i3 (i_any _)) (i_any _), by rw [eM4]; exact cf_tk frC (tkf_set (tkf_set fr_rfl (by decide)) (by decide)), fun N h z => absurd q (n1 N h z).2, fun N u post2 h z k => opn ?_⟩)
          obtain ⟨m, n34, w⟩ := gN N h
          have dm := (md_ok m q).2
          refine rk_found m.1 (md_ok m q).1.1 n34 hj w (rk_pass (by omega) m (by rw [← dm.2.2.2.1.2.2.2.1 (j + 1) (by omega)]; exact bz) (fun N2 f2 h2 => ?_))
          obtain ⟨m2, n342, w2⟩ := gN2 N2 h2
          have tk2 := md_ok m2 q3
          refine rk_found m2.1 tk2.1.1 n342 hj2 w2 (rk_twice m2.1 tk2.1.1 (by omega) (by rw [← bit2 N2 tk2.2.2.2.2.1]; exact bz4) (fun N3 e3 => ?_))
          have x := fl_in m2.1 (by decide) e3
          have bd := bad_of (by decide) tk2.1.2.1 eM4 e3
          refine ifn (bad_n bd) (tw_f (by omega) (by omega) (bad_n bd) x.1 (fun V iV fV r97 r81 => ?_))
          exact k V (fr_call (rf_nx (rf_nx fr_rfl f2) x.2) fV (fun _ h => h) (fun _ h => Or.inl h)) (fin_bad bd (fl_tp (j := 0) m2.2.1 eM4 x.2) iV r97 r81)
      · refine u_tell_f q3 (ifn q3 (hp M3 t2 ⟨i3, frC, fun N h z => absurd q (n1 N h z).2, fun N u post2 h z k => opn ?_⟩))
        obtain ⟨m, n34, w⟩ := gN N h
        have dm := (md_ok m q).2
        refine rk_found m.1 (md_ok m q).1.1 n34 hj w (rk_pass (by omega) m (by rw [← dm.2.2.2.1.2.2.2.1 (j + 1) (by omega)]; exact bz) (fun N2 f2 h2 => ?_))
        obtain ⟨tp, hbd⟩ := (b3 q3).2 N2 h2
        refine rk_bad h2.1 tp hbd (fun N3 i3' f3' tp3 bd => ifn (bad_n bd) (tw_f (b := 0) (by omega) (by omega) (bad_n bd) i3' (fun V iV fV r97 r81 => ?_)))
        exact k V (fr_call (rf_nx (rf_nx fr_rfl f2) f3') fV (fun _ h => h) (fun _ h => Or.inl h)) (fin_bad bd tp3 iV r97 r81)
    · have x2 : M2 22 2 ≠ 0 := by rw [eM, mset_nk (by decide), mset_at]; decide
      refine tn_f x2 (u_tell_f x2 (ifn x2 (hp M2 t2 ⟨by rw [eM]; exact inv_set (inv_set i1 (i_any _)) (i_any _), by rw [eM]; exact cf_tk (cf_tk fr_rfl f1) (tkf_set (tkf_set fr_rfl (by decide)) (by decide)), fun N h z => absurd q (n1 N h z).2, fun N u post2 h z k => opn ?_⟩)))
      obtain ⟨m, n34, w⟩ := gN N h
      have tk := md_ok m q
      refine rk_found m.1 tk.1.1 n34 hj w (rk_twice m.1 tk.1.1 (by omega) (by rw [← tk.2.2.2.2.1.2.2.2.1 (j + 1) (by omega)]; exact bz) (fun N2 e2 => ?_))
      have x := fl_in m.1 (by decide) e2
      have bd := bad_of (by decide) tk.1.2.1 eM e2
      refine rf_readKind x.1 (bad_n bd) (ifn (bad_n bd) (tw_f (b := 0) (by omega) (by omega) (bad_n bd) x.1 (fun V iV fV r97 r81 => ?_)))
      exact k V (fr_call (rf_nx fr_rfl x.2) fV (fun _ h => h) (fun _ h => Or.inl h)) (fin_bad bd (fl_tp (j := 0) m.2.1 eM x.2) iV r97 r81)
  · refine u_tell_f q (tn_f q (u_tell_f q (ifn q (hp M1 tl ⟨i1, cf_tk fr_rfl f1, fun N h z => (n1 N h z).1, fun N u post2 h z k => opn ?_⟩))))
    obtain ⟨tp, hbd⟩ := (b1 q).2 N h
    refine rk_bad h.1 tp hbd (fun N2 i2 f2 tp2 bd => rf_readKind i2 (bad_n bd) (ifn (bad_n bd) (tw_f (a := 0) (b := 0) (by omega) (by omega) (bad_n bd) i2 (fun V iV fV r97 r81 => ?_))))
    exact k V (fr_call (rf_nx fr_rfl f2) fV (fun _ h => h) (fun _ h => Or.inl h)) (fin_bad bd tp2 iV r97 r81)
