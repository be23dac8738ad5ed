/-! ARE ALL LOTS: the class's allLotsAre against the reference's highest lot -/
def NoLot (M : MM) (tl : Int64) : Prop := (∃ b i, b < 2 ∧ i < 8 ∧ M 23 0 ≤ nI i ∧ bL tl (18 + (8 * b + i)) = true) ∨ ∃ w, w < 12 ∧ nI w < M 36 3 ∧ M 23 0 ≤ M 37 (4 * w + 2)
def AllLot (M : MM) (tl : Int64) : Prop := (∀ b i, b < 2 → i < 8 → M 23 0 ≤ nI i → bL tl (18 + (8 * b + i)) = false) ∧ ∀ w, w < 12 → nI w < M 36 3 → M 37 (4 * w + 2) < M 23 0
section ALLL
variable {post : Int32 → MM → Int64 → Prop} {M : MM} {tl : Int64}
theorem al_57 (hI : Inv M) (h0 : ∀ b i, b < 2 → i < 8 → M 23 0 ≤ nI i → bL tl (18 + (8 * b + i)) = false) (hp1 : AllLot M tl → post 1 M tl) (hp0 : NoLot M tl → post 0 M tl) : ∀ (d w : Nat), w + d = 12 → (∀ v, v < w → nI v < M 36 3 → M 37 (4 * v + 2) < M 23 0) → wX4_allLotsAre_57 post (d + 1) M tl (nI w) := by
  have b36 := iv_36_3 hI
  intro d
  induction d with
  | zero =>
    intro w hw h
    have hw : w = 12 := by omega
    subst hw
    unfold wX4_allLotsAre_57
    refine ifp ?_ (hp1 ⟨h0, fun v hv => h v (by omega)⟩)
    have e : (nI 12 : Int32) = 12 := rfl
    rw [e]; exact b36.2
  | succ d ih =>
    intro w hw h
    unfold wX4_allLotsAre_57
    refine ifs (fun c => hp1 ⟨h0, fun v hv y => ?_⟩) (fun c => ?_)
    · by_cases z : v < w
      · exact h v z y
      · have : nI w ≤ nI v := nJ_le (by omega) (by omega)
        exact absurd y (by clear h h0 ih; lia)
    · have w0 := nJ_ge0 (i := w) (by omega)
      have e4 : (nI (wd 36) : Int32) = nI 4 := by decide
      unfold wpX5_cell
      refine ifn (by lia) (And.intro (by decide) (ifn c (ifn (by decide) (And.intro (by decide) (ifp (by decide) (And.intro (by decide) (And.intro (by decide) (And.intro (by decide) ?_))))))))
      have e0 : nI w * (nI (wd 36) : Int32) + 2 = nI (4 * w + 2) := by rw [e4]; exact ix_4 (c := 2)
      rw [e0, tn_nI (by omega)]
      refine And.intro (vp_nM (by decide) (by show _ < 48; omega)) (ifs (fun c2 => ?_) (fun c2 => hp0 (Or.inr ⟨w, by omega, by lia, ?_⟩)))
      · rw [nI_s1]
        refine ih (w + 1) (by omega) (fun v hv y => ?_)
        by_cases z : v = w
        · subst z; exact c2
        · exact h v (by omega) y
      · have c2 : ¬ M 37 (4 * w + 2) < M 23 0 := c2
        show M 23 0 ≤ M 37 (4 * w + 2)
        clear h h0 ih; lia
theorem al_15 {bk : MM → Int64 → Int32 → Prop} {b : Nat} (hb : b < 2) (hp0 : NoLot M tl → post 0 M tl) (hk : (∀ i, i < 8 → M 23 0 ≤ nI i → bL tl (18 + (8 * b + i)) = false) → bk M tl (nI (b + 1))) : ∀ (d i : Nat), i + d = 8 → M 23 0 ≤ nI i → (∀ v, v < i → M 23 0 ≤ nI v → bL tl (18 + (8 * b + v)) = false) → wX4_allLotsAre_15 post bk (d + 1) M tl (nI b) (nI i) := by
  intro d
  induction d with
  | zero =>
    intro i hi hl h
    have hi : i = 8 := by omega
    subst hi
    unfold wX4_allLotsAre_15
    refine ifp (by decide) ?_
    rw [nI_s1]
    exact hk (fun v hv => h v (by omega))
  | succ d ih =>
    intro i hi hl h
    have b8 := nI_le4 (i := i) (n := 8) (by omega) (by decide)
    have e8 : (nI 8 : Int32) = 8 := rfl
    rw [e8] at b8
    unfold wX4_allLotsAre_15 wpX10_slot
    refine ifn (by lia) ?_
    show (if lg_cmp ((tl >>> (((18 : Int32) + (nI b * 8 + nI i) : Int32).toInt64 &&& 63)) &&& 1) 0 = 0 then wX4_allLotsAre_15 post bk (d + 1) M tl (nI b) (nI i + 1) else post 0 M tl)
    have e18 : (18 : Int32) + (nI b * 8 + nI i) = nI (18 + (8 * b + i)) := by rw [ix_8c]; exact nM_add 18 (8 * b + i)
    rw [e18]
    refine ifs (fun c => ?_) (fun c => ?_)
    · rw [lgc_0, bL_test _ (by omega)] at c
      rw [nI_s1]
      refine ih (i + 1) (by omega) (by rw [← nI_s1]; clear h ih; lia) (fun v hv y => ?_)
      by_cases z : v = i
      · subst z; exact c
      · exact h v (by omega) y
    · rw [lgc_0, bL_test _ (by omega)] at c
      exact hp0 (Or.inl ⟨b, i, hb, by omega, hl, by simpa using c⟩)
theorem al_all (hI : Inv M) (hl0 : 0 ≤ M 23 0) (hp1 : AllLot M tl → post 1 M tl) (hp0 : NoLot M tl → post 0 M tl) : wpX4_allLotsAre post M tl := by
  have hl := iv_23_0 hI
  obtain ⟨l, el, hl9⟩ := code_of (hi := 8) (v := M 23 0) ⟨i_ge_to (k := 0) (by decide) hl0, i_le_to (k := 8) (by decide) hl.2⟩ (by decide)
  have st : ∀ (b : Nat) (v : Nat), v < l → M 23 0 ≤ nI v → bL tl (18 + (8 * b + v)) = false := fun b v hv y => by
    have := nI_ltl (i := v) (k := l) hv (by omega)
    rw [el] at y
    exact absurd y (by lia)
  have r : M 23 0 ≤ nI l := by rw [el]; lia
  unfold wpX4_allLotsAre
  refine ⟨0 + 1 + 1 + 1, ?_⟩
  unfold wX4_allLotsAre_2
  refine ifn (by decide) ⟨(8 - l) + 1, ?_⟩
  have key0 : wX4_allLotsAre_15 post (wX4_allLotsAre_2 post (0 + 1 + 1)) ((8 - l) + 1) M tl (nI 0) (nI l) := by
    refine al_15 (b := 0) (by decide) hp0 (fun h0 => ?_) (8 - l) l (by omega) r (fun v hv => st 0 v hv)
    unfold wX4_allLotsAre_2
    refine ifn (by decide) ⟨(8 - l) + 1, ?_⟩
    have key1 : wX4_allLotsAre_15 post (wX4_allLotsAre_2 post (0 + 1)) ((8 - l) + 1) M tl (nI 1) (nI l) := by
      refine al_15 (b := 1) (by decide) hp0 (fun h1 => ?_) (8 - l) l (by omega) r (fun v hv => st 1 v hv)
      unfold wX4_allLotsAre_2
      refine ifp (by decide) ⟨12 + 1, al_57 hI (fun b i hb hi => ?_) hp1 hp0 12 0 (by omega) (fun v hv => absurd hv (by omega))⟩
      rcases (by omega : b = 0 ∨ b = 1) with z | z <;> subst z
      · exact h0 i hi
      · exact h1 i hi
    rw [← el] at key1
    exact key1
  rw [← el] at key0
  exact key0
end ALLL
theorem dh_no {M N : MM} {tl : Int64} (d : D M tl N) (h : NoLot M tl) : N 81 13 ≤ N 81 29 := by
  obtain ⟨hl, _, _, _, h1, h2, _⟩ := d
  have e := hl.1.1
  rcases h with ⟨b, i, hb, hi, y, q⟩ | ⟨w, hw, y, q⟩
  · have := h1 b i hb hi q
    rw [e] at y
    clear h1 h2 hl; lia
  · have := h2 w hw y
    rw [e] at q
    clear h1 h2 hl; lia
theorem dh_all {M N : MM} {tl : Int64} (iN : Inv N) (d : D M tl N) (h : AllLot M tl) : N 81 29 < N 81 13 := by
  obtain ⟨hl, _, _, _, _, _, h3⟩ := d
  have e := hl.1.1
  have b := iv_81_13 iN
  rcases h3 with z | ⟨b', i, hb, hi, q, y⟩ | ⟨w, hw, y, q⟩
  · rw [z]; clear hl h; lia
  · by_cases c : M 23 0 ≤ nI i
    · have := h.1 b' i hb hi c
      rw [q] at this
      exact Bool.noConfusion this
    · rw [← y, ← e]; clear hl h; lia
  · have := h.2 w hw y
    rw [q] at this
    rw [← e]; exact this
theorem u_59 {post : MM → Int64 → Prop} {M : MM} {tl : Int64} (hI : Inv M) (hg : PG 0 M) (hz : M 22 2 = 0 → M 22 8 = 0) (hp : ∀ M1 : MM, Inv M1 → CFr M M1 → M1 22 4 = M 22 4 → (M1 22 2 = 0 → M1 = M) → (∀ (N : MM) (u : Int64) (m : Int32) (post2 : Int32 → MM → Int64 → Prop), Md M tl N → (∀ N1, RFr N N1 → Inv N1 → N1 81 36 = M1 22 2 → (M1 22 2 ≠ 0 → N1 81 37 = M1 22 3) → (M1 22 2 = 0 → N1 = N) → wX11_text_73 post2 N1 u m) → wX11_text_44 post2 N u m) → post M1 tl) : wX4_readAll_59 post M tl := by
  unfold wX4_readAll_59
  refine ifs (fun q => ?_) (fun q => ?_)
  · have good : (∀ N, Md M tl N → N 81 29 < N 81 13) → post M tl := by
      intro hh
      refine hp M hI fr_rfl rfl (fun _ => rfl) (fun N u m post2 md k => ?_)
      have t := md_ok md q
      unfold wX11_text_44
      refine ifp t.1.1 (ifn (by have := hh N md; lia) ?_)
      unfold wX11_text_68
      exact nd_1 (by decide) (k N fr_rfl md.1 (by rw [t.1.1, q]) (fun z => absurd q z) (fun _ => rfl))
    have bad : (∀ N, Md M tl N → N 81 13 ≤ N 81 29) → ∀ W : MM, W = mset (mset M 22 2 6) 22 3 (M 1 1) → post W tl := by
      intro hh W e
      have w2 : W 22 2 = 6 := by rw [e, mset_nk (by decide)]; exact mset_at _ _ _ _
      have w3 : W 22 3 = M 1 1 := by rw [e]; exact mset_at _ _ _ _
      refine hp W (by rw [e]; exact inv_set (inv_set hI (i_any _)) (i_any _)) (by rw [e]; exact fr_fld (fr_fld fr_rfl (by decide)) (by decide)) (by rw [e, mset_nk (by decide), mset_nk (by decide)]) (fun z => absurd (w2.symm.trans z) (by decide)) (fun N u m post2 md k => ?_)
      have t := md_ok md q
      have g := (hg q).2.2.1 (hz q)
      unfold wX11_text_44
      refine ifp t.1.1 (ifp (hh N md) ?_)
      unfold wX11_text_68
      refine nd_0 t.1.1 (fun N1 e1 => ?_)
      have x := fl_in md.1 (by decide) e1
      refine k N1 (rf_nx fr_rfl x.2) x.1 ?_ (fun _ => ?_) (fun z => absurd (w2.symm.trans z) (by decide))
      · rw [w2, e1, mset_nk (by decide), mset_at]
      · rw [w3, e1, mset_at, ← t.1.2.1]; exact g
    by_cases l0 : 0 ≤ M 23 0
    · refine al_all hI l0 (fun h => ifn (by decide) (good (fun N md => dh_all md.1 (md_ok md q).2 h))) (fun h => ifp rfl ?_)
      unfold wpX4_fail
      intro W0 e0 W e
      subst e0
      refine bad (fun N md => dh_no (md_ok md q).2 h) W e
    · have none : ∀ N, ¬ Md M tl N := fun N md => by
        have e := (md_ok md q).2.1.1.1
        have b := iv_81_13 md.1
        rw [← e] at b
        exact l0 b.1
      refine sf_X4_allLotsAre hI (fun r _ => ifs (fun _ => ?_) (fun _ => good (fun N md => absurd md (none N))))
      unfold wpX4_fail
      intro W0 e0 W e
      subst e0
      exact bad (fun N md => absurd md (none N)) W e
  · refine hp M hI fr_rfl rfl (fun z => absurd z q) (fun N u m post2 md k => ?_)
    have bd := md_f0 md q
    unfold wX11_text_44
    exact ifn (bad_n bd) (k N fr_rfl md.1 bd.2.1 (fun _ => bd.2.2) (fun z => absurd z q))
