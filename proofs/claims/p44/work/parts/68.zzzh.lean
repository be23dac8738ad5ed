/-! THE START OF THE TEXT, on both sides -/
theorem g_2 {post : MM → Int64 → Prop} {tl : Int64} (hp : ∀ M1 : MM, FN M1 → post M1 tl) : ∀ (d i : Nat), i + d = 127 → ∀ M : MM, (∀ j, j < i → M 90 j = 0) → wX11_firstDraft_2 post (d + 1) M tl (nI i) := by
  intro d
  induction d with
  | zero =>
    intro i hi M h
    have hi : i = 127 := by omega
    subst hi
    unfold wX11_firstDraft_2
    refine ifp (by decide) ?_
    intro M1 e1 M2 e2 M3 e3
    refine ⟨5, g_38 (hp _ ?_)⟩
    subst e1 e2 e3
    exact fn_sets M (fun s hs => h s (by omega))
  | succ d ih =>
    intro i hi M h
    unfold wX11_firstDraft_2
    refine ifn ?_ ⟨?_, ?_⟩
    · intro z
      have := i_ge_to (k := 127) (by decide) z
      rw [nI_sm (by omega)] at this
      omega
    · have a := nJ_ge0 (i := i) (by omega)
      unfold vp_in
      rw [fa_90, tn_nI (by omega)]
      intro z
      rcases z with z | z
      · lia
      · omega
    · intro W e
      rw [nI_s1]
      refine ih (i + 1) (by omega) W (fun j hj => ?_)
      rw [e, tn_nI (by omega), mset_if]
      by_cases y : j = i
      · rw [if_pos ⟨rfl, y⟩]
      · rw [if_neg (fun z => y z.2)]
        exact h j (by omega)
theorem u_firstDraft {post : MM → Int64 → Prop} {N : MM} {u : Int64} (hI : Inv N) (hp : ∀ N1 : MM, Inv N1 → Fr [90, 91, 92, 93, 94, 95, 96] [(81, 13), (81, 14), (81, 15), (81, 22), (81, 23), (81, 24), (81, 25), (81, 26), (81, 27), (81, 28), (81, 29)] N N1 → FN N1 → post N1 u) : wpX11_firstDraft post N u := by
  have a : wpX11_firstDraft (fun N1 _ => Inv N1 ∧ Fr [90, 91, 92, 93, 94, 95, 96] [(81, 13), (81, 14), (81, 15), (81, 22), (81, 23), (81, 24), (81, 25), (81, 26), (81, 27), (81, 28), (81, 29)] N N1) N u := sf_X11_firstDraft hI (fun M1 t1 i f _ => ⟨i, f⟩)
  have b : wpX11_firstDraft (fun N1 t1 => FN N1 ∧ t1 = u) N u := ⟨128, g_2 (fun M1 f => ⟨f, rfl⟩) 127 0 rfl N (fun j hj => absurd hj (by omega))⟩
  refine cj_wpX11_firstDraft (fun M1 t1 x y => ?_) a b
  obtain ⟨y1, y3⟩ := y
  subst y3
  exact hp M1 x.1 x.2 y1
theorem d_first {M N : MM} (c : FC M) (n : FN N) : D M 0 N := by
  obtain ⟨⟨c0, c1, c2, c3⟩, c4, c5, c6, ⟨c7, c8⟩, c9, cA, cB, cC⟩ := c
  obtain ⟨⟨n0, n1, n2, n3⟩, n4, n5, n6, ⟨n7, n8⟩, ⟨n9, nA⟩, nB, nC, nD, ⟨m0, m1, m2, m3, m4, m5, m6⟩⟩ := n
  refine ⟨⟨⟨by rw [c0, n0], by rw [c1, n1], by rw [c2, n2], by rw [c3, n3]⟩, fun q h => by rw [c4 q h, n4 q h], fun k h g => by rw [(c5 k h g).1, (c5 k h g).2, (n5 k h g).1, (n5 k h g).2]; exact ⟨rfl, rfl⟩, fun k h g => by rw [(c6 k h g).1, (c6 k h g).2, (n6 k h g).1, (n6 k h g).2]; exact ⟨rfl, rfl⟩, ⟨n7, n8⟩, ⟨by rw [c7, n9], by rw [c8, nA]⟩, fun k h => by rw [c9 k h, nB k h], fun k h => by rw [cA k h, nC k h]⟩, ?_, ?_, ?_, ?_⟩
  · refine ⟨⟨by rw [n9]; exact bI_0 _, by rw [nA]; exact bI_0 _⟩, by rw [nB 0 (by omega)]; rfl, fun k h => ⟨k, h, nB k h, nB k h⟩, fun k h _ => nB k h⟩
  · refine ⟨fun s h => by rw [cB s h, nD s (by omega)], by rw [cC, nD 16 (by omega)], fun w c hw h _ => ?_⟩
    rw [cC] at h
    have := nJ_ge0 (i := w) (by omega)
    lia
  · unfold DT
    rw [m0, m1, m2, m3, m4, m5]
    refine ⟨fun i _ => ?_, fun i _ => ?_, fun i _ => ?_, fun i _ => ?_, fun i _ => ?_, fun i _ => ?_⟩ <;> rw [bL_0, bI_0]
  · refine ⟨fun b i _ _ h => ?_, fun w hw h => ?_, Or.inl m6⟩
    · rw [bL_0] at h
      exact absurd h (by decide)
    · rw [cC] at h
      have := nJ_ge0 (i := w) (by omega)
      lia
/-- all that the text has, read on both sides; the reference at its end -/
theorem u_readAll {post : MM → Int64 → Prop} {M : MM} {tl : Int64} (hI : Inv M) (hb : HB M) (hp : ∀ (M1 : MM) (t1 : Int64), Inv M1 → CFr M M1 → (∀ (N : MM) (u : Int64) (post2 : Int32 → MM → Int64 → Prop), Inv N → Tp M N → (∀ N1, RFr N N1 → Inv N1 → N1 81 36 = M1 22 2 → (M1 22 2 ≠ 0 → N1 81 37 = M1 22 3) → (M1 22 2 = 0 → D M1 t1 N1) → wX11_text_73 post2 N1 u (M1 22 4)) → wpX11_text post2 N u) → post M1 t1) : wpX4_readAll post M tl := by
  unfold wpX4_readAll
  refine u_restart hI (fun A iA fA cA zA => ?_)
  obtain ⟨z2, z3, z4, z6⟩ := zA
  have gA : CFr M A := fr_call fr_rfl fA (by decide) (by decide)
  have bA : HB A := cf_hb gA hb
  have T1 := u_tok2 (tl := 0) (post := fun B t => t = 0 ∧ Inv B ∧ TkF A B ∧ SB B ∧ ∀ N, Bt A 0 N → Md B 0 N) iA (fun B i f _ s m => ⟨rfl, i, f, s, m⟩)
  have T2 := pg_tok (tl := 0) (post := fun B t => PG (A 22 6) B) iA bA (fun _ => by rw [z6]; exact (iv_1_1 iA).1) (fun B _ _ _ g => g)
  refine cj_wpX4_takeToken (fun B t x g => ?_) T1 T2
  obtain ⟨et, iB, fB, sB, mB⟩ := x
  subst et
  have hB : CFr M B := cf_tk gA fB
  rw [z6] at g
  refine ⟨401, u_all10 400 0 rfl B 0 iB (cf_hb hB hb) sB g (fun C tC al => ?_)⟩
  obtain ⟨iC, fC, gC, eC, kC⟩ := al
  refine u_59 iC gC eC (fun E iE fE lE nE kE => ?_)
  refine hp E tC iE (fr_call (fr_call hB fC (by decide) (by decide)) fE (by decide) (by decide)) (fun N u post2 iN tp k => ?_)
  have b4 : B 22 4 = 0 := (fB 22 4 (by simp) (by simp)).trans z4
  unfold wpX11_text
  intro N1 e1 N2 e2
  have f2 : RFr N N2 := by rw [e2, e1]; exact fr_fld (fr_fld fr_rfl (by decide)) (by decide)
  have i2 : Inv N2 := by rw [e2, e1]; exact inv_set (inv_set iN (by decide)) (by decide)
  have x36 : N2 81 36 = 0 := by rw [e2, mset_nk (by decide), e1, mset_at]
  have x32 : N2 81 32 = 0 := by rw [e2, mset_at]
  refine u_firstDraft i2 (fun N3 i3 f3 n3 => ?_)
  have y36 : N3 81 36 = 0 := (f3 81 36 (by decide) (by decide)).trans x36
  have y32 : N3 81 32 = 0 := (f3 81 32 (by decide) (by decide)).trans x32
  have f3' : RFr N N3 := fr_call f2 f3 (by decide) (by decide)
  have t3 : Tp A N3 := tp_eq tp (fA 1 1 (by decide) (by decide)) (funext fun j => fA 2 j (by decide) (by simp)) (f3' 81 31 (by decide) (by decide)) (funext fun j => f3' 97 j (by decide) (by simp))
  refine lx_next i3 y36 (fun N5 i5 f5 l5 => ?_)
  have t5 : Tp A N5 := tp_nx f5 t3
  have bt : Bt A 0 N5 := by
    refine ⟨i5, t5, Or.inl ⟨z2, ?_, fun _ => d_nx f5 (d_first cA n3)⟩⟩
    rw [z6, t3.1, t3.2]
    rw [y32] at l5
    exact l5
  have f5' : RFr N N5 := fr_call f3' f5 (by decide) (by decide)
  have q := kC N5 u post2 (mB N5 bt) (fun N6 f6 m6 => kE N6 u _ post2 m6 (fun N7 f7 i7 p7 q7 r7 => ?_))
  · rw [b4] at q
    exact ⟨401, q⟩
  · rw [← lE]
    refine k N7 (fr_call (fr_call f5' f6 (by decide) (by decide)) f7 (by decide) (by decide)) i7 p7 q7 (fun z => ?_)
    rw [r7 z, nE z]
    exact (md_ok m6 (by rw [← nE z]; exact z)).2
