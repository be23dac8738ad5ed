/-! TEXT once more, with what it leaves -/
def ZK (N : MM) : Prop := N 81 36 = 0 → N 82 65 = 0 ∧ N 82 78 = 0
theorem g_2z {post : MM → Int64 → Prop} {tl : Int64} (hp : ∀ M1 : MM, ZD M1 → post M1 tl) : ∀ (d i : Nat), i + d = 127 → ∀ M : MM, (∀ j, j < i → M 90 j = 0) → wX11_firstDraft_2 post (d + 1) M tl (nI i) := by
  intro d
  induction d with
  | zero =>
    intro i hi M h
    have hi : i = 127 := by omega
    subst hi
    unfold wX11_firstDraft_2
    refine ifp (by decide) ?_
    intro M1 e1 M2 e2 M3 e3
    refine ⟨5, g_38 (hp _ ?_)⟩
    subst e1 e2 e3
    exact ⟨h 65 (by omega), h 78 (by omega)⟩
  | succ d ih =>
    intro i hi M h
    unfold wX11_firstDraft_2
    refine ifn ?_ ⟨?_, ?_⟩
    · intro z
      have := i_ge_to (k := 127) (by decide) z
      rw [nI_sm (by omega)] at this
      omega
    · have a := nJ_ge0 (i := i) (by omega)
      unfold vp_in
      rw [fa_90, tn_nI (by omega)]
      intro z
      rcases z with z | z
      · lia
      · omega
    · intro W e
      rw [nI_s1]
      refine ih (i + 1) (by omega) W (fun j hj => ?_)
      rw [e, tn_nI (by omega), mset_if]
      by_cases y : j = i
      · rw [if_pos ⟨rfl, y⟩]
      · rw [if_neg (fun z => y z.2)]
        exact h j (by omega)
section ZS
variable {p : Int32 → MM → Int64 → Prop}
theorem zs_73 {N : MM} {u : Int64} {v : Int32} (hI : Inv N) (hz : ZD N) (h : wX11_text_73 p N u v) : wX11_text_73 (fun r N1 t => p r N1 t ∧ ZK N1) N u v := by
  unfold wX11_text_73 at h ⊢
  intro W e
  have h := h W e
  have iW : Inv W := by rw [e]; exact inv_set hI (show 0 ≤ (0 : Int32) ∧ (0 : Int32) ≤ 400 by decide)
  have zW : ZD W := zd_eq hz (by rw [e, mset_ne (by decide)])
  refine ifs (fun c => ?_) (fun c => ⟨iq c h, fun z => absurd (show W 81 36 ≤ 0 by rw [z]; decide) c⟩)
  obtain ⟨N2, t2, h2, w2⟩ := dt_wpX11_keepDraft _ _ _ (ip c h)
  refine w2 _ ⟨h2, fun _ => ?_⟩
  obtain ⟨N3, e3, k⟩ := el_keepDraft iW (w2 (fun A _ => A = N2) rfl)
  subst e3
  rw [k.1 65 (by omega), k.1 78 (by omega)]
  exact zW
theorem zs_68 {N : MM} {u : Int64} {v s : Int32} (hI : Inv N) (hz : ZD N) (h : wX11_text_68 p N u v s) : wX11_text_68 (fun r N1 t => p r N1 t ∧ ZK N1) N u v s := by
  unfold wX11_text_68 at h ⊢
  refine cj_wpX11_needs (fun N1 t1 h g => ?_) h (sf_X11_needs (post := fun N1 _ => Inv N1 ∧ Fr [] [(81, 36), (81, 37)] N N1) hI (by decide) (fun _ _ a b _ => ⟨a, b⟩))
  exact zs_73 g.1 (zd_fr hz g.2 (by decide)) h
theorem zs_44 {N : MM} {u : Int64} {v : Int32} (hI : Inv N) (hz : ZD N) (h : wX11_text_44 p N u v) : wX11_text_44 (fun r N1 t => p r N1 t ∧ ZK N1) N u v := by
  unfold wX11_text_44 at h ⊢
  exact ifs (fun c => ifs (fun c2 => zs_68 hI hz (ip c2 (ip c h))) (fun c2 => zs_68 hI hz (iq c2 (ip c h)))) (fun c => zs_73 hI hz (iq c h))
theorem zs_20 : ∀ (n : Nat) (N : MM) (u : Int64) (v : Int32), Inv N → ZD N → wX11_text_20 p n N u v → wX11_text_20 (fun r N1 t => p r N1 t ∧ ZK N1) n N u v := by
  intro n
  induction n with
  | zero => intro N u v _ _ h; exact h.elim
  | succ n ih =>
    intro N u v hI hz h
    unfold wX11_text_20 at h ⊢
    refine ifs (fun c => ifs (fun c2 => zs_44 hI hz (ip c2 (ip c h))) (fun c2 => ?_)) (fun c => zs_44 hI hz (iq c h))
    have h := iq c2 (ip c h)
    have a := sf_X11_readLine (tl := u) (post := fun N1 _ => Inv N1) hI (fun _ _ a _ _ => a)
    have b := zr_readLine (u := u) (post := fun N1 _ => ZD N1) hI hz (fun _ _ z => z)
    refine cj_wpX11_readLine (fun N1 t1 h g => ih _ _ _ g.1 g.2 h) h (cj_wpX11_readLine (s := fun N1 _ => Inv N1 ∧ ZD N1) (fun _ _ x y => ⟨x, y⟩) a b)
theorem zs_text {N : MM} {u : Int64} (hI : Inv N) (h : wpX11_text p N u) : wpX11_text (fun r N1 t => p r N1 t ∧ ZK N1) N u := by
  unfold wpX11_text at h ⊢
  intro W1 e1 W2 e2
  have h := h W1 e1 W2 e2
  have i2 : Inv W2 := by rw [e2, e1]; exact inv_set (inv_set hI (by decide)) (by decide)
  have a := sf_X11_firstDraft (tl := u) (post := fun N1 _ => Inv N1) i2 (fun _ _ a _ _ => a)
  have b : wpX11_firstDraft (fun N1 _ => ZD N1) W2 u := ⟨128, g_2z (fun M1 f => f) 127 0 rfl W2 (fun j hj => absurd hj (by omega))⟩
  refine cj_wpX11_firstDraft (fun N3 t3 h g => ?_) h (cj_wpX11_firstDraft (s := fun N1 _ => Inv N1 ∧ ZD N1) (fun _ _ x y => ⟨x, y⟩) a b)
  refine cj_wpX11_next (fun N5 t5 h g5 => ?_) h (sf_X11_next (post := fun N1 _ => Inv N1 ∧ Fr [] [(81, 32), (81, 33), (81, 34), (81, 35), (81, 36), (81, 37)] N3 N1) g.1 (fun _ _ a b _ => ⟨a, b⟩))
  obtain ⟨n, h⟩ := h
  exact ⟨n, zs_20 n N5 t5 0 g5.1 (zd_fr g.2 g5.2 (by decide)) h⟩
end ZS
theorem rl_make {M N M2 N2 : MM} {tl : Int64} (d : D M tl N) (c : CL M M2) (k : KD N N2) (i : Inv N2) : RLw M2 N2 := by
  obtain ⟨⟨⟨l0, l1, l2, l3⟩, l4, l5, l6, ⟨l7, l8⟩, ⟨l9, lA⟩, lB, lC⟩, ⟨⟨v0, v1⟩, v2, v3, _⟩, _⟩ := d
  obtain ⟨⟨c0, c1, c2, c3⟩, c4, c5, c6, c7, c8, c9⟩ := c
  obtain ⟨_, ⟨k0, k1, k2⟩, k3, k4, ⟨k5, k6⟩, k7, k8, _⟩ := k
  refine ⟨⟨by rw [c0, l0, k0], by rw [c1, l1, k1], by rw [c2, l2, k2]⟩, fun q h => by rw [c4 q h, l4 q h, (k3 q h).1], fun b k' hb hk h => ?_, fun b hb => ?_, fun b k' hb hk h => ?_, fun b hb => ?_, fun b hb => ?_, fun k' h => by rw [c8 k' h, lB k' h, k7 k' h], fun k' h => ?_, fun q h => ⟨by rw [c9 q h, lC q h, (k3 q h).2], ?_⟩, iv_81_2 i, iv_81_3 i⟩
  · rcases (by omega : b = 0 ∨ b = 1) with e | e <;> subst e
    · show M2 6 k' = N2 85 (6 * 0 + k')
      rw [(c5 k' hk).1, (l5 k' hk h).1, (k4 (6 * 0 + k') (by omega)).1, if_neg (by omega), Nat.mul_zero, Nat.zero_add]
    · show M2 7 k' = N2 85 (6 * 1 + k')
      rw [(c5 k' hk).2, (l5 k' hk h).2, (k4 (6 * 1 + k') (by omega)).1, if_neg (by omega)]
  · rw [(k4 (6 * b) (by omega)).1, if_pos (by omega), k2]
  · rcases (by omega : b = 0 ∨ b = 1) with e | e <;> subst e
    · show M2 9 k' = N2 86 (6 * 0 + k')
      rw [(c6 k' hk).1, (l6 k' hk h).1, (k4 (6 * 0 + k') (by omega)).2, Nat.mul_zero, Nat.zero_add]
    · show M2 10 k' = N2 86 (6 * 1 + k')
      rw [(c6 k' hk).2, (l6 k' hk h).2, (k4 (6 * 1 + k') (by omega)).2]
  · rw [(k4 (6 * b) (by omega)).2]
    rcases (by omega : b = 0 ∨ b = 1) with e | e <;> subst e
    · exact l7
    · exact l8
  · rcases (by omega : b = 0 ∨ b = 1) with e | e <;> subst e
    · rw [c7 0 hb, l9, k5]; exact ⟨rfl, v0⟩
    · rw [c7 1 hb, lA, k6]; exact ⟨rfl, v1⟩
  · obtain ⟨j, hj, e1, e2⟩ := v3 k' h
    refine ⟨j, hj, by rw [k7 k' h, e1], ⟨fun z => ?_, fun z => ?_⟩, ?_⟩
    · subst z
      rw [v2] at e1
      exact (kI_inj (a := 0) (by omega) (by omega) e1).symm
    · subst z
      rw [v2] at e2
      exact (kI_inj (a := 0) (by omega) (by omega) e2).symm
    · have x := k8 k' h
      rw [c3, l3]
      have y : (∃ q, q < 6 ∧ bI (N 81 22) q = true ∧ N 95 q = nI k') ↔ bI (N 81 22) j = true := by
        constructor
        · rintro ⟨q, hq, y1, y2⟩
          obtain ⟨j2, hj2, f1, f2⟩ := v3 q hq
          rw [y2] at f1
          have e := kI_inj (by omega) (by omega) f1
          subst e
          rw [e1] at f2
          have e := kI_inj (by omega) (by omega) f2
          subst e
          exact y1
        · intro z
          exact ⟨j, hj, z, e2⟩
      rw [y] at x
      rw [Bool.eq_iff_iff, x]
      simp
  · have b := iv_89 i q
    exact cdN 4 (by omega) b.1 (show _ < (4 : Int32) by lia)
theorem rs_make {M N M2 N2 : MM} {tl : Int64} (d : D M tl N) (t : TTC M) (l : LotsOK M) (z : N2 82 65 = 0 ∧ N2 82 78 = 0) (c : CS M 34 M2 14) (k : KD N N2) : RSg M2 14 (N2 82) (N2 81 2) := by
  have hL : N2 81 2 = M 23 0 := by rw [k.2.1.1, d.1.1.1]
  obtain ⟨_, _, ⟨s1, s2, s3⟩, _⟩ := d
  obtain ⟨t1, t2, t3, t4⟩ := t
  have kk := k.1
  have z1 : N 90 65 = 0 := by rw [← kk 65 (by omega)]; exact z.1
  have z2 : N 90 78 = 0 := by rw [← kk 78 (by omega)]; exact z.2
  rw [hL]
  refine rsg_g (g := N 90) (rsg_cs (M := M) (b := 34) ⟨fun s hs => ⟨s1 s hs, by rw [← s1 s hs]; exact t1 s hs⟩, ⟨s2, fun w hw y => ?_⟩, ⟨by rw [z1]; exact t3, fun w hw y => ?_⟩, by rw [z2]; exact t4, fun w hw y => ?_⟩ c) kk
  · rw [← s2] at y
    have e : ∀ c, c < 4 → M 37 (4 * w + c) = N 90 (17 + (4 * w + c)) := fun c hc => by rw [← Nat.add_assoc]; exact s3 w c hw y hc
    exact ⟨e, by rw [← e 3 (by omega)]; exact t2 w hw y, by rw [← e 2 (by omega)]; exact l w hw y⟩
  · rw [z1] at y
    have := nJ_ge0 (i := w) (by omega)
    exact absurd y (by lia)
  · rw [z2] at y
    have := nJ_ge0 (i := w) (by omega)
    exact absurd y (by lia)
/-- what a text leaves as it was, where it has a fault -/
abbrev TF0 (M M1 : MM) : Prop := Fr [24, 26, 27, 29, 30, 31, 32, 33, 35, 37] [(0, 11), (1, 1), (22, 2), (22, 3), (22, 4), (22, 6), (22, 7), (22, 8), (22, 9), (23, 0), (23, 1), (23, 2), (23, 3), (36, 3), (38, 3), (40, 3)] M M1
abbrev XF0 (M M1 : MM) : Prop := Fr [90, 91, 92, 93, 94, 95, 96] [(81, 13), (81, 14), (81, 15), (81, 22), (81, 23), (81, 24), (81, 25), (81, 26), (81, 27), (81, 28), (81, 29), (81, 31), (81, 32), (81, 33), (81, 34), (81, 35), (81, 36), (81, 37)] M M1
theorem kd_eq {N W N2 : MM} (k : KD W N2) (e : ∀ a, a ≠ 81 → W a = N a) (e2 : ∀ j, j ≠ 31 → W 81 j = N 81 j) : KD N N2 := by
  unfold KD at k ⊢
  rw [e 90 (by decide), e 91 (by decide), e 96 (by decide), e 92 (by decide), e 93 (by decide), e 94 (by decide), e 95 (by decide), e2 13 (by decide), e2 14 (by decide), e2 15 (by decide), e2 22 (by decide)] at k
  exact k
theorem u_73b {post2 : Int32 → MM → Int64 → Prop} {N : MM} {u : Int64} {f p m r : Int32} (iN : Inv N) (e1 : N 81 36 = f) (e2 : f ≠ 0 → N 81 37 = p) (hr : r = if f = 0 then m else (-10 : Int32) - p) (k : ∀ (N1 : MM) (t : Int64), XFr N N1 → Inv N1 → N1 81 31 = 0 → N1 81 36 = f → (f = 0 → KD N N1) → (f ≠ 0 → XF0 N N1) → post2 r N1 t) : wX11_text_73 post2 N u m := by
  unfold wX11_text_73
  intro W e
  have iW : Inv W := by rw [e]; exact inv_set iN (show 0 ≤ (0 : Int32) ∧ (0 : Int32) ≤ 400 by decide)
  have fW : XFr N W := by rw [e]; exact fr_fld fr_rfl (by decide)
  have fV : XF0 N W := by rw [e]; exact fr_fld fr_rfl (by decide)
  have zW : W 81 31 = 0 := by rw [e]; exact mset_at _ _ _ _
  have x36 : W 81 36 = f := by rw [e, mset_nk (by decide)]; exact e1
  have x37 : W 81 37 = N 81 37 := by rw [e, mset_nk (by decide)]
  have b := iv_81_36 iW
  rw [x36] at b ⊢
  refine ifs (fun c => ?_) (fun c => ?_)
  · have z : f = 0 := by lia
    rw [if_pos z] at hr
    subst hr
    obtain ⟨M2, t2, ⟨i2, f2⟩, w2⟩ := dt_wpX11_keepDraft _ _ _ (sf_X11_keepDraft (tl := u) (post := fun M2 _ => Inv M2 ∧ Fr [82, 83, 84, 85, 86, 87, 88, 89] [(81, 2), (81, 3), (81, 4), (81, 11)] W M2) iW (fun _ _ a b _ => ⟨a, b⟩))
    refine w2 _ (k _ _ (fr_call fW f2 (by decide) (by decide)) i2 ?_ ?_ (fun _ => ?_) (fun y => absurd z y))
    · rw [f2 81 31 (by decide) (by decide)]; exact zW
    · rw [f2 81 36 (by decide) (by decide)]; exact x36
    · obtain ⟨M3, e3, kd⟩ := el_keepDraft iW (w2 (fun A _ => A = M2) rfl)
      subst e3
      exact kd_eq kd (fun a ha => by rw [e, mset_ne ha]) (fun j hj => by rw [e, mset_nk hj])
  · have z : f ≠ 0 := fun z => c (by rw [z]; decide)
    rw [if_neg z] at hr
    rw [x37, e2 z, ← hr]
    exact k _ _ fW iW zW x36 (fun y => absurd y z) (fun _ => fV)
/-- the law and the scene are told anew, on both sides -/
def RTx (M1 N1 : MM) : Prop := RLw M1 N1 ∧ RSg M1 14 (N1 82) (N1 81 2) ∧ (M1 55 0 = 0 ∧ M1 55 1 = 0) ∧ N1 83 0 = 0 ∧ N1 83 1 = 0
theorem u_text2 {post : Int32 → MM → Int64 → Prop} {M : MM} {tl : Int64} (hI : Inv M) (hb : HB M) (hp : ∀ (r : Int32) (M1 : MM) (t1 : Int64), Inv M1 → TFr M M1 → M1 1 1 = 0 → (M1 0 11 ≠ 0 → TF0 M M1) → (∀ (N : MM) (u : Int64) (post2 : Int32 → MM → Int64 → Prop), Inv N → Tp M N → (∀ (N1 : MM) (t : Int64), XFr N N1 → Inv N1 → N1 81 31 = 0 → N1 81 36 = M1 0 11 → (M1 0 11 = 0 → RTx M1 N1) → (M1 0 11 ≠ 0 → XF0 N N1) → post2 r N1 t) → wpX11_text post2 N u) → post r M1 t1) : wpX10_text post M tl := by
  unfold wpX10_text
  have h1 := u_readAll (tl := tl) (post := fun A t => Inv A ∧ CFr M A ∧ ∀ (N : MM) (u : Int64) (post2 : Int32 → MM → Int64 → Prop), Inv N → Tp M N → (∀ N1, RFr N N1 → Inv N1 → N1 81 36 = A 22 2 → (A 22 2 ≠ 0 → N1 81 37 = A 22 3) → (A 22 2 = 0 → D A t N1) → wX11_text_73 post2 N1 u (A 22 4)) → wpX11_text post2 N u) hI hb (fun A t iA fA kA => ⟨iA, fA, kA⟩)
  have h2 := ts_readAll hI h1
  refine cj_wpX4_readAll (fun A t x _ => ?_) h2 h2
  obtain ⟨⟨iA, fA, kA⟩, tk⟩ := x
  have gA : TFr M A := fr_call fr_rfl fA (by decide) (by decide)
  have gZ : TF0 M A := fr_call fr_rfl fA (by decide) (by decide)
  intro B eB C eC
  have iB : Inv B := by rw [eB]; exact inv_set iA (show 0 ≤ (0 : Int32) ∧ (0 : Int32) ≤ 400 by decide)
  have iC : Inv C := by rw [eC]; exact inv_set iB (i_any _)
  have gC : TFr M C := by rw [eC, eB]; exact fr_fld (fr_fld gA (by decide)) (by decide)
  have gY : TF0 M C := by rw [eC, eB]; exact fr_fld (fr_fld gZ (by decide)) (by decide)
  have cA : ∀ a, a ≠ 0 → a ≠ 1 → C a = A a := fun a z0 z1 => by rw [eC, mset_ne z0, eB, mset_ne z1]
  have b2 : B 22 2 = A 22 2 := by rw [eB, mset_ne (by decide)]
  have c2 : C 22 2 = A 22 2 := by rw [cA 22 (by decide) (by decide)]
  have c3 : C 22 3 = A 22 3 := by rw [cA 22 (by decide) (by decide)]
  have c4 : C 22 4 = A 22 4 := by rw [cA 22 (by decide) (by decide)]
  have c11 : C 0 11 = A 22 2 := by rw [eC, mset_at, b2]
  have c1 : C 1 1 = 0 := by rw [eC, mset_ne (by decide), eB, mset_at]
  have K : ∀ (r : Int32) (E : MM), r = (if A 22 2 = 0 then A 22 4 else (-10 : Int32) - A 22 3) → E 0 11 = A 22 2 → (A 22 2 = 0 → CL A E ∧ CS A 34 E 14 ∧ E 55 0 = 0 ∧ E 55 1 = 0) → (∀ (N : MM) (u : Int64) (post2 : Int32 → MM → Int64 → Prop), Inv N → Tp M N → (∀ (N1 : MM) (t : Int64), XFr N N1 → Inv N1 → N1 81 31 = 0 → N1 81 36 = E 0 11 → (E 0 11 = 0 → RTx E N1) → (E 0 11 ≠ 0 → XF0 N N1) → post2 r N1 t) → wpX11_text post2 N u) := by
    intro r E hr hE hC N u post2 iN tp k
    have q := kA N u (fun r' N1 _ => r' = r ∧ XFr N N1 ∧ Inv N1 ∧ N1 81 31 = 0 ∧ N1 81 36 = E 0 11 ∧ (E 0 11 = 0 → ∃ N0, D A t N0 ∧ KD N0 N1) ∧ (E 0 11 ≠ 0 → XF0 N N1)) iN tp (fun N1 f1 i1 p1 q1 hD => u_73b i1 p1 q1 hr (fun N2 t2 f2 i2 z2 w2 y1 y2 => ?_))
    · have q := zs_text iN q
      refine cj_wpX11_text (fun r' N1 t x _ => ?_) q q
      obtain ⟨⟨x1, x2, x3, x4, x5, x6, x7⟩, zk⟩ := x
      subst x1
      refine k N1 t x2 x3 x4 x5 (fun z => ?_) x7
      obtain ⟨N0, d, kd⟩ := x6 z
      have a0 : A 22 2 = 0 := by rw [← hE]; exact z
      have hC := hC a0
      have tk := tk a0
      refine ⟨rl_make d hC.1 kd x3, rs_make d tk.1 tk.2 (zk (by rw [x5]; exact z)) hC.2.1 kd, hC.2.2, ?_⟩
      exact ⟨kd.2.2.2.2.2.2.2.1, kd.2.2.2.2.2.2.2.2⟩
    · refine ⟨rfl, fr_call (fr_call fr_rfl f1 (by decide) (by decide)) f2 (by decide) (by decide), i2, z2, by rw [w2, hE], fun z => ?_, fun z => ?_⟩
      · rw [hE] at z
        exact ⟨N1, hD z, y1 z⟩
      · rw [hE] at z
        exact fr_call (fr_call fr_rfl f1 (by decide) (by decide)) (y2 z) (by decide) (by decide)
  rw [c2]
  refine ifs (fun c => ?_) (fun c => ?_)
  · obtain ⟨E, t2, ⟨iE, fE⟩, wE⟩ := dt_wpX1_copyFrom _ _ _ _ _ (sf_X1_copyFrom__3_23 (tl := t) (post := fun E _ => Inv E ∧ Fr [4, 6, 7, 9, 10, 11, 12, 13] [(3, 0), (3, 1), (3, 2), (3, 3)] C E) iC (fun _ _ a b _ => ⟨a, b⟩))
    obtain ⟨E', eE, cl⟩ := el_copyLaw (wE (fun X _ => X = E) rfl)
    subst eE
    refine wE _ ?_
    obtain ⟨G, t3, ⟨iG, fG⟩, wG⟩ := dt_wpX7_copyFrom _ _ _ _ _ (sf_X7_copyFrom__14_34 (tl := t2) (post := fun G _ => Inv G ∧ Fr [15, 17, 19, 21] [(16, 3), (18, 3), (20, 3)] E' G) iE (fun _ _ a b _ => ⟨a, b⟩))
    obtain ⟨G', eG, cs⟩ := el_copyScene (by decide) (by decide) (by decide) (wG (fun X _ => X = G) rfl)
    subst eG
    refine wG _ ?_
    have gG : TFr M G' := fr_call (fr_call gC fE (by decide) (by decide)) fG (by decide) (by decide)
    have r4 : G' 22 4 = A 22 4 := by rw [fG 22 4 (by decide) (by decide), fE 22 4 (by decide) (by decide), c4]
    have r11 : G' 0 11 = A 22 2 := by rw [fG 0 11 (by decide) (by decide), fE 0 11 (by decide) (by decide), c11]
    have r1 : G' 1 1 = 0 := by rw [fG 1 1 (by decide) (by decide), fE 1 1 (by decide) (by decide), c1]
    refine ⟨3, t_77 (hp _ _ _ ?_ ?_ ?_ (fun z => ?_) (K _ _ ?_ ?_ (fun _ => ?_)))⟩
    · exact inv_set (inv_set iG (by decide)) (by decide)
    · exact fr_arr (fr_arr gG (by decide)) (by decide)
    · rw [mset_ne (by decide), mset_ne (by decide)]; exact r1
    · rw [mset_ne (by decide), mset_ne (by decide), r11] at z
      exact absurd c z
    · rw [if_pos c]; exact r4
    · rw [mset_ne (by decide), mset_ne (by decide)]; exact r11
    · have ge : ∀ a, a ∈ lawC → G' a = E' a := fun a ha => keep_row0 fG (by intro z; revert ha z; revert a; decide) (by revert ha; revert a; decide)
      have ce : ∀ a, a ∈ [23, 24, 26, 27, 29, 30, 31, 32, 33] → C a = A a := fun a ha => cA a (by intro z; subst z; exact absurd ha (by decide)) (by intro z; subst z; exact absurd ha (by decide))
      refine ⟨?_, ?_, ?_, ?_⟩
      · unfold CL at cl ⊢
        rw [mset_ne (i := 3) (by decide), mset_ne (i := 3) (by decide), mset_ne (i := 4) (by decide), mset_ne (i := 4) (by decide), mset_ne (i := 6) (by decide), mset_ne (i := 6) (by decide), mset_ne (i := 7) (by decide), mset_ne (i := 7) (by decide), mset_ne (i := 9) (by decide), mset_ne (i := 9) (by decide), mset_ne (i := 10) (by decide), mset_ne (i := 10) (by decide), mset_ne (i := 11) (by decide), mset_ne (i := 11) (by decide), mset_ne (i := 12) (by decide), mset_ne (i := 12) (by decide), mset_ne (i := 13) (by decide), mset_ne (i := 13) (by decide)]
        rw [ge 3 (by decide), ge 4 (by decide), ge 6 (by decide), ge 7 (by decide), ge 9 (by decide), ge 10 (by decide), ge 11 (by decide), ge 12 (by decide), ge 13 (by decide)]
        rw [ce 23 (by decide), ce 24 (by decide), ce 26 (by decide), ce 27 (by decide), ce 29 (by decide), ce 30 (by decide), ce 31 (by decide), ce 32 (by decide), ce 33 (by decide)] at cl
        exact cl
      · have ee : ∀ a, a ∈ [35, 36, 37, 38, 39, 40, 41] → E' a = A a := fun a ha => (keep_row0 fE (by intro z; revert ha z; revert a; decide) (by revert ha; revert a; decide)).trans (cA a (by intro z; subst z; exact absurd ha (by decide)) (by intro z; subst z; exact absurd ha (by decide)))
        unfold CS at cs ⊢
        rw [mset_ne (i := 14 + 1) (by decide), mset_ne (i := 14 + 1) (by decide), mset_ne (i := 14 + 2) (by decide), mset_ne (i := 14 + 2) (by decide), mset_ne (i := 14 + 3) (by decide), mset_ne (i := 14 + 3) (by decide), mset_ne (i := 14 + 4) (by decide), mset_ne (i := 14 + 4) (by decide), mset_ne (i := 14 + 5) (by decide), mset_ne (i := 14 + 5) (by decide), mset_ne (i := 14 + 6) (by decide), mset_ne (i := 14 + 6) (by decide), mset_ne (i := 14 + 7) (by decide), mset_ne (i := 14 + 7) (by decide)]
        rw [ee (34 + 1) (by decide), ee (34 + 2) (by decide), ee (34 + 3) (by decide), ee (34 + 4) (by decide), ee (34 + 5) (by decide), ee (34 + 6) (by decide), ee (34 + 7) (by decide)] at cs
        exact cs
      · rw [mset_nk (by decide), mset_at]; exact nar0
      · rw [mset_at]; exact nar0
  · rw [c3]
    exact hp _ _ _ iC gC c1 (fun _ => gY) (K _ _ (by rw [if_neg c]) c11 (fun z => absurd z c))
