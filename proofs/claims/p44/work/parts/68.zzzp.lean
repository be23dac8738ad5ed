/-! WHAT THE CLASS'S READER HAS: things that there are, and all their lots -/
section TC
variable {M : MM} {tl : Int64}
theorem tt_takeThing {post : Int32 → MM → Int64 → Prop} (hI : Inv M) (hp : ∀ (r : Int32) (M1 : MM) (t1 : Int64), Inv M1 → Fr [] [(22, 2), (22, 3), (22, 6), (22, 7), (22, 8), (22, 9)] M M1 → (M1 22 2 = 0 → TT r) → post r M1 t1) : wpX4_takeThing post M tl := by
  unfold wpX4_takeThing
  refine sf_X4_takeNameOf__2 hI (fun r M1 t1 i1 f1 q1 => ?_)
  refine ifs (fun c => ?_) (fun c => ?_)
  · refine sf_X4_takeNumber i1 (fun r2 M2 t2 i2 f2 q2 => ?_)
    refine sf_X4_takeNameOf__3 i2 (fun r3 M3 t3 i3 f3 q3 => ?_)
    have f : Fr [] [(22, 2), (22, 3), (22, 6), (22, 7), (22, 8), (22, 9)] M M3 := fr_call (fr_call f1 f2 (by decide) (by decide)) f3 (by decide) (by decide)
    refine ifs (fun c2 => hp _ _ _ i3 f (fun _ => ?_)) (fun c2 => hp _ _ _ i3 f (fun z => absurd z c2))
    have z2 : M2 22 2 = 0 := by rcases q3.1 with z | z; · exact z
                                · exact absurd c2 z
    have a1 : 0 ≤ r ∧ r < nI 6 := by
      rcases q1.2 with z | z
      · exfalso; lia
      · exact ⟨by lia, show r < (6 : Int32) by lia⟩
    have a2 : 0 ≤ r2 ∧ r2 < nI 4 := by
      rcases q2.2 with z | z
      · exact absurd z2 z.2
      · exact ⟨by lia, show r2 < (4 : Int32) by lia⟩
    have a3 : 0 ≤ r3 ∧ r3 < nI 2 := by
      rcases q3.2 with z | z
      · exact absurd c2 z.2
      · exact ⟨by lia, show r3 < (2 : Int32) by lia⟩
    obtain ⟨x1, h1, e1⟩ := cdN 6 (by omega) a1.1 a1.2
    obtain ⟨x2, h2, e2⟩ := cdN 4 (by omega) a2.1 a2.2
    obtain ⟨x3, h3, e3⟩ := cdN 2 (by omega) a3.1 a3.2
    have g1 : 1 ≤ x1 := by
      rcases Nat.eq_zero_or_pos x1 with z | z
      · subst z; rw [e1] at c; exact absurd c (by decide)
      · exact z
    rw [e1, e2, e3]
    exact (tt_mk x1 h1 g1 x2 h2 x3 h3).1
  · refine hp _ _ _ i1 f1 (fun z => ?_)
    rcases q1.2 with y | y
    · exact absurd z y.2
    · exact Or.inl (by lia)
theorem tt_readThing {post : MM → Int64 → Prop} (hI : Inv M) (hT : TTC M) (hp : ∀ (M1 : MM) (t1 : Int64), Inv M1 → TTC M1 → post M1 t1) : wpX4_readThing post M tl := by
  unfold wpX4_readThing
  refine sf_X4_takeBank hI (fun r M1 t1 i1 f1 q1 => ?_)
  refine sf_X4_takeNumber i1 (fun r2 M2 t2 i2 f2 q2 => ?_)
  unfold wpX10_slot
  refine sf_X4_tellOnce i2 (fun M3 t3 i3 f3 q3 => ?_)
  refine tt_takeThing i3 (fun r4 M4 t4 i4 f4 q4 => ?_)
  have T4 : TTC M4 := ttc_fr (ttc_fr (ttc_fr (ttc_fr hT f1 (by decide)) f2 (by decide)) f3 (by decide)) f4 (by decide)
  refine ifs (fun c => ?_) (fun c => hp _ _ i4 T4)
  obtain ⟨M5, t5, i5, w5⟩ := dt_wpX7_setThing _ _ _ _ _ _ _ (sf_X7_setThing__34 (tl := t4) (v1 := r) (v2 := r2) (v3 := r4) (post := fun M5 _ => Inv M5) i4 (fun _ _ i _ _ => i))
  refine w5 _ (hp _ _ i5 ?_)
  have g := el_setThing (w5 (fun A _ => A = M5) rfl)
  by_cases q : (0 ≤ r ∧ r < 2) ∧ 0 ≤ r2 ∧ r2 < 8
  · obtain ⟨cc, hc, ec⟩ := cdN 2 (by omega) q.1.1 q.1.2
    obtain ⟨j, hj, ej⟩ := cdN 8 (by omega) q.2.1 q.2.2
    have e := g.2 cc j hc hj ec ej
    rw [← e]
    refine ⟨fun s hs => ?_, ?_, ?_, ?_⟩
    · rw [mset_if]
      split
      · exact q4 c
      · exact T4.1 s hs
    · rw [mset_ne (by decide), mset_ne (by decide)]; exact T4.2.1
    · rw [mset_ne (by decide)]; exact T4.2.2.1
    · rw [mset_ne (by decide)]; exact T4.2.2.2
  · rw [← g.1 q]; exact T4
theorem ttc_row {n : Nat} {v1 v2 v3 v4 : Int32} (h : TTC M) (hn : n < 12) (e : M 36 3 = nI n) (h4 : TT v4) : TTC (row4 M 36 n v1 v2 v3 v4) := by
  unfold row4
  refine ⟨fun s hs => ?_, fun w hw y => ?_, ?_, ?_⟩
  · rw [mset_ne (by decide), mset_ne (by decide), mset_ne (by decide), mset_ne (by decide), mset_ne (by decide)]; exact h.1 s hs
  · rw [mset_ne (by decide), mset_ne (by decide), mset_ne (by decide), mset_ne (by decide), mset_at] at y
    have y := (kI_lt (by omega) (by omega)).mp y
    by_cases z : w = n
    · subst z; rw [mset_at]; exact h4
    · rw [mset_nk (by omega), mset_nk (by omega), mset_nk (by omega), mset_nk (by omega), mset_ne (by decide)]
      exact h.2.1 w hw (by rw [e]; exact (kI_lt (by omega) (by omega)).mpr (by omega))
  · rw [mset_ne (by decide), mset_ne (by decide), mset_ne (by decide), mset_ne (by decide), mset_ne (by decide)]; exact h.2.2.1
  · rw [mset_ne (by decide), mset_ne (by decide), mset_ne (by decide), mset_ne (by decide), mset_ne (by decide)]; exact h.2.2.2
theorem tt_readWork23 {post : MM → Int64 → Prop} (hI : Inv M) (hT : TTC M) (hn : M 22 2 ≠ 0 ∨ M 36 3 < 12) (hp : ∀ (M1 : MM) (t1 : Int64), Inv M1 → TTC M1 → post M1 t1) : wX4_readWork_23 post M tl := by
  unfold wX4_readWork_23
  refine sf_X7_lastMonth__34 hI (fun r0 q0 => ?_)
  refine sf_X4_takeNumber hI (fun r M1 t1 i1 f1 q1 => ?_)
  refine sf_X4_takeBank i1 (fun r2 M2 t2 i2 f2 q2 => ?_)
  refine sf_X4_takeNumber i2 (fun r3 M3 t3 i3 f3 q3 => ?_)
  refine tt_takeThing i3 (fun r4 M4 t4 i4 f4 q4 => ?_)
  have T4 : TTC M4 := ttc_fr (ttc_fr (ttc_fr (ttc_fr hT f1 (by decide)) f2 (by decide)) f3 (by decide)) f4 (by decide)
  refine ifs (fun c => ?_) (fun c => hp _ _ i4 T4)
  obtain ⟨M5, t5, i5, w5⟩ := dt_wpX5_addRow _ _ _ _ _ _ _ _ (sf_X5_addRow__36 (tl := t4) (v1 := r) (v2 := r2) (v3 := r3) (v4 := r4) (post := fun M5 _ => Inv M5) i4 (fun _ _ i _ _ => i))
  refine w5 _ (hp _ _ i5 ?_)
  have b := iv_36_3 i4
  by_cases q : M4 36 3 < 12
  · obtain ⟨n, hn, en⟩ := cdN 12 (by omega) b.1 q
    rw [← el_addRow4 (by decide) hn en (w5 (fun A _ => A = M5) rfl)]
    exact ttc_row T4 hn en (q4 c)
  · have h := w5 (fun A _ => A = M5) rfl
    unfold wpX5_addRow wpX5_isFull at h
    have h := i10 (iq (show ¬ M4 36 3 < nI (al 36) from q) h.2.2.2)
    rw [← h]; exact T4
theorem tt_readWork {post : MM → Int64 → Prop} (hI : Inv M) (hT : TTC M) (hp : ∀ (M1 : MM) (t1 : Int64), Inv M1 → TTC M1 → post M1 t1) : wpX4_readWork post M tl := by
  unfold wpX4_readWork
  have b := iv_36_3 hI
  refine sf_X5_isFull__36 hI (fun r q => ?_)
  refine ifs (fun c => ?_) (fun c => ?_)
  · by_cases z : M 36 3 < 12
    · exact tt_readWork23 hI hT (Or.inr z) hp
    · by_cases y : M 22 2 = 0
      · exact tt_readWork23 hI hT (Or.inr (by lia)) hp
      · exact tt_readWork23 hI hT (Or.inl y) hp
  · refine sf_X4_fail hI (by decide) (fun r4 M4 t4 i4 f4 q4 => ?_)
    exact tt_readWork23 i4 (ttc_fr hT f4 (by decide)) (Or.inl q4.2) hp
theorem tt_line21 {post : MM → Int64 → Prop} {v : Int32} (hI : Inv M) (hT : TTC M) (hp : ∀ (M1 : MM) (t1 : Int64), Inv M1 → TTC M1 → post M1 t1) : wX4_readLine_21 post M tl v := by
  unfold wX4_readLine_21
  refine ifs (fun _ => ?_) (fun _ => ifs (fun _ => ?_) (fun _ => ifs (fun _ => ?_) (fun _ => ifs (fun _ => ?_) (fun _ => ifs (fun _ => ?_) (fun _ => ifs (fun _ => ?_) (fun _ => ifs (fun _ => ?_) (fun _ => ifs (fun _ => ?_) (fun _ => ifs (fun _ => ?_) (fun _ => ifs (fun _ => ?_) (fun _ => ifs (fun _ => ?_) (fun _ => ifs (fun _ => ?_) (fun _ => hp _ _ hI hT))))))))))))
  · refine sf_X4_tellOnce hI (fun M1 t1 i1 f1 q1 => sf_X4_takeNumber i1 (fun r2 M2 t2 i2 f2 q2 => ?_))
    intro W e
    subst e
    have T2 := ttc_fr (ttc_fr hT f1 (by decide)) f2 (by decide)
    refine hp _ _ (inv_set i2 ⟨(i_any _).1, ?_⟩) (ttc_eq T2 (mset_ne (by decide)) (by rw [mset_ne (by decide)]) (mset_ne (by decide)) (by rw [mset_ne (by decide)]) (by rw [mset_ne (by decide)]))
    show r2 ≤ 8
    rcases q2.2 with z | z
    · lia
    · lia
  · refine sf_X4_tellOnce hI (fun M1 t1 i1 f1 q1 => sf_X4_takeNumber i1 (fun r2 M2 t2 i2 f2 q2 => ?_))
    intro W e
    subst e
    have T2 := ttc_fr (ttc_fr hT f1 (by decide)) f2 (by decide)
    exact hp _ _ (inv_set i2 (i_any _)) (ttc_eq T2 (mset_ne (by decide)) (by rw [mset_ne (by decide)]) (mset_ne (by decide)) (by rw [mset_ne (by decide)]) (by rw [mset_ne (by decide)]))
  · refine sf_X4_tellOnce hI (fun M1 t1 i1 f1 q1 => sf_X4_takeNumber i1 (fun r2 M2 t2 i2 f2 q2 => ?_))
    intro W e
    subst e
    have T2 := ttc_fr (ttc_fr hT f1 (by decide)) f2 (by decide)
    exact hp _ _ (inv_set i2 (i_any _)) (ttc_eq T2 (mset_ne (by decide)) (by rw [mset_ne (by decide)]) (mset_ne (by decide)) (by rw [mset_ne (by decide)]) (by rw [mset_ne (by decide)]))
  · exact sf_X4_tellOnce hI (fun M1 t1 i1 f1 q1 => sf_X4_readPrices i1 (fun M2 t2 i2 f2 _ => hp _ _ i2 (ttc_fr (ttc_fr hT f1 (by decide)) f2 (by decide))))
  · exact sf_X4_readOfKinds__25 hI (fun M2 t2 i2 f2 _ => hp _ _ i2 (ttc_fr hT f2 (by decide)))
  · exact sf_X4_readOfKinds__28 hI (fun M2 t2 i2 f2 _ => hp _ _ i2 (ttc_fr hT f2 (by decide)))
  · exact sf_X4_readLack hI (fun M2 t2 i2 f2 _ => hp _ _ i2 (ttc_fr hT f2 (by decide)))
  · exact sf_X4_readTwins hI (fun M2 t2 i2 f2 _ => hp _ _ i2 (ttc_fr hT f2 (by decide)))
  · exact sf_X4_readPaint hI (fun M2 t2 i2 f2 _ => hp _ _ i2 (ttc_fr hT f2 (by decide)))
  · exact sf_X4_readRight hI (fun M2 t2 i2 f2 _ => hp _ _ i2 (ttc_fr hT f2 (by decide)))
  · exact tt_readThing hI hT hp
  · exact tt_readWork hI hT hp
theorem tt_readLine {post : MM → Int64 → Prop} (hI : Inv M) (hT : TTC M) (hp : ∀ (M1 : MM) (t1 : Int64), Inv M1 → TTC M1 → post M1 t1) : wpX4_readLine post M tl := by
  unfold wpX4_readLine
  refine sf_X4_nameAmong__0 hI (fun r _ => ifs (fun _ => tt_line21 hI hT hp) (fun _ => ?_))
  exact sf_X4_fail hI (by decide) (fun r4 M4 t4 i4 f4 q4 => tt_line21 i4 (ttc_fr hT f4 (by decide)) hp)
/-- where allLotsAre answers so, they are -/
theorem el_al57 {p : Int32 → MM → Int64 → Prop} (hI : Inv M) : ∀ (n w : Nat), w ≤ 12 → wX4_allLotsAre_57 p n M tl (nI w) → (∀ v, v < w → nI v < M 36 3 → M 37 (4 * v + 2) < M 23 0) → ∃ r, p r M tl ∧ (r ≠ 0 → ∀ w, w < 12 → nI w < M 36 3 → M 37 (4 * w + 2) < M 23 0) := by
  have b := iv_36_3 hI
  intro n
  induction n with
  | zero => intro w _ h; exact h.elim
  | succ n ih =>
    intro w hw h hv
    unfold wX4_allLotsAre_57 at h
    by_cases q : M 36 3 ≤ nI w
    · refine ⟨1, ip q h, fun _ v hv2 y => ?_⟩
      by_cases z : v < w
      · exact hv v z y
      · have := (kI_le (a := w) (b := v) (by omega) (by omega)).mpr (by omega)
        exfalso; clear hv ih; lia
    · have h := iq q h
      have hw2 : w < 12 := by
        rcases Nat.lt_or_ge w 12 with z | z
        · exact z
        · have : w = 12 := by omega
          subst this
          exact absurd b.2 q
      have g := (el_cell (c := 2) (W := 4) (by decide) (by omega) (by omega) (by omega) h).1 (by clear hv ih; lia)
      by_cases q2 : M 37 (4 * w + 2) < M 23 0
      · have g := ip q2 g
        rw [nI_s1] at g
        refine ih (w + 1) (by omega) g (fun v h1 y => ?_)
        by_cases z : v = w
        · subst z; exact q2
        · exact hv v (by omega) y
      · exact ⟨0, iq q2 g, fun z => absurd rfl z⟩
theorem el_al15 {p : Int32 → MM → Int64 → Prop} {bk : MM → Int64 → Int32 → Prop} : ∀ (n : Nat) (v1 v2 : Int32), wX4_allLotsAre_15 p bk n M tl v1 v2 → p 0 M tl ∨ ∃ v, bk M tl v := by
  intro n
  induction n with
  | zero => intro v1 v2 h; exact h.elim
  | succ n ih =>
    intro v1 v2 h
    unfold wX4_allLotsAre_15 wpX10_slot at h
    split at h
    · exact Or.inr ⟨_, h⟩
    · split at h
      · exact ih _ _ h
      · exact Or.inl h
theorem el_al2 {p : Int32 → MM → Int64 → Prop} (hI : Inv M) : ∀ (n : Nat) (v : Int32), wX4_allLotsAre_2 p n M tl v → ∃ r, p r M tl ∧ (r ≠ 0 → ∀ w, w < 12 → nI w < M 36 3 → M 37 (4 * w + 2) < M 23 0) := by
  intro n
  induction n with
  | zero => intro v h; exact h.elim
  | succ n ih =>
    intro v h
    unfold wX4_allLotsAre_2 at h
    split at h
    · obtain ⟨m, h⟩ := h
      exact el_al57 hI m 0 (by omega) h (fun v hv => absurd hv (by omega))
    · obtain ⟨m, h⟩ := h
      rcases el_al15 m _ _ h with z | ⟨v, z⟩
      · exact ⟨0, z, fun q => absurd rfl q⟩
      · exact ih _ z
/-- the reader's end, the lines, and all -/
def LotsOK (M : MM) : Prop := ∀ w, w < 12 → nI w < M 36 3 → M 37 (4 * w + 2) < M 23 0
def TLK (M : MM) : Prop := M 22 2 = 0 → TTC M ∧ LotsOK M
theorem ts_59 {p : MM → Int64 → Prop} (hI : Inv M) (hT : TTC M) (h : wX4_readAll_59 p M tl) : wX4_readAll_59 (fun M1 t1 => p M1 t1 ∧ TLK M1) M tl := by
  unfold wX4_readAll_59 at h ⊢
  refine ifs (fun c => ?_) (fun c => ⟨iq c h, fun z => absurd z c⟩)
  have h := ip c h
  obtain ⟨r, M1, t1, h1, w1⟩ := dt_wpX4_allLotsAre _ _ _ h
  refine w1 _ ?_
  obtain ⟨n, g⟩ := w1 (fun r' A t' => r' = r ∧ A = M1 ∧ t' = t1) ⟨rfl, rfl, rfl⟩
  obtain ⟨r', ⟨e1, e2, e3⟩, g2⟩ := el_al2 hI n _ g
  subst e1 e2 e3
  by_cases q : r' = 0
  · rw [if_pos q] at h1 ⊢
    unfold wpX4_fail at h1 ⊢
    intro W1 y1 W2 y2
    refine ⟨h1 W1 y1 W2 y2, fun z => ?_⟩
    subst y2 y1
    rw [mset_nk (by decide), mset_at] at z
    exact absurd z (by decide)
  · rw [if_neg q] at h1 ⊢
    exact ⟨h1, fun _ => ⟨hT, g2 q⟩⟩
theorem ts_10 {p : MM → Int64 → Prop} : ∀ (n : Nat) (M : MM) (tl : Int64) (v : Int32), Inv M → TTC M → wX4_readAll_10 p n M tl v → wX4_readAll_10 (fun M1 t1 => p M1 t1 ∧ TLK M1) n M tl v := by
  intro n
  induction n with
  | zero => intro M tl v _ _ h; exact h.elim
  | succ n ih =>
    intro M tl v hI hT h
    unfold wX4_readAll_10 at h ⊢
    refine ifs (fun c => ts_59 hI hT (ip c h)) (fun c => ?_)
    have h := iq c h
    refine ifs (fun c => ?_) (fun c => ts_59 hI hT (iq c h))
    have h := ip c h
    refine ifs (fun c => ts_59 hI hT (ip c h)) (fun c => ?_)
    have h := iq c h
    refine cj_wpX4_readLine (fun M1 t1 h g => ?_) h (tt_readLine (post := fun M1 _ => Inv M1 ∧ TTC M1) hI hT (fun _ _ a b => ⟨a, b⟩))
    refine cj_wpX4_takeStop (fun M2 t2 h g2 => ?_) h (sf_X4_takeStop (post := fun M2 _ => Inv M2 ∧ Fr [] [(22, 2), (22, 3), (22, 6), (22, 7), (22, 8), (22, 9)] M1 M2) g.1 (fun _ _ a b _ => ⟨a, b⟩))
    refine cj_wpX4_takeToken (fun M3 t3 h g3 => ?_) h (sf_X4_takeToken (post := fun M3 _ => Inv M3 ∧ Fr [] [(22, 2), (22, 3), (22, 6), (22, 7), (22, 8), (22, 9)] M2 M3) g2.1 (fun _ _ a b _ => ⟨a, b⟩))
    intro W e
    have T3 := ttc_fr (ttc_fr g.2 g2.2 (by decide)) g3.2 (by decide)
    refine ih W t3 _ ?_ ?_ (h W e)
    · rw [e]; exact inv_set g3.1 (i_any _)
    · rw [e]
      exact ttc_eq T3 (mset_ne (by decide)) (by rw [mset_ne (by decide)]) (mset_ne (by decide)) (by rw [mset_ne (by decide)]) (by rw [mset_ne (by decide)])
theorem ttc_first (M : MM) : TTC (mset (mset (mset (mset (mset (mset (mset (mset (mset (mset (mset (mset (mset (mset (mset (mset (mset (mset (mset (mset (mset (mset (mset (mset (mset (mset (mset (mset (mset (mset (mset (mset (mset (mset (mset (mset (mset (mset (mset (mset (mset (mset (mset (mset (mset (mset (mset (mset (mset (mset (mset (mset (mset (mset (mset (mset (mset (mset (mset (mset (mset (mset (mset M 23 0 5) 23 1 3) 23 2 1) 23 3 0) 24 0 1) 24 1 1) 24 2 1) 24 3 1) 31 0 0) 26 1 5) 29 1 3) 26 2 5) 29 2 3) 26 3 5) 29 3 3) 26 4 5) 29 4 3) 26 5 5) 29 5 3) 31 1 0) 27 1 5) 30 1 3) 27 2 5) 30 2 3) 27 3 5) 30 3 3) 27 4 5) 30 4 3) 27 5 5) 30 5 3) 32 0 0) 32 1 1) 32 2 2) 32 3 3) 32 4 4) 32 5 5) 33 0 0) 33 1 1) 33 2 2) 33 3 3) 35 0 0) 35 1 0) 35 2 0) 35 3 0) 35 4 0) 35 5 0) 35 6 0) 35 7 0) 35 8 0) 35 9 0) 35 10 0) 35 11 0) 35 12 0) 35 13 0) 35 14 0) 35 15 0) 36 3 0) 38 3 0) 40 3 0) 22 2 0) 22 3 0) 22 4 0) 22 6 0) := by
  refine ⟨?_, fun w hw y => ?_, rfl, rfl⟩
  · intro k hk
    have : k = 0 ∨ k = 1 ∨ k = 2 ∨ k = 3 ∨ k = 4 ∨ k = 5 ∨ k = 6 ∨ k = 7 ∨ k = 8 ∨ k = 9 ∨ k = 10 ∨ k = 11 ∨ k = 12 ∨ k = 13 ∨ k = 14 ∨ k = 15 := by omega
    rcases this with rfl | rfl | rfl | rfl | rfl | rfl | rfl | rfl | rfl | rfl | rfl | rfl | rfl | rfl | rfl | rfl <;> exact Or.inl rfl
  · have y : nI w < 0 := y
    have := nJ_ge0 (i := w) (by omega)
    exact absurd y (by lia)
theorem ts_readAll {p : MM → Int64 → Prop} (hI : Inv M) (h : wpX4_readAll p M tl) : wpX4_readAll (fun M1 t1 => p M1 t1 ∧ TLK M1) M tl := by
  unfold wpX4_readAll at h ⊢
  have a : wpX4_restart (fun M1 _ => Inv M1) M tl := sf_X4_restart hI (fun M1 t1 i f _ => i)
  have b : wpX4_restart (fun M1 _ => TTC M1) M tl := f_restart (ttc_first M)
  refine cj_wpX4_restart (fun M1 t1 h g => ?_) h (cj_wpX4_restart (s := fun M1 _ => Inv M1 ∧ TTC M1) (fun _ _ x y => ⟨x, y⟩) a b)
  refine cj_wpX4_takeToken (fun M3 t3 h g3 => ?_) h (sf_X4_takeToken (post := fun M3 _ => Inv M3 ∧ Fr [] [(22, 2), (22, 3), (22, 6), (22, 7), (22, 8), (22, 9)] M1 M3) g.1 (fun _ _ a b _ => ⟨a, b⟩))
  obtain ⟨n, h⟩ := h
  exact ⟨n, ts_10 n M3 t3 0 g3.1 (ttc_fr g.2 g3.2 (by decide)) h⟩
end TC
