set_option maxHeartbeats 4000000 in
theorem sf_X11_doesLack {post : Int32 → MM → Int64 → Prop} {M : MM} {tl : Int64} {v1 : Int32} {v2 : Int32} (hI : Inv M) (hp1 : 0 ≤ v1 ∧ v1 < 2) (hp : ∀ (r : Int32), (r = 0 ∨ r = 1) → post r M tl) : wpX11_doesLack post M tl v1 v2 := by
  unfold wpX11_doesLack
  refine And.intro (vpI (c := 2) (by decide) (by lia) (by lia)) ?_
  have hm1 : (0 : Int32) ≤ (((M 87 (v1).toNatClampNeg) >>> (v2 &&& (31 : Int32))) &&& (1 : Int32)) ∧ (((M 87 (v1).toNatClampNeg) >>> (v2 &&& (31 : Int32))) &&& (1 : Int32)) ≤ (1 : Int32) := andc ((M 87 (v1).toNatClampNeg) >>> (v2 &&& (31 : Int32))) 1 (by decide)
  have hm2 : (0 : Int32) ≤ (v2 &&& (31 : Int32)) ∧ (v2 &&& (31 : Int32)) ≤ (31 : Int32) := andc v2 31 (by decide)
  refine ifs (fun hc3 => ?_) (fun hc4 => ?_)
  · skip
    exact hp _ (by lia)
  · skip
    exact hp _ (by lia)
set_option maxHeartbeats 4000000 in
theorem sf_X11_matchBy {post : Int32 → MM → Int64 → Prop} {M : MM} {tl : Int64} {v1 : Int32} {v2 : Int32} {v3 : Int32} (hI : Inv M) (hp : ∀ (r : Int32), (r = -4 ∨ (0 ≤ r ∧ r < 8)) → post r M tl) : wpX11_matchBy post M tl v1 v2 v3 := by
  unfold wpX11_matchBy
  refine ifs (fun hc1 => ?_) (fun hc2 => ?_)
  · skip
    unfold wX11_matchBy_17
    have hr3 := iv_81_2 hI
    refine m_in (v := ((v3 + v1) - (3 : Int32))) (lo := 0) (hi := ((M 81 2) - (1 : Int32))) rfl rfl rfl (fun hn4 hn5 => ?_) (fun hn6 => ?_)
    · skip
      refine ifn (by decide) ?_
      exact hp _ (by lia)
    · skip
      refine ifp (by decide) ?_
      exact hp _ (by lia)
  · skip
    unfold wX11_matchBy_17
    have hr7 := iv_81_2 hI
    refine m_in (v := ((v3 - v1) + (3 : Int32))) (lo := 0) (hi := ((M 81 2) - (1 : Int32))) rfl rfl rfl (fun hn8 hn9 => ?_) (fun hn10 => ?_)
    · skip
      refine ifn (by decide) ?_
      exact hp _ (by lia)
    · skip
      refine ifp (by decide) ?_
      exact hp _ (by lia)
set_option maxHeartbeats 4000000 in
theorem sf_X11_matchOf {post : Int32 → MM → Int64 → Prop} {M : MM} {tl : Int64} {v1 : Int32} {v2 : Int32} (hI : Inv M) (hp : ∀ (r : Int32), (r = -4 ∨ (0 ≤ r ∧ r < 8)) → post r M tl) : wpX11_matchOf post M tl v1 v2 := by
  unfold wpX11_matchOf
  have hr1 := iv_81_3 hI
  refine sf_X11_matchBy hI  (fun r2 hq3 => ?_)
  exact hp _ (by lia)
set_option maxHeartbeats 4000000 in
theorem sf_X11_mayBe {post : Int32 → MM → Int64 → Prop} {M : MM} {tl : Int64} {v1 : Int32} {v2 : Int32} {v3 : Int32} (hI : Inv M) (hp1 : 0 ≤ v1 ∧ v1 < 2) (hp2 : 0 ≤ v3 ∧ v3 < 6) (hp : ∀ (r : Int32), (r = 0 ∨ r = 1) → post r M tl) : wpX11_mayBe post M tl v1 v2 v3 := by
  unfold wpX11_mayBe
  refine sf_X11_doesLack hI (by lia) (fun r1 hq2 => ?_)
  refine ifs (fun hc3 => ?_) (fun hc4 => ?_)
  · skip
    refine sf_X11_matchOf hI  (fun r5 hq6 => ?_)
    refine ifs (fun hc7 => ?_) (fun hc8 => ?_)
    · skip
      exact hp _ (by lia)
    · skip
      refine And.intro (vpI (c := 6) (by decide) (by lia) (by lia)) ?_
      have hr9 := iv_88 hI (v3).toNatClampNeg
      refine sf_X11_doesLack hI (by lia) (fun r10 hq11 => ?_)
      refine ifs (fun hc12 => ?_) (fun hc13 => ?_)
      · skip
        exact hp _ (by lia)
      · skip
        exact hp _ (by lia)
  · skip
    exact hp _ (by lia)
set_option maxHeartbeats 4000000 in
theorem sf_X11_isBank {post : Int32 → MM → Int64 → Prop} {M : MM} {tl : Int64} {v0 : Int32} (hI : Inv M) (hp : ∀ (r : Int32), ((r = 0 ∨ r = 1) ∧ (r ≠ 0 → 0 ≤ v0 ∧ v0 < 2)) → post r M tl) : wpX11_isBank post M tl v0 := by
  unfold wpX11_isBank
  refine m_in (v := v0) (lo := 0) (hi := 1) rfl rfl rfl (fun hn1 hn2 => ?_) (fun hn3 => ?_)
  · skip
    refine And.intro (nar_b (by lia)) ?_
    exact hp _ (by lia)
  · skip
    refine And.intro (nar_b (by lia)) ?_
    exact hp _ (by lia)
set_option maxHeartbeats 4000000 in
theorem sf_X11_isLot {post : Int32 → MM → Int64 → Prop} {M : MM} {tl : Int64} {v1 : Int32} {v2 : Int32} (hI : Inv M) (hp : ∀ (r : Int32), ((r = 0 ∨ r = 1) ∧ (r ≠ 0 → 0 ≤ v1 ∧ v1 < 2 ∧ 0 ≤ v2 ∧ v2 < 8)) → post r M tl) : wpX11_isLot post M tl v1 v2 := by
  unfold wpX11_isLot
  refine sf_X11_isBank hI  (fun r1 hq2 => ?_)
  refine ifs (fun hc3 => ?_) (fun hc4 => ?_)
  · skip
    exact hp _ (by lia)
  · skip
    have hr5 := iv_81_2 hI
    refine m_in (v := v2) (lo := 0) (hi := ((M 81 2) - (1 : Int32))) rfl rfl rfl (fun hn6 hn7 => ?_) (fun hn8 => ?_)
    · skip
      refine ifn (by decide) ?_
      exact hp _ (by lia)
    · skip
      refine ifp (by decide) ?_
      exact hp _ (by lia)
set_option maxHeartbeats 4000000 in
theorem sf_X11_isKind {post : Int32 → MM → Int64 → Prop} {M : MM} {tl : Int64} {v0 : Int32} (hI : Inv M) (hp : ∀ (r : Int32), ((r = 0 ∨ r = 1) ∧ (r ≠ 0 → 0 ≤ v0 ∧ v0 < 6)) → post r M tl) : wpX11_isKind post M tl v0 := by
  unfold wpX11_isKind
  refine m_in (v := v0) (lo := 0) (hi := 5) rfl rfl rfl (fun hn1 hn2 => ?_) (fun hn3 => ?_)
  · skip
    refine And.intro (nar_b (by lia)) ?_
    exact hp _ (by lia)
  · skip
    refine And.intro (nar_b (by lia)) ?_
    exact hp _ (by lia)
set_option maxHeartbeats 4000000 in
theorem sf_X11_isThing {post : Int32 → MM → Int64 → Prop} {M : MM} {tl : Int64} {v0 : Int32} (hI : Inv M) (hp : ∀ (r : Int32), ((r = 0 ∨ r = 1) ∧ (r ≠ 0 → ((0 ≤ v0 ∧ v0 ≤ 63) ∧ 0 ≤ v0 - v0 / 8 * 8 ∧ v0 - v0 / 8 * 8 ≤ 5))) → post r M tl) : wpX11_isThing post M tl v0 := by
  unfold wpX11_isThing
  have hz := th_z v0
  refine ifs (fun hc1 => ?_) (fun hc2 => ?_)
  · skip
    exact hp _ (by lia)
  · skip
    refine m_in (v := v0) (lo := 0) (hi := 63) rfl rfl rfl (fun hn3 hn4 => ?_) (fun hn5 => ?_)
    · skip
      refine ifn (by decide) ?_
      refine m_in (v := (v0 - ((v0 / (8 : Int32)) * (8 : Int32)))) (lo := 1) (hi := 5) rfl rfl rfl (fun hn6 hn7 => ?_) (fun hn8 => ?_)
      · skip
        refine ifn (by decide) ?_
        exact hp _ (by lia)
      · skip
        refine ifp (by decide) ?_
        exact hp _ (by lia)
    · skip
      refine ifp (by decide) ?_
      exact hp _ (by lia)
set_option maxHeartbeats 4000000 in
theorem sf_X11_kindThere {post : Int32 → MM → Int64 → Prop} {M : MM} {tl : Int64} {v1 : Int32} {v2 : Int32} (hI : Inv M) (hp1 : 0 ≤ v1 ∧ v1 < 2) (hp2 : 0 ≤ v2 ∧ v2 < 8) (hp : ∀ (r : Int32), (0 ≤ r ∧ r ≤ 5) → post r M tl) : wpX11_kindThere post M tl v1 v2 := by
  unfold wpX11_kindThere
  refine And.intro (vpI (c := 381) (by decide) (by lia) (by lia)) ?_
  have hr1 := r82_th hI (((8 : Int32) * v1) + v2) (by lia) (by lia)
  unfold Th at hr1
  exact hp _ (by lia)
set_option maxHeartbeats 4000000 in
theorem sf_X11_gainOf {post : Int32 → MM → Int64 → Prop} {M : MM} {tl : Int64} {v1 : Int32} {v2 : Int32} {v3 : Int32} (hI : Inv M) (hp1 : 0 ≤ v1 ∧ v1 < 2) (hp2 : 0 ≤ v2 ∧ v2 < 8) (hp3 : 0 ≤ v3 ∧ v3 < 6) (hp : ∀ (r : Int32), True → post r M tl) : wpX11_gainOf post M tl v1 v2 v3 := by
  unfold wpX11_gainOf
  refine And.intro (vpI (c := 12) (by decide) (by lia) (by lia)) ?_
  refine And.intro (vpI (c := 12) (by decide) (by lia) (by lia)) ?_
  refine sf_X11_kindThere hI (by lia) (by lia) (fun r1 hq2 => ?_)
  refine And.intro (vpI (c := 12) (by decide) (by lia) (by lia)) ?_
  have hr3 := iv_85 hI ((((6 : Int32) * v1) + v3)).toNatClampNeg
  exact hp _ trivial
set_option maxHeartbeats 4000000 in
theorem sf_X11_thing {post : Int32 → MM → Int64 → Prop} {M : MM} {tl : Int64} {v1 : Int32} {v2 : Int32} (hI : Inv M) (hp : ∀ (r : Int32), True → post r M tl) : wpX11_thing post M tl v1 v2 := by
  unfold wpX11_thing
  refine sf_X11_isLot hI  (fun r1 hq2 => ?_)
  refine ifs (fun hc3 => ?_) (fun hc4 => ?_)
  · skip
    exact hp _ trivial
  · skip
    refine And.intro (vpI (c := 381) (by decide) (by lia) (by lia)) ?_
    have hr5 := r82_th hI (((8 : Int32) * v1) + v2) (by lia) (by lia)
    unfold Th at hr5
    exact hp _ trivial
set_option maxHeartbeats 4000000 in
theorem sf_X11_put {post : Int32 → MM → Int64 → Prop} {M : MM} {tl : Int64} {v1 : Int32} {v2 : Int32} {v3 : Int32} (hI : Inv M) (hp : ∀ (r : Int32) (M1 : MM) (t1 : Int64), Inv M1 → Fr [82] [] M M1 → True → post r M1 t1) : wpX11_put post M tl v1 v2 v3 := by
  unfold wpX11_put
  refine sf_X11_isLot hI  (fun r1 hq2 => ?_)
  refine ifs (fun hc3 => ?_) (fun hc4 => ?_)
  · skip
    exact hp _ _ _ hI fr_rfl trivial
  · skip
    refine sf_X11_isThing hI  (fun r5 hq6 => ?_)
    refine ifs (fun hc7 => ?_) (fun hc8 => ?_)
    · skip
      exact hp _ _ _ hI fr_rfl trivial
    · skip
      refine And.intro (vpI (c := 381) (by decide) (by lia) (by lia)) ?_
      refine And.intro (vpI (c := 381) (by decide) (by lia) (by lia)) ?_
      intro W9 hW10
      have hI11 : Inv W9 := by rw [hW10]; exact w82_th hI _ _ (by lia) (by lia) (by unfold Th; lia)
      have hF12 : Fr [82] [] M W9 := by rw [hW10]; exact fr_arr fr_rfl (by decide)
      have hr13 := r82_th hI (((8 : Int32) * v1) + v2) (by lia) (by lia)
      unfold Th at hr13
      exact hp _ _ _ hI11 hF12 trivial
set_option maxHeartbeats 4000000 in
theorem sf_X11_match {post : Int32 → MM → Int64 → Prop} {M : MM} {tl : Int64} {v1 : Int32} {v2 : Int32} (hI : Inv M) (hp : ∀ (r : Int32), True → post r M tl) : wpX11_match post M tl v1 v2 := by
  unfold wpX11_match
  refine sf_X11_isLot hI  (fun r1 hq2 => ?_)
  refine ifs (fun hc3 => ?_) (fun hc4 => ?_)
  · skip
    exact hp _ trivial
  · skip
    refine sf_X11_matchOf hI  (fun r5 hq6 => ?_)
    exact hp _ trivial
set_option maxHeartbeats 4000000 in
theorem sf_X11_rule {post : Int32 → MM → Int64 → Prop} {M : MM} {tl : Int64} {v1 : Int32} (hI : Inv M) (hp : ∀ (r : Int32), True → post r M tl) : wpX11_rule post M tl v1 := by
  unfold wpX11_rule
  refine ifs (fun hc1 => ?_) (fun hc2 => ?_)
  · skip
    have hr3 := iv_81_2 hI
    exact hp _ trivial
  · skip
    refine ifs (fun hc4 => ?_) (fun hc5 => ?_)
    · skip
      have hr6 := iv_81_3 hI
      exact hp _ trivial
    · skip
      refine ifs (fun hc7 => ?_) (fun hc8 => ?_)
      · skip
        have hr9 := iv_81_4 hI
        exact hp _ trivial
      · skip
        refine ifs (fun hc10 => ?_) (fun hc11 => ?_)
        · skip
          refine And.intro (vpI (c := 381) (by decide) (by lia) (by lia)) ?_
          have hr12 := r82_16 hI
          exact hp _ trivial
        · skip
          refine m_in (v := v1) (lo := 10) (hi := 13) rfl rfl rfl (fun hn13 hn14 => ?_) (fun hn15 => ?_)
          · skip
            refine ifn (by decide) ?_
            refine And.intro (vpI (c := 4) (by decide) (by lia) (by lia)) ?_
            have hr16 := iv_84 hI ((v1 - (10 : Int32))).toNatClampNeg
            exact hp _ trivial
          · skip
            refine ifp (by decide) ?_
            exact hp _ trivial
set_option maxHeartbeats 4000000 in
theorem sf_X11_flag {post : Int32 → MM → Int64 → Prop} {M : MM} {tl : Int64} {v0 : Int32} (hI : Inv M) (hp : ∀ (r : Int32), (r = 0 ∨ r = 1) → post r M tl) : wpX11_flag post M tl v0 := by
  unfold wpX11_flag
  refine ifs (fun hc1 => ?_) (fun hc2 => ?_)
  · skip
    exact hp _ (by lia)
  · skip
    exact hp _ (by lia)
set_option maxHeartbeats 4000000 in
theorem sf_X11_kind {post : Int32 → MM → Int64 → Prop} {M : MM} {tl : Int64} {v1 : Int32} {v2 : Int32} (hI : Inv M) (hp : ∀ (r : Int32), True → post r M tl) : wpX11_kind post M tl v1 v2 := by
  unfold wpX11_kind
  refine sf_X11_isKind hI  (fun r1 hq2 => ?_)
  refine ifs (fun hc3 => ?_) (fun hc4 => ?_)
  · skip
    exact hp _ trivial
  · skip
    refine ifs (fun hc5 => ?_) (fun hc6 => ?_)
    · skip
      refine And.intro (vpI (c := 6) (by decide) (by lia) (by lia)) ?_
      have hr7 := iv_88 hI (v1).toNatClampNeg
      exact hp _ trivial
    · skip
      refine ifs (fun hc8 => ?_) (fun hc9 => ?_)
      · skip
        have hm10 : (0 : Int32) ≤ (((M 81 11) >>> (v1 &&& (31 : Int32))) &&& (1 : Int32)) ∧ (((M 81 11) >>> (v1 &&& (31 : Int32))) &&& (1 : Int32)) ≤ (1 : Int32) := andc ((M 81 11) >>> (v1 &&& (31 : Int32))) 1 (by decide)
        have hm11 : (0 : Int32) ≤ (v1 &&& (31 : Int32)) ∧ (v1 &&& (31 : Int32)) ≤ (31 : Int32) := andc v1 31 (by decide)
        exact hp _ trivial
      · skip
        refine ifs (fun hc12 => ?_) (fun hc13 => ?_)
        · skip
          refine And.intro (vpI (c := 12) (by decide) (by lia) (by lia)) ?_
          have hr14 := iv_85 hI ((((6 : Int32) * (v2 - (10 : Int32))) + v1)).toNatClampNeg
          exact hp _ trivial
        · skip
          refine ifs (fun hc15 => ?_) (fun hc16 => ?_)
          · skip
            refine And.intro (vpI (c := 12) (by decide) (by lia) (by lia)) ?_
            have hr17 := iv_85 hI ((((6 : Int32) * (v2 - (10 : Int32))) + v1)).toNatClampNeg
            exact hp _ trivial
          · skip
            refine ifs (fun hc18 => ?_) (fun hc19 => ?_)
            · skip
              refine And.intro (vpI (c := 12) (by decide) (by lia) (by lia)) ?_
              exact hp _ trivial
            · skip
              refine ifs (fun hc20 => ?_) (fun hc21 => ?_)
              · skip
                refine And.intro (vpI (c := 12) (by decide) (by lia) (by lia)) ?_
                exact hp _ trivial
              · skip
                refine ifs (fun hc22 => ?_) (fun hc23 => ?_)
                · skip
                  refine sf_X11_doesLack hI (by lia) (fun r24 hq25 => ?_)
                  refine sf_X11_flag hI  (fun r26 hq27 => ?_)
                  exact hp _ trivial
                · skip
                  refine ifs (fun hc28 => ?_) (fun hc29 => ?_)
                  · skip
                    refine sf_X11_doesLack hI (by lia) (fun r30 hq31 => ?_)
                    refine sf_X11_flag hI  (fun r32 hq33 => ?_)
                    exact hp _ trivial
                  · skip
                    exact hp _ trivial
set_option maxHeartbeats 4000000 in
theorem sf_X11_colour {post : Int32 → MM → Int64 → Prop} {M : MM} {tl : Int64} {v1 : Int32} (hI : Inv M) (hp : ∀ (r : Int32), True → post r M tl) : wpX11_colour post M tl v1 := by
  unfold wpX11_colour
  refine m_in (v := v1) (lo := 0) (hi := 3) rfl rfl rfl (fun hn1 hn2 => ?_) (fun hn3 => ?_)
  · skip
    refine ifn (by decide) ?_
    refine And.intro (vpI (c := 4) (by decide) (by lia) (by lia)) ?_
    have hr4 := iv_89 hI (v1).toNatClampNeg
    exact hp _ trivial
  · skip
    refine ifp (by decide) ?_
    exact hp _ trivial
set_option maxHeartbeats 4000000 in
theorem sf_X11_work {post : Int32 → MM → Int64 → Prop} {M : MM} {tl : Int64} {v1 : Int32} {v2 : Int32} (hI : Inv M) (hp : ∀ (r : Int32), True → post r M tl) : wpX11_work post M tl v1 v2 := by
  unfold wpX11_work
  refine And.intro (vpI (c := 381) (by decide) (by lia) (by lia)) ?_
  have hr1 := r82_16 hI
  refine m_in (v := v1) (lo := 0) (hi := ((M 82 ((16 : Int32)).toNatClampNeg) - (1 : Int32))) rfl rfl rfl (fun hn2 hn3 => ?_) (fun hn4 => ?_)
  · skip
    refine ifn (by decide) ?_
    refine m_in (v := v2) (lo := 0) (hi := 3) rfl rfl rfl (fun hn5 hn6 => ?_) (fun hn7 => ?_)
    · skip
      refine ifn (by decide) ?_
      refine And.intro (vpI (c := 381) (by decide) (by lia) (by lia)) ?_
      exact hp _ trivial
    · skip
      refine ifp (by decide) ?_
      exact hp _ trivial
  · skip
    refine ifp (by decide) ?_
    exact hp _ trivial
set_option maxHeartbeats 4000000 in
theorem sf_X11_gain {post : Int32 → MM → Int64 → Prop} {M : MM} {tl : Int64} {v1 : Int32} {v2 : Int32} {v3 : Int32} (hI : Inv M) (hp : ∀ (r : Int32), True → post r M tl) : wpX11_gain post M tl v1 v2 v3 := by
  unfold wpX11_gain
  refine sf_X11_isLot hI  (fun r1 hq2 => ?_)
  refine ifs (fun hc3 => ?_) (fun hc4 => ?_)
  · skip
    exact hp _ trivial
  · skip
    refine m_in (v := v3) (lo := 1) (hi := 5) rfl rfl rfl (fun hn5 hn6 => ?_) (fun hn7 => ?_)
    · skip
      refine ifn (by decide) ?_
      refine sf_X11_gainOf hI (by lia) (by lia) (by lia) (fun r8 hq9 => ?_)
      exact hp _ trivial
    · skip
      refine ifp (by decide) ?_
      exact hp _ trivial
set_option maxHeartbeats 4000000 in
theorem sl_X11_beginOf_9 {post : Int32 → MM → Int64 → Prop} {M : MM} {tl : Int64} (hp : ∀ (r : Int32), (r = -4 ∨ (0 ≤ r ∧ r < 6)) → post r M tl) (hI : Inv M) : ∀ v5 : Int32, 0 ≤ v5 → v5 ≤ 6 → ∃ n, ∀ (v1 : Int32) (v2 : Int32) (v3 : Int32) (v4 : Int32), (0 ≤ v1 ∧ v1 < 2 ∧ 0 ≤ v2 ∧ v2 < 8 ∧ (v3 = -4 ∨ (0 ≤ v3 ∧ v3 < 6))) → wX11_beginOf_9 post n M tl v1 v2 v3 v4 v5 := by
  refine up_ex (P := fun d v5 => ∀ (v1 : Int32) (v2 : Int32) (v3 : Int32) (v4 : Int32), (0 ≤ v1 ∧ v1 < 2 ∧ 0 ≤ v2 ∧ v2 < 8 ∧ (v3 = -4 ∨ (0 ≤ v3 ∧ v3 < 6))) → wX11_beginOf_9 post d M tl v1 v2 v3 v4 v5) 0 6 ?_
  intro d v5 hlo hhi rec v1 v2 v3 v4 hli
  unfold wX11_beginOf_9
  refine ifs (fun hc1 => ?_) (fun hc2 => ?_)
  · skip
    exact hp _ (by lia)
  · skip
    refine sf_X11_mayBe hI (by lia) (by lia) (fun r3 hq4 => ?_)
    refine ifs (fun hc5 => ?_) (fun hc6 => ?_)
    · skip
      unfold wX11_beginOf_44
      unfold wX11_beginOf_45
      refine ifp (by decide) ?_
      unfold wX11_beginOf_58
      refine ifp (by decide) ?_
      unfold wX11_beginOf_77
      exact rec (by lia) v1 v2 v3 v4 (by lia)
    · skip
      refine sf_X11_gainOf hI (by lia) (by lia) (by lia) (fun r7 hq8 => ?_)
      refine ifs (fun hc9 => ?_) (fun hc10 => ?_)
      · skip
        unfold wX11_beginOf_44
        unfold wX11_beginOf_45
        refine ifp (by decide) ?_
        unfold wX11_beginOf_58
        refine ifp (by decide) ?_
        unfold wX11_beginOf_77
        exact rec (by lia) v1 v2 v3 v4 (by lia)
      · skip
        unfold wX11_beginOf_45
        refine ifn (by decide) ?_
        unfold wX11_beginOf_58
        refine ifn (by decide) ?_
        refine sf_X11_gainOf hI (by lia) (by lia) (by lia) (fun r11 hq12 => ?_)
        unfold wX11_beginOf_77
        exact rec (by lia) v1 v2 v5 r11 (by lia)
set_option maxHeartbeats 4000000 in
theorem sf_X11_beginOf {post : Int32 → MM → Int64 → Prop} {M : MM} {tl : Int64} {v1 : Int32} {v2 : Int32} (hI : Inv M) (hp1 : 0 ≤ v1 ∧ v1 < 2) (hp2 : 0 ≤ v2 ∧ v2 < 8) (hp : ∀ (r : Int32), (r = -4 ∨ (0 ≤ r ∧ r < 6)) → post r M tl) : wpX11_beginOf post M tl v1 v2 := by
  unfold wpX11_beginOf
  obtain ⟨n1, hn2⟩ := sl_X11_beginOf_9 (M := M) (tl := tl) hp  hI (1 : Int32) (by lia) (by lia)
  exact ⟨n1, hn2 v1 v2 (-4 : Int32) (0 : Int32) (by lia)⟩
set_option maxHeartbeats 4000000 in
theorem sf_X11_begin {post : Int32 → MM → Int64 → Prop} {M : MM} {tl : Int64} {v1 : Int32} {v2 : Int32} {v3 : Int32} (hI : Inv M) (hp : ∀ (r : Int32), True → post r M tl) : wpX11_begin post M tl v1 v2 v3 := by
  unfold wpX11_begin
  refine sf_X11_isLot hI  (fun r1 hq2 => ?_)
  refine ifs (fun hc3 => ?_) (fun hc4 => ?_)
  · skip
    exact hp _ trivial
  · skip
    refine m_in (v := v3) (lo := 0) (hi := 1) rfl rfl rfl (fun hn5 hn6 => ?_) (fun hn7 => ?_)
    · skip
      refine ifn (by decide) ?_
      refine sf_X11_beginOf hI (by lia) (by lia) (fun r8 hq9 => ?_)
      refine ifs (fun hc10 => ?_) (fun hc11 => ?_)
      · skip
        exact hp _ trivial
      · skip
        refine ifs (fun hc12 => ?_) (fun hc13 => ?_)
        · skip
          exact hp _ trivial
        · skip
          refine sf_X11_gainOf hI (by lia) (by lia) (by lia) (fun r14 hq15 => ?_)
          exact hp _ trivial
    · skip
      refine ifp (by decide) ?_
      exact hp _ trivial
set_option maxHeartbeats 4000000 in
theorem sf_X11_want {post : Int32 → MM → Int64 → Prop} {M : MM} {tl : Int64} {v1 : Int32} {v2 : Int32} (hI : Inv M) (hp : ∀ (r : Int32) (M1 : MM) (t1 : Int64), Inv M1 → Fr [82] [] M M1 → True → post r M1 t1) : wpX11_want post M tl v1 v2 := by
  unfold wpX11_want
  refine sf_X11_isLot hI  (fun r1 hq2 => ?_)
  refine ifs (fun hc3 => ?_) (fun hc4 => ?_)
  · skip
    exact hp _ _ _ hI fr_rfl trivial
  · skip
    refine m_in (v := v2) (lo := 1) (hi := 5) rfl rfl rfl (fun hn5 hn6 => ?_) (fun hn7 => ?_)
    · skip
      refine ifn (by decide) ?_
      refine And.intro (vpI (c := 381) (by decide) (by lia) (by lia)) ?_
      have hr8 := r82_65 hI
      refine ifs (fun hc9 => ?_) (fun hc10 => ?_)
      · skip
        exact hp _ _ _ hI fr_rfl trivial
      · skip
        refine And.intro (vpI (c := 381) (by decide) (by lia) (by lia)) ?_
        refine And.intro (vpI (c := 381) (by decide) (by lia) (by lia)) ?_
        intro W11 hW12
        have hI13 : Inv W11 := by rw [hW12]; exact w82_66_0 hI _ _ (by lia) (by lia) (by first | lia | (unfold Th; lia))
        have hF14 : Fr [82] [] M W11 := by rw [hW12]; exact fr_arr fr_rfl (by decide)
        refine And.intro (vpI (c := 381) (by decide) (by lia) (by lia)) ?_
        intro W15 hW16
        have hI17 : Inv W15 := by rw [hW16]; exact w82_66_1 hI13 _ _ (by lia) (by lia) (by first | lia | (unfold Th; lia))
        have hF18 : Fr [82] [] M W15 := by rw [hW16]; exact fr_arr hF14 (by decide)
        refine And.intro (vpI (c := 381) (by decide) (by lia) (by lia)) ?_
        refine And.intro (vpI (c := 381) (by decide) (by lia) (by lia)) ?_
        have hx21 : W15 82 ((65 : Int32)).toNatClampNeg = W11 82 ((65 : Int32)).toNatClampNeg := by rw [hW16, mset_nk (tn_ne (by lia) (by lia) (by lia))]
        have hr22 := r82_65 hI13
        have hx23 : W11 82 ((65 : Int32)).toNatClampNeg = M 82 ((65 : Int32)).toNatClampNeg := by rw [hW12, mset_nk (tn_ne (by lia) (by lia) (by lia))]
        have hr24 := r82_65 hI
        have hr25 := r82_65 hI17
        intro W19 hW20
        have hI26 : Inv W19 := by rw [hW20]; exact w82_65 hI17 _ ⟨by lia, by lia⟩
        have hF27 : Fr [82] [] M W19 := by rw [hW20]; exact fr_arr hF18 (by decide)
        refine And.intro (vpI (c := 381) (by decide) (by lia) (by lia)) ?_
        have hr28 := r82_65 hI26
        exact hp _ _ _ hI26 hF27 trivial
    · skip
      refine ifp (by decide) ?_
      exact hp _ _ _ hI fr_rfl trivial
set_option maxHeartbeats 4000000 in
theorem sf_X11_content {post : Int32 → MM → Int64 → Prop} {M : MM} {tl : Int64} (hI : Inv M) (hp : ∀ (r : Int32) (M1 : MM) (t1 : Int64), Inv M1 → Fr [82] [] M M1 → True → post r M1 t1) : wpX11_content post M tl  := by
  unfold wpX11_content
  refine And.intro (vpI (c := 381) (by decide) (by lia) (by lia)) ?_
  refine And.intro (vpI (c := 381) (by decide) (by lia) (by lia)) ?_
  intro W1 hW2
  have hI3 : Inv W1 := by rw [hW2]; exact w82_65 hI _ ⟨by lia, by lia⟩
  have hF4 : Fr [82] [] M W1 := by rw [hW2]; exact fr_arr fr_rfl (by decide)
  have hr5 := r82_65 hI
  exact hp _ _ _ hI3 hF4 trivial
set_option maxHeartbeats 4000000 in
theorem sf_X11_saw {post : Int32 → MM → Int64 → Prop} {M : MM} {tl : Int64} {v1 : Int32} {v2 : Int32} {v3 : Int32} {v4 : Int32} (hI : Inv M) (hp : ∀ (r : Int32) (M1 : MM) (t1 : Int64), Inv M1 → Fr [82] [] M M1 → True → post r M1 t1) : wpX11_saw post M tl v1 v2 v3 v4 := by
  unfold wpX11_saw
  refine sf_X11_isLot hI  (fun r1 hq2 => ?_)
  refine ifs (fun hc3 => ?_) (fun hc4 => ?_)
  · skip
    exact hp _ _ _ hI fr_rfl trivial
  · skip
    refine m_in (v := v3) (lo := 0) (hi := 23) rfl rfl rfl (fun hn5 hn6 => ?_) (fun hn7 => ?_)
    · skip
      refine ifn (by decide) ?_
      refine And.intro (vpI (c := 381) (by decide) (by lia) (by lia)) ?_
      have hr8 := r82_78 hI
      refine ifs (fun hc9 => ?_) (fun hc10 => ?_)
      · skip
        exact hp _ _ _ hI fr_rfl trivial
      · skip
        refine And.intro (vpI (c := 381) (by decide) (by lia) (by lia)) ?_
        refine And.intro (vpI (c := 381) (by decide) (by lia) (by lia)) ?_
        intro W11 hW12
        have hI13 : Inv W11 := by rw [hW12]; exact w82_79_0 hI _ _ (by lia) (by lia) (by first | lia | (unfold Th; lia))
        have hF14 : Fr [82] [] M W11 := by rw [hW12]; exact fr_arr fr_rfl (by decide)
        refine And.intro (vpI (c := 381) (by decide) (by lia) (by lia)) ?_
        intro W15 hW16
        have hI17 : Inv W15 := by rw [hW16]; exact w82_79_1 hI13 _ _ (by lia) (by lia) (by first | lia | (unfold Th; lia))
        have hF18 : Fr [82] [] M W15 := by rw [hW16]; exact fr_arr hF14 (by decide)
        refine And.intro (vpI (c := 381) (by decide) (by lia) (by lia)) ?_
        intro W19 hW20
        have hI21 : Inv W19 := by rw [hW20]; exact w82_79_2 hI17 _ _ (by lia) (by lia) (by first | lia | (unfold Th; lia))
        have hF22 : Fr [82] [] M W19 := by rw [hW20]; exact fr_arr hF18 (by decide)
        refine sf_X11_flag hI21  (fun r23 hq24 => ?_)
        refine And.intro (vpI (c := 381) (by decide) (by lia) (by lia)) ?_
        intro W25 hW26
        have hI27 : Inv W25 := by rw [hW26]; exact w82_79_3 hI21 _ _ (by lia) (by lia) (by first | lia | (unfold Th; lia))
        have hF28 : Fr [82] [] M W25 := by rw [hW26]; exact fr_arr hF22 (by decide)
        refine And.intro (vpI (c := 381) (by decide) (by lia) (by lia)) ?_
        refine And.intro (vpI (c := 381) (by decide) (by lia) (by lia)) ?_
        have hx31 : W25 82 ((78 : Int32)).toNatClampNeg = W19 82 ((78 : Int32)).toNatClampNeg := by rw [hW26, mset_nk (tn_ne (by lia) (by lia) (by lia))]
        have hr32 := r82_78 hI21
        have hx33 : W19 82 ((78 : Int32)).toNatClampNeg = W15 82 ((78 : Int32)).toNatClampNeg := by rw [hW20, mset_nk (tn_ne (by lia) (by lia) (by lia))]
        have hr34 := r82_78 hI17
        have hx35 : W15 82 ((78 : Int32)).toNatClampNeg = W11 82 ((78 : Int32)).toNatClampNeg := by rw [hW16, mset_nk (tn_ne (by lia) (by lia) (by lia))]
        have hr36 := r82_78 hI13
        have hx37 : W11 82 ((78 : Int32)).toNatClampNeg = M 82 ((78 : Int32)).toNatClampNeg := by rw [hW12, mset_nk (tn_ne (by lia) (by lia) (by lia))]
        have hr38 := r82_78 hI
        have hr39 := r82_78 hI27
        intro W29 hW30
        have hI40 : Inv W29 := by rw [hW30]; exact w82_78 hI27 _ ⟨by lia, by lia⟩
        have hF41 : Fr [82] [] M W29 := by rw [hW30]; exact fr_arr hF28 (by decide)
        refine And.intro (vpI (c := 381) (by decide) (by lia) (by lia)) ?_
        have hr42 := r82_78 hI40
        exact hp _ _ _ hI40 hF41 trivial
    · skip
      refine ifp (by decide) ?_
      exact hp _ _ _ hI fr_rfl trivial
set_option maxHeartbeats 4000000 in
theorem sf_X11_forget {post : Int32 → MM → Int64 → Prop} {M : MM} {tl : Int64} (hI : Inv M) (hp : ∀ (r : Int32) (M1 : MM) (t1 : Int64), Inv M1 → Fr [82] [] M M1 → True → post r M1 t1) : wpX11_forget post M tl  := by
  unfold wpX11_forget
  refine And.intro (vpI (c := 381) (by decide) (by lia) (by lia)) ?_
  refine And.intro (vpI (c := 381) (by decide) (by lia) (by lia)) ?_
  intro W1 hW2
  have hI3 : Inv W1 := by rw [hW2]; exact w82_78 hI _ ⟨by lia, by lia⟩
  have hF4 : Fr [82] [] M W1 := by rw [hW2]; exact fr_arr fr_rfl (by decide)
  have hr5 := r82_78 hI
  exact hp _ _ _ hI3 hF4 trivial
set_option maxHeartbeats 4000000 in
theorem sf_X11_plot {post : Int32 → MM → Int64 → Prop} {M : MM} {tl : Int64} {v1 : Int32} {v2 : Int32} {v3 : Int32} {v4 : Int32} (hI : Inv M) (hp : ∀ (r : Int32) (M1 : MM) (t1 : Int64), Inv M1 → Fr [82] [] M M1 → True → post r M1 t1) : wpX11_plot post M tl v1 v2 v3 v4 := by
  unfold wpX11_plot
  refine And.intro (vpI (c := 381) (by decide) (by lia) (by lia)) ?_
  have hr1 := r82_16 hI
  refine ifs (fun hc2 => ?_) (fun hc3 => ?_)
  · skip
    unfold wX11_plot_39
    refine m_in (v := v1) (lo := 0) (hi := 23) rfl rfl rfl (fun hn4 hn5 => ?_) (fun hn6 => ?_)
    · skip
      refine ifn (by decide) ?_
      refine sf_X11_isLot hI  (fun r7 hq8 => ?_)
      refine ifs (fun hc9 => ?_) (fun hc10 => ?_)
      · skip
        exact hp _ _ _ hI fr_rfl trivial
      · skip
        refine sf_X11_isThing hI  (fun r11 hq12 => ?_)
        refine ifs (fun hc13 => ?_) (fun hc14 => ?_)
        · skip
          exact hp _ _ _ hI fr_rfl trivial
        · skip
          refine ifs (fun hc15 => ?_) (fun hc16 => ?_)
          · skip
            exact hp _ _ _ hI fr_rfl trivial
          · skip
            refine And.intro (vpI (c := 381) (by decide) (by lia) (by lia)) ?_
            intro W17 hW18
            have hI19 : Inv W17 := by rw [hW18]; exact w82_17_0 hI _ _ (by lia) (by lia) (by first | lia | (unfold Th; lia))
            have hF20 : Fr [82] [] M W17 := by rw [hW18]; exact fr_arr fr_rfl (by decide)
            refine And.intro (vpI (c := 381) (by decide) (by lia) (by lia)) ?_
            intro W21 hW22
            have hI23 : Inv W21 := by rw [hW22]; exact w82_17_1 hI19 _ _ (by lia) (by lia) (by first | lia | (unfold Th; lia))
            have hF24 : Fr [82] [] M W21 := by rw [hW22]; exact fr_arr hF20 (by decide)
            refine And.intro (vpI (c := 381) (by decide) (by lia) (by lia)) ?_
            intro W25 hW26
            have hI27 : Inv W25 := by rw [hW26]; exact w82_17_2 hI23 _ _ (by lia) (by lia) (by first | lia | (unfold Th; lia))
            have hF28 : Fr [82] [] M W25 := by rw [hW26]; exact fr_arr hF24 (by decide)
            refine And.intro (vpI (c := 381) (by decide) (by lia) (by lia)) ?_
            intro W29 hW30
            have hI31 : Inv W29 := by rw [hW30]; exact w82_17_3 hI27 _ _ (by lia) (by lia) (by first | lia | (unfold Th; lia))
            have hF32 : Fr [82] [] M W29 := by rw [hW30]; exact fr_arr hF28 (by decide)
            refine And.intro (vpI (c := 381) (by decide) (by lia) (by lia)) ?_
            intro W33 hW34
            have hI35 : Inv W33 := by rw [hW34]; exact w82_16 hI31 _ ⟨by lia, by lia⟩
            have hF36 : Fr [82] [] M W33 := by rw [hW34]; exact fr_arr hF32 (by decide)
            exact hp _ _ _ hI35 hF36 trivial
    · skip
      refine ifp (by decide) ?_
      exact hp _ _ _ hI fr_rfl trivial
  · skip
    refine And.intro (vpI (c := 381) (by decide) (by lia) (by lia)) ?_
    have hr37 := r82_prev hI (M 82 ((16 : Int32)).toNatClampNeg) (by lia) (by lia)
    unfold wX11_plot_39
    refine m_in (v := v1) (lo := (M 82 ((((17 : Int32) + ((4 : Int32) * (M 82 ((16 : Int32)).toNatClampNeg))) - (4 : Int32))).toNatClampNeg)) (hi := 23) rfl rfl rfl (fun hn38 hn39 => ?_) (fun hn40 => ?_)
    · skip
      refine ifn (by decide) ?_
      refine sf_X11_isLot hI  (fun r41 hq42 => ?_)
      refine ifs (fun hc43 => ?_) (fun hc44 => ?_)
      · skip
        exact hp _ _ _ hI fr_rfl trivial
      · skip
        refine sf_X11_isThing hI  (fun r45 hq46 => ?_)
        refine ifs (fun hc47 => ?_) (fun hc48 => ?_)
        · skip
          exact hp _ _ _ hI fr_rfl trivial
        · skip
          refine ifs (fun hc49 => ?_) (fun hc50 => ?_)
          · skip
            exact hp _ _ _ hI fr_rfl trivial
          · skip
            refine And.intro (vpI (c := 381) (by decide) (by lia) (by lia)) ?_
            intro W51 hW52
            have hI53 : Inv W51 := by rw [hW52]; exact w82_17_0 hI _ _ (by lia) (by lia) (by first | lia | (unfold Th; lia))
            have hF54 : Fr [82] [] M W51 := by rw [hW52]; exact fr_arr fr_rfl (by decide)
            refine And.intro (vpI (c := 381) (by decide) (by lia) (by lia)) ?_
            intro W55 hW56
            have hI57 : Inv W55 := by rw [hW56]; exact w82_17_1 hI53 _ _ (by lia) (by lia) (by first | lia | (unfold Th; lia))
            have hF58 : Fr [82] [] M W55 := by rw [hW56]; exact fr_arr hF54 (by decide)
            refine And.intro (vpI (c := 381) (by decide) (by lia) (by lia)) ?_
            intro W59 hW60
            have hI61 : Inv W59 := by rw [hW60]; exact w82_17_2 hI57 _ _ (by lia) (by lia) (by first | lia | (unfold Th; lia))
            have hF62 : Fr [82] [] M W59 := by rw [hW60]; exact fr_arr hF58 (by decide)
            refine And.intro (vpI (c := 381) (by decide) (by lia) (by lia)) ?_
            intro W63 hW64
            have hI65 : Inv W63 := by rw [hW64]; exact w82_17_3 hI61 _ _ (by lia) (by lia) (by first | lia | (unfold Th; lia))
            have hF66 : Fr [82] [] M W63 := by rw [hW64]; exact fr_arr hF62 (by decide)
            refine And.intro (vpI (c := 381) (by decide) (by lia) (by lia)) ?_
            intro W67 hW68
            have hI69 : Inv W67 := by rw [hW68]; exact w82_16 hI65 _ ⟨by lia, by lia⟩
            have hF70 : Fr [82] [] M W67 := by rw [hW68]; exact fr_arr hF66 (by decide)
            exact hp _ _ _ hI69 hF70 trivial
    · skip
      refine ifp (by decide) ?_
      exact hp _ _ _ hI fr_rfl trivial
set_option maxHeartbeats 4000000 in
theorem sf_X11_end {post : Int32 → MM → Int64 → Prop} {M : MM} {tl : Int64} {v1 : Int32} (hI : Inv M) (hp : ∀ (r : Int32) (M1 : MM) (t1 : Int64), Inv M1 → Fr [] [(81, 31)] M M1 → (((v1 < 0 ∨ M 81 31 < v1) ∧ r = -1 ∧ M1 81 31 = M 81 31) ∨ (0 ≤ v1 ∧ v1 ≤ M 81 31 ∧ r = M 81 31 ∧ M1 81 31 = v1)) → post r M1 t1) : wpX11_end post M tl v1 := by
  unfold wpX11_end
  have hr1 := iv_81_31 hI
  refine m_in (v := v1) (lo := 0) (hi := (M 81 31)) rfl rfl rfl (fun hn2 hn3 => ?_) (fun hn4 => ?_)
  · skip
    refine ifn (by decide) ?_
    intro W5 hW6
    have hI7 : Inv W5 := by rw [hW6]; exact inv_set hI (show 0 ≤ v1 ∧ v1 ≤ 400 from ⟨by lia, by lia⟩)
    have hF8 : Fr [] [(81, 31)] M W5 := by rw [hW6]; exact fr_fld fr_rfl (by decide)
    have hv9 : W5 81 31 = v1 := by rw [hW6]; exact mset_at _ _ _ _
    have hr10 := iv_81_31 hI7
    exact hp _ _ _ hI7 hF8 (by lia)
  · skip
    refine ifp (by decide) ?_
    exact hp _ _ _ hI fr_rfl (by lia)
set_option maxHeartbeats 4000000 in
theorem sl_X11_feed_19 {post : Int32 → MM → Int64 → Prop} {Mb : MM} (hp : ∀ (r : Int32) (M1 : MM) (t1 : Int64), Inv M1 → Fr [97] [(81, 31)] Mb M1 → ((Mb 81 31 ≤ 392 ∧ r = Mb 81 31 + 8 ∧ M1 81 31 = Mb 81 31 + 8) ∨ (392 < Mb 81 31 ∧ r = -3 ∧ M1 81 31 = Mb 81 31)) → post r M1 t1) : ∀ v3 : Int32, -8 ≤ v3 → v3 ≤ 56 → ∃ n, ∀ (M : MM) (tl : Int64) (v1 : Int64), Inv M → Fr [97] [(81, 31)] Mb M → (M 81 31 * 8 + v3 = Mb 81 31 * 8 + 56 ∧ Mb 81 31 ≤ 392 ∧ 0 ≤ Mb 81 31) → wX11_feed_19 post n M tl v1 v3 := by
  refine dn_ex (P := fun d v3 => ∀ (M : MM) (tl : Int64) (v1 : Int64), Inv M → Fr [97] [(81, 31)] Mb M → (M 81 31 * 8 + v3 = Mb 81 31 * 8 + 56 ∧ Mb 81 31 ≤ 392 ∧ 0 ≤ Mb 81 31) → wX11_feed_19 post d M tl v1 v3) (-8) 56 (by decide) (by decide) ?_
  intro d v3 hlo hhi rec M tl v1 hI hF hli
  unfold wX11_feed_19
  refine ifs (fun hc1 => ?_) (fun hc2 => ?_)
  · skip
    have hr3 := iv_81_31 hI
    exact hp _ _ _ hI hF (by lia)
  · skip
    have hr4 := iv_81_31 hI
    refine And.intro (vpI (c := 400) (by decide) (by lia) (by lia)) ?_
    intro W5 hW6
    have hI7 : Inv W5 := by rw [hW6]; exact inv_set hI (i_any _)
    have hF8 : Fr [97] [(81, 31)] Mb W5 := by rw [hW6]; exact fr_arr hF (by decide)
    have hx11 : W5 81 31 = M 81 31 := by rw [hW6, mset_ne (by decide)]
    have hr12 := iv_81_31 hI
    have hr13 := iv_81_31 hI7
    intro W9 hW10
    have hI14 : Inv W9 := by rw [hW10]; exact inv_set hI7 (show 0 ≤ ((W5 81 31) + (1 : Int32)) ∧ ((W5 81 31) + (1 : Int32)) ≤ 400 from ⟨by lia, by lia⟩)
    have hF15 : Fr [97] [(81, 31)] Mb W9 := by rw [hW10]; exact fr_fld hF8 (by decide)
    have hv16 : W9 81 31 = ((W5 81 31) + (1 : Int32)) := by rw [hW10]; exact mset_at _ _ _ _
    have hx17 : W9 81 32 = W5 81 32 := by rw [hW10, mset_nk (by decide)]
    have hx18 : W5 81 32 = M 81 32 := by rw [hW6, mset_ne (by decide)]
    have hx19 : W9 81 34 = W5 81 34 := by rw [hW10, mset_nk (by decide)]
    have hx20 : W5 81 34 = M 81 34 := by rw [hW6, mset_ne (by decide)]
    have hx21 : W9 81 36 = W5 81 36 := by rw [hW10, mset_nk (by decide)]
    have hx22 : W5 81 36 = M 81 36 := by rw [hW6, mset_ne (by decide)]
    have hr23 := iv_81_31 hI14
    exact rec (by lia) _ _ v1 hI14 hF15 (by lia)
set_option maxHeartbeats 4000000 in
theorem sf_X11_feed {post : Int32 → MM → Int64 → Prop} {M : MM} {tl : Int64} {v1 : Int64} (hI : Inv M) (hp : ∀ (r : Int32) (M1 : MM) (t1 : Int64), Inv M1 → Fr [97] [(81, 31)] M M1 → ((M 81 31 ≤ 392 ∧ r = M 81 31 + 8 ∧ M1 81 31 = M 81 31 + 8) ∨ (392 < M 81 31 ∧ r = -3 ∧ M1 81 31 = M 81 31)) → post r M1 t1) : wpX11_feed post M tl v1 := by
  unfold wpX11_feed
  have hr1 := iv_81_31 hI
  refine ifs (fun hc2 => ?_) (fun hc3 => ?_)
  · skip
    obtain ⟨n4, hn5⟩ := sl_X11_feed_19 (Mb := M) hp  (56 : Int32) (by lia) (by lia)
    exact ⟨n4, hn5 _ _ v1 hI fr_rfl (by lia)⟩
  · skip
    exact hp _ _ _ hI fr_rfl (by lia)
set_option maxHeartbeats 4000000 in
theorem sf_X11_torn {post : Int32 → MM → Int64 → Prop} {M : MM} {tl : Int64} (hI : Inv M) (hp : ∀ (r : Int32), True → post r M tl) : wpX11_torn post M tl  := by
  unfold wpX11_torn
  exact hp _ trivial
set_option maxHeartbeats 4000000 in
theorem sf_X11_isSheet {post : Int32 → MM → Int64 → Prop} {M : MM} {tl : Int64} {v0 : Int32} {v1 : Int32} (hI : Inv M) (hp : ∀ (r : Int32), ((r = 1 ∧ 0 ≤ v0 ∧ v0 < 4 ∧ 0 ≤ v1 ∧ v1 < 3) ∨ (r = 0 ∧ ¬ (0 ≤ v0 ∧ v0 < 4 ∧ 0 ≤ v1 ∧ v1 < 3))) → post r M tl) : wpX11_isSheet post M tl v0 v1 := by
  unfold wpX11_isSheet
  refine m_in (v := v0) (lo := 0) (hi := 3) rfl rfl rfl (fun hn1 hn2 => ?_) (fun hn3 => ?_)
  · skip
    refine ifn (by decide) ?_
    refine m_in (v := v1) (lo := 0) (hi := 2) rfl rfl rfl (fun hn4 hn5 => ?_) (fun hn6 => ?_)
    · skip
      refine ifn (by decide) ?_
      exact hp _ (by lia)
    · skip
      refine ifp (by decide) ?_
      exact hp _ (by lia)
  · skip
    refine ifp (by decide) ?_
    exact hp _ (by lia)
set_option maxHeartbeats 4000000 in
theorem sf_X11_lay {post : Int32 → MM → Int64 → Prop} {M : MM} {tl : Int64} {v1 : Int32} {v2 : Int32} {v3 : Int32} (hI : Inv M) (hp : ∀ (r : Int32) (M1 : MM) (t1 : Int64), Inv M1 → Fr [107] [] M M1 → True → post r M1 t1) : wpX11_lay post M tl v1 v2 v3 := by
  unfold wpX11_lay
  refine sf_X11_isSheet hI  (fun r1 hq2 => ?_)
  refine ifs (fun hc3 => ?_) (fun hc4 => ?_)
  · skip
    exact hp _ _ _ hI fr_rfl trivial
  · skip
    refine And.intro (vpI (c := 4) (by decide) (by lia) (by lia)) ?_
    refine ifs (fun hc5 => ?_) (fun hc6 => ?_)
    · skip
      exact hp _ _ _ hI fr_rfl trivial
    · skip
      refine And.intro (vpI (c := 4) (by decide) (by lia) (by lia)) ?_
      have hr7 := iv_106 hI (v1).toNatClampNeg
      refine m_in (v := v2) (lo := 0) (hi := ((M 106 (v1).toNatClampNeg) - (1 : Int32))) rfl rfl rfl (fun hn8 hn9 => ?_) (fun hn10 => ?_)
      · skip
        refine ifn (by decide) ?_
        refine And.intro (vpI (c := 4) (by decide) (by lia) (by lia)) ?_
        refine ifs (fun hc11 => ?_) (fun hc12 => ?_)
        · skip
          unfold wX11_lay_85
          refine And.intro (vpI (c := 160) (by decide) (by lia) (by lia)) ?_
          intro W13 hW14
          have hI15 : Inv W13 := by rw [hW14]; exact inv_set hI (i_any _)
          have hF16 : Fr [107] [] M W13 := by rw [hW14]; exact fr_arr fr_rfl (by decide)
          exact hp _ _ _ hI15 hF16 trivial
        · skip
          refine And.intro (vpI (c := 4) (by decide) (by lia) (by lia)) ?_
          refine ifs (fun hc17 => ?_) (fun hc18 => ?_)
          · skip
            unfold wX11_lay_85
            refine And.intro (vpI (c := 160) (by decide) (by lia) (by lia)) ?_
            intro W19 hW20
            have hI21 : Inv W19 := by rw [hW20]; exact inv_set hI (i_any _)
            have hF22 : Fr [107] [] M W19 := by rw [hW20]; exact fr_arr fr_rfl (by decide)
            exact hp _ _ _ hI21 hF22 trivial
          · skip
            unfold wX11_lay_85
            refine And.intro (vpI (c := 160) (by decide) (by lia) (by lia)) ?_
            intro W23 hW24
            have hI25 : Inv W23 := by rw [hW24]; exact inv_set hI (i_any _)
            have hF26 : Fr [107] [] M W23 := by rw [hW24]; exact fr_arr fr_rfl (by decide)
            exact hp _ _ _ hI25 hF26 trivial
      · skip
        refine ifp (by decide) ?_
        exact hp _ _ _ hI fr_rfl trivial
set_option maxHeartbeats 4000000 in
theorem sf_X11_fault {post : Int32 → MM → Int64 → Prop} {M : MM} {tl : Int64} (hI : Inv M) (hp : ∀ (r : Int32), True → post r M tl) : wpX11_fault post M tl  := by
  unfold wpX11_fault
  have hr1 := iv_81_36 hI
  exact hp _ trivial
set_option maxHeartbeats 4000000 in
theorem sf_X11_fire {post : Int32 → MM → Int64 → Prop} {M : MM} {tl : Int64} {v1 : Int32} {v2 : Int32} {v3 : Int32} (hI : Inv M) (hp : ∀ (r : Int32), True → post r M tl) : wpX11_fire post M tl v1 v2 v3 := by
  unfold wpX11_fire
  refine sf_X11_isLot hI  (fun r1 hq2 => ?_)
  refine ifs (fun hc3 => ?_) (fun hc4 => ?_)
  · skip
    exact hp _ trivial
  · skip
    refine m_in (v := v3) (lo := 0) (hi := 1) rfl rfl rfl (fun hn5 hn6 => ?_) (fun hn7 => ?_)
    · skip
      refine ifn (by decide) ?_
      refine sf_X11_kindThere hI (by lia) (by lia) (fun r8 hq9 => ?_)
      refine ifs (fun hc10 => ?_) (fun hc11 => ?_)
      · skip
        exact hp _ trivial
      · skip
        refine sf_X11_matchOf hI  (fun r12 hq13 => ?_)
        refine And.intro (vpI (c := 12) (by decide) (by lia) (by lia)) ?_
        refine And.intro (vpI (c := 12) (by decide) (by lia) (by lia)) ?_
        refine ifs (fun hc14 => ?_) (fun hc15 => ?_)
        · skip
          have hr16 := iv_85 hI ((((6 : Int32) * v1) + r8)).toNatClampNeg
          unfold wX11_fire_108
          refine ifs (fun hc17 => ?_) (fun hc18 => ?_)
          · skip
            refine ifs (fun hc19 => ?_) (fun hc20 => ?_)
            · skip
              unfold wX11_fire_127
              refine sf_X11_flag hI  (fun r21 hq22 => ?_)
              exact hp _ trivial
            · skip
              unfold wX11_fire_127
              refine sf_X11_flag hI  (fun r23 hq24 => ?_)
              exact hp _ trivial
          · skip
            refine ifs (fun hc25 => ?_) (fun hc26 => ?_)
            · skip
              exact hp _ trivial
            · skip
              exact hp _ trivial
        · skip
          refine sf_X11_kindThere hI (by lia) (by lia) (fun r27 hq28 => ?_)
          refine And.intro (vpI (c := 12) (by decide) (by lia) (by lia)) ?_
          have hr29 := iv_85 hI ((((6 : Int32) * v1) + r8)).toNatClampNeg
          have hr30 := iv_81_4 hI
          unfold wX11_fire_108
          refine ifs (fun hc31 => ?_) (fun hc32 => ?_)
          · skip
            refine ifs (fun hc33 => ?_) (fun hc34 => ?_)
            · skip
              unfold wX11_fire_127
              refine sf_X11_flag hI  (fun r35 hq36 => ?_)
              exact hp _ trivial
            · skip
              unfold wX11_fire_127
              refine sf_X11_flag hI  (fun r37 hq38 => ?_)
              exact hp _ trivial
          · skip
            refine ifs (fun hc39 => ?_) (fun hc40 => ?_)
            · skip
              exact hp _ trivial
            · skip
              exact hp _ trivial
    · skip
      refine ifp (by decide) ?_
      exact hp _ trivial
set_option maxHeartbeats 4000000 in
theorem sf_X11_mirrorOf {post : Int32 → MM → Int64 → Prop} {M : MM} {tl : Int64} {v1 : Int32} (hI : Inv M) (hp1 : ((0 ≤ v1 ∧ v1 ≤ 63) ∧ 0 ≤ v1 - v1 / 8 * 8 ∧ v1 - v1 / 8 * 8 ≤ 5)) (hp : ∀ (r : Int32), ((0 ≤ r ∧ r ≤ 63) ∧ 0 ≤ r - r / 8 * 8 ∧ r - r / 8 * 8 ≤ 5) → post r M tl) : wpX11_mirrorOf post M tl v1 := by
  unfold wpX11_mirrorOf
  have hz := dv v1 (by lia) (by lia)
  have hm1 : (0 : Int32) ≤ (((M 81 11) >>> ((v1 - ((v1 / (8 : Int32)) * (8 : Int32))) &&& (31 : Int32))) &&& (1 : Int32)) ∧ (((M 81 11) >>> ((v1 - ((v1 / (8 : Int32)) * (8 : Int32))) &&& (31 : Int32))) &&& (1 : Int32)) ≤ (1 : Int32) := andc ((M 81 11) >>> ((v1 - ((v1 / (8 : Int32)) * (8 : Int32))) &&& (31 : Int32))) 1 (by decide)
  have hm2 : (0 : Int32) ≤ ((v1 - ((v1 / (8 : Int32)) * (8 : Int32))) &&& (31 : Int32)) ∧ ((v1 - ((v1 / (8 : Int32)) * (8 : Int32))) &&& (31 : Int32)) ≤ (31 : Int32) := andc (v1 - ((v1 / (8 : Int32)) * (8 : Int32))) 31 (by decide)
  refine ifs (fun hc3 => ?_) (fun hc4 => ?_)
  · skip
    unfold wX11_mirrorOf_29
    refine ifs (fun hc5 => ?_) (fun hc6 => ?_)
    · skip
      exact hp _ (by first | exact th_mk (by lia) (by lia) (by lia) (by lia) (by lia) (by lia) | decide)
    · skip
      refine And.intro (vpI (c := 6) (by decide) (by lia) (by lia)) ?_
      refine And.intro (vpI (c := 4) (by decide) (by lia) (by lia)) ?_
      have hr7 := iv_88 hI ((v1 - ((v1 / (8 : Int32)) * (8 : Int32)))).toNatClampNeg
      have hr8 := iv_89 hI (((v1 / (8 : Int32)) - (((v1 / (8 : Int32)) / (4 : Int32)) * (4 : Int32)))).toNatClampNeg
      exact hp _ (by first | exact th_mk (by lia) (by lia) (by lia) (by lia) (by lia) (by lia) | decide)
  · skip
    unfold wX11_mirrorOf_29
    refine ifs (fun hc9 => ?_) (fun hc10 => ?_)
    · skip
      exact hp _ (by first | exact th_mk (by lia) (by lia) (by lia) (by lia) (by lia) (by lia) | decide)
    · skip
      refine And.intro (vpI (c := 6) (by decide) (by lia) (by lia)) ?_
      refine And.intro (vpI (c := 4) (by decide) (by lia) (by lia)) ?_
      have hr11 := iv_88 hI ((v1 - ((v1 / (8 : Int32)) * (8 : Int32)))).toNatClampNeg
      have hr12 := iv_89 hI (((v1 / (8 : Int32)) - (((v1 / (8 : Int32)) / (4 : Int32)) * (4 : Int32)))).toNatClampNeg
      exact hp _ (by first | exact th_mk (by lia) (by lia) (by lia) (by lia) (by lia) (by lia) | decide)
set_option maxHeartbeats 4000000 in
theorem sl_X11_quarrelOf_4 {post : Int32 → MM → Int64 → Prop} {M : MM} {tl : Int64} (hp : ∀ (r : Int32), True → post r M tl) (hI : Inv M) : ∀ v3 : Int32, 0 ≤ v3 → v3 ≤ 8 → ∃ n, ∀ (v1 : Int32) (v2 : Int32), (True) → wX11_quarrelOf_4 post n M tl v1 v2 v3 := by
  refine up_ex (P := fun d v3 => ∀ (v1 : Int32) (v2 : Int32), (True) → wX11_quarrelOf_4 post d M tl v1 v2 v3) 0 8 ?_
  intro d v3 hlo hhi rec v1 v2 hli
  unfold wX11_quarrelOf_4
  have hr1 := iv_81_2 hI
  refine ifs (fun hc2 => ?_) (fun hc3 => ?_)
  · skip
    exact hp _ trivial
  · skip
    refine sf_X11_matchBy hI  (fun r4 hq5 => ?_)
    refine ifs (fun hc6 => ?_) (fun hc7 => ?_)
    · skip
      refine And.intro (vpI (c := 381) (by decide) (by lia) (by lia)) ?_
      have hr8 := r82_th hI v3 (by lia) (by lia)
      unfold Th at hr8
      refine ifs (fun hc9 => ?_) (fun hc10 => ?_)
      · skip
        unfold wX11_quarrelOf_43
        refine sf_X11_flag hI  (fun r11 hq12 => ?_)
        unfold wX11_quarrelOf_80
        refine sf_X11_matchBy hI  (fun r13 hq14 => ?_)
        refine ifs (fun hc15 => ?_) (fun hc16 => ?_)
        · skip
          refine And.intro (vpI (c := 381) (by decide) (by lia) (by lia)) ?_
          have hr17 := r82_th hI ((8 : Int32) + v3) (by lia) (by lia)
          unfold Th at hr17
          refine ifs (fun hc18 => ?_) (fun hc19 => ?_)
          · skip
            unfold wX11_quarrelOf_112
            refine sf_X11_flag hI  (fun r20 hq21 => ?_)
            unfold wX11_quarrelOf_119
            exact rec (by lia) v1 ((v2 + r11) + r20) trivial
          · skip
            unfold wX11_quarrelOf_112
            refine sf_X11_flag hI  (fun r22 hq23 => ?_)
            unfold wX11_quarrelOf_119
            exact rec (by lia) v1 ((v2 + r11) + r22) trivial
        · skip
          unfold wX11_quarrelOf_119
          exact rec (by lia) v1 ((v2 + r11) + (0 : Int32)) trivial
      · skip
        unfold wX11_quarrelOf_43
        refine sf_X11_flag hI  (fun r24 hq25 => ?_)
        unfold wX11_quarrelOf_80
        refine sf_X11_matchBy hI  (fun r26 hq27 => ?_)
        refine ifs (fun hc28 => ?_) (fun hc29 => ?_)
        · skip
          refine And.intro (vpI (c := 381) (by decide) (by lia) (by lia)) ?_
          have hr30 := r82_th hI ((8 : Int32) + v3) (by lia) (by lia)
          unfold Th at hr30
          refine ifs (fun hc31 => ?_) (fun hc32 => ?_)
          · skip
            unfold wX11_quarrelOf_112
            refine sf_X11_flag hI  (fun r33 hq34 => ?_)
            unfold wX11_quarrelOf_119
            exact rec (by lia) v1 ((v2 + r24) + r33) trivial
          · skip
            unfold wX11_quarrelOf_112
            refine sf_X11_flag hI  (fun r35 hq36 => ?_)
            unfold wX11_quarrelOf_119
            exact rec (by lia) v1 ((v2 + r24) + r35) trivial
        · skip
          unfold wX11_quarrelOf_119
          exact rec (by lia) v1 ((v2 + r24) + (0 : Int32)) trivial
    · skip
      refine And.intro (vpI (c := 381) (by decide) (by lia) (by lia)) ?_
      refine And.intro (vpI (c := 381) (by decide) (by lia) (by lia)) ?_
      have hr37 := r82_th hI v3 (by lia) (by lia)
      unfold Th at hr37
      refine sf_X11_mirrorOf hI (by lia) (fun r38 hq39 => ?_)
      have hr40 := r82_th hI ((8 : Int32) + r4) (by lia) (by lia)
      unfold Th at hr40
      refine ifs (fun hc41 => ?_) (fun hc42 => ?_)
      · skip
        unfold wX11_quarrelOf_77
        refine sf_X11_flag hI  (fun r43 hq44 => ?_)
        unfold wX11_quarrelOf_80
        refine sf_X11_matchBy hI  (fun r45 hq46 => ?_)
        refine ifs (fun hc47 => ?_) (fun hc48 => ?_)
        · skip
          refine And.intro (vpI (c := 381) (by decide) (by lia) (by lia)) ?_
          have hr49 := r82_th hI ((8 : Int32) + v3) (by lia) (by lia)
          unfold Th at hr49
          refine ifs (fun hc50 => ?_) (fun hc51 => ?_)
          · skip
            unfold wX11_quarrelOf_112
            refine sf_X11_flag hI  (fun r52 hq53 => ?_)
            unfold wX11_quarrelOf_119
            exact rec (by lia) v1 ((v2 + r43) + r52) trivial
          · skip
            unfold wX11_quarrelOf_112
            refine sf_X11_flag hI  (fun r54 hq55 => ?_)
            unfold wX11_quarrelOf_119
            exact rec (by lia) v1 ((v2 + r43) + r54) trivial
        · skip
          unfold wX11_quarrelOf_119
          exact rec (by lia) v1 ((v2 + r43) + (0 : Int32)) trivial
      · skip
        unfold wX11_quarrelOf_77
        refine sf_X11_flag hI  (fun r56 hq57 => ?_)
        unfold wX11_quarrelOf_80
        refine sf_X11_matchBy hI  (fun r58 hq59 => ?_)
        refine ifs (fun hc60 => ?_) (fun hc61 => ?_)
        · skip
          refine And.intro (vpI (c := 381) (by decide) (by lia) (by lia)) ?_
          have hr62 := r82_th hI ((8 : Int32) + v3) (by lia) (by lia)
          unfold Th at hr62
          refine ifs (fun hc63 => ?_) (fun hc64 => ?_)
          · skip
            unfold wX11_quarrelOf_112
            refine sf_X11_flag hI  (fun r65 hq66 => ?_)
            unfold wX11_quarrelOf_119
            exact rec (by lia) v1 ((v2 + r56) + r65) trivial
          · skip
            unfold wX11_quarrelOf_112
            refine sf_X11_flag hI  (fun r67 hq68 => ?_)
            unfold wX11_quarrelOf_119
            exact rec (by lia) v1 ((v2 + r56) + r67) trivial
        · skip
          unfold wX11_quarrelOf_119
          exact rec (by lia) v1 ((v2 + r56) + (0 : Int32)) trivial
set_option maxHeartbeats 4000000 in
theorem sf_X11_quarrelOf {post : Int32 → MM → Int64 → Prop} {M : MM} {tl : Int64} {v1 : Int32} (hI : Inv M) (hp : ∀ (r : Int32), True → post r M tl) : wpX11_quarrelOf post M tl v1 := by
  unfold wpX11_quarrelOf
  obtain ⟨n1, hn2⟩ := sl_X11_quarrelOf_4 (M := M) (tl := tl) hp  hI (0 : Int32) (by lia) (by lia)
  exact ⟨n1, hn2 v1 (0 : Int32) trivial⟩
set_option maxHeartbeats 4000000 in
theorem sf_X11_quarrel {post : Int32 → MM → Int64 → Prop} {M : MM} {tl : Int64} {v1 : Int32} (hI : Inv M) (hp : ∀ (r : Int32), True → post r M tl) : wpX11_quarrel post M tl v1 := by
  unfold wpX11_quarrel
  refine m_in (v := v1) (lo := 0) (hi := 6) rfl rfl rfl (fun hn1 hn2 => ?_) (fun hn3 => ?_)
  · skip
    refine ifn (by decide) ?_
    refine sf_X11_quarrelOf hI  (fun r4 hq5 => ?_)
    exact hp _ trivial
  · skip
    refine ifp (by decide) ?_
    exact hp _ trivial
set_option maxHeartbeats 4000000 in
theorem sl_X11_bend_4 {post : Int32 → MM → Int64 → Prop} {M : MM} {tl : Int64} (hp : ∀ (r : Int32), True → post r M tl) (hI : Inv M) : ∀ v2 : Int32, 0 ≤ v2 → v2 ≤ 7 → ∃ n, ∀ (v1 : Int32), (True) → wX11_bend_4 post n M tl v1 v2 := by
  refine up_ex (P := fun d v2 => ∀ (v1 : Int32), (True) → wX11_bend_4 post d M tl v1 v2) 0 7 ?_
  intro d v2 hlo hhi rec v1 hli
  unfold wX11_bend_4
  refine ifs (fun hc1 => ?_) (fun hc2 => ?_)
  · skip
    exact hp _ trivial
  · skip
    refine sf_X11_quarrelOf hI  (fun r3 hq4 => ?_)
    refine sf_X11_quarrelOf hI  (fun r5 hq6 => ?_)
    refine ifs (fun hc7 => ?_) (fun hc8 => ?_)
    · skip
      unfold wX11_bend_28
      exact rec (by lia) v1 trivial
    · skip
      unfold wX11_bend_28
      exact rec (by lia) v2 trivial
set_option maxHeartbeats 4000000 in
theorem sf_X11_bend {post : Int32 → MM → Int64 → Prop} {M : MM} {tl : Int64} (hI : Inv M) (hp : ∀ (r : Int32), True → post r M tl) : wpX11_bend post M tl  := by
  unfold wpX11_bend
  obtain ⟨n1, hn2⟩ := sl_X11_bend_4 (M := M) (tl := tl) hp  hI (1 : Int32) (by lia) (by lia)
  exact ⟨n1, hn2 (0 : Int32) trivial⟩
set_option maxHeartbeats 4000000 in
theorem sf_X11_isShop {post : Int32 → MM → Int64 → Prop} {M : MM} {tl : Int64} {v1 : Int32} {v2 : Int32} (hI : Inv M) (hp1 : 0 ≤ v1 ∧ v1 < 2) (hp : ∀ (r : Int32), (r = 0 ∨ r = 1) → post r M tl) : wpX11_isShop post M tl v1 v2 := by
  unfold wpX11_isShop
  have hr1 := iv_81_2 hI
  refine m_in (v := v2) (lo := 0) (hi := ((M 81 2) - (1 : Int32))) rfl rfl rfl (fun hn2 hn3 => ?_) (fun hn4 => ?_)
  · skip
    refine ifn (by decide) ?_
    refine sf_X11_kindThere hI (by lia) (by lia) (fun r5 hq6 => ?_)
    refine ifs (fun hc7 => ?_) (fun hc8 => ?_)
    · skip
      exact hp _ (by lia)
    · skip
      exact hp _ (by lia)
  · skip
    refine ifp (by decide) ?_
    exact hp _ (by lia)
set_option maxHeartbeats 4000000 in
theorem sl_X11_shops_30 {post : Int32 → MM → Int64 → Prop} {M : MM} {tl : Int64} (hp : ∀ (r : Int32), True → post r M tl) (hI : Inv M) : ∀ v6 : Int32, 0 ≤ v6 → v6 ≤ 8 → ∃ n, ∀ (v1 : Int32) (v2 : Int32) (v3 : Int32) (v4 : Int32) (v5 : Int32), (0 ≤ v1 ∧ v1 < 2) → wX11_shops_30 post n M tl v1 v2 v3 v4 v5 v6 := by
  refine up_ex (P := fun d v6 => ∀ (v1 : Int32) (v2 : Int32) (v3 : Int32) (v4 : Int32) (v5 : Int32), (0 ≤ v1 ∧ v1 < 2) → wX11_shops_30 post d M tl v1 v2 v3 v4 v5 v6) 0 8 ?_
  intro d v6 hlo hhi rec v1 v2 v3 v4 v5 hli
  unfold wX11_shops_30
  have hr1 := iv_81_2 hI
  refine ifs (fun hc2 => ?_) (fun hc3 => ?_)
  · skip
    refine ifs (fun hc4 => ?_) (fun hc5 => ?_)
    · skip
      exact hp _ trivial
    · skip
      exact hp _ trivial
  · skip
    refine sf_X11_isShop hI (by lia) (fun r6 hq7 => ?_)
    refine ifs (fun hc8 => ?_) (fun hc9 => ?_)
    · skip
      unfold wX11_shops_78
      unfold wX11_shops_79
      refine sf_X11_flag hI  (fun r10 hq11 => ?_)
      refine sf_X11_isShop hI (by lia) (fun r12 hq13 => ?_)
      refine ifs (fun hc14 => ?_) (fun hc15 => ?_)
      · skip
        have hm16 : (0 : Int32) ≤ (v6 &&& (31 : Int32)) ∧ (v6 &&& (31 : Int32)) ≤ (31 : Int32) := andc v6 31 (by decide)
        unfold wX11_shops_105
        refine ifp (by decide) ?_
        unfold wX11_shops_125
        unfold wX11_shops_126
        exact rec (by lia) v1 v2 (v3 ||| (r10 <<< (v6 &&& (31 : Int32)))) (v4 + (0 : Int32)) (0 : Int32) (by lia)
      · skip
        have hm17 : (0 : Int32) ≤ (v6 &&& (31 : Int32)) ∧ (v6 &&& (31 : Int32)) ≤ (31 : Int32) := andc v6 31 (by decide)
        unfold wX11_shops_105
        refine ifs (fun hc18 => ?_) (fun hc19 => ?_)
        · skip
          unfold wX11_shops_125
          unfold wX11_shops_126
          exact rec (by lia) v1 v2 (v3 ||| (r10 <<< (v6 &&& (31 : Int32)))) (v4 + (0 : Int32)) (v5 + (1 : Int32)) (by lia)
        · skip
          refine ifs (fun hc20 => ?_) (fun hc21 => ?_)
          · skip
            unfold wX11_shops_126
            exact rec (by lia) v1 v2 (v3 ||| (r10 <<< (v6 &&& (31 : Int32)))) (v4 + (1 : Int32)) (v5 + (1 : Int32)) (by lia)
          · skip
            unfold wX11_shops_125
            unfold wX11_shops_126
            exact rec (by lia) v1 v2 (v3 ||| (r10 <<< (v6 &&& (31 : Int32)))) (v4 + (0 : Int32)) (v5 + (1 : Int32)) (by lia)
    · skip
      refine sf_X11_isShop hI (by lia) (fun r22 hq23 => ?_)
      refine ifs (fun hc24 => ?_) (fun hc25 => ?_)
      · skip
        refine sf_X11_isShop hI (by lia) (fun r26 hq27 => ?_)
        refine ifs (fun hc28 => ?_) (fun hc29 => ?_)
        · skip
          unfold wX11_shops_78
          unfold wX11_shops_79
          refine sf_X11_flag hI  (fun r30 hq31 => ?_)
          refine sf_X11_isShop hI (by lia) (fun r32 hq33 => ?_)
          refine ifs (fun hc34 => ?_) (fun hc35 => ?_)
          · skip
            have hm36 : (0 : Int32) ≤ (v6 &&& (31 : Int32)) ∧ (v6 &&& (31 : Int32)) ≤ (31 : Int32) := andc v6 31 (by decide)
            unfold wX11_shops_105
            refine ifp (by decide) ?_
            unfold wX11_shops_125
            unfold wX11_shops_126
            exact rec (by lia) v1 v2 (v3 ||| (r30 <<< (v6 &&& (31 : Int32)))) (v4 + (0 : Int32)) (0 : Int32) (by lia)
          · skip
            have hm37 : (0 : Int32) ≤ (v6 &&& (31 : Int32)) ∧ (v6 &&& (31 : Int32)) ≤ (31 : Int32) := andc v6 31 (by decide)
            unfold wX11_shops_105
            refine ifs (fun hc38 => ?_) (fun hc39 => ?_)
            · skip
              unfold wX11_shops_125
              unfold wX11_shops_126
              exact rec (by lia) v1 v2 (v3 ||| (r30 <<< (v6 &&& (31 : Int32)))) (v4 + (0 : Int32)) (v5 + (1 : Int32)) (by lia)
            · skip
              refine ifs (fun hc40 => ?_) (fun hc41 => ?_)
              · skip
                unfold wX11_shops_126
                exact rec (by lia) v1 v2 (v3 ||| (r30 <<< (v6 &&& (31 : Int32)))) (v4 + (1 : Int32)) (v5 + (1 : Int32)) (by lia)
              · skip
                unfold wX11_shops_125
                unfold wX11_shops_126
                exact rec (by lia) v1 v2 (v3 ||| (r30 <<< (v6 &&& (31 : Int32)))) (v4 + (0 : Int32)) (v5 + (1 : Int32)) (by lia)
        · skip
          unfold wX11_shops_74
          unfold wX11_shops_79
          refine sf_X11_flag hI  (fun r42 hq43 => ?_)
          refine sf_X11_isShop hI (by lia) (fun r44 hq45 => ?_)
          refine ifs (fun hc46 => ?_) (fun hc47 => ?_)
          · skip
            have hm48 : (0 : Int32) ≤ (v6 &&& (31 : Int32)) ∧ (v6 &&& (31 : Int32)) ≤ (31 : Int32) := andc v6 31 (by decide)
            unfold wX11_shops_105
            refine ifp (by decide) ?_
            unfold wX11_shops_125
            unfold wX11_shops_126
            exact rec (by lia) v1 v2 (v3 ||| (r42 <<< (v6 &&& (31 : Int32)))) (v4 + (0 : Int32)) (0 : Int32) (by lia)
          · skip
            have hm49 : (0 : Int32) ≤ (v6 &&& (31 : Int32)) ∧ (v6 &&& (31 : Int32)) ≤ (31 : Int32) := andc v6 31 (by decide)
            unfold wX11_shops_105
            refine ifs (fun hc50 => ?_) (fun hc51 => ?_)
            · skip
              unfold wX11_shops_125
              unfold wX11_shops_126
              exact rec (by lia) v1 v2 (v3 ||| (r42 <<< (v6 &&& (31 : Int32)))) (v4 + (0 : Int32)) (v5 + (1 : Int32)) (by lia)
            · skip
              refine ifs (fun hc52 => ?_) (fun hc53 => ?_)
              · skip
                unfold wX11_shops_126
                exact rec (by lia) v1 v2 (v3 ||| (r42 <<< (v6 &&& (31 : Int32)))) (v4 + (1 : Int32)) (v5 + (1 : Int32)) (by lia)
              · skip
                unfold wX11_shops_125
                unfold wX11_shops_126
                exact rec (by lia) v1 v2 (v3 ||| (r42 <<< (v6 &&& (31 : Int32)))) (v4 + (0 : Int32)) (v5 + (1 : Int32)) (by lia)
      · skip
        unfold wX11_shops_74
        unfold wX11_shops_79
        refine sf_X11_flag hI  (fun r54 hq55 => ?_)
        refine sf_X11_isShop hI (by lia) (fun r56 hq57 => ?_)
        refine ifs (fun hc58 => ?_) (fun hc59 => ?_)
        · skip
          have hm60 : (0 : Int32) ≤ (v6 &&& (31 : Int32)) ∧ (v6 &&& (31 : Int32)) ≤ (31 : Int32) := andc v6 31 (by decide)
          unfold wX11_shops_105
          refine ifp (by decide) ?_
          unfold wX11_shops_125
          unfold wX11_shops_126
          exact rec (by lia) v1 v2 (v3 ||| (r54 <<< (v6 &&& (31 : Int32)))) (v4 + (0 : Int32)) (0 : Int32) (by lia)
        · skip
          have hm61 : (0 : Int32) ≤ (v6 &&& (31 : Int32)) ∧ (v6 &&& (31 : Int32)) ≤ (31 : Int32) := andc v6 31 (by decide)
          unfold wX11_shops_105
          refine ifs (fun hc62 => ?_) (fun hc63 => ?_)
          · skip
            unfold wX11_shops_125
            unfold wX11_shops_126
            exact rec (by lia) v1 v2 (v3 ||| (r54 <<< (v6 &&& (31 : Int32)))) (v4 + (0 : Int32)) (v5 + (1 : Int32)) (by lia)
          · skip
            refine ifs (fun hc64 => ?_) (fun hc65 => ?_)
            · skip
              unfold wX11_shops_126
              exact rec (by lia) v1 v2 (v3 ||| (r54 <<< (v6 &&& (31 : Int32)))) (v4 + (1 : Int32)) (v5 + (1 : Int32)) (by lia)
            · skip
              unfold wX11_shops_125
              unfold wX11_shops_126
              exact rec (by lia) v1 v2 (v3 ||| (r54 <<< (v6 &&& (31 : Int32)))) (v4 + (0 : Int32)) (v5 + (1 : Int32)) (by lia)
set_option maxHeartbeats 4000000 in
theorem sf_X11_shops {post : Int32 → MM → Int64 → Prop} {M : MM} {tl : Int64} {v1 : Int32} {v2 : Int32} (hI : Inv M) (hp : ∀ (r : Int32), True → post r M tl) : wpX11_shops post M tl v1 v2 := by
  unfold wpX11_shops
  refine sf_X11_isBank hI  (fun r1 hq2 => ?_)
  refine ifs (fun hc3 => ?_) (fun hc4 => ?_)
  · skip
    exact hp _ trivial
  · skip
    refine m_in (v := v2) (lo := 0) (hi := 1) rfl rfl rfl (fun hn5 hn6 => ?_) (fun hn7 => ?_)
    · skip
      refine ifn (by decide) ?_
      obtain ⟨n8, hn9⟩ := sl_X11_shops_30 (M := M) (tl := tl) hp  hI (0 : Int32) (by lia) (by lia)
      exact ⟨n8, hn9 v1 v2 (0 : Int32) (0 : Int32) (0 : Int32) (by lia)⟩
    · skip
      refine ifp (by decide) ?_
      exact hp _ trivial
set_option maxHeartbeats 4000000 in
theorem sf_X11_waits {post : Int32 → MM → Int64 → Prop} {M : MM} {tl : Int64} {v1 : Int32} {v2 : Int32} (hI : Inv M) (hp : ∀ (r : Int32), True → post r M tl) : wpX11_waits post M tl v1 v2 := by
  unfold wpX11_waits
  refine sf_X11_isLot hI  (fun r1 hq2 => ?_)
  refine ifs (fun hc3 => ?_) (fun hc4 => ?_)
  · skip
    exact hp _ trivial
  · skip
    refine sf_X11_matchOf hI  (fun r5 hq6 => ?_)
    refine ifs (fun hc7 => ?_) (fun hc8 => ?_)
    · skip
      exact hp _ trivial
    · skip
      refine sf_X11_beginOf hI (by lia) (by lia) (fun r9 hq10 => ?_)
      refine ifs (fun hc11 => ?_) (fun hc12 => ?_)
      · skip
        exact hp _ trivial
      · skip
        refine And.intro (vpI (c := 6) (by decide) (by lia) (by lia)) ?_
        have hr13 := iv_88 hI (r9).toNatClampNeg
        refine sf_X11_gainOf hI (by lia) (by lia) (by lia) (fun r14 hq15 => ?_)
        exact hp _ trivial
set_option maxHeartbeats 4000000 in
theorem sl_X11_thingMany_4 {post : Int32 → MM → Int64 → Prop} {M : MM} {tl : Int64} (hp : ∀ (r : Int32), True → post r M tl) (hI : Inv M) : ∀ v2 : Int32, 0 ≤ v2 → v2 ≤ 16 → ∃ n, ∀ (v1 : Int32), (True) → wX11_thingMany_4 post n M tl v1 v2 := by
  refine up_ex (P := fun d v2 => ∀ (v1 : Int32), (True) → wX11_thingMany_4 post d M tl v1 v2) 0 16 ?_
  intro d v2 hlo hhi rec v1 hli
  unfold wX11_thingMany_4
  refine ifs (fun hc1 => ?_) (fun hc2 => ?_)
  · skip
    exact hp _ trivial
  · skip
    refine And.intro (vpI (c := 381) (by decide) (by lia) (by lia)) ?_
    have hr3 := r82_th hI v2 (by lia) (by lia)
    unfold Th at hr3
    refine ifs (fun hc4 => ?_) (fun hc5 => ?_)
    · skip
      unfold wX11_thingMany_25
      refine sf_X11_flag hI  (fun r6 hq7 => ?_)
      exact rec (by lia) (v1 + r6) trivial
    · skip
      unfold wX11_thingMany_25
      refine sf_X11_flag hI  (fun r8 hq9 => ?_)
      exact rec (by lia) (v1 + r8) trivial
set_option maxHeartbeats 4000000 in
theorem sf_X11_thingMany {post : Int32 → MM → Int64 → Prop} {M : MM} {tl : Int64} (hI : Inv M) (hp : ∀ (r : Int32), True → post r M tl) : wpX11_thingMany post M tl  := by
  unfold wpX11_thingMany
  obtain ⟨n1, hn2⟩ := sl_X11_thingMany_4 (M := M) (tl := tl) hp  hI (0 : Int32) (by lia) (by lia)
  exact ⟨n1, hn2 (0 : Int32) trivial⟩
set_option maxHeartbeats 4000000 in
theorem sl_X11_count_4 {post : Int32 → MM → Int64 → Prop} {M : MM} {tl : Int64} (hp : ∀ (r : Int32), True → post r M tl) (hI : Inv M) : ∀ v3 : Int32, 0 ≤ v3 → v3 ≤ 8 → ∃ n, ∀ (v1 : Int32) (v2 : Int32), (True) → wX11_count_4 post n M tl v1 v2 v3 := by
  refine up_ex (P := fun d v3 => ∀ (v1 : Int32) (v2 : Int32), (True) → wX11_count_4 post d M tl v1 v2 v3) 0 8 ?_
  intro d v3 hlo hhi rec v1 v2 hli
  unfold wX11_count_4
  have hr1 := iv_81_2 hI
  refine ifs (fun hc2 => ?_) (fun hc3 => ?_)
  · skip
    refine ifs (fun hc4 => ?_) (fun hc5 => ?_)
    · skip
      refine sf_X11_thingMany hI  (fun r6 hq7 => ?_)
      exact hp _ trivial
    · skip
      refine ifs (fun hc8 => ?_) (fun hc9 => ?_)
      · skip
        exact hp _ trivial
      · skip
        refine ifs (fun hc10 => ?_) (fun hc11 => ?_)
        · skip
          refine And.intro (vpI (c := 381) (by decide) (by lia) (by lia)) ?_
          have hr12 := r82_65 hI
          exact hp _ trivial
        · skip
          refine ifs (fun hc13 => ?_) (fun hc14 => ?_)
          · skip
            refine And.intro (vpI (c := 381) (by decide) (by lia) (by lia)) ?_
            have hr15 := r82_78 hI
            exact hp _ trivial
          · skip
            refine ifs (fun hc16 => ?_) (fun hc17 => ?_)
            · skip
              refine And.intro (vpI (c := 2) (by decide) (by lia) (by lia)) ?_
              refine sf_X11_flag hI  (fun r18 hq19 => ?_)
              refine And.intro (vpI (c := 2) (by decide) (by lia) (by lia)) ?_
              refine sf_X11_flag hI  (fun r20 hq21 => ?_)
              exact hp _ trivial
            · skip
              refine ifs (fun hc22 => ?_) (fun hc23 => ?_)
              · skip
                have hr24 := iv_81_31 hI
                exact hp _ trivial
              · skip
                refine ifs (fun hc25 => ?_) (fun hc26 => ?_)
                · skip
                  refine And.intro (vpI (c := 4) (by decide) (by lia) (by lia)) ?_
                  refine ifs (fun hc27 => ?_) (fun hc28 => ?_)
                  · skip
                    exact hp _ trivial
                  · skip
                    refine And.intro (vpI (c := 4) (by decide) (by lia) (by lia)) ?_
                    have hr29 := iv_106 hI ((0 : Int32)).toNatClampNeg
                    exact hp _ trivial
                · skip
                  exact hp _ trivial
  · skip
    refine sf_X11_matchOf hI  (fun r30 hq31 => ?_)
    refine ifs (fun hc32 => ?_) (fun hc33 => ?_)
    · skip
      unfold wX11_count_29
      refine sf_X11_flag hI  (fun r34 hq35 => ?_)
      exact rec (by lia) v1 (v2 + r34) trivial
    · skip
      unfold wX11_count_29
      refine sf_X11_flag hI  (fun r36 hq37 => ?_)
      exact rec (by lia) v1 (v2 + r36) trivial
set_option maxHeartbeats 4000000 in
theorem sf_X11_count {post : Int32 → MM → Int64 → Prop} {M : MM} {tl : Int64} {v1 : Int32} (hI : Inv M) (hp : ∀ (r : Int32), True → post r M tl) : wpX11_count post M tl v1 := by
  unfold wpX11_count
  obtain ⟨n1, hn2⟩ := sl_X11_count_4 (M := M) (tl := tl) hp  hI (0 : Int32) (by lia) (by lia)
  exact ⟨n1, hn2 v1 (0 : Int32) trivial⟩
set_option maxHeartbeats 4000000 in
theorem sf_X11_mirror {post : Int32 → MM → Int64 → Prop} {M : MM} {tl : Int64} {v1 : Int32} (hI : Inv M) (hp : ∀ (r : Int32), True → post r M tl) : wpX11_mirror post M tl v1 := by
  unfold wpX11_mirror
  refine sf_X11_isThing hI  (fun r1 hq2 => ?_)
  refine ifs (fun hc3 => ?_) (fun hc4 => ?_)
  · skip
    exact hp _ trivial
  · skip
    refine sf_X11_mirrorOf hI (by lia) (fun r5 hq6 => ?_)
    exact hp _ trivial
set_option maxHeartbeats 4000000 in
theorem sl_X11_asNow_2 {post : MM → Int64 → Prop} {Mb : MM} (hp : ∀ (M1 : MM) (t1 : Int64), Inv M1 → Fr [98] [] Mb M1 → True → post M1 t1) : ∀ v1 : Int32, 0 ≤ v1 → v1 ≤ 16 → ∃ n, ∀ (M : MM) (tl : Int64), Inv M → Fr [98] [] Mb M → (True) → wX11_asNow_2 post n M tl v1 := by
  refine up_ex (P := fun d v1 => ∀ (M : MM) (tl : Int64), Inv M → Fr [98] [] Mb M → (True) → wX11_asNow_2 post d M tl v1) 0 16 ?_
  intro d v1 hlo hhi rec M tl  hI hF hli
  unfold wX11_asNow_2
  refine ifs (fun hc1 => ?_) (fun hc2 => ?_)
  · skip
    exact hp _ _ hI hF trivial
  · skip
    refine And.intro (vpI (c := 381) (by decide) (by lia) (by lia)) ?_
    refine And.intro (vpI (c := 16) (by decide) (by lia) (by lia)) ?_
    have hr5 := r82_th hI v1 (by lia) (by lia)
    unfold Th at hr5
    intro W3 hW4
    have hI6 : Inv W3 := by rw [hW4]; exact inv_98 hI (by unfold Th; lia)
    have hF7 : Fr [98] [] Mb W3 := by rw [hW4]; exact fr_arr hF (by decide)
    exact rec (by lia) _ _  hI6 hF7 trivial
set_option maxHeartbeats 4000000 in
theorem sf_X11_asNow {post : MM → Int64 → Prop} {M : MM} {tl : Int64} (hI : Inv M) (hp : ∀ (M1 : MM) (t1 : Int64), Inv M1 → Fr [98] [] M M1 → True → post M1 t1) : wpX11_asNow post M tl  := by
  unfold wpX11_asNow
  obtain ⟨n1, hn2⟩ := sl_X11_asNow_2 (Mb := M) hp  (0 : Int32) (by lia) (by lia)
  exact ⟨n1, hn2 _ _  hI fr_rfl trivial⟩
set_option maxHeartbeats 4000000 in
theorem sf_X11_isEven {post : Int32 → MM → Int64 → Prop} {M : MM} {tl : Int64} {v1 : Int32} (hI : Inv M) (hp1 : 0 ≤ v1 ∧ v1 < 8) (hp : ∀ (r : Int32), (r = 0 ∨ r = 1) → post r M tl) : wpX11_isEven post M tl v1 := by
  unfold wpX11_isEven
  refine sf_X11_matchOf hI  (fun r1 hq2 => ?_)
  refine ifs (fun hc3 => ?_) (fun hc4 => ?_)
  · skip
    exact hp _ (by lia)
  · skip
    refine And.intro (vpI (c := 16) (by decide) (by lia) (by lia)) ?_
    refine And.intro (vpI (c := 16) (by decide) (by lia) (by lia)) ?_
    have hr5 := iv_98 hI (v1).toNatClampNeg
    unfold Th at hr5
    refine sf_X11_mirrorOf hI (by lia) (fun r6 hq7 => ?_)
    have hr8 := iv_98 hI (((8 : Int32) + r1)).toNatClampNeg
    unfold Th at hr8
    refine ifs (fun hc9 => ?_) (fun hc10 => ?_)
    · skip
      exact hp _ (by lia)
    · skip
      exact hp _ (by lia)
set_option maxHeartbeats 4000000 in
theorem sl_X11_oddLots_4 {post : Int32 → MM → Int64 → Prop} {M : MM} {tl : Int64} (hp : ∀ (r : Int32), True → post r M tl) (hI : Inv M) : ∀ v2 : Int32, 0 ≤ v2 → v2 ≤ 8 → ∃ n, ∀ (v1 : Int32), (True) → wX11_oddLots_4 post n M tl v1 v2 := by
  refine up_ex (P := fun d v2 => ∀ (v1 : Int32), (True) → wX11_oddLots_4 post d M tl v1 v2) 0 8 ?_
  intro d v2 hlo hhi rec v1 hli
  unfold wX11_oddLots_4
  have hr1 := iv_81_2 hI
  refine ifs (fun hc2 => ?_) (fun hc3 => ?_)
  · skip
    exact hp _ trivial
  · skip
    refine sf_X11_isEven hI (by lia) (fun r4 hq5 => ?_)
    refine ifs (fun hc6 => ?_) (fun hc7 => ?_)
    · skip
      unfold wX11_oddLots_26
      refine sf_X11_flag hI  (fun r8 hq9 => ?_)
      have hm10 : (0 : Int32) ≤ (v2 &&& (31 : Int32)) ∧ (v2 &&& (31 : Int32)) ≤ (31 : Int32) := andc v2 31 (by decide)
      exact rec (by lia) (v1 ||| (r8 <<< (v2 &&& (31 : Int32)))) trivial
    · skip
      unfold wX11_oddLots_26
      refine sf_X11_flag hI  (fun r11 hq12 => ?_)
      have hm13 : (0 : Int32) ≤ (v2 &&& (31 : Int32)) ∧ (v2 &&& (31 : Int32)) ≤ (31 : Int32) := andc v2 31 (by decide)
      exact rec (by lia) (v1 ||| (r11 <<< (v2 &&& (31 : Int32)))) trivial
set_option maxHeartbeats 4000000 in
theorem sf_X11_oddLots {post : Int32 → MM → Int64 → Prop} {M : MM} {tl : Int64} (hI : Inv M) (hp : ∀ (r : Int32), True → post r M tl) : wpX11_oddLots post M tl  := by
  unfold wpX11_oddLots
  obtain ⟨n1, hn2⟩ := sl_X11_oddLots_4 (M := M) (tl := tl) hp  hI (0 : Int32) (by lia) (by lia)
  exact ⟨n1, hn2 (0 : Int32) trivial⟩
set_option maxHeartbeats 4000000 in
theorem sf_X11_odd {post : Int32 → MM → Int64 → Prop} {M : MM} {tl : Int64} (hI : Inv M) (hp : ∀ (r : Int32) (M1 : MM) (t1 : Int64), Inv M1 → Fr [98] [] M M1 → True → post r M1 t1) : wpX11_odd post M tl  := by
  unfold wpX11_odd
  refine sf_X11_asNow hI  (fun M2 t3 hI4 hF5 hq6 => ?_)
  have hF7 : Fr [98] [] M M2 := fr_call fr_rfl hF5 (by decide) (by decide)
  refine sf_X11_oddLots hI4  (fun r8 hq9 => ?_)
  exact hp _ _ _ hI4 hF7 trivial
set_option maxHeartbeats 4000000 in
theorem sf_X11_third {post : Int32 → MM → Int64 → Prop} {M : MM} {tl : Int64} {v1 : Int32} (hI : Inv M) (hp : ∀ (r : Int32), True → post r M tl) : wpX11_third post M tl v1 := by
  unfold wpX11_third
  refine sf_X11_isLot hI  (fun r1 hq2 => ?_)
  refine ifs (fun hc3 => ?_) (fun hc4 => ?_)
  · skip
    exact hp _ trivial
  · skip
    refine sf_X11_matchOf hI  (fun r5 hq6 => ?_)
    refine ifs (fun hc7 => ?_) (fun hc8 => ?_)
    · skip
      exact hp _ trivial
    · skip
      refine And.intro (vpI (c := 381) (by decide) (by lia) (by lia)) ?_
      have hr9 := r82_th hI ((8 : Int32) + r5) (by lia) (by lia)
      unfold Th at hr9
      refine sf_X11_mirrorOf hI (by lia) (fun r10 hq11 => ?_)
      exact hp _ trivial
set_option maxHeartbeats 4000000 in
theorem sl_X11_cannot_96 {post : Int32 → MM → Int64 → Prop} {M : MM} {tl : Int64} (hp : ∀ (r : Int32), True → post r M tl) (hI : Inv M) : ∀ v5 : Int32, 0 ≤ v5 → v5 ≤ 6 → ∃ n, ∀ (v1 : Int32) (v2 : Int32) (v3 : Int32) (v4 : Int32), (True) → wX11_cannot_96 post n M tl v1 v2 v3 v4 v5 := by
  refine up_ex (P := fun d v5 => ∀ (v1 : Int32) (v2 : Int32) (v3 : Int32) (v4 : Int32), (True) → wX11_cannot_96 post d M tl v1 v2 v3 v4 v5) 0 6 ?_
  intro d v5 hlo hhi rec v1 v2 v3 v4 hli
  unfold wX11_cannot_96
  refine And.intro (vpI (c := 381) (by decide) (by lia) (by lia)) ?_
  have hr1 := r82_65 hI
  refine ifs (fun hc2 => ?_) (fun hc3 => ?_)
  · skip
    refine ifs (fun hc4 => ?_) (fun hc5 => ?_)
    · skip
      exact hp _ trivial
    · skip
      refine ifs (fun hc6 => ?_) (fun hc7 => ?_)
      · skip
        exact hp _ trivial
      · skip
        exact hp _ trivial
  · skip
    refine And.intro (vpI (c := 381) (by decide) (by lia) (by lia)) ?_
    have hr8 := r82_66_1 hI v5 (by lia) (by lia)
    refine sf_X11_doesLack hI (by lia) (fun r9 hq10 => ?_)
    refine ifs (fun hc11 => ?_) (fun hc12 => ?_)
    · skip
      refine And.intro (vpI (c := 6) (by decide) (by lia) (by lia)) ?_
      have hr13 := iv_88 hI ((M 82 ((((66 : Int32) + ((2 : Int32) * v5)) + (1 : Int32))).toNatClampNeg)).toNatClampNeg
      refine sf_X11_doesLack hI (by lia) (fun r14 hq15 => ?_)
      refine ifs (fun hc16 => ?_) (fun hc17 => ?_)
      · skip
        unfold wX11_cannot_158
        refine And.intro (vpI (c := 6) (by decide) (by lia) (by lia)) ?_
        refine sf_X11_doesLack hI (by lia) (fun r18 hq19 => ?_)
        refine ifs (fun hc20 => ?_) (fun hc21 => ?_)
        · skip
          unfold wX11_cannot_182
          exact rec (by lia) v1 (v2 ||| (0 : Int32)) v3 (v4 + (0 : Int32)) trivial
        · skip
          unfold wX11_cannot_182
          exact rec (by lia) v1 (v2 ||| (0 : Int32)) v3 (v4 + v3) trivial
      · skip
        unfold wX11_cannot_150
        have hm22 : (0 : Int32) ≤ ((M 82 ((((66 : Int32) + ((2 : Int32) * v5)) + (1 : Int32))).toNatClampNeg) &&& (31 : Int32)) ∧ ((M 82 ((((66 : Int32) + ((2 : Int32) * v5)) + (1 : Int32))).toNatClampNeg) &&& (31 : Int32)) ≤ (31 : Int32) := andc (M 82 ((((66 : Int32) + ((2 : Int32) * v5)) + (1 : Int32))).toNatClampNeg) 31 (by decide)
        unfold wX11_cannot_158
        refine And.intro (vpI (c := 6) (by decide) (by lia) (by lia)) ?_
        refine sf_X11_doesLack hI (by lia) (fun r23 hq24 => ?_)
        refine ifs (fun hc25 => ?_) (fun hc26 => ?_)
        · skip
          unfold wX11_cannot_182
          exact rec (by lia) v1 (v2 ||| ((1 : Int32) <<< ((M 82 ((((66 : Int32) + ((2 : Int32) * v5)) + (1 : Int32))).toNatClampNeg) &&& (31 : Int32)))) v3 (v4 + (0 : Int32)) trivial
        · skip
          unfold wX11_cannot_182
          exact rec (by lia) v1 (v2 ||| ((1 : Int32) <<< ((M 82 ((((66 : Int32) + ((2 : Int32) * v5)) + (1 : Int32))).toNatClampNeg) &&& (31 : Int32)))) v3 (v4 + v3) trivial
    · skip
      unfold wX11_cannot_150
      have hm27 : (0 : Int32) ≤ ((M 82 ((((66 : Int32) + ((2 : Int32) * v5)) + (1 : Int32))).toNatClampNeg) &&& (31 : Int32)) ∧ ((M 82 ((((66 : Int32) + ((2 : Int32) * v5)) + (1 : Int32))).toNatClampNeg) &&& (31 : Int32)) ≤ (31 : Int32) := andc (M 82 ((((66 : Int32) + ((2 : Int32) * v5)) + (1 : Int32))).toNatClampNeg) 31 (by decide)
      unfold wX11_cannot_158
      refine And.intro (vpI (c := 6) (by decide) (by lia) (by lia)) ?_
      have hr28 := iv_88 hI ((M 82 ((((66 : Int32) + ((2 : Int32) * v5)) + (1 : Int32))).toNatClampNeg)).toNatClampNeg
      refine sf_X11_doesLack hI (by lia) (fun r29 hq30 => ?_)
      refine ifs (fun hc31 => ?_) (fun hc32 => ?_)
      · skip
        unfold wX11_cannot_182
        exact rec (by lia) v1 (v2 ||| ((1 : Int32) <<< ((M 82 ((((66 : Int32) + ((2 : Int32) * v5)) + (1 : Int32))).toNatClampNeg) &&& (31 : Int32)))) v3 (v4 + (0 : Int32)) trivial
      · skip
        unfold wX11_cannot_182
        exact rec (by lia) v1 (v2 ||| ((1 : Int32) <<< ((M 82 ((((66 : Int32) + ((2 : Int32) * v5)) + (1 : Int32))).toNatClampNeg) &&& (31 : Int32)))) v3 (v4 + v3) trivial
set_option maxHeartbeats 4000000 in
theorem sl_X11_cannot_20 {post : Int32 → MM → Int64 → Prop} {M : MM} {tl : Int64} (hp : ∀ (r : Int32), True → post r M tl) (hI : Inv M) : ∀ v4 : Int32, 0 ≤ v4 → v4 ≤ 6 → ∃ n, ∀ (v1 : Int32) (v2 : Int32) (v3 : Int32), (True) → wX11_cannot_20 post n M tl v1 v2 v3 v4 := by
  refine up_ex (P := fun d v4 => ∀ (v1 : Int32) (v2 : Int32) (v3 : Int32), (True) → wX11_cannot_20 post d M tl v1 v2 v3 v4) 0 6 ?_
  intro d v4 hlo hhi rec v1 v2 v3 hli
  unfold wX11_cannot_20
  refine ifs (fun hc1 => ?_) (fun hc2 => ?_)
  · skip
    obtain ⟨n3, hn4⟩ := sl_X11_cannot_96 (M := M) (tl := tl) hp  hI (0 : Int32) (by lia) (by lia)
    exact ⟨n3, hn4 v1 v2 v3 (0 : Int32) trivial⟩
  · skip
    refine sf_X11_doesLack hI (by lia) (fun r5 hq6 => ?_)
    refine ifs (fun hc7 => ?_) (fun hc8 => ?_)
    · skip
      refine ifs (fun hc9 => ?_) (fun hc10 => ?_)
      · skip
        unfold wX11_cannot_57
        unfold wX11_cannot_62
        refine ifn (by decide) ?_
        refine And.intro (vpI (c := 12) (by decide) (by lia) (by lia)) ?_
        have hr11 := iv_85 hI (((6 : Int32) + v4)).toNatClampNeg
        unfold wX11_cannot_83
        exact rec (by lia) v1 v2 (M 85 (((6 : Int32) + v4)).toNatClampNeg) trivial
      · skip
        refine And.intro (vpI (c := 12) (by decide) (by lia) (by lia)) ?_
        have hr12 := iv_85 hI (((6 : Int32) + v4)).toNatClampNeg
        refine ifs (fun hc13 => ?_) (fun hc14 => ?_)
        · skip
          unfold wX11_cannot_61
          unfold wX11_cannot_62
          refine ifp (by decide) ?_
          unfold wX11_cannot_83
          exact rec (by lia) v1 v2 v3 trivial
        · skip
          unfold wX11_cannot_57
          unfold wX11_cannot_62
          refine ifn (by decide) ?_
          refine And.intro (vpI (c := 12) (by decide) (by lia) (by lia)) ?_
          unfold wX11_cannot_83
          exact rec (by lia) v1 v2 (M 85 (((6 : Int32) + v4)).toNatClampNeg) trivial
    · skip
      unfold wX11_cannot_61
      unfold wX11_cannot_62
      refine ifp (by decide) ?_
      unfold wX11_cannot_83
      exact rec (by lia) v1 v2 v3 trivial
set_option maxHeartbeats 4000000 in
theorem sf_X11_cannot {post : Int32 → MM → Int64 → Prop} {M : MM} {tl : Int64} {v1 : Int32} (hI : Inv M) (hp : ∀ (r : Int32), True → post r M tl) : wpX11_cannot post M tl v1 := by
  unfold wpX11_cannot
  refine m_in (v := v1) (lo := 0) (hi := 1) rfl rfl rfl (fun hn1 hn2 => ?_) (fun hn3 => ?_)
  · skip
    refine ifn (by decide) ?_
    obtain ⟨n4, hn5⟩ := sl_X11_cannot_20 (M := M) (tl := tl) hp  hI (1 : Int32) (by lia) (by lia)
    exact ⟨n4, hn5 v1 (0 : Int32) (-4 : Int32) trivial⟩
  · skip
    refine ifp (by decide) ?_
    exact hp _ trivial
set_option maxHeartbeats 4000000 in
theorem sl_X11_copies_2 {post : MM → Int64 → Prop} {Mb : MM} (hp : ∀ (M1 : MM) (t1 : Int64), Inv M1 → Fr [82] [] Mb M1 → True → post M1 t1) : ∀ v3 : Int32, 0 ≤ v3 → v3 ≤ 127 → ∃ n, ∀ (M : MM) (tl : Int64) (v1 : Int32) (v2 : Int32), Inv M → Fr [82] [] Mb M → ((v1 = 0 ∨ v1 = 127 ∨ v1 = 254) ∧ (v2 = 0 ∨ v2 = 127 ∨ v2 = 254)) → wX11_copies_2 post n M tl v1 v2 v3 := by
  refine up_ex (P := fun d v3 => ∀ (M : MM) (tl : Int64) (v1 : Int32) (v2 : Int32), Inv M → Fr [82] [] Mb M → ((v1 = 0 ∨ v1 = 127 ∨ v1 = 254) ∧ (v2 = 0 ∨ v2 = 127 ∨ v2 = 254)) → wX11_copies_2 post d M tl v1 v2 v3) 0 127 ?_
  intro d v3 hlo hhi rec M tl v1 v2 hI hF hli
  unfold wX11_copies_2
  refine ifs (fun hc1 => ?_) (fun hc2 => ?_)
  · skip
    exact hp _ _ hI hF trivial
  · skip
    refine And.intro (vpI (c := 381) (by decide) (by lia) (by lia)) ?_
    refine And.intro (vpI (c := 381) (by decide) (by lia) (by lia)) ?_
    intro W3 hW4
    have hI6 : Inv W3 := by rw [hW4]; exact inv_82 hI (by rw [cp_mod (d := v2) (by lia) (by lia) (by lia) (by lia)]; exact (hI).2.1 _)
    have hF7 : Fr [82] [] Mb W3 := by rw [hW4]; exact fr_arr hF (by decide)
    exact rec (by lia) _ _ v1 v2 hI6 hF7 (by lia)
set_option maxHeartbeats 4000000 in
theorem sf_X11_copies {post : MM → Int64 → Prop} {M : MM} {tl : Int64} {v1 : Int32} {v2 : Int32} (hI : Inv M) (hp1 : (v1 = 0 ∨ v1 = 127 ∨ v1 = 254)) (hp2 : (v2 = 0 ∨ v2 = 127 ∨ v2 = 254)) (hp : ∀ (M1 : MM) (t1 : Int64), Inv M1 → Fr [82] [] M M1 → True → post M1 t1) : wpX11_copies post M tl v1 v2 := by
  unfold wpX11_copies
  obtain ⟨n1, hn2⟩ := sl_X11_copies_2 (Mb := M) hp  (0 : Int32) (by lia) (by lia)
  exact ⟨n1, hn2 _ _ v1 v2 hI fr_rfl (by lia)⟩
set_option maxHeartbeats 4000000 in
theorem sf_X11_keep {post : Int32 → MM → Int64 → Prop} {M : MM} {tl : Int64} {v1 : Int32} (hI : Inv M) (hp : ∀ (r : Int32) (M1 : MM) (t1 : Int64), Inv M1 → Fr [82, 83] [] M M1 → True → post r M1 t1) : wpX11_keep post M tl v1 := by
  unfold wpX11_keep
  refine m_in (v := v1) (lo := 0) (hi := 1) rfl rfl rfl (fun hn1 hn2 => ?_) (fun hn3 => ?_)
  · skip
    refine ifn (by decide) ?_
    refine And.intro (vpI (c := 2) (by decide) (by lia) (by lia)) ?_
    refine sf_X11_flag hI  (fun r4 hq5 => ?_)
    refine And.intro (vpI (c := 2) (by decide) (by lia) (by lia)) ?_
    intro W6 hW7
    have hI8 : Inv W6 := by rw [hW7]; exact inv_set hI (i_any _)
    have hF9 : Fr [82, 83] [] M W6 := by rw [hW7]; exact fr_arr fr_rfl (by decide)
    refine sf_X11_copies hI8 (by lia) (by lia) (fun M11 t12 hI13 hF14 hq15 => ?_)
    have hF16 : Fr [82, 83] [] M M11 := fr_call hF9 hF14 (by decide) (by decide)
    exact hp _ _ _ hI13 hF16 trivial
  · skip
    refine ifp (by decide) ?_
    exact hp _ _ _ hI fr_rfl trivial
set_option maxHeartbeats 4000000 in
theorem sf_X11_back {post : Int32 → MM → Int64 → Prop} {M : MM} {tl : Int64} {v1 : Int32} (hI : Inv M) (hp : ∀ (r : Int32) (M1 : MM) (t1 : Int64), Inv M1 → Fr [82] [] M M1 → True → post r M1 t1) : wpX11_back post M tl v1 := by
  unfold wpX11_back
  refine m_in (v := v1) (lo := 0) (hi := 1) rfl rfl rfl (fun hn1 hn2 => ?_) (fun hn3 => ?_)
  · skip
    refine ifn (by decide) ?_
    refine And.intro (vpI (c := 2) (by decide) (by lia) (by lia)) ?_
    refine ifs (fun hc4 => ?_) (fun hc5 => ?_)
    · skip
      exact hp _ _ _ hI fr_rfl trivial
    · skip
      refine sf_X11_copies hI (by lia) (by lia) (fun M7 t8 hI9 hF10 hq11 => ?_)
      have hF12 : Fr [82] [] M M7 := fr_call fr_rfl hF10 (by decide) (by decide)
      refine sf_X11_thingMany hI9  (fun r13 hq14 => ?_)
      exact hp _ _ _ hI9 hF12 trivial
  · skip
    refine ifp (by decide) ?_
    exact hp _ _ _ hI fr_rfl trivial
set_option maxHeartbeats 4000000 in
theorem sl_X11_firstDraft_118 {post : MM → Int64 → Prop} {Mb : MM} (hp : ∀ (M1 : MM) (t1 : Int64), Inv M1 → Fr [90, 91, 92, 93, 94, 95, 96] [(81, 13), (81, 14), (81, 15), (81, 22), (81, 23), (81, 24), (81, 25), (81, 26), (81, 27), (81, 28), (81, 29)] Mb M1 → True → post M1 t1) : ∀ v1 : Int32, 0 ≤ v1 → v1 ≤ 6 → ∃ n, ∀ (M : MM) (tl : Int64), Inv M → Fr [90, 91, 92, 93, 94, 95, 96] [(81, 13), (81, 14), (81, 15), (81, 22), (81, 23), (81, 24), (81, 25), (81, 26), (81, 27), (81, 28), (81, 29)] Mb M → (True) → wX11_firstDraft_118 post n M tl v1 := by
  refine up_ex (P := fun d v1 => ∀ (M : MM) (tl : Int64), Inv M → Fr [90, 91, 92, 93, 94, 95, 96] [(81, 13), (81, 14), (81, 15), (81, 22), (81, 23), (81, 24), (81, 25), (81, 26), (81, 27), (81, 28), (81, 29)] Mb M → (True) → wX11_firstDraft_118 post d M tl v1) 0 6 ?_
  intro d v1 hlo hhi rec M tl  hI hF hli
  unfold wX11_firstDraft_118
  refine ifs (fun hc1 => ?_) (fun hc2 => ?_)
  · skip
    intro W3 hW4
    have hI5 : Inv W3 := by rw [hW4]; exact inv_set hI (i_any _)
    have hF6 : Fr [90, 91, 92, 93, 94, 95, 96] [(81, 13), (81, 14), (81, 15), (81, 22), (81, 23), (81, 24), (81, 25), (81, 26), (81, 27), (81, 28), (81, 29)] Mb W3 := by rw [hW4]; exact fr_fld hF (by decide)
    have hv7 : W3 81 22 = (0 : Int32) := by rw [hW4]; exact mset_at _ _ _ _
    intro W8 hW9
    have hI10 : Inv W8 := by rw [hW9]; exact inv_set hI5 (i_any _)
    have hF11 : Fr [90, 91, 92, 93, 94, 95, 96] [(81, 13), (81, 14), (81, 15), (81, 22), (81, 23), (81, 24), (81, 25), (81, 26), (81, 27), (81, 28), (81, 29)] Mb W8 := by rw [hW9]; exact fr_fld hF6 (by decide)
    have hv12 : W8 81 23 = (0 : Int32) := by rw [hW9]; exact mset_at _ _ _ _
    intro W13 hW14
    have hI15 : Inv W13 := by rw [hW14]; exact inv_set hI10 (i_any _)
    have hF16 : Fr [90, 91, 92, 93, 94, 95, 96] [(81, 13), (81, 14), (81, 15), (81, 22), (81, 23), (81, 24), (81, 25), (81, 26), (81, 27), (81, 28), (81, 29)] Mb W13 := by rw [hW14]; exact fr_fld hF11 (by decide)
    have hv17 : W13 81 24 = (0 : Int32) := by rw [hW14]; exact mset_at _ _ _ _
    intro W18 hW19
    have hI20 : Inv W18 := by rw [hW19]; exact inv_set hI15 (i_any _)
    have hF21 : Fr [90, 91, 92, 93, 94, 95, 96] [(81, 13), (81, 14), (81, 15), (81, 22), (81, 23), (81, 24), (81, 25), (81, 26), (81, 27), (81, 28), (81, 29)] Mb W18 := by rw [hW19]; exact fr_fld hF16 (by decide)
    have hv22 : W18 81 25 = (0 : Int32) := by rw [hW19]; exact mset_at _ _ _ _
    intro W23 hW24
    have hI25 : Inv W23 := by rw [hW24]; exact inv_set hI20 (i_any _)
    have hF26 : Fr [90, 91, 92, 93, 94, 95, 96] [(81, 13), (81, 14), (81, 15), (81, 22), (81, 23), (81, 24), (81, 25), (81, 26), (81, 27), (81, 28), (81, 29)] Mb W23 := by rw [hW24]; exact fr_fld hF21 (by decide)
    have hv27 : W23 81 26 = (0 : Int32) := by rw [hW24]; exact mset_at _ _ _ _
    intro W28 hW29
    have hI30 : Inv W28 := by rw [hW29]; exact inv_set hI25 (i_any _)
    have hF31 : Fr [90, 91, 92, 93, 94, 95, 96] [(81, 13), (81, 14), (81, 15), (81, 22), (81, 23), (81, 24), (81, 25), (81, 26), (81, 27), (81, 28), (81, 29)] Mb W28 := by rw [hW29]; exact fr_fld hF26 (by decide)
    have hv32 : W28 81 27 = (0 : Int32) := by rw [hW29]; exact mset_at _ _ _ _
    intro W33 hW34
    have hI35 : Inv W33 := by rw [hW34]; exact inv_set hI30 (i_any _)
    have hF36 : Fr [90, 91, 92, 93, 94, 95, 96] [(81, 13), (81, 14), (81, 15), (81, 22), (81, 23), (81, 24), (81, 25), (81, 26), (81, 27), (81, 28), (81, 29)] Mb W33 := by rw [hW34]; exact fr_fld hF31 (by decide)
    have hv37 : W33 81 28 = (0 : Int32) := by rw [hW34]; exact mset_at _ _ _ _
    intro W38 hW39
    have hI40 : Inv W38 := by rw [hW39]; exact inv_set hI35 (i_any _)
    have hF41 : Fr [90, 91, 92, 93, 94, 95, 96] [(81, 13), (81, 14), (81, 15), (81, 22), (81, 23), (81, 24), (81, 25), (81, 26), (81, 27), (81, 28), (81, 29)] Mb W38 := by rw [hW39]; exact fr_fld hF36 (by decide)
    have hv42 : W38 81 29 = (-4 : Int32) := by rw [hW39]; exact mset_at _ _ _ _
    exact hp _ _ hI40 hF41 trivial
  · skip
    refine And.intro (vpI (c := 6) (by decide) (by lia) (by lia)) ?_
    intro W43 hW44
    have hI45 : Inv W43 := by rw [hW44]; exact inv_set hI (show 0 ≤ v1 ∧ v1 ≤ 5 from ⟨by lia, by lia⟩)
    have hF46 : Fr [90, 91, 92, 93, 94, 95, 96] [(81, 13), (81, 14), (81, 15), (81, 22), (81, 23), (81, 24), (81, 25), (81, 26), (81, 27), (81, 28), (81, 29)] Mb W43 := by rw [hW44]; exact fr_arr hF (by decide)
    exact rec (by lia) _ _  hI45 hF46 trivial
set_option maxHeartbeats 4000000 in
theorem sl_X11_firstDraft_65 {post : MM → Int64 → Prop} {Mb : MM} (hp : ∀ (M1 : MM) (t1 : Int64), Inv M1 → Fr [90, 91, 92, 93, 94, 95, 96] [(81, 13), (81, 14), (81, 15), (81, 22), (81, 23), (81, 24), (81, 25), (81, 26), (81, 27), (81, 28), (81, 29)] Mb M1 → True → post M1 t1) : ∀ v1 : Int32, 0 ≤ v1 → v1 ≤ 12 → ∃ n, ∀ (M : MM) (tl : Int64), Inv M → Fr [90, 91, 92, 93, 94, 95, 96] [(81, 13), (81, 14), (81, 15), (81, 22), (81, 23), (81, 24), (81, 25), (81, 26), (81, 27), (81, 28), (81, 29)] Mb M → (True) → wX11_firstDraft_65 post n M tl v1 := by
  refine up_ex (P := fun d v1 => ∀ (M : MM) (tl : Int64), Inv M → Fr [90, 91, 92, 93, 94, 95, 96] [(81, 13), (81, 14), (81, 15), (81, 22), (81, 23), (81, 24), (81, 25), (81, 26), (81, 27), (81, 28), (81, 29)] Mb M → (True) → wX11_firstDraft_65 post d M tl v1) 0 12 ?_
  intro d v1 hlo hhi rec M tl  hI hF hli
  unfold wX11_firstDraft_65
  refine ifs (fun hc1 => ?_) (fun hc2 => ?_)
  · skip
    refine And.intro (vpI (c := 2) (by decide) (by lia) (by lia)) ?_
    intro W3 hW4
    have hI5 : Inv W3 := by rw [hW4]; exact inv_set hI (i_any _)
    have hF6 : Fr [90, 91, 92, 93, 94, 95, 96] [(81, 13), (81, 14), (81, 15), (81, 22), (81, 23), (81, 24), (81, 25), (81, 26), (81, 27), (81, 28), (81, 29)] Mb W3 := by rw [hW4]; exact fr_arr hF (by decide)
    refine And.intro (vpI (c := 2) (by decide) (by lia) (by lia)) ?_
    intro W7 hW8
    have hI9 : Inv W7 := by rw [hW8]; exact inv_set hI5 (i_any _)
    have hF10 : Fr [90, 91, 92, 93, 94, 95, 96] [(81, 13), (81, 14), (81, 15), (81, 22), (81, 23), (81, 24), (81, 25), (81, 26), (81, 27), (81, 28), (81, 29)] Mb W7 := by rw [hW8]; exact fr_arr hF6 (by decide)
    obtain ⟨n11, hn12⟩ := sl_X11_firstDraft_118 (Mb := Mb) hp  (0 : Int32) (by lia) (by lia)
    exact ⟨n11, hn12 _ _  hI9 hF10 trivial⟩
  · skip
    refine And.intro (vpI (c := 12) (by decide) (by lia) (by lia)) ?_
    intro W13 hW14
    have hI15 : Inv W13 := by rw [hW14]; exact inv_set hI (show 0 ≤ (5 : Int32) ∧ (5 : Int32) ≤ 20 from ⟨by lia, by lia⟩)
    have hF16 : Fr [90, 91, 92, 93, 94, 95, 96] [(81, 13), (81, 14), (81, 15), (81, 22), (81, 23), (81, 24), (81, 25), (81, 26), (81, 27), (81, 28), (81, 29)] Mb W13 := by rw [hW14]; exact fr_arr hF (by decide)
    refine ifs (fun hc17 => ?_) (fun hc18 => ?_)
    · skip
      unfold wX11_firstDraft_95
      refine And.intro (vpI (c := 12) (by decide) (by lia) (by lia)) ?_
      intro W19 hW20
      have hI21 : Inv W19 := by rw [hW20]; exact inv_set hI15 (i_any _)
      have hF22 : Fr [90, 91, 92, 93, 94, 95, 96] [(81, 13), (81, 14), (81, 15), (81, 22), (81, 23), (81, 24), (81, 25), (81, 26), (81, 27), (81, 28), (81, 29)] Mb W19 := by rw [hW20]; exact fr_arr hF16 (by decide)
      exact rec (by lia) _ _  hI21 hF22 trivial
    · skip
      unfold wX11_firstDraft_95
      refine And.intro (vpI (c := 12) (by decide) (by lia) (by lia)) ?_
      intro W23 hW24
      have hI25 : Inv W23 := by rw [hW24]; exact inv_set hI15 (i_any _)
      have hF26 : Fr [90, 91, 92, 93, 94, 95, 96] [(81, 13), (81, 14), (81, 15), (81, 22), (81, 23), (81, 24), (81, 25), (81, 26), (81, 27), (81, 28), (81, 29)] Mb W23 := by rw [hW24]; exact fr_arr hF16 (by decide)
      exact rec (by lia) _ _  hI25 hF26 trivial
set_option maxHeartbeats 4000000 in
theorem sl_X11_firstDraft_38 {post : MM → Int64 → Prop} {Mb : MM} (hp : ∀ (M1 : MM) (t1 : Int64), Inv M1 → Fr [90, 91, 92, 93, 94, 95, 96] [(81, 13), (81, 14), (81, 15), (81, 22), (81, 23), (81, 24), (81, 25), (81, 26), (81, 27), (81, 28), (81, 29)] Mb M1 → True → post M1 t1) : ∀ v1 : Int32, 0 ≤ v1 → v1 ≤ 4 → ∃ n, ∀ (M : MM) (tl : Int64), Inv M → Fr [90, 91, 92, 93, 94, 95, 96] [(81, 13), (81, 14), (81, 15), (81, 22), (81, 23), (81, 24), (81, 25), (81, 26), (81, 27), (81, 28), (81, 29)] Mb M → (True) → wX11_firstDraft_38 post n M tl v1 := by
  refine up_ex (P := fun d v1 => ∀ (M : MM) (tl : Int64), Inv M → Fr [90, 91, 92, 93, 94, 95, 96] [(81, 13), (81, 14), (81, 15), (81, 22), (81, 23), (81, 24), (81, 25), (81, 26), (81, 27), (81, 28), (81, 29)] Mb M → (True) → wX11_firstDraft_38 post d M tl v1) 0 4 ?_
  intro d v1 hlo hhi rec M tl  hI hF hli
  unfold wX11_firstDraft_38
  refine ifs (fun hc1 => ?_) (fun hc2 => ?_)
  · skip
    obtain ⟨n3, hn4⟩ := sl_X11_firstDraft_65 (Mb := Mb) hp  (0 : Int32) (by lia) (by lia)
    exact ⟨n3, hn4 _ _  hI hF trivial⟩
  · skip
    refine And.intro (vpI (c := 4) (by decide) (by lia) (by lia)) ?_
    intro W5 hW6
    have hI7 : Inv W5 := by rw [hW6]; exact inv_set hI (show 0 ≤ (1 : Int32) ∧ (1 : Int32) ≤ 9 from ⟨by lia, by lia⟩)
    have hF8 : Fr [90, 91, 92, 93, 94, 95, 96] [(81, 13), (81, 14), (81, 15), (81, 22), (81, 23), (81, 24), (81, 25), (81, 26), (81, 27), (81, 28), (81, 29)] Mb W5 := by rw [hW6]; exact fr_arr hF (by decide)
    refine And.intro (vpI (c := 4) (by decide) (by lia) (by lia)) ?_
    intro W9 hW10
    have hI11 : Inv W9 := by rw [hW10]; exact inv_set hI7 (show 0 ≤ v1 ∧ v1 ≤ 3 from ⟨by lia, by lia⟩)
    have hF12 : Fr [90, 91, 92, 93, 94, 95, 96] [(81, 13), (81, 14), (81, 15), (81, 22), (81, 23), (81, 24), (81, 25), (81, 26), (81, 27), (81, 28), (81, 29)] Mb W9 := by rw [hW10]; exact fr_arr hF8 (by decide)
    exact rec (by lia) _ _  hI11 hF12 trivial
set_option maxHeartbeats 4000000 in
theorem sl_X11_firstDraft_2 {post : MM → Int64 → Prop} {Mb : MM} (hp : ∀ (M1 : MM) (t1 : Int64), Inv M1 → Fr [90, 91, 92, 93, 94, 95, 96] [(81, 13), (81, 14), (81, 15), (81, 22), (81, 23), (81, 24), (81, 25), (81, 26), (81, 27), (81, 28), (81, 29)] Mb M1 → True → post M1 t1) : ∀ v1 : Int32, 0 ≤ v1 → v1 ≤ 127 → ∃ n, ∀ (M : MM) (tl : Int64), Inv M → Fr [90, 91, 92, 93, 94, 95, 96] [(81, 13), (81, 14), (81, 15), (81, 22), (81, 23), (81, 24), (81, 25), (81, 26), (81, 27), (81, 28), (81, 29)] Mb M → (True) → wX11_firstDraft_2 post n M tl v1 := by
  refine up_ex (P := fun d v1 => ∀ (M : MM) (tl : Int64), Inv M → Fr [90, 91, 92, 93, 94, 95, 96] [(81, 13), (81, 14), (81, 15), (81, 22), (81, 23), (81, 24), (81, 25), (81, 26), (81, 27), (81, 28), (81, 29)] Mb M → (True) → wX11_firstDraft_2 post d M tl v1) 0 127 ?_
  intro d v1 hlo hhi rec M tl  hI hF hli
  unfold wX11_firstDraft_2
  refine ifs (fun hc1 => ?_) (fun hc2 => ?_)
  · skip
    intro W3 hW4
    have hI5 : Inv W3 := by rw [hW4]; exact inv_set hI (show 0 ≤ (5 : Int32) ∧ (5 : Int32) ≤ 8 from ⟨by lia, by lia⟩)
    have hF6 : Fr [90, 91, 92, 93, 94, 95, 96] [(81, 13), (81, 14), (81, 15), (81, 22), (81, 23), (81, 24), (81, 25), (81, 26), (81, 27), (81, 28), (81, 29)] Mb W3 := by rw [hW4]; exact fr_fld hF (by decide)
    have hv7 : W3 81 13 = (5 : Int32) := by rw [hW4]; exact mset_at _ _ _ _
    intro W8 hW9
    have hI10 : Inv W8 := by rw [hW9]; exact inv_set hI5 (show 0 ≤ (3 : Int32) ∧ (3 : Int32) ≤ 6 from ⟨by lia, by lia⟩)
    have hF11 : Fr [90, 91, 92, 93, 94, 95, 96] [(81, 13), (81, 14), (81, 15), (81, 22), (81, 23), (81, 24), (81, 25), (81, 26), (81, 27), (81, 28), (81, 29)] Mb W8 := by rw [hW9]; exact fr_fld hF6 (by decide)
    have hv12 : W8 81 14 = (3 : Int32) := by rw [hW9]; exact mset_at _ _ _ _
    intro W13 hW14
    have hI15 : Inv W13 := by rw [hW14]; exact inv_set hI10 (show 0 ≤ (1 : Int32) ∧ (1 : Int32) ≤ 20 from ⟨by lia, by lia⟩)
    have hF16 : Fr [90, 91, 92, 93, 94, 95, 96] [(81, 13), (81, 14), (81, 15), (81, 22), (81, 23), (81, 24), (81, 25), (81, 26), (81, 27), (81, 28), (81, 29)] Mb W13 := by rw [hW14]; exact fr_fld hF11 (by decide)
    have hv17 : W13 81 15 = (1 : Int32) := by rw [hW14]; exact mset_at _ _ _ _
    obtain ⟨n18, hn19⟩ := sl_X11_firstDraft_38 (Mb := Mb) hp  (0 : Int32) (by lia) (by lia)
    exact ⟨n18, hn19 _ _  hI15 hF16 trivial⟩
  · skip
    refine And.intro (vpI (c := 127) (by decide) (by lia) (by lia)) ?_
    intro W20 hW21
    have hI22 : Inv W20 := by rw [hW21]; exact inv_90 hI (sd_zero _)
    have hF23 : Fr [90, 91, 92, 93, 94, 95, 96] [(81, 13), (81, 14), (81, 15), (81, 22), (81, 23), (81, 24), (81, 25), (81, 26), (81, 27), (81, 28), (81, 29)] Mb W20 := by rw [hW21]; exact fr_arr hF (by decide)
    exact rec (by lia) _ _  hI22 hF23 trivial
set_option maxHeartbeats 4000000 in
theorem sf_X11_firstDraft {post : MM → Int64 → Prop} {M : MM} {tl : Int64} (hI : Inv M) (hp : ∀ (M1 : MM) (t1 : Int64), Inv M1 → Fr [90, 91, 92, 93, 94, 95, 96] [(81, 13), (81, 14), (81, 15), (81, 22), (81, 23), (81, 24), (81, 25), (81, 26), (81, 27), (81, 28), (81, 29)] M M1 → True → post M1 t1) : wpX11_firstDraft post M tl  := by
  unfold wpX11_firstDraft
  obtain ⟨n1, hn2⟩ := sl_X11_firstDraft_2 (Mb := M) hp  (0 : Int32) (by lia) (by lia)
  exact ⟨n1, hn2 _ _  hI fr_rfl trivial⟩
set_option maxHeartbeats 4000000 in
theorem sl_X11_keepDraft_173 {post : MM → Int64 → Prop} {Mb : MM} (hp : ∀ (M1 : MM) (t1 : Int64), Inv M1 → Fr [82, 83, 84, 85, 86, 87, 88, 89] [(81, 2), (81, 3), (81, 4), (81, 11)] Mb M1 → True → post M1 t1) : ∀ v1 : Int32, 0 ≤ v1 → v1 ≤ 6 → ∃ n, ∀ (M : MM) (tl : Int64), Inv M → Fr [82, 83, 84, 85, 86, 87, 88, 89] [(81, 2), (81, 3), (81, 4), (81, 11)] Mb M → (True) → wX11_keepDraft_173 post n M tl v1 := by
  refine up_ex (P := fun d v1 => ∀ (M : MM) (tl : Int64), Inv M → Fr [82, 83, 84, 85, 86, 87, 88, 89] [(81, 2), (81, 3), (81, 4), (81, 11)] Mb M → (True) → wX11_keepDraft_173 post d M tl v1) 0 6 ?_
  intro d v1 hlo hhi rec M tl  hI hF hli
  unfold wX11_keepDraft_173
  refine ifs (fun hc1 => ?_) (fun hc2 => ?_)
  · skip
    refine And.intro (vpI (c := 2) (by decide) (by lia) (by lia)) ?_
    intro W3 hW4
    have hI5 : Inv W3 := by rw [hW4]; exact inv_set hI (i_any _)
    have hF6 : Fr [82, 83, 84, 85, 86, 87, 88, 89] [(81, 2), (81, 3), (81, 4), (81, 11)] Mb W3 := by rw [hW4]; exact fr_arr hF (by decide)
    refine And.intro (vpI (c := 2) (by decide) (by lia) (by lia)) ?_
    intro W7 hW8
    have hI9 : Inv W7 := by rw [hW8]; exact inv_set hI5 (i_any _)
    have hF10 : Fr [82, 83, 84, 85, 86, 87, 88, 89] [(81, 2), (81, 3), (81, 4), (81, 11)] Mb W7 := by rw [hW8]; exact fr_arr hF6 (by decide)
    exact hp _ _ hI9 hF10 trivial
  · skip
    refine And.intro (vpI (c := 6) (by decide) (by lia) (by lia)) ?_
    refine And.intro (vpI (c := 6) (by decide) (by lia) (by lia)) ?_
    have hr13 := iv_95 hI (v1).toNatClampNeg
    intro W11 hW12
    have hI14 : Inv W11 := by rw [hW12]; exact inv_set hI (show 0 ≤ (M 95 (v1).toNatClampNeg) ∧ (M 95 (v1).toNatClampNeg) ≤ 5 from ⟨by lia, by lia⟩)
    have hF15 : Fr [82, 83, 84, 85, 86, 87, 88, 89] [(81, 2), (81, 3), (81, 4), (81, 11)] Mb W11 := by rw [hW12]; exact fr_arr hF (by decide)
    refine And.intro (vpI (c := 6) (by decide) (by lia) (by lia)) ?_
    have hx18 : W11 81 11 = M 81 11 := by rw [hW12, mset_ne (by decide)]
    have hm19 : (0 : Int32) ≤ (((W11 81 22) >>> (v1 &&& (31 : Int32))) &&& (1 : Int32)) ∧ (((W11 81 22) >>> (v1 &&& (31 : Int32))) &&& (1 : Int32)) ≤ (1 : Int32) := andc ((W11 81 22) >>> (v1 &&& (31 : Int32))) 1 (by decide)
    have hx20 : W11 81 22 = M 81 22 := by rw [hW12, mset_ne (by decide)]
    have hm21 : (0 : Int32) ≤ (v1 &&& (31 : Int32)) ∧ (v1 &&& (31 : Int32)) ≤ (31 : Int32) := andc v1 31 (by decide)
    have hm22 : (0 : Int32) ≤ ((W11 95 (v1).toNatClampNeg) &&& (31 : Int32)) ∧ ((W11 95 (v1).toNatClampNeg) &&& (31 : Int32)) ≤ (31 : Int32) := andc (W11 95 (v1).toNatClampNeg) 31 (by decide)
    have hr23 := iv_95 hI14 (v1).toNatClampNeg
    intro W16 hW17
    have hI24 : Inv W16 := by rw [hW17]; exact inv_set hI14 (i_any _)
    have hF25 : Fr [82, 83, 84, 85, 86, 87, 88, 89] [(81, 2), (81, 3), (81, 4), (81, 11)] Mb W16 := by rw [hW17]; exact fr_fld hF15 (by decide)
    have hv26 : W16 81 11 = ((W11 81 11) ||| ((((W11 81 22) >>> (v1 &&& (31 : Int32))) &&& (1 : Int32)) <<< ((W11 95 (v1).toNatClampNeg) &&& (31 : Int32)))) := by rw [hW17]; exact mset_at _ _ _ _
    exact rec (by lia) _ _  hI24 hF25 trivial
set_option maxHeartbeats 4000000 in
theorem sl_X11_keepDraft_89 {post : MM → Int64 → Prop} {Mb : MM} (hp : ∀ (M1 : MM) (t1 : Int64), Inv M1 → Fr [82, 83, 84, 85, 86, 87, 88, 89] [(81, 2), (81, 3), (81, 4), (81, 11)] Mb M1 → True → post M1 t1) : ∀ v1 : Int32, 0 ≤ v1 → v1 ≤ 12 → ∃ n, ∀ (M : MM) (tl : Int64), Inv M → Fr [82, 83, 84, 85, 86, 87, 88, 89] [(81, 2), (81, 3), (81, 4), (81, 11)] Mb M → (True) → wX11_keepDraft_89 post n M tl v1 := by
  refine up_ex (P := fun d v1 => ∀ (M : MM) (tl : Int64), Inv M → Fr [82, 83, 84, 85, 86, 87, 88, 89] [(81, 2), (81, 3), (81, 4), (81, 11)] Mb M → (True) → wX11_keepDraft_89 post d M tl v1) 0 12 ?_
  intro d v1 hlo hhi rec M tl  hI hF hli
  unfold wX11_keepDraft_89
  refine ifs (fun hc1 => ?_) (fun hc2 => ?_)
  · skip
    refine And.intro (vpI (c := 2) (by decide) (by lia) (by lia)) ?_
    refine And.intro (vpI (c := 2) (by decide) (by lia) (by lia)) ?_
    intro W3 hW4
    have hI5 : Inv W3 := by rw [hW4]; exact inv_set hI (i_any _)
    have hF6 : Fr [82, 83, 84, 85, 86, 87, 88, 89] [(81, 2), (81, 3), (81, 4), (81, 11)] Mb W3 := by rw [hW4]; exact fr_arr hF (by decide)
    refine And.intro (vpI (c := 2) (by decide) (by lia) (by lia)) ?_
    refine And.intro (vpI (c := 2) (by decide) (by lia) (by lia)) ?_
    have hx9 : W3 94 1 = M 94 1 := by rw [hW4, mset_ne (by decide)]
    intro W7 hW8
    have hI10 : Inv W7 := by rw [hW8]; exact inv_set hI5 (i_any _)
    have hF11 : Fr [82, 83, 84, 85, 86, 87, 88, 89] [(81, 2), (81, 3), (81, 4), (81, 11)] Mb W7 := by rw [hW8]; exact fr_arr hF6 (by decide)
    have hx14 : W7 81 22 = W3 81 22 := by rw [hW8, mset_ne (by decide)]
    have hx15 : W3 81 22 = M 81 22 := by rw [hW4, mset_ne (by decide)]
    intro W12 hW13
    have hI16 : Inv W12 := by rw [hW13]; exact inv_set hI10 (i_any _)
    have hF17 : Fr [82, 83, 84, 85, 86, 87, 88, 89] [(81, 2), (81, 3), (81, 4), (81, 11)] Mb W12 := by rw [hW13]; exact fr_fld hF11 (by decide)
    have hv18 : W12 81 11 = (W7 81 22) := by rw [hW13]; exact mset_at _ _ _ _
    obtain ⟨n19, hn20⟩ := sl_X11_keepDraft_173 (Mb := Mb) hp  (0 : Int32) (by lia) (by lia)
    exact ⟨n19, hn20 _ _  hI16 hF17 trivial⟩
  · skip
    refine ifs (fun hc21 => ?_) (fun hc22 => ?_)
    · skip
      have hr23 := iv_81_15 hI
      unfold wX11_keepDraft_120
      refine And.intro (vpI (c := 12) (by decide) (by lia) (by lia)) ?_
      intro W24 hW25
      have hI26 : Inv W24 := by rw [hW25]; exact inv_set hI (show 0 ≤ (M 81 15) ∧ (M 81 15) ≤ 20 from ⟨by lia, by lia⟩)
      have hF27 : Fr [82, 83, 84, 85, 86, 87, 88, 89] [(81, 2), (81, 3), (81, 4), (81, 11)] Mb W24 := by rw [hW25]; exact fr_arr hF (by decide)
      refine And.intro (vpI (c := 12) (by decide) (by lia) (by lia)) ?_
      refine And.intro (vpI (c := 12) (by decide) (by lia) (by lia)) ?_
      intro W28 hW29
      have hI30 : Inv W28 := by rw [hW29]; exact inv_set hI26 (i_any _)
      have hF31 : Fr [82, 83, 84, 85, 86, 87, 88, 89] [(81, 2), (81, 3), (81, 4), (81, 11)] Mb W28 := by rw [hW29]; exact fr_arr hF27 (by decide)
      exact rec (by lia) _ _  hI30 hF31 trivial
    · skip
      refine And.intro (vpI (c := 12) (by decide) (by lia) (by lia)) ?_
      have hr32 := iv_92 hI (v1).toNatClampNeg
      unfold wX11_keepDraft_120
      refine And.intro (vpI (c := 12) (by decide) (by lia) (by lia)) ?_
      intro W33 hW34
      have hI35 : Inv W33 := by rw [hW34]; exact inv_set hI (show 0 ≤ (M 92 (v1).toNatClampNeg) ∧ (M 92 (v1).toNatClampNeg) ≤ 20 from ⟨by lia, by lia⟩)
      have hF36 : Fr [82, 83, 84, 85, 86, 87, 88, 89] [(81, 2), (81, 3), (81, 4), (81, 11)] Mb W33 := by rw [hW34]; exact fr_arr hF (by decide)
      refine And.intro (vpI (c := 12) (by decide) (by lia) (by lia)) ?_
      refine And.intro (vpI (c := 12) (by decide) (by lia) (by lia)) ?_
      intro W37 hW38
      have hI39 : Inv W37 := by rw [hW38]; exact inv_set hI35 (i_any _)
      have hF40 : Fr [82, 83, 84, 85, 86, 87, 88, 89] [(81, 2), (81, 3), (81, 4), (81, 11)] Mb W37 := by rw [hW38]; exact fr_arr hF36 (by decide)
      exact rec (by lia) _ _  hI39 hF40 trivial
set_option maxHeartbeats 4000000 in
theorem sl_X11_keepDraft_52 {post : MM → Int64 → Prop} {Mb : MM} (hp : ∀ (M1 : MM) (t1 : Int64), Inv M1 → Fr [82, 83, 84, 85, 86, 87, 88, 89] [(81, 2), (81, 3), (81, 4), (81, 11)] Mb M1 → True → post M1 t1) : ∀ v1 : Int32, 0 ≤ v1 → v1 ≤ 4 → ∃ n, ∀ (M : MM) (tl : Int64), Inv M → Fr [82, 83, 84, 85, 86, 87, 88, 89] [(81, 2), (81, 3), (81, 4), (81, 11)] Mb M → (True) → wX11_keepDraft_52 post n M tl v1 := by
  refine up_ex (P := fun d v1 => ∀ (M : MM) (tl : Int64), Inv M → Fr [82, 83, 84, 85, 86, 87, 88, 89] [(81, 2), (81, 3), (81, 4), (81, 11)] Mb M → (True) → wX11_keepDraft_52 post d M tl v1) 0 4 ?_
  intro d v1 hlo hhi rec M tl  hI hF hli
  unfold wX11_keepDraft_52
  refine ifs (fun hc1 => ?_) (fun hc2 => ?_)
  · skip
    obtain ⟨n3, hn4⟩ := sl_X11_keepDraft_89 (Mb := Mb) hp  (0 : Int32) (by lia) (by lia)
    exact ⟨n3, hn4 _ _  hI hF trivial⟩
  · skip
    refine And.intro (vpI (c := 4) (by decide) (by lia) (by lia)) ?_
    refine And.intro (vpI (c := 4) (by decide) (by lia) (by lia)) ?_
    have hr7 := iv_91 hI (v1).toNatClampNeg
    intro W5 hW6
    have hI8 : Inv W5 := by rw [hW6]; exact inv_set hI (show 0 ≤ (M 91 (v1).toNatClampNeg) ∧ (M 91 (v1).toNatClampNeg) ≤ 9 from ⟨by lia, by lia⟩)
    have hF9 : Fr [82, 83, 84, 85, 86, 87, 88, 89] [(81, 2), (81, 3), (81, 4), (81, 11)] Mb W5 := by rw [hW6]; exact fr_arr hF (by decide)
    refine And.intro (vpI (c := 4) (by decide) (by lia) (by lia)) ?_
    refine And.intro (vpI (c := 4) (by decide) (by lia) (by lia)) ?_
    have hr12 := iv_96 hI8 (v1).toNatClampNeg
    intro W10 hW11
    have hI13 : Inv W10 := by rw [hW11]; exact inv_set hI8 (show 0 ≤ (W5 96 (v1).toNatClampNeg) ∧ (W5 96 (v1).toNatClampNeg) ≤ 3 from ⟨by lia, by lia⟩)
    have hF14 : Fr [82, 83, 84, 85, 86, 87, 88, 89] [(81, 2), (81, 3), (81, 4), (81, 11)] Mb W10 := by rw [hW11]; exact fr_arr hF9 (by decide)
    exact rec (by lia) _ _  hI13 hF14 trivial
set_option maxHeartbeats 4000000 in
theorem sl_X11_keepDraft_2 {post : MM → Int64 → Prop} {Mb : MM} (hp : ∀ (M1 : MM) (t1 : Int64), Inv M1 → Fr [82, 83, 84, 85, 86, 87, 88, 89] [(81, 2), (81, 3), (81, 4), (81, 11)] Mb M1 → True → post M1 t1) : ∀ v1 : Int32, 0 ≤ v1 → v1 ≤ 127 → ∃ n, ∀ (M : MM) (tl : Int64), Inv M → Fr [82, 83, 84, 85, 86, 87, 88, 89] [(81, 2), (81, 3), (81, 4), (81, 11)] Mb M → (True) → wX11_keepDraft_2 post n M tl v1 := by
  refine up_ex (P := fun d v1 => ∀ (M : MM) (tl : Int64), Inv M → Fr [82, 83, 84, 85, 86, 87, 88, 89] [(81, 2), (81, 3), (81, 4), (81, 11)] Mb M → (True) → wX11_keepDraft_2 post d M tl v1) 0 127 ?_
  intro d v1 hlo hhi rec M tl  hI hF hli
  unfold wX11_keepDraft_2
  refine ifs (fun hc1 => ?_) (fun hc2 => ?_)
  · skip
    have hr5 := iv_81_13 hI
    intro W3 hW4
    have hI6 : Inv W3 := by rw [hW4]; exact inv_set hI (show 0 ≤ (M 81 13) ∧ (M 81 13) ≤ 8 from ⟨by lia, by lia⟩)
    have hF7 : Fr [82, 83, 84, 85, 86, 87, 88, 89] [(81, 2), (81, 3), (81, 4), (81, 11)] Mb W3 := by rw [hW4]; exact fr_fld hF (by decide)
    have hv8 : W3 81 2 = (M 81 13) := by rw [hW4]; exact mset_at _ _ _ _
    have hx11 : W3 81 14 = M 81 14 := by rw [hW4, mset_nk (by decide)]
    have hr12 := iv_81_14 hI
    have hr13 := iv_81_14 hI6
    intro W9 hW10
    have hI14 : Inv W9 := by rw [hW10]; exact inv_set hI6 (show 0 ≤ (W3 81 14) ∧ (W3 81 14) ≤ 6 from ⟨by lia, by lia⟩)
    have hF15 : Fr [82, 83, 84, 85, 86, 87, 88, 89] [(81, 2), (81, 3), (81, 4), (81, 11)] Mb W9 := by rw [hW10]; exact fr_fld hF7 (by decide)
    have hv16 : W9 81 3 = (W3 81 14) := by rw [hW10]; exact mset_at _ _ _ _
    have hx19 : W9 81 15 = W3 81 15 := by rw [hW10, mset_nk (by decide)]
    have hr20 := iv_81_15 hI6
    have hx21 : W3 81 15 = M 81 15 := by rw [hW4, mset_nk (by decide)]
    have hr22 := iv_81_15 hI
    have hr23 := iv_81_15 hI14
    intro W17 hW18
    have hI24 : Inv W17 := by rw [hW18]; exact inv_set hI14 (show 0 ≤ (W9 81 15) ∧ (W9 81 15) ≤ 20 from ⟨by lia, by lia⟩)
    have hF25 : Fr [82, 83, 84, 85, 86, 87, 88, 89] [(81, 2), (81, 3), (81, 4), (81, 11)] Mb W17 := by rw [hW18]; exact fr_fld hF15 (by decide)
    have hv26 : W17 81 4 = (W9 81 15) := by rw [hW18]; exact mset_at _ _ _ _
    obtain ⟨n27, hn28⟩ := sl_X11_keepDraft_52 (Mb := Mb) hp  (0 : Int32) (by lia) (by lia)
    exact ⟨n27, hn28 _ _  hI24 hF25 trivial⟩
  · skip
    refine And.intro (vpI (c := 127) (by decide) (by lia) (by lia)) ?_
    refine And.intro (vpI (c := 381) (by decide) (by lia) (by lia)) ?_
    intro W29 hW30
    have hI32 : Inv W29 := by rw [hW30]; exact inv_82 hI ((hI).2.2.1 _)
    have hF33 : Fr [82, 83, 84, 85, 86, 87, 88, 89] [(81, 2), (81, 3), (81, 4), (81, 11)] Mb W29 := by rw [hW30]; exact fr_arr hF (by decide)
    exact rec (by lia) _ _  hI32 hF33 trivial
set_option maxHeartbeats 4000000 in
theorem sf_X11_keepDraft {post : MM → Int64 → Prop} {M : MM} {tl : Int64} (hI : Inv M) (hp : ∀ (M1 : MM) (t1 : Int64), Inv M1 → Fr [82, 83, 84, 85, 86, 87, 88, 89] [(81, 2), (81, 3), (81, 4), (81, 11)] M M1 → True → post M1 t1) : wpX11_keepDraft post M tl  := by
  unfold wpX11_keepDraft
  obtain ⟨n1, hn2⟩ := sl_X11_keepDraft_2 (Mb := M) hp  (0 : Int32) (by lia) (by lia)
  exact ⟨n1, hn2 _ _  hI fr_rfl trivial⟩
set_option maxHeartbeats 4000000 in
theorem sf_X11_isTold {post : Int32 → MM → Int64 → Prop} {M : MM} {tl : Int64} {v1 : Int32} (hI : Inv M) (hp1 : 0 ≤ v1 ∧ v1 < 8) (hp : ∀ (r : Int32), (r = 0 ∨ r = 1) → post r M tl) : wpX11_isTold post M tl v1 := by
  unfold wpX11_isTold
  refine sf_X11_matchOf hI  (fun r1 hq2 => ?_)
  refine ifs (fun hc3 => ?_) (fun hc4 => ?_)
  · skip
    exact hp _ (by lia)
  · skip
    refine And.intro (vpI (c := 381) (by decide) (by lia) (by lia)) ?_
    have hr5 := r82_th hI v1 (by lia) (by lia)
    unfold Th at hr5
    refine ifs (fun hc6 => ?_) (fun hc7 => ?_)
    · skip
      exact hp _ (by lia)
    · skip
      refine And.intro (vpI (c := 381) (by decide) (by lia) (by lia)) ?_
      refine And.intro (vpI (c := 381) (by decide) (by lia) (by lia)) ?_
      refine sf_X11_mirrorOf hI (by lia) (fun r8 hq9 => ?_)
      have hr10 := r82_th hI ((8 : Int32) + r1) (by lia) (by lia)
      unfold Th at hr10
      refine ifs (fun hc11 => ?_) (fun hc12 => ?_)
      · skip
        exact hp _ (by lia)
      · skip
        exact hp _ (by lia)
set_option maxHeartbeats 4000000 in
theorem sl_X11_fits_6 {post : Int32 → MM → Int64 → Prop} {M : MM} {tl : Int64} (hp : ∀ (r : Int32), (r = 0 ∨ r = 1) → post r M tl) (hI : Inv M) : ∀ v5 : Int32, 0 ≤ v5 → v5 ≤ 12 → ∃ n, ∀ (v1 : Int32) (v2 : Int32) (v3 : Int32) (v4 : Int32), ((v4 = 0 ∨ v4 = 1)) → wX11_fits_6 post n M tl v1 v2 v3 v4 v5 := by
  refine up_ex (P := fun d v5 => ∀ (v1 : Int32) (v2 : Int32) (v3 : Int32) (v4 : Int32), ((v4 = 0 ∨ v4 = 1)) → wX11_fits_6 post d M tl v1 v2 v3 v4 v5) 0 12 ?_
  intro d v5 hlo hhi rec v1 v2 v3 v4 hli
  unfold wX11_fits_6
  refine And.intro (vpI (c := 381) (by decide) (by lia) (by lia)) ?_
  have hr1 := r82_78 hI
  refine ifs (fun hc2 => ?_) (fun hc3 => ?_)
  · skip
    refine And.intro (nar_b (by lia)) ?_
    exact hp _ (by lia)
  · skip
    refine ifs (fun hc4 => ?_) (fun hc5 => ?_)
    · skip
      unfold wX11_fits_93
      unfold wX11_fits_94
      exact rec (by lia) v1 v2 v3 (0 : Int32) (by lia)
    · skip
      refine And.intro (vpI (c := 381) (by decide) (by lia) (by lia)) ?_
      have hr6 := r82_79_0 hI v5 (by lia) (by lia)
      refine ifs (fun hc7 => ?_) (fun hc8 => ?_)
      · skip
        refine And.intro (vpI (c := 381) (by decide) (by lia) (by lia)) ?_
        have hr9 := r82_79_1 hI v5 (by lia) (by lia)
        refine ifs (fun hc10 => ?_) (fun hc11 => ?_)
        · skip
          refine And.intro (vpI (c := 381) (by decide) (by lia) (by lia)) ?_
          refine And.intro (vpI (c := 381) (by decide) (by lia) (by lia)) ?_
          have hr12 := r82_79_2 hI v5 (by lia) (by lia)
          refine ifs (fun hc13 => ?_) (fun hc14 => ?_)
          · skip
            have hr15 := r82_79_3 hI v5 (by lia) (by lia)
            unfold wX11_fits_83
            refine sf_X11_flag hI  (fun r16 hq17 => ?_)
            refine ifs (fun hc18 => ?_) (fun hc19 => ?_)
            · skip
              unfold wX11_fits_89
              unfold wX11_fits_94
              exact rec (by lia) v1 v2 v3 (1 : Int32) (by lia)
            · skip
              unfold wX11_fits_93
              unfold wX11_fits_94
              exact rec (by lia) v1 v2 v3 (0 : Int32) (by lia)
          · skip
            have hr20 := r82_79_3 hI v5 (by lia) (by lia)
            unfold wX11_fits_83
            refine sf_X11_flag hI  (fun r21 hq22 => ?_)
            refine ifs (fun hc23 => ?_) (fun hc24 => ?_)
            · skip
              unfold wX11_fits_89
              unfold wX11_fits_94
              exact rec (by lia) v1 v2 v3 (1 : Int32) (by lia)
            · skip
              unfold wX11_fits_93
              unfold wX11_fits_94
              exact rec (by lia) v1 v2 v3 (0 : Int32) (by lia)
        · skip
          unfold wX11_fits_89
          unfold wX11_fits_94
          exact rec (by lia) v1 v2 v3 (1 : Int32) (by lia)
      · skip
        unfold wX11_fits_89
        unfold wX11_fits_94
        exact rec (by lia) v1 v2 v3 (1 : Int32) (by lia)
set_option maxHeartbeats 4000000 in
theorem sf_X11_fits {post : Int32 → MM → Int64 → Prop} {M : MM} {tl : Int64} {v1 : Int32} {v2 : Int32} {v3 : Int32} (hI : Inv M) (hp : ∀ (r : Int32), (r = 0 ∨ r = 1) → post r M tl) : wpX11_fits post M tl v1 v2 v3 := by
  unfold wpX11_fits
  obtain ⟨n1, hn2⟩ := sl_X11_fits_6 (M := M) (tl := tl) hp  hI (0 : Int32) (by lia) (by lia)
  exact ⟨n1, hn2 v1 v2 v3 (1 : Int32) (by lia)⟩
set_option maxHeartbeats 4000000 in
theorem sf_X11_waysOf {post : Int32 → MM → Int64 → Prop} {M : MM} {tl : Int64} {v1 : Int32} {v2 : Int32} {v3 : Int32} {v4 : Int32} (hI : Inv M) (hp : ∀ (r : Int32), True → post r M tl) : wpX11_waysOf post M tl v1 v2 v3 v4 := by
  unfold wpX11_waysOf
  refine sf_X11_matchOf hI  (fun r1 hq2 => ?_)
  refine ifs (fun hc3 => ?_) (fun hc4 => ?_)
  · skip
    unfold wX11_waysOf_18
    refine ifs (fun hc5 => ?_) (fun hc6 => ?_)
    · skip
      unfold wX11_waysOf_30
      refine sf_X11_fits hI  (fun r7 hq8 => ?_)
      refine ifs (fun hc9 => ?_) (fun hc10 => ?_)
      · skip
        exact hp _ trivial
      · skip
        refine sf_X11_fits hI  (fun r11 hq12 => ?_)
        refine sf_X11_flag hI  (fun r13 hq14 => ?_)
        refine ifs (fun hc15 => ?_) (fun hc16 => ?_)
        · skip
          unfold wX11_waysOf_83
          unfold wX11_waysOf_84
          refine sf_X11_flag hI  (fun r17 hq18 => ?_)
          exact hp _ trivial
        · skip
          refine sf_X11_fits hI  (fun r19 hq20 => ?_)
          refine ifs (fun hc21 => ?_) (fun hc22 => ?_)
          · skip
            unfold wX11_waysOf_83
            unfold wX11_waysOf_84
            refine sf_X11_flag hI  (fun r23 hq24 => ?_)
            exact hp _ trivial
          · skip
            unfold wX11_waysOf_84
            refine sf_X11_flag hI  (fun r25 hq26 => ?_)
            exact hp _ trivial
    · skip
      unfold wX11_waysOf_30
      refine sf_X11_fits hI  (fun r27 hq28 => ?_)
      refine ifs (fun hc29 => ?_) (fun hc30 => ?_)
      · skip
        exact hp _ trivial
      · skip
        refine sf_X11_fits hI  (fun r31 hq32 => ?_)
        refine sf_X11_flag hI  (fun r33 hq34 => ?_)
        refine ifs (fun hc35 => ?_) (fun hc36 => ?_)
        · skip
          unfold wX11_waysOf_83
          unfold wX11_waysOf_84
          refine sf_X11_flag hI  (fun r37 hq38 => ?_)
          exact hp _ trivial
        · skip
          refine sf_X11_fits hI  (fun r39 hq40 => ?_)
          refine ifs (fun hc41 => ?_) (fun hc42 => ?_)
          · skip
            unfold wX11_waysOf_83
            unfold wX11_waysOf_84
            refine sf_X11_flag hI  (fun r43 hq44 => ?_)
            exact hp _ trivial
          · skip
            unfold wX11_waysOf_84
            refine sf_X11_flag hI  (fun r45 hq46 => ?_)
            exact hp _ trivial
  · skip
    unfold wX11_waysOf_18
    refine ifs (fun hc47 => ?_) (fun hc48 => ?_)
    · skip
      unfold wX11_waysOf_30
      refine sf_X11_fits hI  (fun r49 hq50 => ?_)
      refine ifs (fun hc51 => ?_) (fun hc52 => ?_)
      · skip
        exact hp _ trivial
      · skip
        refine sf_X11_fits hI  (fun r53 hq54 => ?_)
        refine sf_X11_flag hI  (fun r55 hq56 => ?_)
        refine ifs (fun hc57 => ?_) (fun hc58 => ?_)
        · skip
          unfold wX11_waysOf_83
          unfold wX11_waysOf_84
          refine sf_X11_flag hI  (fun r59 hq60 => ?_)
          exact hp _ trivial
        · skip
          refine sf_X11_fits hI  (fun r61 hq62 => ?_)
          refine ifs (fun hc63 => ?_) (fun hc64 => ?_)
          · skip
            unfold wX11_waysOf_83
            unfold wX11_waysOf_84
            refine sf_X11_flag hI  (fun r65 hq66 => ?_)
            exact hp _ trivial
          · skip
            unfold wX11_waysOf_84
            refine sf_X11_flag hI  (fun r67 hq68 => ?_)
            exact hp _ trivial
    · skip
      unfold wX11_waysOf_30
      refine sf_X11_fits hI  (fun r69 hq70 => ?_)
      refine ifs (fun hc71 => ?_) (fun hc72 => ?_)
      · skip
        exact hp _ trivial
      · skip
        refine sf_X11_fits hI  (fun r73 hq74 => ?_)
        refine sf_X11_flag hI  (fun r75 hq76 => ?_)
        refine ifs (fun hc77 => ?_) (fun hc78 => ?_)
        · skip
          unfold wX11_waysOf_83
          unfold wX11_waysOf_84
          refine sf_X11_flag hI  (fun r79 hq80 => ?_)
          exact hp _ trivial
        · skip
          refine sf_X11_fits hI  (fun r81 hq82 => ?_)
          refine ifs (fun hc83 => ?_) (fun hc84 => ?_)
          · skip
            unfold wX11_waysOf_83
            unfold wX11_waysOf_84
            refine sf_X11_flag hI  (fun r85 hq86 => ?_)
            exact hp _ trivial
          · skip
            unfold wX11_waysOf_84
            refine sf_X11_flag hI  (fun r87 hq88 => ?_)
            exact hp _ trivial
set_option maxHeartbeats 4000000 in
theorem sl_X11_histories_45 {post : Int64 → MM → Int64 → Prop} {bk21 : MM → Int64 → Int32 → Int64 → Int32 → Prop} {u21 : Int32} {M : MM} {tl : Int64} (hp : ∀ (r : Int64), True → post r M tl) (hb21 : ∀ (v1 : Int32) (v2 : Int64) (v4 : Int32), v4 = u21 → v1 ≤ 23 → bk21 M tl v1 v2 v4) (hI : Inv M) : ∀ v7 : Int32, 0 ≤ v7 → v7 ≤ 24 → ∃ n, ∀ (v1 : Int32) (v2 : Int64) (v4 : Int32) (v5 : Int64), (v1 ≤ 23 ∧ v4 + (1 : Int32) = u21) → wX11_histories_45 post bk21 n M tl v1 v2 v4 v5 v7 := by
  refine up_ex (P := fun d v7 => ∀ (v1 : Int32) (v2 : Int64) (v4 : Int32) (v5 : Int64), (v1 ≤ 23 ∧ v4 + (1 : Int32) = u21) → wX11_histories_45 post bk21 d M tl v1 v2 v4 v5 v7) 0 24 ?_
  intro d v7 hlo hhi rec v1 v2 v4 v5 hli
  unfold wX11_histories_45
  refine ifs (fun hc1 => ?_) (fun hc2 => ?_)
  · skip
    unfold wX11_histories_89
    exact hb21 v1 (v2 * v5) (v4 + (1 : Int32)) (by lia) (by lia)
  · skip
    refine sf_X11_waysOf hI  (fun r3 hq4 => ?_)
    refine sf_X11_waysOf hI  (fun r5 hq6 => ?_)
    exact rec (by lia) v1 v2 v4 (v5 + ((r3 + r5)).toInt64) (by lia)
set_option maxHeartbeats 4000000 in
theorem sl_X11_histories_21 {post : Int64 → MM → Int64 → Prop} {M : MM} {tl : Int64} (hp : ∀ (r : Int64), True → post r M tl) (hI : Inv M) : ∀ v4 : Int32, 0 ≤ v4 → v4 ≤ 8 → ∃ n, ∀ (v1 : Int32) (v2 : Int64), (v1 ≤ 23) → wX11_histories_21 post n M tl v1 v2 v4 := by
  refine up_ex (P := fun d v4 => ∀ (v1 : Int32) (v2 : Int64), (v1 ≤ 23) → wX11_histories_21 post d M tl v1 v2 v4) 0 8 ?_
  intro d v4 hlo hhi rec v1 v2 hli
  unfold wX11_histories_21
  have hr1 := iv_81_2 hI
  refine ifs (fun hc2 => ?_) (fun hc3 => ?_)
  · skip
    exact hp _ trivial
  · skip
    refine sf_X11_isTold hI (by lia) (fun r4 hq5 => ?_)
    refine ifs (fun hc6 => ?_) (fun hc7 => ?_)
    · skip
      unfold wX11_histories_89
      exact rec (by lia) v1 v2 (by lia)
    · skip
      obtain ⟨n8, hn9⟩ := sl_X11_histories_45 (M := M) (tl := tl) (u21 := v4 + (1 : Int32)) hp (fun v1 v2 v4 hu hl => by subst hu; exact rec (by lia) v1 v2 hl) hI (0 : Int32) (by lia) (by lia)
      exact ⟨n8, hn9 v1 v2 v4 (0 : Int64) (by lia)⟩
set_option maxHeartbeats 4000000 in
theorem sf_X11_histories {post : Int64 → MM → Int64 → Prop} {M : MM} {tl : Int64} {v1 : Int32} (hI : Inv M) (hp : ∀ (r : Int64), True → post r M tl) : wpX11_histories post M tl v1 := by
  unfold wpX11_histories
  refine m_in (v := v1) (lo := 0) (hi := 23) rfl rfl rfl (fun hn1 hn2 => ?_) (fun hn3 => ?_)
  · skip
    refine ifn (by decide) ?_
    obtain ⟨n4, hn5⟩ := sl_X11_histories_21 (M := M) (tl := tl) hp  hI (0 : Int32) (by lia) (by lia)
    exact ⟨n4, hn5 v1 (1 : Int64) (by lia)⟩
  · skip
    refine ifp (by decide) ?_
    exact hp _ trivial
set_option maxHeartbeats 4000000 in
theorem sl_X11_began_63 {post : Int32 → MM → Int64 → Prop} {M : MM} {tl : Int64} (hp : ∀ (r : Int32), True → post r M tl) (hI : Inv M) : ∀ v8 : Int32, 0 ≤ v8 → v8 ≤ 24 → ∃ n, ∀ (v1 : Int32) (v2 : Int32) (v3 : Int32) (v4 : Int32) (v5 : Int32) (v6 : Int32) (v7 : Int32), (v2 ≤ 23) → wX11_began_63 post n M tl v1 v2 v3 v4 v5 v6 v7 v8 := by
  refine up_ex (P := fun d v8 => ∀ (v1 : Int32) (v2 : Int32) (v3 : Int32) (v4 : Int32) (v5 : Int32) (v6 : Int32) (v7 : Int32), (v2 ≤ 23) → wX11_began_63 post d M tl v1 v2 v3 v4 v5 v6 v7 v8) 0 24 ?_
  intro d v8 hlo hhi rec v1 v2 v3 v4 v5 v6 v7 hli
  unfold wX11_began_63
  refine ifs (fun hc1 => ?_) (fun hc2 => ?_)
  · skip
    refine ifs (fun hc3 => ?_) (fun hc4 => ?_)
    · skip
      exact hp _ trivial
    · skip
      refine ifs (fun hc5 => ?_) (fun hc6 => ?_)
      · skip
        exact hp _ trivial
      · skip
        refine ifs (fun hc7 => ?_) (fun hc8 => ?_)
        · skip
          unfold wX11_began_186
          refine ifs (fun hc9 => ?_) (fun hc10 => ?_)
          · skip
            exact hp _ trivial
          · skip
            refine ifs (fun hc11 => ?_) (fun hc12 => ?_)
            · skip
              exact hp _ trivial
            · skip
              exact hp _ trivial
        · skip
          refine ifs (fun hc13 => ?_) (fun hc14 => ?_)
          · skip
            exact hp _ trivial
          · skip
            unfold wX11_began_186
            refine ifs (fun hc15 => ?_) (fun hc16 => ?_)
            · skip
              exact hp _ trivial
            · skip
              refine ifs (fun hc17 => ?_) (fun hc18 => ?_)
              · skip
                exact hp _ trivial
              · skip
                exact hp _ trivial
  · skip
    refine sf_X11_waysOf hI  (fun r19 hq20 => ?_)
    refine sf_X11_waysOf hI  (fun r21 hq22 => ?_)
    refine ifs (fun hc23 => ?_) (fun hc24 => ?_)
    · skip
      refine ifs (fun hc25 => ?_) (fun hc26 => ?_)
      · skip
        unfold wX11_began_125
        unfold wX11_began_127
        refine ifs (fun hc27 => ?_) (fun hc28 => ?_)
        · skip
          unfold wX11_began_144
          exact rec (by lia) v1 v2 v3 (v4 + r19) (v5 + r21) v6 v7 (by lia)
        · skip
          unfold wX11_began_144
          exact rec (by lia) v1 v2 v3 (v4 + r19) (v5 + r21) v6 v8 (by lia)
      · skip
        unfold wX11_began_127
        refine ifs (fun hc29 => ?_) (fun hc30 => ?_)
        · skip
          unfold wX11_began_144
          exact rec (by lia) v1 v2 v3 (v4 + r19) (v5 + r21) v8 v7 (by lia)
        · skip
          unfold wX11_began_144
          exact rec (by lia) v1 v2 v3 (v4 + r19) (v5 + r21) v8 v8 (by lia)
    · skip
      unfold wX11_began_125
      unfold wX11_began_127
      refine ifs (fun hc31 => ?_) (fun hc32 => ?_)
      · skip
        unfold wX11_began_144
        exact rec (by lia) v1 v2 v3 (v4 + r19) (v5 + r21) v6 v7 (by lia)
      · skip
        unfold wX11_began_144
        exact rec (by lia) v1 v2 v3 (v4 + r19) (v5 + r21) v6 v8 (by lia)
set_option maxHeartbeats 4000000 in
theorem sf_X11_began {post : Int32 → MM → Int64 → Prop} {M : MM} {tl : Int64} {v1 : Int32} {v2 : Int32} {v3 : Int32} (hI : Inv M) (hp : ∀ (r : Int32), True → post r M tl) : wpX11_began post M tl v1 v2 v3 := by
  unfold wpX11_began
  refine sf_X11_isLot hI  (fun r1 hq2 => ?_)
  refine ifs (fun hc3 => ?_) (fun hc4 => ?_)
  · skip
    exact hp _ trivial
  · skip
    refine m_in (v := v2) (lo := 0) (hi := 23) rfl rfl rfl (fun hn5 hn6 => ?_) (fun hn7 => ?_)
    · skip
      refine ifn (by decide) ?_
      refine m_in (v := v3) (lo := 0) (hi := 2) rfl rfl rfl (fun hn8 hn9 => ?_) (fun hn10 => ?_)
      · skip
        refine ifn (by decide) ?_
        refine sf_X11_isTold hI (by lia) (fun r11 hq12 => ?_)
        refine ifs (fun hc13 => ?_) (fun hc14 => ?_)
        · skip
          exact hp _ trivial
        · skip
          obtain ⟨n15, hn16⟩ := sl_X11_began_63 (M := M) (tl := tl) hp  hI (0 : Int32) (by lia) (by lia)
          exact ⟨n15, hn16 v1 v2 v3 (0 : Int32) (0 : Int32) (-4 : Int32) (-4 : Int32) (by lia)⟩
      · skip
        refine ifp (by decide) ?_
        exact hp _ trivial
    · skip
      refine ifp (by decide) ?_
      exact hp _ trivial
