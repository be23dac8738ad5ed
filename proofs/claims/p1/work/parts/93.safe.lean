set_option maxHeartbeats 4000000 in
theorem sf_X11_isBank {post : Int32 → MM → Int64 → Prop} {M : MM} {tl : Int64} {v0 : Int32} (hI : Inv M) (hp : ∀ (r : Int32), ((r = 0 ∨ r = 1) ∧ (r ≠ 0 → 0 ≤ v0 ∧ v0 < 2)) → post r M tl) : wpX11_isBank post M tl v0 := by
  unfold wpX11_isBank
  refine m_in (v := v0) (lo := 0) (hi := 1) rfl rfl rfl (fun hn1 hn2 => ?_) (fun hn3 => ?_)
  · skip
    refine And.intro (nar_b (by lia)) ?_
    exact hp _ (by lia)
  · skip
    refine And.intro (nar_b (by lia)) ?_
    exact hp _ (by lia)
set_option maxHeartbeats 4000000 in
theorem sf_X11_isLot {post : Int32 → MM → Int64 → Prop} {M : MM} {tl : Int64} {v1 : Int32} {v2 : Int32} (hI : Inv M) (hp : ∀ (r : Int32), ((r = 0 ∨ r = 1) ∧ (r ≠ 0 → 0 ≤ v1 ∧ v1 < 2 ∧ 0 ≤ v2 ∧ v2 < 8)) → post r M tl) : wpX11_isLot post M tl v1 v2 := by
  unfold wpX11_isLot
  refine sf_X11_isBank hI  (fun r1 hq2 => ?_)
  refine ifs (fun hc3 => ?_) (fun hc4 => ?_)
  · skip
    exact hp _ (by lia)
  · skip
    have hr5 := iv_81_2 hI
    refine m_in (v := v2) (lo := 0) (hi := ((M 81 2) - (1 : Int32))) rfl rfl rfl (fun hn6 hn7 => ?_) (fun hn8 => ?_)
    · skip
      refine ifs (fun hc9 => ?_) (fun hc10 => ?_)
      · skip
        exact hp _ (by lia)
      · skip
        exact hp _ (by lia)
    · skip
      refine ifs (fun hc11 => ?_) (fun hc12 => ?_)
      · skip
        exact hp _ (by lia)
      · skip
        exact hp _ (by lia)
set_option maxHeartbeats 4000000 in
theorem sf_X11_isKind {post : Int32 → MM → Int64 → Prop} {M : MM} {tl : Int64} {v0 : Int32} (hI : Inv M) (hp : ∀ (r : Int32), ((r = 0 ∨ r = 1) ∧ (r ≠ 0 → 0 ≤ v0 ∧ v0 < 6)) → post r M tl) : wpX11_isKind post M tl v0 := by
  unfold wpX11_isKind
  refine m_in (v := v0) (lo := 0) (hi := 5) rfl rfl rfl (fun hn1 hn2 => ?_) (fun hn3 => ?_)
  · skip
    refine And.intro (nar_b (by lia)) ?_
    exact hp _ (by lia)
  · skip
    refine And.intro (nar_b (by lia)) ?_
    exact hp _ (by lia)
set_option maxHeartbeats 4000000 in
theorem sf_X11_isThing {post : Int32 → MM → Int64 → Prop} {M : MM} {tl : Int64} {v0 : Int32} (hI : Inv M) (hp : ∀ (r : Int32), ((r = 0 ∨ r = 1) ∧ (r ≠ 0 → ((0 ≤ v0 ∧ v0 ≤ 63) ∧ 0 ≤ v0 - v0 / 8 * 8 ∧ v0 - v0 / 8 * 8 ≤ 5))) → post r M tl) : wpX11_isThing post M tl v0 := by
  unfold wpX11_isThing
  have hz := th_z v0
  refine ifs (fun hc1 => ?_) (fun hc2 => ?_)
  · skip
    exact hp _ (by lia)
  · skip
    refine m_in (v := v0) (lo := 0) (hi := 63) rfl rfl rfl (fun hn3 hn4 => ?_) (fun hn5 => ?_)
    · skip
      refine ifs (fun hc6 => ?_) (fun hc7 => ?_)
      · skip
        exact hp _ (by lia)
      · skip
        refine m_in (v := (v0 - ((v0 / (8 : Int32)) * (8 : Int32)))) (lo := 1) (hi := 5) rfl rfl rfl (fun hn8 hn9 => ?_) (fun hn10 => ?_)
        · skip
          refine ifs (fun hc11 => ?_) (fun hc12 => ?_)
          · skip
            exact hp _ (by lia)
          · skip
            exact hp _ (by lia)
        · skip
          refine ifs (fun hc13 => ?_) (fun hc14 => ?_)
          · skip
            exact hp _ (by lia)
          · skip
            exact hp _ (by lia)
    · skip
      refine ifs (fun hc15 => ?_) (fun hc16 => ?_)
      · skip
        exact hp _ (by lia)
      · skip
        refine m_in (v := (v0 - ((v0 / (8 : Int32)) * (8 : Int32)))) (lo := 1) (hi := 5) rfl rfl rfl (fun hn17 hn18 => ?_) (fun hn19 => ?_)
        · skip
          refine ifs (fun hc20 => ?_) (fun hc21 => ?_)
          · skip
            exact hp _ (by lia)
          · skip
            exact hp _ (by lia)
        · skip
          refine ifs (fun hc22 => ?_) (fun hc23 => ?_)
          · skip
            exact hp _ (by lia)
          · skip
            exact hp _ (by lia)
set_option maxHeartbeats 4000000 in
theorem sf_X11_matchBy {post : Int32 → MM → Int64 → Prop} {M : MM} {tl : Int64} {v1 : Int32} {v2 : Int32} {v3 : Int32} (hI : Inv M) (hp : ∀ (r : Int32), (r = -4 ∨ (0 ≤ r ∧ r < 8)) → post r M tl) : wpX11_matchBy post M tl v1 v2 v3 := by
  unfold wpX11_matchBy
  refine ifs (fun hc1 => ?_) (fun hc2 => ?_)
  · skip
    unfold wX11_matchBy_17
    have hr3 := iv_81_2 hI
    refine m_in (v := ((v3 + v1) - (3 : Int32))) (lo := 0) (hi := ((M 81 2) - (1 : Int32))) rfl rfl rfl (fun hn4 hn5 => ?_) (fun hn6 => ?_)
    · skip
      refine ifs (fun hc7 => ?_) (fun hc8 => ?_)
      · skip
        exact hp _ (by lia)
      · skip
        exact hp _ (by lia)
    · skip
      refine ifs (fun hc9 => ?_) (fun hc10 => ?_)
      · skip
        exact hp _ (by lia)
      · skip
        exact hp _ (by lia)
  · skip
    unfold wX11_matchBy_17
    have hr11 := iv_81_2 hI
    refine m_in (v := ((v3 - v1) + (3 : Int32))) (lo := 0) (hi := ((M 81 2) - (1 : Int32))) rfl rfl rfl (fun hn12 hn13 => ?_) (fun hn14 => ?_)
    · skip
      refine ifs (fun hc15 => ?_) (fun hc16 => ?_)
      · skip
        exact hp _ (by lia)
      · skip
        exact hp _ (by lia)
    · skip
      refine ifs (fun hc17 => ?_) (fun hc18 => ?_)
      · skip
        exact hp _ (by lia)
      · skip
        exact hp _ (by lia)
set_option maxHeartbeats 4000000 in
theorem sf_X11_matchOf {post : Int32 → MM → Int64 → Prop} {M : MM} {tl : Int64} {v1 : Int32} {v2 : Int32} (hI : Inv M) (hp : ∀ (r : Int32), (r = -4 ∨ (0 ≤ r ∧ r < 8)) → post r M tl) : wpX11_matchOf post M tl v1 v2 := by
  unfold wpX11_matchOf
  refine sf_X11_matchBy hI  (fun r1 hq2 => ?_)
  exact hp _ (by lia)
set_option maxHeartbeats 4000000 in
theorem sf_X11_kindThere {post : Int32 → MM → Int64 → Prop} {M : MM} {tl : Int64} {v1 : Int32} {v2 : Int32} (hI : Inv M) (hp1 : 0 ≤ v1 ∧ v1 < 2) (hp2 : 0 ≤ v2 ∧ v2 < 8) (hp : ∀ (r : Int32), (0 ≤ r ∧ r ≤ 5) → post r M tl) : wpX11_kindThere post M tl v1 v2 := by
  unfold wpX11_kindThere
  refine And.intro (vpI (c := 381) (by decide) (by lia) (by lia)) ?_
  have hr1 := r82_th hI (((8 : Int32) * v1) + v2) (by lia) (by lia)
  unfold Th at hr1
  exact hp _ (by lia)
set_option maxHeartbeats 4000000 in
theorem sf_X11_gainOf {post : Int32 → MM → Int64 → Prop} {M : MM} {tl : Int64} {v1 : Int32} {v2 : Int32} {v3 : Int32} (hI : Inv M) (hp1 : 0 ≤ v1 ∧ v1 < 2) (hp2 : 0 ≤ v2 ∧ v2 < 8) (hp3 : 0 ≤ v3 ∧ v3 < 6) (hp : ∀ (r : Int32), True → post r M tl) : wpX11_gainOf post M tl v1 v2 v3 := by
  unfold wpX11_gainOf
  refine And.intro (vpI (c := 12) (by decide) (by lia) (by lia)) ?_
  refine And.intro (vpI (c := 12) (by decide) (by lia) (by lia)) ?_
  refine sf_X11_kindThere hI (by lia) (by lia) (fun r1 hq2 => ?_)
  refine And.intro (vpI (c := 12) (by decide) (by lia) (by lia)) ?_
  exact hp _ trivial
set_option maxHeartbeats 4000000 in
theorem sf_X11_thing {post : Int32 → MM → Int64 → Prop} {M : MM} {tl : Int64} {v1 : Int32} {v2 : Int32} (hI : Inv M) (hp : ∀ (r : Int32), True → post r M tl) : wpX11_thing post M tl v1 v2 := by
  unfold wpX11_thing
  refine sf_X11_isLot hI  (fun r1 hq2 => ?_)
  refine ifs (fun hc3 => ?_) (fun hc4 => ?_)
  · skip
    exact hp _ trivial
  · skip
    refine And.intro (vpI (c := 381) (by decide) (by lia) (by lia)) ?_
    have hr5 := r82_th hI (((8 : Int32) * v1) + v2) (by lia) (by lia)
    unfold Th at hr5
    exact hp _ trivial
set_option maxHeartbeats 4000000 in
theorem sf_X11_put {post : Int32 → MM → Int64 → Prop} {M : MM} {tl : Int64} {v1 : Int32} {v2 : Int32} {v3 : Int32} (hI : Inv M) (hp : ∀ (r : Int32) (M1 : MM) (t1 : Int64), Inv M1 → Fr [82] [] M M1 → True → post r M1 t1) : wpX11_put post M tl v1 v2 v3 := by
  unfold wpX11_put
  refine sf_X11_isLot hI  (fun r1 hq2 => ?_)
  refine ifs (fun hc3 => ?_) (fun hc4 => ?_)
  · skip
    exact hp _ _ _ hI fr_rfl trivial
  · skip
    refine sf_X11_isThing hI  (fun r5 hq6 => ?_)
    refine ifs (fun hc7 => ?_) (fun hc8 => ?_)
    · skip
      exact hp _ _ _ hI fr_rfl trivial
    · skip
      refine And.intro (vpI (c := 381) (by decide) (by lia) (by lia)) ?_
      refine And.intro (vpI (c := 381) (by decide) (by lia) (by lia)) ?_
      intro W9 hW10
      have hI11 : Inv W9 := by rw [hW10]; exact w82_th hI _ _ (by lia) (by lia) (by unfold Th; lia)
      have hF12 : Fr [82] [] M W9 := by rw [hW10]; exact fr_arr fr_rfl (by decide)
      have hr13 := r82_th hI (((8 : Int32) * v1) + v2) (by lia) (by lia)
      unfold Th at hr13
      exact hp _ _ _ hI11 hF12 trivial
set_option maxHeartbeats 4000000 in
theorem sf_X11_match {post : Int32 → MM → Int64 → Prop} {M : MM} {tl : Int64} {v1 : Int32} {v2 : Int32} (hI : Inv M) (hp : ∀ (r : Int32), True → post r M tl) : wpX11_match post M tl v1 v2 := by
  unfold wpX11_match
  refine sf_X11_isLot hI  (fun r1 hq2 => ?_)
  refine ifs (fun hc3 => ?_) (fun hc4 => ?_)
  · skip
    exact hp _ trivial
  · skip
    refine sf_X11_matchOf hI  (fun r5 hq6 => ?_)
    exact hp _ trivial
set_option maxHeartbeats 4000000 in
theorem sf_X11_rule {post : Int32 → MM → Int64 → Prop} {M : MM} {tl : Int64} {v1 : Int32} (hI : Inv M) (hp : ∀ (r : Int32), True → post r M tl) : wpX11_rule post M tl v1 := by
  unfold wpX11_rule
  refine ifs (fun hc1 => ?_) (fun hc2 => ?_)
  · skip
    have hr3 := iv_81_2 hI
    exact hp _ trivial
  · skip
    refine ifs (fun hc4 => ?_) (fun hc5 => ?_)
    · skip
      exact hp _ trivial
    · skip
      refine ifs (fun hc6 => ?_) (fun hc7 => ?_)
      · skip
        exact hp _ trivial
      · skip
        refine ifs (fun hc8 => ?_) (fun hc9 => ?_)
        · skip
          refine And.intro (vpI (c := 381) (by decide) (by lia) (by lia)) ?_
          have hr10 := r82_16 hI
          exact hp _ trivial
        · skip
          refine m_in (v := v1) (lo := 10) (hi := 13) rfl rfl rfl (fun hn11 hn12 => ?_) (fun hn13 => ?_)
          · skip
            refine ifs (fun hc14 => ?_) (fun hc15 => ?_)
            · skip
              exact hp _ trivial
            · skip
              refine And.intro (vpI (c := 4) (by decide) (by lia) (by lia)) ?_
              exact hp _ trivial
          · skip
            refine ifs (fun hc16 => ?_) (fun hc17 => ?_)
            · skip
              exact hp _ trivial
            · skip
              refine And.intro (vpI (c := 4) (by decide) (by lia) (by lia)) ?_
              exact hp _ trivial
set_option maxHeartbeats 4000000 in
theorem sf_X11_doesLack {post : Int32 → MM → Int64 → Prop} {M : MM} {tl : Int64} {v1 : Int32} {v2 : Int32} (hI : Inv M) (hp1 : 0 ≤ v1 ∧ v1 < 2) (hp : ∀ (r : Int32), (r = 0 ∨ r = 1) → post r M tl) : wpX11_doesLack post M tl v1 v2 := by
  unfold wpX11_doesLack
  refine And.intro (vpI (c := 2) (by decide) (by lia) (by lia)) ?_
  have hm1 : (0 : Int32) ≤ (((M 87 (v1).toNatClampNeg) >>> (v2 &&& (31 : Int32))) &&& (1 : Int32)) ∧ (((M 87 (v1).toNatClampNeg) >>> (v2 &&& (31 : Int32))) &&& (1 : Int32)) ≤ (1 : Int32) := andc ((M 87 (v1).toNatClampNeg) >>> (v2 &&& (31 : Int32))) 1 (by decide)
  have hm2 : (0 : Int32) ≤ (v2 &&& (31 : Int32)) ∧ (v2 &&& (31 : Int32)) ≤ (31 : Int32) := andc v2 31 (by decide)
  refine ifs (fun hc3 => ?_) (fun hc4 => ?_)
  · skip
    exact hp _ (by lia)
  · skip
    exact hp _ (by lia)
set_option maxHeartbeats 4000000 in
theorem sf_X11_flag {post : Int32 → MM → Int64 → Prop} {M : MM} {tl : Int64} {v0 : Int32} (hI : Inv M) (hp : ∀ (r : Int32), (r = 0 ∨ r = 1) → post r M tl) : wpX11_flag post M tl v0 := by
  unfold wpX11_flag
  refine ifs (fun hc1 => ?_) (fun hc2 => ?_)
  · skip
    exact hp _ (by lia)
  · skip
    exact hp _ (by lia)
set_option maxHeartbeats 4000000 in
theorem sf_X11_kind {post : Int32 → MM → Int64 → Prop} {M : MM} {tl : Int64} {v1 : Int32} {v2 : Int32} (hI : Inv M) (hp : ∀ (r : Int32), True → post r M tl) : wpX11_kind post M tl v1 v2 := by
  unfold wpX11_kind
  refine sf_X11_isKind hI  (fun r1 hq2 => ?_)
  refine ifs (fun hc3 => ?_) (fun hc4 => ?_)
  · skip
    exact hp _ trivial
  · skip
    refine ifs (fun hc5 => ?_) (fun hc6 => ?_)
    · skip
      refine And.intro (vpI (c := 6) (by decide) (by lia) (by lia)) ?_
      have hr7 := iv_88 hI (v1).toNatClampNeg
      exact hp _ trivial
    · skip
      refine ifs (fun hc8 => ?_) (fun hc9 => ?_)
      · skip
        have hm10 : (0 : Int32) ≤ (((M 81 11) >>> (v1 &&& (31 : Int32))) &&& (1 : Int32)) ∧ (((M 81 11) >>> (v1 &&& (31 : Int32))) &&& (1 : Int32)) ≤ (1 : Int32) := andc ((M 81 11) >>> (v1 &&& (31 : Int32))) 1 (by decide)
        have hm11 : (0 : Int32) ≤ (v1 &&& (31 : Int32)) ∧ (v1 &&& (31 : Int32)) ≤ (31 : Int32) := andc v1 31 (by decide)
        exact hp _ trivial
      · skip
        refine ifs (fun hc12 => ?_) (fun hc13 => ?_)
        · skip
          refine And.intro (vpI (c := 12) (by decide) (by lia) (by lia)) ?_
          exact hp _ trivial
        · skip
          refine ifs (fun hc14 => ?_) (fun hc15 => ?_)
          · skip
            refine And.intro (vpI (c := 12) (by decide) (by lia) (by lia)) ?_
            exact hp _ trivial
          · skip
            refine ifs (fun hc16 => ?_) (fun hc17 => ?_)
            · skip
              refine And.intro (vpI (c := 12) (by decide) (by lia) (by lia)) ?_
              exact hp _ trivial
            · skip
              refine ifs (fun hc18 => ?_) (fun hc19 => ?_)
              · skip
                refine And.intro (vpI (c := 12) (by decide) (by lia) (by lia)) ?_
                exact hp _ trivial
              · skip
                refine ifs (fun hc20 => ?_) (fun hc21 => ?_)
                · skip
                  refine sf_X11_doesLack hI (by lia) (fun r22 hq23 => ?_)
                  refine sf_X11_flag hI  (fun r24 hq25 => ?_)
                  exact hp _ trivial
                · skip
                  refine ifs (fun hc26 => ?_) (fun hc27 => ?_)
                  · skip
                    refine sf_X11_doesLack hI (by lia) (fun r28 hq29 => ?_)
                    refine sf_X11_flag hI  (fun r30 hq31 => ?_)
                    exact hp _ trivial
                  · skip
                    exact hp _ trivial
set_option maxHeartbeats 4000000 in
theorem sf_X11_colour {post : Int32 → MM → Int64 → Prop} {M : MM} {tl : Int64} {v1 : Int32} (hI : Inv M) (hp : ∀ (r : Int32), True → post r M tl) : wpX11_colour post M tl v1 := by
  unfold wpX11_colour
  refine m_in (v := v1) (lo := 0) (hi := 3) rfl rfl rfl (fun hn1 hn2 => ?_) (fun hn3 => ?_)
  · skip
    refine ifs (fun hc4 => ?_) (fun hc5 => ?_)
    · skip
      exact hp _ trivial
    · skip
      refine And.intro (vpI (c := 4) (by decide) (by lia) (by lia)) ?_
      have hr6 := iv_89 hI (v1).toNatClampNeg
      exact hp _ trivial
  · skip
    refine ifs (fun hc7 => ?_) (fun hc8 => ?_)
    · skip
      exact hp _ trivial
    · skip
      refine And.intro (vpI (c := 4) (by decide) (by lia) (by lia)) ?_
      have hr9 := iv_89 hI (v1).toNatClampNeg
      exact hp _ trivial
set_option maxHeartbeats 4000000 in
theorem sf_X11_work {post : Int32 → MM → Int64 → Prop} {M : MM} {tl : Int64} {v1 : Int32} {v2 : Int32} (hI : Inv M) (hp : ∀ (r : Int32), True → post r M tl) : wpX11_work post M tl v1 v2 := by
  unfold wpX11_work
  refine And.intro (vpI (c := 381) (by decide) (by lia) (by lia)) ?_
  have hr1 := r82_16 hI
  refine m_in (v := v1) (lo := 0) (hi := ((M 82 ((16 : Int32)).toNatClampNeg) - (1 : Int32))) rfl rfl rfl (fun hn2 hn3 => ?_) (fun hn4 => ?_)
  · skip
    refine ifs (fun hc5 => ?_) (fun hc6 => ?_)
    · skip
      exact hp _ trivial
    · skip
      refine m_in (v := v2) (lo := 0) (hi := 3) rfl rfl rfl (fun hn7 hn8 => ?_) (fun hn9 => ?_)
      · skip
        refine ifs (fun hc10 => ?_) (fun hc11 => ?_)
        · skip
          exact hp _ trivial
        · skip
          refine And.intro (vpI (c := 381) (by decide) (by lia) (by lia)) ?_
          exact hp _ trivial
      · skip
        refine ifs (fun hc13 => ?_) (fun hc14 => ?_)
        · skip
          exact hp _ trivial
        · skip
          refine And.intro (vpI (c := 381) (by decide) (by lia) (by lia)) ?_
          exact hp _ trivial
  · skip
    refine ifs (fun hc16 => ?_) (fun hc17 => ?_)
    · skip
      exact hp _ trivial
    · skip
      refine m_in (v := v2) (lo := 0) (hi := 3) rfl rfl rfl (fun hn18 hn19 => ?_) (fun hn20 => ?_)
      · skip
        refine ifs (fun hc21 => ?_) (fun hc22 => ?_)
        · skip
          exact hp _ trivial
        · skip
          refine And.intro (vpI (c := 381) (by decide) (by lia) (by lia)) ?_
          exact hp _ trivial
      · skip
        refine ifs (fun hc24 => ?_) (fun hc25 => ?_)
        · skip
          exact hp _ trivial
        · skip
          refine And.intro (vpI (c := 381) (by decide) (by lia) (by lia)) ?_
          exact hp _ trivial
set_option maxHeartbeats 4000000 in
theorem sf_X11_gain {post : Int32 → MM → Int64 → Prop} {M : MM} {tl : Int64} {v1 : Int32} {v2 : Int32} {v3 : Int32} (hI : Inv M) (hp : ∀ (r : Int32), True → post r M tl) : wpX11_gain post M tl v1 v2 v3 := by
  unfold wpX11_gain
  refine sf_X11_isLot hI  (fun r1 hq2 => ?_)
  refine ifs (fun hc3 => ?_) (fun hc4 => ?_)
  · skip
    exact hp _ trivial
  · skip
    refine m_in (v := v3) (lo := 1) (hi := 5) rfl rfl rfl (fun hn5 hn6 => ?_) (fun hn7 => ?_)
    · skip
      refine ifs (fun hc8 => ?_) (fun hc9 => ?_)
      · skip
        exact hp _ trivial
      · skip
        refine sf_X11_gainOf hI (by lia) (by lia) (by lia) (fun r10 hq11 => ?_)
        exact hp _ trivial
    · skip
      refine ifs (fun hc12 => ?_) (fun hc13 => ?_)
      · skip
        exact hp _ trivial
      · skip
        refine sf_X11_gainOf hI (by lia) (by lia) (by lia) (fun r14 hq15 => ?_)
        exact hp _ trivial
set_option maxHeartbeats 4000000 in
theorem sf_X11_mayBe {post : Int32 → MM → Int64 → Prop} {M : MM} {tl : Int64} {v1 : Int32} {v2 : Int32} {v3 : Int32} (hI : Inv M) (hp1 : 0 ≤ v1 ∧ v1 < 2) (hp2 : 0 ≤ v3 ∧ v3 < 6) (hp : ∀ (r : Int32), (r = 0 ∨ r = 1) → post r M tl) : wpX11_mayBe post M tl v1 v2 v3 := by
  unfold wpX11_mayBe
  refine sf_X11_doesLack hI (by lia) (fun r1 hq2 => ?_)
  refine ifs (fun hc3 => ?_) (fun hc4 => ?_)
  · skip
    refine sf_X11_matchOf hI  (fun r5 hq6 => ?_)
    refine ifs (fun hc7 => ?_) (fun hc8 => ?_)
    · skip
      exact hp _ (by lia)
    · skip
      refine And.intro (vpI (c := 6) (by decide) (by lia) (by lia)) ?_
      have hr9 := iv_88 hI (v3).toNatClampNeg
      refine sf_X11_doesLack hI (by lia) (fun r10 hq11 => ?_)
      refine ifs (fun hc12 => ?_) (fun hc13 => ?_)
      · skip
        exact hp _ (by lia)
      · skip
        exact hp _ (by lia)
  · skip
    exact hp _ (by lia)
set_option maxHeartbeats 4000000 in
theorem sl_X11_beginOf_9 {post : Int32 → MM → Int64 → Prop} {M : MM} {tl : Int64} (hp : ∀ (r : Int32), (r = -4 ∨ (0 ≤ r ∧ r < 6)) → post r M tl) (hI : Inv M) : ∀ v5 : Int32, 0 ≤ v5 → v5 ≤ 6 → ∃ n, ∀ (v1 : Int32) (v2 : Int32) (v3 : Int32) (v4 : Int32), (0 ≤ v1 ∧ v1 < 2 ∧ 0 ≤ v2 ∧ v2 < 8 ∧ (v3 = -4 ∨ (0 ≤ v3 ∧ v3 < 6))) → wX11_beginOf_9 post n M tl v1 v2 v3 v4 v5 := by
  refine up_ex (P := fun d v5 => ∀ (v1 : Int32) (v2 : Int32) (v3 : Int32) (v4 : Int32), (0 ≤ v1 ∧ v1 < 2 ∧ 0 ≤ v2 ∧ v2 < 8 ∧ (v3 = -4 ∨ (0 ≤ v3 ∧ v3 < 6))) → wX11_beginOf_9 post d M tl v1 v2 v3 v4 v5) 0 6 ?_
  intro d v5 hlo hhi rec v1 v2 v3 v4 hli
  unfold wX11_beginOf_9
  refine ifs (fun hc1 => ?_) (fun hc2 => ?_)
  · skip
    exact hp _ (by lia)
  · skip
    refine sf_X11_mayBe hI (by lia) (by lia) (fun r3 hq4 => ?_)
    refine ifs (fun hc5 => ?_) (fun hc6 => ?_)
    · skip
      unfold wX11_beginOf_44
      unfold wX11_beginOf_45
      refine ifs (fun hc7 => ?_) (fun hc8 => ?_)
      · skip
        unfold wX11_beginOf_58
        refine ifs (fun hc9 => ?_) (fun hc10 => ?_)
        · skip
          unfold wX11_beginOf_77
          exact rec (by lia) v1 v2 v3 v4 (by lia)
        · skip
          refine sf_X11_gainOf hI (by lia) (by lia) (by lia) (fun r11 hq12 => ?_)
          unfold wX11_beginOf_77
          exact rec (by lia) v1 v2 v3 r11 (by lia)
      · skip
        unfold wX11_beginOf_58
        refine ifs (fun hc13 => ?_) (fun hc14 => ?_)
        · skip
          unfold wX11_beginOf_77
          exact rec (by lia) v1 v2 v5 v4 (by lia)
        · skip
          refine sf_X11_gainOf hI (by lia) (by lia) (by lia) (fun r15 hq16 => ?_)
          unfold wX11_beginOf_77
          exact rec (by lia) v1 v2 v5 r15 (by lia)
    · skip
      refine sf_X11_gainOf hI (by lia) (by lia) (by lia) (fun r17 hq18 => ?_)
      refine ifs (fun hc19 => ?_) (fun hc20 => ?_)
      · skip
        unfold wX11_beginOf_44
        unfold wX11_beginOf_45
        refine ifs (fun hc21 => ?_) (fun hc22 => ?_)
        · skip
          unfold wX11_beginOf_58
          refine ifs (fun hc23 => ?_) (fun hc24 => ?_)
          · skip
            unfold wX11_beginOf_77
            exact rec (by lia) v1 v2 v3 v4 (by lia)
          · skip
            refine sf_X11_gainOf hI (by lia) (by lia) (by lia) (fun r25 hq26 => ?_)
            unfold wX11_beginOf_77
            exact rec (by lia) v1 v2 v3 r25 (by lia)
        · skip
          unfold wX11_beginOf_58
          refine ifs (fun hc27 => ?_) (fun hc28 => ?_)
          · skip
            unfold wX11_beginOf_77
            exact rec (by lia) v1 v2 v5 v4 (by lia)
          · skip
            refine sf_X11_gainOf hI (by lia) (by lia) (by lia) (fun r29 hq30 => ?_)
            unfold wX11_beginOf_77
            exact rec (by lia) v1 v2 v5 r29 (by lia)
      · skip
        unfold wX11_beginOf_45
        refine ifs (fun hc31 => ?_) (fun hc32 => ?_)
        · skip
          unfold wX11_beginOf_58
          refine ifs (fun hc33 => ?_) (fun hc34 => ?_)
          · skip
            unfold wX11_beginOf_77
            exact rec (by lia) v1 v2 v3 v4 (by lia)
          · skip
            refine sf_X11_gainOf hI (by lia) (by lia) (by lia) (fun r35 hq36 => ?_)
            unfold wX11_beginOf_77
            exact rec (by lia) v1 v2 v3 r35 (by lia)
        · skip
          unfold wX11_beginOf_58
          refine ifs (fun hc37 => ?_) (fun hc38 => ?_)
          · skip
            unfold wX11_beginOf_77
            exact rec (by lia) v1 v2 v5 v4 (by lia)
          · skip
            refine sf_X11_gainOf hI (by lia) (by lia) (by lia) (fun r39 hq40 => ?_)
            unfold wX11_beginOf_77
            exact rec (by lia) v1 v2 v5 r39 (by lia)
set_option maxHeartbeats 4000000 in
theorem sf_X11_beginOf {post : Int32 → MM → Int64 → Prop} {M : MM} {tl : Int64} {v1 : Int32} {v2 : Int32} (hI : Inv M) (hp1 : 0 ≤ v1 ∧ v1 < 2) (hp2 : 0 ≤ v2 ∧ v2 < 8) (hp : ∀ (r : Int32), (r = -4 ∨ (0 ≤ r ∧ r < 6)) → post r M tl) : wpX11_beginOf post M tl v1 v2 := by
  unfold wpX11_beginOf
  obtain ⟨n1, hn2⟩ := sl_X11_beginOf_9 (M := M) (tl := tl) hp  hI (1 : Int32) (by lia) (by lia)
  exact ⟨n1, hn2 v1 v2 (-4 : Int32) (0 : Int32) (by lia)⟩
set_option maxHeartbeats 4000000 in
theorem sf_X11_begin {post : Int32 → MM → Int64 → Prop} {M : MM} {tl : Int64} {v1 : Int32} {v2 : Int32} {v3 : Int32} (hI : Inv M) (hp : ∀ (r : Int32), True → post r M tl) : wpX11_begin post M tl v1 v2 v3 := by
  unfold wpX11_begin
  refine sf_X11_isLot hI  (fun r1 hq2 => ?_)
  refine ifs (fun hc3 => ?_) (fun hc4 => ?_)
  · skip
    exact hp _ trivial
  · skip
    refine m_in (v := v3) (lo := 0) (hi := 1) rfl rfl rfl (fun hn5 hn6 => ?_) (fun hn7 => ?_)
    · skip
      refine ifs (fun hc8 => ?_) (fun hc9 => ?_)
      · skip
        exact hp _ trivial
      · skip
        refine sf_X11_beginOf hI (by lia) (by lia) (fun r10 hq11 => ?_)
        refine ifs (fun hc12 => ?_) (fun hc13 => ?_)
        · skip
          exact hp _ trivial
        · skip
          refine ifs (fun hc14 => ?_) (fun hc15 => ?_)
          · skip
            exact hp _ trivial
          · skip
            refine sf_X11_gainOf hI (by lia) (by lia) (by lia) (fun r16 hq17 => ?_)
            exact hp _ trivial
    · skip
      refine ifs (fun hc18 => ?_) (fun hc19 => ?_)
      · skip
        exact hp _ trivial
      · skip
        refine sf_X11_beginOf hI (by lia) (by lia) (fun r20 hq21 => ?_)
        refine ifs (fun hc22 => ?_) (fun hc23 => ?_)
        · skip
          exact hp _ trivial
        · skip
          refine ifs (fun hc24 => ?_) (fun hc25 => ?_)
          · skip
            exact hp _ trivial
          · skip
            refine sf_X11_gainOf hI (by lia) (by lia) (by lia) (fun r26 hq27 => ?_)
            exact hp _ trivial
set_option maxHeartbeats 4000000 in
theorem sf_X11_want {post : Int32 → MM → Int64 → Prop} {M : MM} {tl : Int64} {v1 : Int32} {v2 : Int32} (hI : Inv M) (hp : ∀ (r : Int32) (M1 : MM) (t1 : Int64), Inv M1 → Fr [82] [] M M1 → True → post r M1 t1) : wpX11_want post M tl v1 v2 := by
  unfold wpX11_want
  refine sf_X11_isLot hI  (fun r1 hq2 => ?_)
  refine ifs (fun hc3 => ?_) (fun hc4 => ?_)
  · skip
    exact hp _ _ _ hI fr_rfl trivial
  · skip
    refine m_in (v := v2) (lo := 1) (hi := 5) rfl rfl rfl (fun hn5 hn6 => ?_) (fun hn7 => ?_)
    · skip
      refine ifs (fun hc8 => ?_) (fun hc9 => ?_)
      · skip
        exact hp _ _ _ hI fr_rfl trivial
      · skip
        refine And.intro (vpI (c := 381) (by decide) (by lia) (by lia)) ?_
        have hr10 := r82_65 hI
        refine ifs (fun hc11 => ?_) (fun hc12 => ?_)
        · skip
          exact hp _ _ _ hI fr_rfl trivial
        · skip
          refine And.intro (vpI (c := 381) (by decide) (by lia) (by lia)) ?_
          refine And.intro (vpI (c := 381) (by decide) (by lia) (by lia)) ?_
          intro W13 hW14
          have hI15 : Inv W13 := by rw [hW14]; exact w82_66_0 hI _ _ (by lia) (by lia) (by first | lia | (unfold Th; lia))
          have hF16 : Fr [82] [] M W13 := by rw [hW14]; exact fr_arr fr_rfl (by decide)
          refine And.intro (vpI (c := 381) (by decide) (by lia) (by lia)) ?_
          intro W17 hW18
          have hI19 : Inv W17 := by rw [hW18]; exact w82_66_1 hI15 _ _ (by lia) (by lia) (by first | lia | (unfold Th; lia))
          have hF20 : Fr [82] [] M W17 := by rw [hW18]; exact fr_arr hF16 (by decide)
          refine And.intro (vpI (c := 381) (by decide) (by lia) (by lia)) ?_
          refine And.intro (vpI (c := 381) (by decide) (by lia) (by lia)) ?_
          have hx23 : W17 82 ((65 : Int32)).toNatClampNeg = W13 82 ((65 : Int32)).toNatClampNeg := by rw [hW18, mset_nk (tn_ne (by lia) (by lia) (by lia))]
          have hr24 := r82_65 hI15
          have hx25 : W13 82 ((65 : Int32)).toNatClampNeg = M 82 ((65 : Int32)).toNatClampNeg := by rw [hW14, mset_nk (tn_ne (by lia) (by lia) (by lia))]
          have hr26 := r82_65 hI
          have hr27 := r82_65 hI19
          intro W21 hW22
          have hI28 : Inv W21 := by rw [hW22]; exact w82_65 hI19 _ ⟨by lia, by lia⟩
          have hF29 : Fr [82] [] M W21 := by rw [hW22]; exact fr_arr hF20 (by decide)
          refine And.intro (vpI (c := 381) (by decide) (by lia) (by lia)) ?_
          have hr30 := r82_65 hI28
          exact hp _ _ _ hI28 hF29 trivial
    · skip
      refine ifs (fun hc31 => ?_) (fun hc32 => ?_)
      · skip
        exact hp _ _ _ hI fr_rfl trivial
      · skip
        refine And.intro (vpI (c := 381) (by decide) (by lia) (by lia)) ?_
        have hr33 := r82_65 hI
        refine ifs (fun hc34 => ?_) (fun hc35 => ?_)
        · skip
          exact hp _ _ _ hI fr_rfl trivial
        · skip
          refine And.intro (vpI (c := 381) (by decide) (by lia) (by lia)) ?_
          refine And.intro (vpI (c := 381) (by decide) (by lia) (by lia)) ?_
          intro W36 hW37
          have hI38 : Inv W36 := by rw [hW37]; exact w82_66_0 hI _ _ (by lia) (by lia) (by first | lia | (unfold Th; lia))
          have hF39 : Fr [82] [] M W36 := by rw [hW37]; exact fr_arr fr_rfl (by decide)
          refine And.intro (vpI (c := 381) (by decide) (by lia) (by lia)) ?_
          intro W40 hW41
          have hI42 : Inv W40 := by rw [hW41]; exact w82_66_1 hI38 _ _ (by lia) (by lia) (by first | lia | (unfold Th; lia))
          have hF43 : Fr [82] [] M W40 := by rw [hW41]; exact fr_arr hF39 (by decide)
          refine And.intro (vpI (c := 381) (by decide) (by lia) (by lia)) ?_
          refine And.intro (vpI (c := 381) (by decide) (by lia) (by lia)) ?_
          have hx46 : W40 82 ((65 : Int32)).toNatClampNeg = W36 82 ((65 : Int32)).toNatClampNeg := by rw [hW41, mset_nk (tn_ne (by lia) (by lia) (by lia))]
          have hr47 := r82_65 hI38
          have hx48 : W36 82 ((65 : Int32)).toNatClampNeg = M 82 ((65 : Int32)).toNatClampNeg := by rw [hW37, mset_nk (tn_ne (by lia) (by lia) (by lia))]
          have hr49 := r82_65 hI
          have hr50 := r82_65 hI42
          intro W44 hW45
          have hI51 : Inv W44 := by rw [hW45]; exact w82_65 hI42 _ ⟨by lia, by lia⟩
          have hF52 : Fr [82] [] M W44 := by rw [hW45]; exact fr_arr hF43 (by decide)
          refine And.intro (vpI (c := 381) (by decide) (by lia) (by lia)) ?_
          have hr53 := r82_65 hI51
          exact hp _ _ _ hI51 hF52 trivial
set_option maxHeartbeats 4000000 in
theorem sf_X11_content {post : Int32 → MM → Int64 → Prop} {M : MM} {tl : Int64} (hI : Inv M) (hp : ∀ (r : Int32) (M1 : MM) (t1 : Int64), Inv M1 → Fr [82] [] M M1 → True → post r M1 t1) : wpX11_content post M tl  := by
  unfold wpX11_content
  refine And.intro (vpI (c := 381) (by decide) (by lia) (by lia)) ?_
  refine And.intro (vpI (c := 381) (by decide) (by lia) (by lia)) ?_
  intro W1 hW2
  have hI3 : Inv W1 := by rw [hW2]; exact w82_65 hI _ ⟨by lia, by lia⟩
  have hF4 : Fr [82] [] M W1 := by rw [hW2]; exact fr_arr fr_rfl (by decide)
  have hr5 := r82_65 hI
  exact hp _ _ _ hI3 hF4 trivial
set_option maxHeartbeats 4000000 in
theorem sf_X11_saw {post : Int32 → MM → Int64 → Prop} {M : MM} {tl : Int64} {v1 : Int32} {v2 : Int32} {v3 : Int32} {v4 : Int32} (hI : Inv M) (hp : ∀ (r : Int32) (M1 : MM) (t1 : Int64), Inv M1 → Fr [82] [] M M1 → True → post r M1 t1) : wpX11_saw post M tl v1 v2 v3 v4 := by
  unfold wpX11_saw
  refine sf_X11_isLot hI  (fun r1 hq2 => ?_)
  refine ifs (fun hc3 => ?_) (fun hc4 => ?_)
  · skip
    exact hp _ _ _ hI fr_rfl trivial
  · skip
    refine m_in (v := v3) (lo := 0) (hi := 23) rfl rfl rfl (fun hn5 hn6 => ?_) (fun hn7 => ?_)
    · skip
      refine ifs (fun hc8 => ?_) (fun hc9 => ?_)
      · skip
        exact hp _ _ _ hI fr_rfl trivial
      · skip
        refine And.intro (vpI (c := 381) (by decide) (by lia) (by lia)) ?_
        have hr10 := r82_78 hI
        refine ifs (fun hc11 => ?_) (fun hc12 => ?_)
        · skip
          exact hp _ _ _ hI fr_rfl trivial
        · skip
          refine And.intro (vpI (c := 381) (by decide) (by lia) (by lia)) ?_
          refine And.intro (vpI (c := 381) (by decide) (by lia) (by lia)) ?_
          intro W13 hW14
          have hI15 : Inv W13 := by rw [hW14]; exact w82_79_0 hI _ _ (by lia) (by lia) (by first | lia | (unfold Th; lia))
          have hF16 : Fr [82] [] M W13 := by rw [hW14]; exact fr_arr fr_rfl (by decide)
          refine And.intro (vpI (c := 381) (by decide) (by lia) (by lia)) ?_
          intro W17 hW18
          have hI19 : Inv W17 := by rw [hW18]; exact w82_79_1 hI15 _ _ (by lia) (by lia) (by first | lia | (unfold Th; lia))
          have hF20 : Fr [82] [] M W17 := by rw [hW18]; exact fr_arr hF16 (by decide)
          refine And.intro (vpI (c := 381) (by decide) (by lia) (by lia)) ?_
          intro W21 hW22
          have hI23 : Inv W21 := by rw [hW22]; exact w82_79_2 hI19 _ _ (by lia) (by lia) (by first | lia | (unfold Th; lia))
          have hF24 : Fr [82] [] M W21 := by rw [hW22]; exact fr_arr hF20 (by decide)
          refine sf_X11_flag hI23  (fun r25 hq26 => ?_)
          refine And.intro (vpI (c := 381) (by decide) (by lia) (by lia)) ?_
          intro W27 hW28
          have hI29 : Inv W27 := by rw [hW28]; exact w82_79_3 hI23 _ _ (by lia) (by lia) (by first | lia | (unfold Th; lia))
          have hF30 : Fr [82] [] M W27 := by rw [hW28]; exact fr_arr hF24 (by decide)
          refine And.intro (vpI (c := 381) (by decide) (by lia) (by lia)) ?_
          refine And.intro (vpI (c := 381) (by decide) (by lia) (by lia)) ?_
          have hx33 : W27 82 ((78 : Int32)).toNatClampNeg = W21 82 ((78 : Int32)).toNatClampNeg := by rw [hW28, mset_nk (tn_ne (by lia) (by lia) (by lia))]
          have hr34 := r82_78 hI23
          have hx35 : W21 82 ((78 : Int32)).toNatClampNeg = W17 82 ((78 : Int32)).toNatClampNeg := by rw [hW22, mset_nk (tn_ne (by lia) (by lia) (by lia))]
          have hr36 := r82_78 hI19
          have hx37 : W17 82 ((78 : Int32)).toNatClampNeg = W13 82 ((78 : Int32)).toNatClampNeg := by rw [hW18, mset_nk (tn_ne (by lia) (by lia) (by lia))]
          have hr38 := r82_78 hI15
          have hx39 : W13 82 ((78 : Int32)).toNatClampNeg = M 82 ((78 : Int32)).toNatClampNeg := by rw [hW14, mset_nk (tn_ne (by lia) (by lia) (by lia))]
          have hr40 := r82_78 hI
          have hr41 := r82_78 hI29
          intro W31 hW32
          have hI42 : Inv W31 := by rw [hW32]; exact w82_78 hI29 _ ⟨by lia, by lia⟩
          have hF43 : Fr [82] [] M W31 := by rw [hW32]; exact fr_arr hF30 (by decide)
          refine And.intro (vpI (c := 381) (by decide) (by lia) (by lia)) ?_
          have hr44 := r82_78 hI42
          exact hp _ _ _ hI42 hF43 trivial
    · skip
      refine ifs (fun hc45 => ?_) (fun hc46 => ?_)
      · skip
        exact hp _ _ _ hI fr_rfl trivial
      · skip
        refine And.intro (vpI (c := 381) (by decide) (by lia) (by lia)) ?_
        have hr47 := r82_78 hI
        refine ifs (fun hc48 => ?_) (fun hc49 => ?_)
        · skip
          exact hp _ _ _ hI fr_rfl trivial
        · skip
          refine And.intro (vpI (c := 381) (by decide) (by lia) (by lia)) ?_
          refine And.intro (vpI (c := 381) (by decide) (by lia) (by lia)) ?_
          intro W50 hW51
          have hI52 : Inv W50 := by rw [hW51]; exact w82_79_0 hI _ _ (by lia) (by lia) (by first | lia | (unfold Th; lia))
          have hF53 : Fr [82] [] M W50 := by rw [hW51]; exact fr_arr fr_rfl (by decide)
          refine And.intro (vpI (c := 381) (by decide) (by lia) (by lia)) ?_
          intro W54 hW55
          have hI56 : Inv W54 := by rw [hW55]; exact w82_79_1 hI52 _ _ (by lia) (by lia) (by first | lia | (unfold Th; lia))
          have hF57 : Fr [82] [] M W54 := by rw [hW55]; exact fr_arr hF53 (by decide)
          refine And.intro (vpI (c := 381) (by decide) (by lia) (by lia)) ?_
          intro W58 hW59
          have hI60 : Inv W58 := by rw [hW59]; exact w82_79_2 hI56 _ _ (by lia) (by lia) (by first | lia | (unfold Th; lia))
          have hF61 : Fr [82] [] M W58 := by rw [hW59]; exact fr_arr hF57 (by decide)
          refine sf_X11_flag hI60  (fun r62 hq63 => ?_)
          refine And.intro (vpI (c := 381) (by decide) (by lia) (by lia)) ?_
          intro W64 hW65
          have hI66 : Inv W64 := by rw [hW65]; exact w82_79_3 hI60 _ _ (by lia) (by lia) (by first | lia | (unfold Th; lia))
          have hF67 : Fr [82] [] M W64 := by rw [hW65]; exact fr_arr hF61 (by decide)
          refine And.intro (vpI (c := 381) (by decide) (by lia) (by lia)) ?_
          refine And.intro (vpI (c := 381) (by decide) (by lia) (by lia)) ?_
          have hx70 : W64 82 ((78 : Int32)).toNatClampNeg = W58 82 ((78 : Int32)).toNatClampNeg := by rw [hW65, mset_nk (tn_ne (by lia) (by lia) (by lia))]
          have hr71 := r82_78 hI60
          have hx72 : W58 82 ((78 : Int32)).toNatClampNeg = W54 82 ((78 : Int32)).toNatClampNeg := by rw [hW59, mset_nk (tn_ne (by lia) (by lia) (by lia))]
          have hr73 := r82_78 hI56
          have hx74 : W54 82 ((78 : Int32)).toNatClampNeg = W50 82 ((78 : Int32)).toNatClampNeg := by rw [hW55, mset_nk (tn_ne (by lia) (by lia) (by lia))]
          have hr75 := r82_78 hI52
          have hx76 : W50 82 ((78 : Int32)).toNatClampNeg = M 82 ((78 : Int32)).toNatClampNeg := by rw [hW51, mset_nk (tn_ne (by lia) (by lia) (by lia))]
          have hr77 := r82_78 hI
          have hr78 := r82_78 hI66
          intro W68 hW69
          have hI79 : Inv W68 := by rw [hW69]; exact w82_78 hI66 _ ⟨by lia, by lia⟩
          have hF80 : Fr [82] [] M W68 := by rw [hW69]; exact fr_arr hF67 (by decide)
          refine And.intro (vpI (c := 381) (by decide) (by lia) (by lia)) ?_
          have hr81 := r82_78 hI79
          exact hp _ _ _ hI79 hF80 trivial
set_option maxHeartbeats 4000000 in
theorem sf_X11_forget {post : Int32 → MM → Int64 → Prop} {M : MM} {tl : Int64} (hI : Inv M) (hp : ∀ (r : Int32) (M1 : MM) (t1 : Int64), Inv M1 → Fr [82] [] M M1 → True → post r M1 t1) : wpX11_forget post M tl  := by
  unfold wpX11_forget
  refine And.intro (vpI (c := 381) (by decide) (by lia) (by lia)) ?_
  refine And.intro (vpI (c := 381) (by decide) (by lia) (by lia)) ?_
  intro W1 hW2
  have hI3 : Inv W1 := by rw [hW2]; exact w82_78 hI _ ⟨by lia, by lia⟩
  have hF4 : Fr [82] [] M W1 := by rw [hW2]; exact fr_arr fr_rfl (by decide)
  have hr5 := r82_78 hI
  exact hp _ _ _ hI3 hF4 trivial
set_option maxHeartbeats 4000000 in
theorem sf_X11_plot {post : Int32 → MM → Int64 → Prop} {M : MM} {tl : Int64} {v1 : Int32} {v2 : Int32} {v3 : Int32} {v4 : Int32} (hI : Inv M) (hp : ∀ (r : Int32) (M1 : MM) (t1 : Int64), Inv M1 → Fr [82] [] M M1 → True → post r M1 t1) : wpX11_plot post M tl v1 v2 v3 v4 := by
  unfold wpX11_plot
  refine And.intro (vpI (c := 381) (by decide) (by lia) (by lia)) ?_
  have hr1 := r82_16 hI
  refine ifs (fun hc2 => ?_) (fun hc3 => ?_)
  · skip
    unfold wX11_plot_39
    refine m_in (v := v1) (lo := 0) (hi := 23) rfl rfl rfl (fun hn4 hn5 => ?_) (fun hn6 => ?_)
    · skip
      refine ifs (fun hc7 => ?_) (fun hc8 => ?_)
      · skip
        exact hp _ _ _ hI fr_rfl trivial
      · skip
        refine sf_X11_isLot hI  (fun r9 hq10 => ?_)
        refine ifs (fun hc11 => ?_) (fun hc12 => ?_)
        · skip
          exact hp _ _ _ hI fr_rfl trivial
        · skip
          refine sf_X11_isThing hI  (fun r13 hq14 => ?_)
          refine ifs (fun hc15 => ?_) (fun hc16 => ?_)
          · skip
            exact hp _ _ _ hI fr_rfl trivial
          · skip
            refine ifs (fun hc17 => ?_) (fun hc18 => ?_)
            · skip
              exact hp _ _ _ hI fr_rfl trivial
            · skip
              refine And.intro (vpI (c := 381) (by decide) (by lia) (by lia)) ?_
              intro W19 hW20
              have hI21 : Inv W19 := by rw [hW20]; exact w82_17_0 hI _ _ (by lia) (by lia) (by first | lia | (unfold Th; lia))
              have hF22 : Fr [82] [] M W19 := by rw [hW20]; exact fr_arr fr_rfl (by decide)
              refine And.intro (vpI (c := 381) (by decide) (by lia) (by lia)) ?_
              intro W23 hW24
              have hI25 : Inv W23 := by rw [hW24]; exact w82_17_1 hI21 _ _ (by lia) (by lia) (by first | lia | (unfold Th; lia))
              have hF26 : Fr [82] [] M W23 := by rw [hW24]; exact fr_arr hF22 (by decide)
              refine And.intro (vpI (c := 381) (by decide) (by lia) (by lia)) ?_
              intro W27 hW28
              have hI29 : Inv W27 := by rw [hW28]; exact w82_17_2 hI25 _ _ (by lia) (by lia) (by first | lia | (unfold Th; lia))
              have hF30 : Fr [82] [] M W27 := by rw [hW28]; exact fr_arr hF26 (by decide)
              refine And.intro (vpI (c := 381) (by decide) (by lia) (by lia)) ?_
              intro W31 hW32
              have hI33 : Inv W31 := by rw [hW32]; exact w82_17_3 hI29 _ _ (by lia) (by lia) (by first | lia | (unfold Th; lia))
              have hF34 : Fr [82] [] M W31 := by rw [hW32]; exact fr_arr hF30 (by decide)
              refine And.intro (vpI (c := 381) (by decide) (by lia) (by lia)) ?_
              intro W35 hW36
              have hI37 : Inv W35 := by rw [hW36]; exact w82_16 hI33 _ ⟨by lia, by lia⟩
              have hF38 : Fr [82] [] M W35 := by rw [hW36]; exact fr_arr hF34 (by decide)
              exact hp _ _ _ hI37 hF38 trivial
    · skip
      refine ifs (fun hc39 => ?_) (fun hc40 => ?_)
      · skip
        exact hp _ _ _ hI fr_rfl trivial
      · skip
        refine sf_X11_isLot hI  (fun r41 hq42 => ?_)
        refine ifs (fun hc43 => ?_) (fun hc44 => ?_)
        · skip
          exact hp _ _ _ hI fr_rfl trivial
        · skip
          refine sf_X11_isThing hI  (fun r45 hq46 => ?_)
          refine ifs (fun hc47 => ?_) (fun hc48 => ?_)
          · skip
            exact hp _ _ _ hI fr_rfl trivial
          · skip
            refine ifs (fun hc49 => ?_) (fun hc50 => ?_)
            · skip
              exact hp _ _ _ hI fr_rfl trivial
            · skip
              refine And.intro (vpI (c := 381) (by decide) (by lia) (by lia)) ?_
              intro W51 hW52
              have hI53 : Inv W51 := by rw [hW52]; exact w82_17_0 hI _ _ (by lia) (by lia) (by first | lia | (unfold Th; lia))
              have hF54 : Fr [82] [] M W51 := by rw [hW52]; exact fr_arr fr_rfl (by decide)
              refine And.intro (vpI (c := 381) (by decide) (by lia) (by lia)) ?_
              intro W55 hW56
              have hI57 : Inv W55 := by rw [hW56]; exact w82_17_1 hI53 _ _ (by lia) (by lia) (by first | lia | (unfold Th; lia))
              have hF58 : Fr [82] [] M W55 := by rw [hW56]; exact fr_arr hF54 (by decide)
              refine And.intro (vpI (c := 381) (by decide) (by lia) (by lia)) ?_
              intro W59 hW60
              have hI61 : Inv W59 := by rw [hW60]; exact w82_17_2 hI57 _ _ (by lia) (by lia) (by first | lia | (unfold Th; lia))
              have hF62 : Fr [82] [] M W59 := by rw [hW60]; exact fr_arr hF58 (by decide)
              refine And.intro (vpI (c := 381) (by decide) (by lia) (by lia)) ?_
              intro W63 hW64
              have hI65 : Inv W63 := by rw [hW64]; exact w82_17_3 hI61 _ _ (by lia) (by lia) (by first | lia | (unfold Th; lia))
              have hF66 : Fr [82] [] M W63 := by rw [hW64]; exact fr_arr hF62 (by decide)
              refine And.intro (vpI (c := 381) (by decide) (by lia) (by lia)) ?_
              intro W67 hW68
              have hI69 : Inv W67 := by rw [hW68]; exact w82_16 hI65 _ ⟨by lia, by lia⟩
              have hF70 : Fr [82] [] M W67 := by rw [hW68]; exact fr_arr hF66 (by decide)
              exact hp _ _ _ hI69 hF70 trivial
  · skip
    refine And.intro (vpI (c := 381) (by decide) (by lia) (by lia)) ?_
    have hr71 := r82_prev hI (M 82 ((16 : Int32)).toNatClampNeg) (by lia) (by lia)
    unfold wX11_plot_39
    refine m_in (v := v1) (lo := (M 82 ((((17 : Int32) + ((4 : Int32) * (M 82 ((16 : Int32)).toNatClampNeg))) - (4 : Int32))).toNatClampNeg)) (hi := 23) rfl rfl rfl (fun hn72 hn73 => ?_) (fun hn74 => ?_)
    · skip
      refine ifs (fun hc75 => ?_) (fun hc76 => ?_)
      · skip
        exact hp _ _ _ hI fr_rfl trivial
      · skip
        refine sf_X11_isLot hI  (fun r77 hq78 => ?_)
        refine ifs (fun hc79 => ?_) (fun hc80 => ?_)
        · skip
          exact hp _ _ _ hI fr_rfl trivial
        · skip
          refine sf_X11_isThing hI  (fun r81 hq82 => ?_)
          refine ifs (fun hc83 => ?_) (fun hc84 => ?_)
          · skip
            exact hp _ _ _ hI fr_rfl trivial
          · skip
            refine ifs (fun hc85 => ?_) (fun hc86 => ?_)
            · skip
              exact hp _ _ _ hI fr_rfl trivial
            · skip
              refine And.intro (vpI (c := 381) (by decide) (by lia) (by lia)) ?_
              intro W87 hW88
              have hI89 : Inv W87 := by rw [hW88]; exact w82_17_0 hI _ _ (by lia) (by lia) (by first | lia | (unfold Th; lia))
              have hF90 : Fr [82] [] M W87 := by rw [hW88]; exact fr_arr fr_rfl (by decide)
              refine And.intro (vpI (c := 381) (by decide) (by lia) (by lia)) ?_
              intro W91 hW92
              have hI93 : Inv W91 := by rw [hW92]; exact w82_17_1 hI89 _ _ (by lia) (by lia) (by first | lia | (unfold Th; lia))
              have hF94 : Fr [82] [] M W91 := by rw [hW92]; exact fr_arr hF90 (by decide)
              refine And.intro (vpI (c := 381) (by decide) (by lia) (by lia)) ?_
              intro W95 hW96
              have hI97 : Inv W95 := by rw [hW96]; exact w82_17_2 hI93 _ _ (by lia) (by lia) (by first | lia | (unfold Th; lia))
              have hF98 : Fr [82] [] M W95 := by rw [hW96]; exact fr_arr hF94 (by decide)
              refine And.intro (vpI (c := 381) (by decide) (by lia) (by lia)) ?_
              intro W99 hW100
              have hI101 : Inv W99 := by rw [hW100]; exact w82_17_3 hI97 _ _ (by lia) (by lia) (by first | lia | (unfold Th; lia))
              have hF102 : Fr [82] [] M W99 := by rw [hW100]; exact fr_arr hF98 (by decide)
              refine And.intro (vpI (c := 381) (by decide) (by lia) (by lia)) ?_
              intro W103 hW104
              have hI105 : Inv W103 := by rw [hW104]; exact w82_16 hI101 _ ⟨by lia, by lia⟩
              have hF106 : Fr [82] [] M W103 := by rw [hW104]; exact fr_arr hF102 (by decide)
              exact hp _ _ _ hI105 hF106 trivial
    · skip
      refine ifs (fun hc107 => ?_) (fun hc108 => ?_)
      · skip
        exact hp _ _ _ hI fr_rfl trivial
      · skip
        refine sf_X11_isLot hI  (fun r109 hq110 => ?_)
        refine ifs (fun hc111 => ?_) (fun hc112 => ?_)
        · skip
          exact hp _ _ _ hI fr_rfl trivial
        · skip
          refine sf_X11_isThing hI  (fun r113 hq114 => ?_)
          refine ifs (fun hc115 => ?_) (fun hc116 => ?_)
          · skip
            exact hp _ _ _ hI fr_rfl trivial
          · skip
            refine ifs (fun hc117 => ?_) (fun hc118 => ?_)
            · skip
              exact hp _ _ _ hI fr_rfl trivial
            · skip
              refine And.intro (vpI (c := 381) (by decide) (by lia) (by lia)) ?_
              intro W119 hW120
              have hI121 : Inv W119 := by rw [hW120]; exact w82_17_0 hI _ _ (by lia) (by lia) (by first | lia | (unfold Th; lia))
              have hF122 : Fr [82] [] M W119 := by rw [hW120]; exact fr_arr fr_rfl (by decide)
              refine And.intro (vpI (c := 381) (by decide) (by lia) (by lia)) ?_
              intro W123 hW124
              have hI125 : Inv W123 := by rw [hW124]; exact w82_17_1 hI121 _ _ (by lia) (by lia) (by first | lia | (unfold Th; lia))
              have hF126 : Fr [82] [] M W123 := by rw [hW124]; exact fr_arr hF122 (by decide)
              refine And.intro (vpI (c := 381) (by decide) (by lia) (by lia)) ?_
              intro W127 hW128
              have hI129 : Inv W127 := by rw [hW128]; exact w82_17_2 hI125 _ _ (by lia) (by lia) (by first | lia | (unfold Th; lia))
              have hF130 : Fr [82] [] M W127 := by rw [hW128]; exact fr_arr hF126 (by decide)
              refine And.intro (vpI (c := 381) (by decide) (by lia) (by lia)) ?_
              intro W131 hW132
              have hI133 : Inv W131 := by rw [hW132]; exact w82_17_3 hI129 _ _ (by lia) (by lia) (by first | lia | (unfold Th; lia))
              have hF134 : Fr [82] [] M W131 := by rw [hW132]; exact fr_arr hF130 (by decide)
              refine And.intro (vpI (c := 381) (by decide) (by lia) (by lia)) ?_
              intro W135 hW136
              have hI137 : Inv W135 := by rw [hW136]; exact w82_16 hI133 _ ⟨by lia, by lia⟩
              have hF138 : Fr [82] [] M W135 := by rw [hW136]; exact fr_arr hF134 (by decide)
              exact hp _ _ _ hI137 hF138 trivial
set_option maxHeartbeats 4000000 in
theorem sf_X11_end {post : Int32 → MM → Int64 → Prop} {M : MM} {tl : Int64} {v1 : Int32} (hI : Inv M) (hp : ∀ (r : Int32) (M1 : MM) (t1 : Int64), Inv M1 → Fr [] [(81, 31)] M M1 → True → post r M1 t1) : wpX11_end post M tl v1 := by
  unfold wpX11_end
  have hr1 := iv_81_31 hI
  refine m_in (v := v1) (lo := 0) (hi := (M 81 31)) rfl rfl rfl (fun hn2 hn3 => ?_) (fun hn4 => ?_)
  · skip
    refine ifs (fun hc5 => ?_) (fun hc6 => ?_)
    · skip
      exact hp _ _ _ hI fr_rfl trivial
    · skip
      intro W7 hW8
      have hI9 : Inv W7 := by rw [hW8]; exact inv_set hI (show 0 ≤ v1 ∧ v1 ≤ 400 from ⟨by lia, by lia⟩)
      have hF10 : Fr [] [(81, 31)] M W7 := by rw [hW8]; exact fr_fld fr_rfl (by decide)
      have hv11 : W7 81 31 = v1 := by rw [hW8]; exact mset_at _ _ _ _
      exact hp _ _ _ hI9 hF10 trivial
  · skip
    refine ifs (fun hc12 => ?_) (fun hc13 => ?_)
    · skip
      exact hp _ _ _ hI fr_rfl trivial
    · skip
      intro W14 hW15
      have hI16 : Inv W14 := by rw [hW15]; exact inv_set hI (show 0 ≤ v1 ∧ v1 ≤ 400 from ⟨by lia, by lia⟩)
      have hF17 : Fr [] [(81, 31)] M W14 := by rw [hW15]; exact fr_fld fr_rfl (by decide)
      have hv18 : W14 81 31 = v1 := by rw [hW15]; exact mset_at _ _ _ _
      exact hp _ _ _ hI16 hF17 trivial
set_option maxHeartbeats 4000000 in
theorem sl_X11_feed_19 {post : Int32 → MM → Int64 → Prop} {Mb : MM} (hp : ∀ (r : Int32) (M1 : MM) (t1 : Int64), Inv M1 → Fr [97] [(81, 31)] Mb M1 → True → post r M1 t1) : ∀ v3 : Int32, -8 ≤ v3 → v3 ≤ 56 → ∃ n, ∀ (M : MM) (tl : Int64) (v1 : Int64), Inv M → Fr [97] [(81, 31)] Mb M → (M 81 31 * 8 + v3 ≤ 3192) → wX11_feed_19 post n M tl v1 v3 := by
  refine dn_ex (P := fun d v3 => ∀ (M : MM) (tl : Int64) (v1 : Int64), Inv M → Fr [97] [(81, 31)] Mb M → (M 81 31 * 8 + v3 ≤ 3192) → wX11_feed_19 post d M tl v1 v3) (-8) 56 (by decide) (by decide) ?_
  intro d v3 hlo hhi rec M tl v1 hI hF hli
  unfold wX11_feed_19
  refine ifs (fun hc1 => ?_) (fun hc2 => ?_)
  · skip
    have hr3 := iv_81_31 hI
    exact hp _ _ _ hI hF trivial
  · skip
    have hr4 := iv_81_31 hI
    refine And.intro (vpI (c := 400) (by decide) (by lia) (by lia)) ?_
    intro W5 hW6
    have hI7 : Inv W5 := by rw [hW6]; exact inv_set hI (i_any _)
    have hF8 : Fr [97] [(81, 31)] Mb W5 := by rw [hW6]; exact fr_arr hF (by decide)
    have hx11 : W5 81 31 = M 81 31 := by rw [hW6, mset_ne (by decide)]
    have hr12 := iv_81_31 hI
    have hr13 := iv_81_31 hI7
    intro W9 hW10
    have hI14 : Inv W9 := by rw [hW10]; exact inv_set hI7 (show 0 ≤ ((W5 81 31) + (1 : Int32)) ∧ ((W5 81 31) + (1 : Int32)) ≤ 400 from ⟨by lia, by lia⟩)
    have hF15 : Fr [97] [(81, 31)] Mb W9 := by rw [hW10]; exact fr_fld hF8 (by decide)
    have hv16 : W9 81 31 = ((W5 81 31) + (1 : Int32)) := by rw [hW10]; exact mset_at _ _ _ _
    have hr17 := iv_81_31 hI14
    exact rec (by lia) _ _ v1 hI14 hF15 (by lia)
set_option maxHeartbeats 4000000 in
theorem sf_X11_feed {post : Int32 → MM → Int64 → Prop} {M : MM} {tl : Int64} {v1 : Int64} (hI : Inv M) (hp : ∀ (r : Int32) (M1 : MM) (t1 : Int64), Inv M1 → Fr [97] [(81, 31)] M M1 → True → post r M1 t1) : wpX11_feed post M tl v1 := by
  unfold wpX11_feed
  have hr1 := iv_81_31 hI
  refine ifs (fun hc2 => ?_) (fun hc3 => ?_)
  · skip
    obtain ⟨n4, hn5⟩ := sl_X11_feed_19 (Mb := M) hp  (56 : Int32) (by lia) (by lia)
    exact ⟨n4, hn5 _ _ v1 hI fr_rfl (by lia)⟩
  · skip
    exact hp _ _ _ hI fr_rfl trivial
set_option maxHeartbeats 4000000 in
theorem sf_X11_torn {post : Int32 → MM → Int64 → Prop} {M : MM} {tl : Int64} (hI : Inv M) (hp : ∀ (r : Int32), True → post r M tl) : wpX11_torn post M tl  := by
  unfold wpX11_torn
  exact hp _ trivial
set_option maxHeartbeats 4000000 in
theorem sf_X11_isSheet {post : Int32 → MM → Int64 → Prop} {M : MM} {tl : Int64} {v0 : Int32} {v1 : Int32} (hI : Inv M) (hp : ∀ (r : Int32), ((r = 0 ∨ r = 1) ∧ (r ≠ 0 → 0 ≤ v0 ∧ v0 < 4 ∧ 0 ≤ v1 ∧ v1 < 3)) → post r M tl) : wpX11_isSheet post M tl v0 v1 := by
  unfold wpX11_isSheet
  refine m_in (v := v0) (lo := 0) (hi := 3) rfl rfl rfl (fun hn1 hn2 => ?_) (fun hn3 => ?_)
  · skip
    refine ifs (fun hc4 => ?_) (fun hc5 => ?_)
    · skip
      exact hp _ (by lia)
    · skip
      refine m_in (v := v1) (lo := 0) (hi := 2) rfl rfl rfl (fun hn6 hn7 => ?_) (fun hn8 => ?_)
      · skip
        refine ifs (fun hc9 => ?_) (fun hc10 => ?_)
        · skip
          exact hp _ (by lia)
        · skip
          exact hp _ (by lia)
      · skip
        refine ifs (fun hc11 => ?_) (fun hc12 => ?_)
        · skip
          exact hp _ (by lia)
        · skip
          exact hp _ (by lia)
  · skip
    refine ifs (fun hc13 => ?_) (fun hc14 => ?_)
    · skip
      exact hp _ (by lia)
    · skip
      refine m_in (v := v1) (lo := 0) (hi := 2) rfl rfl rfl (fun hn15 hn16 => ?_) (fun hn17 => ?_)
      · skip
        refine ifs (fun hc18 => ?_) (fun hc19 => ?_)
        · skip
          exact hp _ (by lia)
        · skip
          exact hp _ (by lia)
      · skip
        refine ifs (fun hc20 => ?_) (fun hc21 => ?_)
        · skip
          exact hp _ (by lia)
        · skip
          exact hp _ (by lia)
set_option maxHeartbeats 4000000 in
theorem sf_X11_lay {post : Int32 → MM → Int64 → Prop} {M : MM} {tl : Int64} {v1 : Int32} {v2 : Int32} {v3 : Int32} (hI : Inv M) (hp : ∀ (r : Int32) (M1 : MM) (t1 : Int64), Inv M1 → Fr [107] [] M M1 → True → post r M1 t1) : wpX11_lay post M tl v1 v2 v3 := by
  unfold wpX11_lay
  refine sf_X11_isSheet hI  (fun r1 hq2 => ?_)
  refine ifs (fun hc3 => ?_) (fun hc4 => ?_)
  · skip
    exact hp _ _ _ hI fr_rfl trivial
  · skip
    refine And.intro (vpI (c := 4) (by decide) (by lia) (by lia)) ?_
    refine ifs (fun hc5 => ?_) (fun hc6 => ?_)
    · skip
      exact hp _ _ _ hI fr_rfl trivial
    · skip
      refine And.intro (vpI (c := 4) (by decide) (by lia) (by lia)) ?_
      have hr7 := iv_106 hI (v1).toNatClampNeg
      refine m_in (v := v2) (lo := 0) (hi := ((M 106 (v1).toNatClampNeg) - (1 : Int32))) rfl rfl rfl (fun hn8 hn9 => ?_) (fun hn10 => ?_)
      · skip
        refine ifs (fun hc11 => ?_) (fun hc12 => ?_)
        · skip
          exact hp _ _ _ hI fr_rfl trivial
        · skip
          refine And.intro (vpI (c := 4) (by decide) (by lia) (by lia)) ?_
          refine ifs (fun hc13 => ?_) (fun hc14 => ?_)
          · skip
            unfold wX11_lay_85
            refine And.intro (vpI (c := 160) (by decide) (by lia) (by lia)) ?_
            intro W15 hW16
            have hI17 : Inv W15 := by rw [hW16]; exact inv_set hI (i_any _)
            have hF18 : Fr [107] [] M W15 := by rw [hW16]; exact fr_arr fr_rfl (by decide)
            exact hp _ _ _ hI17 hF18 trivial
          · skip
            refine And.intro (vpI (c := 4) (by decide) (by lia) (by lia)) ?_
            refine ifs (fun hc19 => ?_) (fun hc20 => ?_)
            · skip
              unfold wX11_lay_85
              refine And.intro (vpI (c := 160) (by decide) (by lia) (by lia)) ?_
              intro W21 hW22
              have hI23 : Inv W21 := by rw [hW22]; exact inv_set hI (i_any _)
              have hF24 : Fr [107] [] M W21 := by rw [hW22]; exact fr_arr fr_rfl (by decide)
              exact hp _ _ _ hI23 hF24 trivial
            · skip
              unfold wX11_lay_85
              refine And.intro (vpI (c := 160) (by decide) (by lia) (by lia)) ?_
              intro W25 hW26
              have hI27 : Inv W25 := by rw [hW26]; exact inv_set hI (i_any _)
              have hF28 : Fr [107] [] M W25 := by rw [hW26]; exact fr_arr fr_rfl (by decide)
              exact hp _ _ _ hI27 hF28 trivial
      · skip
        refine ifs (fun hc29 => ?_) (fun hc30 => ?_)
        · skip
          exact hp _ _ _ hI fr_rfl trivial
        · skip
          refine And.intro (vpI (c := 4) (by decide) (by lia) (by lia)) ?_
          refine ifs (fun hc31 => ?_) (fun hc32 => ?_)
          · skip
            unfold wX11_lay_85
            refine And.intro (vpI (c := 160) (by decide) (by lia) (by lia)) ?_
            intro W33 hW34
            have hI35 : Inv W33 := by rw [hW34]; exact inv_set hI (i_any _)
            have hF36 : Fr [107] [] M W33 := by rw [hW34]; exact fr_arr fr_rfl (by decide)
            exact hp _ _ _ hI35 hF36 trivial
          · skip
            refine And.intro (vpI (c := 4) (by decide) (by lia) (by lia)) ?_
            refine ifs (fun hc37 => ?_) (fun hc38 => ?_)
            · skip
              unfold wX11_lay_85
              refine And.intro (vpI (c := 160) (by decide) (by lia) (by lia)) ?_
              intro W39 hW40
              have hI41 : Inv W39 := by rw [hW40]; exact inv_set hI (i_any _)
              have hF42 : Fr [107] [] M W39 := by rw [hW40]; exact fr_arr fr_rfl (by decide)
              exact hp _ _ _ hI41 hF42 trivial
            · skip
              unfold wX11_lay_85
              refine And.intro (vpI (c := 160) (by decide) (by lia) (by lia)) ?_
              intro W43 hW44
              have hI45 : Inv W43 := by rw [hW44]; exact inv_set hI (i_any _)
              have hF46 : Fr [107] [] M W43 := by rw [hW44]; exact fr_arr fr_rfl (by decide)
              exact hp _ _ _ hI45 hF46 trivial
set_option maxHeartbeats 4000000 in
theorem sl_X11_sheet_40 {post : Int32 → MM → Int64 → Prop} {Mb : MM} (hp : ∀ (r : Int32) (M1 : MM) (t1 : Int64), Inv M1 → Fr [105, 106, 107] [] Mb M1 → True → post r M1 t1) : ∀ v4 : Int32, 0 ≤ v4 → v4 ≤ 40 → ∃ n, ∀ (M : MM) (tl : Int64) (v1 : Int32), Inv M → Fr [105, 106, 107] [] Mb M → (0 ≤ v1 ∧ v1 < 4) → wX11_sheet_40 post n M tl v1 v4 := by
  refine up_ex (P := fun d v4 => ∀ (M : MM) (tl : Int64) (v1 : Int32), Inv M → Fr [105, 106, 107] [] Mb M → (0 ≤ v1 ∧ v1 < 4) → wX11_sheet_40 post d M tl v1 v4) 0 40 ?_
  intro d v4 hlo hhi rec M tl v1 hI hF hli
  unfold wX11_sheet_40
  refine ifs (fun hc1 => ?_) (fun hc2 => ?_)
  · skip
    exact hp _ _ _ hI hF trivial
  · skip
    refine And.intro (vpI (c := 160) (by decide) (by lia) (by lia)) ?_
    intro W3 hW4
    have hI5 : Inv W3 := by rw [hW4]; exact inv_set hI (i_any _)
    have hF6 : Fr [105, 106, 107] [] Mb W3 := by rw [hW4]; exact fr_arr hF (by decide)
    exact rec (by lia) _ _ v1 hI5 hF6 (by lia)
set_option maxHeartbeats 4000000 in
theorem sf_X11_sheet {post : Int32 → MM → Int64 → Prop} {M : MM} {tl : Int64} {v1 : Int32} {v2 : Int32} {v3 : Int32} (hI : Inv M) (hp : ∀ (r : Int32) (M1 : MM) (t1 : Int64), Inv M1 → Fr [105, 106, 107] [] M M1 → True → post r M1 t1) : wpX11_sheet post M tl v1 v2 v3 := by
  unfold wpX11_sheet
  refine sf_X11_isSheet hI  (fun r1 hq2 => ?_)
  refine ifs (fun hc3 => ?_) (fun hc4 => ?_)
  · skip
    exact hp _ _ _ hI fr_rfl trivial
  · skip
    refine ifs (fun hc5 => ?_) (fun hc6 => ?_)
    · skip
      refine ifs (fun hc7 => ?_) (fun hc8 => ?_)
      · skip
        refine And.intro (vpI (c := 4) (by decide) (by lia) (by lia)) ?_
        intro W9 hW10
        have hI11 : Inv W9 := by rw [hW10]; exact inv_set hI (i_any _)
        have hF12 : Fr [105, 106, 107] [] M W9 := by rw [hW10]; exact fr_arr fr_rfl (by decide)
        refine And.intro (vpI (c := 4) (by decide) (by lia) (by lia)) ?_
        intro W13 hW14
        have hI15 : Inv W13 := by rw [hW14]; exact inv_set hI11 (show 0 ≤ v3 ∧ v3 ≤ 40 from ⟨by lia, by lia⟩)
        have hF16 : Fr [105, 106, 107] [] M W13 := by rw [hW14]; exact fr_arr hF12 (by decide)
        obtain ⟨n17, hn18⟩ := sl_X11_sheet_40 (Mb := M) hp  (0 : Int32) (by lia) (by lia)
        exact ⟨n17, hn18 _ _ v1 hI15 hF16 (by lia)⟩
      · skip
        exact hp _ _ _ hI fr_rfl trivial
    · skip
      exact hp _ _ _ hI fr_rfl trivial
set_option maxHeartbeats 4000000 in
theorem sf_X11_fault {post : Int32 → MM → Int64 → Prop} {M : MM} {tl : Int64} (hI : Inv M) (hp : ∀ (r : Int32), True → post r M tl) : wpX11_fault post M tl  := by
  unfold wpX11_fault
  exact hp _ trivial
set_option maxHeartbeats 4000000 in
theorem sf_X11_fire {post : Int32 → MM → Int64 → Prop} {M : MM} {tl : Int64} {v1 : Int32} {v2 : Int32} {v3 : Int32} (hI : Inv M) (hp : ∀ (r : Int32), True → post r M tl) : wpX11_fire post M tl v1 v2 v3 := by
  unfold wpX11_fire
  refine sf_X11_isLot hI  (fun r1 hq2 => ?_)
  refine ifs (fun hc3 => ?_) (fun hc4 => ?_)
  · skip
    exact hp _ trivial
  · skip
    refine m_in (v := v3) (lo := 0) (hi := 1) rfl rfl rfl (fun hn5 hn6 => ?_) (fun hn7 => ?_)
    · skip
      refine ifs (fun hc8 => ?_) (fun hc9 => ?_)
      · skip
        exact hp _ trivial
      · skip
        refine sf_X11_kindThere hI (by lia) (by lia) (fun r10 hq11 => ?_)
        refine ifs (fun hc12 => ?_) (fun hc13 => ?_)
        · skip
          exact hp _ trivial
        · skip
          refine sf_X11_matchOf hI  (fun r14 hq15 => ?_)
          refine And.intro (vpI (c := 12) (by decide) (by lia) (by lia)) ?_
          refine And.intro (vpI (c := 12) (by decide) (by lia) (by lia)) ?_
          refine ifs (fun hc16 => ?_) (fun hc17 => ?_)
          · skip
            unfold wX11_fire_108
            refine ifs (fun hc18 => ?_) (fun hc19 => ?_)
            · skip
              refine ifs (fun hc20 => ?_) (fun hc21 => ?_)
              · skip
                unfold wX11_fire_127
                refine sf_X11_flag hI  (fun r22 hq23 => ?_)
                exact hp _ trivial
              · skip
                unfold wX11_fire_127
                refine sf_X11_flag hI  (fun r24 hq25 => ?_)
                exact hp _ trivial
            · skip
              refine ifs (fun hc26 => ?_) (fun hc27 => ?_)
              · skip
                exact hp _ trivial
              · skip
                exact hp _ trivial
          · skip
            refine sf_X11_kindThere hI (by lia) (by lia) (fun r28 hq29 => ?_)
            refine And.intro (vpI (c := 12) (by decide) (by lia) (by lia)) ?_
            unfold wX11_fire_108
            refine ifs (fun hc30 => ?_) (fun hc31 => ?_)
            · skip
              refine ifs (fun hc32 => ?_) (fun hc33 => ?_)
              · skip
                unfold wX11_fire_127
                refine sf_X11_flag hI  (fun r34 hq35 => ?_)
                exact hp _ trivial
              · skip
                unfold wX11_fire_127
                refine sf_X11_flag hI  (fun r36 hq37 => ?_)
                exact hp _ trivial
            · skip
              refine ifs (fun hc38 => ?_) (fun hc39 => ?_)
              · skip
                exact hp _ trivial
              · skip
                exact hp _ trivial
    · skip
      refine ifs (fun hc40 => ?_) (fun hc41 => ?_)
      · skip
        exact hp _ trivial
      · skip
        refine sf_X11_kindThere hI (by lia) (by lia) (fun r42 hq43 => ?_)
        refine ifs (fun hc44 => ?_) (fun hc45 => ?_)
        · skip
          exact hp _ trivial
        · skip
          refine sf_X11_matchOf hI  (fun r46 hq47 => ?_)
          refine And.intro (vpI (c := 12) (by decide) (by lia) (by lia)) ?_
          refine And.intro (vpI (c := 12) (by decide) (by lia) (by lia)) ?_
          refine ifs (fun hc48 => ?_) (fun hc49 => ?_)
          · skip
            unfold wX11_fire_108
            refine ifs (fun hc50 => ?_) (fun hc51 => ?_)
            · skip
              refine ifs (fun hc52 => ?_) (fun hc53 => ?_)
              · skip
                unfold wX11_fire_127
                refine sf_X11_flag hI  (fun r54 hq55 => ?_)
                exact hp _ trivial
              · skip
                unfold wX11_fire_127
                refine sf_X11_flag hI  (fun r56 hq57 => ?_)
                exact hp _ trivial
            · skip
              refine ifs (fun hc58 => ?_) (fun hc59 => ?_)
              · skip
                exact hp _ trivial
              · skip
                exact hp _ trivial
          · skip
            refine sf_X11_kindThere hI (by lia) (by lia) (fun r60 hq61 => ?_)
            refine And.intro (vpI (c := 12) (by decide) (by lia) (by lia)) ?_
            unfold wX11_fire_108
            refine ifs (fun hc62 => ?_) (fun hc63 => ?_)
            · skip
              refine ifs (fun hc64 => ?_) (fun hc65 => ?_)
              · skip
                unfold wX11_fire_127
                refine sf_X11_flag hI  (fun r66 hq67 => ?_)
                exact hp _ trivial
              · skip
                unfold wX11_fire_127
                refine sf_X11_flag hI  (fun r68 hq69 => ?_)
                exact hp _ trivial
            · skip
              refine ifs (fun hc70 => ?_) (fun hc71 => ?_)
              · skip
                exact hp _ trivial
              · skip
                exact hp _ trivial
set_option maxHeartbeats 4000000 in
theorem sf_X11_mirrorOf {post : Int32 → MM → Int64 → Prop} {M : MM} {tl : Int64} {v1 : Int32} (hI : Inv M) (hp1 : ((0 ≤ v1 ∧ v1 ≤ 63) ∧ 0 ≤ v1 - v1 / 8 * 8 ∧ v1 - v1 / 8 * 8 ≤ 5)) (hp : ∀ (r : Int32), ((0 ≤ r ∧ r ≤ 63) ∧ 0 ≤ r - r / 8 * 8 ∧ r - r / 8 * 8 ≤ 5) → post r M tl) : wpX11_mirrorOf post M tl v1 := by
  unfold wpX11_mirrorOf
  have hz := dv v1 (by lia) (by lia)
  have hm1 : (0 : Int32) ≤ (((M 81 11) >>> ((v1 - ((v1 / (8 : Int32)) * (8 : Int32))) &&& (31 : Int32))) &&& (1 : Int32)) ∧ (((M 81 11) >>> ((v1 - ((v1 / (8 : Int32)) * (8 : Int32))) &&& (31 : Int32))) &&& (1 : Int32)) ≤ (1 : Int32) := andc ((M 81 11) >>> ((v1 - ((v1 / (8 : Int32)) * (8 : Int32))) &&& (31 : Int32))) 1 (by decide)
  have hm2 : (0 : Int32) ≤ ((v1 - ((v1 / (8 : Int32)) * (8 : Int32))) &&& (31 : Int32)) ∧ ((v1 - ((v1 / (8 : Int32)) * (8 : Int32))) &&& (31 : Int32)) ≤ (31 : Int32) := andc (v1 - ((v1 / (8 : Int32)) * (8 : Int32))) 31 (by decide)
  refine ifs (fun hc3 => ?_) (fun hc4 => ?_)
  · skip
    unfold wX11_mirrorOf_29
    refine ifs (fun hc5 => ?_) (fun hc6 => ?_)
    · skip
      exact hp _ (by first | lia | exact th_mk (by lia) (by lia) (by lia) (by lia) (by lia) (by lia))
    · skip
      refine And.intro (vpI (c := 6) (by decide) (by lia) (by lia)) ?_
      refine And.intro (vpI (c := 4) (by decide) (by lia) (by lia)) ?_
      have hr7 := iv_88 hI ((v1 - ((v1 / (8 : Int32)) * (8 : Int32)))).toNatClampNeg
      have hr8 := iv_89 hI (((v1 / (8 : Int32)) - (((v1 / (8 : Int32)) / (4 : Int32)) * (4 : Int32)))).toNatClampNeg
      exact hp _ (by first | lia | exact th_mk (by lia) (by lia) (by lia) (by lia) (by lia) (by lia))
  · skip
    unfold wX11_mirrorOf_29
    refine ifs (fun hc9 => ?_) (fun hc10 => ?_)
    · skip
      exact hp _ (by first | lia | exact th_mk (by lia) (by lia) (by lia) (by lia) (by lia) (by lia))
    · skip
      refine And.intro (vpI (c := 6) (by decide) (by lia) (by lia)) ?_
      refine And.intro (vpI (c := 4) (by decide) (by lia) (by lia)) ?_
      have hr11 := iv_88 hI ((v1 - ((v1 / (8 : Int32)) * (8 : Int32)))).toNatClampNeg
      have hr12 := iv_89 hI (((v1 / (8 : Int32)) - (((v1 / (8 : Int32)) / (4 : Int32)) * (4 : Int32)))).toNatClampNeg
      exact hp _ (by first | lia | exact th_mk (by lia) (by lia) (by lia) (by lia) (by lia) (by lia))
set_option maxHeartbeats 4000000 in
theorem sl_X11_quarrelOf_4 {post : Int32 → MM → Int64 → Prop} {M : MM} {tl : Int64} (hp : ∀ (r : Int32), True → post r M tl) (hI : Inv M) : ∀ v3 : Int32, 0 ≤ v3 → v3 ≤ 8 → ∃ n, ∀ (v1 : Int32) (v2 : Int32), (True) → wX11_quarrelOf_4 post n M tl v1 v2 v3 := by
  refine up_ex (P := fun d v3 => ∀ (v1 : Int32) (v2 : Int32), (True) → wX11_quarrelOf_4 post d M tl v1 v2 v3) 0 8 ?_
  intro d v3 hlo hhi rec v1 v2 hli
  unfold wX11_quarrelOf_4
  have hr1 := iv_81_2 hI
  refine ifs (fun hc2 => ?_) (fun hc3 => ?_)
  · skip
    exact hp _ trivial
  · skip
    refine sf_X11_matchBy hI  (fun r4 hq5 => ?_)
    refine ifs (fun hc6 => ?_) (fun hc7 => ?_)
    · skip
      refine And.intro (vpI (c := 381) (by decide) (by lia) (by lia)) ?_
      have hr8 := r82_th hI v3 (by lia) (by lia)
      unfold Th at hr8
      refine ifs (fun hc9 => ?_) (fun hc10 => ?_)
      · skip
        unfold wX11_quarrelOf_43
        refine sf_X11_flag hI  (fun r11 hq12 => ?_)
        unfold wX11_quarrelOf_80
        refine sf_X11_matchBy hI  (fun r13 hq14 => ?_)
        refine ifs (fun hc15 => ?_) (fun hc16 => ?_)
        · skip
          refine And.intro (vpI (c := 381) (by decide) (by lia) (by lia)) ?_
          have hr17 := r82_th hI ((8 : Int32) + v3) (by lia) (by lia)
          unfold Th at hr17
          refine ifs (fun hc18 => ?_) (fun hc19 => ?_)
          · skip
            unfold wX11_quarrelOf_112
            refine sf_X11_flag hI  (fun r20 hq21 => ?_)
            unfold wX11_quarrelOf_119
            exact rec (by lia) v1 ((v2 + r11) + r20) trivial
          · skip
            unfold wX11_quarrelOf_112
            refine sf_X11_flag hI  (fun r22 hq23 => ?_)
            unfold wX11_quarrelOf_119
            exact rec (by lia) v1 ((v2 + r11) + r22) trivial
        · skip
          unfold wX11_quarrelOf_119
          exact rec (by lia) v1 ((v2 + r11) + (0 : Int32)) trivial
      · skip
        unfold wX11_quarrelOf_43
        refine sf_X11_flag hI  (fun r24 hq25 => ?_)
        unfold wX11_quarrelOf_80
        refine sf_X11_matchBy hI  (fun r26 hq27 => ?_)
        refine ifs (fun hc28 => ?_) (fun hc29 => ?_)
        · skip
          refine And.intro (vpI (c := 381) (by decide) (by lia) (by lia)) ?_
          have hr30 := r82_th hI ((8 : Int32) + v3) (by lia) (by lia)
          unfold Th at hr30
          refine ifs (fun hc31 => ?_) (fun hc32 => ?_)
          · skip
            unfold wX11_quarrelOf_112
            refine sf_X11_flag hI  (fun r33 hq34 => ?_)
            unfold wX11_quarrelOf_119
            exact rec (by lia) v1 ((v2 + r24) + r33) trivial
          · skip
            unfold wX11_quarrelOf_112
            refine sf_X11_flag hI  (fun r35 hq36 => ?_)
            unfold wX11_quarrelOf_119
            exact rec (by lia) v1 ((v2 + r24) + r35) trivial
        · skip
          unfold wX11_quarrelOf_119
          exact rec (by lia) v1 ((v2 + r24) + (0 : Int32)) trivial
    · skip
      refine And.intro (vpI (c := 381) (by decide) (by lia) (by lia)) ?_
      refine And.intro (vpI (c := 381) (by decide) (by lia) (by lia)) ?_
      have hr37 := r82_th hI v3 (by lia) (by lia)
      unfold Th at hr37
      refine sf_X11_mirrorOf hI (by lia) (fun r38 hq39 => ?_)
      have hr40 := r82_th hI ((8 : Int32) + r4) (by lia) (by lia)
      unfold Th at hr40
      refine ifs (fun hc41 => ?_) (fun hc42 => ?_)
      · skip
        unfold wX11_quarrelOf_77
        refine sf_X11_flag hI  (fun r43 hq44 => ?_)
        unfold wX11_quarrelOf_80
        refine sf_X11_matchBy hI  (fun r45 hq46 => ?_)
        refine ifs (fun hc47 => ?_) (fun hc48 => ?_)
        · skip
          refine And.intro (vpI (c := 381) (by decide) (by lia) (by lia)) ?_
          have hr49 := r82_th hI ((8 : Int32) + v3) (by lia) (by lia)
          unfold Th at hr49
          refine ifs (fun hc50 => ?_) (fun hc51 => ?_)
          · skip
            unfold wX11_quarrelOf_112
            refine sf_X11_flag hI  (fun r52 hq53 => ?_)
            unfold wX11_quarrelOf_119
            exact rec (by lia) v1 ((v2 + r43) + r52) trivial
          · skip
            unfold wX11_quarrelOf_112
            refine sf_X11_flag hI  (fun r54 hq55 => ?_)
            unfold wX11_quarrelOf_119
            exact rec (by lia) v1 ((v2 + r43) + r54) trivial
        · skip
          unfold wX11_quarrelOf_119
          exact rec (by lia) v1 ((v2 + r43) + (0 : Int32)) trivial
      · skip
        unfold wX11_quarrelOf_77
        refine sf_X11_flag hI  (fun r56 hq57 => ?_)
        unfold wX11_quarrelOf_80
        refine sf_X11_matchBy hI  (fun r58 hq59 => ?_)
        refine ifs (fun hc60 => ?_) (fun hc61 => ?_)
        · skip
          refine And.intro (vpI (c := 381) (by decide) (by lia) (by lia)) ?_
          have hr62 := r82_th hI ((8 : Int32) + v3) (by lia) (by lia)
          unfold Th at hr62
          refine ifs (fun hc63 => ?_) (fun hc64 => ?_)
          · skip
            unfold wX11_quarrelOf_112
            refine sf_X11_flag hI  (fun r65 hq66 => ?_)
            unfold wX11_quarrelOf_119
            exact rec (by lia) v1 ((v2 + r56) + r65) trivial
          · skip
            unfold wX11_quarrelOf_112
            refine sf_X11_flag hI  (fun r67 hq68 => ?_)
            unfold wX11_quarrelOf_119
            exact rec (by lia) v1 ((v2 + r56) + r67) trivial
        · skip
          unfold wX11_quarrelOf_119
          exact rec (by lia) v1 ((v2 + r56) + (0 : Int32)) trivial
set_option maxHeartbeats 4000000 in
theorem sf_X11_quarrelOf {post : Int32 → MM → Int64 → Prop} {M : MM} {tl : Int64} {v1 : Int32} (hI : Inv M) (hp : ∀ (r : Int32), True → post r M tl) : wpX11_quarrelOf post M tl v1 := by
  unfold wpX11_quarrelOf
  obtain ⟨n1, hn2⟩ := sl_X11_quarrelOf_4 (M := M) (tl := tl) hp  hI (0 : Int32) (by lia) (by lia)
  exact ⟨n1, hn2 v1 (0 : Int32) trivial⟩
set_option maxHeartbeats 4000000 in
theorem sf_X11_quarrel {post : Int32 → MM → Int64 → Prop} {M : MM} {tl : Int64} {v1 : Int32} (hI : Inv M) (hp : ∀ (r : Int32), True → post r M tl) : wpX11_quarrel post M tl v1 := by
  unfold wpX11_quarrel
  refine m_in (v := v1) (lo := 0) (hi := 6) rfl rfl rfl (fun hn1 hn2 => ?_) (fun hn3 => ?_)
  · skip
    refine ifs (fun hc4 => ?_) (fun hc5 => ?_)
    · skip
      exact hp _ trivial
    · skip
      refine sf_X11_quarrelOf hI  (fun r6 hq7 => ?_)
      exact hp _ trivial
  · skip
    refine ifs (fun hc8 => ?_) (fun hc9 => ?_)
    · skip
      exact hp _ trivial
    · skip
      refine sf_X11_quarrelOf hI  (fun r10 hq11 => ?_)
      exact hp _ trivial
set_option maxHeartbeats 4000000 in
theorem sl_X11_bend_4 {post : Int32 → MM → Int64 → Prop} {M : MM} {tl : Int64} (hp : ∀ (r : Int32), True → post r M tl) (hI : Inv M) : ∀ v2 : Int32, 0 ≤ v2 → v2 ≤ 7 → ∃ n, ∀ (v1 : Int32), (True) → wX11_bend_4 post n M tl v1 v2 := by
  refine up_ex (P := fun d v2 => ∀ (v1 : Int32), (True) → wX11_bend_4 post d M tl v1 v2) 0 7 ?_
  intro d v2 hlo hhi rec v1 hli
  unfold wX11_bend_4
  refine ifs (fun hc1 => ?_) (fun hc2 => ?_)
  · skip
    exact hp _ trivial
  · skip
    refine sf_X11_quarrelOf hI  (fun r3 hq4 => ?_)
    refine sf_X11_quarrelOf hI  (fun r5 hq6 => ?_)
    refine ifs (fun hc7 => ?_) (fun hc8 => ?_)
    · skip
      unfold wX11_bend_28
      exact rec (by lia) v1 trivial
    · skip
      unfold wX11_bend_28
      exact rec (by lia) v2 trivial
set_option maxHeartbeats 4000000 in
theorem sf_X11_bend {post : Int32 → MM → Int64 → Prop} {M : MM} {tl : Int64} (hI : Inv M) (hp : ∀ (r : Int32), True → post r M tl) : wpX11_bend post M tl  := by
  unfold wpX11_bend
  obtain ⟨n1, hn2⟩ := sl_X11_bend_4 (M := M) (tl := tl) hp  hI (1 : Int32) (by lia) (by lia)
  exact ⟨n1, hn2 (0 : Int32) trivial⟩
set_option maxHeartbeats 4000000 in
theorem sf_X11_isShop {post : Int32 → MM → Int64 → Prop} {M : MM} {tl : Int64} {v1 : Int32} {v2 : Int32} (hI : Inv M) (hp1 : 0 ≤ v1 ∧ v1 < 2) (hp : ∀ (r : Int32), (r = 0 ∨ r = 1) → post r M tl) : wpX11_isShop post M tl v1 v2 := by
  unfold wpX11_isShop
  have hr1 := iv_81_2 hI
  refine m_in (v := v2) (lo := 0) (hi := ((M 81 2) - (1 : Int32))) rfl rfl rfl (fun hn2 hn3 => ?_) (fun hn4 => ?_)
  · skip
    refine ifs (fun hc5 => ?_) (fun hc6 => ?_)
    · skip
      exact hp _ (by lia)
    · skip
      refine sf_X11_kindThere hI (by lia) (by lia) (fun r7 hq8 => ?_)
      refine ifs (fun hc9 => ?_) (fun hc10 => ?_)
      · skip
        exact hp _ (by lia)
      · skip
        exact hp _ (by lia)
  · skip
    refine ifs (fun hc11 => ?_) (fun hc12 => ?_)
    · skip
      exact hp _ (by lia)
    · skip
      refine sf_X11_kindThere hI (by lia) (by lia) (fun r13 hq14 => ?_)
      refine ifs (fun hc15 => ?_) (fun hc16 => ?_)
      · skip
        exact hp _ (by lia)
      · skip
        exact hp _ (by lia)
set_option maxHeartbeats 4000000 in
theorem sl_X11_shops_30 {post : Int32 → MM → Int64 → Prop} {M : MM} {tl : Int64} (hp : ∀ (r : Int32), True → post r M tl) (hI : Inv M) : ∀ v6 : Int32, 0 ≤ v6 → v6 ≤ 8 → ∃ n, ∀ (v1 : Int32) (v2 : Int32) (v3 : Int32) (v4 : Int32) (v5 : Int32), (0 ≤ v1 ∧ v1 < 2) → wX11_shops_30 post n M tl v1 v2 v3 v4 v5 v6 := by
  refine up_ex (P := fun d v6 => ∀ (v1 : Int32) (v2 : Int32) (v3 : Int32) (v4 : Int32) (v5 : Int32), (0 ≤ v1 ∧ v1 < 2) → wX11_shops_30 post d M tl v1 v2 v3 v4 v5 v6) 0 8 ?_
  intro d v6 hlo hhi rec v1 v2 v3 v4 v5 hli
  unfold wX11_shops_30
  have hr1 := iv_81_2 hI
  refine ifs (fun hc2 => ?_) (fun hc3 => ?_)
  · skip
    refine ifs (fun hc4 => ?_) (fun hc5 => ?_)
    · skip
      exact hp _ trivial
    · skip
      exact hp _ trivial
  · skip
    refine sf_X11_isShop hI (by lia) (fun r6 hq7 => ?_)
    refine ifs (fun hc8 => ?_) (fun hc9 => ?_)
    · skip
      unfold wX11_shops_78
      unfold wX11_shops_79
      refine sf_X11_flag hI  (fun r10 hq11 => ?_)
      refine sf_X11_isShop hI (by lia) (fun r12 hq13 => ?_)
      refine ifs (fun hc14 => ?_) (fun hc15 => ?_)
      · skip
        have hm16 : (0 : Int32) ≤ (v6 &&& (31 : Int32)) ∧ (v6 &&& (31 : Int32)) ≤ (31 : Int32) := andc v6 31 (by decide)
        unfold wX11_shops_105
        refine ifs (fun hc17 => ?_) (fun hc18 => ?_)
        · skip
          unfold wX11_shops_125
          unfold wX11_shops_126
          exact rec (by lia) v1 v2 (v3 ||| (r10 <<< (v6 &&& (31 : Int32)))) (v4 + (0 : Int32)) (0 : Int32) (by lia)
        · skip
          refine ifs (fun hc19 => ?_) (fun hc20 => ?_)
          · skip
            unfold wX11_shops_126
            exact rec (by lia) v1 v2 (v3 ||| (r10 <<< (v6 &&& (31 : Int32)))) (v4 + (1 : Int32)) (0 : Int32) (by lia)
          · skip
            unfold wX11_shops_125
            unfold wX11_shops_126
            exact rec (by lia) v1 v2 (v3 ||| (r10 <<< (v6 &&& (31 : Int32)))) (v4 + (0 : Int32)) (0 : Int32) (by lia)
      · skip
        have hm21 : (0 : Int32) ≤ (v6 &&& (31 : Int32)) ∧ (v6 &&& (31 : Int32)) ≤ (31 : Int32) := andc v6 31 (by decide)
        unfold wX11_shops_105
        refine ifs (fun hc22 => ?_) (fun hc23 => ?_)
        · skip
          unfold wX11_shops_125
          unfold wX11_shops_126
          exact rec (by lia) v1 v2 (v3 ||| (r10 <<< (v6 &&& (31 : Int32)))) (v4 + (0 : Int32)) (v5 + (1 : Int32)) (by lia)
        · skip
          refine ifs (fun hc24 => ?_) (fun hc25 => ?_)
          · skip
            unfold wX11_shops_126
            exact rec (by lia) v1 v2 (v3 ||| (r10 <<< (v6 &&& (31 : Int32)))) (v4 + (1 : Int32)) (v5 + (1 : Int32)) (by lia)
          · skip
            unfold wX11_shops_125
            unfold wX11_shops_126
            exact rec (by lia) v1 v2 (v3 ||| (r10 <<< (v6 &&& (31 : Int32)))) (v4 + (0 : Int32)) (v5 + (1 : Int32)) (by lia)
    · skip
      refine sf_X11_isShop hI (by lia) (fun r26 hq27 => ?_)
      refine ifs (fun hc28 => ?_) (fun hc29 => ?_)
      · skip
        refine sf_X11_isShop hI (by lia) (fun r30 hq31 => ?_)
        refine ifs (fun hc32 => ?_) (fun hc33 => ?_)
        · skip
          unfold wX11_shops_78
          unfold wX11_shops_79
          refine sf_X11_flag hI  (fun r34 hq35 => ?_)
          refine sf_X11_isShop hI (by lia) (fun r36 hq37 => ?_)
          refine ifs (fun hc38 => ?_) (fun hc39 => ?_)
          · skip
            have hm40 : (0 : Int32) ≤ (v6 &&& (31 : Int32)) ∧ (v6 &&& (31 : Int32)) ≤ (31 : Int32) := andc v6 31 (by decide)
            unfold wX11_shops_105
            refine ifs (fun hc41 => ?_) (fun hc42 => ?_)
            · skip
              unfold wX11_shops_125
              unfold wX11_shops_126
              exact rec (by lia) v1 v2 (v3 ||| (r34 <<< (v6 &&& (31 : Int32)))) (v4 + (0 : Int32)) (0 : Int32) (by lia)
            · skip
              refine ifs (fun hc43 => ?_) (fun hc44 => ?_)
              · skip
                unfold wX11_shops_126
                exact rec (by lia) v1 v2 (v3 ||| (r34 <<< (v6 &&& (31 : Int32)))) (v4 + (1 : Int32)) (0 : Int32) (by lia)
              · skip
                unfold wX11_shops_125
                unfold wX11_shops_126
                exact rec (by lia) v1 v2 (v3 ||| (r34 <<< (v6 &&& (31 : Int32)))) (v4 + (0 : Int32)) (0 : Int32) (by lia)
          · skip
            have hm45 : (0 : Int32) ≤ (v6 &&& (31 : Int32)) ∧ (v6 &&& (31 : Int32)) ≤ (31 : Int32) := andc v6 31 (by decide)
            unfold wX11_shops_105
            refine ifs (fun hc46 => ?_) (fun hc47 => ?_)
            · skip
              unfold wX11_shops_125
              unfold wX11_shops_126
              exact rec (by lia) v1 v2 (v3 ||| (r34 <<< (v6 &&& (31 : Int32)))) (v4 + (0 : Int32)) (v5 + (1 : Int32)) (by lia)
            · skip
              refine ifs (fun hc48 => ?_) (fun hc49 => ?_)
              · skip
                unfold wX11_shops_126
                exact rec (by lia) v1 v2 (v3 ||| (r34 <<< (v6 &&& (31 : Int32)))) (v4 + (1 : Int32)) (v5 + (1 : Int32)) (by lia)
              · skip
                unfold wX11_shops_125
                unfold wX11_shops_126
                exact rec (by lia) v1 v2 (v3 ||| (r34 <<< (v6 &&& (31 : Int32)))) (v4 + (0 : Int32)) (v5 + (1 : Int32)) (by lia)
        · skip
          unfold wX11_shops_74
          unfold wX11_shops_79
          refine sf_X11_flag hI  (fun r50 hq51 => ?_)
          refine sf_X11_isShop hI (by lia) (fun r52 hq53 => ?_)
          refine ifs (fun hc54 => ?_) (fun hc55 => ?_)
          · skip
            have hm56 : (0 : Int32) ≤ (v6 &&& (31 : Int32)) ∧ (v6 &&& (31 : Int32)) ≤ (31 : Int32) := andc v6 31 (by decide)
            unfold wX11_shops_105
            refine ifs (fun hc57 => ?_) (fun hc58 => ?_)
            · skip
              unfold wX11_shops_125
              unfold wX11_shops_126
              exact rec (by lia) v1 v2 (v3 ||| (r50 <<< (v6 &&& (31 : Int32)))) (v4 + (0 : Int32)) (0 : Int32) (by lia)
            · skip
              refine ifs (fun hc59 => ?_) (fun hc60 => ?_)
              · skip
                unfold wX11_shops_126
                exact rec (by lia) v1 v2 (v3 ||| (r50 <<< (v6 &&& (31 : Int32)))) (v4 + (1 : Int32)) (0 : Int32) (by lia)
              · skip
                unfold wX11_shops_125
                unfold wX11_shops_126
                exact rec (by lia) v1 v2 (v3 ||| (r50 <<< (v6 &&& (31 : Int32)))) (v4 + (0 : Int32)) (0 : Int32) (by lia)
          · skip
            have hm61 : (0 : Int32) ≤ (v6 &&& (31 : Int32)) ∧ (v6 &&& (31 : Int32)) ≤ (31 : Int32) := andc v6 31 (by decide)
            unfold wX11_shops_105
            refine ifs (fun hc62 => ?_) (fun hc63 => ?_)
            · skip
              unfold wX11_shops_125
              unfold wX11_shops_126
              exact rec (by lia) v1 v2 (v3 ||| (r50 <<< (v6 &&& (31 : Int32)))) (v4 + (0 : Int32)) (v5 + (1 : Int32)) (by lia)
            · skip
              refine ifs (fun hc64 => ?_) (fun hc65 => ?_)
              · skip
                unfold wX11_shops_126
                exact rec (by lia) v1 v2 (v3 ||| (r50 <<< (v6 &&& (31 : Int32)))) (v4 + (1 : Int32)) (v5 + (1 : Int32)) (by lia)
              · skip
                unfold wX11_shops_125
                unfold wX11_shops_126
                exact rec (by lia) v1 v2 (v3 ||| (r50 <<< (v6 &&& (31 : Int32)))) (v4 + (0 : Int32)) (v5 + (1 : Int32)) (by lia)
      · skip
        unfold wX11_shops_74
        unfold wX11_shops_79
        refine sf_X11_flag hI  (fun r66 hq67 => ?_)
        refine sf_X11_isShop hI (by lia) (fun r68 hq69 => ?_)
        refine ifs (fun hc70 => ?_) (fun hc71 => ?_)
        · skip
          have hm72 : (0 : Int32) ≤ (v6 &&& (31 : Int32)) ∧ (v6 &&& (31 : Int32)) ≤ (31 : Int32) := andc v6 31 (by decide)
          unfold wX11_shops_105
          refine ifs (fun hc73 => ?_) (fun hc74 => ?_)
          · skip
            unfold wX11_shops_125
            unfold wX11_shops_126
            exact rec (by lia) v1 v2 (v3 ||| (r66 <<< (v6 &&& (31 : Int32)))) (v4 + (0 : Int32)) (0 : Int32) (by lia)
          · skip
            refine ifs (fun hc75 => ?_) (fun hc76 => ?_)
            · skip
              unfold wX11_shops_126
              exact rec (by lia) v1 v2 (v3 ||| (r66 <<< (v6 &&& (31 : Int32)))) (v4 + (1 : Int32)) (0 : Int32) (by lia)
            · skip
              unfold wX11_shops_125
              unfold wX11_shops_126
              exact rec (by lia) v1 v2 (v3 ||| (r66 <<< (v6 &&& (31 : Int32)))) (v4 + (0 : Int32)) (0 : Int32) (by lia)
        · skip
          have hm77 : (0 : Int32) ≤ (v6 &&& (31 : Int32)) ∧ (v6 &&& (31 : Int32)) ≤ (31 : Int32) := andc v6 31 (by decide)
          unfold wX11_shops_105
          refine ifs (fun hc78 => ?_) (fun hc79 => ?_)
          · skip
            unfold wX11_shops_125
            unfold wX11_shops_126
            exact rec (by lia) v1 v2 (v3 ||| (r66 <<< (v6 &&& (31 : Int32)))) (v4 + (0 : Int32)) (v5 + (1 : Int32)) (by lia)
          · skip
            refine ifs (fun hc80 => ?_) (fun hc81 => ?_)
            · skip
              unfold wX11_shops_126
              exact rec (by lia) v1 v2 (v3 ||| (r66 <<< (v6 &&& (31 : Int32)))) (v4 + (1 : Int32)) (v5 + (1 : Int32)) (by lia)
            · skip
              unfold wX11_shops_125
              unfold wX11_shops_126
              exact rec (by lia) v1 v2 (v3 ||| (r66 <<< (v6 &&& (31 : Int32)))) (v4 + (0 : Int32)) (v5 + (1 : Int32)) (by lia)
set_option maxHeartbeats 4000000 in
theorem sf_X11_shops {post : Int32 → MM → Int64 → Prop} {M : MM} {tl : Int64} {v1 : Int32} {v2 : Int32} (hI : Inv M) (hp : ∀ (r : Int32), True → post r M tl) : wpX11_shops post M tl v1 v2 := by
  unfold wpX11_shops
  refine sf_X11_isBank hI  (fun r1 hq2 => ?_)
  refine ifs (fun hc3 => ?_) (fun hc4 => ?_)
  · skip
    exact hp _ trivial
  · skip
    refine m_in (v := v2) (lo := 0) (hi := 1) rfl rfl rfl (fun hn5 hn6 => ?_) (fun hn7 => ?_)
    · skip
      refine ifs (fun hc8 => ?_) (fun hc9 => ?_)
      · skip
        exact hp _ trivial
      · skip
        obtain ⟨n10, hn11⟩ := sl_X11_shops_30 (M := M) (tl := tl) hp  hI (0 : Int32) (by lia) (by lia)
        exact ⟨n10, hn11 v1 v2 (0 : Int32) (0 : Int32) (0 : Int32) (by lia)⟩
    · skip
      refine ifs (fun hc12 => ?_) (fun hc13 => ?_)
      · skip
        exact hp _ trivial
      · skip
        obtain ⟨n14, hn15⟩ := sl_X11_shops_30 (M := M) (tl := tl) hp  hI (0 : Int32) (by lia) (by lia)
        exact ⟨n14, hn15 v1 v2 (0 : Int32) (0 : Int32) (0 : Int32) (by lia)⟩
set_option maxHeartbeats 4000000 in
theorem sf_X11_waits {post : Int32 → MM → Int64 → Prop} {M : MM} {tl : Int64} {v1 : Int32} {v2 : Int32} (hI : Inv M) (hp : ∀ (r : Int32), True → post r M tl) : wpX11_waits post M tl v1 v2 := by
  unfold wpX11_waits
  refine sf_X11_isLot hI  (fun r1 hq2 => ?_)
  refine ifs (fun hc3 => ?_) (fun hc4 => ?_)
  · skip
    exact hp _ trivial
  · skip
    refine sf_X11_matchOf hI  (fun r5 hq6 => ?_)
    refine ifs (fun hc7 => ?_) (fun hc8 => ?_)
    · skip
      exact hp _ trivial
    · skip
      refine sf_X11_beginOf hI (by lia) (by lia) (fun r9 hq10 => ?_)
      refine ifs (fun hc11 => ?_) (fun hc12 => ?_)
      · skip
        exact hp _ trivial
      · skip
        refine And.intro (vpI (c := 6) (by decide) (by lia) (by lia)) ?_
        have hr13 := iv_88 hI (r9).toNatClampNeg
        refine sf_X11_gainOf hI (by lia) (by lia) (by lia) (fun r14 hq15 => ?_)
        exact hp _ trivial
set_option maxHeartbeats 4000000 in
theorem sl_X11_thingMany_4 {post : Int32 → MM → Int64 → Prop} {M : MM} {tl : Int64} (hp : ∀ (r : Int32), True → post r M tl) (hI : Inv M) : ∀ v2 : Int32, 0 ≤ v2 → v2 ≤ 16 → ∃ n, ∀ (v1 : Int32), (True) → wX11_thingMany_4 post n M tl v1 v2 := by
  refine up_ex (P := fun d v2 => ∀ (v1 : Int32), (True) → wX11_thingMany_4 post d M tl v1 v2) 0 16 ?_
  intro d v2 hlo hhi rec v1 hli
  unfold wX11_thingMany_4
  refine ifs (fun hc1 => ?_) (fun hc2 => ?_)
  · skip
    exact hp _ trivial
  · skip
    refine And.intro (vpI (c := 381) (by decide) (by lia) (by lia)) ?_
    have hr3 := r82_th hI v2 (by lia) (by lia)
    unfold Th at hr3
    refine ifs (fun hc4 => ?_) (fun hc5 => ?_)
    · skip
      unfold wX11_thingMany_25
      refine sf_X11_flag hI  (fun r6 hq7 => ?_)
      exact rec (by lia) (v1 + r6) trivial
    · skip
      unfold wX11_thingMany_25
      refine sf_X11_flag hI  (fun r8 hq9 => ?_)
      exact rec (by lia) (v1 + r8) trivial
set_option maxHeartbeats 4000000 in
theorem sf_X11_thingMany {post : Int32 → MM → Int64 → Prop} {M : MM} {tl : Int64} (hI : Inv M) (hp : ∀ (r : Int32), True → post r M tl) : wpX11_thingMany post M tl  := by
  unfold wpX11_thingMany
  obtain ⟨n1, hn2⟩ := sl_X11_thingMany_4 (M := M) (tl := tl) hp  hI (0 : Int32) (by lia) (by lia)
  exact ⟨n1, hn2 (0 : Int32) trivial⟩
set_option maxHeartbeats 4000000 in
theorem sl_X11_count_4 {post : Int32 → MM → Int64 → Prop} {M : MM} {tl : Int64} (hp : ∀ (r : Int32), True → post r M tl) (hI : Inv M) : ∀ v3 : Int32, 0 ≤ v3 → v3 ≤ 8 → ∃ n, ∀ (v1 : Int32) (v2 : Int32), (True) → wX11_count_4 post n M tl v1 v2 v3 := by
  refine up_ex (P := fun d v3 => ∀ (v1 : Int32) (v2 : Int32), (True) → wX11_count_4 post d M tl v1 v2 v3) 0 8 ?_
  intro d v3 hlo hhi rec v1 v2 hli
  unfold wX11_count_4
  have hr1 := iv_81_2 hI
  refine ifs (fun hc2 => ?_) (fun hc3 => ?_)
  · skip
    refine ifs (fun hc4 => ?_) (fun hc5 => ?_)
    · skip
      refine sf_X11_thingMany hI  (fun r6 hq7 => ?_)
      exact hp _ trivial
    · skip
      refine ifs (fun hc8 => ?_) (fun hc9 => ?_)
      · skip
        exact hp _ trivial
      · skip
        refine ifs (fun hc10 => ?_) (fun hc11 => ?_)
        · skip
          refine And.intro (vpI (c := 381) (by decide) (by lia) (by lia)) ?_
          have hr12 := r82_65 hI
          exact hp _ trivial
        · skip
          refine ifs (fun hc13 => ?_) (fun hc14 => ?_)
          · skip
            refine And.intro (vpI (c := 381) (by decide) (by lia) (by lia)) ?_
            have hr15 := r82_78 hI
            exact hp _ trivial
          · skip
            refine ifs (fun hc16 => ?_) (fun hc17 => ?_)
            · skip
              refine And.intro (vpI (c := 2) (by decide) (by lia) (by lia)) ?_
              refine sf_X11_flag hI  (fun r18 hq19 => ?_)
              refine And.intro (vpI (c := 2) (by decide) (by lia) (by lia)) ?_
              refine sf_X11_flag hI  (fun r20 hq21 => ?_)
              exact hp _ trivial
            · skip
              refine ifs (fun hc22 => ?_) (fun hc23 => ?_)
              · skip
                have hr24 := iv_81_31 hI
                exact hp _ trivial
              · skip
                refine ifs (fun hc25 => ?_) (fun hc26 => ?_)
                · skip
                  refine And.intro (vpI (c := 4) (by decide) (by lia) (by lia)) ?_
                  refine ifs (fun hc27 => ?_) (fun hc28 => ?_)
                  · skip
                    exact hp _ trivial
                  · skip
                    refine And.intro (vpI (c := 4) (by decide) (by lia) (by lia)) ?_
                    have hr29 := iv_106 hI ((0 : Int32)).toNatClampNeg
                    exact hp _ trivial
                · skip
                  exact hp _ trivial
  · skip
    refine sf_X11_matchOf hI  (fun r30 hq31 => ?_)
    refine ifs (fun hc32 => ?_) (fun hc33 => ?_)
    · skip
      unfold wX11_count_29
      refine sf_X11_flag hI  (fun r34 hq35 => ?_)
      exact rec (by lia) v1 (v2 + r34) trivial
    · skip
      unfold wX11_count_29
      refine sf_X11_flag hI  (fun r36 hq37 => ?_)
      exact rec (by lia) v1 (v2 + r36) trivial
set_option maxHeartbeats 4000000 in
theorem sf_X11_count {post : Int32 → MM → Int64 → Prop} {M : MM} {tl : Int64} {v1 : Int32} (hI : Inv M) (hp : ∀ (r : Int32), True → post r M tl) : wpX11_count post M tl v1 := by
  unfold wpX11_count
  obtain ⟨n1, hn2⟩ := sl_X11_count_4 (M := M) (tl := tl) hp  hI (0 : Int32) (by lia) (by lia)
  exact ⟨n1, hn2 v1 (0 : Int32) trivial⟩
set_option maxHeartbeats 4000000 in
theorem sf_X11_mirror {post : Int32 → MM → Int64 → Prop} {M : MM} {tl : Int64} {v1 : Int32} (hI : Inv M) (hp : ∀ (r : Int32), True → post r M tl) : wpX11_mirror post M tl v1 := by
  unfold wpX11_mirror
  refine sf_X11_isThing hI  (fun r1 hq2 => ?_)
  refine ifs (fun hc3 => ?_) (fun hc4 => ?_)
  · skip
    exact hp _ trivial
  · skip
    refine sf_X11_mirrorOf hI (by lia) (fun r5 hq6 => ?_)
    exact hp _ trivial
set_option maxHeartbeats 4000000 in
theorem sl_X11_asNow_2 {post : MM → Int64 → Prop} {Mb : MM} (hp : ∀ (M1 : MM) (t1 : Int64), Inv M1 → Fr [98] [] Mb M1 → True → post M1 t1) : ∀ v1 : Int32, 0 ≤ v1 → v1 ≤ 16 → ∃ n, ∀ (M : MM) (tl : Int64), Inv M → Fr [98] [] Mb M → (True) → wX11_asNow_2 post n M tl v1 := by
  refine up_ex (P := fun d v1 => ∀ (M : MM) (tl : Int64), Inv M → Fr [98] [] Mb M → (True) → wX11_asNow_2 post d M tl v1) 0 16 ?_
  intro d v1 hlo hhi rec M tl  hI hF hli
  unfold wX11_asNow_2
  refine ifs (fun hc1 => ?_) (fun hc2 => ?_)
  · skip
    exact hp _ _ hI hF trivial
  · skip
    refine And.intro (vpI (c := 381) (by decide) (by lia) (by lia)) ?_
    refine And.intro (vpI (c := 16) (by decide) (by lia) (by lia)) ?_
    have hr5 := r82_th hI v1 (by lia) (by lia)
    unfold Th at hr5
    intro W3 hW4
    have hI6 : Inv W3 := by rw [hW4]; exact inv_98 hI (by unfold Th; lia)
    have hF7 : Fr [98] [] Mb W3 := by rw [hW4]; exact fr_arr hF (by decide)
    exact rec (by lia) _ _  hI6 hF7 trivial
set_option maxHeartbeats 4000000 in
theorem sf_X11_asNow {post : MM → Int64 → Prop} {M : MM} {tl : Int64} (hI : Inv M) (hp : ∀ (M1 : MM) (t1 : Int64), Inv M1 → Fr [98] [] M M1 → True → post M1 t1) : wpX11_asNow post M tl  := by
  unfold wpX11_asNow
  obtain ⟨n1, hn2⟩ := sl_X11_asNow_2 (Mb := M) hp  (0 : Int32) (by lia) (by lia)
  exact ⟨n1, hn2 _ _  hI fr_rfl trivial⟩
set_option maxHeartbeats 4000000 in
theorem sf_X11_isEven {post : Int32 → MM → Int64 → Prop} {M : MM} {tl : Int64} {v1 : Int32} (hI : Inv M) (hp1 : 0 ≤ v1 ∧ v1 < 8) (hp : ∀ (r : Int32), (r = 0 ∨ r = 1) → post r M tl) : wpX11_isEven post M tl v1 := by
  unfold wpX11_isEven
  refine sf_X11_matchOf hI  (fun r1 hq2 => ?_)
  refine ifs (fun hc3 => ?_) (fun hc4 => ?_)
  · skip
    exact hp _ (by lia)
  · skip
    refine And.intro (vpI (c := 16) (by decide) (by lia) (by lia)) ?_
    refine And.intro (vpI (c := 16) (by decide) (by lia) (by lia)) ?_
    have hr5 := iv_98 hI (v1).toNatClampNeg
    unfold Th at hr5
    refine sf_X11_mirrorOf hI (by lia) (fun r6 hq7 => ?_)
    have hr8 := iv_98 hI (((8 : Int32) + r1)).toNatClampNeg
    unfold Th at hr8
    refine ifs (fun hc9 => ?_) (fun hc10 => ?_)
    · skip
      exact hp _ (by lia)
    · skip
      exact hp _ (by lia)
set_option maxHeartbeats 4000000 in
theorem sl_X11_oddLots_4 {post : Int32 → MM → Int64 → Prop} {M : MM} {tl : Int64} (hp : ∀ (r : Int32), True → post r M tl) (hI : Inv M) : ∀ v2 : Int32, 0 ≤ v2 → v2 ≤ 8 → ∃ n, ∀ (v1 : Int32), (True) → wX11_oddLots_4 post n M tl v1 v2 := by
  refine up_ex (P := fun d v2 => ∀ (v1 : Int32), (True) → wX11_oddLots_4 post d M tl v1 v2) 0 8 ?_
  intro d v2 hlo hhi rec v1 hli
  unfold wX11_oddLots_4
  have hr1 := iv_81_2 hI
  refine ifs (fun hc2 => ?_) (fun hc3 => ?_)
  · skip
    exact hp _ trivial
  · skip
    refine sf_X11_isEven hI (by lia) (fun r4 hq5 => ?_)
    refine ifs (fun hc6 => ?_) (fun hc7 => ?_)
    · skip
      unfold wX11_oddLots_26
      refine sf_X11_flag hI  (fun r8 hq9 => ?_)
      have hm10 : (0 : Int32) ≤ (v2 &&& (31 : Int32)) ∧ (v2 &&& (31 : Int32)) ≤ (31 : Int32) := andc v2 31 (by decide)
      exact rec (by lia) (v1 ||| (r8 <<< (v2 &&& (31 : Int32)))) trivial
    · skip
      unfold wX11_oddLots_26
      refine sf_X11_flag hI  (fun r11 hq12 => ?_)
      have hm13 : (0 : Int32) ≤ (v2 &&& (31 : Int32)) ∧ (v2 &&& (31 : Int32)) ≤ (31 : Int32) := andc v2 31 (by decide)
      exact rec (by lia) (v1 ||| (r11 <<< (v2 &&& (31 : Int32)))) trivial
set_option maxHeartbeats 4000000 in
theorem sf_X11_oddLots {post : Int32 → MM → Int64 → Prop} {M : MM} {tl : Int64} (hI : Inv M) (hp : ∀ (r : Int32), True → post r M tl) : wpX11_oddLots post M tl  := by
  unfold wpX11_oddLots
  obtain ⟨n1, hn2⟩ := sl_X11_oddLots_4 (M := M) (tl := tl) hp  hI (0 : Int32) (by lia) (by lia)
  exact ⟨n1, hn2 (0 : Int32) trivial⟩
set_option maxHeartbeats 4000000 in
theorem sf_X11_odd {post : Int32 → MM → Int64 → Prop} {M : MM} {tl : Int64} (hI : Inv M) (hp : ∀ (r : Int32) (M1 : MM) (t1 : Int64), Inv M1 → Fr [98] [] M M1 → True → post r M1 t1) : wpX11_odd post M tl  := by
  unfold wpX11_odd
  refine sf_X11_asNow hI  (fun M2 t3 hI4 hF5 hq6 => ?_)
  have hF7 : Fr [98] [] M M2 := fr_call fr_rfl hF5 (by decide) (by decide)
  refine sf_X11_oddLots hI4  (fun r8 hq9 => ?_)
  exact hp _ _ _ hI4 hF7 trivial
set_option maxHeartbeats 4000000 in
theorem sf_X11_third {post : Int32 → MM → Int64 → Prop} {M : MM} {tl : Int64} {v1 : Int32} (hI : Inv M) (hp : ∀ (r : Int32), True → post r M tl) : wpX11_third post M tl v1 := by
  unfold wpX11_third
  refine sf_X11_isLot hI  (fun r1 hq2 => ?_)
  refine ifs (fun hc3 => ?_) (fun hc4 => ?_)
  · skip
    exact hp _ trivial
  · skip
    refine sf_X11_matchOf hI  (fun r5 hq6 => ?_)
    refine ifs (fun hc7 => ?_) (fun hc8 => ?_)
    · skip
      exact hp _ trivial
    · skip
      refine And.intro (vpI (c := 381) (by decide) (by lia) (by lia)) ?_
      have hr9 := r82_th hI ((8 : Int32) + r5) (by lia) (by lia)
      unfold Th at hr9
      refine sf_X11_mirrorOf hI (by lia) (fun r10 hq11 => ?_)
      exact hp _ trivial
set_option maxHeartbeats 4000000 in
theorem sl_X11_vex_66 {post : Int32 → MM → Int64 → Prop} {bk45 : MM → Int64 → Int32 → Int32 → Int32 → Int32 → Int32 → Int32 → Int32 → Int32 → Prop} {u45 : Int32} {M : MM} {tl : Int64} (hp : ∀ (r : Int32), True → post r M tl) (hb45 : ∀ (v1 : Int32) (v2 : Int32) (v3 : Int32) (v4 : Int32) (v5 : Int32) (v6 : Int32) (v7 : Int32) (v8 : Int32), v8 = u45 → 0 ≤ v1 ∧ v1 < 2 ∧ v7 = 6 * (1 - v1) → bk45 M tl v1 v2 v3 v4 v5 v6 v7 v8) (hI : Inv M) : ∀ v10 : Int32, 0 ≤ v10 → v10 ≤ 6 → ∃ n, ∀ (v1 : Int32) (v2 : Int32) (v3 : Int32) (v4 : Int32) (v5 : Int32) (v6 : Int32) (v7 : Int32) (v8 : Int32) (v9 : Int32), (0 ≤ v1 ∧ v1 < 2 ∧ v7 = 6 * (1 - v1) ∧ 0 ≤ v8 ∧ v8 < 8 ∧ (v9 = -4 ∨ (0 ≤ v9 ∧ v9 < 8)) ∧ v8 + (1 : Int32) = u45) → wX11_vex_66 post bk45 n M tl v1 v2 v3 v4 v5 v6 v7 v8 v9 v10 := by
  refine up_ex (P := fun d v10 => ∀ (v1 : Int32) (v2 : Int32) (v3 : Int32) (v4 : Int32) (v5 : Int32) (v6 : Int32) (v7 : Int32) (v8 : Int32) (v9 : Int32), (0 ≤ v1 ∧ v1 < 2 ∧ v7 = 6 * (1 - v1) ∧ 0 ≤ v8 ∧ v8 < 8 ∧ (v9 = -4 ∨ (0 ≤ v9 ∧ v9 < 8)) ∧ v8 + (1 : Int32) = u45) → wX11_vex_66 post bk45 d M tl v1 v2 v3 v4 v5 v6 v7 v8 v9 v10) 0 6 ?_
  intro d v10 hlo hhi rec v1 v2 v3 v4 v5 v6 v7 v8 v9 hli
  unfold wX11_vex_66
  refine ifs (fun hc1 => ?_) (fun hc2 => ?_)
  · skip
    unfold wX11_vex_228
    exact hb45 v1 v2 v3 v4 v5 v6 v7 (v8 + (1 : Int32)) (by lia) (by lia)
  · skip
    refine ifs (fun hc3 => ?_) (fun hc4 => ?_)
    · skip
      unfold wX11_vex_228
      exact hb45 v1 v2 v3 v4 v5 v6 v7 (v8 + (1 : Int32)) (by lia) (by lia)
    · skip
      refine And.intro (vpI (c := 6) (by decide) (by lia) (by lia)) ?_
      have hr5 := iv_88 hI (v10).toNatClampNeg
      refine And.intro (vpI (c := 12) (by decide) (by lia) (by lia)) ?_
      refine sf_X11_kindThere hI (by lia) (by lia) (fun r6 hq7 => ?_)
      refine And.intro (vpI (c := 12) (by decide) (by lia) (by lia)) ?_
      refine And.intro (vpI (c := 6) (by decide) (by lia) (by lia)) ?_
      refine And.intro (vpI (c := 12) (by decide) (by lia) (by lia)) ?_
      refine And.intro (vpI (c := 12) (by decide) (by lia) (by lia)) ?_
      refine sf_X11_mayBe hI (by lia) (by lia) (fun r8 hq9 => ?_)
      refine ifs (fun hc10 => ?_) (fun hc11 => ?_)
      · skip
        unfold wX11_vex_173
        unfold wX11_vex_174
        refine ifs (fun hc12 => ?_) (fun hc13 => ?_)
        · skip
          unfold wX11_vex_222
          exact rec (by lia) v1 v2 v3 v4 v5 v6 v7 v8 v9 (by lia)
        · skip
          refine ifs (fun hc14 => ?_) (fun hc15 => ?_)
          · skip
            unfold wX11_vex_207
            unfold wX11_vex_222
            exact rec (by lia) v1 v2 (((M 85 ((v7 + (M 88 (v10).toNatClampNeg))).toNatClampNeg) + (M 86 ((v7 + r6)).toNatClampNeg)) - (M 86 ((v7 + (M 88 (v10).toNatClampNeg))).toNatClampNeg)) (M 85 ((((6 : Int32) * v1) + v10)).toNatClampNeg) v8 v10 v7 v8 v9 (by lia)
          · skip
            refine ifs (fun hc16 => ?_) (fun hc17 => ?_)
            · skip
              unfold wX11_vex_207
              unfold wX11_vex_222
              exact rec (by lia) v1 v2 (((M 85 ((v7 + (M 88 (v10).toNatClampNeg))).toNatClampNeg) + (M 86 ((v7 + r6)).toNatClampNeg)) - (M 86 ((v7 + (M 88 (v10).toNatClampNeg))).toNatClampNeg)) (M 85 ((((6 : Int32) * v1) + v10)).toNatClampNeg) v8 v10 v7 v8 v9 (by lia)
            · skip
              refine ifs (fun hc18 => ?_) (fun hc19 => ?_)
              · skip
                refine ifs (fun hc20 => ?_) (fun hc21 => ?_)
                · skip
                  unfold wX11_vex_222
                  exact rec (by lia) v1 v2 v3 v4 v5 v6 v7 v8 v9 (by lia)
                · skip
                  unfold wX11_vex_207
                  unfold wX11_vex_222
                  exact rec (by lia) v1 v2 (((M 85 ((v7 + (M 88 (v10).toNatClampNeg))).toNatClampNeg) + (M 86 ((v7 + r6)).toNatClampNeg)) - (M 86 ((v7 + (M 88 (v10).toNatClampNeg))).toNatClampNeg)) (M 85 ((((6 : Int32) * v1) + v10)).toNatClampNeg) v8 v10 v7 v8 v9 (by lia)
              · skip
                unfold wX11_vex_222
                exact rec (by lia) v1 v2 v3 v4 v5 v6 v7 v8 v9 (by lia)
      · skip
        refine sf_X11_kindThere hI (by lia) (by lia) (fun r22 hq23 => ?_)
        refine ifs (fun hc24 => ?_) (fun hc25 => ?_)
        · skip
          unfold wX11_vex_173
          unfold wX11_vex_174
          refine ifs (fun hc26 => ?_) (fun hc27 => ?_)
          · skip
            unfold wX11_vex_222
            exact rec (by lia) v1 v2 v3 v4 v5 v6 v7 v8 v9 (by lia)
          · skip
            refine ifs (fun hc28 => ?_) (fun hc29 => ?_)
            · skip
              unfold wX11_vex_207
              unfold wX11_vex_222
              exact rec (by lia) v1 v2 (((M 85 ((v7 + (M 88 (v10).toNatClampNeg))).toNatClampNeg) + (M 86 ((v7 + r6)).toNatClampNeg)) - (M 86 ((v7 + (M 88 (v10).toNatClampNeg))).toNatClampNeg)) (M 85 ((((6 : Int32) * v1) + v10)).toNatClampNeg) v8 v10 v7 v8 v9 (by lia)
            · skip
              refine ifs (fun hc30 => ?_) (fun hc31 => ?_)
              · skip
                unfold wX11_vex_207
                unfold wX11_vex_222
                exact rec (by lia) v1 v2 (((M 85 ((v7 + (M 88 (v10).toNatClampNeg))).toNatClampNeg) + (M 86 ((v7 + r6)).toNatClampNeg)) - (M 86 ((v7 + (M 88 (v10).toNatClampNeg))).toNatClampNeg)) (M 85 ((((6 : Int32) * v1) + v10)).toNatClampNeg) v8 v10 v7 v8 v9 (by lia)
              · skip
                refine ifs (fun hc32 => ?_) (fun hc33 => ?_)
                · skip
                  refine ifs (fun hc34 => ?_) (fun hc35 => ?_)
                  · skip
                    unfold wX11_vex_222
                    exact rec (by lia) v1 v2 v3 v4 v5 v6 v7 v8 v9 (by lia)
                  · skip
                    unfold wX11_vex_207
                    unfold wX11_vex_222
                    exact rec (by lia) v1 v2 (((M 85 ((v7 + (M 88 (v10).toNatClampNeg))).toNatClampNeg) + (M 86 ((v7 + r6)).toNatClampNeg)) - (M 86 ((v7 + (M 88 (v10).toNatClampNeg))).toNatClampNeg)) (M 85 ((((6 : Int32) * v1) + v10)).toNatClampNeg) v8 v10 v7 v8 v9 (by lia)
                · skip
                  unfold wX11_vex_222
                  exact rec (by lia) v1 v2 v3 v4 v5 v6 v7 v8 v9 (by lia)
        · skip
          unfold wX11_vex_174
          refine ifs (fun hc36 => ?_) (fun hc37 => ?_)
          · skip
            unfold wX11_vex_222
            exact rec (by lia) v1 v2 v3 v4 v5 v6 v7 v8 v9 (by lia)
          · skip
            refine ifs (fun hc38 => ?_) (fun hc39 => ?_)
            · skip
              unfold wX11_vex_207
              unfold wX11_vex_222
              exact rec (by lia) v1 v2 (((M 85 ((v7 + (M 88 (v10).toNatClampNeg))).toNatClampNeg) + (M 86 ((v7 + r6)).toNatClampNeg)) - (M 86 ((v7 + (M 88 (v10).toNatClampNeg))).toNatClampNeg)) (M 85 ((((6 : Int32) * v1) + v10)).toNatClampNeg) v8 v10 v7 v8 v9 (by lia)
            · skip
              refine ifs (fun hc40 => ?_) (fun hc41 => ?_)
              · skip
                unfold wX11_vex_207
                unfold wX11_vex_222
                exact rec (by lia) v1 v2 (((M 85 ((v7 + (M 88 (v10).toNatClampNeg))).toNatClampNeg) + (M 86 ((v7 + r6)).toNatClampNeg)) - (M 86 ((v7 + (M 88 (v10).toNatClampNeg))).toNatClampNeg)) (M 85 ((((6 : Int32) * v1) + v10)).toNatClampNeg) v8 v10 v7 v8 v9 (by lia)
              · skip
                refine ifs (fun hc42 => ?_) (fun hc43 => ?_)
                · skip
                  refine ifs (fun hc44 => ?_) (fun hc45 => ?_)
                  · skip
                    unfold wX11_vex_222
                    exact rec (by lia) v1 v2 v3 v4 v5 v6 v7 v8 v9 (by lia)
                  · skip
                    unfold wX11_vex_207
                    unfold wX11_vex_222
                    exact rec (by lia) v1 v2 (((M 85 ((v7 + (M 88 (v10).toNatClampNeg))).toNatClampNeg) + (M 86 ((v7 + r6)).toNatClampNeg)) - (M 86 ((v7 + (M 88 (v10).toNatClampNeg))).toNatClampNeg)) (M 85 ((((6 : Int32) * v1) + v10)).toNatClampNeg) v8 v10 v7 v8 v9 (by lia)
                · skip
                  unfold wX11_vex_222
                  exact rec (by lia) v1 v2 v3 v4 v5 v6 v7 v8 v9 (by lia)
set_option maxHeartbeats 4000000 in
theorem sl_X11_vex_45 {post : Int32 → MM → Int64 → Prop} {M : MM} {tl : Int64} (hp : ∀ (r : Int32), True → post r M tl) (hI : Inv M) : ∀ v8 : Int32, 0 ≤ v8 → v8 ≤ 8 → ∃ n, ∀ (v1 : Int32) (v2 : Int32) (v3 : Int32) (v4 : Int32) (v5 : Int32) (v6 : Int32) (v7 : Int32), (0 ≤ v1 ∧ v1 < 2 ∧ v7 = 6 * (1 - v1)) → wX11_vex_45 post n M tl v1 v2 v3 v4 v5 v6 v7 v8 := by
  refine up_ex (P := fun d v8 => ∀ (v1 : Int32) (v2 : Int32) (v3 : Int32) (v4 : Int32) (v5 : Int32) (v6 : Int32) (v7 : Int32), (0 ≤ v1 ∧ v1 < 2 ∧ v7 = 6 * (1 - v1)) → wX11_vex_45 post d M tl v1 v2 v3 v4 v5 v6 v7 v8) 0 8 ?_
  intro d v8 hlo hhi rec v1 v2 v3 v4 v5 v6 v7 hli
  unfold wX11_vex_45
  have hr1 := iv_81_2 hI
  refine ifs (fun hc2 => ?_) (fun hc3 => ?_)
  · skip
    refine ifs (fun hc4 => ?_) (fun hc5 => ?_)
    · skip
      exact hp _ trivial
    · skip
      refine ifs (fun hc6 => ?_) (fun hc7 => ?_)
      · skip
        exact hp _ trivial
      · skip
        refine ifs (fun hc8 => ?_) (fun hc9 => ?_)
        · skip
          exact hp _ trivial
        · skip
          exact hp _ trivial
  · skip
    refine sf_X11_matchOf hI  (fun r10 hq11 => ?_)
    obtain ⟨n12, hn13⟩ := sl_X11_vex_66 (M := M) (tl := tl) (u45 := v8 + (1 : Int32)) hp (fun v1 v2 v3 v4 v5 v6 v7 v8 hu hl => by subst hu; exact rec (by lia) v1 v2 v3 v4 v5 v6 v7 hl) hI (1 : Int32) (by lia) (by lia)
    exact ⟨n12, hn13 v1 v2 v3 v4 v5 v6 v7 v8 r10 (by lia)⟩
set_option maxHeartbeats 4000000 in
theorem sf_X11_vex {post : Int32 → MM → Int64 → Prop} {M : MM} {tl : Int64} {v1 : Int32} {v2 : Int32} (hI : Inv M) (hp : ∀ (r : Int32), True → post r M tl) : wpX11_vex post M tl v1 v2 := by
  unfold wpX11_vex
  refine sf_X11_isBank hI  (fun r1 hq2 => ?_)
  refine ifs (fun hc3 => ?_) (fun hc4 => ?_)
  · skip
    exact hp _ trivial
  · skip
    refine m_in (v := v2) (lo := 0) (hi := 2) rfl rfl rfl (fun hn5 hn6 => ?_) (fun hn7 => ?_)
    · skip
      refine ifs (fun hc8 => ?_) (fun hc9 => ?_)
      · skip
        exact hp _ trivial
      · skip
        obtain ⟨n10, hn11⟩ := sl_X11_vex_45 (M := M) (tl := tl) hp  hI (0 : Int32) (by lia) (by lia)
        exact ⟨n10, hn11 v1 v2 (0 : Int32) (0 : Int32) (-4 : Int32) (-4 : Int32) ((6 : Int32) * ((1 : Int32) - v1)) (by lia)⟩
    · skip
      refine ifs (fun hc12 => ?_) (fun hc13 => ?_)
      · skip
        exact hp _ trivial
      · skip
        obtain ⟨n14, hn15⟩ := sl_X11_vex_45 (M := M) (tl := tl) hp  hI (0 : Int32) (by lia) (by lia)
        exact ⟨n14, hn15 v1 v2 (0 : Int32) (0 : Int32) (-4 : Int32) (-4 : Int32) ((6 : Int32) * ((1 : Int32) - v1)) (by lia)⟩
set_option maxHeartbeats 4000000 in
theorem sl_X11_bitsOf_4 {post : Int32 → MM → Int64 → Prop} {M : MM} {tl : Int64} (hp : ∀ (r : Int32), (0 ≤ r ∧ r ≤ 12) → post r M tl) (hI : Inv M) : ∀ v2 : Int32, 0 ≤ v2 → v2 ≤ 12 → ∃ n, ∀ (v0 : Int32) (v1 : Int32), (True) → wX11_bitsOf_4 post n M tl v0 v1 v2 := by
  refine up_ex (P := fun d v2 => ∀ (v0 : Int32) (v1 : Int32), (True) → wX11_bitsOf_4 post d M tl v0 v1 v2) 0 12 ?_
  intro d v2 hlo hhi rec v0 v1 hli
  unfold wX11_bitsOf_4
  refine ifs (fun hc1 => ?_) (fun hc2 => ?_)
  · skip
    exact hp _ (by lia)
  · skip
    have hm3 : (0 : Int32) ≤ ((v0 >>> (v2 &&& (31 : Int32))) &&& (1 : Int32)) ∧ ((v0 >>> (v2 &&& (31 : Int32))) &&& (1 : Int32)) ≤ (1 : Int32) := andc (v0 >>> (v2 &&& (31 : Int32))) 1 (by decide)
    have hm4 : (0 : Int32) ≤ (v2 &&& (31 : Int32)) ∧ (v2 &&& (31 : Int32)) ≤ (31 : Int32) := andc v2 31 (by decide)
    exact rec (by lia) v0 (v1 + ((v0 >>> (v2 &&& (31 : Int32))) &&& (1 : Int32))) trivial
set_option maxHeartbeats 4000000 in
theorem sf_X11_bitsOf {post : Int32 → MM → Int64 → Prop} {M : MM} {tl : Int64} {v0 : Int32} (hI : Inv M) (hp : ∀ (r : Int32), (0 ≤ r ∧ r ≤ 12) → post r M tl) : wpX11_bitsOf post M tl v0 := by
  unfold wpX11_bitsOf
  obtain ⟨n1, hn2⟩ := sl_X11_bitsOf_4 (M := M) (tl := tl) hp  hI (0 : Int32) (by lia) (by lia)
  exact ⟨n1, hn2 v0 (0 : Int32) trivial⟩
set_option maxHeartbeats 4000000 in
theorem sf_X11_wantCost {post : Int32 → MM → Int64 → Prop} {M : MM} {tl : Int64} {v1 : Int32} {v2 : Int32} (hI : Inv M) (hp1 : 0 ≤ v1 ∧ v1 < 6) (hp2 : 0 ≤ v2 ∧ v2 < 100) (hp : ∀ (r : Int32), True → post r M tl) : wpX11_wantCost post M tl v1 v2 := by
  unfold wpX11_wantCost
  refine And.intro (vpI (c := 381) (by decide) (by lia) (by lia)) ?_
  refine And.intro (vpI (c := 4) (by decide) (by lia) (by lia)) ?_
  have hr1 := r82_66_1 hI v1 (by lia) (by lia)
  refine And.intro (vpI (c := 12) (by decide) (by lia) (by lia)) ?_
  refine And.intro (vpI (c := 6) (by decide) (by lia) (by lia)) ?_
  have hr2 := iv_88 hI ((M 82 ((((66 : Int32) + ((2 : Int32) * v1)) + (1 : Int32))).toNatClampNeg)).toNatClampNeg
  refine And.intro (vpI (c := 12) (by decide) (by lia) (by lia)) ?_
  exact hp _ trivial
set_option maxHeartbeats 4000000 in
theorem sl_X11_findRests_40 {post : MM → Int64 → Prop} {bk4 : MM → Int64 → Int32 → Int32 → Prop} {u4 : Int32} {Mb : MM} (hp : ∀ (M1 : MM) (t1 : Int64), Inv M1 → Fr [104] [] Mb M1 → True → post M1 t1) (hb4 : ∀ (M1 : MM) (t1 : Int64) (v1 : Int32) (v2 : Int32), Inv M1 → Fr [104] [] Mb M1 → v2 = u4 → True → bk4 M1 t1 v1 v2) : ∀ v4 : Int32, 0 ≤ v4 → v4 ≤ 12 → ∃ n, ∀ (M : MM) (tl : Int64) (v1 : Int32) (v2 : Int32) (v3 : Int32), Inv M → Fr [104] [] Mb M → (True ∧ v2 + (-1 : Int32) = u4) → wX11_findRests_40 post bk4 n M tl v1 v2 v3 v4 := by
  refine up_ex (P := fun d v4 => ∀ (M : MM) (tl : Int64) (v1 : Int32) (v2 : Int32) (v3 : Int32), Inv M → Fr [104] [] Mb M → (True ∧ v2 + (-1 : Int32) = u4) → wX11_findRests_40 post bk4 d M tl v1 v2 v3 v4) 0 12 ?_
  intro d v4 hlo hhi rec M tl v1 v2 v3 hI hF hli
  unfold wX11_findRests_40
  refine ifs (fun hc1 => ?_) (fun hc2 => ?_)
  · skip
    unfold wX11_findRests_124
    exact hb4 _ _ v1 (v2 + (-1 : Int32)) hI hF (by lia) trivial
  · skip
    refine And.intro (vpI (c := 381) (by decide) (by lia) (by lia)) ?_
    have hr3 := r82_65 hI
    refine ifs (fun hc4 => ?_) (fun hc5 => ?_)
    · skip
      unfold wX11_findRests_124
      exact hb4 _ _ v1 (v2 + (-1 : Int32)) hI hF (by lia) trivial
    · skip
      have hm6 : (0 : Int32) ≤ ((v2 >>> (v4 &&& (31 : Int32))) &&& (1 : Int32)) ∧ ((v2 >>> (v4 &&& (31 : Int32))) &&& (1 : Int32)) ≤ (1 : Int32) := andc (v2 >>> (v4 &&& (31 : Int32))) 1 (by decide)
      have hm7 : (0 : Int32) ≤ (v4 &&& (31 : Int32)) ∧ (v4 &&& (31 : Int32)) ≤ (31 : Int32) := andc v4 31 (by decide)
      refine ifs (fun hc8 => ?_) (fun hc9 => ?_)
      · skip
        refine sf_X11_wantCost hI (by lia) (by lia) (fun r10 hq11 => ?_)
        refine And.intro (vpI (c := 4096) (by decide) (by lia) (by lia)) ?_
        refine And.intro (vpI (c := 4096) (by decide) (by lia) (by lia)) ?_
        refine ifs (fun hc12 => ?_) (fun hc13 => ?_)
        · skip
          refine And.intro (vpI (c := 4096) (by decide) (by lia) (by lia)) ?_
          unfold wX11_findRests_117
          refine And.intro (vpI (c := 4096) (by decide) (by lia) (by lia)) ?_
          intro W14 hW15
          have hI16 : Inv W14 := by rw [hW15]; exact inv_set hI (i_any _)
          have hF17 : Fr [104] [] Mb W14 := by rw [hW15]; exact fr_arr hF (by decide)
          unfold wX11_findRests_118
          exact rec (by lia) _ _ v1 v2 v3 hI16 hF17 trivial
        · skip
          unfold wX11_findRests_117
          refine And.intro (vpI (c := 4096) (by decide) (by lia) (by lia)) ?_
          intro W18 hW19
          have hI20 : Inv W18 := by rw [hW19]; exact inv_set hI (i_any _)
          have hF21 : Fr [104] [] Mb W18 := by rw [hW19]; exact fr_arr hF (by decide)
          unfold wX11_findRests_118
          exact rec (by lia) _ _ v1 v2 v3 hI20 hF21 trivial
      · skip
        unfold wX11_findRests_118
        exact rec (by lia) _ _ v1 v2 v3 hI hF trivial
set_option maxHeartbeats 4000000 in
theorem sl_X11_findRests_4 {post : MM → Int64 → Prop} {Mb : MM} (hp : ∀ (M1 : MM) (t1 : Int64), Inv M1 → Fr [104] [] Mb M1 → True → post M1 t1) : ∀ v2 : Int32, -8 ≤ v2 → v2 ≤ 255 → ∃ n, ∀ (M : MM) (tl : Int64) (v1 : Int32), Inv M → Fr [104] [] Mb M → (True) → wX11_findRests_4 post n M tl v1 v2 := by
  refine dn_ex (P := fun d v2 => ∀ (M : MM) (tl : Int64) (v1 : Int32), Inv M → Fr [104] [] Mb M → (True) → wX11_findRests_4 post d M tl v1 v2) (-1) 255 (by decide) (by decide) ?_
  intro d v2 hlo hhi rec M tl v1 hI hF hli
  unfold wX11_findRests_4
  refine ifs (fun hc1 => ?_) (fun hc2 => ?_)
  · skip
    exact hp _ _ hI hF trivial
  · skip
    refine sf_X11_bitsOf hI  (fun r3 hq4 => ?_)
    refine And.intro (vpI (c := 381) (by decide) (by lia) (by lia)) ?_
    have hr5 := r82_65 hI
    refine ifs (fun hc6 => ?_) (fun hc7 => ?_)
    · skip
      unfold wX11_findRests_36
      refine And.intro (vpI (c := 4096) (by decide) (by lia) (by lia)) ?_
      intro W8 hW9
      have hI10 : Inv W8 := by rw [hW9]; exact inv_set hI (i_any _)
      have hF11 : Fr [104] [] Mb W8 := by rw [hW9]; exact fr_arr hF (by decide)
      obtain ⟨n12, hn13⟩ := sl_X11_findRests_40 (Mb := Mb) (u4 := v2 + (-1 : Int32)) hp (fun M1 t1 v1 v2 hJ hG hu hl => by subst hu; exact rec (by lia) M1 t1 v1 hJ hG hl) (0 : Int32) (by lia) (by lia)
      exact ⟨n12, hn13 _ _ v1 v2 r3 hI10 hF11 (by lia)⟩
    · skip
      unfold wX11_findRests_36
      refine And.intro (vpI (c := 4096) (by decide) (by lia) (by lia)) ?_
      intro W14 hW15
      have hI16 : Inv W14 := by rw [hW15]; exact inv_set hI (i_any _)
      have hF17 : Fr [104] [] Mb W14 := by rw [hW15]; exact fr_arr hF (by decide)
      obtain ⟨n18, hn19⟩ := sl_X11_findRests_40 (Mb := Mb) (u4 := v2 + (-1 : Int32)) hp (fun M1 t1 v1 v2 hJ hG hu hl => by subst hu; exact rec (by lia) M1 t1 v1 hJ hG hl) (0 : Int32) (by lia) (by lia)
      exact ⟨n18, hn19 _ _ v1 v2 r3 hI16 hF17 (by lia)⟩
set_option maxHeartbeats 4000000 in
theorem sf_X11_findRests {post : MM → Int64 → Prop} {M : MM} {tl : Int64} {v1 : Int32} (hI : Inv M) (hp : ∀ (M1 : MM) (t1 : Int64), Inv M1 → Fr [104] [] M M1 → True → post M1 t1) : wpX11_findRests post M tl v1 := by
  unfold wpX11_findRests
  obtain ⟨n1, hn2⟩ := sl_X11_findRests_4 (Mb := M) hp  (4095 : Int32) (by lia) (by lia)
  exact ⟨n1, hn2 _ _ v1 hI fr_rfl trivial⟩
set_option maxHeartbeats 4000000 in
theorem sl_X11_cannot_96 {post : Int32 → MM → Int64 → Prop} {M : MM} {tl : Int64} (hp : ∀ (r : Int32), True → post r M tl) (hI : Inv M) : ∀ v5 : Int32, 0 ≤ v5 → v5 ≤ 6 → ∃ n, ∀ (v1 : Int32) (v2 : Int32) (v3 : Int32) (v4 : Int32), (True) → wX11_cannot_96 post n M tl v1 v2 v3 v4 v5 := by
  refine up_ex (P := fun d v5 => ∀ (v1 : Int32) (v2 : Int32) (v3 : Int32) (v4 : Int32), (True) → wX11_cannot_96 post d M tl v1 v2 v3 v4 v5) 0 6 ?_
  intro d v5 hlo hhi rec v1 v2 v3 v4 hli
  unfold wX11_cannot_96
  refine And.intro (vpI (c := 381) (by decide) (by lia) (by lia)) ?_
  have hr1 := r82_65 hI
  refine ifs (fun hc2 => ?_) (fun hc3 => ?_)
  · skip
    refine ifs (fun hc4 => ?_) (fun hc5 => ?_)
    · skip
      exact hp _ trivial
    · skip
      refine ifs (fun hc6 => ?_) (fun hc7 => ?_)
      · skip
        exact hp _ trivial
      · skip
        exact hp _ trivial
  · skip
    refine And.intro (vpI (c := 381) (by decide) (by lia) (by lia)) ?_
    have hr8 := r82_66_1 hI v5 (by lia) (by lia)
    refine sf_X11_doesLack hI (by lia) (fun r9 hq10 => ?_)
    refine ifs (fun hc11 => ?_) (fun hc12 => ?_)
    · skip
      refine And.intro (vpI (c := 6) (by decide) (by lia) (by lia)) ?_
      have hr13 := iv_88 hI ((M 82 ((((66 : Int32) + ((2 : Int32) * v5)) + (1 : Int32))).toNatClampNeg)).toNatClampNeg
      refine sf_X11_doesLack hI (by lia) (fun r14 hq15 => ?_)
      refine ifs (fun hc16 => ?_) (fun hc17 => ?_)
      · skip
        unfold wX11_cannot_158
        refine And.intro (vpI (c := 6) (by decide) (by lia) (by lia)) ?_
        refine sf_X11_doesLack hI (by lia) (fun r18 hq19 => ?_)
        refine ifs (fun hc20 => ?_) (fun hc21 => ?_)
        · skip
          unfold wX11_cannot_182
          exact rec (by lia) v1 (v2 ||| (0 : Int32)) v3 (v4 + (0 : Int32)) trivial
        · skip
          unfold wX11_cannot_182
          exact rec (by lia) v1 (v2 ||| (0 : Int32)) v3 (v4 + v3) trivial
      · skip
        unfold wX11_cannot_150
        have hm22 : (0 : Int32) ≤ ((M 82 ((((66 : Int32) + ((2 : Int32) * v5)) + (1 : Int32))).toNatClampNeg) &&& (31 : Int32)) ∧ ((M 82 ((((66 : Int32) + ((2 : Int32) * v5)) + (1 : Int32))).toNatClampNeg) &&& (31 : Int32)) ≤ (31 : Int32) := andc (M 82 ((((66 : Int32) + ((2 : Int32) * v5)) + (1 : Int32))).toNatClampNeg) 31 (by decide)
        unfold wX11_cannot_158
        refine And.intro (vpI (c := 6) (by decide) (by lia) (by lia)) ?_
        refine sf_X11_doesLack hI (by lia) (fun r23 hq24 => ?_)
        refine ifs (fun hc25 => ?_) (fun hc26 => ?_)
        · skip
          unfold wX11_cannot_182
          exact rec (by lia) v1 (v2 ||| ((1 : Int32) <<< ((M 82 ((((66 : Int32) + ((2 : Int32) * v5)) + (1 : Int32))).toNatClampNeg) &&& (31 : Int32)))) v3 (v4 + (0 : Int32)) trivial
        · skip
          unfold wX11_cannot_182
          exact rec (by lia) v1 (v2 ||| ((1 : Int32) <<< ((M 82 ((((66 : Int32) + ((2 : Int32) * v5)) + (1 : Int32))).toNatClampNeg) &&& (31 : Int32)))) v3 (v4 + v3) trivial
    · skip
      unfold wX11_cannot_150
      have hm27 : (0 : Int32) ≤ ((M 82 ((((66 : Int32) + ((2 : Int32) * v5)) + (1 : Int32))).toNatClampNeg) &&& (31 : Int32)) ∧ ((M 82 ((((66 : Int32) + ((2 : Int32) * v5)) + (1 : Int32))).toNatClampNeg) &&& (31 : Int32)) ≤ (31 : Int32) := andc (M 82 ((((66 : Int32) + ((2 : Int32) * v5)) + (1 : Int32))).toNatClampNeg) 31 (by decide)
      unfold wX11_cannot_158
      refine And.intro (vpI (c := 6) (by decide) (by lia) (by lia)) ?_
      have hr28 := iv_88 hI ((M 82 ((((66 : Int32) + ((2 : Int32) * v5)) + (1 : Int32))).toNatClampNeg)).toNatClampNeg
      refine sf_X11_doesLack hI (by lia) (fun r29 hq30 => ?_)
      refine ifs (fun hc31 => ?_) (fun hc32 => ?_)
      · skip
        unfold wX11_cannot_182
        exact rec (by lia) v1 (v2 ||| ((1 : Int32) <<< ((M 82 ((((66 : Int32) + ((2 : Int32) * v5)) + (1 : Int32))).toNatClampNeg) &&& (31 : Int32)))) v3 (v4 + (0 : Int32)) trivial
      · skip
        unfold wX11_cannot_182
        exact rec (by lia) v1 (v2 ||| ((1 : Int32) <<< ((M 82 ((((66 : Int32) + ((2 : Int32) * v5)) + (1 : Int32))).toNatClampNeg) &&& (31 : Int32)))) v3 (v4 + v3) trivial
set_option maxHeartbeats 4000000 in
theorem sl_X11_cannot_20 {post : Int32 → MM → Int64 → Prop} {M : MM} {tl : Int64} (hp : ∀ (r : Int32), True → post r M tl) (hI : Inv M) : ∀ v4 : Int32, 0 ≤ v4 → v4 ≤ 6 → ∃ n, ∀ (v1 : Int32) (v2 : Int32) (v3 : Int32), (True) → wX11_cannot_20 post n M tl v1 v2 v3 v4 := by
  refine up_ex (P := fun d v4 => ∀ (v1 : Int32) (v2 : Int32) (v3 : Int32), (True) → wX11_cannot_20 post d M tl v1 v2 v3 v4) 0 6 ?_
  intro d v4 hlo hhi rec v1 v2 v3 hli
  unfold wX11_cannot_20
  refine ifs (fun hc1 => ?_) (fun hc2 => ?_)
  · skip
    obtain ⟨n3, hn4⟩ := sl_X11_cannot_96 (M := M) (tl := tl) hp  hI (0 : Int32) (by lia) (by lia)
    exact ⟨n3, hn4 v1 v2 v3 (0 : Int32) trivial⟩
  · skip
    refine sf_X11_doesLack hI (by lia) (fun r5 hq6 => ?_)
    refine ifs (fun hc7 => ?_) (fun hc8 => ?_)
    · skip
      refine ifs (fun hc9 => ?_) (fun hc10 => ?_)
      · skip
        unfold wX11_cannot_57
        unfold wX11_cannot_62
        refine ifs (fun hc11 => ?_) (fun hc12 => ?_)
        · skip
          unfold wX11_cannot_83
          exact rec (by lia) v1 v2 v3 trivial
        · skip
          refine And.intro (vpI (c := 12) (by decide) (by lia) (by lia)) ?_
          unfold wX11_cannot_83
          exact rec (by lia) v1 v2 (M 85 (((6 : Int32) + v4)).toNatClampNeg) trivial
      · skip
        refine And.intro (vpI (c := 12) (by decide) (by lia) (by lia)) ?_
        refine ifs (fun hc13 => ?_) (fun hc14 => ?_)
        · skip
          unfold wX11_cannot_61
          unfold wX11_cannot_62
          refine ifs (fun hc15 => ?_) (fun hc16 => ?_)
          · skip
            unfold wX11_cannot_83
            exact rec (by lia) v1 v2 v3 trivial
          · skip
            refine And.intro (vpI (c := 12) (by decide) (by lia) (by lia)) ?_
            unfold wX11_cannot_83
            exact rec (by lia) v1 v2 (M 85 (((6 : Int32) + v4)).toNatClampNeg) trivial
        · skip
          unfold wX11_cannot_57
          unfold wX11_cannot_62
          refine ifs (fun hc17 => ?_) (fun hc18 => ?_)
          · skip
            unfold wX11_cannot_83
            exact rec (by lia) v1 v2 v3 trivial
          · skip
            refine And.intro (vpI (c := 12) (by decide) (by lia) (by lia)) ?_
            unfold wX11_cannot_83
            exact rec (by lia) v1 v2 (M 85 (((6 : Int32) + v4)).toNatClampNeg) trivial
    · skip
      unfold wX11_cannot_61
      unfold wX11_cannot_62
      refine ifs (fun hc19 => ?_) (fun hc20 => ?_)
      · skip
        unfold wX11_cannot_83
        exact rec (by lia) v1 v2 v3 trivial
      · skip
        refine And.intro (vpI (c := 12) (by decide) (by lia) (by lia)) ?_
        unfold wX11_cannot_83
        exact rec (by lia) v1 v2 (M 85 (((6 : Int32) + v4)).toNatClampNeg) trivial
set_option maxHeartbeats 4000000 in
theorem sf_X11_cannot {post : Int32 → MM → Int64 → Prop} {M : MM} {tl : Int64} {v1 : Int32} (hI : Inv M) (hp : ∀ (r : Int32), True → post r M tl) : wpX11_cannot post M tl v1 := by
  unfold wpX11_cannot
  refine m_in (v := v1) (lo := 0) (hi := 1) rfl rfl rfl (fun hn1 hn2 => ?_) (fun hn3 => ?_)
  · skip
    refine ifs (fun hc4 => ?_) (fun hc5 => ?_)
    · skip
      exact hp _ trivial
    · skip
      obtain ⟨n6, hn7⟩ := sl_X11_cannot_20 (M := M) (tl := tl) hp  hI (1 : Int32) (by lia) (by lia)
      exact ⟨n6, hn7 v1 (0 : Int32) (-4 : Int32) trivial⟩
  · skip
    refine ifs (fun hc8 => ?_) (fun hc9 => ?_)
    · skip
      exact hp _ trivial
    · skip
      obtain ⟨n10, hn11⟩ := sl_X11_cannot_20 (M := M) (tl := tl) hp  hI (1 : Int32) (by lia) (by lia)
      exact ⟨n10, hn11 v1 (0 : Int32) (-4 : Int32) trivial⟩
set_option maxHeartbeats 4000000 in
theorem sf_X11_isTold {post : Int32 → MM → Int64 → Prop} {M : MM} {tl : Int64} {v1 : Int32} (hI : Inv M) (hp1 : 0 ≤ v1 ∧ v1 < 8) (hp : ∀ (r : Int32), (r = 0 ∨ r = 1) → post r M tl) : wpX11_isTold post M tl v1 := by
  unfold wpX11_isTold
  refine sf_X11_matchOf hI  (fun r1 hq2 => ?_)
  refine ifs (fun hc3 => ?_) (fun hc4 => ?_)
  · skip
    exact hp _ (by lia)
  · skip
    refine And.intro (vpI (c := 381) (by decide) (by lia) (by lia)) ?_
    have hr5 := r82_th hI v1 (by lia) (by lia)
    unfold Th at hr5
    refine ifs (fun hc6 => ?_) (fun hc7 => ?_)
    · skip
      exact hp _ (by lia)
    · skip
      refine And.intro (vpI (c := 381) (by decide) (by lia) (by lia)) ?_
      refine And.intro (vpI (c := 381) (by decide) (by lia) (by lia)) ?_
      refine sf_X11_mirrorOf hI (by lia) (fun r8 hq9 => ?_)
      have hr10 := r82_th hI ((8 : Int32) + r1) (by lia) (by lia)
      unfold Th at hr10
      refine ifs (fun hc11 => ?_) (fun hc12 => ?_)
      · skip
        exact hp _ (by lia)
      · skip
        exact hp _ (by lia)
set_option maxHeartbeats 4000000 in
theorem sl_X11_copies_2 {post : MM → Int64 → Prop} {Mb : MM} (hp : ∀ (M1 : MM) (t1 : Int64), Inv M1 → Fr [82] [] Mb M1 → True → post M1 t1) : ∀ v3 : Int32, 0 ≤ v3 → v3 ≤ 127 → ∃ n, ∀ (M : MM) (tl : Int64) (v1 : Int32) (v2 : Int32), Inv M → Fr [82] [] Mb M → (True) → wX11_copies_2 post n M tl v1 v2 v3 := by
  refine up_ex (P := fun d v3 => ∀ (M : MM) (tl : Int64) (v1 : Int32) (v2 : Int32), Inv M → Fr [82] [] Mb M → (True) → wX11_copies_2 post d M tl v1 v2 v3) 0 127 ?_
  intro d v3 hlo hhi rec M tl v1 v2 hI hF hli
  unfold wX11_copies_2
  refine ifs (fun hc1 => ?_) (fun hc2 => ?_)
  · skip
    exact hp _ _ hI hF trivial
  · skip
    refine And.intro (vpI (c := 381) (by decide) (by lia) (by lia)) ?_
    refine And.intro (vpI (c := 381) (by decide) (by lia) (by lia)) ?_
    intro W3 hW4
    have hI6 : Inv W3 := by rw [hW4]; exact w82_th hI _ _ (by lia) (by lia) (by unfold Th; lia)
    have hF7 : Fr [82] [] Mb W3 := by rw [hW4]; exact fr_arr hF (by decide)
    exact rec (by lia) _ _ v1 v2 hI6 hF7 trivial
set_option maxHeartbeats 4000000 in
theorem sf_X11_copies {post : MM → Int64 → Prop} {M : MM} {tl : Int64} {v1 : Int32} {v2 : Int32} (hI : Inv M) (hp : ∀ (M1 : MM) (t1 : Int64), Inv M1 → Fr [82] [] M M1 → True → post M1 t1) : wpX11_copies post M tl v1 v2 := by
  unfold wpX11_copies
  obtain ⟨n1, hn2⟩ := sl_X11_copies_2 (Mb := M) hp  (0 : Int32) (by lia) (by lia)
  exact ⟨n1, hn2 _ _ v1 v2 hI fr_rfl trivial⟩
set_option maxHeartbeats 4000000 in
theorem sf_X11_keep {post : Int32 → MM → Int64 → Prop} {M : MM} {tl : Int64} {v1 : Int32} (hI : Inv M) (hp : ∀ (r : Int32) (M1 : MM) (t1 : Int64), Inv M1 → Fr [82, 83] [] M M1 → True → post r M1 t1) : wpX11_keep post M tl v1 := by
  unfold wpX11_keep
  refine m_in (v := v1) (lo := 0) (hi := 1) rfl rfl rfl (fun hn1 hn2 => ?_) (fun hn3 => ?_)
  · skip
    refine ifs (fun hc4 => ?_) (fun hc5 => ?_)
    · skip
      exact hp _ _ _ hI fr_rfl trivial
    · skip
      refine And.intro (vpI (c := 2) (by decide) (by lia) (by lia)) ?_
      refine sf_X11_flag hI  (fun r6 hq7 => ?_)
      refine And.intro (vpI (c := 2) (by decide) (by lia) (by lia)) ?_
      intro W8 hW9
      have hI10 : Inv W8 := by rw [hW9]; exact inv_set hI (i_any _)
      have hF11 : Fr [82, 83] [] M W8 := by rw [hW9]; exact fr_arr fr_rfl (by decide)
      refine sf_X11_copies hI10  (fun M13 t14 hI15 hF16 hq17 => ?_)
      have hF18 : Fr [82, 83] [] M M13 := fr_call hF11 hF16 (by decide) (by decide)
      exact hp _ _ _ hI15 hF18 trivial
  · skip
    refine ifs (fun hc19 => ?_) (fun hc20 => ?_)
    · skip
      exact hp _ _ _ hI fr_rfl trivial
    · skip
      refine And.intro (vpI (c := 2) (by decide) (by lia) (by lia)) ?_
      refine sf_X11_flag hI  (fun r21 hq22 => ?_)
      refine And.intro (vpI (c := 2) (by decide) (by lia) (by lia)) ?_
      intro W23 hW24
      have hI25 : Inv W23 := by rw [hW24]; exact inv_set hI (i_any _)
      have hF26 : Fr [82, 83] [] M W23 := by rw [hW24]; exact fr_arr fr_rfl (by decide)
      refine sf_X11_copies hI25  (fun M28 t29 hI30 hF31 hq32 => ?_)
      have hF33 : Fr [82, 83] [] M M28 := fr_call hF26 hF31 (by decide) (by decide)
      exact hp _ _ _ hI30 hF33 trivial
set_option maxHeartbeats 4000000 in
theorem sf_X11_back {post : Int32 → MM → Int64 → Prop} {M : MM} {tl : Int64} {v1 : Int32} (hI : Inv M) (hp : ∀ (r : Int32) (M1 : MM) (t1 : Int64), Inv M1 → Fr [82] [] M M1 → True → post r M1 t1) : wpX11_back post M tl v1 := by
  unfold wpX11_back
  refine m_in (v := v1) (lo := 0) (hi := 1) rfl rfl rfl (fun hn1 hn2 => ?_) (fun hn3 => ?_)
  · skip
    refine ifs (fun hc4 => ?_) (fun hc5 => ?_)
    · skip
      exact hp _ _ _ hI fr_rfl trivial
    · skip
      refine And.intro (vpI (c := 2) (by decide) (by lia) (by lia)) ?_
      refine ifs (fun hc6 => ?_) (fun hc7 => ?_)
      · skip
        exact hp _ _ _ hI fr_rfl trivial
      · skip
        refine sf_X11_copies hI  (fun M9 t10 hI11 hF12 hq13 => ?_)
        have hF14 : Fr [82] [] M M9 := fr_call fr_rfl hF12 (by decide) (by decide)
        refine sf_X11_thingMany hI11  (fun r15 hq16 => ?_)
        exact hp _ _ _ hI11 hF14 trivial
  · skip
    refine ifs (fun hc17 => ?_) (fun hc18 => ?_)
    · skip
      exact hp _ _ _ hI fr_rfl trivial
    · skip
      refine And.intro (vpI (c := 2) (by decide) (by lia) (by lia)) ?_
      refine ifs (fun hc19 => ?_) (fun hc20 => ?_)
      · skip
        exact hp _ _ _ hI fr_rfl trivial
      · skip
        refine sf_X11_copies hI  (fun M22 t23 hI24 hF25 hq26 => ?_)
        have hF27 : Fr [82] [] M M22 := fr_call fr_rfl hF25 (by decide) (by decide)
        refine sf_X11_thingMany hI24  (fun r28 hq29 => ?_)
        exact hp _ _ _ hI24 hF27 trivial
set_option maxHeartbeats 4000000 in
theorem sf_X11_isMany {post : Int32 → MM → Int64 → Prop} {M : MM} {tl : Int64} {v0 : Int32} (hI : Inv M) (hp : ∀ (r : Int32), ((r = 0 ∨ r = 1) ∧ (r ≠ 0 → 0 ≤ v0 ∧ v0 < 25)) → post r M tl) : wpX11_isMany post M tl v0 := by
  unfold wpX11_isMany
  refine m_in (v := v0) (lo := 0) (hi := 24) rfl rfl rfl (fun hn1 hn2 => ?_) (fun hn3 => ?_)
  · skip
    refine And.intro (nar_b (by lia)) ?_
    exact hp _ (by lia)
  · skip
    refine And.intro (nar_b (by lia)) ?_
    exact hp _ (by lia)
set_option maxHeartbeats 4000000 in
theorem sl_X11_startRun_6 {post : MM → Int64 → Prop} {Mb : MM} (hp : ∀ (M1 : MM) (t1 : Int64), Inv M1 → Fr [98, 99, 101, 102] [] Mb M1 → True → post M1 t1) : ∀ v1 : Int32, 0 ≤ v1 → v1 ≤ 8 → ∃ n, ∀ (M : MM) (tl : Int64), Inv M → Fr [98, 99, 101, 102] [] Mb M → (True) → wX11_startRun_6 post n M tl v1 := by
  refine up_ex (P := fun d v1 => ∀ (M : MM) (tl : Int64), Inv M → Fr [98, 99, 101, 102] [] Mb M → (True) → wX11_startRun_6 post d M tl v1) 0 8 ?_
  intro d v1 hlo hhi rec M tl  hI hF hli
  unfold wX11_startRun_6
  refine ifs (fun hc1 => ?_) (fun hc2 => ?_)
  · skip
    refine And.intro (vpI (c := 2) (by decide) (by lia) (by lia)) ?_
    intro W3 hW4
    have hI5 : Inv W3 := by rw [hW4]; exact inv_set hI (i_any _)
    have hF6 : Fr [98, 99, 101, 102] [] Mb W3 := by rw [hW4]; exact fr_arr hF (by decide)
    refine And.intro (vpI (c := 2) (by decide) (by lia) (by lia)) ?_
    intro W7 hW8
    have hI9 : Inv W7 := by rw [hW8]; exact inv_set hI5 (i_any _)
    have hF10 : Fr [98, 99, 101, 102] [] Mb W7 := by rw [hW8]; exact fr_arr hF6 (by decide)
    exact hp _ _ hI9 hF10 trivial
  · skip
    refine And.intro (vpI (c := 8) (by decide) (by lia) (by lia)) ?_
    intro W11 hW12
    have hI13 : Inv W11 := by rw [hW12]; exact inv_set hI (i_any _)
    have hF14 : Fr [98, 99, 101, 102] [] Mb W11 := by rw [hW12]; exact fr_arr hF (by decide)
    refine And.intro (vpI (c := 8) (by decide) (by lia) (by lia)) ?_
    intro W15 hW16
    have hI17 : Inv W15 := by rw [hW16]; exact inv_set hI13 (i_any _)
    have hF18 : Fr [98, 99, 101, 102] [] Mb W15 := by rw [hW16]; exact fr_arr hF14 (by decide)
    exact rec (by lia) _ _  hI17 hF18 trivial
set_option maxHeartbeats 4000000 in
theorem sf_X11_startRun {post : MM → Int64 → Prop} {M : MM} {tl : Int64} (hI : Inv M) (hp : ∀ (M1 : MM) (t1 : Int64), Inv M1 → Fr [98, 99, 101, 102] [] M M1 → True → post M1 t1) : wpX11_startRun post M tl  := by
  unfold wpX11_startRun
  refine sf_X11_asNow hI  (fun M2 t3 hI4 hF5 hq6 => ?_)
  have hF7 : Fr [98, 99, 101, 102] [] M M2 := fr_call fr_rfl hF5 (by decide) (by decide)
  obtain ⟨n8, hn9⟩ := sl_X11_startRun_6 (Mb := M) hp  (0 : Int32) (by lia) (by lia)
  exact ⟨n8, hn9 _ _  hI4 hF7 trivial⟩
set_option maxHeartbeats 4000000 in
theorem sf_X11_works {post : MM → Int64 → Prop} {M : MM} {tl : Int64} {v1 : Int32} (hI : Inv M) (hp1 : 0 ≤ v1 ∧ v1 < 12) (hp : ∀ (M1 : MM) (t1 : Int64), Inv M1 → Fr [98, 99, 100, 102, 103] [] M M1 → True → post M1 t1) : wpX11_works post M tl v1 := by
  unfold wpX11_works
  refine And.intro (vpI (c := 381) (by decide) (by lia) (by lia)) ?_
  refine And.intro (vpI (c := 381) (by decide) (by lia) (by lia)) ?_
  refine And.intro (vpI (c := 381) (by decide) (by lia) (by lia)) ?_
  have hr1 := r82_17_1 hI v1 (by lia) (by lia)
  have hr2 := r82_17_2 hI v1 (by lia) (by lia)
  refine sf_X11_matchOf hI  (fun r3 hq4 => ?_)
  have hr5 := r82_17_3 hI v1 (by lia) (by lia)
  unfold Th at hr5
  refine sf_X11_doesLack hI (by lia) (fun r6 hq7 => ?_)
  refine ifs (fun hc8 => ?_) (fun hc9 => ?_)
  · skip
    refine ifs (fun hc10 => ?_) (fun hc11 => ?_)
    · skip
      unfold wX11_works_112
      refine ifs (fun hc12 => ?_) (fun hc13 => ?_)
      · skip
        unfold wX11_works_155
        refine And.intro (vpI (c := 12) (by decide) (by lia) (by lia)) ?_
        intro W14 hW15
        have hI16 : Inv W14 := by rw [hW15]; exact inv_set hI (i_any _)
        have hF17 : Fr [98, 99, 100, 102, 103] [] M W14 := by rw [hW15]; exact fr_arr fr_rfl (by decide)
        refine And.intro (vpI (c := 2) (by decide) (by lia) (by lia)) ?_
        refine And.intro (vpI (c := 12) (by decide) (by lia) (by lia)) ?_
        refine And.intro (vpI (c := 2) (by decide) (by lia) (by lia)) ?_
        intro W18 hW19
        have hI20 : Inv W18 := by rw [hW19]; exact inv_set hI16 (i_any _)
        have hF21 : Fr [98, 99, 100, 102, 103] [] M W18 := by rw [hW19]; exact fr_arr hF17 (by decide)
        refine And.intro (vpI (c := 16) (by decide) (by lia) (by lia)) ?_
        intro W22 hW23
        have hI24 : Inv W22 := by rw [hW23]; exact inv_98 hI20 (by unfold Th; lia)
        have hF25 : Fr [98, 99, 100, 102, 103] [] M W22 := by rw [hW23]; exact fr_arr hF21 (by decide)
        refine And.intro (vpI (c := 16) (by decide) (by lia) (by lia)) ?_
        intro W26 hW27
        have hI28 : Inv W26 := by rw [hW27]; exact inv_set hI24 (i_any _)
        have hF29 : Fr [98, 99, 100, 102, 103] [] M W26 := by rw [hW27]; exact fr_arr hF25 (by decide)
        refine ifs (fun hc30 => ?_) (fun hc31 => ?_)
        · skip
          exact hp _ _ hI28 hF29 trivial
        · skip
          refine ifs (fun hc32 => ?_) (fun hc33 => ?_)
          · skip
            unfold wX11_works_232
            refine And.intro (vpI (c := 8) (by decide) (by lia) (by lia)) ?_
            intro W34 hW35
            have hI36 : Inv W34 := by rw [hW35]; exact inv_set hI28 (i_any _)
            have hF37 : Fr [98, 99, 100, 102, 103] [] M W34 := by rw [hW35]; exact fr_arr hF29 (by decide)
            exact hp _ _ hI36 hF37 trivial
          · skip
            unfold wX11_works_232
            refine And.intro (vpI (c := 8) (by decide) (by lia) (by lia)) ?_
            intro W38 hW39
            have hI40 : Inv W38 := by rw [hW39]; exact inv_set hI28 (i_any _)
            have hF41 : Fr [98, 99, 100, 102, 103] [] M W38 := by rw [hW39]; exact fr_arr hF29 (by decide)
            exact hp _ _ hI40 hF41 trivial
      · skip
        refine And.intro (vpI (c := 16) (by decide) (by lia) (by lia)) ?_
        refine ifs (fun hc42 => ?_) (fun hc43 => ?_)
        · skip
          unfold wX11_works_155
          refine And.intro (vpI (c := 12) (by decide) (by lia) (by lia)) ?_
          intro W44 hW45
          have hI46 : Inv W44 := by rw [hW45]; exact inv_set hI (i_any _)
          have hF47 : Fr [98, 99, 100, 102, 103] [] M W44 := by rw [hW45]; exact fr_arr fr_rfl (by decide)
          refine And.intro (vpI (c := 2) (by decide) (by lia) (by lia)) ?_
          refine And.intro (vpI (c := 12) (by decide) (by lia) (by lia)) ?_
          refine And.intro (vpI (c := 2) (by decide) (by lia) (by lia)) ?_
          intro W48 hW49
          have hI50 : Inv W48 := by rw [hW49]; exact inv_set hI46 (i_any _)
          have hF51 : Fr [98, 99, 100, 102, 103] [] M W48 := by rw [hW49]; exact fr_arr hF47 (by decide)
          refine And.intro (vpI (c := 16) (by decide) (by lia) (by lia)) ?_
          intro W52 hW53
          have hI54 : Inv W52 := by rw [hW53]; exact inv_98 hI50 (by unfold Th; lia)
          have hF55 : Fr [98, 99, 100, 102, 103] [] M W52 := by rw [hW53]; exact fr_arr hF51 (by decide)
          refine And.intro (vpI (c := 16) (by decide) (by lia) (by lia)) ?_
          intro W56 hW57
          have hI58 : Inv W56 := by rw [hW57]; exact inv_set hI54 (i_any _)
          have hF59 : Fr [98, 99, 100, 102, 103] [] M W56 := by rw [hW57]; exact fr_arr hF55 (by decide)
          refine ifs (fun hc60 => ?_) (fun hc61 => ?_)
          · skip
            exact hp _ _ hI58 hF59 trivial
          · skip
            refine ifs (fun hc62 => ?_) (fun hc63 => ?_)
            · skip
              unfold wX11_works_232
              refine And.intro (vpI (c := 8) (by decide) (by lia) (by lia)) ?_
              intro W64 hW65
              have hI66 : Inv W64 := by rw [hW65]; exact inv_set hI58 (i_any _)
              have hF67 : Fr [98, 99, 100, 102, 103] [] M W64 := by rw [hW65]; exact fr_arr hF59 (by decide)
              exact hp _ _ hI66 hF67 trivial
            · skip
              unfold wX11_works_232
              refine And.intro (vpI (c := 8) (by decide) (by lia) (by lia)) ?_
              intro W68 hW69
              have hI70 : Inv W68 := by rw [hW69]; exact inv_set hI58 (i_any _)
              have hF71 : Fr [98, 99, 100, 102, 103] [] M W68 := by rw [hW69]; exact fr_arr hF59 (by decide)
              exact hp _ _ hI70 hF71 trivial
        · skip
          refine And.intro (vpI (c := 16) (by decide) (by lia) (by lia)) ?_
          refine sf_X11_mirrorOf hI (by lia) (fun r72 hq73 => ?_)
          have hr74 := iv_98 hI ((((8 : Int32) * ((1 : Int32) - (M 82 ((((17 : Int32) + ((4 : Int32) * v1)) + (1 : Int32))).toNatClampNeg))) + r3)).toNatClampNeg
          unfold Th at hr74
          refine ifs (fun hc75 => ?_) (fun hc76 => ?_)
          · skip
            unfold wX11_works_155
            refine And.intro (vpI (c := 12) (by decide) (by lia) (by lia)) ?_
            intro W77 hW78
            have hI79 : Inv W77 := by rw [hW78]; exact inv_set hI (i_any _)
            have hF80 : Fr [98, 99, 100, 102, 103] [] M W77 := by rw [hW78]; exact fr_arr fr_rfl (by decide)
            refine And.intro (vpI (c := 2) (by decide) (by lia) (by lia)) ?_
            refine And.intro (vpI (c := 12) (by decide) (by lia) (by lia)) ?_
            refine And.intro (vpI (c := 2) (by decide) (by lia) (by lia)) ?_
            intro W81 hW82
            have hI83 : Inv W81 := by rw [hW82]; exact inv_set hI79 (i_any _)
            have hF84 : Fr [98, 99, 100, 102, 103] [] M W81 := by rw [hW82]; exact fr_arr hF80 (by decide)
            refine And.intro (vpI (c := 16) (by decide) (by lia) (by lia)) ?_
            intro W85 hW86
            have hI87 : Inv W85 := by rw [hW86]; exact inv_98 hI83 (by unfold Th; lia)
            have hF88 : Fr [98, 99, 100, 102, 103] [] M W85 := by rw [hW86]; exact fr_arr hF84 (by decide)
            refine And.intro (vpI (c := 16) (by decide) (by lia) (by lia)) ?_
            intro W89 hW90
            have hI91 : Inv W89 := by rw [hW90]; exact inv_set hI87 (i_any _)
            have hF92 : Fr [98, 99, 100, 102, 103] [] M W89 := by rw [hW90]; exact fr_arr hF88 (by decide)
            refine ifs (fun hc93 => ?_) (fun hc94 => ?_)
            · skip
              exact hp _ _ hI91 hF92 trivial
            · skip
              refine ifs (fun hc95 => ?_) (fun hc96 => ?_)
              · skip
                unfold wX11_works_232
                refine And.intro (vpI (c := 8) (by decide) (by lia) (by lia)) ?_
                intro W97 hW98
                have hI99 : Inv W97 := by rw [hW98]; exact inv_set hI91 (i_any _)
                have hF100 : Fr [98, 99, 100, 102, 103] [] M W97 := by rw [hW98]; exact fr_arr hF92 (by decide)
                exact hp _ _ hI99 hF100 trivial
              · skip
                unfold wX11_works_232
                refine And.intro (vpI (c := 8) (by decide) (by lia) (by lia)) ?_
                intro W101 hW102
                have hI103 : Inv W101 := by rw [hW102]; exact inv_set hI91 (i_any _)
                have hF104 : Fr [98, 99, 100, 102, 103] [] M W101 := by rw [hW102]; exact fr_arr hF92 (by decide)
                exact hp _ _ hI103 hF104 trivial
          · skip
            refine And.intro (vpI (c := 12) (by decide) (by lia) (by lia)) ?_
            intro W105 hW106
            have hI107 : Inv W105 := by rw [hW106]; exact inv_set hI (i_any _)
            have hF108 : Fr [98, 99, 100, 102, 103] [] M W105 := by rw [hW106]; exact fr_arr fr_rfl (by decide)
            exact hp _ _ hI107 hF108 trivial
    · skip
      refine And.intro (vpI (c := 6) (by decide) (by lia) (by lia)) ?_
      have hr109 := iv_88 hI (((M 82 ((((17 : Int32) + ((4 : Int32) * v1)) + (3 : Int32))).toNatClampNeg) - (((M 82 ((((17 : Int32) + ((4 : Int32) * v1)) + (3 : Int32))).toNatClampNeg) / (8 : Int32)) * (8 : Int32)))).toNatClampNeg
      refine sf_X11_doesLack hI (by lia) (fun r110 hq111 => ?_)
      refine ifs (fun hc112 => ?_) (fun hc113 => ?_)
      · skip
        unfold wX11_works_112
        refine ifs (fun hc114 => ?_) (fun hc115 => ?_)
        · skip
          unfold wX11_works_155
          refine And.intro (vpI (c := 12) (by decide) (by lia) (by lia)) ?_
          intro W116 hW117
          have hI118 : Inv W116 := by rw [hW117]; exact inv_set hI (i_any _)
          have hF119 : Fr [98, 99, 100, 102, 103] [] M W116 := by rw [hW117]; exact fr_arr fr_rfl (by decide)
          refine And.intro (vpI (c := 2) (by decide) (by lia) (by lia)) ?_
          refine And.intro (vpI (c := 12) (by decide) (by lia) (by lia)) ?_
          refine And.intro (vpI (c := 2) (by decide) (by lia) (by lia)) ?_
          intro W120 hW121
          have hI122 : Inv W120 := by rw [hW121]; exact inv_set hI118 (i_any _)
          have hF123 : Fr [98, 99, 100, 102, 103] [] M W120 := by rw [hW121]; exact fr_arr hF119 (by decide)
          refine And.intro (vpI (c := 16) (by decide) (by lia) (by lia)) ?_
          intro W124 hW125
          have hI126 : Inv W124 := by rw [hW125]; exact inv_98 hI122 (by unfold Th; lia)
          have hF127 : Fr [98, 99, 100, 102, 103] [] M W124 := by rw [hW125]; exact fr_arr hF123 (by decide)
          refine And.intro (vpI (c := 16) (by decide) (by lia) (by lia)) ?_
          intro W128 hW129
          have hI130 : Inv W128 := by rw [hW129]; exact inv_set hI126 (i_any _)
          have hF131 : Fr [98, 99, 100, 102, 103] [] M W128 := by rw [hW129]; exact fr_arr hF127 (by decide)
          refine ifs (fun hc132 => ?_) (fun hc133 => ?_)
          · skip
            exact hp _ _ hI130 hF131 trivial
          · skip
            refine ifs (fun hc134 => ?_) (fun hc135 => ?_)
            · skip
              unfold wX11_works_232
              refine And.intro (vpI (c := 8) (by decide) (by lia) (by lia)) ?_
              intro W136 hW137
              have hI138 : Inv W136 := by rw [hW137]; exact inv_set hI130 (i_any _)
              have hF139 : Fr [98, 99, 100, 102, 103] [] M W136 := by rw [hW137]; exact fr_arr hF131 (by decide)
              exact hp _ _ hI138 hF139 trivial
            · skip
              unfold wX11_works_232
              refine And.intro (vpI (c := 8) (by decide) (by lia) (by lia)) ?_
              intro W140 hW141
              have hI142 : Inv W140 := by rw [hW141]; exact inv_set hI130 (i_any _)
              have hF143 : Fr [98, 99, 100, 102, 103] [] M W140 := by rw [hW141]; exact fr_arr hF131 (by decide)
              exact hp _ _ hI142 hF143 trivial
        · skip
          refine And.intro (vpI (c := 16) (by decide) (by lia) (by lia)) ?_
          refine ifs (fun hc144 => ?_) (fun hc145 => ?_)
          · skip
            unfold wX11_works_155
            refine And.intro (vpI (c := 12) (by decide) (by lia) (by lia)) ?_
            intro W146 hW147
            have hI148 : Inv W146 := by rw [hW147]; exact inv_set hI (i_any _)
            have hF149 : Fr [98, 99, 100, 102, 103] [] M W146 := by rw [hW147]; exact fr_arr fr_rfl (by decide)
            refine And.intro (vpI (c := 2) (by decide) (by lia) (by lia)) ?_
            refine And.intro (vpI (c := 12) (by decide) (by lia) (by lia)) ?_
            refine And.intro (vpI (c := 2) (by decide) (by lia) (by lia)) ?_
            intro W150 hW151
            have hI152 : Inv W150 := by rw [hW151]; exact inv_set hI148 (i_any _)
            have hF153 : Fr [98, 99, 100, 102, 103] [] M W150 := by rw [hW151]; exact fr_arr hF149 (by decide)
            refine And.intro (vpI (c := 16) (by decide) (by lia) (by lia)) ?_
            intro W154 hW155
            have hI156 : Inv W154 := by rw [hW155]; exact inv_98 hI152 (by unfold Th; lia)
            have hF157 : Fr [98, 99, 100, 102, 103] [] M W154 := by rw [hW155]; exact fr_arr hF153 (by decide)
            refine And.intro (vpI (c := 16) (by decide) (by lia) (by lia)) ?_
            intro W158 hW159
            have hI160 : Inv W158 := by rw [hW159]; exact inv_set hI156 (i_any _)
            have hF161 : Fr [98, 99, 100, 102, 103] [] M W158 := by rw [hW159]; exact fr_arr hF157 (by decide)
            refine ifs (fun hc162 => ?_) (fun hc163 => ?_)
            · skip
              exact hp _ _ hI160 hF161 trivial
            · skip
              refine ifs (fun hc164 => ?_) (fun hc165 => ?_)
              · skip
                unfold wX11_works_232
                refine And.intro (vpI (c := 8) (by decide) (by lia) (by lia)) ?_
                intro W166 hW167
                have hI168 : Inv W166 := by rw [hW167]; exact inv_set hI160 (i_any _)
                have hF169 : Fr [98, 99, 100, 102, 103] [] M W166 := by rw [hW167]; exact fr_arr hF161 (by decide)
                exact hp _ _ hI168 hF169 trivial
              · skip
                unfold wX11_works_232
                refine And.intro (vpI (c := 8) (by decide) (by lia) (by lia)) ?_
                intro W170 hW171
                have hI172 : Inv W170 := by rw [hW171]; exact inv_set hI160 (i_any _)
                have hF173 : Fr [98, 99, 100, 102, 103] [] M W170 := by rw [hW171]; exact fr_arr hF161 (by decide)
                exact hp _ _ hI172 hF173 trivial
          · skip
            refine And.intro (vpI (c := 16) (by decide) (by lia) (by lia)) ?_
            refine sf_X11_mirrorOf hI (by lia) (fun r174 hq175 => ?_)
            have hr176 := iv_98 hI ((((8 : Int32) * ((1 : Int32) - (M 82 ((((17 : Int32) + ((4 : Int32) * v1)) + (1 : Int32))).toNatClampNeg))) + r3)).toNatClampNeg
            unfold Th at hr176
            refine ifs (fun hc177 => ?_) (fun hc178 => ?_)
            · skip
              unfold wX11_works_155
              refine And.intro (vpI (c := 12) (by decide) (by lia) (by lia)) ?_
              intro W179 hW180
              have hI181 : Inv W179 := by rw [hW180]; exact inv_set hI (i_any _)
              have hF182 : Fr [98, 99, 100, 102, 103] [] M W179 := by rw [hW180]; exact fr_arr fr_rfl (by decide)
              refine And.intro (vpI (c := 2) (by decide) (by lia) (by lia)) ?_
              refine And.intro (vpI (c := 12) (by decide) (by lia) (by lia)) ?_
              refine And.intro (vpI (c := 2) (by decide) (by lia) (by lia)) ?_
              intro W183 hW184
              have hI185 : Inv W183 := by rw [hW184]; exact inv_set hI181 (i_any _)
              have hF186 : Fr [98, 99, 100, 102, 103] [] M W183 := by rw [hW184]; exact fr_arr hF182 (by decide)
              refine And.intro (vpI (c := 16) (by decide) (by lia) (by lia)) ?_
              intro W187 hW188
              have hI189 : Inv W187 := by rw [hW188]; exact inv_98 hI185 (by unfold Th; lia)
              have hF190 : Fr [98, 99, 100, 102, 103] [] M W187 := by rw [hW188]; exact fr_arr hF186 (by decide)
              refine And.intro (vpI (c := 16) (by decide) (by lia) (by lia)) ?_
              intro W191 hW192
              have hI193 : Inv W191 := by rw [hW192]; exact inv_set hI189 (i_any _)
              have hF194 : Fr [98, 99, 100, 102, 103] [] M W191 := by rw [hW192]; exact fr_arr hF190 (by decide)
              refine ifs (fun hc195 => ?_) (fun hc196 => ?_)
              · skip
                exact hp _ _ hI193 hF194 trivial
              · skip
                refine ifs (fun hc197 => ?_) (fun hc198 => ?_)
                · skip
                  unfold wX11_works_232
                  refine And.intro (vpI (c := 8) (by decide) (by lia) (by lia)) ?_
                  intro W199 hW200
                  have hI201 : Inv W199 := by rw [hW200]; exact inv_set hI193 (i_any _)
                  have hF202 : Fr [98, 99, 100, 102, 103] [] M W199 := by rw [hW200]; exact fr_arr hF194 (by decide)
                  exact hp _ _ hI201 hF202 trivial
                · skip
                  unfold wX11_works_232
                  refine And.intro (vpI (c := 8) (by decide) (by lia) (by lia)) ?_
                  intro W203 hW204
                  have hI205 : Inv W203 := by rw [hW204]; exact inv_set hI193 (i_any _)
                  have hF206 : Fr [98, 99, 100, 102, 103] [] M W203 := by rw [hW204]; exact fr_arr hF194 (by decide)
                  exact hp _ _ hI205 hF206 trivial
            · skip
              refine And.intro (vpI (c := 12) (by decide) (by lia) (by lia)) ?_
              intro W207 hW208
              have hI209 : Inv W207 := by rw [hW208]; exact inv_set hI (i_any _)
              have hF210 : Fr [98, 99, 100, 102, 103] [] M W207 := by rw [hW208]; exact fr_arr fr_rfl (by decide)
              exact hp _ _ hI209 hF210 trivial
      · skip
        unfold wX11_works_102
        refine And.intro (vpI (c := 12) (by decide) (by lia) (by lia)) ?_
        intro W211 hW212
        have hI213 : Inv W211 := by rw [hW212]; exact inv_set hI (i_any _)
        have hF214 : Fr [98, 99, 100, 102, 103] [] M W211 := by rw [hW212]; exact fr_arr fr_rfl (by decide)
        exact hp _ _ hI213 hF214 trivial
  · skip
    unfold wX11_works_102
    refine And.intro (vpI (c := 12) (by decide) (by lia) (by lia)) ?_
    intro W215 hW216
    have hI217 : Inv W215 := by rw [hW216]; exact inv_set hI (i_any _)
    have hF218 : Fr [98, 99, 100, 102, 103] [] M W215 := by rw [hW216]; exact fr_arr fr_rfl (by decide)
    exact hp _ _ hI217 hF218 trivial
set_option maxHeartbeats 4000000 in
theorem sl_X11_goMonth_62 {post : MM → Int64 → Prop} {Mb : MM} (hp : ∀ (M1 : MM) (t1 : Int64), Inv M1 → Fr [98, 99, 100, 101, 102, 103] [] Mb M1 → True → post M1 t1) : ∀ v2 : Int32, 0 ≤ v2 → v2 ≤ 8 → ∃ n, ∀ (M : MM) (tl : Int64), Inv M → Fr [98, 99, 100, 101, 102, 103] [] Mb M → (True) → wX11_goMonth_62 post n M tl v2 := by
  refine up_ex (P := fun d v2 => ∀ (M : MM) (tl : Int64), Inv M → Fr [98, 99, 100, 101, 102, 103] [] Mb M → (True) → wX11_goMonth_62 post d M tl v2) 0 8 ?_
  intro d v2 hlo hhi rec M tl  hI hF hli
  unfold wX11_goMonth_62
  have hr1 := iv_81_2 hI
  refine ifs (fun hc2 => ?_) (fun hc3 => ?_)
  · skip
    exact hp _ _ hI hF trivial
  · skip
    refine sf_X11_matchOf hI  (fun r4 hq5 => ?_)
    refine ifs (fun hc6 => ?_) (fun hc7 => ?_)
    · skip
      unfold wX11_goMonth_108
      unfold wX11_goMonth_109
      refine sf_X11_isEven hI (by lia) (fun r8 hq9 => ?_)
      refine ifs (fun hc10 => ?_) (fun hc11 => ?_)
      · skip
        refine ifs (fun hc12 => ?_) (fun hc13 => ?_)
        · skip
          refine And.intro (vpI (c := 8) (by decide) (by lia) (by lia)) ?_
          refine ifs (fun hc14 => ?_) (fun hc15 => ?_)
          · skip
            unfold wX11_goMonth_222
            refine And.intro (vpI (c := 8) (by decide) (by lia) (by lia)) ?_
            refine ifs (fun hc16 => ?_) (fun hc17 => ?_)
            · skip
              refine ifs (fun hc18 => ?_) (fun hc19 => ?_)
              · skip
                unfold wX11_goMonth_246
                refine And.intro (vpI (c := 8) (by decide) (by lia) (by lia)) ?_
                intro W20 hW21
                have hI22 : Inv W20 := by rw [hW21]; exact inv_set hI (i_any _)
                have hF23 : Fr [98, 99, 100, 101, 102, 103] [] Mb W20 := by rw [hW21]; exact fr_arr hF (by decide)
                exact rec (by lia) _ _  hI22 hF23 trivial
              · skip
                unfold wX11_goMonth_241
                unfold wX11_goMonth_246
                refine And.intro (vpI (c := 8) (by decide) (by lia) (by lia)) ?_
                intro W24 hW25
                have hI26 : Inv W24 := by rw [hW25]; exact inv_set hI (i_any _)
                have hF27 : Fr [98, 99, 100, 101, 102, 103] [] Mb W24 := by rw [hW25]; exact fr_arr hF (by decide)
                exact rec (by lia) _ _  hI26 hF27 trivial
            · skip
              unfold wX11_goMonth_241
              unfold wX11_goMonth_246
              refine And.intro (vpI (c := 8) (by decide) (by lia) (by lia)) ?_
              intro W28 hW29
              have hI30 : Inv W28 := by rw [hW29]; exact inv_set hI (i_any _)
              have hF31 : Fr [98, 99, 100, 101, 102, 103] [] Mb W28 := by rw [hW29]; exact fr_arr hF (by decide)
              exact rec (by lia) _ _  hI30 hF31 trivial
          · skip
            refine And.intro (vpI (c := 8) (by decide) (by lia) (by lia)) ?_
            refine ifs (fun hc32 => ?_) (fun hc33 => ?_)
            · skip
              unfold wX11_goMonth_156
              refine ifs (fun hc34 => ?_) (fun hc35 => ?_)
              · skip
                unfold wX11_goMonth_171
                refine And.intro (vpI (c := 16) (by decide) (by lia) (by lia)) ?_
                have hr36 := iv_98 hI (((8 : Int32) + r4)).toNatClampNeg
                unfold Th at hr36
                refine sf_X11_mirrorOf hI (by lia) (fun r37 hq38 => ?_)
                refine And.intro (vpI (c := 16) (by decide) (by lia) (by lia)) ?_
                intro W39 hW40
                have hI41 : Inv W39 := by rw [hW40]; exact inv_98 hI (by unfold Th; lia)
                have hF42 : Fr [98, 99, 100, 101, 102, 103] [] Mb W39 := by rw [hW40]; exact fr_arr hF (by decide)
                refine And.intro (vpI (c := 2) (by decide) (by lia) (by lia)) ?_
                refine And.intro (vpI (c := 16) (by decide) (by lia) (by lia)) ?_
                have hr43 := iv_98 hI41 (v2).toNatClampNeg
                unfold Th at hr43
                refine And.intro (vpI (c := 12) (by decide) (by lia) (by lia)) ?_
                refine And.intro (vpI (c := 2) (by decide) (by lia) (by lia)) ?_
                intro W44 hW45
                have hI46 : Inv W44 := by rw [hW45]; exact inv_set hI41 (i_any _)
                have hF47 : Fr [98, 99, 100, 101, 102, 103] [] Mb W44 := by rw [hW45]; exact fr_arr hF42 (by decide)
                unfold wX11_goMonth_222
                refine And.intro (vpI (c := 8) (by decide) (by lia) (by lia)) ?_
                refine ifs (fun hc48 => ?_) (fun hc49 => ?_)
                · skip
                  refine ifs (fun hc50 => ?_) (fun hc51 => ?_)
                  · skip
                    unfold wX11_goMonth_246
                    refine And.intro (vpI (c := 8) (by decide) (by lia) (by lia)) ?_
                    intro W52 hW53
                    have hI54 : Inv W52 := by rw [hW53]; exact inv_set hI46 (i_any _)
                    have hF55 : Fr [98, 99, 100, 101, 102, 103] [] Mb W52 := by rw [hW53]; exact fr_arr hF47 (by decide)
                    exact rec (by lia) _ _  hI54 hF55 trivial
                  · skip
                    unfold wX11_goMonth_241
                    unfold wX11_goMonth_246
                    refine And.intro (vpI (c := 8) (by decide) (by lia) (by lia)) ?_
                    intro W56 hW57
                    have hI58 : Inv W56 := by rw [hW57]; exact inv_set hI46 (i_any _)
                    have hF59 : Fr [98, 99, 100, 101, 102, 103] [] Mb W56 := by rw [hW57]; exact fr_arr hF47 (by decide)
                    exact rec (by lia) _ _  hI58 hF59 trivial
                · skip
                  unfold wX11_goMonth_241
                  unfold wX11_goMonth_246
                  refine And.intro (vpI (c := 8) (by decide) (by lia) (by lia)) ?_
                  intro W60 hW61
                  have hI62 : Inv W60 := by rw [hW61]; exact inv_set hI46 (i_any _)
                  have hF63 : Fr [98, 99, 100, 101, 102, 103] [] Mb W60 := by rw [hW61]; exact fr_arr hF47 (by decide)
                  exact rec (by lia) _ _  hI62 hF63 trivial
              · skip
                unfold wX11_goMonth_171
                refine And.intro (vpI (c := 16) (by decide) (by lia) (by lia)) ?_
                have hr64 := iv_98 hI (v2).toNatClampNeg
                unfold Th at hr64
                refine sf_X11_mirrorOf hI (by lia) (fun r65 hq66 => ?_)
                refine And.intro (vpI (c := 16) (by decide) (by lia) (by lia)) ?_
                intro W67 hW68
                have hI69 : Inv W67 := by rw [hW68]; exact inv_98 hI (by unfold Th; lia)
                have hF70 : Fr [98, 99, 100, 101, 102, 103] [] Mb W67 := by rw [hW68]; exact fr_arr hF (by decide)
                refine And.intro (vpI (c := 2) (by decide) (by lia) (by lia)) ?_
                refine And.intro (vpI (c := 16) (by decide) (by lia) (by lia)) ?_
                have hr71 := iv_98 hI69 (v2).toNatClampNeg
                unfold Th at hr71
                refine And.intro (vpI (c := 12) (by decide) (by lia) (by lia)) ?_
                refine And.intro (vpI (c := 2) (by decide) (by lia) (by lia)) ?_
                intro W72 hW73
                have hI74 : Inv W72 := by rw [hW73]; exact inv_set hI69 (i_any _)
                have hF75 : Fr [98, 99, 100, 101, 102, 103] [] Mb W72 := by rw [hW73]; exact fr_arr hF70 (by decide)
                unfold wX11_goMonth_222
                refine And.intro (vpI (c := 8) (by decide) (by lia) (by lia)) ?_
                refine ifs (fun hc76 => ?_) (fun hc77 => ?_)
                · skip
                  refine ifs (fun hc78 => ?_) (fun hc79 => ?_)
                  · skip
                    unfold wX11_goMonth_246
                    refine And.intro (vpI (c := 8) (by decide) (by lia) (by lia)) ?_
                    intro W80 hW81
                    have hI82 : Inv W80 := by rw [hW81]; exact inv_set hI74 (i_any _)
                    have hF83 : Fr [98, 99, 100, 101, 102, 103] [] Mb W80 := by rw [hW81]; exact fr_arr hF75 (by decide)
                    exact rec (by lia) _ _  hI82 hF83 trivial
                  · skip
                    unfold wX11_goMonth_241
                    unfold wX11_goMonth_246
                    refine And.intro (vpI (c := 8) (by decide) (by lia) (by lia)) ?_
                    intro W84 hW85
                    have hI86 : Inv W84 := by rw [hW85]; exact inv_set hI74 (i_any _)
                    have hF87 : Fr [98, 99, 100, 101, 102, 103] [] Mb W84 := by rw [hW85]; exact fr_arr hF75 (by decide)
                    exact rec (by lia) _ _  hI86 hF87 trivial
                · skip
                  unfold wX11_goMonth_241
                  unfold wX11_goMonth_246
                  refine And.intro (vpI (c := 8) (by decide) (by lia) (by lia)) ?_
                  intro W88 hW89
                  have hI90 : Inv W88 := by rw [hW89]; exact inv_set hI74 (i_any _)
                  have hF91 : Fr [98, 99, 100, 101, 102, 103] [] Mb W88 := by rw [hW89]; exact fr_arr hF75 (by decide)
                  exact rec (by lia) _ _  hI90 hF91 trivial
            · skip
              unfold wX11_goMonth_156
              refine ifs (fun hc92 => ?_) (fun hc93 => ?_)
              · skip
                unfold wX11_goMonth_171
                refine And.intro (vpI (c := 16) (by decide) (by lia) (by lia)) ?_
                have hr94 := iv_98 hI (((8 : Int32) + r4)).toNatClampNeg
                unfold Th at hr94
                refine sf_X11_mirrorOf hI (by lia) (fun r95 hq96 => ?_)
                refine And.intro (vpI (c := 16) (by decide) (by lia) (by lia)) ?_
                intro W97 hW98
                have hI99 : Inv W97 := by rw [hW98]; exact inv_98 hI (by unfold Th; lia)
                have hF100 : Fr [98, 99, 100, 101, 102, 103] [] Mb W97 := by rw [hW98]; exact fr_arr hF (by decide)
                refine And.intro (vpI (c := 2) (by decide) (by lia) (by lia)) ?_
                refine And.intro (vpI (c := 16) (by decide) (by lia) (by lia)) ?_
                have hr101 := iv_98 hI99 (((8 : Int32) + r4)).toNatClampNeg
                unfold Th at hr101
                refine And.intro (vpI (c := 12) (by decide) (by lia) (by lia)) ?_
                refine And.intro (vpI (c := 2) (by decide) (by lia) (by lia)) ?_
                intro W102 hW103
                have hI104 : Inv W102 := by rw [hW103]; exact inv_set hI99 (i_any _)
                have hF105 : Fr [98, 99, 100, 101, 102, 103] [] Mb W102 := by rw [hW103]; exact fr_arr hF100 (by decide)
                unfold wX11_goMonth_222
                refine And.intro (vpI (c := 8) (by decide) (by lia) (by lia)) ?_
                refine ifs (fun hc106 => ?_) (fun hc107 => ?_)
                · skip
                  refine ifs (fun hc108 => ?_) (fun hc109 => ?_)
                  · skip
                    unfold wX11_goMonth_246
                    refine And.intro (vpI (c := 8) (by decide) (by lia) (by lia)) ?_
                    intro W110 hW111
                    have hI112 : Inv W110 := by rw [hW111]; exact inv_set hI104 (i_any _)
                    have hF113 : Fr [98, 99, 100, 101, 102, 103] [] Mb W110 := by rw [hW111]; exact fr_arr hF105 (by decide)
                    exact rec (by lia) _ _  hI112 hF113 trivial
                  · skip
                    unfold wX11_goMonth_241
                    unfold wX11_goMonth_246
                    refine And.intro (vpI (c := 8) (by decide) (by lia) (by lia)) ?_
                    intro W114 hW115
                    have hI116 : Inv W114 := by rw [hW115]; exact inv_set hI104 (i_any _)
                    have hF117 : Fr [98, 99, 100, 101, 102, 103] [] Mb W114 := by rw [hW115]; exact fr_arr hF105 (by decide)
                    exact rec (by lia) _ _  hI116 hF117 trivial
                · skip
                  unfold wX11_goMonth_241
                  unfold wX11_goMonth_246
                  refine And.intro (vpI (c := 8) (by decide) (by lia) (by lia)) ?_
                  intro W118 hW119
                  have hI120 : Inv W118 := by rw [hW119]; exact inv_set hI104 (i_any _)
                  have hF121 : Fr [98, 99, 100, 101, 102, 103] [] Mb W118 := by rw [hW119]; exact fr_arr hF105 (by decide)
                  exact rec (by lia) _ _  hI120 hF121 trivial
              · skip
                unfold wX11_goMonth_171
                refine And.intro (vpI (c := 16) (by decide) (by lia) (by lia)) ?_
                have hr122 := iv_98 hI (v2).toNatClampNeg
                unfold Th at hr122
                refine sf_X11_mirrorOf hI (by lia) (fun r123 hq124 => ?_)
                refine And.intro (vpI (c := 16) (by decide) (by lia) (by lia)) ?_
                intro W125 hW126
                have hI127 : Inv W125 := by rw [hW126]; exact inv_98 hI (by unfold Th; lia)
                have hF128 : Fr [98, 99, 100, 101, 102, 103] [] Mb W125 := by rw [hW126]; exact fr_arr hF (by decide)
                refine And.intro (vpI (c := 2) (by decide) (by lia) (by lia)) ?_
                refine And.intro (vpI (c := 16) (by decide) (by lia) (by lia)) ?_
                have hr129 := iv_98 hI127 (((8 : Int32) + r4)).toNatClampNeg
                unfold Th at hr129
                refine And.intro (vpI (c := 12) (by decide) (by lia) (by lia)) ?_
                refine And.intro (vpI (c := 2) (by decide) (by lia) (by lia)) ?_
                intro W130 hW131
                have hI132 : Inv W130 := by rw [hW131]; exact inv_set hI127 (i_any _)
                have hF133 : Fr [98, 99, 100, 101, 102, 103] [] Mb W130 := by rw [hW131]; exact fr_arr hF128 (by decide)
                unfold wX11_goMonth_222
                refine And.intro (vpI (c := 8) (by decide) (by lia) (by lia)) ?_
                refine ifs (fun hc134 => ?_) (fun hc135 => ?_)
                · skip
                  refine ifs (fun hc136 => ?_) (fun hc137 => ?_)
                  · skip
                    unfold wX11_goMonth_246
                    refine And.intro (vpI (c := 8) (by decide) (by lia) (by lia)) ?_
                    intro W138 hW139
                    have hI140 : Inv W138 := by rw [hW139]; exact inv_set hI132 (i_any _)
                    have hF141 : Fr [98, 99, 100, 101, 102, 103] [] Mb W138 := by rw [hW139]; exact fr_arr hF133 (by decide)
                    exact rec (by lia) _ _  hI140 hF141 trivial
                  · skip
                    unfold wX11_goMonth_241
                    unfold wX11_goMonth_246
                    refine And.intro (vpI (c := 8) (by decide) (by lia) (by lia)) ?_
                    intro W142 hW143
                    have hI144 : Inv W142 := by rw [hW143]; exact inv_set hI132 (i_any _)
                    have hF145 : Fr [98, 99, 100, 101, 102, 103] [] Mb W142 := by rw [hW143]; exact fr_arr hF133 (by decide)
                    exact rec (by lia) _ _  hI144 hF145 trivial
                · skip
                  unfold wX11_goMonth_241
                  unfold wX11_goMonth_246
                  refine And.intro (vpI (c := 8) (by decide) (by lia) (by lia)) ?_
                  intro W146 hW147
                  have hI148 : Inv W146 := by rw [hW147]; exact inv_set hI132 (i_any _)
                  have hF149 : Fr [98, 99, 100, 101, 102, 103] [] Mb W146 := by rw [hW147]; exact fr_arr hF133 (by decide)
                  exact rec (by lia) _ _  hI148 hF149 trivial
        · skip
          unfold wX11_goMonth_222
          refine And.intro (vpI (c := 8) (by decide) (by lia) (by lia)) ?_
          refine ifs (fun hc150 => ?_) (fun hc151 => ?_)
          · skip
            refine ifs (fun hc152 => ?_) (fun hc153 => ?_)
            · skip
              unfold wX11_goMonth_246
              refine And.intro (vpI (c := 8) (by decide) (by lia) (by lia)) ?_
              intro W154 hW155
              have hI156 : Inv W154 := by rw [hW155]; exact inv_set hI (i_any _)
              have hF157 : Fr [98, 99, 100, 101, 102, 103] [] Mb W154 := by rw [hW155]; exact fr_arr hF (by decide)
              exact rec (by lia) _ _  hI156 hF157 trivial
            · skip
              unfold wX11_goMonth_241
              unfold wX11_goMonth_246
              refine And.intro (vpI (c := 8) (by decide) (by lia) (by lia)) ?_
              intro W158 hW159
              have hI160 : Inv W158 := by rw [hW159]; exact inv_set hI (i_any _)
              have hF161 : Fr [98, 99, 100, 101, 102, 103] [] Mb W158 := by rw [hW159]; exact fr_arr hF (by decide)
              exact rec (by lia) _ _  hI160 hF161 trivial
          · skip
            unfold wX11_goMonth_241
            unfold wX11_goMonth_246
            refine And.intro (vpI (c := 8) (by decide) (by lia) (by lia)) ?_
            intro W162 hW163
            have hI164 : Inv W162 := by rw [hW163]; exact inv_set hI (i_any _)
            have hF165 : Fr [98, 99, 100, 101, 102, 103] [] Mb W162 := by rw [hW163]; exact fr_arr hF (by decide)
            exact rec (by lia) _ _  hI164 hF165 trivial
      · skip
        unfold wX11_goMonth_222
        refine And.intro (vpI (c := 8) (by decide) (by lia) (by lia)) ?_
        refine ifs (fun hc166 => ?_) (fun hc167 => ?_)
        · skip
          refine ifs (fun hc168 => ?_) (fun hc169 => ?_)
          · skip
            unfold wX11_goMonth_246
            refine And.intro (vpI (c := 8) (by decide) (by lia) (by lia)) ?_
            intro W170 hW171
            have hI172 : Inv W170 := by rw [hW171]; exact inv_set hI (i_any _)
            have hF173 : Fr [98, 99, 100, 101, 102, 103] [] Mb W170 := by rw [hW171]; exact fr_arr hF (by decide)
            exact rec (by lia) _ _  hI172 hF173 trivial
          · skip
            unfold wX11_goMonth_241
            unfold wX11_goMonth_246
            refine And.intro (vpI (c := 8) (by decide) (by lia) (by lia)) ?_
            intro W174 hW175
            have hI176 : Inv W174 := by rw [hW175]; exact inv_set hI (i_any _)
            have hF177 : Fr [98, 99, 100, 101, 102, 103] [] Mb W174 := by rw [hW175]; exact fr_arr hF (by decide)
            exact rec (by lia) _ _  hI176 hF177 trivial
        · skip
          unfold wX11_goMonth_241
          unfold wX11_goMonth_246
          refine And.intro (vpI (c := 8) (by decide) (by lia) (by lia)) ?_
          intro W178 hW179
          have hI180 : Inv W178 := by rw [hW179]; exact inv_set hI (i_any _)
          have hF181 : Fr [98, 99, 100, 101, 102, 103] [] Mb W178 := by rw [hW179]; exact fr_arr hF (by decide)
          exact rec (by lia) _ _  hI180 hF181 trivial
    · skip
      refine And.intro (vpI (c := 16) (by decide) (by lia) (by lia)) ?_
      refine ifs (fun hc182 => ?_) (fun hc183 => ?_)
      · skip
        refine And.intro (vpI (c := 16) (by decide) (by lia) (by lia)) ?_
        refine ifs (fun hc184 => ?_) (fun hc185 => ?_)
        · skip
          unfold wX11_goMonth_108
          unfold wX11_goMonth_109
          refine sf_X11_isEven hI (by lia) (fun r186 hq187 => ?_)
          refine ifs (fun hc188 => ?_) (fun hc189 => ?_)
          · skip
            refine ifs (fun hc190 => ?_) (fun hc191 => ?_)
            · skip
              refine And.intro (vpI (c := 8) (by decide) (by lia) (by lia)) ?_
              refine ifs (fun hc192 => ?_) (fun hc193 => ?_)
              · skip
                unfold wX11_goMonth_222
                refine And.intro (vpI (c := 8) (by decide) (by lia) (by lia)) ?_
                refine ifs (fun hc194 => ?_) (fun hc195 => ?_)
                · skip
                  refine ifs (fun hc196 => ?_) (fun hc197 => ?_)
                  · skip
                    unfold wX11_goMonth_246
                    refine And.intro (vpI (c := 8) (by decide) (by lia) (by lia)) ?_
                    intro W198 hW199
                    have hI200 : Inv W198 := by rw [hW199]; exact inv_set hI (i_any _)
                    have hF201 : Fr [98, 99, 100, 101, 102, 103] [] Mb W198 := by rw [hW199]; exact fr_arr hF (by decide)
                    exact rec (by lia) _ _  hI200 hF201 trivial
                  · skip
                    unfold wX11_goMonth_241
                    unfold wX11_goMonth_246
                    refine And.intro (vpI (c := 8) (by decide) (by lia) (by lia)) ?_
                    intro W202 hW203
                    have hI204 : Inv W202 := by rw [hW203]; exact inv_set hI (i_any _)
                    have hF205 : Fr [98, 99, 100, 101, 102, 103] [] Mb W202 := by rw [hW203]; exact fr_arr hF (by decide)
                    exact rec (by lia) _ _  hI204 hF205 trivial
                · skip
                  unfold wX11_goMonth_241
                  unfold wX11_goMonth_246
                  refine And.intro (vpI (c := 8) (by decide) (by lia) (by lia)) ?_
                  intro W206 hW207
                  have hI208 : Inv W206 := by rw [hW207]; exact inv_set hI (i_any _)
                  have hF209 : Fr [98, 99, 100, 101, 102, 103] [] Mb W206 := by rw [hW207]; exact fr_arr hF (by decide)
                  exact rec (by lia) _ _  hI208 hF209 trivial
              · skip
                refine And.intro (vpI (c := 8) (by decide) (by lia) (by lia)) ?_
                refine ifs (fun hc210 => ?_) (fun hc211 => ?_)
                · skip
                  unfold wX11_goMonth_156
                  refine ifs (fun hc212 => ?_) (fun hc213 => ?_)
                  · skip
                    unfold wX11_goMonth_171
                    refine And.intro (vpI (c := 16) (by decide) (by lia) (by lia)) ?_
                    have hr214 := iv_98 hI (((8 : Int32) + r4)).toNatClampNeg
                    unfold Th at hr214
                    refine sf_X11_mirrorOf hI (by lia) (fun r215 hq216 => ?_)
                    refine And.intro (vpI (c := 16) (by decide) (by lia) (by lia)) ?_
                    intro W217 hW218
                    have hI219 : Inv W217 := by rw [hW218]; exact inv_98 hI (by unfold Th; lia)
                    have hF220 : Fr [98, 99, 100, 101, 102, 103] [] Mb W217 := by rw [hW218]; exact fr_arr hF (by decide)
                    refine And.intro (vpI (c := 2) (by decide) (by lia) (by lia)) ?_
                    refine And.intro (vpI (c := 16) (by decide) (by lia) (by lia)) ?_
                    have hr221 := iv_98 hI219 (v2).toNatClampNeg
                    unfold Th at hr221
                    refine And.intro (vpI (c := 12) (by decide) (by lia) (by lia)) ?_
                    refine And.intro (vpI (c := 2) (by decide) (by lia) (by lia)) ?_
                    intro W222 hW223
                    have hI224 : Inv W222 := by rw [hW223]; exact inv_set hI219 (i_any _)
                    have hF225 : Fr [98, 99, 100, 101, 102, 103] [] Mb W222 := by rw [hW223]; exact fr_arr hF220 (by decide)
                    unfold wX11_goMonth_222
                    refine And.intro (vpI (c := 8) (by decide) (by lia) (by lia)) ?_
                    refine ifs (fun hc226 => ?_) (fun hc227 => ?_)
                    · skip
                      refine ifs (fun hc228 => ?_) (fun hc229 => ?_)
                      · skip
                        unfold wX11_goMonth_246
                        refine And.intro (vpI (c := 8) (by decide) (by lia) (by lia)) ?_
                        intro W230 hW231
                        have hI232 : Inv W230 := by rw [hW231]; exact inv_set hI224 (i_any _)
                        have hF233 : Fr [98, 99, 100, 101, 102, 103] [] Mb W230 := by rw [hW231]; exact fr_arr hF225 (by decide)
                        exact rec (by lia) _ _  hI232 hF233 trivial
                      · skip
                        unfold wX11_goMonth_241
                        unfold wX11_goMonth_246
                        refine And.intro (vpI (c := 8) (by decide) (by lia) (by lia)) ?_
                        intro W234 hW235
                        have hI236 : Inv W234 := by rw [hW235]; exact inv_set hI224 (i_any _)
                        have hF237 : Fr [98, 99, 100, 101, 102, 103] [] Mb W234 := by rw [hW235]; exact fr_arr hF225 (by decide)
                        exact rec (by lia) _ _  hI236 hF237 trivial
                    · skip
                      unfold wX11_goMonth_241
                      unfold wX11_goMonth_246
                      refine And.intro (vpI (c := 8) (by decide) (by lia) (by lia)) ?_
                      intro W238 hW239
                      have hI240 : Inv W238 := by rw [hW239]; exact inv_set hI224 (i_any _)
                      have hF241 : Fr [98, 99, 100, 101, 102, 103] [] Mb W238 := by rw [hW239]; exact fr_arr hF225 (by decide)
                      exact rec (by lia) _ _  hI240 hF241 trivial
                  · skip
                    unfold wX11_goMonth_171
                    refine And.intro (vpI (c := 16) (by decide) (by lia) (by lia)) ?_
                    have hr242 := iv_98 hI (v2).toNatClampNeg
                    unfold Th at hr242
                    refine sf_X11_mirrorOf hI (by lia) (fun r243 hq244 => ?_)
                    refine And.intro (vpI (c := 16) (by decide) (by lia) (by lia)) ?_
                    intro W245 hW246
                    have hI247 : Inv W245 := by rw [hW246]; exact inv_98 hI (by unfold Th; lia)
                    have hF248 : Fr [98, 99, 100, 101, 102, 103] [] Mb W245 := by rw [hW246]; exact fr_arr hF (by decide)
                    refine And.intro (vpI (c := 2) (by decide) (by lia) (by lia)) ?_
                    refine And.intro (vpI (c := 16) (by decide) (by lia) (by lia)) ?_
                    have hr249 := iv_98 hI247 (v2).toNatClampNeg
                    unfold Th at hr249
                    refine And.intro (vpI (c := 12) (by decide) (by lia) (by lia)) ?_
                    refine And.intro (vpI (c := 2) (by decide) (by lia) (by lia)) ?_
                    intro W250 hW251
                    have hI252 : Inv W250 := by rw [hW251]; exact inv_set hI247 (i_any _)
                    have hF253 : Fr [98, 99, 100, 101, 102, 103] [] Mb W250 := by rw [hW251]; exact fr_arr hF248 (by decide)
                    unfold wX11_goMonth_222
                    refine And.intro (vpI (c := 8) (by decide) (by lia) (by lia)) ?_
                    refine ifs (fun hc254 => ?_) (fun hc255 => ?_)
                    · skip
                      refine ifs (fun hc256 => ?_) (fun hc257 => ?_)
                      · skip
                        unfold wX11_goMonth_246
                        refine And.intro (vpI (c := 8) (by decide) (by lia) (by lia)) ?_
                        intro W258 hW259
                        have hI260 : Inv W258 := by rw [hW259]; exact inv_set hI252 (i_any _)
                        have hF261 : Fr [98, 99, 100, 101, 102, 103] [] Mb W258 := by rw [hW259]; exact fr_arr hF253 (by decide)
                        exact rec (by lia) _ _  hI260 hF261 trivial
                      · skip
                        unfold wX11_goMonth_241
                        unfold wX11_goMonth_246
                        refine And.intro (vpI (c := 8) (by decide) (by lia) (by lia)) ?_
                        intro W262 hW263
                        have hI264 : Inv W262 := by rw [hW263]; exact inv_set hI252 (i_any _)
                        have hF265 : Fr [98, 99, 100, 101, 102, 103] [] Mb W262 := by rw [hW263]; exact fr_arr hF253 (by decide)
                        exact rec (by lia) _ _  hI264 hF265 trivial
                    · skip
                      unfold wX11_goMonth_241
                      unfold wX11_goMonth_246
                      refine And.intro (vpI (c := 8) (by decide) (by lia) (by lia)) ?_
                      intro W266 hW267
                      have hI268 : Inv W266 := by rw [hW267]; exact inv_set hI252 (i_any _)
                      have hF269 : Fr [98, 99, 100, 101, 102, 103] [] Mb W266 := by rw [hW267]; exact fr_arr hF253 (by decide)
                      exact rec (by lia) _ _  hI268 hF269 trivial
                · skip
                  unfold wX11_goMonth_156
                  refine ifs (fun hc270 => ?_) (fun hc271 => ?_)
                  · skip
                    unfold wX11_goMonth_171
                    refine And.intro (vpI (c := 16) (by decide) (by lia) (by lia)) ?_
                    have hr272 := iv_98 hI (((8 : Int32) + r4)).toNatClampNeg
                    unfold Th at hr272
                    refine sf_X11_mirrorOf hI (by lia) (fun r273 hq274 => ?_)
                    refine And.intro (vpI (c := 16) (by decide) (by lia) (by lia)) ?_
                    intro W275 hW276
                    have hI277 : Inv W275 := by rw [hW276]; exact inv_98 hI (by unfold Th; lia)
                    have hF278 : Fr [98, 99, 100, 101, 102, 103] [] Mb W275 := by rw [hW276]; exact fr_arr hF (by decide)
                    refine And.intro (vpI (c := 2) (by decide) (by lia) (by lia)) ?_
                    refine And.intro (vpI (c := 16) (by decide) (by lia) (by lia)) ?_
                    have hr279 := iv_98 hI277 (((8 : Int32) + r4)).toNatClampNeg
                    unfold Th at hr279
                    refine And.intro (vpI (c := 12) (by decide) (by lia) (by lia)) ?_
                    refine And.intro (vpI (c := 2) (by decide) (by lia) (by lia)) ?_
                    intro W280 hW281
                    have hI282 : Inv W280 := by rw [hW281]; exact inv_set hI277 (i_any _)
                    have hF283 : Fr [98, 99, 100, 101, 102, 103] [] Mb W280 := by rw [hW281]; exact fr_arr hF278 (by decide)
                    unfold wX11_goMonth_222
                    refine And.intro (vpI (c := 8) (by decide) (by lia) (by lia)) ?_
                    refine ifs (fun hc284 => ?_) (fun hc285 => ?_)
                    · skip
                      refine ifs (fun hc286 => ?_) (fun hc287 => ?_)
                      · skip
                        unfold wX11_goMonth_246
                        refine And.intro (vpI (c := 8) (by decide) (by lia) (by lia)) ?_
                        intro W288 hW289
                        have hI290 : Inv W288 := by rw [hW289]; exact inv_set hI282 (i_any _)
                        have hF291 : Fr [98, 99, 100, 101, 102, 103] [] Mb W288 := by rw [hW289]; exact fr_arr hF283 (by decide)
                        exact rec (by lia) _ _  hI290 hF291 trivial
                      · skip
                        unfold wX11_goMonth_241
                        unfold wX11_goMonth_246
                        refine And.intro (vpI (c := 8) (by decide) (by lia) (by lia)) ?_
                        intro W292 hW293
                        have hI294 : Inv W292 := by rw [hW293]; exact inv_set hI282 (i_any _)
                        have hF295 : Fr [98, 99, 100, 101, 102, 103] [] Mb W292 := by rw [hW293]; exact fr_arr hF283 (by decide)
                        exact rec (by lia) _ _  hI294 hF295 trivial
                    · skip
                      unfold wX11_goMonth_241
                      unfold wX11_goMonth_246
                      refine And.intro (vpI (c := 8) (by decide) (by lia) (by lia)) ?_
                      intro W296 hW297
                      have hI298 : Inv W296 := by rw [hW297]; exact inv_set hI282 (i_any _)
                      have hF299 : Fr [98, 99, 100, 101, 102, 103] [] Mb W296 := by rw [hW297]; exact fr_arr hF283 (by decide)
                      exact rec (by lia) _ _  hI298 hF299 trivial
                  · skip
                    unfold wX11_goMonth_171
                    refine And.intro (vpI (c := 16) (by decide) (by lia) (by lia)) ?_
                    have hr300 := iv_98 hI (v2).toNatClampNeg
                    unfold Th at hr300
                    refine sf_X11_mirrorOf hI (by lia) (fun r301 hq302 => ?_)
                    refine And.intro (vpI (c := 16) (by decide) (by lia) (by lia)) ?_
                    intro W303 hW304
                    have hI305 : Inv W303 := by rw [hW304]; exact inv_98 hI (by unfold Th; lia)
                    have hF306 : Fr [98, 99, 100, 101, 102, 103] [] Mb W303 := by rw [hW304]; exact fr_arr hF (by decide)
                    refine And.intro (vpI (c := 2) (by decide) (by lia) (by lia)) ?_
                    refine And.intro (vpI (c := 16) (by decide) (by lia) (by lia)) ?_
                    have hr307 := iv_98 hI305 (((8 : Int32) + r4)).toNatClampNeg
                    unfold Th at hr307
                    refine And.intro (vpI (c := 12) (by decide) (by lia) (by lia)) ?_
                    refine And.intro (vpI (c := 2) (by decide) (by lia) (by lia)) ?_
                    intro W308 hW309
                    have hI310 : Inv W308 := by rw [hW309]; exact inv_set hI305 (i_any _)
                    have hF311 : Fr [98, 99, 100, 101, 102, 103] [] Mb W308 := by rw [hW309]; exact fr_arr hF306 (by decide)
                    unfold wX11_goMonth_222
                    refine And.intro (vpI (c := 8) (by decide) (by lia) (by lia)) ?_
                    refine ifs (fun hc312 => ?_) (fun hc313 => ?_)
                    · skip
                      refine ifs (fun hc314 => ?_) (fun hc315 => ?_)
                      · skip
                        unfold wX11_goMonth_246
                        refine And.intro (vpI (c := 8) (by decide) (by lia) (by lia)) ?_
                        intro W316 hW317
                        have hI318 : Inv W316 := by rw [hW317]; exact inv_set hI310 (i_any _)
                        have hF319 : Fr [98, 99, 100, 101, 102, 103] [] Mb W316 := by rw [hW317]; exact fr_arr hF311 (by decide)
                        exact rec (by lia) _ _  hI318 hF319 trivial
                      · skip
                        unfold wX11_goMonth_241
                        unfold wX11_goMonth_246
                        refine And.intro (vpI (c := 8) (by decide) (by lia) (by lia)) ?_
                        intro W320 hW321
                        have hI322 : Inv W320 := by rw [hW321]; exact inv_set hI310 (i_any _)
                        have hF323 : Fr [98, 99, 100, 101, 102, 103] [] Mb W320 := by rw [hW321]; exact fr_arr hF311 (by decide)
                        exact rec (by lia) _ _  hI322 hF323 trivial
                    · skip
                      unfold wX11_goMonth_241
                      unfold wX11_goMonth_246
                      refine And.intro (vpI (c := 8) (by decide) (by lia) (by lia)) ?_
                      intro W324 hW325
                      have hI326 : Inv W324 := by rw [hW325]; exact inv_set hI310 (i_any _)
                      have hF327 : Fr [98, 99, 100, 101, 102, 103] [] Mb W324 := by rw [hW325]; exact fr_arr hF311 (by decide)
                      exact rec (by lia) _ _  hI326 hF327 trivial
            · skip
              unfold wX11_goMonth_222
              refine And.intro (vpI (c := 8) (by decide) (by lia) (by lia)) ?_
              refine ifs (fun hc328 => ?_) (fun hc329 => ?_)
              · skip
                refine ifs (fun hc330 => ?_) (fun hc331 => ?_)
                · skip
                  unfold wX11_goMonth_246
                  refine And.intro (vpI (c := 8) (by decide) (by lia) (by lia)) ?_
                  intro W332 hW333
                  have hI334 : Inv W332 := by rw [hW333]; exact inv_set hI (i_any _)
                  have hF335 : Fr [98, 99, 100, 101, 102, 103] [] Mb W332 := by rw [hW333]; exact fr_arr hF (by decide)
                  exact rec (by lia) _ _  hI334 hF335 trivial
                · skip
                  unfold wX11_goMonth_241
                  unfold wX11_goMonth_246
                  refine And.intro (vpI (c := 8) (by decide) (by lia) (by lia)) ?_
                  intro W336 hW337
                  have hI338 : Inv W336 := by rw [hW337]; exact inv_set hI (i_any _)
                  have hF339 : Fr [98, 99, 100, 101, 102, 103] [] Mb W336 := by rw [hW337]; exact fr_arr hF (by decide)
                  exact rec (by lia) _ _  hI338 hF339 trivial
              · skip
                unfold wX11_goMonth_241
                unfold wX11_goMonth_246
                refine And.intro (vpI (c := 8) (by decide) (by lia) (by lia)) ?_
                intro W340 hW341
                have hI342 : Inv W340 := by rw [hW341]; exact inv_set hI (i_any _)
                have hF343 : Fr [98, 99, 100, 101, 102, 103] [] Mb W340 := by rw [hW341]; exact fr_arr hF (by decide)
                exact rec (by lia) _ _  hI342 hF343 trivial
          · skip
            unfold wX11_goMonth_222
            refine And.intro (vpI (c := 8) (by decide) (by lia) (by lia)) ?_
            refine ifs (fun hc344 => ?_) (fun hc345 => ?_)
            · skip
              refine ifs (fun hc346 => ?_) (fun hc347 => ?_)
              · skip
                unfold wX11_goMonth_246
                refine And.intro (vpI (c := 8) (by decide) (by lia) (by lia)) ?_
                intro W348 hW349
                have hI350 : Inv W348 := by rw [hW349]; exact inv_set hI (i_any _)
                have hF351 : Fr [98, 99, 100, 101, 102, 103] [] Mb W348 := by rw [hW349]; exact fr_arr hF (by decide)
                exact rec (by lia) _ _  hI350 hF351 trivial
              · skip
                unfold wX11_goMonth_241
                unfold wX11_goMonth_246
                refine And.intro (vpI (c := 8) (by decide) (by lia) (by lia)) ?_
                intro W352 hW353
                have hI354 : Inv W352 := by rw [hW353]; exact inv_set hI (i_any _)
                have hF355 : Fr [98, 99, 100, 101, 102, 103] [] Mb W352 := by rw [hW353]; exact fr_arr hF (by decide)
                exact rec (by lia) _ _  hI354 hF355 trivial
            · skip
              unfold wX11_goMonth_241
              unfold wX11_goMonth_246
              refine And.intro (vpI (c := 8) (by decide) (by lia) (by lia)) ?_
              intro W356 hW357
              have hI358 : Inv W356 := by rw [hW357]; exact inv_set hI (i_any _)
              have hF359 : Fr [98, 99, 100, 101, 102, 103] [] Mb W356 := by rw [hW357]; exact fr_arr hF (by decide)
              exact rec (by lia) _ _  hI358 hF359 trivial
        · skip
          unfold wX11_goMonth_104
          unfold wX11_goMonth_109
          refine sf_X11_isEven hI (by lia) (fun r360 hq361 => ?_)
          refine ifs (fun hc362 => ?_) (fun hc363 => ?_)
          · skip
            refine ifs (fun hc364 => ?_) (fun hc365 => ?_)
            · skip
              refine And.intro (vpI (c := 8) (by decide) (by lia) (by lia)) ?_
              refine ifs (fun hc366 => ?_) (fun hc367 => ?_)
              · skip
                unfold wX11_goMonth_222
                refine And.intro (vpI (c := 8) (by decide) (by lia) (by lia)) ?_
                refine ifs (fun hc368 => ?_) (fun hc369 => ?_)
                · skip
                  refine ifs (fun hc370 => ?_) (fun hc371 => ?_)
                  · skip
                    unfold wX11_goMonth_246
                    refine And.intro (vpI (c := 8) (by decide) (by lia) (by lia)) ?_
                    intro W372 hW373
                    have hI374 : Inv W372 := by rw [hW373]; exact inv_set hI (i_any _)
                    have hF375 : Fr [98, 99, 100, 101, 102, 103] [] Mb W372 := by rw [hW373]; exact fr_arr hF (by decide)
                    exact rec (by lia) _ _  hI374 hF375 trivial
                  · skip
                    unfold wX11_goMonth_241
                    unfold wX11_goMonth_246
                    refine And.intro (vpI (c := 8) (by decide) (by lia) (by lia)) ?_
                    intro W376 hW377
                    have hI378 : Inv W376 := by rw [hW377]; exact inv_set hI (i_any _)
                    have hF379 : Fr [98, 99, 100, 101, 102, 103] [] Mb W376 := by rw [hW377]; exact fr_arr hF (by decide)
                    exact rec (by lia) _ _  hI378 hF379 trivial
                · skip
                  unfold wX11_goMonth_241
                  unfold wX11_goMonth_246
                  refine And.intro (vpI (c := 8) (by decide) (by lia) (by lia)) ?_
                  intro W380 hW381
                  have hI382 : Inv W380 := by rw [hW381]; exact inv_set hI (i_any _)
                  have hF383 : Fr [98, 99, 100, 101, 102, 103] [] Mb W380 := by rw [hW381]; exact fr_arr hF (by decide)
                  exact rec (by lia) _ _  hI382 hF383 trivial
              · skip
                refine And.intro (vpI (c := 8) (by decide) (by lia) (by lia)) ?_
                refine ifs (fun hc384 => ?_) (fun hc385 => ?_)
                · skip
                  unfold wX11_goMonth_156
                  refine ifs (fun hc386 => ?_) (fun hc387 => ?_)
                  · skip
                    unfold wX11_goMonth_171
                    refine And.intro (vpI (c := 16) (by decide) (by lia) (by lia)) ?_
                    have hr388 := iv_98 hI (((8 : Int32) + r4)).toNatClampNeg
                    unfold Th at hr388
                    refine sf_X11_mirrorOf hI (by lia) (fun r389 hq390 => ?_)
                    refine And.intro (vpI (c := 16) (by decide) (by lia) (by lia)) ?_
                    intro W391 hW392
                    have hI393 : Inv W391 := by rw [hW392]; exact inv_98 hI (by unfold Th; lia)
                    have hF394 : Fr [98, 99, 100, 101, 102, 103] [] Mb W391 := by rw [hW392]; exact fr_arr hF (by decide)
                    refine And.intro (vpI (c := 2) (by decide) (by lia) (by lia)) ?_
                    refine And.intro (vpI (c := 16) (by decide) (by lia) (by lia)) ?_
                    have hr395 := iv_98 hI393 (v2).toNatClampNeg
                    unfold Th at hr395
                    refine And.intro (vpI (c := 12) (by decide) (by lia) (by lia)) ?_
                    refine And.intro (vpI (c := 2) (by decide) (by lia) (by lia)) ?_
                    intro W396 hW397
                    have hI398 : Inv W396 := by rw [hW397]; exact inv_set hI393 (i_any _)
                    have hF399 : Fr [98, 99, 100, 101, 102, 103] [] Mb W396 := by rw [hW397]; exact fr_arr hF394 (by decide)
                    unfold wX11_goMonth_222
                    refine And.intro (vpI (c := 8) (by decide) (by lia) (by lia)) ?_
                    refine ifs (fun hc400 => ?_) (fun hc401 => ?_)
                    · skip
                      refine ifs (fun hc402 => ?_) (fun hc403 => ?_)
                      · skip
                        unfold wX11_goMonth_246
                        refine And.intro (vpI (c := 8) (by decide) (by lia) (by lia)) ?_
                        intro W404 hW405
                        have hI406 : Inv W404 := by rw [hW405]; exact inv_set hI398 (i_any _)
                        have hF407 : Fr [98, 99, 100, 101, 102, 103] [] Mb W404 := by rw [hW405]; exact fr_arr hF399 (by decide)
                        exact rec (by lia) _ _  hI406 hF407 trivial
                      · skip
                        unfold wX11_goMonth_241
                        unfold wX11_goMonth_246
                        refine And.intro (vpI (c := 8) (by decide) (by lia) (by lia)) ?_
                        intro W408 hW409
                        have hI410 : Inv W408 := by rw [hW409]; exact inv_set hI398 (i_any _)
                        have hF411 : Fr [98, 99, 100, 101, 102, 103] [] Mb W408 := by rw [hW409]; exact fr_arr hF399 (by decide)
                        exact rec (by lia) _ _  hI410 hF411 trivial
                    · skip
                      unfold wX11_goMonth_241
                      unfold wX11_goMonth_246
                      refine And.intro (vpI (c := 8) (by decide) (by lia) (by lia)) ?_
                      intro W412 hW413
                      have hI414 : Inv W412 := by rw [hW413]; exact inv_set hI398 (i_any _)
                      have hF415 : Fr [98, 99, 100, 101, 102, 103] [] Mb W412 := by rw [hW413]; exact fr_arr hF399 (by decide)
                      exact rec (by lia) _ _  hI414 hF415 trivial
                  · skip
                    unfold wX11_goMonth_171
                    refine And.intro (vpI (c := 16) (by decide) (by lia) (by lia)) ?_
                    have hr416 := iv_98 hI (v2).toNatClampNeg
                    unfold Th at hr416
                    refine sf_X11_mirrorOf hI (by lia) (fun r417 hq418 => ?_)
                    refine And.intro (vpI (c := 16) (by decide) (by lia) (by lia)) ?_
                    intro W419 hW420
                    have hI421 : Inv W419 := by rw [hW420]; exact inv_98 hI (by unfold Th; lia)
                    have hF422 : Fr [98, 99, 100, 101, 102, 103] [] Mb W419 := by rw [hW420]; exact fr_arr hF (by decide)
                    refine And.intro (vpI (c := 2) (by decide) (by lia) (by lia)) ?_
                    refine And.intro (vpI (c := 16) (by decide) (by lia) (by lia)) ?_
                    have hr423 := iv_98 hI421 (v2).toNatClampNeg
                    unfold Th at hr423
                    refine And.intro (vpI (c := 12) (by decide) (by lia) (by lia)) ?_
                    refine And.intro (vpI (c := 2) (by decide) (by lia) (by lia)) ?_
                    intro W424 hW425
                    have hI426 : Inv W424 := by rw [hW425]; exact inv_set hI421 (i_any _)
                    have hF427 : Fr [98, 99, 100, 101, 102, 103] [] Mb W424 := by rw [hW425]; exact fr_arr hF422 (by decide)
                    unfold wX11_goMonth_222
                    refine And.intro (vpI (c := 8) (by decide) (by lia) (by lia)) ?_
                    refine ifs (fun hc428 => ?_) (fun hc429 => ?_)
                    · skip
                      refine ifs (fun hc430 => ?_) (fun hc431 => ?_)
                      · skip
                        unfold wX11_goMonth_246
                        refine And.intro (vpI (c := 8) (by decide) (by lia) (by lia)) ?_
                        intro W432 hW433
                        have hI434 : Inv W432 := by rw [hW433]; exact inv_set hI426 (i_any _)
                        have hF435 : Fr [98, 99, 100, 101, 102, 103] [] Mb W432 := by rw [hW433]; exact fr_arr hF427 (by decide)
                        exact rec (by lia) _ _  hI434 hF435 trivial
                      · skip
                        unfold wX11_goMonth_241
                        unfold wX11_goMonth_246
                        refine And.intro (vpI (c := 8) (by decide) (by lia) (by lia)) ?_
                        intro W436 hW437
                        have hI438 : Inv W436 := by rw [hW437]; exact inv_set hI426 (i_any _)
                        have hF439 : Fr [98, 99, 100, 101, 102, 103] [] Mb W436 := by rw [hW437]; exact fr_arr hF427 (by decide)
                        exact rec (by lia) _ _  hI438 hF439 trivial
                    · skip
                      unfold wX11_goMonth_241
                      unfold wX11_goMonth_246
                      refine And.intro (vpI (c := 8) (by decide) (by lia) (by lia)) ?_
                      intro W440 hW441
                      have hI442 : Inv W440 := by rw [hW441]; exact inv_set hI426 (i_any _)
                      have hF443 : Fr [98, 99, 100, 101, 102, 103] [] Mb W440 := by rw [hW441]; exact fr_arr hF427 (by decide)
                      exact rec (by lia) _ _  hI442 hF443 trivial
                · skip
                  unfold wX11_goMonth_156
                  refine ifs (fun hc444 => ?_) (fun hc445 => ?_)
                  · skip
                    unfold wX11_goMonth_171
                    refine And.intro (vpI (c := 16) (by decide) (by lia) (by lia)) ?_
                    have hr446 := iv_98 hI (((8 : Int32) + r4)).toNatClampNeg
                    unfold Th at hr446
                    refine sf_X11_mirrorOf hI (by lia) (fun r447 hq448 => ?_)
                    refine And.intro (vpI (c := 16) (by decide) (by lia) (by lia)) ?_
                    intro W449 hW450
                    have hI451 : Inv W449 := by rw [hW450]; exact inv_98 hI (by unfold Th; lia)
                    have hF452 : Fr [98, 99, 100, 101, 102, 103] [] Mb W449 := by rw [hW450]; exact fr_arr hF (by decide)
                    refine And.intro (vpI (c := 2) (by decide) (by lia) (by lia)) ?_
                    refine And.intro (vpI (c := 16) (by decide) (by lia) (by lia)) ?_
                    have hr453 := iv_98 hI451 (((8 : Int32) + r4)).toNatClampNeg
                    unfold Th at hr453
                    refine And.intro (vpI (c := 12) (by decide) (by lia) (by lia)) ?_
                    refine And.intro (vpI (c := 2) (by decide) (by lia) (by lia)) ?_
                    intro W454 hW455
                    have hI456 : Inv W454 := by rw [hW455]; exact inv_set hI451 (i_any _)
                    have hF457 : Fr [98, 99, 100, 101, 102, 103] [] Mb W454 := by rw [hW455]; exact fr_arr hF452 (by decide)
                    unfold wX11_goMonth_222
                    refine And.intro (vpI (c := 8) (by decide) (by lia) (by lia)) ?_
                    refine ifs (fun hc458 => ?_) (fun hc459 => ?_)
                    · skip
                      refine ifs (fun hc460 => ?_) (fun hc461 => ?_)
                      · skip
                        unfold wX11_goMonth_246
                        refine And.intro (vpI (c := 8) (by decide) (by lia) (by lia)) ?_
                        intro W462 hW463
                        have hI464 : Inv W462 := by rw [hW463]; exact inv_set hI456 (i_any _)
                        have hF465 : Fr [98, 99, 100, 101, 102, 103] [] Mb W462 := by rw [hW463]; exact fr_arr hF457 (by decide)
                        exact rec (by lia) _ _  hI464 hF465 trivial
                      · skip
                        unfold wX11_goMonth_241
                        unfold wX11_goMonth_246
                        refine And.intro (vpI (c := 8) (by decide) (by lia) (by lia)) ?_
                        intro W466 hW467
                        have hI468 : Inv W466 := by rw [hW467]; exact inv_set hI456 (i_any _)
                        have hF469 : Fr [98, 99, 100, 101, 102, 103] [] Mb W466 := by rw [hW467]; exact fr_arr hF457 (by decide)
                        exact rec (by lia) _ _  hI468 hF469 trivial
                    · skip
                      unfold wX11_goMonth_241
                      unfold wX11_goMonth_246
                      refine And.intro (vpI (c := 8) (by decide) (by lia) (by lia)) ?_
                      intro W470 hW471
                      have hI472 : Inv W470 := by rw [hW471]; exact inv_set hI456 (i_any _)
                      have hF473 : Fr [98, 99, 100, 101, 102, 103] [] Mb W470 := by rw [hW471]; exact fr_arr hF457 (by decide)
                      exact rec (by lia) _ _  hI472 hF473 trivial
                  · skip
                    unfold wX11_goMonth_171
                    refine And.intro (vpI (c := 16) (by decide) (by lia) (by lia)) ?_
                    have hr474 := iv_98 hI (v2).toNatClampNeg
                    unfold Th at hr474
                    refine sf_X11_mirrorOf hI (by lia) (fun r475 hq476 => ?_)
                    refine And.intro (vpI (c := 16) (by decide) (by lia) (by lia)) ?_
                    intro W477 hW478
                    have hI479 : Inv W477 := by rw [hW478]; exact inv_98 hI (by unfold Th; lia)
                    have hF480 : Fr [98, 99, 100, 101, 102, 103] [] Mb W477 := by rw [hW478]; exact fr_arr hF (by decide)
                    refine And.intro (vpI (c := 2) (by decide) (by lia) (by lia)) ?_
                    refine And.intro (vpI (c := 16) (by decide) (by lia) (by lia)) ?_
                    have hr481 := iv_98 hI479 (((8 : Int32) + r4)).toNatClampNeg
                    unfold Th at hr481
                    refine And.intro (vpI (c := 12) (by decide) (by lia) (by lia)) ?_
                    refine And.intro (vpI (c := 2) (by decide) (by lia) (by lia)) ?_
                    intro W482 hW483
                    have hI484 : Inv W482 := by rw [hW483]; exact inv_set hI479 (i_any _)
                    have hF485 : Fr [98, 99, 100, 101, 102, 103] [] Mb W482 := by rw [hW483]; exact fr_arr hF480 (by decide)
                    unfold wX11_goMonth_222
                    refine And.intro (vpI (c := 8) (by decide) (by lia) (by lia)) ?_
                    refine ifs (fun hc486 => ?_) (fun hc487 => ?_)
                    · skip
                      refine ifs (fun hc488 => ?_) (fun hc489 => ?_)
                      · skip
                        unfold wX11_goMonth_246
                        refine And.intro (vpI (c := 8) (by decide) (by lia) (by lia)) ?_
                        intro W490 hW491
                        have hI492 : Inv W490 := by rw [hW491]; exact inv_set hI484 (i_any _)
                        have hF493 : Fr [98, 99, 100, 101, 102, 103] [] Mb W490 := by rw [hW491]; exact fr_arr hF485 (by decide)
                        exact rec (by lia) _ _  hI492 hF493 trivial
                      · skip
                        unfold wX11_goMonth_241
                        unfold wX11_goMonth_246
                        refine And.intro (vpI (c := 8) (by decide) (by lia) (by lia)) ?_
                        intro W494 hW495
                        have hI496 : Inv W494 := by rw [hW495]; exact inv_set hI484 (i_any _)
                        have hF497 : Fr [98, 99, 100, 101, 102, 103] [] Mb W494 := by rw [hW495]; exact fr_arr hF485 (by decide)
                        exact rec (by lia) _ _  hI496 hF497 trivial
                    · skip
                      unfold wX11_goMonth_241
                      unfold wX11_goMonth_246
                      refine And.intro (vpI (c := 8) (by decide) (by lia) (by lia)) ?_
                      intro W498 hW499
                      have hI500 : Inv W498 := by rw [hW499]; exact inv_set hI484 (i_any _)
                      have hF501 : Fr [98, 99, 100, 101, 102, 103] [] Mb W498 := by rw [hW499]; exact fr_arr hF485 (by decide)
                      exact rec (by lia) _ _  hI500 hF501 trivial
            · skip
              unfold wX11_goMonth_222
              refine And.intro (vpI (c := 8) (by decide) (by lia) (by lia)) ?_
              refine ifs (fun hc502 => ?_) (fun hc503 => ?_)
              · skip
                refine ifs (fun hc504 => ?_) (fun hc505 => ?_)
                · skip
                  unfold wX11_goMonth_246
                  refine And.intro (vpI (c := 8) (by decide) (by lia) (by lia)) ?_
                  intro W506 hW507
                  have hI508 : Inv W506 := by rw [hW507]; exact inv_set hI (i_any _)
                  have hF509 : Fr [98, 99, 100, 101, 102, 103] [] Mb W506 := by rw [hW507]; exact fr_arr hF (by decide)
                  exact rec (by lia) _ _  hI508 hF509 trivial
                · skip
                  unfold wX11_goMonth_241
                  unfold wX11_goMonth_246
                  refine And.intro (vpI (c := 8) (by decide) (by lia) (by lia)) ?_
                  intro W510 hW511
                  have hI512 : Inv W510 := by rw [hW511]; exact inv_set hI (i_any _)
                  have hF513 : Fr [98, 99, 100, 101, 102, 103] [] Mb W510 := by rw [hW511]; exact fr_arr hF (by decide)
                  exact rec (by lia) _ _  hI512 hF513 trivial
              · skip
                unfold wX11_goMonth_241
                unfold wX11_goMonth_246
                refine And.intro (vpI (c := 8) (by decide) (by lia) (by lia)) ?_
                intro W514 hW515
                have hI516 : Inv W514 := by rw [hW515]; exact inv_set hI (i_any _)
                have hF517 : Fr [98, 99, 100, 101, 102, 103] [] Mb W514 := by rw [hW515]; exact fr_arr hF (by decide)
                exact rec (by lia) _ _  hI516 hF517 trivial
          · skip
            unfold wX11_goMonth_222
            refine And.intro (vpI (c := 8) (by decide) (by lia) (by lia)) ?_
            refine ifs (fun hc518 => ?_) (fun hc519 => ?_)
            · skip
              refine ifs (fun hc520 => ?_) (fun hc521 => ?_)
              · skip
                unfold wX11_goMonth_246
                refine And.intro (vpI (c := 8) (by decide) (by lia) (by lia)) ?_
                intro W522 hW523
                have hI524 : Inv W522 := by rw [hW523]; exact inv_set hI (i_any _)
                have hF525 : Fr [98, 99, 100, 101, 102, 103] [] Mb W522 := by rw [hW523]; exact fr_arr hF (by decide)
                exact rec (by lia) _ _  hI524 hF525 trivial
              · skip
                unfold wX11_goMonth_241
                unfold wX11_goMonth_246
                refine And.intro (vpI (c := 8) (by decide) (by lia) (by lia)) ?_
                intro W526 hW527
                have hI528 : Inv W526 := by rw [hW527]; exact inv_set hI (i_any _)
                have hF529 : Fr [98, 99, 100, 101, 102, 103] [] Mb W526 := by rw [hW527]; exact fr_arr hF (by decide)
                exact rec (by lia) _ _  hI528 hF529 trivial
            · skip
              unfold wX11_goMonth_241
              unfold wX11_goMonth_246
              refine And.intro (vpI (c := 8) (by decide) (by lia) (by lia)) ?_
              intro W530 hW531
              have hI532 : Inv W530 := by rw [hW531]; exact inv_set hI (i_any _)
              have hF533 : Fr [98, 99, 100, 101, 102, 103] [] Mb W530 := by rw [hW531]; exact fr_arr hF (by decide)
              exact rec (by lia) _ _  hI532 hF533 trivial
      · skip
        unfold wX11_goMonth_104
        unfold wX11_goMonth_109
        refine sf_X11_isEven hI (by lia) (fun r534 hq535 => ?_)
        refine ifs (fun hc536 => ?_) (fun hc537 => ?_)
        · skip
          refine ifs (fun hc538 => ?_) (fun hc539 => ?_)
          · skip
            refine And.intro (vpI (c := 8) (by decide) (by lia) (by lia)) ?_
            refine ifs (fun hc540 => ?_) (fun hc541 => ?_)
            · skip
              unfold wX11_goMonth_222
              refine And.intro (vpI (c := 8) (by decide) (by lia) (by lia)) ?_
              refine ifs (fun hc542 => ?_) (fun hc543 => ?_)
              · skip
                refine ifs (fun hc544 => ?_) (fun hc545 => ?_)
                · skip
                  unfold wX11_goMonth_246
                  refine And.intro (vpI (c := 8) (by decide) (by lia) (by lia)) ?_
                  intro W546 hW547
                  have hI548 : Inv W546 := by rw [hW547]; exact inv_set hI (i_any _)
                  have hF549 : Fr [98, 99, 100, 101, 102, 103] [] Mb W546 := by rw [hW547]; exact fr_arr hF (by decide)
                  exact rec (by lia) _ _  hI548 hF549 trivial
                · skip
                  unfold wX11_goMonth_241
                  unfold wX11_goMonth_246
                  refine And.intro (vpI (c := 8) (by decide) (by lia) (by lia)) ?_
                  intro W550 hW551
                  have hI552 : Inv W550 := by rw [hW551]; exact inv_set hI (i_any _)
                  have hF553 : Fr [98, 99, 100, 101, 102, 103] [] Mb W550 := by rw [hW551]; exact fr_arr hF (by decide)
                  exact rec (by lia) _ _  hI552 hF553 trivial
              · skip
                unfold wX11_goMonth_241
                unfold wX11_goMonth_246
                refine And.intro (vpI (c := 8) (by decide) (by lia) (by lia)) ?_
                intro W554 hW555
                have hI556 : Inv W554 := by rw [hW555]; exact inv_set hI (i_any _)
                have hF557 : Fr [98, 99, 100, 101, 102, 103] [] Mb W554 := by rw [hW555]; exact fr_arr hF (by decide)
                exact rec (by lia) _ _  hI556 hF557 trivial
            · skip
              refine And.intro (vpI (c := 8) (by decide) (by lia) (by lia)) ?_
              refine ifs (fun hc558 => ?_) (fun hc559 => ?_)
              · skip
                unfold wX11_goMonth_156
                refine ifs (fun hc560 => ?_) (fun hc561 => ?_)
                · skip
                  unfold wX11_goMonth_171
                  refine And.intro (vpI (c := 16) (by decide) (by lia) (by lia)) ?_
                  have hr562 := iv_98 hI (((8 : Int32) + r4)).toNatClampNeg
                  unfold Th at hr562
                  refine sf_X11_mirrorOf hI (by lia) (fun r563 hq564 => ?_)
                  refine And.intro (vpI (c := 16) (by decide) (by lia) (by lia)) ?_
                  intro W565 hW566
                  have hI567 : Inv W565 := by rw [hW566]; exact inv_98 hI (by unfold Th; lia)
                  have hF568 : Fr [98, 99, 100, 101, 102, 103] [] Mb W565 := by rw [hW566]; exact fr_arr hF (by decide)
                  refine And.intro (vpI (c := 2) (by decide) (by lia) (by lia)) ?_
                  refine And.intro (vpI (c := 16) (by decide) (by lia) (by lia)) ?_
                  have hr569 := iv_98 hI567 (v2).toNatClampNeg
                  unfold Th at hr569
                  refine And.intro (vpI (c := 12) (by decide) (by lia) (by lia)) ?_
                  refine And.intro (vpI (c := 2) (by decide) (by lia) (by lia)) ?_
                  intro W570 hW571
                  have hI572 : Inv W570 := by rw [hW571]; exact inv_set hI567 (i_any _)
                  have hF573 : Fr [98, 99, 100, 101, 102, 103] [] Mb W570 := by rw [hW571]; exact fr_arr hF568 (by decide)
                  unfold wX11_goMonth_222
                  refine And.intro (vpI (c := 8) (by decide) (by lia) (by lia)) ?_
                  refine ifs (fun hc574 => ?_) (fun hc575 => ?_)
                  · skip
                    refine ifs (fun hc576 => ?_) (fun hc577 => ?_)
                    · skip
                      unfold wX11_goMonth_246
                      refine And.intro (vpI (c := 8) (by decide) (by lia) (by lia)) ?_
                      intro W578 hW579
                      have hI580 : Inv W578 := by rw [hW579]; exact inv_set hI572 (i_any _)
                      have hF581 : Fr [98, 99, 100, 101, 102, 103] [] Mb W578 := by rw [hW579]; exact fr_arr hF573 (by decide)
                      exact rec (by lia) _ _  hI580 hF581 trivial
                    · skip
                      unfold wX11_goMonth_241
                      unfold wX11_goMonth_246
                      refine And.intro (vpI (c := 8) (by decide) (by lia) (by lia)) ?_
                      intro W582 hW583
                      have hI584 : Inv W582 := by rw [hW583]; exact inv_set hI572 (i_any _)
                      have hF585 : Fr [98, 99, 100, 101, 102, 103] [] Mb W582 := by rw [hW583]; exact fr_arr hF573 (by decide)
                      exact rec (by lia) _ _  hI584 hF585 trivial
                  · skip
                    unfold wX11_goMonth_241
                    unfold wX11_goMonth_246
                    refine And.intro (vpI (c := 8) (by decide) (by lia) (by lia)) ?_
                    intro W586 hW587
                    have hI588 : Inv W586 := by rw [hW587]; exact inv_set hI572 (i_any _)
                    have hF589 : Fr [98, 99, 100, 101, 102, 103] [] Mb W586 := by rw [hW587]; exact fr_arr hF573 (by decide)
                    exact rec (by lia) _ _  hI588 hF589 trivial
                · skip
                  unfold wX11_goMonth_171
                  refine And.intro (vpI (c := 16) (by decide) (by lia) (by lia)) ?_
                  have hr590 := iv_98 hI (v2).toNatClampNeg
                  unfold Th at hr590
                  refine sf_X11_mirrorOf hI (by lia) (fun r591 hq592 => ?_)
                  refine And.intro (vpI (c := 16) (by decide) (by lia) (by lia)) ?_
                  intro W593 hW594
                  have hI595 : Inv W593 := by rw [hW594]; exact inv_98 hI (by unfold Th; lia)
                  have hF596 : Fr [98, 99, 100, 101, 102, 103] [] Mb W593 := by rw [hW594]; exact fr_arr hF (by decide)
                  refine And.intro (vpI (c := 2) (by decide) (by lia) (by lia)) ?_
                  refine And.intro (vpI (c := 16) (by decide) (by lia) (by lia)) ?_
                  have hr597 := iv_98 hI595 (v2).toNatClampNeg
                  unfold Th at hr597
                  refine And.intro (vpI (c := 12) (by decide) (by lia) (by lia)) ?_
                  refine And.intro (vpI (c := 2) (by decide) (by lia) (by lia)) ?_
                  intro W598 hW599
                  have hI600 : Inv W598 := by rw [hW599]; exact inv_set hI595 (i_any _)
                  have hF601 : Fr [98, 99, 100, 101, 102, 103] [] Mb W598 := by rw [hW599]; exact fr_arr hF596 (by decide)
                  unfold wX11_goMonth_222
                  refine And.intro (vpI (c := 8) (by decide) (by lia) (by lia)) ?_
                  refine ifs (fun hc602 => ?_) (fun hc603 => ?_)
                  · skip
                    refine ifs (fun hc604 => ?_) (fun hc605 => ?_)
                    · skip
                      unfold wX11_goMonth_246
                      refine And.intro (vpI (c := 8) (by decide) (by lia) (by lia)) ?_
                      intro W606 hW607
                      have hI608 : Inv W606 := by rw [hW607]; exact inv_set hI600 (i_any _)
                      have hF609 : Fr [98, 99, 100, 101, 102, 103] [] Mb W606 := by rw [hW607]; exact fr_arr hF601 (by decide)
                      exact rec (by lia) _ _  hI608 hF609 trivial
                    · skip
                      unfold wX11_goMonth_241
                      unfold wX11_goMonth_246
                      refine And.intro (vpI (c := 8) (by decide) (by lia) (by lia)) ?_
                      intro W610 hW611
                      have hI612 : Inv W610 := by rw [hW611]; exact inv_set hI600 (i_any _)
                      have hF613 : Fr [98, 99, 100, 101, 102, 103] [] Mb W610 := by rw [hW611]; exact fr_arr hF601 (by decide)
                      exact rec (by lia) _ _  hI612 hF613 trivial
                  · skip
                    unfold wX11_goMonth_241
                    unfold wX11_goMonth_246
                    refine And.intro (vpI (c := 8) (by decide) (by lia) (by lia)) ?_
                    intro W614 hW615
                    have hI616 : Inv W614 := by rw [hW615]; exact inv_set hI600 (i_any _)
                    have hF617 : Fr [98, 99, 100, 101, 102, 103] [] Mb W614 := by rw [hW615]; exact fr_arr hF601 (by decide)
                    exact rec (by lia) _ _  hI616 hF617 trivial
              · skip
                unfold wX11_goMonth_156
                refine ifs (fun hc618 => ?_) (fun hc619 => ?_)
                · skip
                  unfold wX11_goMonth_171
                  refine And.intro (vpI (c := 16) (by decide) (by lia) (by lia)) ?_
                  have hr620 := iv_98 hI (((8 : Int32) + r4)).toNatClampNeg
                  unfold Th at hr620
                  refine sf_X11_mirrorOf hI (by lia) (fun r621 hq622 => ?_)
                  refine And.intro (vpI (c := 16) (by decide) (by lia) (by lia)) ?_
                  intro W623 hW624
                  have hI625 : Inv W623 := by rw [hW624]; exact inv_98 hI (by unfold Th; lia)
                  have hF626 : Fr [98, 99, 100, 101, 102, 103] [] Mb W623 := by rw [hW624]; exact fr_arr hF (by decide)
                  refine And.intro (vpI (c := 2) (by decide) (by lia) (by lia)) ?_
                  refine And.intro (vpI (c := 16) (by decide) (by lia) (by lia)) ?_
                  have hr627 := iv_98 hI625 (((8 : Int32) + r4)).toNatClampNeg
                  unfold Th at hr627
                  refine And.intro (vpI (c := 12) (by decide) (by lia) (by lia)) ?_
                  refine And.intro (vpI (c := 2) (by decide) (by lia) (by lia)) ?_
                  intro W628 hW629
                  have hI630 : Inv W628 := by rw [hW629]; exact inv_set hI625 (i_any _)
                  have hF631 : Fr [98, 99, 100, 101, 102, 103] [] Mb W628 := by rw [hW629]; exact fr_arr hF626 (by decide)
                  unfold wX11_goMonth_222
                  refine And.intro (vpI (c := 8) (by decide) (by lia) (by lia)) ?_
                  refine ifs (fun hc632 => ?_) (fun hc633 => ?_)
                  · skip
                    refine ifs (fun hc634 => ?_) (fun hc635 => ?_)
                    · skip
                      unfold wX11_goMonth_246
                      refine And.intro (vpI (c := 8) (by decide) (by lia) (by lia)) ?_
                      intro W636 hW637
                      have hI638 : Inv W636 := by rw [hW637]; exact inv_set hI630 (i_any _)
                      have hF639 : Fr [98, 99, 100, 101, 102, 103] [] Mb W636 := by rw [hW637]; exact fr_arr hF631 (by decide)
                      exact rec (by lia) _ _  hI638 hF639 trivial
                    · skip
                      unfold wX11_goMonth_241
                      unfold wX11_goMonth_246
                      refine And.intro (vpI (c := 8) (by decide) (by lia) (by lia)) ?_
                      intro W640 hW641
                      have hI642 : Inv W640 := by rw [hW641]; exact inv_set hI630 (i_any _)
                      have hF643 : Fr [98, 99, 100, 101, 102, 103] [] Mb W640 := by rw [hW641]; exact fr_arr hF631 (by decide)
                      exact rec (by lia) _ _  hI642 hF643 trivial
                  · skip
                    unfold wX11_goMonth_241
                    unfold wX11_goMonth_246
                    refine And.intro (vpI (c := 8) (by decide) (by lia) (by lia)) ?_
                    intro W644 hW645
                    have hI646 : Inv W644 := by rw [hW645]; exact inv_set hI630 (i_any _)
                    have hF647 : Fr [98, 99, 100, 101, 102, 103] [] Mb W644 := by rw [hW645]; exact fr_arr hF631 (by decide)
                    exact rec (by lia) _ _  hI646 hF647 trivial
                · skip
                  unfold wX11_goMonth_171
                  refine And.intro (vpI (c := 16) (by decide) (by lia) (by lia)) ?_
                  have hr648 := iv_98 hI (v2).toNatClampNeg
                  unfold Th at hr648
                  refine sf_X11_mirrorOf hI (by lia) (fun r649 hq650 => ?_)
                  refine And.intro (vpI (c := 16) (by decide) (by lia) (by lia)) ?_
                  intro W651 hW652
                  have hI653 : Inv W651 := by rw [hW652]; exact inv_98 hI (by unfold Th; lia)
                  have hF654 : Fr [98, 99, 100, 101, 102, 103] [] Mb W651 := by rw [hW652]; exact fr_arr hF (by decide)
                  refine And.intro (vpI (c := 2) (by decide) (by lia) (by lia)) ?_
                  refine And.intro (vpI (c := 16) (by decide) (by lia) (by lia)) ?_
                  have hr655 := iv_98 hI653 (((8 : Int32) + r4)).toNatClampNeg
                  unfold Th at hr655
                  refine And.intro (vpI (c := 12) (by decide) (by lia) (by lia)) ?_
                  refine And.intro (vpI (c := 2) (by decide) (by lia) (by lia)) ?_
                  intro W656 hW657
                  have hI658 : Inv W656 := by rw [hW657]; exact inv_set hI653 (i_any _)
                  have hF659 : Fr [98, 99, 100, 101, 102, 103] [] Mb W656 := by rw [hW657]; exact fr_arr hF654 (by decide)
                  unfold wX11_goMonth_222
                  refine And.intro (vpI (c := 8) (by decide) (by lia) (by lia)) ?_
                  refine ifs (fun hc660 => ?_) (fun hc661 => ?_)
                  · skip
                    refine ifs (fun hc662 => ?_) (fun hc663 => ?_)
                    · skip
                      unfold wX11_goMonth_246
                      refine And.intro (vpI (c := 8) (by decide) (by lia) (by lia)) ?_
                      intro W664 hW665
                      have hI666 : Inv W664 := by rw [hW665]; exact inv_set hI658 (i_any _)
                      have hF667 : Fr [98, 99, 100, 101, 102, 103] [] Mb W664 := by rw [hW665]; exact fr_arr hF659 (by decide)
                      exact rec (by lia) _ _  hI666 hF667 trivial
                    · skip
                      unfold wX11_goMonth_241
                      unfold wX11_goMonth_246
                      refine And.intro (vpI (c := 8) (by decide) (by lia) (by lia)) ?_
                      intro W668 hW669
                      have hI670 : Inv W668 := by rw [hW669]; exact inv_set hI658 (i_any _)
                      have hF671 : Fr [98, 99, 100, 101, 102, 103] [] Mb W668 := by rw [hW669]; exact fr_arr hF659 (by decide)
                      exact rec (by lia) _ _  hI670 hF671 trivial
                  · skip
                    unfold wX11_goMonth_241
                    unfold wX11_goMonth_246
                    refine And.intro (vpI (c := 8) (by decide) (by lia) (by lia)) ?_
                    intro W672 hW673
                    have hI674 : Inv W672 := by rw [hW673]; exact inv_set hI658 (i_any _)
                    have hF675 : Fr [98, 99, 100, 101, 102, 103] [] Mb W672 := by rw [hW673]; exact fr_arr hF659 (by decide)
                    exact rec (by lia) _ _  hI674 hF675 trivial
          · skip
            unfold wX11_goMonth_222
            refine And.intro (vpI (c := 8) (by decide) (by lia) (by lia)) ?_
            refine ifs (fun hc676 => ?_) (fun hc677 => ?_)
            · skip
              refine ifs (fun hc678 => ?_) (fun hc679 => ?_)
              · skip
                unfold wX11_goMonth_246
                refine And.intro (vpI (c := 8) (by decide) (by lia) (by lia)) ?_
                intro W680 hW681
                have hI682 : Inv W680 := by rw [hW681]; exact inv_set hI (i_any _)
                have hF683 : Fr [98, 99, 100, 101, 102, 103] [] Mb W680 := by rw [hW681]; exact fr_arr hF (by decide)
                exact rec (by lia) _ _  hI682 hF683 trivial
              · skip
                unfold wX11_goMonth_241
                unfold wX11_goMonth_246
                refine And.intro (vpI (c := 8) (by decide) (by lia) (by lia)) ?_
                intro W684 hW685
                have hI686 : Inv W684 := by rw [hW685]; exact inv_set hI (i_any _)
                have hF687 : Fr [98, 99, 100, 101, 102, 103] [] Mb W684 := by rw [hW685]; exact fr_arr hF (by decide)
                exact rec (by lia) _ _  hI686 hF687 trivial
            · skip
              unfold wX11_goMonth_241
              unfold wX11_goMonth_246
              refine And.intro (vpI (c := 8) (by decide) (by lia) (by lia)) ?_
              intro W688 hW689
              have hI690 : Inv W688 := by rw [hW689]; exact inv_set hI (i_any _)
              have hF691 : Fr [98, 99, 100, 101, 102, 103] [] Mb W688 := by rw [hW689]; exact fr_arr hF (by decide)
              exact rec (by lia) _ _  hI690 hF691 trivial
        · skip
          unfold wX11_goMonth_222
          refine And.intro (vpI (c := 8) (by decide) (by lia) (by lia)) ?_
          refine ifs (fun hc692 => ?_) (fun hc693 => ?_)
          · skip
            refine ifs (fun hc694 => ?_) (fun hc695 => ?_)
            · skip
              unfold wX11_goMonth_246
              refine And.intro (vpI (c := 8) (by decide) (by lia) (by lia)) ?_
              intro W696 hW697
              have hI698 : Inv W696 := by rw [hW697]; exact inv_set hI (i_any _)
              have hF699 : Fr [98, 99, 100, 101, 102, 103] [] Mb W696 := by rw [hW697]; exact fr_arr hF (by decide)
              exact rec (by lia) _ _  hI698 hF699 trivial
            · skip
              unfold wX11_goMonth_241
              unfold wX11_goMonth_246
              refine And.intro (vpI (c := 8) (by decide) (by lia) (by lia)) ?_
              intro W700 hW701
              have hI702 : Inv W700 := by rw [hW701]; exact inv_set hI (i_any _)
              have hF703 : Fr [98, 99, 100, 101, 102, 103] [] Mb W700 := by rw [hW701]; exact fr_arr hF (by decide)
              exact rec (by lia) _ _  hI702 hF703 trivial
          · skip
            unfold wX11_goMonth_241
            unfold wX11_goMonth_246
            refine And.intro (vpI (c := 8) (by decide) (by lia) (by lia)) ?_
            intro W704 hW705
            have hI706 : Inv W704 := by rw [hW705]; exact inv_set hI (i_any _)
            have hF707 : Fr [98, 99, 100, 101, 102, 103] [] Mb W704 := by rw [hW705]; exact fr_arr hF (by decide)
            exact rec (by lia) _ _  hI706 hF707 trivial
set_option maxHeartbeats 4000000 in
theorem sl_X11_goMonth_23 {post : MM → Int64 → Prop} {Mb : MM} (hp : ∀ (M1 : MM) (t1 : Int64), Inv M1 → Fr [98, 99, 100, 101, 102, 103] [] Mb M1 → True → post M1 t1) : ∀ v2 : Int32, 0 ≤ v2 → v2 ≤ 12 → ∃ n, ∀ (M : MM) (tl : Int64) (v1 : Int32), Inv M → Fr [98, 99, 100, 101, 102, 103] [] Mb M → (True) → wX11_goMonth_23 post n M tl v1 v2 := by
  refine up_ex (P := fun d v2 => ∀ (M : MM) (tl : Int64) (v1 : Int32), Inv M → Fr [98, 99, 100, 101, 102, 103] [] Mb M → (True) → wX11_goMonth_23 post d M tl v1 v2) 0 12 ?_
  intro d v2 hlo hhi rec M tl v1 hI hF hli
  unfold wX11_goMonth_23
  refine And.intro (vpI (c := 381) (by decide) (by lia) (by lia)) ?_
  have hr1 := r82_16 hI
  refine ifs (fun hc2 => ?_) (fun hc3 => ?_)
  · skip
    obtain ⟨n4, hn5⟩ := sl_X11_goMonth_62 (Mb := Mb) hp  (0 : Int32) (by lia) (by lia)
    exact ⟨n4, hn5 _ _  hI hF trivial⟩
  · skip
    refine And.intro (vpI (c := 381) (by decide) (by lia) (by lia)) ?_
    have hr6 := r82_17_0 hI v2 (by lia) (by lia)
    refine ifs (fun hc7 => ?_) (fun hc8 => ?_)
    · skip
      refine sf_X11_works hI (by lia) (fun M10 t11 hI12 hF13 hq14 => ?_)
      have hF15 : Fr [98, 99, 100, 101, 102, 103] [] Mb M10 := fr_call hF hF13 (by decide) (by decide)
      unfold wX11_goMonth_54
      exact rec (by lia) _ _ v1 hI12 hF15 trivial
    · skip
      unfold wX11_goMonth_54
      exact rec (by lia) _ _ v1 hI hF trivial
set_option maxHeartbeats 4000000 in
theorem sl_X11_goMonth_2 {post : MM → Int64 → Prop} {Mb : MM} (hp : ∀ (M1 : MM) (t1 : Int64), Inv M1 → Fr [98, 99, 100, 101, 102, 103] [] Mb M1 → True → post M1 t1) : ∀ v2 : Int32, 0 ≤ v2 → v2 ≤ 16 → ∃ n, ∀ (M : MM) (tl : Int64) (v1 : Int32), Inv M → Fr [98, 99, 100, 101, 102, 103] [] Mb M → (True) → wX11_goMonth_2 post n M tl v1 v2 := by
  refine up_ex (P := fun d v2 => ∀ (M : MM) (tl : Int64) (v1 : Int32), Inv M → Fr [98, 99, 100, 101, 102, 103] [] Mb M → (True) → wX11_goMonth_2 post d M tl v1 v2) 0 16 ?_
  intro d v2 hlo hhi rec M tl v1 hI hF hli
  unfold wX11_goMonth_2
  refine ifs (fun hc1 => ?_) (fun hc2 => ?_)
  · skip
    obtain ⟨n3, hn4⟩ := sl_X11_goMonth_23 (Mb := Mb) hp  (0 : Int32) (by lia) (by lia)
    exact ⟨n3, hn4 _ _ v1 hI hF trivial⟩
  · skip
    refine And.intro (vpI (c := 16) (by decide) (by lia) (by lia)) ?_
    intro W5 hW6
    have hI7 : Inv W5 := by rw [hW6]; exact inv_set hI (i_any _)
    have hF8 : Fr [98, 99, 100, 101, 102, 103] [] Mb W5 := by rw [hW6]; exact fr_arr hF (by decide)
    exact rec (by lia) _ _ v1 hI7 hF8 trivial
set_option maxHeartbeats 4000000 in
theorem sf_X11_goMonth {post : MM → Int64 → Prop} {M : MM} {tl : Int64} {v1 : Int32} (hI : Inv M) (hp : ∀ (M1 : MM) (t1 : Int64), Inv M1 → Fr [98, 99, 100, 101, 102, 103] [] M M1 → True → post M1 t1) : wpX11_goMonth post M tl v1 := by
  unfold wpX11_goMonth
  obtain ⟨n1, hn2⟩ := sl_X11_goMonth_2 (Mb := M) hp  (0 : Int32) (by lia) (by lia)
  exact ⟨n1, hn2 _ _ v1 hI fr_rfl trivial⟩
set_option maxHeartbeats 4000000 in
theorem sl_X11_goRun_6 {post : MM → Int64 → Prop} {Mb : MM} (hp : ∀ (M1 : MM) (t1 : Int64), Inv M1 → Fr [98, 99, 100, 101, 102, 103] [] Mb M1 → True → post M1 t1) : ∀ v2 : Int32, 0 ≤ v2 → v2 ≤ 24 → ∃ n, ∀ (M : MM) (tl : Int64) (v1 : Int32), Inv M → Fr [98, 99, 100, 101, 102, 103] [] Mb M → (v1 ≤ 24) → wX11_goRun_6 post n M tl v1 v2 := by
  refine up_ex (P := fun d v2 => ∀ (M : MM) (tl : Int64) (v1 : Int32), Inv M → Fr [98, 99, 100, 101, 102, 103] [] Mb M → (v1 ≤ 24) → wX11_goRun_6 post d M tl v1 v2) 0 24 ?_
  intro d v2 hlo hhi rec M tl v1 hI hF hli
  unfold wX11_goRun_6
  refine ifs (fun hc1 => ?_) (fun hc2 => ?_)
  · skip
    exact hp _ _ hI hF trivial
  · skip
    refine sf_X11_goMonth hI  (fun M4 t5 hI6 hF7 hq8 => ?_)
    have hF9 : Fr [98, 99, 100, 101, 102, 103] [] Mb M4 := fr_call hF hF7 (by decide) (by decide)
    exact rec (by lia) _ _ v1 hI6 hF9 (by lia)
set_option maxHeartbeats 4000000 in
theorem sf_X11_goRun {post : MM → Int64 → Prop} {M : MM} {tl : Int64} {v1 : Int32} (hI : Inv M) (hp1 : v1 ≤ 24) (hp : ∀ (M1 : MM) (t1 : Int64), Inv M1 → Fr [98, 99, 100, 101, 102, 103] [] M M1 → True → post M1 t1) : wpX11_goRun post M tl v1 := by
  unfold wpX11_goRun
  refine sf_X11_startRun hI  (fun M2 t3 hI4 hF5 hq6 => ?_)
  have hF7 : Fr [98, 99, 100, 101, 102, 103] [] M M2 := fr_call fr_rfl hF5 (by decide) (by decide)
  obtain ⟨n8, hn9⟩ := sl_X11_goRun_6 (Mb := M) hp  (0 : Int32) (by lia) (by lia)
  exact ⟨n8, hn9 _ _ v1 hI4 hF7 (by lia)⟩
set_option maxHeartbeats 4000000 in
theorem sf_X11_after {post : Int32 → MM → Int64 → Prop} {M : MM} {tl : Int64} {v1 : Int32} {v2 : Int32} {v3 : Int32} (hI : Inv M) (hp : ∀ (r : Int32) (M1 : MM) (t1 : Int64), Inv M1 → Fr [98, 99, 100, 101, 102, 103] [] M M1 → True → post r M1 t1) : wpX11_after post M tl v1 v2 v3 := by
  unfold wpX11_after
  refine sf_X11_isMany hI  (fun r1 hq2 => ?_)
  refine ifs (fun hc3 => ?_) (fun hc4 => ?_)
  · skip
    exact hp _ _ _ hI fr_rfl trivial
  · skip
    refine sf_X11_isLot hI  (fun r5 hq6 => ?_)
    refine ifs (fun hc7 => ?_) (fun hc8 => ?_)
    · skip
      exact hp _ _ _ hI fr_rfl trivial
    · skip
      refine sf_X11_goRun hI (by lia) (fun M10 t11 hI12 hF13 hq14 => ?_)
      have hF15 : Fr [98, 99, 100, 101, 102, 103] [] M M10 := fr_call fr_rfl hF13 (by decide) (by decide)
      refine And.intro (vpI (c := 16) (by decide) (by lia) (by lia)) ?_
      have hr16 := iv_98 hI12 ((((8 : Int32) * v2) + v3)).toNatClampNeg
      unfold Th at hr16
      exact hp _ _ _ hI12 hF15 trivial
set_option maxHeartbeats 4000000 in
theorem sf_X11_paid {post : Int32 → MM → Int64 → Prop} {M : MM} {tl : Int64} {v1 : Int32} {v2 : Int32} (hI : Inv M) (hp : ∀ (r : Int32) (M1 : MM) (t1 : Int64), Inv M1 → Fr [98, 99, 100, 101, 102, 103] [] M M1 → True → post r M1 t1) : wpX11_paid post M tl v1 v2 := by
  unfold wpX11_paid
  refine sf_X11_isMany hI  (fun r1 hq2 => ?_)
  refine ifs (fun hc3 => ?_) (fun hc4 => ?_)
  · skip
    exact hp _ _ _ hI fr_rfl trivial
  · skip
    refine sf_X11_isBank hI  (fun r5 hq6 => ?_)
    refine ifs (fun hc7 => ?_) (fun hc8 => ?_)
    · skip
      exact hp _ _ _ hI fr_rfl trivial
    · skip
      refine sf_X11_goRun hI (by lia) (fun M10 t11 hI12 hF13 hq14 => ?_)
      have hF15 : Fr [98, 99, 100, 101, 102, 103] [] M M10 := fr_call fr_rfl hF13 (by decide) (by decide)
      refine And.intro (vpI (c := 2) (by decide) (by lia) (by lia)) ?_
      exact hp _ _ _ hI12 hF15 trivial
set_option maxHeartbeats 4000000 in
theorem sl_X11_owes_26 {post : Int32 → MM → Int64 → Prop} {M : MM} {tl : Int64} (hp : ∀ (r : Int32), True → post r M tl) (hI : Inv M) : ∀ v4 : Int32, 0 ≤ v4 → v4 ≤ 8 → ∃ n, ∀ (v2 : Int32) (v3 : Int32), (True) → wX11_owes_26 post n M tl v2 v3 v4 := by
  refine up_ex (P := fun d v4 => ∀ (v2 : Int32) (v3 : Int32), (True) → wX11_owes_26 post d M tl v2 v3 v4) 0 8 ?_
  intro d v4 hlo hhi rec v2 v3 hli
  unfold wX11_owes_26
  have hr1 := iv_81_2 hI
  refine ifs (fun hc2 => ?_) (fun hc3 => ?_)
  · skip
    exact hp _ trivial
  · skip
    refine sf_X11_isEven hI (by lia) (fun r4 hq5 => ?_)
    refine ifs (fun hc6 => ?_) (fun hc7 => ?_)
    · skip
      refine And.intro (vpI (c := 8) (by decide) (by lia) (by lia)) ?_
      refine ifs (fun hc8 => ?_) (fun hc9 => ?_)
      · skip
        refine ifs (fun hc10 => ?_) (fun hc11 => ?_)
        · skip
          unfold wX11_owes_75
          have hm12 : (0 : Int32) ≤ (v4 &&& (31 : Int32)) ∧ (v4 &&& (31 : Int32)) ≤ (31 : Int32) := andc v4 31 (by decide)
          unfold wX11_owes_78
          exact rec (by lia) v2 (v3 ||| ((1 : Int32) <<< (v4 &&& (31 : Int32)))) trivial
        · skip
          refine sf_X11_matchOf hI  (fun r13 hq14 => ?_)
          unfold wX11_owes_75
          have hm15 : (0 : Int32) ≤ (r13 &&& (31 : Int32)) ∧ (r13 &&& (31 : Int32)) ≤ (31 : Int32) := andc r13 31 (by decide)
          unfold wX11_owes_78
          exact rec (by lia) v2 (v3 ||| ((1 : Int32) <<< (r13 &&& (31 : Int32)))) trivial
      · skip
        unfold wX11_owes_78
        exact rec (by lia) v2 v3 trivial
    · skip
      unfold wX11_owes_78
      exact rec (by lia) v2 v3 trivial
set_option maxHeartbeats 4000000 in
theorem sf_X11_owes {post : Int32 → MM → Int64 → Prop} {M : MM} {tl : Int64} {v1 : Int32} {v2 : Int32} (hI : Inv M) (hp : ∀ (r : Int32) (M1 : MM) (t1 : Int64), Inv M1 → Fr [98, 99, 100, 101, 102, 103] [] M M1 → True → post r M1 t1) : wpX11_owes post M tl v1 v2 := by
  unfold wpX11_owes
  refine sf_X11_isMany hI  (fun r1 hq2 => ?_)
  refine ifs (fun hc3 => ?_) (fun hc4 => ?_)
  · skip
    exact hp _ _ _ hI fr_rfl trivial
  · skip
    refine sf_X11_isBank hI  (fun r5 hq6 => ?_)
    refine ifs (fun hc7 => ?_) (fun hc8 => ?_)
    · skip
      exact hp _ _ _ hI fr_rfl trivial
    · skip
      refine sf_X11_goRun hI (by lia) (fun M10 t11 hI12 hF13 hq14 => ?_)
      have hF15 : Fr [98, 99, 100, 101, 102, 103] [] M M10 := fr_call fr_rfl hF13 (by decide) (by decide)
      obtain ⟨n16, hn17⟩ := sl_X11_owes_26 (M := M10) (tl := t11) (fun r hq => hp r _ _ hI12 hF15 hq)  hI12 (0 : Int32) (by lia) (by lia)
      exact ⟨n16, hn17 v2 (0 : Int32) trivial⟩
set_option maxHeartbeats 4000000 in
theorem sf_X11_fate {post : Int32 → MM → Int64 → Prop} {M : MM} {tl : Int64} {v1 : Int32} (hI : Inv M) (hp : ∀ (r : Int32) (M1 : MM) (t1 : Int64), Inv M1 → Fr [98, 99, 100, 101, 102, 103] [] M M1 → True → post r M1 t1) : wpX11_fate post M tl v1 := by
  unfold wpX11_fate
  refine And.intro (vpI (c := 381) (by decide) (by lia) (by lia)) ?_
  have hr1 := r82_16 hI
  refine m_in (v := v1) (lo := 0) (hi := ((M 82 ((16 : Int32)).toNatClampNeg) - (1 : Int32))) rfl rfl rfl (fun hn2 hn3 => ?_) (fun hn4 => ?_)
  · skip
    refine ifs (fun hc5 => ?_) (fun hc6 => ?_)
    · skip
      exact hp _ _ _ hI fr_rfl trivial
    · skip
      refine sf_X11_goRun hI (by lia) (fun M8 t9 hI10 hF11 hq12 => ?_)
      have hF13 : Fr [98, 99, 100, 101, 102, 103] [] M M8 := fr_call fr_rfl hF11 (by decide) (by decide)
      refine And.intro (vpI (c := 12) (by decide) (by lia) (by lia)) ?_
      exact hp _ _ _ hI10 hF13 trivial
  · skip
    refine ifs (fun hc14 => ?_) (fun hc15 => ?_)
    · skip
      exact hp _ _ _ hI fr_rfl trivial
    · skip
      refine sf_X11_goRun hI (by lia) (fun M17 t18 hI19 hF20 hq21 => ?_)
      have hF22 : Fr [98, 99, 100, 101, 102, 103] [] M M17 := fr_call fr_rfl hF20 (by decide) (by decide)
      refine And.intro (vpI (c := 12) (by decide) (by lia) (by lia)) ?_
      exact hp _ _ _ hI19 hF22 trivial
set_option maxHeartbeats 4000000 in
theorem sl_X11_go_49 {post : Int32 → MM → Int64 → Prop} {Mb : MM} (hp : ∀ (r : Int32) (M1 : MM) (t1 : Int64), Inv M1 → Fr [82, 98, 99, 100, 101, 102, 103] [] Mb M1 → True → post r M1 t1) : ∀ v2 : Int32, 0 ≤ v2 → v2 ≤ 16 → ∃ n, ∀ (M : MM) (tl : Int64) (v1 : Int32), Inv M → Fr [82, 98, 99, 100, 101, 102, 103] [] Mb M → (True) → wX11_go_49 post n M tl v1 v2 := by
  refine up_ex (P := fun d v2 => ∀ (M : MM) (tl : Int64) (v1 : Int32), Inv M → Fr [82, 98, 99, 100, 101, 102, 103] [] Mb M → (True) → wX11_go_49 post d M tl v1 v2) 0 16 ?_
  intro d v2 hlo hhi rec M tl v1 hI hF hli
  unfold wX11_go_49
  refine ifs (fun hc1 => ?_) (fun hc2 => ?_)
  · skip
    refine And.intro (vpI (c := 381) (by decide) (by lia) (by lia)) ?_
    intro W3 hW4
    have hI5 : Inv W3 := by rw [hW4]; exact w82_16 hI _ ⟨by lia, by lia⟩
    have hF6 : Fr [82, 98, 99, 100, 101, 102, 103] [] Mb W3 := by rw [hW4]; exact fr_arr hF (by decide)
    exact hp _ _ _ hI5 hF6 trivial
  · skip
    refine And.intro (vpI (c := 16) (by decide) (by lia) (by lia)) ?_
    refine And.intro (vpI (c := 381) (by decide) (by lia) (by lia)) ?_
    have hr9 := iv_98 hI (v2).toNatClampNeg
    unfold Th at hr9
    intro W7 hW8
    have hI10 : Inv W7 := by rw [hW8]; exact w82_th hI _ _ (by lia) (by lia) (by unfold Th; lia)
    have hF11 : Fr [82, 98, 99, 100, 101, 102, 103] [] Mb W7 := by rw [hW8]; exact fr_arr hF (by decide)
    exact rec (by lia) _ _ v1 hI10 hF11 trivial
set_option maxHeartbeats 4000000 in
theorem sl_X11_go_10 {post : Int32 → MM → Int64 → Prop} {Mb : MM} (hp : ∀ (r : Int32) (M1 : MM) (t1 : Int64), Inv M1 → Fr [82, 98, 99, 100, 101, 102, 103] [] Mb M1 → True → post r M1 t1) : ∀ v2 : Int32, 0 ≤ v2 → v2 ≤ 12 → ∃ n, ∀ (M : MM) (tl : Int64) (v1 : Int32), Inv M → Fr [82, 98, 99, 100, 101, 102, 103] [] Mb M → (True) → wX11_go_10 post n M tl v1 v2 := by
  refine up_ex (P := fun d v2 => ∀ (M : MM) (tl : Int64) (v1 : Int32), Inv M → Fr [82, 98, 99, 100, 101, 102, 103] [] Mb M → (True) → wX11_go_10 post d M tl v1 v2) 0 12 ?_
  intro d v2 hlo hhi rec M tl v1 hI hF hli
  unfold wX11_go_10
  refine And.intro (vpI (c := 381) (by decide) (by lia) (by lia)) ?_
  have hr1 := r82_16 hI
  refine ifs (fun hc2 => ?_) (fun hc3 => ?_)
  · skip
    obtain ⟨n4, hn5⟩ := sl_X11_go_49 (Mb := Mb) hp  (0 : Int32) (by lia) (by lia)
    exact ⟨n4, hn5 _ _ v1 hI hF trivial⟩
  · skip
    refine And.intro (vpI (c := 12) (by decide) (by lia) (by lia)) ?_
    refine ifs (fun hc6 => ?_) (fun hc7 => ?_)
    · skip
      unfold wX11_go_36
      refine sf_X11_flag hI  (fun r8 hq9 => ?_)
      exact rec (by lia) _ _ (v1 + r8) hI hF trivial
    · skip
      unfold wX11_go_36
      refine sf_X11_flag hI  (fun r10 hq11 => ?_)
      exact rec (by lia) _ _ (v1 + r10) hI hF trivial
set_option maxHeartbeats 4000000 in
theorem sf_X11_go {post : Int32 → MM → Int64 → Prop} {M : MM} {tl : Int64} (hI : Inv M) (hp : ∀ (r : Int32) (M1 : MM) (t1 : Int64), Inv M1 → Fr [82, 98, 99, 100, 101, 102, 103] [] M M1 → True → post r M1 t1) : wpX11_go post M tl  := by
  unfold wpX11_go
  refine sf_X11_goRun hI (by lia) (fun M2 t3 hI4 hF5 hq6 => ?_)
  have hF7 : Fr [82, 98, 99, 100, 101, 102, 103] [] M M2 := fr_call fr_rfl hF5 (by decide) (by decide)
  obtain ⟨n8, hn9⟩ := sl_X11_go_10 (Mb := M) hp  (0 : Int32) (by lia) (by lia)
  exact ⟨n8, hn9 _ _ (0 : Int32) hI4 hF7 trivial⟩
