theorem ln_al_16 : nI (al 16) = (12 : Int32) := by decide
theorem ln_al_18 : nI (al 18) = (6 : Int32) := by decide
theorem ln_wd_16 : nI (wd 16) = (4 : Int32) := by decide
theorem ln_wd_18 : nI (wd 18) = (2 : Int32) := by decide
set_option maxHeartbeats 4000000 in
theorem sf_X10_isBank {post : Int32 → MM → Int64 → Prop} {M : MM} {tl : Int64} {v0 : Int32} (hI : Inv M) (hp : ∀ (r : Int32), ((r = 0 ∨ r = 1) ∧ (r ≠ 0 → 0 ≤ v0 ∧ v0 < 2)) → post r M tl) : wpX10_isBank post M tl v0 := by
  unfold wpX10_isBank
  refine ifs (fun hc1 => ?_) (fun hc2 => ?_)
  · skip
    exact hp _ (by lia)
  · skip
    refine ifs (fun hc3 => ?_) (fun hc4 => ?_)
    · skip
      exact hp _ (by lia)
    · skip
      exact hp _ (by lia)
set_option maxHeartbeats 4000000 in
theorem sf_X10_isSlot {post : Int32 → MM → Int64 → Prop} {M : MM} {tl : Int64} {v0 : Int32} {v1 : Int32} (hI : Inv M) (hp : ∀ (r : Int32), ((r = 0 ∨ r = 1) ∧ (r ≠ 0 → 0 ≤ v0 ∧ v0 < 2 ∧ 0 ≤ v1 ∧ v1 < 8)) → post r M tl) : wpX10_isSlot post M tl v0 v1 := by
  unfold wpX10_isSlot
  refine sf_X10_isBank hI  (fun r1 hq2 => ?_)
  refine ifs (fun hc3 => ?_) (fun hc4 => ?_)
  · skip
    exact hp _ (by lia)
  · skip
    refine ifs (fun hc5 => ?_) (fun hc6 => ?_)
    · skip
      exact hp _ (by lia)
    · skip
      refine ifs (fun hc7 => ?_) (fun hc8 => ?_)
      · skip
        exact hp _ (by lia)
      · skip
        exact hp _ (by lia)
set_option maxHeartbeats 4000000 in
theorem sf_X1_isLot__3 {post : Int32 → MM → Int64 → Prop} {M : MM} {tl : Int64} {v1 : Int32} {v2 : Int32} (hI : Inv M) (hp : ∀ (r : Int32), ((r = 0 ∨ r = 1) ∧ (r ≠ 0 → 0 ≤ v1 ∧ v1 < 2 ∧ 0 ≤ v2 ∧ v2 < 8)) → post r M tl) : wpX1_isLot post M tl 3 v1 v2 := by
  unfold wpX1_isLot
  refine sf_X10_isSlot hI  (fun r1 hq2 => ?_)
  refine ifs (fun hc3 => ?_) (fun hc4 => ?_)
  · skip
    exact hp _ (by lia)
  · skip
    refine And.intro (by decide) ?_
    have hr5 := iv_3_0 hI
    refine ifs (fun hc6 => ?_) (fun hc7 => ?_)
    · skip
      exact hp _ (by lia)
    · skip
      exact hp _ (by lia)
set_option maxHeartbeats 4000000 in
theorem sf_X10_isBuilt {post : Int32 → MM → Int64 → Prop} {M : MM} {tl : Int64} {v0 : Int32} (hI : Inv M) (hp : ∀ (r : Int32), ((r = 0 ∨ r = 1) ∧ (r ≠ 0 → 1 ≤ v0 ∧ v0 < 6)) → post r M tl) : wpX10_isBuilt post M tl v0 := by
  unfold wpX10_isBuilt
  refine ifs (fun hc1 => ?_) (fun hc2 => ?_)
  · skip
    exact hp _ (by lia)
  · skip
    refine ifs (fun hc3 => ?_) (fun hc4 => ?_)
    · skip
      exact hp _ (by lia)
    · skip
      exact hp _ (by lia)
set_option maxHeartbeats 4000000 in
theorem sf_X1_lacks__3 {post : Int32 → MM → Int64 → Prop} {M : MM} {tl : Int64} {v1 : Int32} {v2 : Int32} (hI : Inv M) (hp : ∀ (r : Int32), (r = 0 ∨ r = 1) → post r M tl) : wpX1_lacks post M tl 3 v1 v2 := by
  unfold wpX1_lacks
  refine sf_X10_isBank hI  (fun r1 hq2 => ?_)
  refine ifs (fun hc3 => ?_) (fun hc4 => ?_)
  · skip
    exact hp _ (by lia)
  · skip
    refine sf_X10_isBuilt hI  (fun r5 hq6 => ?_)
    refine ifs (fun hc7 => ?_) (fun hc8 => ?_)
    · skip
      exact hp _ (by lia)
    · skip
      refine And.intro (by decide) ?_
      refine And.intro (by decide) ?_
      refine And.intro (vpI (c := 2) (by decide) (by lia) (by lia)) ?_
      have hm9 : (0 : Int32) ≤ (((M (3 + 8) (v1).toNatClampNeg) >>> (v2 &&& (31 : Int32))) &&& (1 : Int32)) ∧ (((M (3 + 8) (v1).toNatClampNeg) >>> (v2 &&& (31 : Int32))) &&& (1 : Int32)) ≤ (1 : Int32) := andc ((M (3 + 8) (v1).toNatClampNeg) >>> (v2 &&& (31 : Int32))) 1 (by decide)
      have hm10 : (0 : Int32) ≤ (v2 &&& (31 : Int32)) ∧ (v2 &&& (31 : Int32)) ≤ (31 : Int32) := andc v2 31 (by decide)
      refine ifs (fun hc11 => ?_) (fun hc12 => ?_)
      · skip
        exact hp _ (by lia)
      · skip
        exact hp _ (by lia)
set_option maxHeartbeats 4000000 in
theorem sf_X1_matchBy__3 {post : Int32 → MM → Int64 → Prop} {M : MM} {tl : Int64} {v1 : Int32} {v2 : Int32} {v3 : Int32} (hI : Inv M) (hp : ∀ (r : Int32), (r = -4 ∨ (0 ≤ r ∧ r < 8)) → post r M tl) : wpX1_matchBy post M tl 3 v1 v2 v3 := by
  unfold wpX1_matchBy
  refine ifs (fun hc1 => ?_) (fun hc2 => ?_)
  · skip
    unfold wX1_matchBy_17
    refine ifs (fun hc3 => ?_) (fun hc4 => ?_)
    · skip
      exact hp _ (by lia)
    · skip
      refine And.intro (by decide) ?_
      have hr5 := iv_3_0 hI
      refine ifs (fun hc6 => ?_) (fun hc7 => ?_)
      · skip
        exact hp _ (by lia)
      · skip
        exact hp _ (by lia)
  · skip
    unfold wX1_matchBy_17
    refine ifs (fun hc8 => ?_) (fun hc9 => ?_)
    · skip
      exact hp _ (by lia)
    · skip
      refine And.intro (by decide) ?_
      have hr10 := iv_3_0 hI
      refine ifs (fun hc11 => ?_) (fun hc12 => ?_)
      · skip
        exact hp _ (by lia)
      · skip
        exact hp _ (by lia)
set_option maxHeartbeats 4000000 in
theorem sf_X1_matchOf__3 {post : Int32 → MM → Int64 → Prop} {M : MM} {tl : Int64} {v1 : Int32} {v2 : Int32} (hI : Inv M) (hp : ∀ (r : Int32), (r = -4 ∨ (0 ≤ r ∧ r < 8)) → post r M tl) : wpX1_matchOf post M tl 3 v1 v2 := by
  unfold wpX1_matchOf
  refine And.intro (by decide) ?_
  refine And.intro (by decide) ?_
  refine sf_X1_matchBy__3 hI  (fun r1 hq2 => ?_)
  exact hp _ (by lia)
set_option maxHeartbeats 4000000 in
theorem sf_X10_isKind {post : Int32 → MM → Int64 → Prop} {M : MM} {tl : Int64} {v0 : Int32} (hI : Inv M) (hp : ∀ (r : Int32), ((r = 0 ∨ r = 1) ∧ (r ≠ 0 → 0 ≤ v0 ∧ v0 < 6)) → post r M tl) : wpX10_isKind post M tl v0 := by
  unfold wpX10_isKind
  refine ifs (fun hc1 => ?_) (fun hc2 => ?_)
  · skip
    exact hp _ (by lia)
  · skip
    refine ifs (fun hc3 => ?_) (fun hc4 => ?_)
    · skip
      exact hp _ (by lia)
    · skip
      exact hp _ (by lia)
set_option maxHeartbeats 4000000 in
theorem sf_X1_twinOf__3 {post : Int32 → MM → Int64 → Prop} {M : MM} {tl : Int64} {v1 : Int32} (hI : Inv M) (hp : ∀ (r : Int32), True → post r M tl) : wpX1_twinOf post M tl 3 v1 := by
  unfold wpX1_twinOf
  refine sf_X10_isKind hI  (fun r1 hq2 => ?_)
  refine ifs (fun hc3 => ?_) (fun hc4 => ?_)
  · skip
    exact hp _ trivial
  · skip
    refine And.intro (by decide) ?_
    refine And.intro (by decide) ?_
    refine And.intro (vpI (c := 6) (by decide) (by lia) (by lia)) ?_
    exact hp _ trivial
set_option maxHeartbeats 4000000 in
theorem sf_X1_mayBuild__3 {post : Int32 → MM → Int64 → Prop} {M : MM} {tl : Int64} {v1 : Int32} {v2 : Int32} {v3 : Int32} (hI : Inv M) (hp : ∀ (r : Int32), (r = 0 ∨ r = 1) → post r M tl) : wpX1_mayBuild post M tl 3 v1 v2 v3 := by
  unfold wpX1_mayBuild
  refine And.intro (by decide) ?_
  refine sf_X1_lacks__3 hI  (fun r1 hq2 => ?_)
  refine ifs (fun hc3 => ?_) (fun hc4 => ?_)
  · skip
    refine And.intro (by decide) ?_
    refine sf_X1_matchOf__3 hI  (fun r5 hq6 => ?_)
    refine ifs (fun hc7 => ?_) (fun hc8 => ?_)
    · skip
      exact hp _ (by lia)
    · skip
      refine And.intro (by decide) ?_
      refine sf_X1_twinOf__3 hI  (fun r9 hq10 => ?_)
      refine And.intro (by decide) ?_
      refine sf_X1_lacks__3 hI  (fun r11 hq12 => ?_)
      refine ifs (fun hc13 => ?_) (fun hc14 => ?_)
      · skip
        exact hp _ (by lia)
      · skip
        exact hp _ (by lia)
  · skip
    exact hp _ (by lia)
set_option maxHeartbeats 4000000 in
theorem sf_X1_doorStays__3 {post : Int32 → MM → Int64 → Prop} {M : MM} {tl : Int64} {v1 : Int32} (hI : Inv M) (hp1 : 0 ≤ v1 ∧ v1 < 6) (hp : ∀ (r : Int32), (r = 0 ∨ r = 1) → post r M tl) : wpX1_doorStays post M tl 3 v1 := by
  unfold wpX1_doorStays
  refine And.intro (by decide) ?_
  have hm1 : (0 : Int32) ≤ (((M 3 3) >>> (v1 &&& (31 : Int32))) &&& (1 : Int32)) ∧ (((M 3 3) >>> (v1 &&& (31 : Int32))) &&& (1 : Int32)) ≤ (1 : Int32) := andc ((M 3 3) >>> (v1 &&& (31 : Int32))) 1 (by decide)
  have hm2 : (0 : Int32) ≤ (v1 &&& (31 : Int32)) ∧ (v1 &&& (31 : Int32)) ≤ (31 : Int32) := andc v1 31 (by decide)
  refine ifs (fun hc3 => ?_) (fun hc4 => ?_)
  · skip
    refine And.intro (by decide) ?_
    refine And.intro (by decide) ?_
    refine And.intro (by decide) ?_
    refine And.intro (vpI (c := 6) (by decide) (by lia) (by lia)) ?_
    have hm5 : (0 : Int32) ≤ (((M 3 3) >>> ((M (3 + 9) (v1).toNatClampNeg) &&& (31 : Int32))) &&& (1 : Int32)) ∧ (((M 3 3) >>> ((M (3 + 9) (v1).toNatClampNeg) &&& (31 : Int32))) &&& (1 : Int32)) ≤ (1 : Int32) := andc ((M 3 3) >>> ((M (3 + 9) (v1).toNatClampNeg) &&& (31 : Int32))) 1 (by decide)
    have hm6 : (0 : Int32) ≤ ((M (3 + 9) (v1).toNatClampNeg) &&& (31 : Int32)) ∧ ((M (3 + 9) (v1).toNatClampNeg) &&& (31 : Int32)) ≤ (31 : Int32) := andc (M (3 + 9) (v1).toNatClampNeg) 31 (by decide)
    refine ifs (fun hc7 => ?_) (fun hc8 => ?_)
    · skip
      exact hp _ (by lia)
    · skip
      exact hp _ (by lia)
  · skip
    exact hp _ (by lia)
set_option maxHeartbeats 4000000 in
theorem sf_X1_mirrorOf__3 {post : Int32 → MM → Int64 → Prop} {M : MM} {tl : Int64} {v1 : Int32} (hI : Inv M) (hp : ∀ (r : Int32), True → post r M tl) : wpX1_mirrorOf post M tl 3 v1 := by
  unfold wpX1_mirrorOf
  have hm1 : (0 : Int32) ≤ (v1 &&& (7 : Int32)) ∧ (v1 &&& (7 : Int32)) ≤ (7 : Int32) := andc v1 7 (by decide)
  refine sf_X10_isBuilt hI  (fun r2 hq3 => ?_)
  refine ifs (fun hc4 => ?_) (fun hc5 => ?_)
  · skip
    exact hp _ trivial
  · skip
    refine And.intro (by decide) ?_
    refine sf_X1_doorStays__3 hI (by lia) (fun r6 hq7 => ?_)
    refine ifs (fun hc8 => ?_) (fun hc9 => ?_)
    · skip
      have hm10 : (0 : Int32) ≤ (v1 &&& (32 : Int32)) ∧ (v1 &&& (32 : Int32)) ≤ (32 : Int32) := andc v1 32 (by decide)
      unfold wX1_mirrorOf_35
      refine And.intro (by decide) ?_
      refine And.intro (by decide) ?_
      refine And.intro (vpI (c := 6) (by decide) (by lia) (by lia)) ?_
      refine And.intro (by decide) ?_
      refine And.intro (by decide) ?_
      have hm11 : (0 : Int32) ≤ ((v1 >>> ((3 : Int32) &&& (31 : Int32))) &&& (3 : Int32)) ∧ ((v1 >>> ((3 : Int32) &&& (31 : Int32))) &&& (3 : Int32)) ≤ (3 : Int32) := andc (v1 >>> ((3 : Int32) &&& (31 : Int32))) 3 (by decide)
      have hm12 : (0 : Int32) ≤ ((3 : Int32) &&& (31 : Int32)) ∧ ((3 : Int32) &&& (31 : Int32)) ≤ (31 : Int32) := andc (3 : Int32) 31 (by decide)
      refine And.intro (vpI (c := 4) (by decide) (by lia) (by lia)) ?_
      exact hp _ trivial
    · skip
      have hm13 : (0 : Int32) ≤ (v1 &&& (32 : Int32)) ∧ (v1 &&& (32 : Int32)) ≤ (32 : Int32) := andc v1 32 (by decide)
      unfold wX1_mirrorOf_35
      refine And.intro (by decide) ?_
      refine And.intro (by decide) ?_
      refine And.intro (vpI (c := 6) (by decide) (by lia) (by lia)) ?_
      refine And.intro (by decide) ?_
      refine And.intro (by decide) ?_
      have hm14 : (0 : Int32) ≤ ((v1 >>> ((3 : Int32) &&& (31 : Int32))) &&& (3 : Int32)) ∧ ((v1 >>> ((3 : Int32) &&& (31 : Int32))) &&& (3 : Int32)) ≤ (3 : Int32) := andc (v1 >>> ((3 : Int32) &&& (31 : Int32))) 3 (by decide)
      have hm15 : (0 : Int32) ≤ ((3 : Int32) &&& (31 : Int32)) ∧ ((3 : Int32) &&& (31 : Int32)) ≤ (31 : Int32) := andc (3 : Int32) 31 (by decide)
      refine And.intro (vpI (c := 4) (by decide) (by lia) (by lia)) ?_
      exact hp _ trivial
set_option maxHeartbeats 4000000 in
theorem sf_X1_isEven__3 {post : Int32 → MM → Int64 → Prop} {M : MM} {tl : Int64} {v1 : Int32} {v2 : Int32} (hI : Inv M) (hp : ∀ (r : Int32), (r = 0 ∨ r = 1) → post r M tl) : wpX1_isEven post M tl 3 v1 v2 := by
  unfold wpX1_isEven
  refine And.intro (by decide) ?_
  refine sf_X1_mirrorOf__3 hI  (fun r1 hq2 => ?_)
  refine ifs (fun hc3 => ?_) (fun hc4 => ?_)
  · skip
    exact hp _ (by lia)
  · skip
    exact hp _ (by lia)
set_option maxHeartbeats 4000000 in
theorem sf_X5_cell__16 {post : Int32 → MM → Int64 → Prop} {M : MM} {tl : Int64} {v1 : Int32} {v2 : Int32} (hI : Inv M) (hp : ∀ (r : Int32), True → post r M tl) : wpX5_cell post M tl 16 v1 v2 := by
  unfold wpX5_cell
  simp only [ln_wd_16]
  refine ifs (fun hc1 => ?_) (fun hc2 => ?_)
  · skip
    exact hp _ trivial
  · skip
    refine And.intro (by decide) ?_
    have hr3 := iv_16_3 hI
    refine ifs (fun hc4 => ?_) (fun hc5 => ?_)
    · skip
      exact hp _ trivial
    · skip
      refine ifs (fun hc6 => ?_) (fun hc7 => ?_)
      · skip
        exact hp _ trivial
      · skip
        refine And.intro (by decide) ?_
        refine ifs (fun hc8 => ?_) (fun hc9 => ?_)
        · skip
          refine And.intro (by decide) ?_
          refine And.intro (by decide) ?_
          refine And.intro (by decide) ?_
          refine And.intro (vpI (c := 48) (by decide) (by lia) (by lia)) ?_
          exact hp _ trivial
        · skip
          exact hp _ trivial
set_option maxHeartbeats 4000000 in
theorem sf_X5_isFull__16 {post : Int32 → MM → Int64 → Prop} {M : MM} {tl : Int64} (hI : Inv M) (hp : ∀ (r : Int32), ((r = 0 ∨ r = 1) ∧ (r = 0 → M 16 3 < 12)) → post r M tl) : wpX5_isFull post M tl 16 := by
  unfold wpX5_isFull
  simp only [ln_al_16]
  refine And.intro (by decide) ?_
  refine And.intro (by decide) ?_
  have hr1 := iv_16_3 hI
  refine ifs (fun hc2 => ?_) (fun hc3 => ?_)
  · skip
    exact hp _ (by lia)
  · skip
    exact hp _ (by lia)
set_option maxHeartbeats 4000000 in
theorem sf_X5_setCell__16 {post : MM → Int64 → Prop} {M : MM} {tl : Int64} {v1 : Int32} {v2 : Int32} {v3 : Int32} (hI : Inv M) (hp1 : 0 ≤ v1 ∧ v1 < 12) (hp2 : 0 ≤ v2) (hp : ∀ (M1 : MM) (t1 : Int64), Inv M1 → Fr [17] [] M M1 → True → post M1 t1) : wpX5_setCell post M tl 16 v1 v2 v3 := by
  unfold wpX5_setCell
  simp only [ln_wd_16]
  refine And.intro (by decide) ?_
  refine ifs (fun hc1 => ?_) (fun hc2 => ?_)
  · skip
    exact hp _ _ hI fr_rfl trivial
  · skip
    refine And.intro (by decide) ?_
    refine And.intro (by decide) ?_
    refine And.intro (by decide) ?_
    refine And.intro (vpI (c := 48) (by decide) (by lia) (by lia)) ?_
    intro W3 hW4
    have hI5 : Inv W3 := by rw [hW4]; exact inv_set hI (i_any _)
    have hF6 : Fr [17] [] M W3 := by rw [hW4]; exact fr_arr fr_rfl (by decide)
    exact hp _ _ hI5 hF6 trivial
set_option maxHeartbeats 4000000 in
theorem sf_X5_addRow__16 {post : MM → Int64 → Prop} {M : MM} {tl : Int64} {v1 : Int32} {v2 : Int32} {v3 : Int32} {v4 : Int32} (hI : Inv M) (hp : ∀ (M1 : MM) (t1 : Int64), Inv M1 → Fr [17] [(16, 3)] M M1 → True → post M1 t1) : wpX5_addRow post M tl 16 v1 v2 v3 v4 := by
  unfold wpX5_addRow
  refine And.intro (by decide) ?_
  refine sf_X5_isFull__16 hI  (fun r1 hq2 => ?_)
  refine ifs (fun hc3 => ?_) (fun hc4 => ?_)
  · skip
    refine And.intro (by decide) ?_
    refine And.intro (by decide) ?_
    refine And.intro (by decide) ?_
    have hr7 := iv_16_3 hI
    intro W5 hW6
    have hI8 : Inv W5 := by rw [hW6]; exact inv_set hI (show 0 ≤ ((M 16 3) + (1 : Int32)) ∧ ((M 16 3) + (1 : Int32)) ≤ 12 from ⟨by lia, by lia⟩)
    have hF9 : Fr [17] [(16, 3)] M W5 := by rw [hW6]; exact fr_fld fr_rfl (by decide)
    have hv10 : W5 16 3 = ((M 16 3) + (1 : Int32)) := by rw [hW6]; exact mset_at _ _ _ _
    refine And.intro (by decide) ?_
    refine sf_X5_setCell__16 hI8 (by lia) (by lia) (fun M12 t13 hI14 hF15 hq16 => ?_)
    have hF17 : Fr [17] [(16, 3)] M M12 := fr_call hF9 hF15 (by decide) (by decide)
    refine And.intro (by decide) ?_
    refine sf_X5_setCell__16 hI14 (by lia) (by lia) (fun M19 t20 hI21 hF22 hq23 => ?_)
    have hF24 : Fr [17] [(16, 3)] M M19 := fr_call hF17 hF22 (by decide) (by decide)
    refine And.intro (by decide) ?_
    refine sf_X5_setCell__16 hI21 (by lia) (by lia) (fun M26 t27 hI28 hF29 hq30 => ?_)
    have hF31 : Fr [17] [(16, 3)] M M26 := fr_call hF24 hF29 (by decide) (by decide)
    refine And.intro (by decide) ?_
    refine sf_X5_setCell__16 hI28 (by lia) (by lia) (fun M33 t34 hI35 hF36 hq37 => ?_)
    have hF38 : Fr [17] [(16, 3)] M M33 := fr_call hF31 hF36 (by decide) (by decide)
    exact hp _ _ hI35 hF38 trivial
  · skip
    exact hp _ _ hI fr_rfl trivial
set_option maxHeartbeats 4000000 in
theorem sf_X5_isFull__18 {post : Int32 → MM → Int64 → Prop} {M : MM} {tl : Int64} (hI : Inv M) (hp : ∀ (r : Int32), ((r = 0 ∨ r = 1) ∧ (r = 0 → M 18 3 < 6)) → post r M tl) : wpX5_isFull post M tl 18 := by
  unfold wpX5_isFull
  simp only [ln_al_18]
  refine And.intro (by decide) ?_
  refine And.intro (by decide) ?_
  have hr1 := iv_18_3 hI
  refine ifs (fun hc2 => ?_) (fun hc3 => ?_)
  · skip
    exact hp _ (by lia)
  · skip
    exact hp _ (by lia)
set_option maxHeartbeats 4000000 in
theorem sf_X5_setCell__18 {post : MM → Int64 → Prop} {M : MM} {tl : Int64} {v1 : Int32} {v2 : Int32} {v3 : Int32} (hI : Inv M) (hp1 : 0 ≤ v1 ∧ v1 < 6) (hp2 : 0 ≤ v2) (hp : ∀ (M1 : MM) (t1 : Int64), Inv M1 → Fr [19] [] M M1 → True → post M1 t1) : wpX5_setCell post M tl 18 v1 v2 v3 := by
  unfold wpX5_setCell
  simp only [ln_wd_18]
  refine And.intro (by decide) ?_
  refine ifs (fun hc1 => ?_) (fun hc2 => ?_)
  · skip
    exact hp _ _ hI fr_rfl trivial
  · skip
    refine And.intro (by decide) ?_
    refine And.intro (by decide) ?_
    refine And.intro (by decide) ?_
    refine And.intro (vpI (c := 12) (by decide) (by lia) (by lia)) ?_
    intro W3 hW4
    have hI5 : Inv W3 := by rw [hW4]; exact inv_set hI (i_any _)
    have hF6 : Fr [19] [] M W3 := by rw [hW4]; exact fr_arr fr_rfl (by decide)
    exact hp _ _ hI5 hF6 trivial
set_option maxHeartbeats 4000000 in
theorem sf_X5_addRow__18 {post : MM → Int64 → Prop} {M : MM} {tl : Int64} {v1 : Int32} {v2 : Int32} {v3 : Int32} {v4 : Int32} (hI : Inv M) (hp : ∀ (M1 : MM) (t1 : Int64), Inv M1 → Fr [19] [(18, 3)] M M1 → True → post M1 t1) : wpX5_addRow post M tl 18 v1 v2 v3 v4 := by
  unfold wpX5_addRow
  refine And.intro (by decide) ?_
  refine sf_X5_isFull__18 hI  (fun r1 hq2 => ?_)
  refine ifs (fun hc3 => ?_) (fun hc4 => ?_)
  · skip
    refine And.intro (by decide) ?_
    refine And.intro (by decide) ?_
    refine And.intro (by decide) ?_
    have hr7 := iv_18_3 hI
    intro W5 hW6
    have hI8 : Inv W5 := by rw [hW6]; exact inv_set hI (show 0 ≤ ((M 18 3) + (1 : Int32)) ∧ ((M 18 3) + (1 : Int32)) ≤ 6 from ⟨by lia, by lia⟩)
    have hF9 : Fr [19] [(18, 3)] M W5 := by rw [hW6]; exact fr_fld fr_rfl (by decide)
    have hv10 : W5 18 3 = ((M 18 3) + (1 : Int32)) := by rw [hW6]; exact mset_at _ _ _ _
    refine And.intro (by decide) ?_
    refine sf_X5_setCell__18 hI8 (by lia) (by lia) (fun M12 t13 hI14 hF15 hq16 => ?_)
    have hF17 : Fr [19] [(18, 3)] M M12 := fr_call hF9 hF15 (by decide) (by decide)
    refine And.intro (by decide) ?_
    refine sf_X5_setCell__18 hI14 (by lia) (by lia) (fun M19 t20 hI21 hF22 hq23 => ?_)
    have hF24 : Fr [19] [(18, 3)] M M19 := fr_call hF17 hF22 (by decide) (by decide)
    refine And.intro (by decide) ?_
    refine sf_X5_setCell__18 hI21 (by lia) (by lia) (fun M26 t27 hI28 hF29 hq30 => ?_)
    have hF31 : Fr [19] [(18, 3)] M M26 := fr_call hF24 hF29 (by decide) (by decide)
    refine And.intro (by decide) ?_
    refine sf_X5_setCell__18 hI28 (by lia) (by lia) (fun M33 t34 hI35 hF36 hq37 => ?_)
    have hF38 : Fr [19] [(18, 3)] M M33 := fr_call hF31 hF36 (by decide) (by decide)
    exact hp _ _ hI35 hF38 trivial
  · skip
    exact hp _ _ hI fr_rfl trivial
set_option maxHeartbeats 4000000 in
theorem sf_X7_lastMonth__14 {post : Int32 → MM → Int64 → Prop} {M : MM} {tl : Int64} (hI : Inv M) (hp : ∀ (r : Int32), True → post r M tl) : wpX7_lastMonth post M tl 14 := by
  unfold wpX7_lastMonth
  refine And.intro (by decide) ?_
  refine And.intro (by decide) ?_
  refine And.intro (by decide) ?_
  refine And.intro (by decide) ?_
  have hr1 := iv_16_3 hI
  refine sf_X5_cell__16 hI  (fun r2 hq3 => ?_)
  exact hp _ trivial
set_option maxHeartbeats 4000000 in
theorem sf_X10_slot {post : Int32 → MM → Int64 → Prop} {M : MM} {tl : Int64} {v0 : Int32} {v1 : Int32} (hI : Inv M) (hp : ∀ (r : Int32), r = v0 * 8 + v1 → post r M tl) : wpX10_slot post M tl v0 v1 := by
  unfold wpX10_slot
  exact hp _ (by lia)
set_option maxHeartbeats 4000000 in
theorem sf_X7_setThing__14 {post : MM → Int64 → Prop} {M : MM} {tl : Int64} {v1 : Int32} {v2 : Int32} {v3 : Int32} (hI : Inv M) (hp : ∀ (M1 : MM) (t1 : Int64), Inv M1 → Fr [15] [] M M1 → True → post M1 t1) : wpX7_setThing post M tl 14 v1 v2 v3 := by
  unfold wpX7_setThing
  refine sf_X10_isSlot hI  (fun r1 hq2 => ?_)
  refine ifs (fun hc3 => ?_) (fun hc4 => ?_)
  · skip
    exact hp _ _ hI fr_rfl trivial
  · skip
    refine And.intro (by decide) ?_
    refine sf_X10_slot hI  (fun r5 hq6 => ?_)
    refine And.intro (by decide) ?_
    refine And.intro (vpI (c := 16) (by decide) (by lia) (by lia)) ?_
    intro W7 hW8
    have hI9 : Inv W7 := by rw [hW8]; exact inv_set hI (i_any _)
    have hF10 : Fr [15] [] M W7 := by rw [hW8]; exact fr_arr fr_rfl (by decide)
    exact hp _ _ hI9 hF10 trivial
set_option maxHeartbeats 4000000 in
theorem sf_X8_faultAt__73 {post : Int32 → MM → Int64 → Prop} {M : MM} {tl : Int64} {v1 : Int32} (hI : Inv M) (hp : ∀ (r : Int32), (r = 0 → 0 ≤ v1 ∧ v1 < 40) → post r M tl) : wpX8_faultAt post M tl 73 v1 := by
  unfold wpX8_faultAt
  refine And.intro (by decide) ?_
  have hr1 := iv_73_0 hI
  refine ifs (fun hc2 => ?_) (fun hc3 => ?_)
  · skip
    refine ifs (fun hc4 => ?_) (fun hc5 => ?_)
    · skip
      exact hp _ (by lia)
    · skip
      refine And.intro (by decide) ?_
      refine ifs (fun hc6 => ?_) (fun hc7 => ?_)
      · skip
        exact hp _ (by lia)
      · skip
        exact hp _ (by lia)
  · skip
    exact hp _ (by lia)
set_option maxHeartbeats 4000000 in
theorem sf_X10_isThing {post : Int32 → MM → Int64 → Prop} {M : MM} {tl : Int64} {v0 : Int32} (hI : Inv M) (hp : ∀ (r : Int32), (r = 0 ∨ r = 1) → post r M tl) : wpX10_isThing post M tl v0 := by
  unfold wpX10_isThing
  refine ifs (fun hc1 => ?_) (fun hc2 => ?_)
  · skip
    exact hp _ (by lia)
  · skip
    refine ifs (fun hc3 => ?_) (fun hc4 => ?_)
    · skip
      exact hp _ (by lia)
    · skip
      refine ifs (fun hc5 => ?_) (fun hc6 => ?_)
      · skip
        exact hp _ (by lia)
      · skip
        have hm7 : (0 : Int32) ≤ (v0 &&& (7 : Int32)) ∧ (v0 &&& (7 : Int32)) ≤ (7 : Int32) := andc v0 7 (by decide)
        refine sf_X10_isBuilt hI  (fun r8 hq9 => ?_)
        refine ifs (fun hc10 => ?_) (fun hc11 => ?_)
        · skip
          exact hp _ (by lia)
        · skip
          exact hp _ (by lia)
set_option maxHeartbeats 4000000 in
theorem sf_X7_thingAt__14 {post : Int32 → MM → Int64 → Prop} {M : MM} {tl : Int64} {v1 : Int32} {v2 : Int32} (hI : Inv M) (hp : ∀ (r : Int32), True → post r M tl) : wpX7_thingAt post M tl 14 v1 v2 := by
  unfold wpX7_thingAt
  refine sf_X10_isSlot hI  (fun r1 hq2 => ?_)
  refine ifs (fun hc3 => ?_) (fun hc4 => ?_)
  · skip
    exact hp _ trivial
  · skip
    refine And.intro (by decide) ?_
    refine sf_X10_slot hI  (fun r5 hq6 => ?_)
    refine And.intro (by decide) ?_
    refine And.intro (vpI (c := 16) (by decide) (by lia) (by lia)) ?_
    exact hp _ trivial
set_option maxHeartbeats 4000000 in
theorem sf_X10_put {post : Int32 → MM → Int64 → Prop} {M : MM} {tl : Int64} {v1 : Int32} {v2 : Int32} {v3 : Int32} (hI : Inv M) (hp : ∀ (r : Int32) (M1 : MM) (t1 : Int64), Inv M1 → Fr [15] [] M M1 → True → post r M1 t1) : wpX10_put post M tl v1 v2 v3 := by
  unfold wpX10_put
  refine sf_X1_isLot__3 hI  (fun r1 hq2 => ?_)
  refine ifs (fun hc3 => ?_) (fun hc4 => ?_)
  · skip
    exact hp _ _ _ hI fr_rfl trivial
  · skip
    refine sf_X10_isThing hI  (fun r5 hq6 => ?_)
    refine ifs (fun hc7 => ?_) (fun hc8 => ?_)
    · skip
      exact hp _ _ _ hI fr_rfl trivial
    · skip
      refine sf_X7_thingAt__14 hI  (fun r9 hq10 => ?_)
      refine sf_X7_setThing__14 hI  (fun M12 t13 hI14 hF15 hq16 => ?_)
      have hF17 : Fr [15] [] M M12 := fr_call fr_rfl hF15 (by decide) (by decide)
      exact hp _ _ _ hI14 hF17 trivial
set_option maxHeartbeats 4000000 in
theorem sf_X10_plot {post : Int32 → MM → Int64 → Prop} {M : MM} {tl : Int64} {v1 : Int32} {v2 : Int32} {v3 : Int32} {v4 : Int32} (hI : Inv M) (hp : ∀ (r : Int32) (M1 : MM) (t1 : Int64), Inv M1 → Fr [17] [(16, 3)] M M1 → True → post r M1 t1) : wpX10_plot post M tl v1 v2 v3 v4 := by
  unfold wpX10_plot
  refine sf_X7_lastMonth__14 hI  (fun r1 hq2 => ?_)
  refine ifs (fun hc3 => ?_) (fun hc4 => ?_)
  · skip
    exact hp _ _ _ hI fr_rfl trivial
  · skip
    refine ifs (fun hc5 => ?_) (fun hc6 => ?_)
    · skip
      exact hp _ _ _ hI fr_rfl trivial
    · skip
      refine sf_X1_isLot__3 hI  (fun r7 hq8 => ?_)
      refine ifs (fun hc9 => ?_) (fun hc10 => ?_)
      · skip
        exact hp _ _ _ hI fr_rfl trivial
      · skip
        refine sf_X10_isThing hI  (fun r11 hq12 => ?_)
        refine ifs (fun hc13 => ?_) (fun hc14 => ?_)
        · skip
          exact hp _ _ _ hI fr_rfl trivial
        · skip
          refine sf_X5_isFull__16 hI  (fun r15 hq16 => ?_)
          refine ifs (fun hc17 => ?_) (fun hc18 => ?_)
          · skip
            refine sf_X5_addRow__16 hI  (fun M20 t21 hI22 hF23 hq24 => ?_)
            have hF25 : Fr [17] [(16, 3)] M M20 := fr_call fr_rfl hF23 (by decide) (by decide)
            have hr26 := iv_16_3 hI22
            exact hp _ _ _ hI22 hF25 trivial
          · skip
            exact hp _ _ _ hI fr_rfl trivial
set_option maxHeartbeats 4000000 in
theorem sf_X10_isSheet {post : Int32 → MM → Int64 → Prop} {M : MM} {tl : Int64} {v0 : Int32} (hI : Inv M) (hp : ∀ (r : Int32), ((r = 0 ∨ r = 1) ∧ (r ≠ 0 → 0 ≤ v0 ∧ v0 < 4)) → post r M tl) : wpX10_isSheet post M tl v0 := by
  unfold wpX10_isSheet
  refine ifs (fun hc1 => ?_) (fun hc2 => ?_)
  · skip
    exact hp _ (by lia)
  · skip
    refine ifs (fun hc3 => ?_) (fun hc4 => ?_)
    · skip
      exact hp _ (by lia)
    · skip
      exact hp _ (by lia)
set_option maxHeartbeats 4000000 in
theorem sf_X8_setCell__73 {post : MM → Int64 → Prop} {M : MM} {tl : Int64} {v1 : Int32} {v2 : Int32} (hI : Inv M) (hp : ∀ (M1 : MM) (t1 : Int64), Inv M1 → Fr [74] [] M M1 → True → post M1 t1) : wpX8_setCell post M tl 73 v1 v2 := by
  unfold wpX8_setCell
  refine And.intro (by decide) ?_
  refine sf_X8_faultAt__73 hI  (fun r1 hq2 => ?_)
  refine ifs (fun hc3 => ?_) (fun hc4 => ?_)
  · skip
    refine And.intro (by decide) ?_
    refine And.intro (by decide) ?_
    refine ifs (fun hc5 => ?_) (fun hc6 => ?_)
    · skip
      unfold wX8_setCell_39
      refine And.intro (by decide) ?_
      refine And.intro (vpI (c := 40) (by decide) (by lia) (by lia)) ?_
      intro W7 hW8
      have hI9 : Inv W7 := by rw [hW8]; exact inv_set hI (i_any _)
      have hF10 : Fr [74] [] M W7 := by rw [hW8]; exact fr_arr fr_rfl (by decide)
      exact hp _ _ hI9 hF10 trivial
    · skip
      refine And.intro (by decide) ?_
      refine ifs (fun hc11 => ?_) (fun hc12 => ?_)
      · skip
        unfold wX8_setCell_39
        refine And.intro (by decide) ?_
        refine And.intro (vpI (c := 40) (by decide) (by lia) (by lia)) ?_
        intro W13 hW14
        have hI15 : Inv W13 := by rw [hW14]; exact inv_set hI (i_any _)
        have hF16 : Fr [74] [] M W13 := by rw [hW14]; exact fr_arr fr_rfl (by decide)
        exact hp _ _ hI15 hF16 trivial
      · skip
        unfold wX8_setCell_39
        refine And.intro (by decide) ?_
        refine And.intro (vpI (c := 40) (by decide) (by lia) (by lia)) ?_
        intro W17 hW18
        have hI19 : Inv W17 := by rw [hW18]; exact inv_set hI (i_any _)
        have hF20 : Fr [74] [] M W17 := by rw [hW18]; exact fr_arr fr_rfl (by decide)
        exact hp _ _ hI19 hF20 trivial
  · skip
    exact hp _ _ hI fr_rfl trivial
set_option maxHeartbeats 4000000 in
theorem sf_X8_faultAt__75 {post : Int32 → MM → Int64 → Prop} {M : MM} {tl : Int64} {v1 : Int32} (hI : Inv M) (hp : ∀ (r : Int32), (r = 0 → 0 ≤ v1 ∧ v1 < 40) → post r M tl) : wpX8_faultAt post M tl 75 v1 := by
  unfold wpX8_faultAt
  refine And.intro (by decide) ?_
  have hr1 := iv_75_0 hI
  refine ifs (fun hc2 => ?_) (fun hc3 => ?_)
  · skip
    refine ifs (fun hc4 => ?_) (fun hc5 => ?_)
    · skip
      exact hp _ (by lia)
    · skip
      refine And.intro (by decide) ?_
      refine ifs (fun hc6 => ?_) (fun hc7 => ?_)
      · skip
        exact hp _ (by lia)
      · skip
        exact hp _ (by lia)
  · skip
    exact hp _ (by lia)
set_option maxHeartbeats 4000000 in
theorem sf_X8_setCell__75 {post : MM → Int64 → Prop} {M : MM} {tl : Int64} {v1 : Int32} {v2 : Int32} (hI : Inv M) (hp : ∀ (M1 : MM) (t1 : Int64), Inv M1 → Fr [76] [] M M1 → True → post M1 t1) : wpX8_setCell post M tl 75 v1 v2 := by
  unfold wpX8_setCell
  refine And.intro (by decide) ?_
  refine sf_X8_faultAt__75 hI  (fun r1 hq2 => ?_)
  refine ifs (fun hc3 => ?_) (fun hc4 => ?_)
  · skip
    refine And.intro (by decide) ?_
    refine And.intro (by decide) ?_
    refine ifs (fun hc5 => ?_) (fun hc6 => ?_)
    · skip
      unfold wX8_setCell_39
      refine And.intro (by decide) ?_
      refine And.intro (vpI (c := 40) (by decide) (by lia) (by lia)) ?_
      intro W7 hW8
      have hI9 : Inv W7 := by rw [hW8]; exact inv_set hI (i_any _)
      have hF10 : Fr [76] [] M W7 := by rw [hW8]; exact fr_arr fr_rfl (by decide)
      exact hp _ _ hI9 hF10 trivial
    · skip
      refine And.intro (by decide) ?_
      refine ifs (fun hc11 => ?_) (fun hc12 => ?_)
      · skip
        unfold wX8_setCell_39
        refine And.intro (by decide) ?_
        refine And.intro (vpI (c := 40) (by decide) (by lia) (by lia)) ?_
        intro W13 hW14
        have hI15 : Inv W13 := by rw [hW14]; exact inv_set hI (i_any _)
        have hF16 : Fr [76] [] M W13 := by rw [hW14]; exact fr_arr fr_rfl (by decide)
        exact hp _ _ hI15 hF16 trivial
      · skip
        unfold wX8_setCell_39
        refine And.intro (by decide) ?_
        refine And.intro (vpI (c := 40) (by decide) (by lia) (by lia)) ?_
        intro W17 hW18
        have hI19 : Inv W17 := by rw [hW18]; exact inv_set hI (i_any _)
        have hF20 : Fr [76] [] M W17 := by rw [hW18]; exact fr_arr fr_rfl (by decide)
        exact hp _ _ hI19 hF20 trivial
  · skip
    exact hp _ _ hI fr_rfl trivial
set_option maxHeartbeats 4000000 in
theorem sf_X8_faultAt__77 {post : Int32 → MM → Int64 → Prop} {M : MM} {tl : Int64} {v1 : Int32} (hI : Inv M) (hp : ∀ (r : Int32), (r = 0 → 0 ≤ v1 ∧ v1 < 40) → post r M tl) : wpX8_faultAt post M tl 77 v1 := by
  unfold wpX8_faultAt
  refine And.intro (by decide) ?_
  have hr1 := iv_77_0 hI
  refine ifs (fun hc2 => ?_) (fun hc3 => ?_)
  · skip
    refine ifs (fun hc4 => ?_) (fun hc5 => ?_)
    · skip
      exact hp _ (by lia)
    · skip
      refine And.intro (by decide) ?_
      refine ifs (fun hc6 => ?_) (fun hc7 => ?_)
      · skip
        exact hp _ (by lia)
      · skip
        exact hp _ (by lia)
  · skip
    exact hp _ (by lia)
set_option maxHeartbeats 4000000 in
theorem sf_X8_setCell__77 {post : MM → Int64 → Prop} {M : MM} {tl : Int64} {v1 : Int32} {v2 : Int32} (hI : Inv M) (hp : ∀ (M1 : MM) (t1 : Int64), Inv M1 → Fr [78] [] M M1 → True → post M1 t1) : wpX8_setCell post M tl 77 v1 v2 := by
  unfold wpX8_setCell
  refine And.intro (by decide) ?_
  refine sf_X8_faultAt__77 hI  (fun r1 hq2 => ?_)
  refine ifs (fun hc3 => ?_) (fun hc4 => ?_)
  · skip
    refine And.intro (by decide) ?_
    refine And.intro (by decide) ?_
    refine ifs (fun hc5 => ?_) (fun hc6 => ?_)
    · skip
      unfold wX8_setCell_39
      refine And.intro (by decide) ?_
      refine And.intro (vpI (c := 40) (by decide) (by lia) (by lia)) ?_
      intro W7 hW8
      have hI9 : Inv W7 := by rw [hW8]; exact inv_set hI (i_any _)
      have hF10 : Fr [78] [] M W7 := by rw [hW8]; exact fr_arr fr_rfl (by decide)
      exact hp _ _ hI9 hF10 trivial
    · skip
      refine And.intro (by decide) ?_
      refine ifs (fun hc11 => ?_) (fun hc12 => ?_)
      · skip
        unfold wX8_setCell_39
        refine And.intro (by decide) ?_
        refine And.intro (vpI (c := 40) (by decide) (by lia) (by lia)) ?_
        intro W13 hW14
        have hI15 : Inv W13 := by rw [hW14]; exact inv_set hI (i_any _)
        have hF16 : Fr [78] [] M W13 := by rw [hW14]; exact fr_arr fr_rfl (by decide)
        exact hp _ _ hI15 hF16 trivial
      · skip
        unfold wX8_setCell_39
        refine And.intro (by decide) ?_
        refine And.intro (vpI (c := 40) (by decide) (by lia) (by lia)) ?_
        intro W17 hW18
        have hI19 : Inv W17 := by rw [hW18]; exact inv_set hI (i_any _)
        have hF20 : Fr [78] [] M W17 := by rw [hW18]; exact fr_arr fr_rfl (by decide)
        exact hp _ _ hI19 hF20 trivial
  · skip
    exact hp _ _ hI fr_rfl trivial
set_option maxHeartbeats 4000000 in
theorem sf_X8_faultAt__79 {post : Int32 → MM → Int64 → Prop} {M : MM} {tl : Int64} {v1 : Int32} (hI : Inv M) (hp : ∀ (r : Int32), (r = 0 → 0 ≤ v1 ∧ v1 < 40) → post r M tl) : wpX8_faultAt post M tl 79 v1 := by
  unfold wpX8_faultAt
  refine And.intro (by decide) ?_
  have hr1 := iv_79_0 hI
  refine ifs (fun hc2 => ?_) (fun hc3 => ?_)
  · skip
    refine ifs (fun hc4 => ?_) (fun hc5 => ?_)
    · skip
      exact hp _ (by lia)
    · skip
      refine And.intro (by decide) ?_
      refine ifs (fun hc6 => ?_) (fun hc7 => ?_)
      · skip
        exact hp _ (by lia)
      · skip
        exact hp _ (by lia)
  · skip
    exact hp _ (by lia)
set_option maxHeartbeats 4000000 in
theorem sf_X8_setCell__79 {post : MM → Int64 → Prop} {M : MM} {tl : Int64} {v1 : Int32} {v2 : Int32} (hI : Inv M) (hp : ∀ (M1 : MM) (t1 : Int64), Inv M1 → Fr [80] [] M M1 → True → post M1 t1) : wpX8_setCell post M tl 79 v1 v2 := by
  unfold wpX8_setCell
  refine And.intro (by decide) ?_
  refine sf_X8_faultAt__79 hI  (fun r1 hq2 => ?_)
  refine ifs (fun hc3 => ?_) (fun hc4 => ?_)
  · skip
    refine And.intro (by decide) ?_
    refine And.intro (by decide) ?_
    refine ifs (fun hc5 => ?_) (fun hc6 => ?_)
    · skip
      unfold wX8_setCell_39
      refine And.intro (by decide) ?_
      refine And.intro (vpI (c := 40) (by decide) (by lia) (by lia)) ?_
      intro W7 hW8
      have hI9 : Inv W7 := by rw [hW8]; exact inv_set hI (i_any _)
      have hF10 : Fr [80] [] M W7 := by rw [hW8]; exact fr_arr fr_rfl (by decide)
      exact hp _ _ hI9 hF10 trivial
    · skip
      refine And.intro (by decide) ?_
      refine ifs (fun hc11 => ?_) (fun hc12 => ?_)
      · skip
        unfold wX8_setCell_39
        refine And.intro (by decide) ?_
        refine And.intro (vpI (c := 40) (by decide) (by lia) (by lia)) ?_
        intro W13 hW14
        have hI15 : Inv W13 := by rw [hW14]; exact inv_set hI (i_any _)
        have hF16 : Fr [80] [] M W13 := by rw [hW14]; exact fr_arr fr_rfl (by decide)
        exact hp _ _ hI15 hF16 trivial
      · skip
        unfold wX8_setCell_39
        refine And.intro (by decide) ?_
        refine And.intro (vpI (c := 40) (by decide) (by lia) (by lia)) ?_
        intro W17 hW18
        have hI19 : Inv W17 := by rw [hW18]; exact inv_set hI (i_any _)
        have hF20 : Fr [80] [] M W17 := by rw [hW18]; exact fr_arr fr_rfl (by decide)
        exact hp _ _ hI19 hF20 trivial
  · skip
    exact hp _ _ hI fr_rfl trivial
set_option maxHeartbeats 4000000 in
theorem sf_X10_lay {post : Int32 → MM → Int64 → Prop} {M : MM} {tl : Int64} {v1 : Int32} {v2 : Int32} {v3 : Int32} (hI : Inv M) (hp : ∀ (r : Int32) (M1 : MM) (t1 : Int64), Inv M1 → Fr [74, 76, 78, 80] [] M M1 → True → post r M1 t1) : wpX10_lay post M tl v1 v2 v3 := by
  unfold wpX10_lay
  refine sf_X10_isSheet hI  (fun r1 hq2 => ?_)
  refine ifs (fun hc3 => ?_) (fun hc4 => ?_)
  · skip
    exact hp _ _ _ hI fr_rfl trivial
  · skip
    refine And.intro (vpI (c := 4) (by decide) (by lia) (by lia)) ?_
    rcases cs4 (v := v1) (by lia) (by lia) with hs | hs | hs | hs <;> subst hs
    · skip
      refine And.intro (by decide) ?_
      refine sf_X8_faultAt__73 hI  (fun r5 hq6 => ?_)
      refine ifs (fun hc7 => ?_) (fun hc8 => ?_)
      · skip
        refine And.intro (vpI (c := 4) (by decide) (by lia) (by lia)) ?_
        refine And.intro (by decide) ?_
        refine sf_X8_setCell__73 hI  (fun M10 t11 hI12 hF13 hq14 => ?_)
        have hF15 : Fr [74, 76, 78, 80] [] M M10 := fr_call fr_rfl hF13 (by decide) (by decide)
        exact hp _ _ _ hI12 hF15 trivial
      · skip
        exact hp _ _ _ hI fr_rfl trivial
    · skip
      refine And.intro (by decide) ?_
      refine sf_X8_faultAt__75 hI  (fun r16 hq17 => ?_)
      refine ifs (fun hc18 => ?_) (fun hc19 => ?_)
      · skip
        refine And.intro (vpI (c := 4) (by decide) (by lia) (by lia)) ?_
        refine And.intro (by decide) ?_
        refine sf_X8_setCell__75 hI  (fun M21 t22 hI23 hF24 hq25 => ?_)
        have hF26 : Fr [74, 76, 78, 80] [] M M21 := fr_call fr_rfl hF24 (by decide) (by decide)
        exact hp _ _ _ hI23 hF26 trivial
      · skip
        exact hp _ _ _ hI fr_rfl trivial
    · skip
      refine And.intro (by decide) ?_
      refine sf_X8_faultAt__77 hI  (fun r27 hq28 => ?_)
      refine ifs (fun hc29 => ?_) (fun hc30 => ?_)
      · skip
        refine And.intro (vpI (c := 4) (by decide) (by lia) (by lia)) ?_
        refine And.intro (by decide) ?_
        refine sf_X8_setCell__77 hI  (fun M32 t33 hI34 hF35 hq36 => ?_)
        have hF37 : Fr [74, 76, 78, 80] [] M M32 := fr_call fr_rfl hF35 (by decide) (by decide)
        exact hp _ _ _ hI34 hF37 trivial
      · skip
        exact hp _ _ _ hI fr_rfl trivial
    · skip
      refine And.intro (by decide) ?_
      refine sf_X8_faultAt__79 hI  (fun r38 hq39 => ?_)
      refine ifs (fun hc40 => ?_) (fun hc41 => ?_)
      · skip
        refine And.intro (vpI (c := 4) (by decide) (by lia) (by lia)) ?_
        refine And.intro (by decide) ?_
        refine sf_X8_setCell__79 hI  (fun M43 t44 hI45 hF46 hq47 => ?_)
        have hF48 : Fr [74, 76, 78, 80] [] M M43 := fr_call fr_rfl hF46 (by decide) (by decide)
        exact hp _ _ _ hI45 hF48 trivial
      · skip
        exact hp _ _ _ hI fr_rfl trivial
set_option maxHeartbeats 4000000 in
theorem sf_X10_end {post : Int32 → MM → Int64 → Prop} {M : MM} {tl : Int64} {v1 : Int32} (hI : Inv M) (hp : ∀ (r : Int32) (M1 : MM) (t1 : Int64), Inv M1 → Fr [] [(1, 1)] M M1 → True → post r M1 t1) : wpX10_end post M tl v1 := by
  unfold wpX10_end
  refine ifs (fun hc1 => ?_) (fun hc2 => ?_)
  · skip
    exact hp _ _ _ hI fr_rfl trivial
  · skip
    have hr3 := iv_1_1 hI
    refine ifs (fun hc4 => ?_) (fun hc5 => ?_)
    · skip
      intro W6 hW7
      have hI8 : Inv W6 := by rw [hW7]; exact inv_set hI (show 0 ≤ v1 ∧ v1 ≤ 400 from ⟨by lia, by lia⟩)
      have hF9 : Fr [] [(1, 1)] M W6 := by rw [hW7]; exact fr_fld fr_rfl (by decide)
      have hv10 : W6 1 1 = v1 := by rw [hW7]; exact mset_at _ _ _ _
      exact hp _ _ _ hI8 hF9 trivial
    · skip
      exact hp _ _ _ hI fr_rfl trivial
set_option maxHeartbeats 4000000 in
theorem sf_X1_costOf__3 {post : Int32 → MM → Int64 → Prop} {M : MM} {tl : Int64} {v1 : Int32} {v2 : Int32} (hI : Inv M) (hp : ∀ (r : Int32), True → post r M tl) : wpX1_costOf post M tl 3 v1 v2 := by
  unfold wpX1_costOf
  refine sf_X10_isBank hI  (fun r1 hq2 => ?_)
  refine ifs (fun hc3 => ?_) (fun hc4 => ?_)
  · skip
    unfold wX1_costOf_25
    refine And.intro (by decide) ?_
    exact hp _ trivial
  · skip
    refine sf_X10_isBuilt hI  (fun r5 hq6 => ?_)
    refine ifs (fun hc7 => ?_) (fun hc8 => ?_)
    · skip
      unfold wX1_costOf_25
      refine And.intro (by decide) ?_
      exact hp _ trivial
    · skip
      refine And.intro (by decide) ?_
      refine And.intro (by decide) ?_
      refine And.intro (vpI (c := 2) (by decide) (by lia) (by lia)) ?_
      rcases cs2 (v := v1) (by lia) (by lia) with hs | hs <;> subst hs
      · skip
        refine And.intro (by decide) ?_
        refine And.intro (vpI (c := 6) (by decide) (by lia) (by lia)) ?_
        exact hp _ trivial
      · skip
        refine And.intro (by decide) ?_
        refine And.intro (vpI (c := 6) (by decide) (by lia) (by lia)) ?_
        exact hp _ trivial
set_option maxHeartbeats 4000000 in
theorem sf_X1_tasteOf__3 {post : Int32 → MM → Int64 → Prop} {M : MM} {tl : Int64} {v1 : Int32} {v2 : Int32} (hI : Inv M) (hp : ∀ (r : Int32), True → post r M tl) : wpX1_tasteOf post M tl 3 v1 v2 := by
  unfold wpX1_tasteOf
  refine sf_X10_isBank hI  (fun r1 hq2 => ?_)
  refine ifs (fun hc3 => ?_) (fun hc4 => ?_)
  · skip
    exact hp _ trivial
  · skip
    refine sf_X10_isBuilt hI  (fun r5 hq6 => ?_)
    refine ifs (fun hc7 => ?_) (fun hc8 => ?_)
    · skip
      exact hp _ trivial
    · skip
      refine And.intro (by decide) ?_
      refine And.intro (by decide) ?_
      refine And.intro (vpI (c := 2) (by decide) (by lia) (by lia)) ?_
      rcases cs2 (v := v1) (by lia) (by lia) with hs | hs <;> subst hs
      · skip
        refine And.intro (by decide) ?_
        refine And.intro (vpI (c := 6) (by decide) (by lia) (by lia)) ?_
        exact hp _ trivial
      · skip
        refine And.intro (by decide) ?_
        refine And.intro (vpI (c := 6) (by decide) (by lia) (by lia)) ?_
        exact hp _ trivial
set_option maxHeartbeats 4000000 in
theorem sf_X10_kind {post : Int32 → MM → Int64 → Prop} {M : MM} {tl : Int64} {v1 : Int32} {v2 : Int32} (hI : Inv M) (hp : ∀ (r : Int32), True → post r M tl) : wpX10_kind post M tl v1 v2 := by
  unfold wpX10_kind
  refine sf_X10_isKind hI  (fun r1 hq2 => ?_)
  refine ifs (fun hc3 => ?_) (fun hc4 => ?_)
  · skip
    exact hp _ trivial
  · skip
    refine ifs (fun hc5 => ?_) (fun hc6 => ?_)
    · skip
      refine sf_X1_twinOf__3 hI  (fun r7 hq8 => ?_)
      exact hp _ trivial
    · skip
      refine ifs (fun hc9 => ?_) (fun hc10 => ?_)
      · skip
        have hm11 : (0 : Int32) ≤ (((M 3 3) >>> (v1 &&& (31 : Int32))) &&& (1 : Int32)) ∧ (((M 3 3) >>> (v1 &&& (31 : Int32))) &&& (1 : Int32)) ≤ (1 : Int32) := andc ((M 3 3) >>> (v1 &&& (31 : Int32))) 1 (by decide)
        have hm12 : (0 : Int32) ≤ (v1 &&& (31 : Int32)) ∧ (v1 &&& (31 : Int32)) ≤ (31 : Int32) := andc v1 31 (by decide)
        exact hp _ trivial
      · skip
        refine ifs (fun hc13 => ?_) (fun hc14 => ?_)
        · skip
          refine sf_X1_costOf__3 hI  (fun r15 hq16 => ?_)
          exact hp _ trivial
        · skip
          refine ifs (fun hc17 => ?_) (fun hc18 => ?_)
          · skip
            refine sf_X1_costOf__3 hI  (fun r19 hq20 => ?_)
            exact hp _ trivial
          · skip
            refine ifs (fun hc21 => ?_) (fun hc22 => ?_)
            · skip
              refine sf_X1_tasteOf__3 hI  (fun r23 hq24 => ?_)
              exact hp _ trivial
            · skip
              refine ifs (fun hc25 => ?_) (fun hc26 => ?_)
              · skip
                refine sf_X1_tasteOf__3 hI  (fun r27 hq28 => ?_)
                exact hp _ trivial
              · skip
                refine ifs (fun hc29 => ?_) (fun hc30 => ?_)
                · skip
                  refine sf_X1_lacks__3 hI  (fun r31 hq32 => ?_)
                  refine ifs (fun hc33 => ?_) (fun hc34 => ?_)
                  · skip
                    exact hp _ trivial
                  · skip
                    exact hp _ trivial
                · skip
                  refine ifs (fun hc35 => ?_) (fun hc36 => ?_)
                  · skip
                    refine sf_X1_lacks__3 hI  (fun r37 hq38 => ?_)
                    refine ifs (fun hc39 => ?_) (fun hc40 => ?_)
                    · skip
                      exact hp _ trivial
                    · skip
                      exact hp _ trivial
                  · skip
                    exact hp _ trivial
set_option maxHeartbeats 4000000 in
theorem sf_X7_kindAt__14 {post : Int32 → MM → Int64 → Prop} {M : MM} {tl : Int64} {v1 : Int32} {v2 : Int32} (hI : Inv M) (hp : ∀ (r : Int32), True → post r M tl) : wpX7_kindAt post M tl 14 v1 v2 := by
  unfold wpX7_kindAt
  refine And.intro (by decide) ?_
  refine sf_X7_thingAt__14 hI  (fun r1 hq2 => ?_)
  have hm3 : (0 : Int32) ≤ (r1 &&& (7 : Int32)) ∧ (r1 &&& (7 : Int32)) ≤ (7 : Int32) := andc r1 7 (by decide)
  exact hp _ trivial
set_option maxHeartbeats 4000000 in
theorem sf_X10_lossOfBoth {post : Int32 → MM → Int64 → Prop} {M : MM} {tl : Int64} {v1 : Int32} {v2 : Int32} {v3 : Int32} (hI : Inv M) (hp : ∀ (r : Int32), True → post r M tl) : wpX10_lossOfBoth post M tl v1 v2 v3 := by
  unfold wpX10_lossOfBoth
  refine sf_X1_tasteOf__3 hI  (fun r1 hq2 => ?_)
  refine sf_X1_matchOf__3 hI  (fun r3 hq4 => ?_)
  refine ifs (fun hc5 => ?_) (fun hc6 => ?_)
  · skip
    exact hp _ trivial
  · skip
    refine sf_X7_kindAt__14 hI  (fun r7 hq8 => ?_)
    refine sf_X1_tasteOf__3 hI  (fun r9 hq10 => ?_)
    exact hp _ trivial
set_option maxHeartbeats 4000000 in
theorem sf_X10_fire {post : Int32 → MM → Int64 → Prop} {M : MM} {tl : Int64} {v1 : Int32} {v2 : Int32} {v3 : Int32} (hI : Inv M) (hp : ∀ (r : Int32), True → post r M tl) : wpX10_fire post M tl v1 v2 v3 := by
  unfold wpX10_fire
  refine sf_X1_isLot__3 hI  (fun r1 hq2 => ?_)
  refine ifs (fun hc3 => ?_) (fun hc4 => ?_)
  · skip
    exact hp _ trivial
  · skip
    refine ifs (fun hc5 => ?_) (fun hc6 => ?_)
    · skip
      exact hp _ trivial
    · skip
      refine ifs (fun hc7 => ?_) (fun hc8 => ?_)
      · skip
        refine sf_X7_kindAt__14 hI  (fun r9 hq10 => ?_)
        refine ifs (fun hc11 => ?_) (fun hc12 => ?_)
        · skip
          exact hp _ trivial
        · skip
          refine sf_X1_costOf__3 hI  (fun r13 hq14 => ?_)
          refine sf_X10_lossOfBoth hI  (fun r15 hq16 => ?_)
          refine ifs (fun hc17 => ?_) (fun hc18 => ?_)
          · skip
            refine ifs (fun hc19 => ?_) (fun hc20 => ?_)
            · skip
              exact hp _ trivial
            · skip
              exact hp _ trivial
          · skip
            exact hp _ trivial
      · skip
        exact hp _ trivial
