theorem ln_al_16 : nI (al 16) = (12 : Int32) := by decide
theorem ln_al_17 : nI (al 17) = (48 : Int32) := by decide
theorem ln_al_18 : nI (al 18) = (6 : Int32) := by decide
theorem ln_al_19 : nI (al 19) = (12 : Int32) := by decide
theorem ln_al_20 : nI (al 20) = (12 : Int32) := by decide
theorem ln_al_21 : nI (al 21) = (48 : Int32) := by decide
theorem ln_al_36 : nI (al 36) = (12 : Int32) := by decide
theorem ln_al_37 : nI (al 37) = (48 : Int32) := by decide
theorem ln_al_39 : nI (al 39) = (12 : Int32) := by decide
theorem ln_al_41 : nI (al 41) = (48 : Int32) := by decide
theorem ln_al_59 : nI (al 59) = (48 : Int32) := by decide
theorem ln_al_61 : nI (al 61) = (12 : Int32) := by decide
theorem ln_al_63 : nI (al 63) = (48 : Int32) := by decide
theorem ln_al_67 : nI (al 67) = (48 : Int32) := by decide
theorem ln_al_69 : nI (al 69) = (12 : Int32) := by decide
theorem ln_al_71 : nI (al 71) = (48 : Int32) := by decide
theorem ln_wd_16 : nI (wd 16) = (4 : Int32) := by decide
theorem ln_wd_18 : nI (wd 18) = (2 : Int32) := by decide
theorem ln_wd_20 : nI (wd 20) = (4 : Int32) := by decide
theorem ln_wd_36 : nI (wd 36) = (4 : Int32) := by decide
set_option maxHeartbeats 4000000 in
theorem sl_X9_append_3 {post : MM → Int64 → Prop} {Mb : MM} (hp : ∀ (M1 : MM) (t1 : Int64), Inv M1 → Fr [2] [(1, 1)] Mb M1 → M1 1 1 = Mb 1 1 + 8 → post M1 t1) : ∀ v3 : Int32, -8 ≤ v3 → v3 ≤ 56 → ∃ n, ∀ (M : MM) (tl : Int64) (v1 : Int64), Inv M → Fr [2] [(1, 1)] Mb M → (M 1 1 * 8 + v3 = Mb 1 1 * 8 + 56 ∧ Mb 1 1 ≤ 392 ∧ 0 ≤ Mb 1 1) → wX9_append_3 post n M tl v1 v3 := by
  refine dn_ex (P := fun d v3 => ∀ (M : MM) (tl : Int64) (v1 : Int64), Inv M → Fr [2] [(1, 1)] Mb M → (M 1 1 * 8 + v3 = Mb 1 1 * 8 + 56 ∧ Mb 1 1 ≤ 392 ∧ 0 ≤ Mb 1 1) → wX9_append_3 post d M tl v1 v3) (-8) 56 (by decide) (by decide) ?_
  intro d v3 hlo hhi rec M tl v1 hI hF hli
  unfold wX9_append_3
  refine ifs (fun hc1 => ?_) (fun hc2 => ?_)
  · skip
    have hr3 := iv_1_1 hI
    exact hp _ _ hI hF (by lia)
  · skip
    have hr4 := iv_1_1 hI
    refine ifs (fun hc5 => ?_) (fun hc6 => ?_)
    · skip
      exact hp _ _ hI hF (by lia)
    · skip
      refine And.intro (vpI (c := 400) (by decide) (by lia) (by lia)) ?_
      have hm9 : (0 : Int32) ≤ (((((v1).toUInt64 >>> (((v3).toInt64).toUInt64 &&& (Int64.toUInt64 (63 : Int64))))).toInt64).toInt32 &&& (255 : Int32)) ∧ (((((v1).toUInt64 >>> (((v3).toInt64).toUInt64 &&& (Int64.toUInt64 (63 : Int64))))).toInt64).toInt32 &&& (255 : Int32)) ≤ (255 : Int32) := andc ((((v1).toUInt64 >>> (((v3).toInt64).toUInt64 &&& (Int64.toUInt64 (63 : Int64))))).toInt64).toInt32 255 (by decide)
      intro W7 hW8
      have hI10 : Inv W7 := by rw [hW8]; exact inv_set hI (i_any _)
      have hF11 : Fr [2] [(1, 1)] Mb W7 := by rw [hW8]; exact fr_arr hF (by decide)
      have hx14 : W7 1 1 = M 1 1 := by rw [hW8, mset_ne (by decide)]
      have hr15 := iv_1_1 hI
      have hr16 := iv_1_1 hI10
      intro W12 hW13
      have hI17 : Inv W12 := by rw [hW13]; exact inv_set hI10 (show 0 ≤ ((W7 1 1) + (1 : Int32)) ∧ ((W7 1 1) + (1 : Int32)) ≤ 400 from ⟨by lia, by lia⟩)
      have hF18 : Fr [2] [(1, 1)] Mb W12 := by rw [hW13]; exact fr_fld hF11 (by decide)
      have hv19 : W12 1 1 = ((W7 1 1) + (1 : Int32)) := by rw [hW13]; exact mset_at _ _ _ _
      have hx20 : W12 81 32 = W7 81 32 := by rw [hW13, mset_ne (by decide)]
      have hx21 : W7 81 32 = M 81 32 := by rw [hW8, mset_ne (by decide)]
      have hx22 : W12 81 34 = W7 81 34 := by rw [hW13, mset_ne (by decide)]
      have hx23 : W7 81 34 = M 81 34 := by rw [hW8, mset_ne (by decide)]
      have hx24 : W12 81 36 = W7 81 36 := by rw [hW13, mset_ne (by decide)]
      have hx25 : W7 81 36 = M 81 36 := by rw [hW8, mset_ne (by decide)]
      have hr26 := iv_1_1 hI17
      exact rec (by lia) _ _ v1 hI17 hF18 (by lia)
set_option maxHeartbeats 4000000 in
theorem sf_X9_append {post : MM → Int64 → Prop} {M : MM} {tl : Int64} {v1 : Int64} (hI : Inv M) (hp1 : M 1 1 ≤ 392) (hp : ∀ (M1 : MM) (t1 : Int64), Inv M1 → Fr [2] [(1, 1)] M M1 → M1 1 1 = M 1 1 + 8 → post M1 t1) : wpX9_append post M tl v1 := by
  unfold wpX9_append
  have hr1 := iv_1_1 hI
  obtain ⟨n2, hn3⟩ := sl_X9_append_3 (Mb := M) hp  (56 : Int32) (by lia) (by lia)
  exact ⟨n2, hn3 _ _ v1 hI fr_rfl (by lia)⟩
set_option maxHeartbeats 4000000 in
theorem sf_X10_feed {post : Int32 → MM → Int64 → Prop} {M : MM} {tl : Int64} {v1 : Int64} (hI : Inv M) (hp : ∀ (r : Int32) (M1 : MM) (t1 : Int64), Inv M1 → Fr [2] [(1, 1)] M M1 → ((M 1 1 ≤ 392 ∧ r = M 1 1 + 8 ∧ M1 1 1 = M 1 1 + 8) ∨ (392 < M 1 1 ∧ r = -3 ∧ M1 1 1 = M 1 1)) → post r M1 t1) : wpX10_feed post M tl v1 := by
  unfold wpX10_feed
  have hr1 := iv_1_1 hI
  refine ifs (fun hc2 => ?_) (fun hc3 => ?_)
  · skip
    refine sf_X9_append hI (by lia) (fun M5 t6 hI7 hF8 hq9 => ?_)
    have hF10 : Fr [2] [(1, 1)] M M5 := fr_call fr_rfl hF8 (by decide) (by decide)
    have hr11 := iv_1_1 hI7
    exact hp _ _ _ hI7 hF10 (by lia)
  · skip
    exact hp _ _ _ hI fr_rfl (by lia)
set_option maxHeartbeats 4000000 in
theorem sf_X10_end {post : Int32 → MM → Int64 → Prop} {M : MM} {tl : Int64} {v1 : Int32} (hI : Inv M) (hp : ∀ (r : Int32) (M1 : MM) (t1 : Int64), Inv M1 → Fr [] [(1, 1)] M M1 → (((v1 < 0 ∨ M 1 1 < v1) ∧ r = -1 ∧ M1 1 1 = M 1 1) ∨ (0 ≤ v1 ∧ v1 ≤ M 1 1 ∧ r = M 1 1 ∧ M1 1 1 = v1)) → post r M1 t1) : wpX10_end post M tl v1 := by
  unfold wpX10_end
  refine ifs (fun hc1 => ?_) (fun hc2 => ?_)
  · skip
    have hr3 := iv_1_1 hI
    exact hp _ _ _ hI fr_rfl (by lia)
  · skip
    have hr4 := iv_1_1 hI
    refine ifs (fun hc5 => ?_) (fun hc6 => ?_)
    · skip
      intro W7 hW8
      have hI9 : Inv W7 := by rw [hW8]; exact inv_set hI (show 0 ≤ v1 ∧ v1 ≤ 400 from ⟨by lia, by lia⟩)
      have hF10 : Fr [] [(1, 1)] M W7 := by rw [hW8]; exact fr_fld fr_rfl (by decide)
      have hv11 : W7 1 1 = v1 := by rw [hW8]; exact mset_at _ _ _ _
      have hr12 := iv_1_1 hI9
      exact hp _ _ _ hI9 hF10 (by lia)
    · skip
      exact hp _ _ _ hI fr_rfl (by lia)
set_option maxHeartbeats 4000000 in
theorem sf_X10_fault {post : Int32 → MM → Int64 → Prop} {M : MM} {tl : Int64} (hI : Inv M) (hp : ∀ (r : Int32), True → post r M tl) : wpX10_fault post M tl  := by
  unfold wpX10_fault
  exact hp _ trivial
set_option maxHeartbeats 4000000 in
theorem sf_X10_rule {post : Int32 → MM → Int64 → Prop} {M : MM} {tl : Int64} {v1 : Int32} (hI : Inv M) (hp : ∀ (r : Int32), True → post r M tl) : wpX10_rule post M tl v1 := by
  unfold wpX10_rule
  refine ifs (fun hc1 => ?_) (fun hc2 => ?_)
  · skip
    have hr3 := iv_3_0 hI
    exact hp _ trivial
  · skip
    refine ifs (fun hc4 => ?_) (fun hc5 => ?_)
    · skip
      exact hp _ trivial
    · skip
      refine ifs (fun hc6 => ?_) (fun hc7 => ?_)
      · skip
        exact hp _ trivial
      · skip
        refine ifs (fun hc8 => ?_) (fun hc9 => ?_)
        · skip
          have hr10 := iv_16_3 hI
          exact hp _ trivial
        · skip
          refine ifs (fun hc11 => ?_) (fun hc12 => ?_)
          · skip
            exact hp _ trivial
          · skip
            refine ifs (fun hc13 => ?_) (fun hc14 => ?_)
            · skip
              exact hp _ trivial
            · skip
              refine And.intro (vpI (c := 4) (by decide) (by lia) (by lia)) ?_
              exact hp _ trivial
set_option maxHeartbeats 4000000 in
theorem sf_X10_isKind {post : Int32 → MM → Int64 → Prop} {M : MM} {tl : Int64} {v0 : Int32} (hI : Inv M) (hp : ∀ (r : Int32), ((r = 0 ∨ r = 1) ∧ (r ≠ 0 → 0 ≤ v0 ∧ v0 < 6)) → post r M tl) : wpX10_isKind post M tl v0 := by
  unfold wpX10_isKind
  refine ifs (fun hc1 => ?_) (fun hc2 => ?_)
  · skip
    exact hp _ (by lia)
  · skip
    refine ifs (fun hc3 => ?_) (fun hc4 => ?_)
    · skip
      exact hp _ (by lia)
    · skip
      exact hp _ (by lia)
set_option maxHeartbeats 4000000 in
theorem sf_X1_twinOf__3 {post : Int32 → MM → Int64 → Prop} {M : MM} {tl : Int64} {v1 : Int32} (hI : Inv M) (hp : ∀ (r : Int32), True → post r M tl) : wpX1_twinOf post M tl 3 v1 := by
  unfold wpX1_twinOf
  refine sf_X10_isKind hI  (fun r1 hq2 => ?_)
  refine ifs (fun hc3 => ?_) (fun hc4 => ?_)
  · skip
    exact hp _ trivial
  · skip
    refine And.intro (by decide) ?_
    refine And.intro (by decide) ?_
    refine And.intro (vpI (c := 6) (by decide) (by lia) (by lia)) ?_
    exact hp _ trivial
set_option maxHeartbeats 4000000 in
theorem sf_X10_isBank {post : Int32 → MM → Int64 → Prop} {M : MM} {tl : Int64} {v0 : Int32} (hI : Inv M) (hp : ∀ (r : Int32), ((r = 0 ∨ r = 1) ∧ (r ≠ 0 → 0 ≤ v0 ∧ v0 < 2)) → post r M tl) : wpX10_isBank post M tl v0 := by
  unfold wpX10_isBank
  refine ifs (fun hc1 => ?_) (fun hc2 => ?_)
  · skip
    exact hp _ (by lia)
  · skip
    refine ifs (fun hc3 => ?_) (fun hc4 => ?_)
    · skip
      exact hp _ (by lia)
    · skip
      exact hp _ (by lia)
set_option maxHeartbeats 4000000 in
theorem sf_X10_isBuilt {post : Int32 → MM → Int64 → Prop} {M : MM} {tl : Int64} {v0 : Int32} (hI : Inv M) (hp : ∀ (r : Int32), ((r = 0 ∨ r = 1) ∧ (r ≠ 0 → 1 ≤ v0 ∧ v0 < 6)) → post r M tl) : wpX10_isBuilt post M tl v0 := by
  unfold wpX10_isBuilt
  refine ifs (fun hc1 => ?_) (fun hc2 => ?_)
  · skip
    exact hp _ (by lia)
  · skip
    refine ifs (fun hc3 => ?_) (fun hc4 => ?_)
    · skip
      exact hp _ (by lia)
    · skip
      exact hp _ (by lia)
set_option maxHeartbeats 4000000 in
theorem sf_X1_costOf__3 {post : Int32 → MM → Int64 → Prop} {M : MM} {tl : Int64} {v1 : Int32} {v2 : Int32} (hI : Inv M) (hp : ∀ (r : Int32), True → post r M tl) : wpX1_costOf post M tl 3 v1 v2 := by
  unfold wpX1_costOf
  refine sf_X10_isBank hI  (fun r1 hq2 => ?_)
  refine ifs (fun hc3 => ?_) (fun hc4 => ?_)
  · skip
    unfold wX1_costOf_25
    refine And.intro (by decide) ?_
    exact hp _ trivial
  · skip
    refine sf_X10_isBuilt hI  (fun r5 hq6 => ?_)
    refine ifs (fun hc7 => ?_) (fun hc8 => ?_)
    · skip
      unfold wX1_costOf_25
      refine And.intro (by decide) ?_
      exact hp _ trivial
    · skip
      refine And.intro (by decide) ?_
      refine And.intro (by decide) ?_
      refine And.intro (vpI (c := 2) (by decide) (by lia) (by lia)) ?_
      rcases cs2 (v := v1) (by lia) (by lia) with hs | hs <;> subst hs
      · skip
        refine And.intro (by decide) ?_
        refine And.intro (vpI (c := 6) (by decide) (by lia) (by lia)) ?_
        exact hp _ trivial
      · skip
        refine And.intro (by decide) ?_
        refine And.intro (vpI (c := 6) (by decide) (by lia) (by lia)) ?_
        exact hp _ trivial
set_option maxHeartbeats 4000000 in
theorem sf_X1_tasteOf__3 {post : Int32 → MM → Int64 → Prop} {M : MM} {tl : Int64} {v1 : Int32} {v2 : Int32} (hI : Inv M) (hp : ∀ (r : Int32), True → post r M tl) : wpX1_tasteOf post M tl 3 v1 v2 := by
  unfold wpX1_tasteOf
  refine sf_X10_isBank hI  (fun r1 hq2 => ?_)
  refine ifs (fun hc3 => ?_) (fun hc4 => ?_)
  · skip
    exact hp _ trivial
  · skip
    refine sf_X10_isBuilt hI  (fun r5 hq6 => ?_)
    refine ifs (fun hc7 => ?_) (fun hc8 => ?_)
    · skip
      exact hp _ trivial
    · skip
      refine And.intro (by decide) ?_
      refine And.intro (by decide) ?_
      refine And.intro (vpI (c := 2) (by decide) (by lia) (by lia)) ?_
      rcases cs2 (v := v1) (by lia) (by lia) with hs | hs <;> subst hs
      · skip
        refine And.intro (by decide) ?_
        refine And.intro (vpI (c := 6) (by decide) (by lia) (by lia)) ?_
        exact hp _ trivial
      · skip
        refine And.intro (by decide) ?_
        refine And.intro (vpI (c := 6) (by decide) (by lia) (by lia)) ?_
        exact hp _ trivial
set_option maxHeartbeats 4000000 in
theorem sf_X1_lacks__3 {post : Int32 → MM → Int64 → Prop} {M : MM} {tl : Int64} {v1 : Int32} {v2 : Int32} (hI : Inv M) (hp : ∀ (r : Int32), (r = 0 ∨ r = 1) → post r M tl) : wpX1_lacks post M tl 3 v1 v2 := by
  unfold wpX1_lacks
  refine sf_X10_isBank hI  (fun r1 hq2 => ?_)
  refine ifs (fun hc3 => ?_) (fun hc4 => ?_)
  · skip
    exact hp _ (by lia)
  · skip
    refine sf_X10_isBuilt hI  (fun r5 hq6 => ?_)
    refine ifs (fun hc7 => ?_) (fun hc8 => ?_)
    · skip
      exact hp _ (by lia)
    · skip
      refine And.intro (by decide) ?_
      refine And.intro (by decide) ?_
      refine And.intro (vpI (c := 2) (by decide) (by lia) (by lia)) ?_
      have hm9 : (0 : Int32) ≤ (((M (3 + 8) (v1).toNatClampNeg) >>> (v2 &&& (31 : Int32))) &&& (1 : Int32)) ∧ (((M (3 + 8) (v1).toNatClampNeg) >>> (v2 &&& (31 : Int32))) &&& (1 : Int32)) ≤ (1 : Int32) := andc ((M (3 + 8) (v1).toNatClampNeg) >>> (v2 &&& (31 : Int32))) 1 (by decide)
      have hm10 : (0 : Int32) ≤ (v2 &&& (31 : Int32)) ∧ (v2 &&& (31 : Int32)) ≤ (31 : Int32) := andc v2 31 (by decide)
      refine ifs (fun hc11 => ?_) (fun hc12 => ?_)
      · skip
        exact hp _ (by lia)
      · skip
        exact hp _ (by lia)
set_option maxHeartbeats 4000000 in
theorem sf_X10_kind {post : Int32 → MM → Int64 → Prop} {M : MM} {tl : Int64} {v1 : Int32} {v2 : Int32} (hI : Inv M) (hp : ∀ (r : Int32), True → post r M tl) : wpX10_kind post M tl v1 v2 := by
  unfold wpX10_kind
  refine sf_X10_isKind hI  (fun r1 hq2 => ?_)
  refine ifs (fun hc3 => ?_) (fun hc4 => ?_)
  · skip
    exact hp _ trivial
  · skip
    refine ifs (fun hc5 => ?_) (fun hc6 => ?_)
    · skip
      refine sf_X1_twinOf__3 hI  (fun r7 hq8 => ?_)
      exact hp _ trivial
    · skip
      refine ifs (fun hc9 => ?_) (fun hc10 => ?_)
      · skip
        have hm11 : (0 : Int32) ≤ (((M 3 3) >>> (v1 &&& (31 : Int32))) &&& (1 : Int32)) ∧ (((M 3 3) >>> (v1 &&& (31 : Int32))) &&& (1 : Int32)) ≤ (1 : Int32) := andc ((M 3 3) >>> (v1 &&& (31 : Int32))) 1 (by decide)
        have hm12 : (0 : Int32) ≤ (v1 &&& (31 : Int32)) ∧ (v1 &&& (31 : Int32)) ≤ (31 : Int32) := andc v1 31 (by decide)
        exact hp _ trivial
      · skip
        refine ifs (fun hc13 => ?_) (fun hc14 => ?_)
        · skip
          refine sf_X1_costOf__3 hI  (fun r15 hq16 => ?_)
          exact hp _ trivial
        · skip
          refine ifs (fun hc17 => ?_) (fun hc18 => ?_)
          · skip
            refine sf_X1_costOf__3 hI  (fun r19 hq20 => ?_)
            exact hp _ trivial
          · skip
            refine ifs (fun hc21 => ?_) (fun hc22 => ?_)
            · skip
              refine sf_X1_tasteOf__3 hI  (fun r23 hq24 => ?_)
              exact hp _ trivial
            · skip
              refine ifs (fun hc25 => ?_) (fun hc26 => ?_)
              · skip
                refine sf_X1_tasteOf__3 hI  (fun r27 hq28 => ?_)
                exact hp _ trivial
              · skip
                refine ifs (fun hc29 => ?_) (fun hc30 => ?_)
                · skip
                  refine sf_X1_lacks__3 hI  (fun r31 hq32 => ?_)
                  refine ifs (fun hc33 => ?_) (fun hc34 => ?_)
                  · skip
                    exact hp _ trivial
                  · skip
                    exact hp _ trivial
                · skip
                  refine ifs (fun hc35 => ?_) (fun hc36 => ?_)
                  · skip
                    refine sf_X1_lacks__3 hI  (fun r37 hq38 => ?_)
                    refine ifs (fun hc39 => ?_) (fun hc40 => ?_)
                    · skip
                      exact hp _ trivial
                    · skip
                      exact hp _ trivial
                  · skip
                    exact hp _ trivial
set_option maxHeartbeats 4000000 in
theorem sf_X10_colour {post : Int32 → MM → Int64 → Prop} {M : MM} {tl : Int64} {v1 : Int32} (hI : Inv M) (hp : ∀ (r : Int32), True → post r M tl) : wpX10_colour post M tl v1 := by
  unfold wpX10_colour
  refine ifs (fun hc1 => ?_) (fun hc2 => ?_)
  · skip
    exact hp _ trivial
  · skip
    refine ifs (fun hc3 => ?_) (fun hc4 => ?_)
    · skip
      exact hp _ trivial
    · skip
      refine And.intro (vpI (c := 4) (by decide) (by lia) (by lia)) ?_
      exact hp _ trivial
set_option maxHeartbeats 4000000 in
theorem sf_X10_isThing {post : Int32 → MM → Int64 → Prop} {M : MM} {tl : Int64} {v0 : Int32} (hI : Inv M) (hp : ∀ (r : Int32), (r = 0 ∨ r = 1) → post r M tl) : wpX10_isThing post M tl v0 := by
  unfold wpX10_isThing
  refine ifs (fun hc1 => ?_) (fun hc2 => ?_)
  · skip
    exact hp _ (by lia)
  · skip
    refine ifs (fun hc3 => ?_) (fun hc4 => ?_)
    · skip
      exact hp _ (by lia)
    · skip
      refine ifs (fun hc5 => ?_) (fun hc6 => ?_)
      · skip
        exact hp _ (by lia)
      · skip
        have hm7 : (0 : Int32) ≤ (v0 &&& (7 : Int32)) ∧ (v0 &&& (7 : Int32)) ≤ (7 : Int32) := andc v0 7 (by decide)
        refine sf_X10_isBuilt hI  (fun r8 hq9 => ?_)
        refine ifs (fun hc10 => ?_) (fun hc11 => ?_)
        · skip
          exact hp _ (by lia)
        · skip
          exact hp _ (by lia)
set_option maxHeartbeats 4000000 in
theorem sf_X1_doorStays__3 {post : Int32 → MM → Int64 → Prop} {M : MM} {tl : Int64} {v1 : Int32} (hI : Inv M) (hp1 : 0 ≤ v1 ∧ v1 < 6) (hp : ∀ (r : Int32), (r = 0 ∨ r = 1) → post r M tl) : wpX1_doorStays post M tl 3 v1 := by
  unfold wpX1_doorStays
  refine And.intro (by decide) ?_
  have hm1 : (0 : Int32) ≤ (((M 3 3) >>> (v1 &&& (31 : Int32))) &&& (1 : Int32)) ∧ (((M 3 3) >>> (v1 &&& (31 : Int32))) &&& (1 : Int32)) ≤ (1 : Int32) := andc ((M 3 3) >>> (v1 &&& (31 : Int32))) 1 (by decide)
  have hm2 : (0 : Int32) ≤ (v1 &&& (31 : Int32)) ∧ (v1 &&& (31 : Int32)) ≤ (31 : Int32) := andc v1 31 (by decide)
  refine ifs (fun hc3 => ?_) (fun hc4 => ?_)
  · skip
    refine And.intro (by decide) ?_
    refine And.intro (by decide) ?_
    refine And.intro (by decide) ?_
    refine And.intro (vpI (c := 6) (by decide) (by lia) (by lia)) ?_
    have hm5 : (0 : Int32) ≤ (((M 3 3) >>> ((M (3 + 9) (v1).toNatClampNeg) &&& (31 : Int32))) &&& (1 : Int32)) ∧ (((M 3 3) >>> ((M (3 + 9) (v1).toNatClampNeg) &&& (31 : Int32))) &&& (1 : Int32)) ≤ (1 : Int32) := andc ((M 3 3) >>> ((M (3 + 9) (v1).toNatClampNeg) &&& (31 : Int32))) 1 (by decide)
    have hm6 : (0 : Int32) ≤ ((M (3 + 9) (v1).toNatClampNeg) &&& (31 : Int32)) ∧ ((M (3 + 9) (v1).toNatClampNeg) &&& (31 : Int32)) ≤ (31 : Int32) := andc (M (3 + 9) (v1).toNatClampNeg) 31 (by decide)
    refine ifs (fun hc7 => ?_) (fun hc8 => ?_)
    · skip
      exact hp _ (by lia)
    · skip
      exact hp _ (by lia)
  · skip
    exact hp _ (by lia)
set_option maxHeartbeats 4000000 in
theorem sf_X1_mirrorOf__3 {post : Int32 → MM → Int64 → Prop} {M : MM} {tl : Int64} {v1 : Int32} (hI : Inv M) (hp : ∀ (r : Int32), True → post r M tl) : wpX1_mirrorOf post M tl 3 v1 := by
  unfold wpX1_mirrorOf
  have hm1 : (0 : Int32) ≤ (v1 &&& (7 : Int32)) ∧ (v1 &&& (7 : Int32)) ≤ (7 : Int32) := andc v1 7 (by decide)
  refine sf_X10_isBuilt hI  (fun r2 hq3 => ?_)
  refine ifs (fun hc4 => ?_) (fun hc5 => ?_)
  · skip
    exact hp _ trivial
  · skip
    refine And.intro (by decide) ?_
    refine sf_X1_doorStays__3 hI (by lia) (fun r6 hq7 => ?_)
    refine ifs (fun hc8 => ?_) (fun hc9 => ?_)
    · skip
      have hm10 : (0 : Int32) ≤ (v1 &&& (32 : Int32)) ∧ (v1 &&& (32 : Int32)) ≤ (32 : Int32) := andc v1 32 (by decide)
      unfold wX1_mirrorOf_35
      refine And.intro (by decide) ?_
      refine And.intro (by decide) ?_
      refine And.intro (vpI (c := 6) (by decide) (by lia) (by lia)) ?_
      refine And.intro (by decide) ?_
      refine And.intro (by decide) ?_
      have hm11 : (0 : Int32) ≤ ((v1 >>> ((3 : Int32) &&& (31 : Int32))) &&& (3 : Int32)) ∧ ((v1 >>> ((3 : Int32) &&& (31 : Int32))) &&& (3 : Int32)) ≤ (3 : Int32) := andc (v1 >>> ((3 : Int32) &&& (31 : Int32))) 3 (by decide)
      have hm12 : (0 : Int32) ≤ ((3 : Int32) &&& (31 : Int32)) ∧ ((3 : Int32) &&& (31 : Int32)) ≤ (31 : Int32) := andc (3 : Int32) 31 (by decide)
      refine And.intro (vpI (c := 4) (by decide) (by lia) (by lia)) ?_
      exact hp _ trivial
    · skip
      have hm13 : (0 : Int32) ≤ (v1 &&& (32 : Int32)) ∧ (v1 &&& (32 : Int32)) ≤ (32 : Int32) := andc v1 32 (by decide)
      unfold wX1_mirrorOf_35
      refine And.intro (by decide) ?_
      refine And.intro (by decide) ?_
      refine And.intro (vpI (c := 6) (by decide) (by lia) (by lia)) ?_
      refine And.intro (by decide) ?_
      refine And.intro (by decide) ?_
      have hm14 : (0 : Int32) ≤ ((v1 >>> ((3 : Int32) &&& (31 : Int32))) &&& (3 : Int32)) ∧ ((v1 >>> ((3 : Int32) &&& (31 : Int32))) &&& (3 : Int32)) ≤ (3 : Int32) := andc (v1 >>> ((3 : Int32) &&& (31 : Int32))) 3 (by decide)
      have hm15 : (0 : Int32) ≤ ((3 : Int32) &&& (31 : Int32)) ∧ ((3 : Int32) &&& (31 : Int32)) ≤ (31 : Int32) := andc (3 : Int32) 31 (by decide)
      refine And.intro (vpI (c := 4) (by decide) (by lia) (by lia)) ?_
      exact hp _ trivial
set_option maxHeartbeats 4000000 in
theorem sf_X10_mirror {post : Int32 → MM → Int64 → Prop} {M : MM} {tl : Int64} {v1 : Int32} (hI : Inv M) (hp : ∀ (r : Int32), True → post r M tl) : wpX10_mirror post M tl v1 := by
  unfold wpX10_mirror
  refine sf_X10_isThing hI  (fun r1 hq2 => ?_)
  refine ifs (fun hc3 => ?_) (fun hc4 => ?_)
  · skip
    exact hp _ trivial
  · skip
    refine sf_X1_mirrorOf__3 hI  (fun r5 hq6 => ?_)
    exact hp _ trivial
set_option maxHeartbeats 4000000 in
theorem sf_X5_cell__16 {post : Int32 → MM → Int64 → Prop} {M : MM} {tl : Int64} {v1 : Int32} {v2 : Int32} (hI : Inv M) (hp : ∀ (r : Int32), True → post r M tl) : wpX5_cell post M tl 16 v1 v2 := by
  unfold wpX5_cell
  simp only [Nat.reduceAdd, ln_wd_16]
  refine ifs (fun hc1 => ?_) (fun hc2 => ?_)
  · skip
    exact hp _ trivial
  · skip
    refine And.intro (by decide) ?_
    have hr3 := iv_16_3 hI
    refine ifs (fun hc4 => ?_) (fun hc5 => ?_)
    · skip
      exact hp _ trivial
    · skip
      refine ifs (fun hc6 => ?_) (fun hc7 => ?_)
      · skip
        exact hp _ trivial
      · skip
        refine And.intro (by decide) ?_
        refine ifs (fun hc8 => ?_) (fun hc9 => ?_)
        · skip
          refine And.intro (by decide) ?_
          refine And.intro (by decide) ?_
          refine And.intro (by decide) ?_
          refine And.intro (vpI (c := 48) (by decide) (by lia) (by lia)) ?_
          exact hp _ trivial
        · skip
          exact hp _ trivial
set_option maxHeartbeats 4000000 in
theorem sf_X10_work {post : Int32 → MM → Int64 → Prop} {M : MM} {tl : Int64} {v1 : Int32} {v2 : Int32} (hI : Inv M) (hp : ∀ (r : Int32), True → post r M tl) : wpX10_work post M tl v1 v2 := by
  unfold wpX10_work
  simp only [Nat.reduceAdd, ln_wd_16]
  refine ifs (fun hc1 => ?_) (fun hc2 => ?_)
  · skip
    exact hp _ trivial
  · skip
    have hr3 := iv_16_3 hI
    refine ifs (fun hc4 => ?_) (fun hc5 => ?_)
    · skip
      exact hp _ trivial
    · skip
      refine ifs (fun hc6 => ?_) (fun hc7 => ?_)
      · skip
        exact hp _ trivial
      · skip
        refine ifs (fun hc8 => ?_) (fun hc9 => ?_)
        · skip
          refine sf_X5_cell__16 hI  (fun r10 hq11 => ?_)
          exact hp _ trivial
        · skip
          exact hp _ trivial
set_option maxHeartbeats 4000000 in
theorem sf_X10_isSlot {post : Int32 → MM → Int64 → Prop} {M : MM} {tl : Int64} {v0 : Int32} {v1 : Int32} (hI : Inv M) (hp : ∀ (r : Int32), ((r = 0 ∨ r = 1) ∧ (r ≠ 0 → 0 ≤ v0 ∧ v0 < 2 ∧ 0 ≤ v1 ∧ v1 < 8)) → post r M tl) : wpX10_isSlot post M tl v0 v1 := by
  unfold wpX10_isSlot
  refine sf_X10_isBank hI  (fun r1 hq2 => ?_)
  refine ifs (fun hc3 => ?_) (fun hc4 => ?_)
  · skip
    exact hp _ (by lia)
  · skip
    refine ifs (fun hc5 => ?_) (fun hc6 => ?_)
    · skip
      exact hp _ (by lia)
    · skip
      refine ifs (fun hc7 => ?_) (fun hc8 => ?_)
      · skip
        exact hp _ (by lia)
      · skip
        exact hp _ (by lia)
set_option maxHeartbeats 4000000 in
theorem sf_X1_isLot__3 {post : Int32 → MM → Int64 → Prop} {M : MM} {tl : Int64} {v1 : Int32} {v2 : Int32} (hI : Inv M) (hp : ∀ (r : Int32), ((r = 0 ∨ r = 1) ∧ (r ≠ 0 → 0 ≤ v1 ∧ v1 < 2 ∧ 0 ≤ v2 ∧ v2 < 8)) → post r M tl) : wpX1_isLot post M tl 3 v1 v2 := by
  unfold wpX1_isLot
  refine sf_X10_isSlot hI  (fun r1 hq2 => ?_)
  refine ifs (fun hc3 => ?_) (fun hc4 => ?_)
  · skip
    exact hp _ (by lia)
  · skip
    refine And.intro (by decide) ?_
    have hr5 := iv_3_0 hI
    refine ifs (fun hc6 => ?_) (fun hc7 => ?_)
    · skip
      exact hp _ (by lia)
    · skip
      exact hp _ (by lia)
set_option maxHeartbeats 4000000 in
theorem sf_X10_slot {post : Int32 → MM → Int64 → Prop} {M : MM} {tl : Int64} {v0 : Int32} {v1 : Int32} (hI : Inv M) (hp : ∀ (r : Int32), r = v0 * 8 + v1 → post r M tl) : wpX10_slot post M tl v0 v1 := by
  unfold wpX10_slot
  exact hp _ (by lia)
set_option maxHeartbeats 4000000 in
theorem sf_X7_thingAt__14 {post : Int32 → MM → Int64 → Prop} {M : MM} {tl : Int64} {v1 : Int32} {v2 : Int32} (hI : Inv M) (hp : ∀ (r : Int32), True → post r M tl) : wpX7_thingAt post M tl 14 v1 v2 := by
  unfold wpX7_thingAt
  refine sf_X10_isSlot hI  (fun r1 hq2 => ?_)
  refine ifs (fun hc3 => ?_) (fun hc4 => ?_)
  · skip
    exact hp _ trivial
  · skip
    refine And.intro (by decide) ?_
    refine sf_X10_slot hI  (fun r5 hq6 => ?_)
    refine And.intro (by decide) ?_
    refine And.intro (vpI (c := 16) (by decide) (by lia) (by lia)) ?_
    exact hp _ trivial
set_option maxHeartbeats 4000000 in
theorem sf_X10_thing {post : Int32 → MM → Int64 → Prop} {M : MM} {tl : Int64} {v1 : Int32} {v2 : Int32} (hI : Inv M) (hp : ∀ (r : Int32), True → post r M tl) : wpX10_thing post M tl v1 v2 := by
  unfold wpX10_thing
  refine sf_X1_isLot__3 hI  (fun r1 hq2 => ?_)
  refine ifs (fun hc3 => ?_) (fun hc4 => ?_)
  · skip
    exact hp _ trivial
  · skip
    refine sf_X7_thingAt__14 hI  (fun r5 hq6 => ?_)
    exact hp _ trivial
set_option maxHeartbeats 4000000 in
theorem sf_X7_setThing__14 {post : MM → Int64 → Prop} {M : MM} {tl : Int64} {v1 : Int32} {v2 : Int32} {v3 : Int32} (hI : Inv M) (hp : ∀ (M1 : MM) (t1 : Int64), Inv M1 → Fr [15] [] M M1 → True → post M1 t1) : wpX7_setThing post M tl 14 v1 v2 v3 := by
  unfold wpX7_setThing
  refine sf_X10_isSlot hI  (fun r1 hq2 => ?_)
  refine ifs (fun hc3 => ?_) (fun hc4 => ?_)
  · skip
    exact hp _ _ hI fr_rfl trivial
  · skip
    refine And.intro (by decide) ?_
    refine sf_X10_slot hI  (fun r5 hq6 => ?_)
    refine And.intro (by decide) ?_
    refine And.intro (vpI (c := 16) (by decide) (by lia) (by lia)) ?_
    intro W7 hW8
    have hI9 : Inv W7 := by rw [hW8]; exact inv_set hI (i_any _)
    have hF10 : Fr [15] [] M W7 := by rw [hW8]; exact fr_arr fr_rfl (by decide)
    exact hp _ _ hI9 hF10 trivial
set_option maxHeartbeats 4000000 in
theorem sf_X10_put {post : Int32 → MM → Int64 → Prop} {M : MM} {tl : Int64} {v1 : Int32} {v2 : Int32} {v3 : Int32} (hI : Inv M) (hp : ∀ (r : Int32) (M1 : MM) (t1 : Int64), Inv M1 → Fr [15] [] M M1 → True → post r M1 t1) : wpX10_put post M tl v1 v2 v3 := by
  unfold wpX10_put
  refine sf_X1_isLot__3 hI  (fun r1 hq2 => ?_)
  refine ifs (fun hc3 => ?_) (fun hc4 => ?_)
  · skip
    exact hp _ _ _ hI fr_rfl trivial
  · skip
    refine sf_X10_isThing hI  (fun r5 hq6 => ?_)
    refine ifs (fun hc7 => ?_) (fun hc8 => ?_)
    · skip
      exact hp _ _ _ hI fr_rfl trivial
    · skip
      refine sf_X7_thingAt__14 hI  (fun r9 hq10 => ?_)
      refine sf_X7_setThing__14 hI  (fun M12 t13 hI14 hF15 hq16 => ?_)
      have hF17 : Fr [15] [] M M12 := fr_call fr_rfl hF15 (by decide) (by decide)
      exact hp _ _ _ hI14 hF17 trivial
set_option maxHeartbeats 4000000 in
theorem sf_X1_matchBy__3 {post : Int32 → MM → Int64 → Prop} {M : MM} {tl : Int64} {v1 : Int32} {v2 : Int32} {v3 : Int32} (hI : Inv M) (hp : ∀ (r : Int32), (r = -4 ∨ (0 ≤ r ∧ r < 8)) → post r M tl) : wpX1_matchBy post M tl 3 v1 v2 v3 := by
  unfold wpX1_matchBy
  refine ifs (fun hc1 => ?_) (fun hc2 => ?_)
  · skip
    unfold wX1_matchBy_17
    refine ifs (fun hc3 => ?_) (fun hc4 => ?_)
    · skip
      exact hp _ (by lia)
    · skip
      refine And.intro (by decide) ?_
      have hr5 := iv_3_0 hI
      refine ifs (fun hc6 => ?_) (fun hc7 => ?_)
      · skip
        exact hp _ (by lia)
      · skip
        exact hp _ (by lia)
  · skip
    unfold wX1_matchBy_17
    refine ifs (fun hc8 => ?_) (fun hc9 => ?_)
    · skip
      exact hp _ (by lia)
    · skip
      refine And.intro (by decide) ?_
      have hr10 := iv_3_0 hI
      refine ifs (fun hc11 => ?_) (fun hc12 => ?_)
      · skip
        exact hp _ (by lia)
      · skip
        exact hp _ (by lia)
set_option maxHeartbeats 4000000 in
theorem sf_X1_matchOf__3 {post : Int32 → MM → Int64 → Prop} {M : MM} {tl : Int64} {v1 : Int32} {v2 : Int32} (hI : Inv M) (hp : ∀ (r : Int32), (r = -4 ∨ (0 ≤ r ∧ r < 8)) → post r M tl) : wpX1_matchOf post M tl 3 v1 v2 := by
  unfold wpX1_matchOf
  refine And.intro (by decide) ?_
  refine And.intro (by decide) ?_
  refine sf_X1_matchBy__3 hI  (fun r1 hq2 => ?_)
  exact hp _ (by lia)
set_option maxHeartbeats 4000000 in
theorem sf_X10_match {post : Int32 → MM → Int64 → Prop} {M : MM} {tl : Int64} {v1 : Int32} {v2 : Int32} (hI : Inv M) (hp : ∀ (r : Int32), True → post r M tl) : wpX10_match post M tl v1 v2 := by
  unfold wpX10_match
  refine sf_X1_isLot__3 hI  (fun r1 hq2 => ?_)
  refine ifs (fun hc3 => ?_) (fun hc4 => ?_)
  · skip
    exact hp _ trivial
  · skip
    refine sf_X1_matchOf__3 hI  (fun r5 hq6 => ?_)
    exact hp _ trivial
set_option maxHeartbeats 4000000 in
theorem sf_X1_isEven__3 {post : Int32 → MM → Int64 → Prop} {M : MM} {tl : Int64} {v1 : Int32} {v2 : Int32} (hI : Inv M) (hp : ∀ (r : Int32), (r = 0 ∨ r = 1) → post r M tl) : wpX1_isEven post M tl 3 v1 v2 := by
  unfold wpX1_isEven
  refine And.intro (by decide) ?_
  refine sf_X1_mirrorOf__3 hI  (fun r1 hq2 => ?_)
  refine ifs (fun hc3 => ?_) (fun hc4 => ?_)
  · skip
    exact hp _ (by lia)
  · skip
    exact hp _ (by lia)
set_option maxHeartbeats 4000000 in
theorem sl_X1_unevenLots_4__3_15 {post : Int32 → MM → Int64 → Prop} {M : MM} {tl : Int64} (hp : ∀ (r : Int32), True → post r M tl) (hI : Inv M) : ∀ v3 : Int32, 0 ≤ v3 → v3 ≤ 8 → ∃ n, ∀ (v2 : Int32), (True) → wX1_unevenLots_4 post n M tl 3 15 v2 v3 := by
  refine up_ex (P := fun d v3 => ∀ (v2 : Int32), (True) → wX1_unevenLots_4 post d M tl 3 15 v2 v3) 0 8 ?_
  intro d v3 hlo hhi rec v2 hli
  unfold wX1_unevenLots_4
  refine And.intro (by decide) ?_
  have hr1 := iv_3_0 hI
  refine ifs (fun hc2 => ?_) (fun hc3 => ?_)
  · skip
    exact hp _ trivial
  · skip
    refine And.intro (by decide) ?_
    refine sf_X1_matchOf__3 hI  (fun r4 hq5 => ?_)
    refine ifs (fun hc6 => ?_) (fun hc7 => ?_)
    · skip
      unfold wX1_unevenLots_55
      exact rec (by lia) v2 trivial
    · skip
      refine sf_X10_slot hI  (fun r8 hq9 => ?_)
      refine And.intro (by decide) ?_
      refine And.intro (vpI (c := 16) (by decide) (by lia) (by lia)) ?_
      refine sf_X10_slot hI  (fun r10 hq11 => ?_)
      refine And.intro (by decide) ?_
      refine And.intro (vpI (c := 16) (by decide) (by lia) (by lia)) ?_
      refine And.intro (by decide) ?_
      refine sf_X1_isEven__3 hI  (fun r12 hq13 => ?_)
      refine ifs (fun hc14 => ?_) (fun hc15 => ?_)
      · skip
        have hm16 : (0 : Int32) ≤ (v3 &&& (31 : Int32)) ∧ (v3 &&& (31 : Int32)) ≤ (31 : Int32) := andc v3 31 (by decide)
        unfold wX1_unevenLots_55
        exact rec (by lia) (v2 ||| ((1 : Int32) <<< (v3 &&& (31 : Int32)))) trivial
      · skip
        unfold wX1_unevenLots_55
        exact rec (by lia) v2 trivial
set_option maxHeartbeats 4000000 in
theorem sf_X1_unevenLots__3_15 {post : Int32 → MM → Int64 → Prop} {M : MM} {tl : Int64} (hI : Inv M) (hp : ∀ (r : Int32), True → post r M tl) : wpX1_unevenLots post M tl 3 15 := by
  unfold wpX1_unevenLots
  obtain ⟨n1, hn2⟩ := sl_X1_unevenLots_4__3_15 (M := M) (tl := tl) hp  hI (0 : Int32) (by lia) (by lia)
  exact ⟨n1, hn2 (0 : Int32) trivial⟩
set_option maxHeartbeats 4000000 in
theorem sf_X10_odd {post : Int32 → MM → Int64 → Prop} {M : MM} {tl : Int64} (hI : Inv M) (hp : ∀ (r : Int32), True → post r M tl) : wpX10_odd post M tl  := by
  unfold wpX10_odd
  refine sf_X1_unevenLots__3_15 hI  (fun r1 hq2 => ?_)
  exact hp _ trivial
set_option maxHeartbeats 4000000 in
theorem sf_X10_third {post : Int32 → MM → Int64 → Prop} {M : MM} {tl : Int64} {v1 : Int32} (hI : Inv M) (hp : ∀ (r : Int32), True → post r M tl) : wpX10_third post M tl v1 := by
  unfold wpX10_third
  refine sf_X1_isLot__3 hI  (fun r1 hq2 => ?_)
  refine ifs (fun hc3 => ?_) (fun hc4 => ?_)
  · skip
    exact hp _ trivial
  · skip
    refine sf_X1_matchOf__3 hI  (fun r5 hq6 => ?_)
    refine ifs (fun hc7 => ?_) (fun hc8 => ?_)
    · skip
      exact hp _ trivial
    · skip
      refine sf_X7_thingAt__14 hI  (fun r9 hq10 => ?_)
      refine sf_X1_mirrorOf__3 hI  (fun r11 hq12 => ?_)
      exact hp _ trivial
set_option maxHeartbeats 4000000 in
theorem sl_X6_start_61 {post : MM → Int64 → Prop} {Mb : MM} (hp : ∀ (M1 : MM) (t1 : Int64), Inv M1 → Fr [43, 44, 46, 47] [] Mb M1 → True → post M1 t1) : ∀ v1 : Int32, 0 ≤ v1 → v1 ≤ 2 → ∃ n, ∀ (M : MM) (tl : Int64), Inv M → Fr [43, 44, 46, 47] [] Mb M → (True) → wX6_start_61 post n M tl v1 := by
  refine up_ex (P := fun d v1 => ∀ (M : MM) (tl : Int64), Inv M → Fr [43, 44, 46, 47] [] Mb M → (True) → wX6_start_61 post d M tl v1) 0 2 ?_
  intro d v1 hlo hhi rec M tl  hI hF hli
  unfold wX6_start_61
  refine ifs (fun hc1 => ?_) (fun hc2 => ?_)
  · skip
    exact hp _ _ hI hF trivial
  · skip
    refine And.intro (vpI (c := 2) (by decide) (by lia) (by lia)) ?_
    intro W3 hW4
    have hI5 : Inv W3 := by rw [hW4]; exact inv_set hI (i_any _)
    have hF6 : Fr [43, 44, 46, 47] [] Mb W3 := by rw [hW4]; exact fr_arr hF (by decide)
    exact rec (by lia) _ _  hI5 hF6 trivial
set_option maxHeartbeats 4000000 in
theorem sl_X6_start_39 {post : MM → Int64 → Prop} {Mb : MM} (hp : ∀ (M1 : MM) (t1 : Int64), Inv M1 → Fr [43, 44, 46, 47] [] Mb M1 → True → post M1 t1) : ∀ v1 : Int32, 0 ≤ v1 → v1 ≤ 8 → ∃ n, ∀ (M : MM) (tl : Int64), Inv M → Fr [43, 44, 46, 47] [] Mb M → (True) → wX6_start_39 post n M tl v1 := by
  refine up_ex (P := fun d v1 => ∀ (M : MM) (tl : Int64), Inv M → Fr [43, 44, 46, 47] [] Mb M → (True) → wX6_start_39 post d M tl v1) 0 8 ?_
  intro d v1 hlo hhi rec M tl  hI hF hli
  unfold wX6_start_39
  refine ifs (fun hc1 => ?_) (fun hc2 => ?_)
  · skip
    obtain ⟨n3, hn4⟩ := sl_X6_start_61 (Mb := Mb) hp  (0 : Int32) (by lia) (by lia)
    exact ⟨n3, hn4 _ _  hI hF trivial⟩
  · skip
    refine And.intro (vpI (c := 8) (by decide) (by lia) (by lia)) ?_
    intro W5 hW6
    have hI7 : Inv W5 := by rw [hW6]; exact inv_set hI (i_any _)
    have hF8 : Fr [43, 44, 46, 47] [] Mb W5 := by rw [hW6]; exact fr_arr hF (by decide)
    exact rec (by lia) _ _  hI7 hF8 trivial
set_option maxHeartbeats 4000000 in
theorem sl_X6_start_2 {post : MM → Int64 → Prop} {Mb : MM} (hp : ∀ (M1 : MM) (t1 : Int64), Inv M1 → Fr [43, 44, 46, 47] [] Mb M1 → True → post M1 t1) : ∀ v1 : Int32, 0 ≤ v1 → v1 ≤ 16 → ∃ n, ∀ (M : MM) (tl : Int64), Inv M → Fr [43, 44, 46, 47] [] Mb M → (True) → wX6_start_2 post n M tl v1 := by
  refine up_ex (P := fun d v1 => ∀ (M : MM) (tl : Int64), Inv M → Fr [43, 44, 46, 47] [] Mb M → (True) → wX6_start_2 post d M tl v1) 0 16 ?_
  intro d v1 hlo hhi rec M tl  hI hF hli
  unfold wX6_start_2
  refine ifs (fun hc1 => ?_) (fun hc2 => ?_)
  · skip
    obtain ⟨n3, hn4⟩ := sl_X6_start_39 (Mb := Mb) hp  (0 : Int32) (by lia) (by lia)
    exact ⟨n3, hn4 _ _  hI hF trivial⟩
  · skip
    refine And.intro (vpI (c := 16) (by decide) (by lia) (by lia)) ?_
    refine And.intro (vpI (c := 16) (by decide) (by lia) (by lia)) ?_
    intro W5 hW6
    have hI7 : Inv W5 := by rw [hW6]; exact inv_set hI (i_any _)
    have hF8 : Fr [43, 44, 46, 47] [] Mb W5 := by rw [hW6]; exact fr_arr hF (by decide)
    refine And.intro (vpI (c := 16) (by decide) (by lia) (by lia)) ?_
    intro W9 hW10
    have hI11 : Inv W9 := by rw [hW10]; exact inv_set hI7 (i_any _)
    have hF12 : Fr [43, 44, 46, 47] [] Mb W9 := by rw [hW10]; exact fr_arr hF8 (by decide)
    exact rec (by lia) _ _  hI11 hF12 trivial
set_option maxHeartbeats 4000000 in
theorem sf_X6_start {post : MM → Int64 → Prop} {M : MM} {tl : Int64} (hI : Inv M) (hp : ∀ (M1 : MM) (t1 : Int64), Inv M1 → Fr [43, 44, 46, 47] [] M M1 → True → post M1 t1) : wpX6_start post M tl  := by
  unfold wpX6_start
  obtain ⟨n1, hn2⟩ := sl_X6_start_2 (Mb := M) hp  (0 : Int32) (by lia) (by lia)
  exact ⟨n1, hn2 _ _  hI fr_rfl trivial⟩
set_option maxHeartbeats 4000000 in
theorem sf_X6_isEvenPair {post : Int32 → MM → Int64 → Prop} {M : MM} {tl : Int64} {v1 : Int32} {v2 : Int32} (hI : Inv M) (hp1 : 0 ≤ v1 ∧ v1 < 8) (hp2 : 0 ≤ v2 ∧ v2 < 8) (hp : ∀ (r : Int32), (r = 0 ∨ r = 1) → post r M tl) : wpX6_isEvenPair post M tl v1 v2 := by
  unfold wpX6_isEvenPair
  refine sf_X10_slot hI  (fun r1 hq2 => ?_)
  refine And.intro (vpI (c := 16) (by decide) (by lia) (by lia)) ?_
  refine sf_X1_mirrorOf__3 hI  (fun r3 hq4 => ?_)
  refine sf_X10_slot hI  (fun r5 hq6 => ?_)
  refine And.intro (vpI (c := 16) (by decide) (by lia) (by lia)) ?_
  refine ifs (fun hc7 => ?_) (fun hc8 => ?_)
  · skip
    exact hp _ (by lia)
  · skip
    exact hp _ (by lia)
set_option maxHeartbeats 4000000 in
theorem sf_X6_build {post : MM → Int64 → Prop} {M : MM} {tl : Int64} {v1 : Int32} {v2 : Int32} {v3 : Int32} (hI : Inv M) (hp1 : 0 ≤ v1 ∧ v1 < 2) (hp2 : 0 ≤ v2 ∧ v2 < 8) (hp : ∀ (M1 : MM) (t1 : Int64), Inv M1 → Fr [43, 44] [] M M1 → True → post M1 t1) : wpX6_build post M tl v1 v2 v3 := by
  unfold wpX6_build
  refine And.intro (vpI (c := 2) (by decide) (by lia) (by lia)) ?_
  have hm1 : (0 : Int32) ≤ (v3 &&& (7 : Int32)) ∧ (v3 &&& (7 : Int32)) ≤ (7 : Int32) := andc v3 7 (by decide)
  refine sf_X1_costOf__3 hI  (fun r2 hq3 => ?_)
  refine And.intro (vpI (c := 2) (by decide) (by lia) (by lia)) ?_
  intro W4 hW5
  have hI6 : Inv W4 := by rw [hW5]; exact inv_set hI (i_any _)
  have hF7 : Fr [43, 44] [] M W4 := by rw [hW5]; exact fr_arr fr_rfl (by decide)
  refine sf_X10_slot hI6  (fun r8 hq9 => ?_)
  refine And.intro (vpI (c := 16) (by decide) (by lia) (by lia)) ?_
  intro W10 hW11
  have hI12 : Inv W10 := by rw [hW11]; exact inv_set hI6 (i_any _)
  have hF13 : Fr [43, 44] [] M W10 := by rw [hW11]; exact fr_arr hF7 (by decide)
  exact hp _ _ hI12 hF13 trivial
set_option maxHeartbeats 4000000 in
theorem sf_X6_answer {post : MM → Int64 → Prop} {M : MM} {tl : Int64} {v1 : Int32} {v2 : Int32} (hI : Inv M) (hp1 : 0 ≤ v2 ∧ v2 < 8) (hp : ∀ (M1 : MM) (t1 : Int64), Inv M1 → Fr [43, 44] [] M M1 → True → post M1 t1) : wpX6_answer post M tl v1 v2 := by
  unfold wpX6_answer
  refine sf_X1_matchOf__3 hI  (fun r1 hq2 => ?_)
  refine ifs (fun hc3 => ?_) (fun hc4 => ?_)
  · skip
    exact hp _ _ hI fr_rfl trivial
  · skip
    refine And.intro (vpI (c := 8) (by decide) (by lia) (by lia)) ?_
    refine ifs (fun hc5 => ?_) (fun hc6 => ?_)
    · skip
      exact hp _ _ hI fr_rfl trivial
    · skip
      refine sf_X6_isEvenPair hI (by lia) (by lia) (fun r7 hq8 => ?_)
      refine ifs (fun hc9 => ?_) (fun hc10 => ?_)
      · skip
        refine sf_X10_slot hI  (fun r11 hq12 => ?_)
        refine And.intro (vpI (c := 16) (by decide) (by lia) (by lia)) ?_
        refine ifs (fun hc13 => ?_) (fun hc14 => ?_)
        · skip
          exact hp _ _ hI fr_rfl trivial
        · skip
          refine sf_X10_slot hI  (fun r15 hq16 => ?_)
          refine And.intro (vpI (c := 16) (by decide) (by lia) (by lia)) ?_
          refine ifs (fun hc17 => ?_) (fun hc18 => ?_)
          · skip
            exact hp _ _ hI fr_rfl trivial
          · skip
            refine And.intro (vpI (c := 8) (by decide) (by lia) (by lia)) ?_
            refine ifs (fun hc19 => ?_) (fun hc20 => ?_)
            · skip
              refine sf_X10_slot hI  (fun r21 hq22 => ?_)
              refine And.intro (vpI (c := 16) (by decide) (by lia) (by lia)) ?_
              refine sf_X1_mirrorOf__3 hI  (fun r23 hq24 => ?_)
              refine sf_X6_build hI (by lia) (by lia) (fun M26 t27 hI28 hF29 hq30 => ?_)
              have hF31 : Fr [43, 44] [] M M26 := fr_call fr_rfl hF29 (by decide) (by decide)
              exact hp _ _ hI28 hF31 trivial
            · skip
              refine sf_X10_slot hI  (fun r32 hq33 => ?_)
              refine And.intro (vpI (c := 16) (by decide) (by lia) (by lia)) ?_
              refine sf_X1_mirrorOf__3 hI  (fun r34 hq35 => ?_)
              refine sf_X6_build hI (by lia) (by lia) (fun M37 t38 hI39 hF40 hq41 => ?_)
              have hF42 : Fr [43, 44] [] M M37 := fr_call fr_rfl hF40 (by decide) (by decide)
              exact hp _ _ hI39 hF42 trivial
      · skip
        exact hp _ _ hI fr_rfl trivial
set_option maxHeartbeats 4000000 in
theorem sf_X1_mayBuild__3 {post : Int32 → MM → Int64 → Prop} {M : MM} {tl : Int64} {v1 : Int32} {v2 : Int32} {v3 : Int32} (hI : Inv M) (hp : ∀ (r : Int32), (r = 0 ∨ r = 1) → post r M tl) : wpX1_mayBuild post M tl 3 v1 v2 v3 := by
  unfold wpX1_mayBuild
  refine And.intro (by decide) ?_
  refine sf_X1_lacks__3 hI  (fun r1 hq2 => ?_)
  refine ifs (fun hc3 => ?_) (fun hc4 => ?_)
  · skip
    refine And.intro (by decide) ?_
    refine sf_X1_matchOf__3 hI  (fun r5 hq6 => ?_)
    refine ifs (fun hc7 => ?_) (fun hc8 => ?_)
    · skip
      exact hp _ (by lia)
    · skip
      refine And.intro (by decide) ?_
      refine sf_X1_twinOf__3 hI  (fun r9 hq10 => ?_)
      refine And.intro (by decide) ?_
      refine sf_X1_lacks__3 hI  (fun r11 hq12 => ?_)
      refine ifs (fun hc13 => ?_) (fun hc14 => ?_)
      · skip
        exact hp _ (by lia)
      · skip
        exact hp _ (by lia)
  · skip
    exact hp _ (by lia)
set_option maxHeartbeats 4000000 in
theorem sf_X6_tryWork {post : Int32 → MM → Int64 → Prop} {M : MM} {tl : Int64} {v1 : Int32} {v2 : Int32} {v3 : Int32} {v4 : Int32} (hI : Inv M) (hp : ∀ (r : Int32) (M1 : MM) (t1 : Int64), Inv M1 → Fr [43, 44, 46, 47] [] M M1 → True → post r M1 t1) : wpX6_tryWork post M tl v1 v2 v3 v4 := by
  unfold wpX6_tryWork
  refine sf_X1_isLot__3 hI  (fun r1 hq2 => ?_)
  refine ifs (fun hc3 => ?_) (fun hc4 => ?_)
  · skip
    exact hp _ _ _ hI fr_rfl trivial
  · skip
    have hm5 : (0 : Int32) ≤ (v4 &&& (7 : Int32)) ∧ (v4 &&& (7 : Int32)) ≤ (7 : Int32) := andc v4 7 (by decide)
    refine sf_X1_mayBuild__3 hI  (fun r6 hq7 => ?_)
    refine ifs (fun hc8 => ?_) (fun hc9 => ?_)
    · skip
      exact hp _ _ _ hI fr_rfl trivial
    · skip
      refine sf_X1_matchOf__3 hI  (fun r10 hq11 => ?_)
      refine ifs (fun hc12 => ?_) (fun hc13 => ?_)
      · skip
        unfold wX6_tryWork_93
        refine sf_X6_build hI (by lia) (by lia) (fun M15 t16 hI17 hF18 hq19 => ?_)
        have hF20 : Fr [43, 44, 46, 47] [] M M15 := fr_call fr_rfl hF18 (by decide) (by decide)
        refine sf_X10_slot hI17  (fun r21 hq22 => ?_)
        refine And.intro (vpI (c := 16) (by decide) (by lia) (by lia)) ?_
        intro W23 hW24
        have hI25 : Inv W23 := by rw [hW24]; exact inv_set hI17 (i_any _)
        have hF26 : Fr [43, 44, 46, 47] [] M W23 := by rw [hW24]; exact fr_arr hF20 (by decide)
        refine ifs (fun hc27 => ?_) (fun hc28 => ?_)
        · skip
          exact hp _ _ _ hI25 hF26 trivial
        · skip
          refine ifs (fun hc29 => ?_) (fun hc30 => ?_)
          · skip
            unfold wX6_tryWork_133
            refine And.intro (vpI (c := 8) (by decide) (by lia) (by lia)) ?_
            intro W31 hW32
            have hI33 : Inv W31 := by rw [hW32]; exact inv_set hI25 (i_any _)
            have hF34 : Fr [43, 44, 46, 47] [] M W31 := by rw [hW32]; exact fr_arr hF26 (by decide)
            exact hp _ _ _ hI33 hF34 trivial
          · skip
            unfold wX6_tryWork_133
            refine And.intro (vpI (c := 8) (by decide) (by lia) (by lia)) ?_
            intro W35 hW36
            have hI37 : Inv W35 := by rw [hW36]; exact inv_set hI25 (i_any _)
            have hF38 : Fr [43, 44, 46, 47] [] M W35 := by rw [hW36]; exact fr_arr hF26 (by decide)
            exact hp _ _ _ hI37 hF38 trivial
      · skip
        refine sf_X10_slot hI  (fun r39 hq40 => ?_)
        refine And.intro (vpI (c := 16) (by decide) (by lia) (by lia)) ?_
        refine ifs (fun hc41 => ?_) (fun hc42 => ?_)
        · skip
          refine sf_X10_slot hI  (fun r43 hq44 => ?_)
          refine And.intro (vpI (c := 16) (by decide) (by lia) (by lia)) ?_
          refine sf_X1_isEven__3 hI  (fun r45 hq46 => ?_)
          refine ifs (fun hc47 => ?_) (fun hc48 => ?_)
          · skip
            exact hp _ _ _ hI fr_rfl trivial
          · skip
            unfold wX6_tryWork_93
            refine sf_X6_build hI (by lia) (by lia) (fun M50 t51 hI52 hF53 hq54 => ?_)
            have hF55 : Fr [43, 44, 46, 47] [] M M50 := fr_call fr_rfl hF53 (by decide) (by decide)
            refine sf_X10_slot hI52  (fun r56 hq57 => ?_)
            refine And.intro (vpI (c := 16) (by decide) (by lia) (by lia)) ?_
            intro W58 hW59
            have hI60 : Inv W58 := by rw [hW59]; exact inv_set hI52 (i_any _)
            have hF61 : Fr [43, 44, 46, 47] [] M W58 := by rw [hW59]; exact fr_arr hF55 (by decide)
            refine ifs (fun hc62 => ?_) (fun hc63 => ?_)
            · skip
              exact hp _ _ _ hI60 hF61 trivial
            · skip
              refine ifs (fun hc64 => ?_) (fun hc65 => ?_)
              · skip
                unfold wX6_tryWork_133
                refine And.intro (vpI (c := 8) (by decide) (by lia) (by lia)) ?_
                intro W66 hW67
                have hI68 : Inv W66 := by rw [hW67]; exact inv_set hI60 (i_any _)
                have hF69 : Fr [43, 44, 46, 47] [] M W66 := by rw [hW67]; exact fr_arr hF61 (by decide)
                exact hp _ _ _ hI68 hF69 trivial
              · skip
                unfold wX6_tryWork_133
                refine And.intro (vpI (c := 8) (by decide) (by lia) (by lia)) ?_
                intro W70 hW71
                have hI72 : Inv W70 := by rw [hW71]; exact inv_set hI60 (i_any _)
                have hF73 : Fr [43, 44, 46, 47] [] M W70 := by rw [hW71]; exact fr_arr hF61 (by decide)
                exact hp _ _ _ hI72 hF73 trivial
        · skip
          unfold wX6_tryWork_93
          refine sf_X6_build hI (by lia) (by lia) (fun M75 t76 hI77 hF78 hq79 => ?_)
          have hF80 : Fr [43, 44, 46, 47] [] M M75 := fr_call fr_rfl hF78 (by decide) (by decide)
          refine sf_X10_slot hI77  (fun r81 hq82 => ?_)
          refine And.intro (vpI (c := 16) (by decide) (by lia) (by lia)) ?_
          intro W83 hW84
          have hI85 : Inv W83 := by rw [hW84]; exact inv_set hI77 (i_any _)
          have hF86 : Fr [43, 44, 46, 47] [] M W83 := by rw [hW84]; exact fr_arr hF80 (by decide)
          refine ifs (fun hc87 => ?_) (fun hc88 => ?_)
          · skip
            exact hp _ _ _ hI85 hF86 trivial
          · skip
            refine ifs (fun hc89 => ?_) (fun hc90 => ?_)
            · skip
              unfold wX6_tryWork_133
              refine And.intro (vpI (c := 8) (by decide) (by lia) (by lia)) ?_
              intro W91 hW92
              have hI93 : Inv W91 := by rw [hW92]; exact inv_set hI85 (i_any _)
              have hF94 : Fr [43, 44, 46, 47] [] M W91 := by rw [hW92]; exact fr_arr hF86 (by decide)
              exact hp _ _ _ hI93 hF94 trivial
            · skip
              unfold wX6_tryWork_133
              refine And.intro (vpI (c := 8) (by decide) (by lia) (by lia)) ?_
              intro W95 hW96
              have hI97 : Inv W95 := by rw [hW96]; exact inv_set hI85 (i_any _)
              have hF98 : Fr [43, 44, 46, 47] [] M W95 := by rw [hW96]; exact fr_arr hF86 (by decide)
              exact hp _ _ _ hI97 hF98 trivial
set_option maxHeartbeats 4000000 in
theorem sl_X6_runMonth_71 {post : MM → Int64 → Prop} {Mb : MM} (hp : ∀ (M1 : MM) (t1 : Int64), Inv M1 → Fr [43, 44, 45, 46, 47] [] Mb M1 → True → post M1 t1) : ∀ v3 : Int32, 0 ≤ v3 → v3 ≤ 8 → ∃ n, ∀ (M : MM) (tl : Int64) (v1 : Int32), Inv M → Fr [43, 44, 45, 46, 47] [] Mb M → (True) → wX6_runMonth_71 post n M tl v1 v3 := by
  refine up_ex (P := fun d v3 => ∀ (M : MM) (tl : Int64) (v1 : Int32), Inv M → Fr [43, 44, 45, 46, 47] [] Mb M → (True) → wX6_runMonth_71 post d M tl v1 v3) 0 8 ?_
  intro d v3 hlo hhi rec M tl v1 hI hF hli
  unfold wX6_runMonth_71
  have hr1 := iv_3_0 hI
  refine ifs (fun hc2 => ?_) (fun hc3 => ?_)
  · skip
    exact hp _ _ hI hF trivial
  · skip
    refine sf_X6_answer hI (by lia) (fun M5 t6 hI7 hF8 hq9 => ?_)
    have hF10 : Fr [43, 44, 45, 46, 47] [] Mb M5 := fr_call hF hF8 (by decide) (by decide)
    exact rec (by lia) _ _ v1 hI7 hF10 trivial
set_option maxHeartbeats 4000000 in
theorem sl_X6_runMonth_10 {post : MM → Int64 → Prop} {Mb : MM} (hp : ∀ (M1 : MM) (t1 : Int64), Inv M1 → Fr [43, 44, 45, 46, 47] [] Mb M1 → True → post M1 t1) : ∀ v3 : Int32, 0 ≤ v3 → v3 ≤ 12 → ∃ n, ∀ (M : MM) (tl : Int64) (v1 : Int32), Inv M → Fr [43, 44, 45, 46, 47] [] Mb M → (True) → wX6_runMonth_10 post n M tl v1 v3 := by
  refine up_ex (P := fun d v3 => ∀ (M : MM) (tl : Int64) (v1 : Int32), Inv M → Fr [43, 44, 45, 46, 47] [] Mb M → (True) → wX6_runMonth_10 post d M tl v1 v3) 0 12 ?_
  intro d v3 hlo hhi rec M tl v1 hI hF hli
  unfold wX6_runMonth_10
  have hr1 := iv_16_3 hI
  refine ifs (fun hc2 => ?_) (fun hc3 => ?_)
  · skip
    unfold wX6_runMonth_69
    obtain ⟨n4, hn5⟩ := sl_X6_runMonth_71 (Mb := Mb) hp  (0 : Int32) (by lia) (by lia)
    exact ⟨n4, hn5 _ _ v1 hI hF trivial⟩
  · skip
    refine ifs (fun hc6 => ?_) (fun hc7 => ?_)
    · skip
      unfold wX6_runMonth_69
      obtain ⟨n8, hn9⟩ := sl_X6_runMonth_71 (Mb := Mb) hp  (0 : Int32) (by lia) (by lia)
      exact ⟨n8, hn9 _ _ v1 hI hF trivial⟩
    · skip
      refine sf_X5_cell__16 hI  (fun r10 hq11 => ?_)
      refine ifs (fun hc12 => ?_) (fun hc13 => ?_)
      · skip
        refine sf_X5_cell__16 hI  (fun r14 hq15 => ?_)
        refine sf_X5_cell__16 hI  (fun r16 hq17 => ?_)
        refine sf_X5_cell__16 hI  (fun r18 hq19 => ?_)
        refine sf_X6_tryWork hI  (fun r20 M21 t22 hI23 hF24 hq25 => ?_)
        have hF26 : Fr [43, 44, 45, 46, 47] [] Mb M21 := fr_call hF hF24 (by decide) (by decide)
        refine And.intro (vpI (c := 12) (by decide) (by lia) (by lia)) ?_
        intro W27 hW28
        have hI29 : Inv W27 := by rw [hW28]; exact inv_set hI23 (i_any _)
        have hF30 : Fr [43, 44, 45, 46, 47] [] Mb W27 := by rw [hW28]; exact fr_arr hF26 (by decide)
        unfold wX6_runMonth_63
        exact rec (by lia) _ _ v1 hI29 hF30 trivial
      · skip
        unfold wX6_runMonth_63
        exact rec (by lia) _ _ v1 hI hF trivial
set_option maxHeartbeats 4000000 in
theorem sf_X6_runMonth {post : MM → Int64 → Prop} {M : MM} {tl : Int64} {v1 : Int32} (hI : Inv M) (hp : ∀ (M1 : MM) (t1 : Int64), Inv M1 → Fr [43, 44, 45, 46, 47] [] M M1 → True → post M1 t1) : wpX6_runMonth post M tl v1 := by
  unfold wpX6_runMonth
  obtain ⟨n1, hn2⟩ := sl_X6_runMonth_10 (Mb := M) hp  (0 : Int32) (by lia) (by lia)
  exact ⟨n1, hn2 _ _ v1 hI fr_rfl trivial⟩
set_option maxHeartbeats 4000000 in
theorem sl_X6_runMonths_6 {post : MM → Int64 → Prop} {Mb : MM} (hp : ∀ (M1 : MM) (t1 : Int64), Inv M1 → Fr [43, 44, 45, 46, 47] [] Mb M1 → True → post M1 t1) : ∀ v2 : Int32, 0 ≤ v2 → v2 ≤ 24 → ∃ n, ∀ (M : MM) (tl : Int64) (v1 : Int32), Inv M → Fr [43, 44, 45, 46, 47] [] Mb M → (v1 ≤ 24) → wX6_runMonths_6 post n M tl v1 v2 := by
  refine up_ex (P := fun d v2 => ∀ (M : MM) (tl : Int64) (v1 : Int32), Inv M → Fr [43, 44, 45, 46, 47] [] Mb M → (v1 ≤ 24) → wX6_runMonths_6 post d M tl v1 v2) 0 24 ?_
  intro d v2 hlo hhi rec M tl v1 hI hF hli
  unfold wX6_runMonths_6
  refine ifs (fun hc1 => ?_) (fun hc2 => ?_)
  · skip
    exact hp _ _ hI hF trivial
  · skip
    refine sf_X6_runMonth hI  (fun M4 t5 hI6 hF7 hq8 => ?_)
    have hF9 : Fr [43, 44, 45, 46, 47] [] Mb M4 := fr_call hF hF7 (by decide) (by decide)
    exact rec (by lia) _ _ v1 hI6 hF9 (by lia)
set_option maxHeartbeats 4000000 in
theorem sf_X6_runMonths {post : MM → Int64 → Prop} {M : MM} {tl : Int64} {v1 : Int32} (hI : Inv M) (hp1 : v1 ≤ 24) (hp : ∀ (M1 : MM) (t1 : Int64), Inv M1 → Fr [43, 44, 45, 46, 47] [] M M1 → True → post M1 t1) : wpX6_runMonths post M tl v1 := by
  unfold wpX6_runMonths
  refine sf_X6_start hI  (fun M2 t3 hI4 hF5 hq6 => ?_)
  have hF7 : Fr [43, 44, 45, 46, 47] [] M M2 := fr_call fr_rfl hF5 (by decide) (by decide)
  obtain ⟨n8, hn9⟩ := sl_X6_runMonths_6 (Mb := M) hp  (0 : Int32) (by lia) (by lia)
  exact ⟨n8, hn9 _ _ v1 hI4 hF7 (by lia)⟩
set_option maxHeartbeats 4000000 in
theorem sf_X10_after {post : Int32 → MM → Int64 → Prop} {M : MM} {tl : Int64} {v1 : Int32} {v2 : Int32} {v3 : Int32} (hI : Inv M) (hp : ∀ (r : Int32) (M1 : MM) (t1 : Int64), Inv M1 → Fr [43, 44, 45, 46, 47] [] M M1 → True → post r M1 t1) : wpX10_after post M tl v1 v2 v3 := by
  unfold wpX10_after
  refine ifs (fun hc1 => ?_) (fun hc2 => ?_)
  · skip
    exact hp _ _ _ hI fr_rfl trivial
  · skip
    refine ifs (fun hc3 => ?_) (fun hc4 => ?_)
    · skip
      exact hp _ _ _ hI fr_rfl trivial
    · skip
      refine sf_X1_isLot__3 hI  (fun r5 hq6 => ?_)
      refine ifs (fun hc7 => ?_) (fun hc8 => ?_)
      · skip
        exact hp _ _ _ hI fr_rfl trivial
      · skip
        refine sf_X6_runMonths hI (by lia) (fun M10 t11 hI12 hF13 hq14 => ?_)
        have hF15 : Fr [43, 44, 45, 46, 47] [] M M10 := fr_call fr_rfl hF13 (by decide) (by decide)
        refine sf_X10_slot hI12  (fun r16 hq17 => ?_)
        refine And.intro (vpI (c := 16) (by decide) (by lia) (by lia)) ?_
        exact hp _ _ _ hI12 hF15 trivial
set_option maxHeartbeats 4000000 in
theorem sf_X10_paid {post : Int32 → MM → Int64 → Prop} {M : MM} {tl : Int64} {v1 : Int32} {v2 : Int32} (hI : Inv M) (hp : ∀ (r : Int32) (M1 : MM) (t1 : Int64), Inv M1 → Fr [43, 44, 45, 46, 47] [] M M1 → True → post r M1 t1) : wpX10_paid post M tl v1 v2 := by
  unfold wpX10_paid
  refine ifs (fun hc1 => ?_) (fun hc2 => ?_)
  · skip
    exact hp _ _ _ hI fr_rfl trivial
  · skip
    refine ifs (fun hc3 => ?_) (fun hc4 => ?_)
    · skip
      exact hp _ _ _ hI fr_rfl trivial
    · skip
      refine sf_X10_isBank hI  (fun r5 hq6 => ?_)
      refine ifs (fun hc7 => ?_) (fun hc8 => ?_)
      · skip
        exact hp _ _ _ hI fr_rfl trivial
      · skip
        refine sf_X6_runMonths hI (by lia) (fun M10 t11 hI12 hF13 hq14 => ?_)
        have hF15 : Fr [43, 44, 45, 46, 47] [] M M10 := fr_call fr_rfl hF13 (by decide) (by decide)
        refine And.intro (vpI (c := 2) (by decide) (by lia) (by lia)) ?_
        exact hp _ _ _ hI12 hF15 trivial
set_option maxHeartbeats 4000000 in
theorem sl_X6_lotsOwedBy_4 {post : Int32 → MM → Int64 → Prop} {M : MM} {tl : Int64} (hp : ∀ (r : Int32), True → post r M tl) (hI : Inv M) : ∀ v3 : Int32, 0 ≤ v3 → v3 ≤ 8 → ∃ n, ∀ (v1 : Int32) (v2 : Int32), (True) → wX6_lotsOwedBy_4 post n M tl v1 v2 v3 := by
  refine up_ex (P := fun d v3 => ∀ (v1 : Int32) (v2 : Int32), (True) → wX6_lotsOwedBy_4 post d M tl v1 v2 v3) 0 8 ?_
  intro d v3 hlo hhi rec v1 v2 hli
  unfold wX6_lotsOwedBy_4
  have hr1 := iv_3_0 hI
  refine ifs (fun hc2 => ?_) (fun hc3 => ?_)
  · skip
    exact hp _ trivial
  · skip
    refine sf_X1_matchOf__3 hI  (fun r4 hq5 => ?_)
    refine ifs (fun hc6 => ?_) (fun hc7 => ?_)
    · skip
      unfold wX6_lotsOwedBy_70
      exact rec (by lia) v1 v2 trivial
    · skip
      refine And.intro (vpI (c := 8) (by decide) (by lia) (by lia)) ?_
      refine ifs (fun hc8 => ?_) (fun hc9 => ?_)
      · skip
        refine sf_X6_isEvenPair hI (by lia) (by lia) (fun r10 hq11 => ?_)
        refine ifs (fun hc12 => ?_) (fun hc13 => ?_)
        · skip
          refine ifs (fun hc14 => ?_) (fun hc15 => ?_)
          · skip
            unfold wX6_lotsOwedBy_67
            have hm16 : (0 : Int32) ≤ (v3 &&& (31 : Int32)) ∧ (v3 &&& (31 : Int32)) ≤ (31 : Int32) := andc v3 31 (by decide)
            unfold wX6_lotsOwedBy_70
            exact rec (by lia) v1 (v2 ||| ((1 : Int32) <<< (v3 &&& (31 : Int32)))) trivial
          · skip
            unfold wX6_lotsOwedBy_67
            have hm17 : (0 : Int32) ≤ (r4 &&& (31 : Int32)) ∧ (r4 &&& (31 : Int32)) ≤ (31 : Int32) := andc r4 31 (by decide)
            unfold wX6_lotsOwedBy_70
            exact rec (by lia) v1 (v2 ||| ((1 : Int32) <<< (r4 &&& (31 : Int32)))) trivial
        · skip
          unfold wX6_lotsOwedBy_70
          exact rec (by lia) v1 v2 trivial
      · skip
        unfold wX6_lotsOwedBy_70
        exact rec (by lia) v1 v2 trivial
set_option maxHeartbeats 4000000 in
theorem sf_X6_lotsOwedBy {post : Int32 → MM → Int64 → Prop} {M : MM} {tl : Int64} {v1 : Int32} (hI : Inv M) (hp : ∀ (r : Int32), True → post r M tl) : wpX6_lotsOwedBy post M tl v1 := by
  unfold wpX6_lotsOwedBy
  obtain ⟨n1, hn2⟩ := sl_X6_lotsOwedBy_4 (M := M) (tl := tl) hp  hI (0 : Int32) (by lia) (by lia)
  exact ⟨n1, hn2 v1 (0 : Int32) trivial⟩
set_option maxHeartbeats 4000000 in
theorem sf_X10_owes {post : Int32 → MM → Int64 → Prop} {M : MM} {tl : Int64} {v1 : Int32} {v2 : Int32} (hI : Inv M) (hp : ∀ (r : Int32) (M1 : MM) (t1 : Int64), Inv M1 → Fr [43, 44, 45, 46, 47] [] M M1 → True → post r M1 t1) : wpX10_owes post M tl v1 v2 := by
  unfold wpX10_owes
  refine ifs (fun hc1 => ?_) (fun hc2 => ?_)
  · skip
    exact hp _ _ _ hI fr_rfl trivial
  · skip
    refine ifs (fun hc3 => ?_) (fun hc4 => ?_)
    · skip
      exact hp _ _ _ hI fr_rfl trivial
    · skip
      refine sf_X10_isBank hI  (fun r5 hq6 => ?_)
      refine ifs (fun hc7 => ?_) (fun hc8 => ?_)
      · skip
        exact hp _ _ _ hI fr_rfl trivial
      · skip
        refine sf_X6_runMonths hI (by lia) (fun M10 t11 hI12 hF13 hq14 => ?_)
        have hF15 : Fr [43, 44, 45, 46, 47] [] M M10 := fr_call fr_rfl hF13 (by decide) (by decide)
        refine sf_X6_lotsOwedBy hI12  (fun r16 hq17 => ?_)
        exact hp _ _ _ hI12 hF15 trivial
set_option maxHeartbeats 4000000 in
theorem sf_X10_fate {post : Int32 → MM → Int64 → Prop} {M : MM} {tl : Int64} {v1 : Int32} (hI : Inv M) (hp : ∀ (r : Int32) (M1 : MM) (t1 : Int64), Inv M1 → Fr [43, 44, 45, 46, 47] [] M M1 → True → post r M1 t1) : wpX10_fate post M tl v1 := by
  unfold wpX10_fate
  refine ifs (fun hc1 => ?_) (fun hc2 => ?_)
  · skip
    exact hp _ _ _ hI fr_rfl trivial
  · skip
    have hr3 := iv_16_3 hI
    refine ifs (fun hc4 => ?_) (fun hc5 => ?_)
    · skip
      exact hp _ _ _ hI fr_rfl trivial
    · skip
      refine ifs (fun hc6 => ?_) (fun hc7 => ?_)
      · skip
        refine sf_X6_runMonths hI (by lia) (fun M9 t10 hI11 hF12 hq13 => ?_)
        have hF14 : Fr [43, 44, 45, 46, 47] [] M M9 := fr_call fr_rfl hF12 (by decide) (by decide)
        refine And.intro (vpI (c := 12) (by decide) (by lia) (by lia)) ?_
        exact hp _ _ _ hI11 hF14 trivial
      · skip
        exact hp _ _ _ hI fr_rfl trivial
set_option maxHeartbeats 4000000 in
theorem sl_X1_unevenLots_4__3_43 {post : Int32 → MM → Int64 → Prop} {M : MM} {tl : Int64} (hp : ∀ (r : Int32), True → post r M tl) (hI : Inv M) : ∀ v3 : Int32, 0 ≤ v3 → v3 ≤ 8 → ∃ n, ∀ (v2 : Int32), (True) → wX1_unevenLots_4 post n M tl 3 43 v2 v3 := by
  refine up_ex (P := fun d v3 => ∀ (v2 : Int32), (True) → wX1_unevenLots_4 post d M tl 3 43 v2 v3) 0 8 ?_
  intro d v3 hlo hhi rec v2 hli
  unfold wX1_unevenLots_4
  refine And.intro (by decide) ?_
  have hr1 := iv_3_0 hI
  refine ifs (fun hc2 => ?_) (fun hc3 => ?_)
  · skip
    exact hp _ trivial
  · skip
    refine And.intro (by decide) ?_
    refine sf_X1_matchOf__3 hI  (fun r4 hq5 => ?_)
    refine ifs (fun hc6 => ?_) (fun hc7 => ?_)
    · skip
      unfold wX1_unevenLots_55
      exact rec (by lia) v2 trivial
    · skip
      refine sf_X10_slot hI  (fun r8 hq9 => ?_)
      refine And.intro (by decide) ?_
      refine And.intro (vpI (c := 16) (by decide) (by lia) (by lia)) ?_
      refine sf_X10_slot hI  (fun r10 hq11 => ?_)
      refine And.intro (by decide) ?_
      refine And.intro (vpI (c := 16) (by decide) (by lia) (by lia)) ?_
      refine And.intro (by decide) ?_
      refine sf_X1_isEven__3 hI  (fun r12 hq13 => ?_)
      refine ifs (fun hc14 => ?_) (fun hc15 => ?_)
      · skip
        have hm16 : (0 : Int32) ≤ (v3 &&& (31 : Int32)) ∧ (v3 &&& (31 : Int32)) ≤ (31 : Int32) := andc v3 31 (by decide)
        unfold wX1_unevenLots_55
        exact rec (by lia) (v2 ||| ((1 : Int32) <<< (v3 &&& (31 : Int32)))) trivial
      · skip
        unfold wX1_unevenLots_55
        exact rec (by lia) v2 trivial
set_option maxHeartbeats 4000000 in
theorem sf_X1_unevenLots__3_43 {post : Int32 → MM → Int64 → Prop} {M : MM} {tl : Int64} (hI : Inv M) (hp : ∀ (r : Int32), True → post r M tl) : wpX1_unevenLots post M tl 3 43 := by
  unfold wpX1_unevenLots
  obtain ⟨n1, hn2⟩ := sl_X1_unevenLots_4__3_43 (M := M) (tl := tl) hp  hI (0 : Int32) (by lia) (by lia)
  exact ⟨n1, hn2 (0 : Int32) trivial⟩
set_option maxHeartbeats 4000000 in
theorem sl_X10_firstLot_2 {post : Int32 → MM → Int64 → Prop} {M : MM} {tl : Int64} (hp : ∀ (r : Int32), True → post r M tl) (hI : Inv M) : ∀ v1 : Int32, 0 ≤ v1 → v1 ≤ 8 → ∃ n, ∀ (v0 : Int32), (True) → wX10_firstLot_2 post n M tl v0 v1 := by
  refine up_ex (P := fun d v1 => ∀ (v0 : Int32), (True) → wX10_firstLot_2 post d M tl v0 v1) 0 8 ?_
  intro d v1 hlo hhi rec v0 hli
  unfold wX10_firstLot_2
  refine ifs (fun hc1 => ?_) (fun hc2 => ?_)
  · skip
    exact hp _ trivial
  · skip
    have hm3 : (0 : Int32) ≤ ((v0 >>> (v1 &&& (31 : Int32))) &&& (1 : Int32)) ∧ ((v0 >>> (v1 &&& (31 : Int32))) &&& (1 : Int32)) ≤ (1 : Int32) := andc (v0 >>> (v1 &&& (31 : Int32))) 1 (by decide)
    have hm4 : (0 : Int32) ≤ (v1 &&& (31 : Int32)) ∧ (v1 &&& (31 : Int32)) ≤ (31 : Int32) := andc v1 31 (by decide)
    refine ifs (fun hc5 => ?_) (fun hc6 => ?_)
    · skip
      exact rec (by lia) v0 trivial
    · skip
      exact hp _ trivial
set_option maxHeartbeats 4000000 in
theorem sf_X10_firstLot {post : Int32 → MM → Int64 → Prop} {M : MM} {tl : Int64} {v0 : Int32} (hI : Inv M) (hp : ∀ (r : Int32), True → post r M tl) : wpX10_firstLot post M tl v0 := by
  unfold wpX10_firstLot
  obtain ⟨n1, hn2⟩ := sl_X10_firstLot_2 (M := M) (tl := tl) hp  hI (0 : Int32) (by lia) (by lia)
  exact ⟨n1, hn2 v0 trivial⟩
set_option maxHeartbeats 4000000 in
theorem sl_X10_uneven_20 {post : Int32 → MM → Int64 → Prop} {Mb : MM} (hp : ∀ (r : Int32) (M1 : MM) (t1 : Int64), Inv M1 → Fr [43, 44, 45, 46, 47] [] Mb M1 → True → post r M1 t1) : ∀ v2 : Int32, 0 ≤ v2 → v2 ≤ 24 → ∃ n, ∀ (M : MM) (tl : Int64) (v1 : Int32), Inv M → Fr [43, 44, 45, 46, 47] [] Mb M → (True) → wX10_uneven_20 post n M tl v1 v2 := by
  refine up_ex (P := fun d v2 => ∀ (M : MM) (tl : Int64) (v1 : Int32), Inv M → Fr [43, 44, 45, 46, 47] [] Mb M → (True) → wX10_uneven_20 post d M tl v1 v2) 0 24 ?_
  intro d v2 hlo hhi rec M tl v1 hI hF hli
  unfold wX10_uneven_20
  refine ifs (fun hc1 => ?_) (fun hc2 => ?_)
  · skip
    exact hp _ _ _ hI hF trivial
  · skip
    refine sf_X6_runMonth hI  (fun M4 t5 hI6 hF7 hq8 => ?_)
    have hF9 : Fr [43, 44, 45, 46, 47] [] Mb M4 := fr_call hF hF7 (by decide) (by decide)
    refine sf_X1_unevenLots__3_43 hI6  (fun r10 hq11 => ?_)
    refine ifs (fun hc12 => ?_) (fun hc13 => ?_)
    · skip
      exact rec (by lia) _ _ v1 hI6 hF9 trivial
    · skip
      refine ifs (fun hc14 => ?_) (fun hc15 => ?_)
      · skip
        exact hp _ _ _ hI6 hF9 trivial
      · skip
        refine sf_X10_firstLot hI6  (fun r16 hq17 => ?_)
        exact hp _ _ _ hI6 hF9 trivial
set_option maxHeartbeats 4000000 in
theorem sf_X10_uneven {post : Int32 → MM → Int64 → Prop} {M : MM} {tl : Int64} {v1 : Int32} (hI : Inv M) (hp : ∀ (r : Int32) (M1 : MM) (t1 : Int64), Inv M1 → Fr [43, 44, 45, 46, 47] [] M M1 → True → post r M1 t1) : wpX10_uneven post M tl v1 := by
  unfold wpX10_uneven
  refine ifs (fun hc1 => ?_) (fun hc2 => ?_)
  · skip
    exact hp _ _ _ hI fr_rfl trivial
  · skip
    refine ifs (fun hc3 => ?_) (fun hc4 => ?_)
    · skip
      refine sf_X6_start hI  (fun M6 t7 hI8 hF9 hq10 => ?_)
      have hF11 : Fr [43, 44, 45, 46, 47] [] M M6 := fr_call fr_rfl hF9 (by decide) (by decide)
      obtain ⟨n12, hn13⟩ := sl_X10_uneven_20 (Mb := M) hp  (0 : Int32) (by lia) (by lia)
      exact ⟨n12, hn13 _ _ v1 hI8 hF11 trivial⟩
    · skip
      exact hp _ _ _ hI fr_rfl trivial
set_option maxHeartbeats 4000000 in
theorem sl_X6_worksDone_4 {post : Int32 → MM → Int64 → Prop} {M : MM} {tl : Int64} (hp : ∀ (r : Int32), True → post r M tl) (hI : Inv M) : ∀ v2 : Int32, 0 ≤ v2 → v2 ≤ 12 → ∃ n, ∀ (v1 : Int32), (True) → wX6_worksDone_4 post n M tl v1 v2 := by
  refine up_ex (P := fun d v2 => ∀ (v1 : Int32), (True) → wX6_worksDone_4 post d M tl v1 v2) 0 12 ?_
  intro d v2 hlo hhi rec v1 hli
  unfold wX6_worksDone_4
  have hr1 := iv_16_3 hI
  refine ifs (fun hc2 => ?_) (fun hc3 => ?_)
  · skip
    exact hp _ trivial
  · skip
    refine ifs (fun hc4 => ?_) (fun hc5 => ?_)
    · skip
      exact hp _ trivial
    · skip
      refine And.intro (vpI (c := 12) (by decide) (by lia) (by lia)) ?_
      refine ifs (fun hc6 => ?_) (fun hc7 => ?_)
      · skip
        unfold wX6_worksDone_39
        exact rec (by lia) (v1 + (1 : Int32)) trivial
      · skip
        unfold wX6_worksDone_39
        exact rec (by lia) (v1 + (0 : Int32)) trivial
set_option maxHeartbeats 4000000 in
theorem sf_X6_worksDone {post : Int32 → MM → Int64 → Prop} {M : MM} {tl : Int64} (hI : Inv M) (hp : ∀ (r : Int32), True → post r M tl) : wpX6_worksDone post M tl  := by
  unfold wpX6_worksDone
  obtain ⟨n1, hn2⟩ := sl_X6_worksDone_4 (M := M) (tl := tl) hp  hI (0 : Int32) (by lia) (by lia)
  exact ⟨n1, hn2 (0 : Int32) trivial⟩
set_option maxHeartbeats 4000000 in
theorem sf_X10_go {post : Int32 → MM → Int64 → Prop} {M : MM} {tl : Int64} (hI : Inv M) (hp : ∀ (r : Int32) (M1 : MM) (t1 : Int64), Inv M1 → Fr [15, 43, 44, 45, 46, 47] [(16, 3)] M M1 → True → post r M1 t1) : wpX10_go post M tl  := by
  unfold wpX10_go
  refine sf_X6_runMonths hI (by lia) (fun M2 t3 hI4 hF5 hq6 => ?_)
  have hF7 : Fr [15, 43, 44, 45, 46, 47] [(16, 3)] M M2 := fr_call fr_rfl hF5 (by decide) (by decide)
  refine sf_X6_worksDone hI4  (fun r8 hq9 => ?_)
  refine And.intro (by decide) ?_
  refine And.intro (by decide) ?_
  intro W10 hW11
  have hI12 : Inv W10 := by rw [hW11]; exact inv_row hI4 (fun j => i_any _)
  have hF13 : Fr [15, 43, 44, 45, 46, 47] [(16, 3)] M W10 := by rw [hW11]; exact fr_row hF7 (by decide)
  intro W14 hW15
  have hI16 : Inv W14 := by rw [hW15]; exact inv_set hI12 (show 0 ≤ (0 : Int32) ∧ (0 : Int32) ≤ 12 from ⟨by lia, by lia⟩)
  have hF17 : Fr [15, 43, 44, 45, 46, 47] [(16, 3)] M W14 := by rw [hW15]; exact fr_fld hF13 (by decide)
  have hv18 : W14 16 3 = (0 : Int32) := by rw [hW15]; exact mset_at _ _ _ _
  exact hp _ _ _ hI16 hF17 trivial
set_option maxHeartbeats 4000000 in
theorem sf_X7_lastMonth__14 {post : Int32 → MM → Int64 → Prop} {M : MM} {tl : Int64} (hI : Inv M) (hp : ∀ (r : Int32), True → post r M tl) : wpX7_lastMonth post M tl 14 := by
  unfold wpX7_lastMonth
  refine And.intro (by decide) ?_
  refine And.intro (by decide) ?_
  refine And.intro (by decide) ?_
  refine And.intro (by decide) ?_
  have hr1 := iv_16_3 hI
  refine sf_X5_cell__16 hI  (fun r2 hq3 => ?_)
  exact hp _ trivial
set_option maxHeartbeats 4000000 in
theorem sf_X5_isFull__16 {post : Int32 → MM → Int64 → Prop} {M : MM} {tl : Int64} (hI : Inv M) (hp : ∀ (r : Int32), ((r = 0 ∨ r = 1) ∧ (r = 0 → M 16 3 < 12)) → post r M tl) : wpX5_isFull post M tl 16 := by
  unfold wpX5_isFull
  simp only [Nat.reduceAdd, ln_al_16]
  refine And.intro (by decide) ?_
  refine And.intro (by decide) ?_
  have hr1 := iv_16_3 hI
  refine ifs (fun hc2 => ?_) (fun hc3 => ?_)
  · skip
    exact hp _ (by lia)
  · skip
    exact hp _ (by lia)
set_option maxHeartbeats 4000000 in
theorem sf_X5_setCell__16 {post : MM → Int64 → Prop} {M : MM} {tl : Int64} {v1 : Int32} {v2 : Int32} {v3 : Int32} (hI : Inv M) (hp1 : 0 ≤ v1 ∧ v1 < 12) (hp2 : 0 ≤ v2) (hp : ∀ (M1 : MM) (t1 : Int64), Inv M1 → Fr [17] [] M M1 → True → post M1 t1) : wpX5_setCell post M tl 16 v1 v2 v3 := by
  unfold wpX5_setCell
  simp only [Nat.reduceAdd, ln_wd_16]
  refine And.intro (by decide) ?_
  refine ifs (fun hc1 => ?_) (fun hc2 => ?_)
  · skip
    exact hp _ _ hI fr_rfl trivial
  · skip
    refine And.intro (by decide) ?_
    refine And.intro (by decide) ?_
    refine And.intro (by decide) ?_
    refine And.intro (vpI (c := 48) (by decide) (by lia) (by lia)) ?_
    intro W3 hW4
    have hI5 : Inv W3 := by rw [hW4]; exact inv_set hI (i_any _)
    have hF6 : Fr [17] [] M W3 := by rw [hW4]; exact fr_arr fr_rfl (by decide)
    exact hp _ _ hI5 hF6 trivial
set_option maxHeartbeats 4000000 in
theorem sf_X5_addRow__16 {post : MM → Int64 → Prop} {M : MM} {tl : Int64} {v1 : Int32} {v2 : Int32} {v3 : Int32} {v4 : Int32} (hI : Inv M) (hp : ∀ (M1 : MM) (t1 : Int64), Inv M1 → Fr [17] [(16, 3)] M M1 → True → post M1 t1) : wpX5_addRow post M tl 16 v1 v2 v3 v4 := by
  unfold wpX5_addRow
  refine And.intro (by decide) ?_
  refine sf_X5_isFull__16 hI  (fun r1 hq2 => ?_)
  refine ifs (fun hc3 => ?_) (fun hc4 => ?_)
  · skip
    refine And.intro (by decide) ?_
    refine And.intro (by decide) ?_
    refine And.intro (by decide) ?_
    have hr7 := iv_16_3 hI
    intro W5 hW6
    have hI8 : Inv W5 := by rw [hW6]; exact inv_set hI (show 0 ≤ ((M 16 3) + (1 : Int32)) ∧ ((M 16 3) + (1 : Int32)) ≤ 12 from ⟨by lia, by lia⟩)
    have hF9 : Fr [17] [(16, 3)] M W5 := by rw [hW6]; exact fr_fld fr_rfl (by decide)
    have hv10 : W5 16 3 = ((M 16 3) + (1 : Int32)) := by rw [hW6]; exact mset_at _ _ _ _
    refine And.intro (by decide) ?_
    refine sf_X5_setCell__16 hI8 (by lia) (by lia) (fun M12 t13 hI14 hF15 hq16 => ?_)
    have hF17 : Fr [17] [(16, 3)] M M12 := fr_call hF9 hF15 (by decide) (by decide)
    refine And.intro (by decide) ?_
    refine sf_X5_setCell__16 hI14 (by lia) (by lia) (fun M19 t20 hI21 hF22 hq23 => ?_)
    have hF24 : Fr [17] [(16, 3)] M M19 := fr_call hF17 hF22 (by decide) (by decide)
    refine And.intro (by decide) ?_
    refine sf_X5_setCell__16 hI21 (by lia) (by lia) (fun M26 t27 hI28 hF29 hq30 => ?_)
    have hF31 : Fr [17] [(16, 3)] M M26 := fr_call hF24 hF29 (by decide) (by decide)
    refine And.intro (by decide) ?_
    refine sf_X5_setCell__16 hI28 (by lia) (by lia) (fun M33 t34 hI35 hF36 hq37 => ?_)
    have hF38 : Fr [17] [(16, 3)] M M33 := fr_call hF31 hF36 (by decide) (by decide)
    exact hp _ _ hI35 hF38 trivial
  · skip
    exact hp _ _ hI fr_rfl trivial
set_option maxHeartbeats 4000000 in
theorem sf_X10_plot {post : Int32 → MM → Int64 → Prop} {M : MM} {tl : Int64} {v1 : Int32} {v2 : Int32} {v3 : Int32} {v4 : Int32} (hI : Inv M) (hp : ∀ (r : Int32) (M1 : MM) (t1 : Int64), Inv M1 → Fr [17] [(16, 3)] M M1 → True → post r M1 t1) : wpX10_plot post M tl v1 v2 v3 v4 := by
  unfold wpX10_plot
  refine sf_X7_lastMonth__14 hI  (fun r1 hq2 => ?_)
  refine ifs (fun hc3 => ?_) (fun hc4 => ?_)
  · skip
    exact hp _ _ _ hI fr_rfl trivial
  · skip
    refine ifs (fun hc5 => ?_) (fun hc6 => ?_)
    · skip
      exact hp _ _ _ hI fr_rfl trivial
    · skip
      refine sf_X1_isLot__3 hI  (fun r7 hq8 => ?_)
      refine ifs (fun hc9 => ?_) (fun hc10 => ?_)
      · skip
        exact hp _ _ _ hI fr_rfl trivial
      · skip
        refine sf_X10_isThing hI  (fun r11 hq12 => ?_)
        refine ifs (fun hc13 => ?_) (fun hc14 => ?_)
        · skip
          exact hp _ _ _ hI fr_rfl trivial
        · skip
          refine sf_X5_isFull__16 hI  (fun r15 hq16 => ?_)
          refine ifs (fun hc17 => ?_) (fun hc18 => ?_)
          · skip
            refine sf_X5_addRow__16 hI  (fun M20 t21 hI22 hF23 hq24 => ?_)
            have hF25 : Fr [17] [(16, 3)] M M20 := fr_call fr_rfl hF23 (by decide) (by decide)
            have hr26 := iv_16_3 hI22
            exact hp _ _ _ hI22 hF25 trivial
          · skip
            exact hp _ _ _ hI fr_rfl trivial
set_option maxHeartbeats 4000000 in
theorem sf_X7_kindAt__14 {post : Int32 → MM → Int64 → Prop} {M : MM} {tl : Int64} {v1 : Int32} {v2 : Int32} (hI : Inv M) (hp : ∀ (r : Int32), True → post r M tl) : wpX7_kindAt post M tl 14 v1 v2 := by
  unfold wpX7_kindAt
  refine And.intro (by decide) ?_
  refine sf_X7_thingAt__14 hI  (fun r1 hq2 => ?_)
  have hm3 : (0 : Int32) ≤ (r1 &&& (7 : Int32)) ∧ (r1 &&& (7 : Int32)) ≤ (7 : Int32) := andc r1 7 (by decide)
  exact hp _ trivial
set_option maxHeartbeats 4000000 in
theorem sf_X0_gainOf {post : Int32 → MM → Int64 → Prop} {M : MM} {tl : Int64} {v1 : Int32} {v2 : Int32} {v3 : Int32} (hI : Inv M) (hp : ∀ (r : Int32), True → post r M tl) : wpX0_gainOf post M tl v1 v2 v3 := by
  unfold wpX0_gainOf
  refine sf_X1_tasteOf__3 hI  (fun r1 hq2 => ?_)
  refine sf_X1_costOf__3 hI  (fun r3 hq4 => ?_)
  refine sf_X7_kindAt__14 hI  (fun r5 hq6 => ?_)
  refine sf_X1_tasteOf__3 hI  (fun r7 hq8 => ?_)
  exact hp _ trivial
set_option maxHeartbeats 4000000 in
theorem sf_X10_gain {post : Int32 → MM → Int64 → Prop} {M : MM} {tl : Int64} {v1 : Int32} {v2 : Int32} {v3 : Int32} (hI : Inv M) (hp : ∀ (r : Int32), True → post r M tl) : wpX10_gain post M tl v1 v2 v3 := by
  unfold wpX10_gain
  refine sf_X1_isLot__3 hI  (fun r1 hq2 => ?_)
  refine ifs (fun hc3 => ?_) (fun hc4 => ?_)
  · skip
    exact hp _ trivial
  · skip
    refine sf_X10_isBuilt hI  (fun r5 hq6 => ?_)
    refine ifs (fun hc7 => ?_) (fun hc8 => ?_)
    · skip
      exact hp _ trivial
    · skip
      refine sf_X0_gainOf hI  (fun r9 hq10 => ?_)
      exact hp _ trivial
set_option maxHeartbeats 4000000 in
theorem sl_X0_bestKind_8 {post : Int32 → MM → Int64 → Prop} {M : MM} {tl : Int64} (hp : ∀ (r : Int32), True → post r M tl) (hI : Inv M) : ∀ v5 : Int32, 0 ≤ v5 → v5 ≤ 6 → ∃ n, ∀ (v1 : Int32) (v2 : Int32) (v3 : Int32) (v4 : Int32), (True) → wX0_bestKind_8 post n M tl v1 v2 v3 v4 v5 := by
  refine up_ex (P := fun d v5 => ∀ (v1 : Int32) (v2 : Int32) (v3 : Int32) (v4 : Int32), (True) → wX0_bestKind_8 post d M tl v1 v2 v3 v4 v5) 0 6 ?_
  intro d v5 hlo hhi rec v1 v2 v3 v4 hli
  unfold wX0_bestKind_8
  refine ifs (fun hc1 => ?_) (fun hc2 => ?_)
  · skip
    exact hp _ trivial
  · skip
    refine sf_X0_gainOf hI  (fun r3 hq4 => ?_)
    refine ifs (fun hc5 => ?_) (fun hc6 => ?_)
    · skip
      unfold wX0_bestKind_53
      exact rec (by lia) v1 v2 v3 v4 trivial
    · skip
      refine sf_X1_mayBuild__3 hI  (fun r7 hq8 => ?_)
      refine ifs (fun hc9 => ?_) (fun hc10 => ?_)
      · skip
        unfold wX0_bestKind_53
        exact rec (by lia) v1 v2 v3 v4 trivial
      · skip
        unfold wX0_bestKind_53
        exact rec (by lia) v1 v2 v5 r3 trivial
set_option maxHeartbeats 4000000 in
theorem sf_X0_bestKind {post : Int32 → MM → Int64 → Prop} {M : MM} {tl : Int64} {v1 : Int32} {v2 : Int32} (hI : Inv M) (hp : ∀ (r : Int32), True → post r M tl) : wpX0_bestKind post M tl v1 v2 := by
  unfold wpX0_bestKind
  obtain ⟨n1, hn2⟩ := sl_X0_bestKind_8 (M := M) (tl := tl) hp  hI (1 : Int32) (by lia) (by lia)
  exact ⟨n1, hn2 v1 v2 (0 : Int32) (0 : Int32) trivial⟩
set_option maxHeartbeats 4000000 in
theorem sf_X10_begin {post : Int32 → MM → Int64 → Prop} {M : MM} {tl : Int64} {v1 : Int32} {v2 : Int32} {v3 : Int32} (hI : Inv M) (hp : ∀ (r : Int32), True → post r M tl) : wpX10_begin post M tl v1 v2 v3 := by
  unfold wpX10_begin
  refine sf_X1_isLot__3 hI  (fun r1 hq2 => ?_)
  refine ifs (fun hc3 => ?_) (fun hc4 => ?_)
  · skip
    exact hp _ trivial
  · skip
    refine ifs (fun hc5 => ?_) (fun hc6 => ?_)
    · skip
      exact hp _ trivial
    · skip
      refine ifs (fun hc7 => ?_) (fun hc8 => ?_)
      · skip
        refine sf_X0_bestKind hI  (fun r9 hq10 => ?_)
        refine ifs (fun hc11 => ?_) (fun hc12 => ?_)
        · skip
          exact hp _ trivial
        · skip
          refine ifs (fun hc13 => ?_) (fun hc14 => ?_)
          · skip
            exact hp _ trivial
          · skip
            refine sf_X0_gainOf hI  (fun r15 hq16 => ?_)
            exact hp _ trivial
      · skip
        exact hp _ trivial
set_option maxHeartbeats 4000000 in
theorem sf_X10_waits {post : Int32 → MM → Int64 → Prop} {M : MM} {tl : Int64} {v1 : Int32} {v2 : Int32} (hI : Inv M) (hp : ∀ (r : Int32), True → post r M tl) : wpX10_waits post M tl v1 v2 := by
  unfold wpX10_waits
  refine sf_X1_isLot__3 hI  (fun r1 hq2 => ?_)
  refine ifs (fun hc3 => ?_) (fun hc4 => ?_)
  · skip
    exact hp _ trivial
  · skip
    refine sf_X1_matchOf__3 hI  (fun r5 hq6 => ?_)
    refine ifs (fun hc7 => ?_) (fun hc8 => ?_)
    · skip
      exact hp _ trivial
    · skip
      refine sf_X0_bestKind hI  (fun r9 hq10 => ?_)
      refine ifs (fun hc11 => ?_) (fun hc12 => ?_)
      · skip
        exact hp _ trivial
      · skip
        refine sf_X1_twinOf__3 hI  (fun r13 hq14 => ?_)
        refine sf_X0_gainOf hI  (fun r15 hq16 => ?_)
        exact hp _ trivial
set_option maxHeartbeats 4000000 in
theorem sf_X0_weighVex {post : MM → Int64 → Prop} {M : MM} {tl : Int64} {v1 : Int32} {v2 : Int32} {v3 : Int32} {v4 : Int32} (hI : Inv M) (hp : ∀ (M1 : MM) (t1 : Int64), Inv M1 → Fr [] [(48, 0), (48, 1), (48, 2)] M M1 → True → post M1 t1) : wpX0_weighVex post M tl v1 v2 v3 v4 := by
  unfold wpX0_weighVex
  refine sf_X1_twinOf__3 hI  (fun r1 hq2 => ?_)
  refine sf_X1_costOf__3 hI  (fun r3 hq4 => ?_)
  refine sf_X7_kindAt__14 hI  (fun r5 hq6 => ?_)
  refine sf_X1_tasteOf__3 hI  (fun r7 hq8 => ?_)
  refine sf_X1_tasteOf__3 hI  (fun r9 hq10 => ?_)
  refine ifs (fun hc11 => ?_) (fun hc12 => ?_)
  · skip
    refine sf_X1_costOf__3 hI  (fun r13 hq14 => ?_)
    refine sf_X1_costOf__3 hI  (fun r15 hq16 => ?_)
    refine ifs (fun hc17 => ?_) (fun hc18 => ?_)
    · skip
      unfold wX0_weighVex_99
      unfold wX0_weighVex_100
      refine ifs (fun hc19 => ?_) (fun hc20 => ?_)
      · skip
        unfold wX0_weighVex_125
        intro W21 hW22
        have hI23 : Inv W21 := by rw [hW22]; exact inv_set hI (i_any _)
        have hF24 : Fr [] [(48, 0), (48, 1), (48, 2)] M W21 := by rw [hW22]; exact fr_fld fr_rfl (by decide)
        have hv25 : W21 48 0 = ((r3 + r7) - r9) := by rw [hW22]; exact mset_at _ _ _ _
        intro W26 hW27
        have hI28 : Inv W26 := by rw [hW27]; exact inv_set hI23 (i_any _)
        have hF29 : Fr [] [(48, 0), (48, 1), (48, 2)] M W26 := by rw [hW27]; exact fr_fld hF24 (by decide)
        have hv30 : W26 48 1 = v2 := by rw [hW27]; exact mset_at _ _ _ _
        intro W31 hW32
        have hI33 : Inv W31 := by rw [hW32]; exact inv_set hI28 (i_any _)
        have hF34 : Fr [] [(48, 0), (48, 1), (48, 2)] M W31 := by rw [hW32]; exact fr_fld hF29 (by decide)
        have hv35 : W31 48 2 = v4 := by rw [hW32]; exact mset_at _ _ _ _
        exact hp _ _ hI33 hF34 trivial
      · skip
        refine ifs (fun hc36 => ?_) (fun hc37 => ?_)
        · skip
          unfold wX0_weighVex_125
          intro W38 hW39
          have hI40 : Inv W38 := by rw [hW39]; exact inv_set hI (i_any _)
          have hF41 : Fr [] [(48, 0), (48, 1), (48, 2)] M W38 := by rw [hW39]; exact fr_fld fr_rfl (by decide)
          have hv42 : W38 48 0 = ((r3 + r7) - r9) := by rw [hW39]; exact mset_at _ _ _ _
          intro W43 hW44
          have hI45 : Inv W43 := by rw [hW44]; exact inv_set hI40 (i_any _)
          have hF46 : Fr [] [(48, 0), (48, 1), (48, 2)] M W43 := by rw [hW44]; exact fr_fld hF41 (by decide)
          have hv47 : W43 48 1 = v2 := by rw [hW44]; exact mset_at _ _ _ _
          intro W48 hW49
          have hI50 : Inv W48 := by rw [hW49]; exact inv_set hI45 (i_any _)
          have hF51 : Fr [] [(48, 0), (48, 1), (48, 2)] M W48 := by rw [hW49]; exact fr_fld hF46 (by decide)
          have hv52 : W48 48 2 = v4 := by rw [hW49]; exact mset_at _ _ _ _
          exact hp _ _ hI50 hF51 trivial
        · skip
          refine ifp (by decide) ?_
          exact hp _ _ hI fr_rfl trivial
    · skip
      unfold wX0_weighVex_100
      refine ifs (fun hc53 => ?_) (fun hc54 => ?_)
      · skip
        unfold wX0_weighVex_125
        intro W55 hW56
        have hI57 : Inv W55 := by rw [hW56]; exact inv_set hI (i_any _)
        have hF58 : Fr [] [(48, 0), (48, 1), (48, 2)] M W55 := by rw [hW56]; exact fr_fld fr_rfl (by decide)
        have hv59 : W55 48 0 = ((r3 + r7) - r9) := by rw [hW56]; exact mset_at _ _ _ _
        intro W60 hW61
        have hI62 : Inv W60 := by rw [hW61]; exact inv_set hI57 (i_any _)
        have hF63 : Fr [] [(48, 0), (48, 1), (48, 2)] M W60 := by rw [hW61]; exact fr_fld hF58 (by decide)
        have hv64 : W60 48 1 = v2 := by rw [hW61]; exact mset_at _ _ _ _
        intro W65 hW66
        have hI67 : Inv W65 := by rw [hW66]; exact inv_set hI62 (i_any _)
        have hF68 : Fr [] [(48, 0), (48, 1), (48, 2)] M W65 := by rw [hW66]; exact fr_fld hF63 (by decide)
        have hv69 : W65 48 2 = v4 := by rw [hW66]; exact mset_at _ _ _ _
        exact hp _ _ hI67 hF68 trivial
      · skip
        refine ifs (fun hc70 => ?_) (fun hc71 => ?_)
        · skip
          unfold wX0_weighVex_125
          intro W72 hW73
          have hI74 : Inv W72 := by rw [hW73]; exact inv_set hI (i_any _)
          have hF75 : Fr [] [(48, 0), (48, 1), (48, 2)] M W72 := by rw [hW73]; exact fr_fld fr_rfl (by decide)
          have hv76 : W72 48 0 = ((r3 + r7) - r9) := by rw [hW73]; exact mset_at _ _ _ _
          intro W77 hW78
          have hI79 : Inv W77 := by rw [hW78]; exact inv_set hI74 (i_any _)
          have hF80 : Fr [] [(48, 0), (48, 1), (48, 2)] M W77 := by rw [hW78]; exact fr_fld hF75 (by decide)
          have hv81 : W77 48 1 = v2 := by rw [hW78]; exact mset_at _ _ _ _
          intro W82 hW83
          have hI84 : Inv W82 := by rw [hW83]; exact inv_set hI79 (i_any _)
          have hF85 : Fr [] [(48, 0), (48, 1), (48, 2)] M W82 := by rw [hW83]; exact fr_fld hF80 (by decide)
          have hv86 : W82 48 2 = v4 := by rw [hW83]; exact mset_at _ _ _ _
          exact hp _ _ hI84 hF85 trivial
        · skip
          refine ifn (by decide) ?_
          unfold wX0_weighVex_125
          intro W87 hW88
          have hI89 : Inv W87 := by rw [hW88]; exact inv_set hI (i_any _)
          have hF90 : Fr [] [(48, 0), (48, 1), (48, 2)] M W87 := by rw [hW88]; exact fr_fld fr_rfl (by decide)
          have hv91 : W87 48 0 = ((r3 + r7) - r9) := by rw [hW88]; exact mset_at _ _ _ _
          intro W92 hW93
          have hI94 : Inv W92 := by rw [hW93]; exact inv_set hI89 (i_any _)
          have hF95 : Fr [] [(48, 0), (48, 1), (48, 2)] M W92 := by rw [hW93]; exact fr_fld hF90 (by decide)
          have hv96 : W92 48 1 = v2 := by rw [hW93]; exact mset_at _ _ _ _
          intro W97 hW98
          have hI99 : Inv W97 := by rw [hW98]; exact inv_set hI94 (i_any _)
          have hF100 : Fr [] [(48, 0), (48, 1), (48, 2)] M W97 := by rw [hW98]; exact fr_fld hF95 (by decide)
          have hv101 : W97 48 2 = v4 := by rw [hW98]; exact mset_at _ _ _ _
          exact hp _ _ hI99 hF100 trivial
  · skip
    unfold wX0_weighVex_99
    unfold wX0_weighVex_100
    refine ifs (fun hc102 => ?_) (fun hc103 => ?_)
    · skip
      unfold wX0_weighVex_125
      intro W104 hW105
      have hI106 : Inv W104 := by rw [hW105]; exact inv_set hI (i_any _)
      have hF107 : Fr [] [(48, 0), (48, 1), (48, 2)] M W104 := by rw [hW105]; exact fr_fld fr_rfl (by decide)
      have hv108 : W104 48 0 = ((r3 + r7) - r9) := by rw [hW105]; exact mset_at _ _ _ _
      intro W109 hW110
      have hI111 : Inv W109 := by rw [hW110]; exact inv_set hI106 (i_any _)
      have hF112 : Fr [] [(48, 0), (48, 1), (48, 2)] M W109 := by rw [hW110]; exact fr_fld hF107 (by decide)
      have hv113 : W109 48 1 = v2 := by rw [hW110]; exact mset_at _ _ _ _
      intro W114 hW115
      have hI116 : Inv W114 := by rw [hW115]; exact inv_set hI111 (i_any _)
      have hF117 : Fr [] [(48, 0), (48, 1), (48, 2)] M W114 := by rw [hW115]; exact fr_fld hF112 (by decide)
      have hv118 : W114 48 2 = v4 := by rw [hW115]; exact mset_at _ _ _ _
      exact hp _ _ hI116 hF117 trivial
    · skip
      refine ifs (fun hc119 => ?_) (fun hc120 => ?_)
      · skip
        unfold wX0_weighVex_125
        intro W121 hW122
        have hI123 : Inv W121 := by rw [hW122]; exact inv_set hI (i_any _)
        have hF124 : Fr [] [(48, 0), (48, 1), (48, 2)] M W121 := by rw [hW122]; exact fr_fld fr_rfl (by decide)
        have hv125 : W121 48 0 = ((r3 + r7) - r9) := by rw [hW122]; exact mset_at _ _ _ _
        intro W126 hW127
        have hI128 : Inv W126 := by rw [hW127]; exact inv_set hI123 (i_any _)
        have hF129 : Fr [] [(48, 0), (48, 1), (48, 2)] M W126 := by rw [hW127]; exact fr_fld hF124 (by decide)
        have hv130 : W126 48 1 = v2 := by rw [hW127]; exact mset_at _ _ _ _
        intro W131 hW132
        have hI133 : Inv W131 := by rw [hW132]; exact inv_set hI128 (i_any _)
        have hF134 : Fr [] [(48, 0), (48, 1), (48, 2)] M W131 := by rw [hW132]; exact fr_fld hF129 (by decide)
        have hv135 : W131 48 2 = v4 := by rw [hW132]; exact mset_at _ _ _ _
        exact hp _ _ hI133 hF134 trivial
      · skip
        refine ifp (by decide) ?_
        exact hp _ _ hI fr_rfl trivial
set_option maxHeartbeats 4000000 in
theorem sl_X0_findVex_42 {post : MM → Int64 → Prop} {bk18 : MM → Int64 → Int32 → Int32 → Prop} {u18 : Int32} {Mb : MM} (hp : ∀ (M1 : MM) (t1 : Int64), Inv M1 → Fr [] [(48, 0), (48, 1), (48, 2)] Mb M1 → True → post M1 t1) (hb18 : ∀ (M1 : MM) (t1 : Int64) (v1 : Int32) (v2 : Int32), Inv M1 → Fr [] [(48, 0), (48, 1), (48, 2)] Mb M1 → v2 = u18 → True → bk18 M1 t1 v1 v2) : ∀ v4 : Int32, 0 ≤ v4 → v4 ≤ 6 → ∃ n, ∀ (M : MM) (tl : Int64) (v1 : Int32) (v2 : Int32) (v3 : Int32), Inv M → Fr [] [(48, 0), (48, 1), (48, 2)] Mb M → (0 ≤ v2 ∧ v2 < 8 ∧ (v3 = -4 ∨ (0 ≤ v3 ∧ v3 < 8)) ∧ v2 + (1 : Int32) = u18) → wX0_findVex_42 post bk18 n M tl v1 v2 v3 v4 := by
  refine up_ex (P := fun d v4 => ∀ (M : MM) (tl : Int64) (v1 : Int32) (v2 : Int32) (v3 : Int32), Inv M → Fr [] [(48, 0), (48, 1), (48, 2)] Mb M → (0 ≤ v2 ∧ v2 < 8 ∧ (v3 = -4 ∨ (0 ≤ v3 ∧ v3 < 8)) ∧ v2 + (1 : Int32) = u18) → wX0_findVex_42 post bk18 d M tl v1 v2 v3 v4) 0 6 ?_
  intro d v4 hlo hhi rec M tl v1 v2 v3 hI hF hli
  unfold wX0_findVex_42
  refine ifs (fun hc1 => ?_) (fun hc2 => ?_)
  · skip
    unfold wX0_findVex_98
    exact hb18 _ _ v1 (v2 + (1 : Int32)) hI hF (by lia) trivial
  · skip
    refine ifs (fun hc3 => ?_) (fun hc4 => ?_)
    · skip
      unfold wX0_findVex_98
      exact hb18 _ _ v1 (v2 + (1 : Int32)) hI hF (by lia) trivial
    · skip
      refine sf_X7_kindAt__14 hI  (fun r5 hq6 => ?_)
      refine ifs (fun hc7 => ?_) (fun hc8 => ?_)
      · skip
        unfold wX0_findVex_92
        exact rec (by lia) _ _ v1 v2 v3 hI hF (by lia)
      · skip
        refine sf_X1_mayBuild__3 hI  (fun r9 hq10 => ?_)
        refine ifs (fun hc11 => ?_) (fun hc12 => ?_)
        · skip
          unfold wX0_findVex_92
          exact rec (by lia) _ _ v1 v2 v3 hI hF (by lia)
        · skip
          refine sf_X0_weighVex hI  (fun M14 t15 hI16 hF17 hq18 => ?_)
          have hF19 : Fr [] [(48, 0), (48, 1), (48, 2)] Mb M14 := fr_call hF hF17 (by decide) (by decide)
          unfold wX0_findVex_92
          exact rec (by lia) _ _ v1 v2 v3 hI16 hF19 (by lia)
set_option maxHeartbeats 4000000 in
theorem sl_X0_findVex_18 {post : MM → Int64 → Prop} {Mb : MM} (hp : ∀ (M1 : MM) (t1 : Int64), Inv M1 → Fr [] [(48, 0), (48, 1), (48, 2)] Mb M1 → True → post M1 t1) : ∀ v2 : Int32, 0 ≤ v2 → v2 ≤ 8 → ∃ n, ∀ (M : MM) (tl : Int64) (v1 : Int32), Inv M → Fr [] [(48, 0), (48, 1), (48, 2)] Mb M → (True) → wX0_findVex_18 post n M tl v1 v2 := by
  refine up_ex (P := fun d v2 => ∀ (M : MM) (tl : Int64) (v1 : Int32), Inv M → Fr [] [(48, 0), (48, 1), (48, 2)] Mb M → (True) → wX0_findVex_18 post d M tl v1 v2) 0 8 ?_
  intro d v2 hlo hhi rec M tl v1 hI hF hli
  unfold wX0_findVex_18
  have hr1 := iv_3_0 hI
  refine ifs (fun hc2 => ?_) (fun hc3 => ?_)
  · skip
    exact hp _ _ hI hF trivial
  · skip
    refine sf_X1_matchOf__3 hI  (fun r4 hq5 => ?_)
    obtain ⟨n6, hn7⟩ := sl_X0_findVex_42 (Mb := Mb) (u18 := v2 + (1 : Int32)) hp (fun M1 t1 v1 v2 hJ hG hu hl => by subst hu; exact rec (by lia) M1 t1 v1 hJ hG hl) (1 : Int32) (by lia) (by lia)
    exact ⟨n6, hn7 _ _ v1 v2 r4 hI hF (by lia)⟩
set_option maxHeartbeats 4000000 in
theorem sf_X0_findVex {post : MM → Int64 → Prop} {M : MM} {tl : Int64} {v1 : Int32} (hI : Inv M) (hp : ∀ (M1 : MM) (t1 : Int64), Inv M1 → Fr [] [(48, 0), (48, 1), (48, 2)] M M1 → True → post M1 t1) : wpX0_findVex post M tl v1 := by
  unfold wpX0_findVex
  intro W1 hW2
  have hI3 : Inv W1 := by rw [hW2]; exact inv_set hI (i_any _)
  have hF4 : Fr [] [(48, 0), (48, 1), (48, 2)] M W1 := by rw [hW2]; exact fr_fld fr_rfl (by decide)
  have hv5 : W1 48 0 = (0 : Int32) := by rw [hW2]; exact mset_at _ _ _ _
  intro W6 hW7
  have hI8 : Inv W6 := by rw [hW7]; exact inv_set hI3 (i_any _)
  have hF9 : Fr [] [(48, 0), (48, 1), (48, 2)] M W6 := by rw [hW7]; exact fr_fld hF4 (by decide)
  have hv10 : W6 48 1 = (-4 : Int32) := by rw [hW7]; exact mset_at _ _ _ _
  intro W11 hW12
  have hI13 : Inv W11 := by rw [hW12]; exact inv_set hI8 (i_any _)
  have hF14 : Fr [] [(48, 0), (48, 1), (48, 2)] M W11 := by rw [hW12]; exact fr_fld hF9 (by decide)
  have hv15 : W11 48 2 = (0 : Int32) := by rw [hW12]; exact mset_at _ _ _ _
  obtain ⟨n16, hn17⟩ := sl_X0_findVex_18 (Mb := M) hp  (0 : Int32) (by lia) (by lia)
  exact ⟨n16, hn17 _ _ v1 hI13 hF14 trivial⟩
set_option maxHeartbeats 4000000 in
theorem sf_X10_vex {post : Int32 → MM → Int64 → Prop} {M : MM} {tl : Int64} {v1 : Int32} {v2 : Int32} (hI : Inv M) (hp : ∀ (r : Int32) (M1 : MM) (t1 : Int64), Inv M1 → Fr [] [(48, 0), (48, 1), (48, 2)] M M1 → True → post r M1 t1) : wpX10_vex post M tl v1 v2 := by
  unfold wpX10_vex
  refine sf_X10_isBank hI  (fun r1 hq2 => ?_)
  refine ifs (fun hc3 => ?_) (fun hc4 => ?_)
  · skip
    exact hp _ _ _ hI fr_rfl trivial
  · skip
    refine ifs (fun hc5 => ?_) (fun hc6 => ?_)
    · skip
      exact hp _ _ _ hI fr_rfl trivial
    · skip
      refine ifs (fun hc7 => ?_) (fun hc8 => ?_)
      · skip
        refine sf_X0_findVex hI  (fun M10 t11 hI12 hF13 hq14 => ?_)
        have hF15 : Fr [] [(48, 0), (48, 1), (48, 2)] M M10 := fr_call fr_rfl hF13 (by decide) (by decide)
        refine ifs (fun hc16 => ?_) (fun hc17 => ?_)
        · skip
          refine ifs (fun hc18 => ?_) (fun hc19 => ?_)
          · skip
            exact hp _ _ _ hI12 hF15 trivial
          · skip
            refine ifs (fun hc20 => ?_) (fun hc21 => ?_)
            · skip
              exact hp _ _ _ hI12 hF15 trivial
            · skip
              exact hp _ _ _ hI12 hF15 trivial
        · skip
          exact hp _ _ _ hI12 hF15 trivial
      · skip
        exact hp _ _ _ hI fr_rfl trivial
set_option maxHeartbeats 4000000 in
theorem sf_X5_isFull__18 {post : Int32 → MM → Int64 → Prop} {M : MM} {tl : Int64} (hI : Inv M) (hp : ∀ (r : Int32), ((r = 0 ∨ r = 1) ∧ (r = 0 → M 18 3 < 6)) → post r M tl) : wpX5_isFull post M tl 18 := by
  unfold wpX5_isFull
  simp only [Nat.reduceAdd, ln_al_18]
  refine And.intro (by decide) ?_
  refine And.intro (by decide) ?_
  have hr1 := iv_18_3 hI
  refine ifs (fun hc2 => ?_) (fun hc3 => ?_)
  · skip
    exact hp _ (by lia)
  · skip
    exact hp _ (by lia)
set_option maxHeartbeats 4000000 in
theorem sf_X5_setCell__18 {post : MM → Int64 → Prop} {M : MM} {tl : Int64} {v1 : Int32} {v2 : Int32} {v3 : Int32} (hI : Inv M) (hp1 : 0 ≤ v1 ∧ v1 < 6) (hp2 : 0 ≤ v2) (hp : ∀ (M1 : MM) (t1 : Int64), Inv M1 → Fr [19] [] M M1 → True → post M1 t1) : wpX5_setCell post M tl 18 v1 v2 v3 := by
  unfold wpX5_setCell
  simp only [Nat.reduceAdd, ln_wd_18]
  refine And.intro (by decide) ?_
  refine ifs (fun hc1 => ?_) (fun hc2 => ?_)
  · skip
    exact hp _ _ hI fr_rfl trivial
  · skip
    refine And.intro (by decide) ?_
    refine And.intro (by decide) ?_
    refine And.intro (by decide) ?_
    refine And.intro (vpI (c := 12) (by decide) (by lia) (by lia)) ?_
    intro W3 hW4
    have hI5 : Inv W3 := by rw [hW4]; exact inv_set hI (i_any _)
    have hF6 : Fr [19] [] M W3 := by rw [hW4]; exact fr_arr fr_rfl (by decide)
    exact hp _ _ hI5 hF6 trivial
set_option maxHeartbeats 4000000 in
theorem sf_X5_addRow__18 {post : MM → Int64 → Prop} {M : MM} {tl : Int64} {v1 : Int32} {v2 : Int32} {v3 : Int32} {v4 : Int32} (hI : Inv M) (hp : ∀ (M1 : MM) (t1 : Int64), Inv M1 → Fr [19] [(18, 3)] M M1 → True → post M1 t1) : wpX5_addRow post M tl 18 v1 v2 v3 v4 := by
  unfold wpX5_addRow
  refine And.intro (by decide) ?_
  refine sf_X5_isFull__18 hI  (fun r1 hq2 => ?_)
  refine ifs (fun hc3 => ?_) (fun hc4 => ?_)
  · skip
    refine And.intro (by decide) ?_
    refine And.intro (by decide) ?_
    refine And.intro (by decide) ?_
    have hr7 := iv_18_3 hI
    intro W5 hW6
    have hI8 : Inv W5 := by rw [hW6]; exact inv_set hI (show 0 ≤ ((M 18 3) + (1 : Int32)) ∧ ((M 18 3) + (1 : Int32)) ≤ 6 from ⟨by lia, by lia⟩)
    have hF9 : Fr [19] [(18, 3)] M W5 := by rw [hW6]; exact fr_fld fr_rfl (by decide)
    have hv10 : W5 18 3 = ((M 18 3) + (1 : Int32)) := by rw [hW6]; exact mset_at _ _ _ _
    refine And.intro (by decide) ?_
    refine sf_X5_setCell__18 hI8 (by lia) (by lia) (fun M12 t13 hI14 hF15 hq16 => ?_)
    have hF17 : Fr [19] [(18, 3)] M M12 := fr_call hF9 hF15 (by decide) (by decide)
    refine And.intro (by decide) ?_
    refine sf_X5_setCell__18 hI14 (by lia) (by lia) (fun M19 t20 hI21 hF22 hq23 => ?_)
    have hF24 : Fr [19] [(18, 3)] M M19 := fr_call hF17 hF22 (by decide) (by decide)
    refine And.intro (by decide) ?_
    refine sf_X5_setCell__18 hI21 (by lia) (by lia) (fun M26 t27 hI28 hF29 hq30 => ?_)
    have hF31 : Fr [19] [(18, 3)] M M26 := fr_call hF24 hF29 (by decide) (by decide)
    refine And.intro (by decide) ?_
    refine sf_X5_setCell__18 hI28 (by lia) (by lia) (fun M33 t34 hI35 hF36 hq37 => ?_)
    have hF38 : Fr [19] [(18, 3)] M M33 := fr_call hF31 hF36 (by decide) (by decide)
    exact hp _ _ hI35 hF38 trivial
  · skip
    exact hp _ _ hI fr_rfl trivial
set_option maxHeartbeats 4000000 in
theorem sf_X10_want {post : Int32 → MM → Int64 → Prop} {M : MM} {tl : Int64} {v1 : Int32} {v2 : Int32} (hI : Inv M) (hp : ∀ (r : Int32) (M1 : MM) (t1 : Int64), Inv M1 → Fr [19] [(18, 3)] M M1 → True → post r M1 t1) : wpX10_want post M tl v1 v2 := by
  unfold wpX10_want
  refine sf_X1_isLot__3 hI  (fun r1 hq2 => ?_)
  refine ifs (fun hc3 => ?_) (fun hc4 => ?_)
  · skip
    exact hp _ _ _ hI fr_rfl trivial
  · skip
    refine sf_X10_isBuilt hI  (fun r5 hq6 => ?_)
    refine ifs (fun hc7 => ?_) (fun hc8 => ?_)
    · skip
      exact hp _ _ _ hI fr_rfl trivial
    · skip
      refine sf_X5_isFull__18 hI  (fun r9 hq10 => ?_)
      refine ifs (fun hc11 => ?_) (fun hc12 => ?_)
      · skip
        refine sf_X5_addRow__18 hI  (fun M14 t15 hI16 hF17 hq18 => ?_)
        have hF19 : Fr [19] [(18, 3)] M M14 := fr_call fr_rfl hF17 (by decide) (by decide)
        have hr20 := iv_18_3 hI16
        exact hp _ _ _ hI16 hF19 trivial
      · skip
        exact hp _ _ _ hI fr_rfl trivial
set_option maxHeartbeats 4000000 in
theorem sf_X5_empty__18 {post : Int32 → MM → Int64 → Prop} {M : MM} {tl : Int64} (hI : Inv M) (hp : ∀ (r : Int32) (M1 : MM) (t1 : Int64), Inv M1 → Fr [] [(18, 3)] M M1 → True → post r M1 t1) : wpX5_empty post M tl 18 := by
  unfold wpX5_empty
  refine And.intro (by decide) ?_
  refine And.intro (by decide) ?_
  intro W1 hW2
  have hI3 : Inv W1 := by rw [hW2]; exact inv_set hI (show 0 ≤ (0 : Int32) ∧ (0 : Int32) ≤ 6 from ⟨by lia, by lia⟩)
  have hF4 : Fr [] [(18, 3)] M W1 := by rw [hW2]; exact fr_fld fr_rfl (by decide)
  have hv5 : W1 18 3 = (0 : Int32) := by rw [hW2]; exact mset_at _ _ _ _
  have hr6 := iv_18_3 hI
  exact hp _ _ _ hI3 hF4 trivial
set_option maxHeartbeats 4000000 in
theorem sf_X10_content {post : Int32 → MM → Int64 → Prop} {M : MM} {tl : Int64} (hI : Inv M) (hp : ∀ (r : Int32) (M1 : MM) (t1 : Int64), Inv M1 → Fr [] [(18, 3)] M M1 → True → post r M1 t1) : wpX10_content post M tl  := by
  unfold wpX10_content
  refine sf_X5_empty__18 hI  (fun r1 M2 t3 hI4 hF5 hq6 => ?_)
  have hF7 : Fr [] [(18, 3)] M M2 := fr_call fr_rfl hF5 (by decide) (by decide)
  exact hp _ _ _ hI4 hF7 trivial
set_option maxHeartbeats 4000000 in
theorem sf_X3_withOneMore {post : Int32 → MM → Int64 → Prop} {M : MM} {tl : Int64} {v0 : Int32} {v1 : Int32} (hI : Inv M) (hp : ∀ (r : Int32), (0 ≤ r ∧ r ≤ 255) → post r M tl) : wpX3_withOneMore post M tl v0 v1 := by
  unfold wpX3_withOneMore
  have hm1 : (0 : Int32) ≤ ((v0 + ((1 : Int32) <<< (((2 : Int32) * v1) &&& (31 : Int32)))) &&& (255 : Int32)) ∧ ((v0 + ((1 : Int32) <<< (((2 : Int32) * v1) &&& (31 : Int32)))) &&& (255 : Int32)) ≤ (255 : Int32) := andc (v0 + ((1 : Int32) <<< (((2 : Int32) * v1) &&& (31 : Int32)))) 255 (by decide)
  have hm2 : (0 : Int32) ≤ (((2 : Int32) * v1) &&& (31 : Int32)) ∧ (((2 : Int32) * v1) &&& (31 : Int32)) ≤ (31 : Int32) := andc ((2 : Int32) * v1) 31 (by decide)
  exact hp _ (by lia)
set_option maxHeartbeats 4000000 in
theorem sf_X3_taken {post : Int32 → MM → Int64 → Prop} {M : MM} {tl : Int64} {v0 : Int32} {v1 : Int32} (hI : Inv M) (hp : ∀ (r : Int32), (0 ≤ r ∧ r ≤ 3) → post r M tl) : wpX3_taken post M tl v0 v1 := by
  unfold wpX3_taken
  have hm1 : (0 : Int32) ≤ ((v0 >>> (((2 : Int32) * v1) &&& (31 : Int32))) &&& (3 : Int32)) ∧ ((v0 >>> (((2 : Int32) * v1) &&& (31 : Int32))) &&& (3 : Int32)) ≤ (3 : Int32) := andc (v0 >>> (((2 : Int32) * v1) &&& (31 : Int32))) 3 (by decide)
  have hm2 : (0 : Int32) ≤ (((2 : Int32) * v1) &&& (31 : Int32)) ∧ (((2 : Int32) * v1) &&& (31 : Int32)) ≤ (31 : Int32) := andc ((2 : Int32) * v1) 31 (by decide)
  exact hp _ (by lia)
set_option maxHeartbeats 4000000 in
theorem sf_X3_costWith {post : Int32 → MM → Int64 → Prop} {M : MM} {tl : Int64} {v1 : Int32} {v2 : Int32} {v3 : Int32} (hI : Inv M) (hp1 : 0 ≤ v2 ∧ v2 < 4) (hp : ∀ (r : Int32), True → post r M tl) : wpX3_costWith post M tl v1 v2 v3 := by
  unfold wpX3_costWith
  refine And.intro (vpI (c := 4) (by decide) (by lia) (by lia)) ?_
  refine sf_X3_withOneMore hI  (fun r1 hq2 => ?_)
  refine And.intro (vpI (c := 256) (by decide) (by lia) (by lia)) ?_
  exact hp _ trivial
set_option maxHeartbeats 4000000 in
theorem sl_X3_placeWants_26 {post : MM → Int64 → Prop} {bk5 : MM → Int64 → Int32 → Int32 → Int32 → Int32 → Prop} {u5 : Int32} {Mb : MM} (hp : ∀ (M1 : MM) (t1 : Int64), Inv M1 → Fr [52] [] Mb M1 → True → post M1 t1) (hb5 : ∀ (M1 : MM) (t1 : Int64) (v1 : Int32) (v2 : Int32) (v3 : Int32) (v4 : Int32), Inv M1 → Fr [52] [] Mb M1 → v4 = u5 → v2 ≤ 6 ∧ 0 ≤ v3 ∧ v3 ≤ 255 → bk5 M1 t1 v1 v2 v3 v4) : ∀ v6 : Int32, 0 ≤ v6 → v6 ≤ 4 → ∃ n, ∀ (M : MM) (tl : Int64) (v1 : Int32) (v2 : Int32) (v3 : Int32) (v4 : Int32) (v5 : Int32), Inv M → Fr [52] [] Mb M → (0 ≤ v3 ∧ v3 ≤ 255 ∧ v2 ≤ 6 ∧ 0 ≤ v4 ∧ v4 < 6 ∧ v4 < v2 ∧ v4 + (1 : Int32) = u5) → wX3_placeWants_26 post bk5 n M tl v1 v2 v3 v4 v5 v6 := by
  refine up_ex (P := fun d v6 => ∀ (M : MM) (tl : Int64) (v1 : Int32) (v2 : Int32) (v3 : Int32) (v4 : Int32) (v5 : Int32), Inv M → Fr [52] [] Mb M → (0 ≤ v3 ∧ v3 ≤ 255 ∧ v2 ≤ 6 ∧ 0 ≤ v4 ∧ v4 < 6 ∧ v4 < v2 ∧ v4 + (1 : Int32) = u5) → wX3_placeWants_26 post bk5 d M tl v1 v2 v3 v4 v5 v6) 0 4 ?_
  intro d v6 hlo hhi rec M tl v1 v2 v3 v4 v5 hI hF hli
  unfold wX3_placeWants_26
  refine ifs (fun hc1 => ?_) (fun hc2 => ?_)
  · skip
    refine sf_X3_withOneMore hI  (fun r3 hq4 => ?_)
    exact hb5 _ _ v1 v2 r3 (v4 + (1 : Int32)) hI hF (by lia) (by lia)
  · skip
    refine sf_X3_taken hI  (fun r5 hq6 => ?_)
    refine sf_X3_taken hI  (fun r7 hq8 => ?_)
    refine ifs (fun hc9 => ?_) (fun hc10 => ?_)
    · skip
      have hm11 : (0 : Int32) ≤ ((v6 - v1) &&& (3 : Int32)) ∧ ((v6 - v1) &&& (3 : Int32)) ≤ (3 : Int32) := andc (v6 - v1) 3 (by decide)
      unfold wX3_placeWants_66
      refine ifp (by decide) ?_
      unfold wX3_placeWants_121
      exact rec (by lia) _ _ v1 v2 v3 v4 v5 hI hF (by lia)
    · skip
      have hm12 : (0 : Int32) ≤ ((v6 - v1) &&& (3 : Int32)) ∧ ((v6 - v1) &&& (3 : Int32)) ≤ (3 : Int32) := andc (v6 - v1) 3 (by decide)
      unfold wX3_placeWants_66
      refine ifn (by decide) ?_
      refine And.intro (vpI (c := 6) (by decide) (by lia) (by lia)) ?_
      refine ifs (fun hc13 => ?_) (fun hc14 => ?_)
      · skip
        unfold wX3_placeWants_121
        exact rec (by lia) _ _ v1 v2 v3 v4 v5 hI hF (by lia)
      · skip
        refine And.intro (vpI (c := 6) (by decide) (by lia) (by lia)) ?_
        refine sf_X3_costWith hI (by lia) (fun r15 hq16 => ?_)
        refine And.intro (vpI (c := 256) (by decide) (by lia) (by lia)) ?_
        refine ifs (fun hc17 => ?_) (fun hc18 => ?_)
        · skip
          refine And.intro (vpI (c := 6) (by decide) (by lia) (by lia)) ?_
          intro W19 hW20
          have hI21 : Inv W19 := by rw [hW20]; exact inv_set hI (i_any _)
          have hF22 : Fr [52] [] Mb W19 := by rw [hW20]; exact fr_arr hF (by decide)
          unfold wX3_placeWants_121
          exact rec (by lia) _ _ v1 v2 v3 v4 v6 hI21 hF22 (by lia)
        · skip
          unfold wX3_placeWants_121
          exact rec (by lia) _ _ v1 v2 v3 v4 v5 hI hF (by lia)
set_option maxHeartbeats 4000000 in
theorem sl_X3_placeWants_5 {post : MM → Int64 → Prop} {Mb : MM} (hp : ∀ (M1 : MM) (t1 : Int64), Inv M1 → Fr [52] [] Mb M1 → True → post M1 t1) : ∀ v4 : Int32, 0 ≤ v4 → v4 ≤ 6 → ∃ n, ∀ (M : MM) (tl : Int64) (v1 : Int32) (v2 : Int32) (v3 : Int32), Inv M → Fr [52] [] Mb M → (v2 ≤ 6 ∧ 0 ≤ v3 ∧ v3 ≤ 255) → wX3_placeWants_5 post n M tl v1 v2 v3 v4 := by
  refine up_ex (P := fun d v4 => ∀ (M : MM) (tl : Int64) (v1 : Int32) (v2 : Int32) (v3 : Int32), Inv M → Fr [52] [] Mb M → (v2 ≤ 6 ∧ 0 ≤ v3 ∧ v3 ≤ 255) → wX3_placeWants_5 post d M tl v1 v2 v3 v4) 0 6 ?_
  intro d v4 hlo hhi rec M tl v1 v2 v3 hI hF hli
  unfold wX3_placeWants_5
  refine ifs (fun hc1 => ?_) (fun hc2 => ?_)
  · skip
    exact hp _ _ hI hF trivial
  · skip
    refine And.intro (vpI (c := 6) (by decide) (by lia) (by lia)) ?_
    intro W3 hW4
    have hI5 : Inv W3 := by rw [hW4]; exact inv_set hI (i_any _)
    have hF6 : Fr [52] [] Mb W3 := by rw [hW4]; exact fr_arr hF (by decide)
    obtain ⟨n7, hn8⟩ := sl_X3_placeWants_26 (Mb := Mb) (u5 := v4 + (1 : Int32)) hp (fun M1 t1 v1 v2 v3 v4 hJ hG hu hl => by subst hu; exact rec (by lia) M1 t1 v1 v2 v3 hJ hG hl) (0 : Int32) (by lia) (by lia)
    exact ⟨n7, hn8 _ _ v1 v2 v3 v4 (0 : Int32) hI5 hF6 (by lia)⟩
set_option maxHeartbeats 4000000 in
theorem sf_X3_placeWants {post : MM → Int64 → Prop} {M : MM} {tl : Int64} {v1 : Int32} {v2 : Int32} (hI : Inv M) (hp1 : v2 ≤ 6) (hp : ∀ (M1 : MM) (t1 : Int64), Inv M1 → Fr [52] [] M M1 → True → post M1 t1) : wpX3_placeWants post M tl v1 v2 := by
  unfold wpX3_placeWants
  obtain ⟨n1, hn2⟩ := sl_X3_placeWants_5 (Mb := M) hp  (0 : Int32) (by lia) (by lia)
  exact ⟨n1, hn2 _ _ v1 v2 (0 : Int32) hI fr_rfl (by lia)⟩
set_option maxHeartbeats 4000000 in
theorem sl_X3_leastFrom_6 {post : Int32 → MM → Int64 → Prop} {M : MM} {tl : Int64} (hp : ∀ (r : Int32), True → post r M tl) (hI : Inv M) : ∀ v4 : Int32, 0 ≤ v4 → v4 ≤ 4 → ∃ n, ∀ (v1 : Int32) (v2 : Int32) (v3 : Int32), (True) → wX3_leastFrom_6 post n M tl v1 v2 v3 v4 := by
  refine up_ex (P := fun d v4 => ∀ (v1 : Int32) (v2 : Int32) (v3 : Int32), (True) → wX3_leastFrom_6 post d M tl v1 v2 v3 v4) 0 4 ?_
  intro d v4 hlo hhi rec v1 v2 v3 hli
  unfold wX3_leastFrom_6
  refine ifs (fun hc1 => ?_) (fun hc2 => ?_)
  · skip
    exact hp _ trivial
  · skip
    refine sf_X3_taken hI  (fun r3 hq4 => ?_)
    refine ifs (fun hc5 => ?_) (fun hc6 => ?_)
    · skip
      unfold wX3_leastFrom_35
      exact rec (by lia) v1 v2 v3 trivial
    · skip
      refine sf_X3_costWith hI (by lia) (fun r7 hq8 => ?_)
      unfold wX3_leastFrom_35
      exact rec (by lia) v1 v2 (if r7 < v3 then r7 else v3) trivial
set_option maxHeartbeats 4000000 in
theorem sf_X3_leastFrom {post : Int32 → MM → Int64 → Prop} {M : MM} {tl : Int64} {v1 : Int32} {v2 : Int32} (hI : Inv M) (hp : ∀ (r : Int32), True → post r M tl) : wpX3_leastFrom post M tl v1 v2 := by
  unfold wpX3_leastFrom
  obtain ⟨n1, hn2⟩ := sl_X3_leastFrom_6 (M := M) (tl := tl) hp  hI (0 : Int32) (by lia) (by lia)
  exact ⟨n1, hn2 v1 v2 (1000000 : Int32) trivial⟩
set_option maxHeartbeats 4000000 in
theorem sf_X5_cell__18 {post : Int32 → MM → Int64 → Prop} {M : MM} {tl : Int64} {v1 : Int32} {v2 : Int32} (hI : Inv M) (hp : ∀ (r : Int32), True → post r M tl) : wpX5_cell post M tl 18 v1 v2 := by
  unfold wpX5_cell
  simp only [Nat.reduceAdd, ln_wd_18]
  refine ifs (fun hc1 => ?_) (fun hc2 => ?_)
  · skip
    exact hp _ trivial
  · skip
    refine And.intro (by decide) ?_
    have hr3 := iv_18_3 hI
    refine ifs (fun hc4 => ?_) (fun hc5 => ?_)
    · skip
      exact hp _ trivial
    · skip
      refine ifs (fun hc6 => ?_) (fun hc7 => ?_)
      · skip
        exact hp _ trivial
      · skip
        refine And.intro (by decide) ?_
        refine ifs (fun hc8 => ?_) (fun hc9 => ?_)
        · skip
          refine And.intro (by decide) ?_
          refine And.intro (by decide) ?_
          refine And.intro (by decide) ?_
          refine And.intro (vpI (c := 12) (by decide) (by lia) (by lia)) ?_
          exact hp _ trivial
        · skip
          exact hp _ trivial
set_option maxHeartbeats 4000000 in
theorem sl_X3_findPlan_81 {post : Int32 → MM → Int64 → Prop} {Mb : MM} (hp : ∀ (r : Int32) (M1 : MM) (t1 : Int64), Inv M1 → Fr [50, 51, 52] [] Mb M1 → True → post r M1 t1) : ∀ v3 : Int32, -8 ≤ v3 → v3 ≤ 255 → ∃ n, ∀ (M : MM) (tl : Int64) (v1 : Int32) (v2 : Int32), Inv M → Fr [50, 51, 52] [] Mb M → (v2 ≤ 6) → wX3_findPlan_81 post n M tl v1 v2 v3 := by
  refine dn_ex (P := fun d v3 => ∀ (M : MM) (tl : Int64) (v1 : Int32) (v2 : Int32), Inv M → Fr [50, 51, 52] [] Mb M → (v2 ≤ 6) → wX3_findPlan_81 post d M tl v1 v2 v3) (-1) 255 (by decide) (by decide) ?_
  intro d v3 hlo hhi rec M tl v1 v2 hI hF hli
  unfold wX3_findPlan_81
  refine ifs (fun hc1 => ?_) (fun hc2 => ?_)
  · skip
    refine sf_X3_placeWants hI (by lia) (fun M4 t5 hI6 hF7 hq8 => ?_)
    have hF9 : Fr [50, 51, 52] [] Mb M4 := fr_call hF hF7 (by decide) (by decide)
    refine And.intro (vpI (c := 256) (by decide) (by lia) (by lia)) ?_
    have hx10 : M4 50 0 = M 50 0 := hF7 50 0 (by decide) (by decide)
    exact hp _ _ _ hI6 hF9 trivial
  · skip
    refine sf_X3_taken hI  (fun r11 hq12 => ?_)
    refine sf_X3_taken hI  (fun r13 hq14 => ?_)
    refine sf_X3_taken hI  (fun r15 hq16 => ?_)
    refine sf_X3_taken hI  (fun r17 hq18 => ?_)
    refine ifs (fun hc19 => ?_) (fun hc20 => ?_)
    · skip
      unfold wX3_findPlan_137
      refine And.intro (vpI (c := 256) (by decide) (by lia) (by lia)) ?_
      intro W21 hW22
      have hI23 : Inv W21 := by rw [hW22]; exact inv_set hI (i_any _)
      have hF24 : Fr [50, 51, 52] [] Mb W21 := by rw [hW22]; exact fr_arr hF (by decide)
      exact rec (by lia) _ _ v1 v2 hI23 hF24 (by lia)
    · skip
      refine And.intro (vpI (c := 6) (by decide) (by lia) (by lia)) ?_
      refine sf_X3_leastFrom hI  (fun r25 hq26 => ?_)
      unfold wX3_findPlan_137
      refine And.intro (vpI (c := 256) (by decide) (by lia) (by lia)) ?_
      intro W27 hW28
      have hI29 : Inv W27 := by rw [hW28]; exact inv_set hI (i_any _)
      have hF30 : Fr [50, 51, 52] [] Mb W27 := by rw [hW28]; exact fr_arr hF (by decide)
      exact rec (by lia) _ _ v1 v2 hI29 hF30 (by lia)
set_option maxHeartbeats 4000000 in
theorem sl_X3_findPlan_18 {post : Int32 → MM → Int64 → Prop} {Mb : MM} (hp : ∀ (r : Int32) (M1 : MM) (t1 : Int64), Inv M1 → Fr [50, 51, 52] [] Mb M1 → True → post r M1 t1) : ∀ v3 : Int32, 0 ≤ v3 → v3 ≤ 6 → ∃ n, ∀ (M : MM) (tl : Int64) (v1 : Int32) (v2 : Int32), Inv M → Fr [50, 51, 52] [] Mb M → (v2 ≤ 6) → wX3_findPlan_18 post n M tl v1 v2 v3 := by
  refine up_ex (P := fun d v3 => ∀ (M : MM) (tl : Int64) (v1 : Int32) (v2 : Int32), Inv M → Fr [50, 51, 52] [] Mb M → (v2 ≤ 6) → wX3_findPlan_18 post d M tl v1 v2 v3) 0 6 ?_
  intro d v3 hlo hhi rec M tl v1 v2 hI hF hli
  unfold wX3_findPlan_18
  refine ifs (fun hc1 => ?_) (fun hc2 => ?_)
  · skip
    obtain ⟨n3, hn4⟩ := sl_X3_findPlan_81 (Mb := Mb) hp  (255 : Int32) (by lia) (by lia)
    exact ⟨n3, hn4 _ _ v1 v2 hI hF (by lia)⟩
  · skip
    refine sf_X5_cell__18 hI  (fun r5 hq6 => ?_)
    refine sf_X1_costOf__3 hI  (fun r7 hq8 => ?_)
    refine sf_X1_twinOf__3 hI  (fun r9 hq10 => ?_)
    refine sf_X1_costOf__3 hI  (fun r11 hq12 => ?_)
    refine And.intro (vpI (c := 6) (by decide) (by lia) (by lia)) ?_
    intro W13 hW14
    have hI15 : Inv W13 := by rw [hW14]; exact inv_set hI (i_any _)
    have hF16 : Fr [50, 51, 52] [] Mb W13 := by rw [hW14]; exact fr_arr hF (by decide)
    exact rec (by lia) _ _ v1 v2 hI15 hF16 (by lia)
set_option maxHeartbeats 4000000 in
theorem sf_X3_findPlan {post : Int32 → MM → Int64 → Prop} {M : MM} {tl : Int64} {v1 : Int32} (hI : Inv M) (hp : ∀ (r : Int32) (M1 : MM) (t1 : Int64), Inv M1 → Fr [50, 51, 52] [] M M1 → True → post r M1 t1) : wpX3_findPlan post M tl v1 := by
  unfold wpX3_findPlan
  have hr1 := iv_18_3 hI
  obtain ⟨n2, hn3⟩ := sl_X3_findPlan_18 (Mb := M) hp  (0 : Int32) (by lia) (by lia)
  exact ⟨n2, hn3 _ _ v1 (if (6 : Int32) < (M 18 3) then (6 : Int32) else (M 18 3)) hI fr_rfl (by lia)⟩
set_option maxHeartbeats 4000000 in
theorem sf_X3_monthOf {post : Int32 → MM → Int64 → Prop} {M : MM} {tl : Int64} {v1 : Int32} (hI : Inv M) (hp : ∀ (r : Int32), True → post r M tl) : wpX3_monthOf post M tl v1 := by
  unfold wpX3_monthOf
  refine ifs (fun hc1 => ?_) (fun hc2 => ?_)
  · skip
    exact hp _ trivial
  · skip
    refine ifs (fun hc3 => ?_) (fun hc4 => ?_)
    · skip
      exact hp _ trivial
    · skip
      refine And.intro (vpI (c := 6) (by decide) (by lia) (by lia)) ?_
      exact hp _ trivial
set_option maxHeartbeats 4000000 in
theorem sf_X10_plan {post : Int32 → MM → Int64 → Prop} {M : MM} {tl : Int64} {v1 : Int32} {v2 : Int32} (hI : Inv M) (hp : ∀ (r : Int32) (M1 : MM) (t1 : Int64), Inv M1 → Fr [50, 51, 52] [] M M1 → True → post r M1 t1) : wpX10_plan post M tl v1 v2 := by
  unfold wpX10_plan
  refine ifs (fun hc1 => ?_) (fun hc2 => ?_)
  · skip
    have hr3 := iv_18_3 hI
    unfold wX10_plan_29
    unfold wX10_plan_30
    refine ifs (fun hc4 => ?_) (fun hc5 => ?_)
    · skip
      exact hp _ _ _ hI fr_rfl trivial
    · skip
      refine ifs (fun hc6 => ?_) (fun hc7 => ?_)
      · skip
        exact hp _ _ _ hI fr_rfl trivial
      · skip
        refine ifs (fun hc8 => ?_) (fun hc9 => ?_)
        · skip
          unfold wX10_plan_52
          refine ifs (fun hc10 => ?_) (fun hc11 => ?_)
          · skip
            exact hp _ _ _ hI fr_rfl trivial
          · skip
            refine sf_X3_findPlan hI  (fun r12 M13 t14 hI15 hF16 hq17 => ?_)
            have hF18 : Fr [50, 51, 52] [] M M13 := fr_call fr_rfl hF16 (by decide) (by decide)
            refine ifs (fun hc19 => ?_) (fun hc20 => ?_)
            · skip
              exact hp _ _ _ hI15 hF18 trivial
            · skip
              refine sf_X3_monthOf hI15  (fun r21 hq22 => ?_)
              exact hp _ _ _ hI15 hF18 trivial
        · skip
          refine ifp (by decide) ?_
          exact hp _ _ _ hI fr_rfl trivial
  · skip
    have hr23 := iv_18_3 hI
    refine ifs (fun hc24 => ?_) (fun hc25 => ?_)
    · skip
      unfold wX10_plan_29
      unfold wX10_plan_30
      refine ifs (fun hc26 => ?_) (fun hc27 => ?_)
      · skip
        exact hp _ _ _ hI fr_rfl trivial
      · skip
        refine ifs (fun hc28 => ?_) (fun hc29 => ?_)
        · skip
          exact hp _ _ _ hI fr_rfl trivial
        · skip
          refine ifs (fun hc30 => ?_) (fun hc31 => ?_)
          · skip
            unfold wX10_plan_52
            refine ifs (fun hc32 => ?_) (fun hc33 => ?_)
            · skip
              exact hp _ _ _ hI fr_rfl trivial
            · skip
              refine sf_X3_findPlan hI  (fun r34 M35 t36 hI37 hF38 hq39 => ?_)
              have hF40 : Fr [50, 51, 52] [] M M35 := fr_call fr_rfl hF38 (by decide) (by decide)
              refine ifs (fun hc41 => ?_) (fun hc42 => ?_)
              · skip
                exact hp _ _ _ hI37 hF40 trivial
              · skip
                refine sf_X3_monthOf hI37  (fun r43 hq44 => ?_)
                exact hp _ _ _ hI37 hF40 trivial
          · skip
            refine ifp (by decide) ?_
            exact hp _ _ _ hI fr_rfl trivial
    · skip
      unfold wX10_plan_30
      refine ifs (fun hc45 => ?_) (fun hc46 => ?_)
      · skip
        exact hp _ _ _ hI fr_rfl trivial
      · skip
        refine ifs (fun hc47 => ?_) (fun hc48 => ?_)
        · skip
          exact hp _ _ _ hI fr_rfl trivial
        · skip
          refine ifs (fun hc49 => ?_) (fun hc50 => ?_)
          · skip
            unfold wX10_plan_52
            refine ifs (fun hc51 => ?_) (fun hc52 => ?_)
            · skip
              exact hp _ _ _ hI fr_rfl trivial
            · skip
              refine sf_X3_findPlan hI  (fun r53 M54 t55 hI56 hF57 hq58 => ?_)
              have hF59 : Fr [50, 51, 52] [] M M54 := fr_call fr_rfl hF57 (by decide) (by decide)
              refine ifs (fun hc60 => ?_) (fun hc61 => ?_)
              · skip
                exact hp _ _ _ hI56 hF59 trivial
              · skip
                refine sf_X3_monthOf hI56  (fun r62 hq63 => ?_)
                exact hp _ _ _ hI56 hF59 trivial
          · skip
            refine ifn (by decide) ?_
            unfold wX10_plan_52
            refine ifs (fun hc64 => ?_) (fun hc65 => ?_)
            · skip
              exact hp _ _ _ hI fr_rfl trivial
            · skip
              refine sf_X3_findPlan hI  (fun r66 M67 t68 hI69 hF70 hq71 => ?_)
              have hF72 : Fr [50, 51, 52] [] M M67 := fr_call fr_rfl hF70 (by decide) (by decide)
              refine ifs (fun hc73 => ?_) (fun hc74 => ?_)
              · skip
                exact hp _ _ _ hI69 hF72 trivial
              · skip
                refine sf_X3_monthOf hI69  (fun r75 hq76 => ?_)
                exact hp _ _ _ hI69 hF72 trivial
set_option maxHeartbeats 4000000 in
theorem sl_X3_kindsBarred_4 {post : Int32 → MM → Int64 → Prop} {M : MM} {tl : Int64} (hp : ∀ (r : Int32), True → post r M tl) (hI : Inv M) : ∀ v2 : Int32, 0 ≤ v2 → v2 ≤ 6 → ∃ n, ∀ (v1 : Int32), (True) → wX3_kindsBarred_4 post n M tl v1 v2 := by
  refine up_ex (P := fun d v2 => ∀ (v1 : Int32), (True) → wX3_kindsBarred_4 post d M tl v1 v2) 0 6 ?_
  intro d v2 hlo hhi rec v1 hli
  unfold wX3_kindsBarred_4
  have hr1 := iv_18_3 hI
  refine ifs (fun hc2 => ?_) (fun hc3 => ?_)
  · skip
    exact hp _ trivial
  · skip
    refine sf_X5_cell__18 hI  (fun r4 hq5 => ?_)
    refine sf_X1_lacks__3 hI  (fun r6 hq7 => ?_)
    refine ifs (fun hc8 => ?_) (fun hc9 => ?_)
    · skip
      refine sf_X1_twinOf__3 hI  (fun r10 hq11 => ?_)
      refine sf_X1_lacks__3 hI  (fun r12 hq13 => ?_)
      refine ifs (fun hc14 => ?_) (fun hc15 => ?_)
      · skip
        unfold wX3_kindsBarred_68
        exact rec (by lia) v1 trivial
      · skip
        unfold wX3_kindsBarred_62
        have hm16 : (0 : Int32) ≤ (r4 &&& (31 : Int32)) ∧ (r4 &&& (31 : Int32)) ≤ (31 : Int32) := andc r4 31 (by decide)
        unfold wX3_kindsBarred_68
        exact rec (by lia) (v1 ||| ((1 : Int32) <<< (r4 &&& (31 : Int32)))) trivial
    · skip
      unfold wX3_kindsBarred_62
      have hm17 : (0 : Int32) ≤ (r4 &&& (31 : Int32)) ∧ (r4 &&& (31 : Int32)) ≤ (31 : Int32) := andc r4 31 (by decide)
      unfold wX3_kindsBarred_68
      exact rec (by lia) (v1 ||| ((1 : Int32) <<< (r4 &&& (31 : Int32)))) trivial
set_option maxHeartbeats 4000000 in
theorem sf_X3_kindsBarred {post : Int32 → MM → Int64 → Prop} {M : MM} {tl : Int64} (hI : Inv M) (hp : ∀ (r : Int32), True → post r M tl) : wpX3_kindsBarred post M tl  := by
  unfold wpX3_kindsBarred
  obtain ⟨n1, hn2⟩ := sl_X3_kindsBarred_4 (M := M) (tl := tl) hp  hI (0 : Int32) (by lia) (by lia)
  exact ⟨n1, hn2 (0 : Int32) trivial⟩
set_option maxHeartbeats 4000000 in
theorem sl_X3_costInstead_71 {post : Int32 → MM → Int64 → Prop} {M : MM} {tl : Int64} (hp : ∀ (r : Int32), True → post r M tl) (hI : Inv M) : ∀ v3 : Int32, 0 ≤ v3 → v3 ≤ 6 → ∃ n, ∀ (v1 : Int32) (v2 : Int32), (True) → wX3_costInstead_71 post n M tl v1 v2 v3 := by
  refine up_ex (P := fun d v3 => ∀ (v1 : Int32) (v2 : Int32), (True) → wX3_costInstead_71 post d M tl v1 v2 v3) 0 6 ?_
  intro d v3 hlo hhi rec v1 v2 hli
  unfold wX3_costInstead_71
  have hr1 := iv_18_3 hI
  refine ifs (fun hc2 => ?_) (fun hc3 => ?_)
  · skip
    exact hp _ trivial
  · skip
    refine sf_X5_cell__18 hI  (fun r4 hq5 => ?_)
    refine sf_X1_twinOf__3 hI  (fun r6 hq7 => ?_)
    refine sf_X1_lacks__3 hI  (fun r8 hq9 => ?_)
    refine ifs (fun hc10 => ?_) (fun hc11 => ?_)
    · skip
      unfold wX3_costInstead_125
      exact rec (by lia) v1 (v2 + (0 : Int32)) trivial
    · skip
      unfold wX3_costInstead_125
      exact rec (by lia) v1 (v2 + v1) trivial
set_option maxHeartbeats 4000000 in
theorem sl_X3_costInstead_5 {post : Int32 → MM → Int64 → Prop} {M : MM} {tl : Int64} (hp : ∀ (r : Int32), True → post r M tl) (hI : Inv M) : ∀ v2 : Int32, 0 ≤ v2 → v2 ≤ 6 → ∃ n, ∀ (v1 : Int32), (True) → wX3_costInstead_5 post n M tl v1 v2 := by
  refine up_ex (P := fun d v2 => ∀ (v1 : Int32), (True) → wX3_costInstead_5 post d M tl v1 v2) 0 6 ?_
  intro d v2 hlo hhi rec v1 hli
  unfold wX3_costInstead_5
  refine ifs (fun hc1 => ?_) (fun hc2 => ?_)
  · skip
    refine ifs (fun hc3 => ?_) (fun hc4 => ?_)
    · skip
      exact hp _ trivial
    · skip
      obtain ⟨n5, hn6⟩ := sl_X3_costInstead_71 (M := M) (tl := tl) hp  hI (0 : Int32) (by lia) (by lia)
      exact ⟨n5, hn6 v1 (0 : Int32) trivial⟩
  · skip
    refine sf_X1_lacks__3 hI  (fun r7 hq8 => ?_)
    refine ifs (fun hc9 => ?_) (fun hc10 => ?_)
    · skip
      refine ifs (fun hc11 => ?_) (fun hc12 => ?_)
      · skip
        unfold wX3_costInstead_42
        refine sf_X1_costOf__3 hI  (fun r13 hq14 => ?_)
        unfold wX3_costInstead_52
        exact rec (by lia) r13 trivial
      · skip
        refine sf_X1_costOf__3 hI  (fun r15 hq16 => ?_)
        refine ifs (fun hc17 => ?_) (fun hc18 => ?_)
        · skip
          unfold wX3_costInstead_52
          exact rec (by lia) v1 trivial
        · skip
          unfold wX3_costInstead_42
          refine sf_X1_costOf__3 hI  (fun r19 hq20 => ?_)
          unfold wX3_costInstead_52
          exact rec (by lia) r19 trivial
    · skip
      unfold wX3_costInstead_52
      exact rec (by lia) v1 trivial
set_option maxHeartbeats 4000000 in
theorem sf_X3_costInstead {post : Int32 → MM → Int64 → Prop} {M : MM} {tl : Int64} (hI : Inv M) (hp : ∀ (r : Int32), True → post r M tl) : wpX3_costInstead post M tl  := by
  unfold wpX3_costInstead
  obtain ⟨n1, hn2⟩ := sl_X3_costInstead_5 (M := M) (tl := tl) hp  hI (1 : Int32) (by lia) (by lia)
  exact ⟨n1, hn2 (-4 : Int32) trivial⟩
set_option maxHeartbeats 4000000 in
theorem sf_X10_cannot {post : Int32 → MM → Int64 → Prop} {M : MM} {tl : Int64} {v1 : Int32} (hI : Inv M) (hp : ∀ (r : Int32), True → post r M tl) : wpX10_cannot post M tl v1 := by
  unfold wpX10_cannot
  refine ifs (fun hc1 => ?_) (fun hc2 => ?_)
  · skip
    exact hp _ trivial
  · skip
    refine ifs (fun hc3 => ?_) (fun hc4 => ?_)
    · skip
      refine ifs (fun hc5 => ?_) (fun hc6 => ?_)
      · skip
        refine sf_X3_kindsBarred hI  (fun r7 hq8 => ?_)
        exact hp _ trivial
      · skip
        refine sf_X3_costInstead hI  (fun r9 hq10 => ?_)
        exact hp _ trivial
    · skip
      exact hp _ trivial
set_option maxHeartbeats 4000000 in
theorem sf_X10_lossOfBoth {post : Int32 → MM → Int64 → Prop} {M : MM} {tl : Int64} {v1 : Int32} {v2 : Int32} {v3 : Int32} (hI : Inv M) (hp : ∀ (r : Int32), True → post r M tl) : wpX10_lossOfBoth post M tl v1 v2 v3 := by
  unfold wpX10_lossOfBoth
  refine sf_X1_tasteOf__3 hI  (fun r1 hq2 => ?_)
  refine sf_X1_matchOf__3 hI  (fun r3 hq4 => ?_)
  refine ifs (fun hc5 => ?_) (fun hc6 => ?_)
  · skip
    exact hp _ trivial
  · skip
    refine sf_X7_kindAt__14 hI  (fun r7 hq8 => ?_)
    refine sf_X1_tasteOf__3 hI  (fun r9 hq10 => ?_)
    exact hp _ trivial
set_option maxHeartbeats 4000000 in
theorem sf_X10_fire {post : Int32 → MM → Int64 → Prop} {M : MM} {tl : Int64} {v1 : Int32} {v2 : Int32} {v3 : Int32} (hI : Inv M) (hp : ∀ (r : Int32), True → post r M tl) : wpX10_fire post M tl v1 v2 v3 := by
  unfold wpX10_fire
  refine sf_X1_isLot__3 hI  (fun r1 hq2 => ?_)
  refine ifs (fun hc3 => ?_) (fun hc4 => ?_)
  · skip
    exact hp _ trivial
  · skip
    refine ifs (fun hc5 => ?_) (fun hc6 => ?_)
    · skip
      exact hp _ trivial
    · skip
      refine ifs (fun hc7 => ?_) (fun hc8 => ?_)
      · skip
        refine sf_X7_kindAt__14 hI  (fun r9 hq10 => ?_)
        refine ifs (fun hc11 => ?_) (fun hc12 => ?_)
        · skip
          exact hp _ trivial
        · skip
          refine sf_X1_costOf__3 hI  (fun r13 hq14 => ?_)
          refine sf_X10_lossOfBoth hI  (fun r15 hq16 => ?_)
          refine ifs (fun hc17 => ?_) (fun hc18 => ?_)
          · skip
            refine ifs (fun hc19 => ?_) (fun hc20 => ?_)
            · skip
              exact hp _ trivial
            · skip
              exact hp _ trivial
          · skip
            exact hp _ trivial
      · skip
        exact hp _ trivial
set_option maxHeartbeats 4000000 in
theorem sl_X10_quarrelBy_4 {post : Int32 → MM → Int64 → Prop} {M : MM} {tl : Int64} (hp : ∀ (r : Int32), True → post r M tl) (hI : Inv M) : ∀ v3 : Int32, 0 ≤ v3 → v3 ≤ 8 → ∃ n, ∀ (v1 : Int32) (v2 : Int32), (True) → wX10_quarrelBy_4 post n M tl v1 v2 v3 := by
  refine up_ex (P := fun d v3 => ∀ (v1 : Int32) (v2 : Int32), (True) → wX10_quarrelBy_4 post d M tl v1 v2 v3) 0 8 ?_
  intro d v3 hlo hhi rec v1 v2 hli
  unfold wX10_quarrelBy_4
  have hr1 := iv_3_0 hI
  refine ifs (fun hc2 => ?_) (fun hc3 => ?_)
  · skip
    exact hp _ trivial
  · skip
    refine sf_X1_matchBy__3 hI  (fun r4 hq5 => ?_)
    refine ifs (fun hc6 => ?_) (fun hc7 => ?_)
    · skip
      refine sf_X7_kindAt__14 hI  (fun r8 hq9 => ?_)
      refine ifs (fun hc10 => ?_) (fun hc11 => ?_)
      · skip
        unfold wX10_quarrelBy_52
        unfold wX10_quarrelBy_89
        refine sf_X1_matchBy__3 hI  (fun r12 hq13 => ?_)
        refine ifs (fun hc14 => ?_) (fun hc15 => ?_)
        · skip
          refine sf_X7_kindAt__14 hI  (fun r16 hq17 => ?_)
          refine ifs (fun hc18 => ?_) (fun hc19 => ?_)
          · skip
            unfold wX10_quarrelBy_119
            exact rec (by lia) v1 (v2 + (0 : Int32)) trivial
          · skip
            unfold wX10_quarrelBy_119
            exact rec (by lia) v1 ((v2 + (0 : Int32)) + (1 : Int32)) trivial
        · skip
          unfold wX10_quarrelBy_119
          exact rec (by lia) v1 (v2 + (0 : Int32)) trivial
      · skip
        unfold wX10_quarrelBy_52
        unfold wX10_quarrelBy_89
        refine sf_X1_matchBy__3 hI  (fun r20 hq21 => ?_)
        refine ifs (fun hc22 => ?_) (fun hc23 => ?_)
        · skip
          refine sf_X7_kindAt__14 hI  (fun r24 hq25 => ?_)
          refine ifs (fun hc26 => ?_) (fun hc27 => ?_)
          · skip
            unfold wX10_quarrelBy_119
            exact rec (by lia) v1 (v2 + (1 : Int32)) trivial
          · skip
            unfold wX10_quarrelBy_119
            exact rec (by lia) v1 ((v2 + (1 : Int32)) + (1 : Int32)) trivial
        · skip
          unfold wX10_quarrelBy_119
          exact rec (by lia) v1 (v2 + (1 : Int32)) trivial
    · skip
      refine sf_X7_thingAt__14 hI  (fun r28 hq29 => ?_)
      refine sf_X7_thingAt__14 hI  (fun r30 hq31 => ?_)
      refine sf_X1_isEven__3 hI  (fun r32 hq33 => ?_)
      refine ifs (fun hc34 => ?_) (fun hc35 => ?_)
      · skip
        unfold wX10_quarrelBy_89
        refine sf_X1_matchBy__3 hI  (fun r36 hq37 => ?_)
        refine ifs (fun hc38 => ?_) (fun hc39 => ?_)
        · skip
          refine sf_X7_kindAt__14 hI  (fun r40 hq41 => ?_)
          refine ifs (fun hc42 => ?_) (fun hc43 => ?_)
          · skip
            unfold wX10_quarrelBy_119
            exact rec (by lia) v1 (v2 + (1 : Int32)) trivial
          · skip
            unfold wX10_quarrelBy_119
            exact rec (by lia) v1 ((v2 + (1 : Int32)) + (1 : Int32)) trivial
        · skip
          unfold wX10_quarrelBy_119
          exact rec (by lia) v1 (v2 + (1 : Int32)) trivial
      · skip
        unfold wX10_quarrelBy_89
        refine sf_X1_matchBy__3 hI  (fun r44 hq45 => ?_)
        refine ifs (fun hc46 => ?_) (fun hc47 => ?_)
        · skip
          refine sf_X7_kindAt__14 hI  (fun r48 hq49 => ?_)
          refine ifs (fun hc50 => ?_) (fun hc51 => ?_)
          · skip
            unfold wX10_quarrelBy_119
            exact rec (by lia) v1 v2 trivial
          · skip
            unfold wX10_quarrelBy_119
            exact rec (by lia) v1 (v2 + (1 : Int32)) trivial
        · skip
          unfold wX10_quarrelBy_119
          exact rec (by lia) v1 v2 trivial
set_option maxHeartbeats 4000000 in
theorem sf_X10_quarrelBy {post : Int32 → MM → Int64 → Prop} {M : MM} {tl : Int64} {v1 : Int32} (hI : Inv M) (hp : ∀ (r : Int32), True → post r M tl) : wpX10_quarrelBy post M tl v1 := by
  unfold wpX10_quarrelBy
  obtain ⟨n1, hn2⟩ := sl_X10_quarrelBy_4 (M := M) (tl := tl) hp  hI (0 : Int32) (by lia) (by lia)
  exact ⟨n1, hn2 v1 (0 : Int32) trivial⟩
set_option maxHeartbeats 4000000 in
theorem sf_X10_quarrel {post : Int32 → MM → Int64 → Prop} {M : MM} {tl : Int64} {v1 : Int32} (hI : Inv M) (hp : ∀ (r : Int32), True → post r M tl) : wpX10_quarrel post M tl v1 := by
  unfold wpX10_quarrel
  refine ifs (fun hc1 => ?_) (fun hc2 => ?_)
  · skip
    exact hp _ trivial
  · skip
    refine ifs (fun hc3 => ?_) (fun hc4 => ?_)
    · skip
      refine sf_X10_quarrelBy hI  (fun r5 hq6 => ?_)
      exact hp _ trivial
    · skip
      exact hp _ trivial
set_option maxHeartbeats 4000000 in
theorem sl_X10_bend_10 {post : Int32 → MM → Int64 → Prop} {M : MM} {tl : Int64} (hp : ∀ (r : Int32), True → post r M tl) (hI : Inv M) : ∀ v3 : Int32, 0 ≤ v3 → v3 ≤ 7 → ∃ n, ∀ (v1 : Int32) (v2 : Int32), (True) → wX10_bend_10 post n M tl v1 v2 v3 := by
  refine up_ex (P := fun d v3 => ∀ (v1 : Int32) (v2 : Int32), (True) → wX10_bend_10 post d M tl v1 v2 v3) 0 7 ?_
  intro d v3 hlo hhi rec v1 v2 hli
  unfold wX10_bend_10
  refine ifs (fun hc1 => ?_) (fun hc2 => ?_)
  · skip
    exact hp _ trivial
  · skip
    refine sf_X10_quarrelBy hI  (fun r3 hq4 => ?_)
    refine ifs (fun hc5 => ?_) (fun hc6 => ?_)
    · skip
      unfold wX10_bend_34
      exact rec (by lia) v1 v2 trivial
    · skip
      unfold wX10_bend_34
      exact rec (by lia) v3 r3 trivial
set_option maxHeartbeats 4000000 in
theorem sf_X10_bend {post : Int32 → MM → Int64 → Prop} {M : MM} {tl : Int64} (hI : Inv M) (hp : ∀ (r : Int32), True → post r M tl) : wpX10_bend post M tl  := by
  unfold wpX10_bend
  refine sf_X10_quarrelBy hI  (fun r1 hq2 => ?_)
  obtain ⟨n3, hn4⟩ := sl_X10_bend_10 (M := M) (tl := tl) hp  hI (1 : Int32) (by lia) (by lia)
  exact ⟨n3, hn4 (0 : Int32) r1 trivial⟩
set_option maxHeartbeats 4000000 in
theorem sl_X10_fewestToGo_6 {post : Int32 → MM → Int64 → Prop} {M : MM} {tl : Int64} (hp : ∀ (r : Int32), True → post r M tl) (hI : Inv M) : ∀ v3 : Int32, 0 ≤ v3 → v3 ≤ 8 → ∃ n, ∀ (v1 : Int32) (v2 : Int32), (True) → wX10_fewestToGo_6 post n M tl v1 v2 v3 := by
  refine up_ex (P := fun d v3 => ∀ (v1 : Int32) (v2 : Int32), (True) → wX10_fewestToGo_6 post d M tl v1 v2 v3) 0 8 ?_
  intro d v3 hlo hhi rec v1 v2 hli
  unfold wX10_fewestToGo_6
  refine ifs (fun hc1 => ?_) (fun hc2 => ?_)
  · skip
    exact hp _ trivial
  · skip
    have hm3 : (0 : Int32) ≤ ((v1 >>> ((v3 - (1 : Int32)) &&& (31 : Int32))) &&& (3 : Int32)) ∧ ((v1 >>> ((v3 - (1 : Int32)) &&& (31 : Int32))) &&& (3 : Int32)) ≤ (3 : Int32) := andc (v1 >>> ((v3 - (1 : Int32)) &&& (31 : Int32))) 3 (by decide)
    have hm4 : (0 : Int32) ≤ ((v3 - (1 : Int32)) &&& (31 : Int32)) ∧ ((v3 - (1 : Int32)) &&& (31 : Int32)) ≤ (31 : Int32) := andc (v3 - (1 : Int32)) 31 (by decide)
    refine ifs (fun hc5 => ?_) (fun hc6 => ?_)
    · skip
      have hm7 : (0 : Int32) ≤ (v3 &&& (31 : Int32)) ∧ (v3 &&& (31 : Int32)) ≤ (31 : Int32) := andc v3 31 (by decide)
      unfold wX10_fewestToGo_34
      exact rec (by lia) (v1 &&& (((1 : Int32) <<< (v3 &&& (31 : Int32))) ^^^ (-1 : Int32))) (v2 + (1 : Int32)) trivial
    · skip
      unfold wX10_fewestToGo_34
      exact rec (by lia) v1 v2 trivial
set_option maxHeartbeats 4000000 in
theorem sf_X10_fewestToGo {post : Int32 → MM → Int64 → Prop} {M : MM} {tl : Int64} {v0 : Int32} (hI : Inv M) (hp : ∀ (r : Int32), True → post r M tl) : wpX10_fewestToGo post M tl v0 := by
  unfold wpX10_fewestToGo
  obtain ⟨n1, hn2⟩ := sl_X10_fewestToGo_6 (M := M) (tl := tl) hp  hI (1 : Int32) (by lia) (by lia)
  exact ⟨n1, hn2 v0 (0 : Int32) trivial⟩
set_option maxHeartbeats 4000000 in
theorem sl_X10_shops_23 {post : Int32 → MM → Int64 → Prop} {M : MM} {tl : Int64} (hp : ∀ (r : Int32), True → post r M tl) (hI : Inv M) : ∀ v4 : Int32, 0 ≤ v4 → v4 ≤ 8 → ∃ n, ∀ (v1 : Int32) (v2 : Int32) (v3 : Int32), (True) → wX10_shops_23 post n M tl v1 v2 v3 v4 := by
  refine up_ex (P := fun d v4 => ∀ (v1 : Int32) (v2 : Int32) (v3 : Int32), (True) → wX10_shops_23 post d M tl v1 v2 v3 v4) 0 8 ?_
  intro d v4 hlo hhi rec v1 v2 v3 hli
  unfold wX10_shops_23
  have hr1 := iv_3_0 hI
  refine ifs (fun hc2 => ?_) (fun hc3 => ?_)
  · skip
    refine ifs (fun hc4 => ?_) (fun hc5 => ?_)
    · skip
      have hm6 : (0 : Int32) ≤ ((1 : Int32) &&& (31 : Int32)) ∧ ((1 : Int32) &&& (31 : Int32)) ≤ (31 : Int32) := andc (1 : Int32) 31 (by decide)
      exact hp _ trivial
    · skip
      refine sf_X10_fewestToGo hI  (fun r7 hq8 => ?_)
      exact hp _ trivial
  · skip
    refine sf_X7_kindAt__14 hI  (fun r9 hq10 => ?_)
    refine ifs (fun hc11 => ?_) (fun hc12 => ?_)
    · skip
      have hm13 : (0 : Int32) ≤ (v4 &&& (31 : Int32)) ∧ (v4 &&& (31 : Int32)) ≤ (31 : Int32) := andc v4 31 (by decide)
      unfold wX10_shops_56
      exact rec (by lia) v1 v2 (v3 ||| ((1 : Int32) <<< (v4 &&& (31 : Int32)))) trivial
    · skip
      unfold wX10_shops_56
      exact rec (by lia) v1 v2 v3 trivial
set_option maxHeartbeats 4000000 in
theorem sf_X10_shops {post : Int32 → MM → Int64 → Prop} {M : MM} {tl : Int64} {v1 : Int32} {v2 : Int32} (hI : Inv M) (hp : ∀ (r : Int32), True → post r M tl) : wpX10_shops post M tl v1 v2 := by
  unfold wpX10_shops
  refine sf_X10_isBank hI  (fun r1 hq2 => ?_)
  refine ifs (fun hc3 => ?_) (fun hc4 => ?_)
  · skip
    exact hp _ trivial
  · skip
    refine ifs (fun hc5 => ?_) (fun hc6 => ?_)
    · skip
      exact hp _ trivial
    · skip
      refine ifs (fun hc7 => ?_) (fun hc8 => ?_)
      · skip
        obtain ⟨n9, hn10⟩ := sl_X10_shops_23 (M := M) (tl := tl) hp  hI (0 : Int32) (by lia) (by lia)
        exact ⟨n9, hn10 v1 v2 (0 : Int32) trivial⟩
      · skip
        exact hp _ trivial
set_option maxHeartbeats 4000000 in
theorem sf_X5_isFull__20 {post : Int32 → MM → Int64 → Prop} {M : MM} {tl : Int64} (hI : Inv M) (hp : ∀ (r : Int32), ((r = 0 ∨ r = 1) ∧ (r = 0 → M 20 3 < 12)) → post r M tl) : wpX5_isFull post M tl 20 := by
  unfold wpX5_isFull
  simp only [Nat.reduceAdd, ln_al_20]
  refine And.intro (by decide) ?_
  refine And.intro (by decide) ?_
  have hr1 := iv_20_3 hI
  refine ifs (fun hc2 => ?_) (fun hc3 => ?_)
  · skip
    exact hp _ (by lia)
  · skip
    exact hp _ (by lia)
set_option maxHeartbeats 4000000 in
theorem sf_X5_setCell__20 {post : MM → Int64 → Prop} {M : MM} {tl : Int64} {v1 : Int32} {v2 : Int32} {v3 : Int32} (hI : Inv M) (hp1 : 0 ≤ v1 ∧ v1 < 12) (hp2 : 0 ≤ v2) (hp : ∀ (M1 : MM) (t1 : Int64), Inv M1 → Fr [21] [] M M1 → True → post M1 t1) : wpX5_setCell post M tl 20 v1 v2 v3 := by
  unfold wpX5_setCell
  simp only [Nat.reduceAdd, ln_wd_20]
  refine And.intro (by decide) ?_
  refine ifs (fun hc1 => ?_) (fun hc2 => ?_)
  · skip
    exact hp _ _ hI fr_rfl trivial
  · skip
    refine And.intro (by decide) ?_
    refine And.intro (by decide) ?_
    refine And.intro (by decide) ?_
    refine And.intro (vpI (c := 48) (by decide) (by lia) (by lia)) ?_
    intro W3 hW4
    have hI5 : Inv W3 := by rw [hW4]; exact inv_set hI (i_any _)
    have hF6 : Fr [21] [] M W3 := by rw [hW4]; exact fr_arr fr_rfl (by decide)
    exact hp _ _ hI5 hF6 trivial
set_option maxHeartbeats 4000000 in
theorem sf_X5_addRow__20 {post : MM → Int64 → Prop} {M : MM} {tl : Int64} {v1 : Int32} {v2 : Int32} {v3 : Int32} {v4 : Int32} (hI : Inv M) (hp : ∀ (M1 : MM) (t1 : Int64), Inv M1 → Fr [21] [(20, 3)] M M1 → True → post M1 t1) : wpX5_addRow post M tl 20 v1 v2 v3 v4 := by
  unfold wpX5_addRow
  refine And.intro (by decide) ?_
  refine sf_X5_isFull__20 hI  (fun r1 hq2 => ?_)
  refine ifs (fun hc3 => ?_) (fun hc4 => ?_)
  · skip
    refine And.intro (by decide) ?_
    refine And.intro (by decide) ?_
    refine And.intro (by decide) ?_
    have hr7 := iv_20_3 hI
    intro W5 hW6
    have hI8 : Inv W5 := by rw [hW6]; exact inv_set hI (show 0 ≤ ((M 20 3) + (1 : Int32)) ∧ ((M 20 3) + (1 : Int32)) ≤ 12 from ⟨by lia, by lia⟩)
    have hF9 : Fr [21] [(20, 3)] M W5 := by rw [hW6]; exact fr_fld fr_rfl (by decide)
    have hv10 : W5 20 3 = ((M 20 3) + (1 : Int32)) := by rw [hW6]; exact mset_at _ _ _ _
    refine And.intro (by decide) ?_
    refine sf_X5_setCell__20 hI8 (by lia) (by lia) (fun M12 t13 hI14 hF15 hq16 => ?_)
    have hF17 : Fr [21] [(20, 3)] M M12 := fr_call hF9 hF15 (by decide) (by decide)
    refine And.intro (by decide) ?_
    refine sf_X5_setCell__20 hI14 (by lia) (by lia) (fun M19 t20 hI21 hF22 hq23 => ?_)
    have hF24 : Fr [21] [(20, 3)] M M19 := fr_call hF17 hF22 (by decide) (by decide)
    refine And.intro (by decide) ?_
    refine sf_X5_setCell__20 hI21 (by lia) (by lia) (fun M26 t27 hI28 hF29 hq30 => ?_)
    have hF31 : Fr [21] [(20, 3)] M M26 := fr_call hF24 hF29 (by decide) (by decide)
    refine And.intro (by decide) ?_
    refine sf_X5_setCell__20 hI28 (by lia) (by lia) (fun M33 t34 hI35 hF36 hq37 => ?_)
    have hF38 : Fr [21] [(20, 3)] M M33 := fr_call hF31 hF36 (by decide) (by decide)
    exact hp _ _ hI35 hF38 trivial
  · skip
    exact hp _ _ hI fr_rfl trivial
set_option maxHeartbeats 4000000 in
theorem sf_X10_saw {post : Int32 → MM → Int64 → Prop} {M : MM} {tl : Int64} {v1 : Int32} {v2 : Int32} {v3 : Int32} {v4 : Int32} (hI : Inv M) (hp : ∀ (r : Int32) (M1 : MM) (t1 : Int64), Inv M1 → Fr [21] [(20, 3)] M M1 → True → post r M1 t1) : wpX10_saw post M tl v1 v2 v3 v4 := by
  unfold wpX10_saw
  refine sf_X1_isLot__3 hI  (fun r1 hq2 => ?_)
  refine ifs (fun hc3 => ?_) (fun hc4 => ?_)
  · skip
    exact hp _ _ _ hI fr_rfl trivial
  · skip
    refine ifs (fun hc5 => ?_) (fun hc6 => ?_)
    · skip
      exact hp _ _ _ hI fr_rfl trivial
    · skip
      refine ifs (fun hc7 => ?_) (fun hc8 => ?_)
      · skip
        refine sf_X5_isFull__20 hI  (fun r9 hq10 => ?_)
        refine ifs (fun hc11 => ?_) (fun hc12 => ?_)
        · skip
          refine ifs (fun hc13 => ?_) (fun hc14 => ?_)
          · skip
            unfold wX10_saw_60
            refine sf_X5_addRow__20 hI  (fun M16 t17 hI18 hF19 hq20 => ?_)
            have hF21 : Fr [21] [(20, 3)] M M16 := fr_call fr_rfl hF19 (by decide) (by decide)
            have hr22 := iv_20_3 hI18
            exact hp _ _ _ hI18 hF21 trivial
          · skip
            unfold wX10_saw_60
            refine sf_X5_addRow__20 hI  (fun M24 t25 hI26 hF27 hq28 => ?_)
            have hF29 : Fr [21] [(20, 3)] M M24 := fr_call fr_rfl hF27 (by decide) (by decide)
            have hr30 := iv_20_3 hI26
            exact hp _ _ _ hI26 hF29 trivial
        · skip
          exact hp _ _ _ hI fr_rfl trivial
      · skip
        exact hp _ _ _ hI fr_rfl trivial
set_option maxHeartbeats 4000000 in
theorem sf_X5_empty__20 {post : Int32 → MM → Int64 → Prop} {M : MM} {tl : Int64} (hI : Inv M) (hp : ∀ (r : Int32) (M1 : MM) (t1 : Int64), Inv M1 → Fr [] [(20, 3)] M M1 → True → post r M1 t1) : wpX5_empty post M tl 20 := by
  unfold wpX5_empty
  refine And.intro (by decide) ?_
  refine And.intro (by decide) ?_
  intro W1 hW2
  have hI3 : Inv W1 := by rw [hW2]; exact inv_set hI (show 0 ≤ (0 : Int32) ∧ (0 : Int32) ≤ 12 from ⟨by lia, by lia⟩)
  have hF4 : Fr [] [(20, 3)] M W1 := by rw [hW2]; exact fr_fld fr_rfl (by decide)
  have hv5 : W1 20 3 = (0 : Int32) := by rw [hW2]; exact mset_at _ _ _ _
  have hr6 := iv_20_3 hI
  exact hp _ _ _ hI3 hF4 trivial
set_option maxHeartbeats 4000000 in
theorem sf_X10_forget {post : Int32 → MM → Int64 → Prop} {M : MM} {tl : Int64} (hI : Inv M) (hp : ∀ (r : Int32) (M1 : MM) (t1 : Int64), Inv M1 → Fr [] [(20, 3)] M M1 → True → post r M1 t1) : wpX10_forget post M tl  := by
  unfold wpX10_forget
  refine sf_X5_empty__20 hI  (fun r1 M2 t3 hI4 hF5 hq6 => ?_)
  have hF7 : Fr [] [(20, 3)] M M2 := fr_call fr_rfl hF5 (by decide) (by decide)
  exact hp _ _ _ hI4 hF7 trivial
set_option maxHeartbeats 4000000 in
theorem sf_X2_hasHistory {post : Int32 → MM → Int64 → Prop} {M : MM} {tl : Int64} {v1 : Int32} (hI : Inv M) (hp : ∀ (r : Int32), (r = 0 ∨ r = 1) → post r M tl) : wpX2_hasHistory post M tl v1 := by
  unfold wpX2_hasHistory
  refine sf_X1_matchOf__3 hI  (fun r1 hq2 => ?_)
  refine sf_X7_thingAt__14 hI  (fun r3 hq4 => ?_)
  refine ifs (fun hc5 => ?_) (fun hc6 => ?_)
  · skip
    exact hp _ (by lia)
  · skip
    refine ifs (fun hc7 => ?_) (fun hc8 => ?_)
    · skip
      exact hp _ (by lia)
    · skip
      refine sf_X7_thingAt__14 hI  (fun r9 hq10 => ?_)
      refine sf_X1_isEven__3 hI  (fun r11 hq12 => ?_)
      refine ifs (fun hc13 => ?_) (fun hc14 => ?_)
      · skip
        exact hp _ (by lia)
      · skip
        exact hp _ (by lia)
set_option maxHeartbeats 4000000 in
theorem sf_X5_cell__20 {post : Int32 → MM → Int64 → Prop} {M : MM} {tl : Int64} {v1 : Int32} {v2 : Int32} (hI : Inv M) (hp : ∀ (r : Int32), True → post r M tl) : wpX5_cell post M tl 20 v1 v2 := by
  unfold wpX5_cell
  simp only [Nat.reduceAdd, ln_wd_20]
  refine ifs (fun hc1 => ?_) (fun hc2 => ?_)
  · skip
    exact hp _ trivial
  · skip
    refine And.intro (by decide) ?_
    have hr3 := iv_20_3 hI
    refine ifs (fun hc4 => ?_) (fun hc5 => ?_)
    · skip
      exact hp _ trivial
    · skip
      refine ifs (fun hc6 => ?_) (fun hc7 => ?_)
      · skip
        exact hp _ trivial
      · skip
        refine And.intro (by decide) ?_
        refine ifs (fun hc8 => ?_) (fun hc9 => ?_)
        · skip
          refine And.intro (by decide) ?_
          refine And.intro (by decide) ?_
          refine And.intro (by decide) ?_
          refine And.intro (vpI (c := 48) (by decide) (by lia) (by lia)) ?_
          exact hp _ trivial
        · skip
          exact hp _ trivial
set_option maxHeartbeats 4000000 in
theorem sl_X2_fitsSeen_23 {post : Int32 → MM → Int64 → Prop} {M : MM} {tl : Int64} (hp : ∀ (r : Int32), (r = 0 ∨ r = 1) → post r M tl) (hI : Inv M) : ∀ v6 : Int32, 0 ≤ v6 → v6 ≤ 12 → ∃ n, ∀ (v1 : Int32) (v2 : Int32) (v3 : Int32) (v4 : Int32), (True) → wX2_fitsSeen_23 post n M tl v1 v2 v3 v4 v6 := by
  refine up_ex (P := fun d v6 => ∀ (v1 : Int32) (v2 : Int32) (v3 : Int32) (v4 : Int32), (True) → wX2_fitsSeen_23 post d M tl v1 v2 v3 v4 v6) 0 12 ?_
  intro d v6 hlo hhi rec v1 v2 v3 v4 hli
  unfold wX2_fitsSeen_23
  have hr1 := iv_20_3 hI
  refine ifs (fun hc2 => ?_) (fun hc3 => ?_)
  · skip
    exact hp _ (by lia)
  · skip
    refine sf_X5_cell__20 hI  (fun r4 hq5 => ?_)
    refine ifs (fun hc6 => ?_) (fun hc7 => ?_)
    · skip
      unfold wX2_fitsSeen_49
      refine sf_X5_cell__20 hI  (fun r8 hq9 => ?_)
      refine ifn (by decide) ?_
      unfold wX2_fitsSeen_70
      refine ifs (fun hc10 => ?_) (fun hc11 => ?_)
      · skip
        refine ifn (by decide) ?_
        unfold wX2_fitsSeen_83
        refine sf_X5_cell__20 hI  (fun r12 hq13 => ?_)
        refine ifs (fun hc14 => ?_) (fun hc15 => ?_)
        · skip
          unfold wX2_fitsSeen_99
          refine sf_X5_cell__20 hI  (fun r16 hq17 => ?_)
          refine ifs (fun hc18 => ?_) (fun hc19 => ?_)
          · skip
            unfold wX2_fitsSeen_120
            refine ifn (by decide) ?_
            exact hp _ (by lia)
          · skip
            unfold wX2_fitsSeen_120
            refine ifp (by decide) ?_
            unfold wX2_fitsSeen_125
            exact rec (by lia) v1 v2 v3 v4 trivial
        · skip
          unfold wX2_fitsSeen_99
          refine sf_X5_cell__20 hI  (fun r20 hq21 => ?_)
          refine ifs (fun hc22 => ?_) (fun hc23 => ?_)
          · skip
            unfold wX2_fitsSeen_120
            refine ifp (by decide) ?_
            unfold wX2_fitsSeen_125
            exact rec (by lia) v1 v2 v3 v4 trivial
          · skip
            unfold wX2_fitsSeen_120
            refine ifn (by decide) ?_
            exact hp _ (by lia)
      · skip
        unfold wX2_fitsSeen_125
        exact rec (by lia) v1 v2 v3 v4 trivial
    · skip
      unfold wX2_fitsSeen_49
      refine sf_X5_cell__20 hI  (fun r24 hq25 => ?_)
      refine ifp (by decide) ?_
      unfold wX2_fitsSeen_70
      refine ifs (fun hc26 => ?_) (fun hc27 => ?_)
      · skip
        refine ifp (by decide) ?_
        unfold wX2_fitsSeen_83
        refine sf_X5_cell__20 hI  (fun r28 hq29 => ?_)
        refine ifs (fun hc30 => ?_) (fun hc31 => ?_)
        · skip
          unfold wX2_fitsSeen_99
          refine sf_X5_cell__20 hI  (fun r32 hq33 => ?_)
          refine ifs (fun hc34 => ?_) (fun hc35 => ?_)
          · skip
            unfold wX2_fitsSeen_120
            refine ifn (by decide) ?_
            exact hp _ (by lia)
          · skip
            unfold wX2_fitsSeen_120
            refine ifp (by decide) ?_
            unfold wX2_fitsSeen_125
            exact rec (by lia) v1 v2 v3 v4 trivial
        · skip
          unfold wX2_fitsSeen_99
          refine sf_X5_cell__20 hI  (fun r36 hq37 => ?_)
          refine ifs (fun hc38 => ?_) (fun hc39 => ?_)
          · skip
            unfold wX2_fitsSeen_120
            refine ifp (by decide) ?_
            unfold wX2_fitsSeen_125
            exact rec (by lia) v1 v2 v3 v4 trivial
          · skip
            unfold wX2_fitsSeen_120
            refine ifn (by decide) ?_
            exact hp _ (by lia)
      · skip
        unfold wX2_fitsSeen_125
        exact rec (by lia) v1 v2 v3 v4 trivial
set_option maxHeartbeats 4000000 in
theorem sf_X2_fitsSeen {post : Int32 → MM → Int64 → Prop} {M : MM} {tl : Int64} {v1 : Int32} {v2 : Int32} {v3 : Int32} (hI : Inv M) (hp : ∀ (r : Int32), (r = 0 ∨ r = 1) → post r M tl) : wpX2_fitsSeen post M tl v1 v2 v3 := by
  unfold wpX2_fitsSeen
  refine sf_X1_matchOf__3 hI  (fun r1 hq2 => ?_)
  obtain ⟨n3, hn4⟩ := sl_X2_fitsSeen_23 (M := M) (tl := tl) hp  hI (0 : Int32) (by lia) (by lia)
  exact ⟨n3, hn4 v1 v2 v3 r1 trivial⟩
set_option maxHeartbeats 4000000 in
theorem sf_X2_note {post : MM → Int64 → Prop} {M : MM} {tl : Int64} {v1 : Int32} {v2 : Int32} (hI : Inv M) (hp : ∀ (M1 : MM) (t1 : Int64), Inv M1 → Fr [] [(53, 0), (53, 1), (53, 2), (53, 3)] M M1 → True → post M1 t1) : wpX2_note post M tl v1 v2 := by
  unfold wpX2_note
  refine ifs (fun hc1 => ?_) (fun hc2 => ?_)
  · skip
    intro W3 hW4
    have hI5 : Inv W3 := by rw [hW4]; exact inv_set hI (i_any _)
    have hF6 : Fr [] [(53, 0), (53, 1), (53, 2), (53, 3)] M W3 := by rw [hW4]; exact fr_fld fr_rfl (by decide)
    have hv7 : W3 53 1 = v2 := by rw [hW4]; exact mset_at _ _ _ _
    unfold wX2_note_12
    intro W8 hW9
    have hI10 : Inv W8 := by rw [hW9]; exact inv_set hI5 (i_any _)
    have hF11 : Fr [] [(53, 0), (53, 1), (53, 2), (53, 3)] M W8 := by rw [hW9]; exact fr_fld hF6 (by decide)
    have hv12 : W8 53 2 = v2 := by rw [hW9]; exact mset_at _ _ _ _
    have hx15 : W8 53 3 = W3 53 3 := by rw [hW9, mset_nk (by decide)]
    have hx16 : W3 53 3 = M 53 3 := by rw [hW4, mset_nk (by decide)]
    have hm17 : (0 : Int32) ≤ (v1 &&& (31 : Int32)) ∧ (v1 &&& (31 : Int32)) ≤ (31 : Int32) := andc v1 31 (by decide)
    intro W13 hW14
    have hI18 : Inv W13 := by rw [hW14]; exact inv_set hI10 (i_any _)
    have hF19 : Fr [] [(53, 0), (53, 1), (53, 2), (53, 3)] M W13 := by rw [hW14]; exact fr_fld hF11 (by decide)
    have hv20 : W13 53 3 = ((W8 53 3) ||| ((1 : Int32) <<< (v1 &&& (31 : Int32)))) := by rw [hW14]; exact mset_at _ _ _ _
    have hx23 : W13 53 0 = W8 53 0 := by rw [hW14, mset_nk (by decide)]
    have hx24 : W8 53 0 = W3 53 0 := by rw [hW9, mset_nk (by decide)]
    have hx25 : W3 53 0 = M 53 0 := by rw [hW4, mset_nk (by decide)]
    intro W21 hW22
    have hI26 : Inv W21 := by rw [hW22]; exact inv_set hI18 (i_any _)
    have hF27 : Fr [] [(53, 0), (53, 1), (53, 2), (53, 3)] M W21 := by rw [hW22]; exact fr_fld hF19 (by decide)
    have hv28 : W21 53 0 = ((W13 53 0) + (1 : Int32)) := by rw [hW22]; exact mset_at _ _ _ _
    exact hp _ _ hI26 hF27 trivial
  · skip
    unfold wX2_note_12
    intro W29 hW30
    have hI31 : Inv W29 := by rw [hW30]; exact inv_set hI (i_any _)
    have hF32 : Fr [] [(53, 0), (53, 1), (53, 2), (53, 3)] M W29 := by rw [hW30]; exact fr_fld fr_rfl (by decide)
    have hv33 : W29 53 2 = v2 := by rw [hW30]; exact mset_at _ _ _ _
    have hx36 : W29 53 3 = M 53 3 := by rw [hW30, mset_nk (by decide)]
    have hm37 : (0 : Int32) ≤ (v1 &&& (31 : Int32)) ∧ (v1 &&& (31 : Int32)) ≤ (31 : Int32) := andc v1 31 (by decide)
    intro W34 hW35
    have hI38 : Inv W34 := by rw [hW35]; exact inv_set hI31 (i_any _)
    have hF39 : Fr [] [(53, 0), (53, 1), (53, 2), (53, 3)] M W34 := by rw [hW35]; exact fr_fld hF32 (by decide)
    have hv40 : W34 53 3 = ((W29 53 3) ||| ((1 : Int32) <<< (v1 &&& (31 : Int32)))) := by rw [hW35]; exact mset_at _ _ _ _
    have hx43 : W34 53 0 = W29 53 0 := by rw [hW35, mset_nk (by decide)]
    have hx44 : W29 53 0 = M 53 0 := by rw [hW30, mset_nk (by decide)]
    intro W41 hW42
    have hI45 : Inv W41 := by rw [hW42]; exact inv_set hI38 (i_any _)
    have hF46 : Fr [] [(53, 0), (53, 1), (53, 2), (53, 3)] M W41 := by rw [hW42]; exact fr_fld hF39 (by decide)
    have hv47 : W41 53 0 = ((W34 53 0) + (1 : Int32)) := by rw [hW42]; exact mset_at _ _ _ _
    exact hp _ _ hI45 hF46 trivial
set_option maxHeartbeats 4000000 in
theorem sl_X2_findHistories_20 {post : MM → Int64 → Prop} {bk12 : MM → Int64 → Int32 → Int32 → Int32 → Prop} {u12 : Int32} {Mb : MM} (hp : ∀ (M1 : MM) (t1 : Int64), Inv M1 → Fr [] [(53, 0), (53, 1), (53, 2), (53, 3)] Mb M1 → True → post M1 t1) (hb12 : ∀ (M1 : MM) (t1 : Int64) (v1 : Int32) (v2 : Int32) (v3 : Int32), Inv M1 → Fr [] [(53, 0), (53, 1), (53, 2), (53, 3)] Mb M1 → v3 = u12 → v2 ≤ 23 → bk12 M1 t1 v1 v2 v3) : ∀ v4 : Int32, 0 ≤ v4 → v4 ≤ 26 → ∃ n, ∀ (M : MM) (tl : Int64) (v1 : Int32) (v2 : Int32) (v3 : Int32), Inv M → Fr [] [(53, 0), (53, 1), (53, 2), (53, 3)] Mb M → (v2 ≤ 23 ∧ 0 ≤ v3 ∧ v3 ≤ 23 ∧ v3 + (1 : Int32) = u12) → wX2_findHistories_20 post bk12 n M tl v1 v2 v3 v4 := by
  refine up_ex (P := fun d v4 => ∀ (M : MM) (tl : Int64) (v1 : Int32) (v2 : Int32) (v3 : Int32), Inv M → Fr [] [(53, 0), (53, 1), (53, 2), (53, 3)] Mb M → (v2 ≤ 23 ∧ 0 ≤ v3 ∧ v3 ≤ 23 ∧ v3 + (1 : Int32) = u12) → wX2_findHistories_20 post bk12 d M tl v1 v2 v3 v4) 0 26 ?_
  intro d v4 hlo hhi rec M tl v1 v2 v3 hI hF hli
  unfold wX2_findHistories_20
  refine ifs (fun hc1 => ?_) (fun hc2 => ?_)
  · skip
    unfold wX2_findHistories_74
    exact hb12 _ _ v1 v2 (v3 + (1 : Int32)) hI hF (by lia) (by lia)
  · skip
    refine ifs (fun hc3 => ?_) (fun hc4 => ?_)
    · skip
      unfold wX2_findHistories_74
      exact hb12 _ _ v1 v2 (v3 + (1 : Int32)) hI hF (by lia) (by lia)
    · skip
      refine sf_X2_fitsSeen hI  (fun r5 hq6 => ?_)
      refine ifs (fun hc7 => ?_) (fun hc8 => ?_)
      · skip
        unfold wX2_findHistories_51
        refine sf_X2_fitsSeen hI  (fun r9 hq10 => ?_)
        refine ifs (fun hc11 => ?_) (fun hc12 => ?_)
        · skip
          unfold wX2_findHistories_68
          exact rec (by lia) _ _ v1 v2 v3 hI hF (by lia)
        · skip
          refine sf_X2_note hI  (fun M14 t15 hI16 hF17 hq18 => ?_)
          have hF19 : Fr [] [(53, 0), (53, 1), (53, 2), (53, 3)] Mb M14 := fr_call hF hF17 (by decide) (by decide)
          unfold wX2_findHistories_68
          exact rec (by lia) _ _ v1 v2 v3 hI16 hF19 (by lia)
      · skip
        refine sf_X2_note hI  (fun M21 t22 hI23 hF24 hq25 => ?_)
        have hF26 : Fr [] [(53, 0), (53, 1), (53, 2), (53, 3)] Mb M21 := fr_call hF hF24 (by decide) (by decide)
        unfold wX2_findHistories_51
        refine sf_X2_fitsSeen hI23  (fun r27 hq28 => ?_)
        refine ifs (fun hc29 => ?_) (fun hc30 => ?_)
        · skip
          unfold wX2_findHistories_68
          exact rec (by lia) _ _ v1 v2 v3 hI23 hF26 (by lia)
        · skip
          refine sf_X2_note hI23  (fun M32 t33 hI34 hF35 hq36 => ?_)
          have hF37 : Fr [] [(53, 0), (53, 1), (53, 2), (53, 3)] Mb M32 := fr_call hF26 hF35 (by decide) (by decide)
          unfold wX2_findHistories_68
          exact rec (by lia) _ _ v1 v2 v3 hI34 hF37 (by lia)
set_option maxHeartbeats 4000000 in
theorem sl_X2_findHistories_12 {post : MM → Int64 → Prop} {Mb : MM} (hp : ∀ (M1 : MM) (t1 : Int64), Inv M1 → Fr [] [(53, 0), (53, 1), (53, 2), (53, 3)] Mb M1 → True → post M1 t1) : ∀ v3 : Int32, 0 ≤ v3 → v3 ≤ 24 → ∃ n, ∀ (M : MM) (tl : Int64) (v1 : Int32) (v2 : Int32), Inv M → Fr [] [(53, 0), (53, 1), (53, 2), (53, 3)] Mb M → (v2 ≤ 23) → wX2_findHistories_12 post n M tl v1 v2 v3 := by
  refine up_ex (P := fun d v3 => ∀ (M : MM) (tl : Int64) (v1 : Int32) (v2 : Int32), Inv M → Fr [] [(53, 0), (53, 1), (53, 2), (53, 3)] Mb M → (v2 ≤ 23) → wX2_findHistories_12 post d M tl v1 v2 v3) 0 24 ?_
  intro d v3 hlo hhi rec M tl v1 v2 hI hF hli
  unfold wX2_findHistories_12
  refine ifs (fun hc1 => ?_) (fun hc2 => ?_)
  · skip
    exact hp _ _ hI hF trivial
  · skip
    obtain ⟨n3, hn4⟩ := sl_X2_findHistories_20 (Mb := Mb) (u12 := v3 + (1 : Int32)) hp (fun M1 t1 v1 v2 v3 hJ hG hu hl => by subst hu; exact rec (by lia) M1 t1 v1 v2 hJ hG hl) v3 (by lia) (by lia)
    exact ⟨n3, hn4 _ _ v1 v2 v3 hI hF (by lia)⟩
set_option maxHeartbeats 4000000 in
theorem sf_X2_findHistories {post : MM → Int64 → Prop} {M : MM} {tl : Int64} {v1 : Int32} {v2 : Int32} (hI : Inv M) (hp1 : v2 ≤ 23) (hp : ∀ (M1 : MM) (t1 : Int64), Inv M1 → Fr [] [(53, 0), (53, 1), (53, 2), (53, 3)] M M1 → True → post M1 t1) : wpX2_findHistories post M tl v1 v2 := by
  unfold wpX2_findHistories
  intro W1 hW2
  have hI3 : Inv W1 := by rw [hW2]; exact inv_set hI (i_any _)
  have hF4 : Fr [] [(53, 0), (53, 1), (53, 2), (53, 3)] M W1 := by rw [hW2]; exact fr_fld fr_rfl (by decide)
  have hv5 : W1 53 0 = (0 : Int32) := by rw [hW2]; exact mset_at _ _ _ _
  intro W6 hW7
  have hI8 : Inv W6 := by rw [hW7]; exact inv_set hI3 (i_any _)
  have hF9 : Fr [] [(53, 0), (53, 1), (53, 2), (53, 3)] M W6 := by rw [hW7]; exact fr_fld hF4 (by decide)
  have hv10 : W6 53 3 = (0 : Int32) := by rw [hW7]; exact mset_at _ _ _ _
  obtain ⟨n11, hn12⟩ := sl_X2_findHistories_12 (Mb := M) hp  (0 : Int32) (by lia) (by lia)
  exact ⟨n11, hn12 _ _ v1 v2 hI8 hF9 (by lia)⟩
set_option maxHeartbeats 4000000 in
theorem sl_X10_histories_19 {post : Int64 → MM → Int64 → Prop} {Mb : MM} (hp : ∀ (r : Int64) (M1 : MM) (t1 : Int64), Inv M1 → Fr [] [(53, 0), (53, 1), (53, 2), (53, 3)] Mb M1 → True → post r M1 t1) : ∀ v4 : Int32, 0 ≤ v4 → v4 ≤ 8 → ∃ n, ∀ (M : MM) (tl : Int64) (v1 : Int32) (v2 : Int64), Inv M → Fr [] [(53, 0), (53, 1), (53, 2), (53, 3)] Mb M → (v1 ≤ 23) → wX10_histories_19 post n M tl v1 v2 v4 := by
  refine up_ex (P := fun d v4 => ∀ (M : MM) (tl : Int64) (v1 : Int32) (v2 : Int64), Inv M → Fr [] [(53, 0), (53, 1), (53, 2), (53, 3)] Mb M → (v1 ≤ 23) → wX10_histories_19 post d M tl v1 v2 v4) 0 8 ?_
  intro d v4 hlo hhi rec M tl v1 v2 hI hF hli
  unfold wX10_histories_19
  have hr1 := iv_3_0 hI
  refine ifs (fun hc2 => ?_) (fun hc3 => ?_)
  · skip
    exact hp _ _ _ hI hF trivial
  · skip
    refine sf_X2_hasHistory hI  (fun r4 hq5 => ?_)
    refine ifs (fun hc6 => ?_) (fun hc7 => ?_)
    · skip
      unfold wX10_histories_64
      exact rec (by lia) _ _ v1 v2 hI hF (by lia)
    · skip
      refine sf_X2_findHistories hI (by lia) (fun M9 t10 hI11 hF12 hq13 => ?_)
      have hF14 : Fr [] [(53, 0), (53, 1), (53, 2), (53, 3)] Mb M9 := fr_call hF hF12 (by decide) (by decide)
      unfold wX10_histories_64
      exact rec (by lia) _ _ v1 (v2 * ((M9 53 0)).toInt64) hI11 hF14 (by lia)
set_option maxHeartbeats 4000000 in
theorem sf_X10_histories {post : Int64 → MM → Int64 → Prop} {M : MM} {tl : Int64} {v1 : Int32} (hI : Inv M) (hp : ∀ (r : Int64) (M1 : MM) (t1 : Int64), Inv M1 → Fr [] [(53, 0), (53, 1), (53, 2), (53, 3)] M M1 → True → post r M1 t1) : wpX10_histories post M tl v1 := by
  unfold wpX10_histories
  refine ifs (fun hc1 => ?_) (fun hc2 => ?_)
  · skip
    exact hp _ _ _ hI fr_rfl trivial
  · skip
    refine ifs (fun hc3 => ?_) (fun hc4 => ?_)
    · skip
      obtain ⟨n5, hn6⟩ := sl_X10_histories_19 (Mb := M) hp  (0 : Int32) (by lia) (by lia)
      exact ⟨n5, hn6 _ _ v1 (1 : Int64) hI fr_rfl (by lia)⟩
    · skip
      exact hp _ _ _ hI fr_rfl trivial
set_option maxHeartbeats 4000000 in
theorem sf_X2_onlyBeginner {post : Int32 → MM → Int64 → Prop} {M : MM} {tl : Int64} (hI : Inv M) (hp : ∀ (r : Int32), True → post r M tl) : wpX2_onlyBeginner post M tl  := by
  unfold wpX2_onlyBeginner
  refine ifs (fun hc1 => ?_) (fun hc2 => ?_)
  · skip
    exact hp _ trivial
  · skip
    exact hp _ trivial
set_option maxHeartbeats 4000000 in
theorem sf_X10_began {post : Int32 → MM → Int64 → Prop} {M : MM} {tl : Int64} {v1 : Int32} {v2 : Int32} {v3 : Int32} (hI : Inv M) (hp : ∀ (r : Int32) (M1 : MM) (t1 : Int64), Inv M1 → Fr [] [(53, 0), (53, 1), (53, 2), (53, 3)] M M1 → True → post r M1 t1) : wpX10_began post M tl v1 v2 v3 := by
  unfold wpX10_began
  refine sf_X1_isLot__3 hI  (fun r1 hq2 => ?_)
  refine ifs (fun hc3 => ?_) (fun hc4 => ?_)
  · skip
    exact hp _ _ _ hI fr_rfl trivial
  · skip
    refine ifs (fun hc5 => ?_) (fun hc6 => ?_)
    · skip
      exact hp _ _ _ hI fr_rfl trivial
    · skip
      refine ifs (fun hc7 => ?_) (fun hc8 => ?_)
      · skip
        exact hp _ _ _ hI fr_rfl trivial
      · skip
        refine ifs (fun hc9 => ?_) (fun hc10 => ?_)
        · skip
          exact hp _ _ _ hI fr_rfl trivial
        · skip
          refine ifs (fun hc11 => ?_) (fun hc12 => ?_)
          · skip
            refine sf_X2_hasHistory hI  (fun r13 hq14 => ?_)
            refine ifs (fun hc15 => ?_) (fun hc16 => ?_)
            · skip
              exact hp _ _ _ hI fr_rfl trivial
            · skip
              refine sf_X2_findHistories hI (by lia) (fun M18 t19 hI20 hF21 hq22 => ?_)
              have hF23 : Fr [] [(53, 0), (53, 1), (53, 2), (53, 3)] M M18 := fr_call fr_rfl hF21 (by decide) (by decide)
              refine ifs (fun hc24 => ?_) (fun hc25 => ?_)
              · skip
                exact hp _ _ _ hI20 hF23 trivial
              · skip
                refine ifs (fun hc26 => ?_) (fun hc27 => ?_)
                · skip
                  refine sf_X2_onlyBeginner hI20  (fun r28 hq29 => ?_)
                  exact hp _ _ _ hI20 hF23 trivial
                · skip
                  refine ifs (fun hc30 => ?_) (fun hc31 => ?_)
                  · skip
                    exact hp _ _ _ hI20 hF23 trivial
                  · skip
                    exact hp _ _ _ hI20 hF23 trivial
          · skip
            exact hp _ _ _ hI fr_rfl trivial
set_option maxHeartbeats 4000000 in
theorem sf_X5_copyFrom__58_16 {post : MM → Int64 → Prop} {M : MM} {tl : Int64} (hI : Inv M) (hp : ∀ (M1 : MM) (t1 : Int64), Inv M1 → Fr [59] [(58, 3)] M M1 → True → post M1 t1) : wpX5_copyFrom post M tl 58 16 := by
  unfold wpX5_copyFrom
  simp only [Nat.reduceAdd, ln_al_17, ln_al_59]
  refine And.intro (by decide) ?_
  refine And.intro (by decide) ?_
  have hr3 := iv_16_3 hI
  intro W1 hW2
  have hI4 : Inv W1 := by rw [hW2]; exact inv_set hI (show 0 ≤ (M 16 3) ∧ (M 16 3) ≤ 12 from ⟨by lia, by lia⟩)
  have hF5 : Fr [59] [(58, 3)] M W1 := by rw [hW2]; exact fr_fld fr_rfl (by decide)
  have hv6 : W1 58 3 = (M 16 3) := by rw [hW2]; exact mset_at _ _ _ _
  refine And.intro (by decide) ?_
  refine And.intro (by decide) ?_
  refine And.intro (by decide) ?_
  refine And.intro (by decide) ?_
  refine And.intro (by decide) ?_
  refine And.intro (by decide) ?_
  refine And.intro (by decide) ?_
  refine And.intro (by decide) ?_
  refine And.intro (by lia) ?_
  refine And.intro (by decide) ?_
  refine And.intro (by decide) ?_
  intro W7 hW8
  have hI9 : Inv W7 := by rw [hW8]; exact inv_row hI4 (fun j => i_any _)
  have hF10 : Fr [59] [(58, 3)] M W7 := by rw [hW8]; exact fr_row hF5 (by decide)
  exact hp _ _ hI9 hF10 trivial
set_option maxHeartbeats 4000000 in
theorem sf_X5_copyFrom__60_18 {post : MM → Int64 → Prop} {M : MM} {tl : Int64} (hI : Inv M) (hp : ∀ (M1 : MM) (t1 : Int64), Inv M1 → Fr [61] [(60, 3)] M M1 → True → post M1 t1) : wpX5_copyFrom post M tl 60 18 := by
  unfold wpX5_copyFrom
  simp only [Nat.reduceAdd, ln_al_19, ln_al_61]
  refine And.intro (by decide) ?_
  refine And.intro (by decide) ?_
  have hr3 := iv_18_3 hI
  intro W1 hW2
  have hI4 : Inv W1 := by rw [hW2]; exact inv_set hI (show 0 ≤ (M 18 3) ∧ (M 18 3) ≤ 6 from ⟨by lia, by lia⟩)
  have hF5 : Fr [61] [(60, 3)] M W1 := by rw [hW2]; exact fr_fld fr_rfl (by decide)
  have hv6 : W1 60 3 = (M 18 3) := by rw [hW2]; exact mset_at _ _ _ _
  refine And.intro (by decide) ?_
  refine And.intro (by decide) ?_
  refine And.intro (by decide) ?_
  refine And.intro (by decide) ?_
  refine And.intro (by decide) ?_
  refine And.intro (by decide) ?_
  refine And.intro (by decide) ?_
  refine And.intro (by decide) ?_
  refine And.intro (by lia) ?_
  refine And.intro (by decide) ?_
  refine And.intro (by decide) ?_
  intro W7 hW8
  have hI9 : Inv W7 := by rw [hW8]; exact inv_row hI4 (fun j => i_any _)
  have hF10 : Fr [61] [(60, 3)] M W7 := by rw [hW8]; exact fr_row hF5 (by decide)
  exact hp _ _ hI9 hF10 trivial
set_option maxHeartbeats 4000000 in
theorem sf_X5_copyFrom__62_20 {post : MM → Int64 → Prop} {M : MM} {tl : Int64} (hI : Inv M) (hp : ∀ (M1 : MM) (t1 : Int64), Inv M1 → Fr [63] [(62, 3)] M M1 → True → post M1 t1) : wpX5_copyFrom post M tl 62 20 := by
  unfold wpX5_copyFrom
  simp only [Nat.reduceAdd, ln_al_21, ln_al_63]
  refine And.intro (by decide) ?_
  refine And.intro (by decide) ?_
  have hr3 := iv_20_3 hI
  intro W1 hW2
  have hI4 : Inv W1 := by rw [hW2]; exact inv_set hI (show 0 ≤ (M 20 3) ∧ (M 20 3) ≤ 12 from ⟨by lia, by lia⟩)
  have hF5 : Fr [63] [(62, 3)] M W1 := by rw [hW2]; exact fr_fld fr_rfl (by decide)
  have hv6 : W1 62 3 = (M 20 3) := by rw [hW2]; exact mset_at _ _ _ _
  refine And.intro (by decide) ?_
  refine And.intro (by decide) ?_
  refine And.intro (by decide) ?_
  refine And.intro (by decide) ?_
  refine And.intro (by decide) ?_
  refine And.intro (by decide) ?_
  refine And.intro (by decide) ?_
  refine And.intro (by decide) ?_
  refine And.intro (by lia) ?_
  refine And.intro (by decide) ?_
  refine And.intro (by decide) ?_
  intro W7 hW8
  have hI9 : Inv W7 := by rw [hW8]; exact inv_row hI4 (fun j => i_any _)
  have hF10 : Fr [63] [(62, 3)] M W7 := by rw [hW8]; exact fr_row hF5 (by decide)
  exact hp _ _ hI9 hF10 trivial
set_option maxHeartbeats 4000000 in
theorem sf_X7_copyFrom__56_14 {post : MM → Int64 → Prop} {M : MM} {tl : Int64} (hI : Inv M) (hp : ∀ (M1 : MM) (t1 : Int64), Inv M1 → Fr [57, 59, 61, 63] [(58, 3), (60, 3), (62, 3)] M M1 → True → post M1 t1) : wpX7_copyFrom post M tl 56 14 := by
  unfold wpX7_copyFrom
  refine And.intro (by decide) ?_
  refine And.intro (by decide) ?_
  refine And.intro (by decide) ?_
  refine And.intro (by decide) ?_
  refine And.intro (by decide) ?_
  refine And.intro (by decide) ?_
  intro W1 hW2
  have hI3 : Inv W1 := by rw [hW2]; exact inv_row hI (fun j => i_any _)
  have hF4 : Fr [57, 59, 61, 63] [(58, 3), (60, 3), (62, 3)] M W1 := by rw [hW2]; exact fr_row fr_rfl (by decide)
  refine And.intro (by decide) ?_
  refine And.intro (by decide) ?_
  refine And.intro (by decide) ?_
  refine sf_X5_copyFrom__58_16 hI3  (fun M6 t7 hI8 hF9 hq10 => ?_)
  have hF11 : Fr [57, 59, 61, 63] [(58, 3), (60, 3), (62, 3)] M M6 := fr_call hF4 hF9 (by decide) (by decide)
  refine And.intro (by decide) ?_
  refine And.intro (by decide) ?_
  refine And.intro (by decide) ?_
  refine sf_X5_copyFrom__60_18 hI8  (fun M13 t14 hI15 hF16 hq17 => ?_)
  have hF18 : Fr [57, 59, 61, 63] [(58, 3), (60, 3), (62, 3)] M M13 := fr_call hF11 hF16 (by decide) (by decide)
  refine And.intro (by decide) ?_
  refine And.intro (by decide) ?_
  refine And.intro (by decide) ?_
  refine sf_X5_copyFrom__62_20 hI15  (fun M20 t21 hI22 hF23 hq24 => ?_)
  have hF25 : Fr [57, 59, 61, 63] [(58, 3), (60, 3), (62, 3)] M M20 := fr_call hF18 hF23 (by decide) (by decide)
  exact hp _ _ hI22 hF25 trivial
set_option maxHeartbeats 4000000 in
theorem sf_X5_copyFrom__66_16 {post : MM → Int64 → Prop} {M : MM} {tl : Int64} (hI : Inv M) (hp : ∀ (M1 : MM) (t1 : Int64), Inv M1 → Fr [67] [(66, 3)] M M1 → True → post M1 t1) : wpX5_copyFrom post M tl 66 16 := by
  unfold wpX5_copyFrom
  simp only [Nat.reduceAdd, ln_al_17, ln_al_67]
  refine And.intro (by decide) ?_
  refine And.intro (by decide) ?_
  have hr3 := iv_16_3 hI
  intro W1 hW2
  have hI4 : Inv W1 := by rw [hW2]; exact inv_set hI (show 0 ≤ (M 16 3) ∧ (M 16 3) ≤ 12 from ⟨by lia, by lia⟩)
  have hF5 : Fr [67] [(66, 3)] M W1 := by rw [hW2]; exact fr_fld fr_rfl (by decide)
  have hv6 : W1 66 3 = (M 16 3) := by rw [hW2]; exact mset_at _ _ _ _
  refine And.intro (by decide) ?_
  refine And.intro (by decide) ?_
  refine And.intro (by decide) ?_
  refine And.intro (by decide) ?_
  refine And.intro (by decide) ?_
  refine And.intro (by decide) ?_
  refine And.intro (by decide) ?_
  refine And.intro (by decide) ?_
  refine And.intro (by lia) ?_
  refine And.intro (by decide) ?_
  refine And.intro (by decide) ?_
  intro W7 hW8
  have hI9 : Inv W7 := by rw [hW8]; exact inv_row hI4 (fun j => i_any _)
  have hF10 : Fr [67] [(66, 3)] M W7 := by rw [hW8]; exact fr_row hF5 (by decide)
  exact hp _ _ hI9 hF10 trivial
set_option maxHeartbeats 4000000 in
theorem sf_X5_copyFrom__68_18 {post : MM → Int64 → Prop} {M : MM} {tl : Int64} (hI : Inv M) (hp : ∀ (M1 : MM) (t1 : Int64), Inv M1 → Fr [69] [(68, 3)] M M1 → True → post M1 t1) : wpX5_copyFrom post M tl 68 18 := by
  unfold wpX5_copyFrom
  simp only [Nat.reduceAdd, ln_al_19, ln_al_69]
  refine And.intro (by decide) ?_
  refine And.intro (by decide) ?_
  have hr3 := iv_18_3 hI
  intro W1 hW2
  have hI4 : Inv W1 := by rw [hW2]; exact inv_set hI (show 0 ≤ (M 18 3) ∧ (M 18 3) ≤ 6 from ⟨by lia, by lia⟩)
  have hF5 : Fr [69] [(68, 3)] M W1 := by rw [hW2]; exact fr_fld fr_rfl (by decide)
  have hv6 : W1 68 3 = (M 18 3) := by rw [hW2]; exact mset_at _ _ _ _
  refine And.intro (by decide) ?_
  refine And.intro (by decide) ?_
  refine And.intro (by decide) ?_
  refine And.intro (by decide) ?_
  refine And.intro (by decide) ?_
  refine And.intro (by decide) ?_
  refine And.intro (by decide) ?_
  refine And.intro (by decide) ?_
  refine And.intro (by lia) ?_
  refine And.intro (by decide) ?_
  refine And.intro (by decide) ?_
  intro W7 hW8
  have hI9 : Inv W7 := by rw [hW8]; exact inv_row hI4 (fun j => i_any _)
  have hF10 : Fr [69] [(68, 3)] M W7 := by rw [hW8]; exact fr_row hF5 (by decide)
  exact hp _ _ hI9 hF10 trivial
set_option maxHeartbeats 4000000 in
theorem sf_X5_copyFrom__70_20 {post : MM → Int64 → Prop} {M : MM} {tl : Int64} (hI : Inv M) (hp : ∀ (M1 : MM) (t1 : Int64), Inv M1 → Fr [71] [(70, 3)] M M1 → True → post M1 t1) : wpX5_copyFrom post M tl 70 20 := by
  unfold wpX5_copyFrom
  simp only [Nat.reduceAdd, ln_al_21, ln_al_71]
  refine And.intro (by decide) ?_
  refine And.intro (by decide) ?_
  have hr3 := iv_20_3 hI
  intro W1 hW2
  have hI4 : Inv W1 := by rw [hW2]; exact inv_set hI (show 0 ≤ (M 20 3) ∧ (M 20 3) ≤ 12 from ⟨by lia, by lia⟩)
  have hF5 : Fr [71] [(70, 3)] M W1 := by rw [hW2]; exact fr_fld fr_rfl (by decide)
  have hv6 : W1 70 3 = (M 20 3) := by rw [hW2]; exact mset_at _ _ _ _
  refine And.intro (by decide) ?_
  refine And.intro (by decide) ?_
  refine And.intro (by decide) ?_
  refine And.intro (by decide) ?_
  refine And.intro (by decide) ?_
  refine And.intro (by decide) ?_
  refine And.intro (by decide) ?_
  refine And.intro (by decide) ?_
  refine And.intro (by lia) ?_
  refine And.intro (by decide) ?_
  refine And.intro (by decide) ?_
  intro W7 hW8
  have hI9 : Inv W7 := by rw [hW8]; exact inv_row hI4 (fun j => i_any _)
  have hF10 : Fr [71] [(70, 3)] M W7 := by rw [hW8]; exact fr_row hF5 (by decide)
  exact hp _ _ hI9 hF10 trivial
set_option maxHeartbeats 4000000 in
theorem sf_X7_copyFrom__64_14 {post : MM → Int64 → Prop} {M : MM} {tl : Int64} (hI : Inv M) (hp : ∀ (M1 : MM) (t1 : Int64), Inv M1 → Fr [65, 67, 69, 71] [(66, 3), (68, 3), (70, 3)] M M1 → True → post M1 t1) : wpX7_copyFrom post M tl 64 14 := by
  unfold wpX7_copyFrom
  refine And.intro (by decide) ?_
  refine And.intro (by decide) ?_
  refine And.intro (by decide) ?_
  refine And.intro (by decide) ?_
  refine And.intro (by decide) ?_
  refine And.intro (by decide) ?_
  intro W1 hW2
  have hI3 : Inv W1 := by rw [hW2]; exact inv_row hI (fun j => i_any _)
  have hF4 : Fr [65, 67, 69, 71] [(66, 3), (68, 3), (70, 3)] M W1 := by rw [hW2]; exact fr_row fr_rfl (by decide)
  refine And.intro (by decide) ?_
  refine And.intro (by decide) ?_
  refine And.intro (by decide) ?_
  refine sf_X5_copyFrom__66_16 hI3  (fun M6 t7 hI8 hF9 hq10 => ?_)
  have hF11 : Fr [65, 67, 69, 71] [(66, 3), (68, 3), (70, 3)] M M6 := fr_call hF4 hF9 (by decide) (by decide)
  refine And.intro (by decide) ?_
  refine And.intro (by decide) ?_
  refine And.intro (by decide) ?_
  refine sf_X5_copyFrom__68_18 hI8  (fun M13 t14 hI15 hF16 hq17 => ?_)
  have hF18 : Fr [65, 67, 69, 71] [(66, 3), (68, 3), (70, 3)] M M13 := fr_call hF11 hF16 (by decide) (by decide)
  refine And.intro (by decide) ?_
  refine And.intro (by decide) ?_
  refine And.intro (by decide) ?_
  refine sf_X5_copyFrom__70_20 hI15  (fun M20 t21 hI22 hF23 hq24 => ?_)
  have hF25 : Fr [65, 67, 69, 71] [(66, 3), (68, 3), (70, 3)] M M20 := fr_call hF18 hF23 (by decide) (by decide)
  exact hp _ _ hI22 hF25 trivial
set_option maxHeartbeats 4000000 in
theorem sf_X10_keep {post : Int32 → MM → Int64 → Prop} {M : MM} {tl : Int64} {v1 : Int32} (hI : Inv M) (hp : ∀ (r : Int32) (M1 : MM) (t1 : Int64), Inv M1 → Fr [55, 57, 59, 61, 63, 65, 67, 69, 71] [(58, 3), (60, 3), (62, 3), (66, 3), (68, 3), (70, 3)] M M1 → True → post r M1 t1) : wpX10_keep post M tl v1 := by
  unfold wpX10_keep
  refine ifs (fun hc1 => ?_) (fun hc2 => ?_)
  · skip
    exact hp _ _ _ hI fr_rfl trivial
  · skip
    refine ifs (fun hc3 => ?_) (fun hc4 => ?_)
    · skip
      refine And.intro (vpI (c := 2) (by decide) (by lia) (by lia)) ?_
      refine ifs (fun hc5 => ?_) (fun hc6 => ?_)
      · skip
        unfold wX10_keep_25
        refine And.intro (vpI (c := 2) (by decide) (by lia) (by lia)) ?_
        rcases cs2 (v := v1) (by lia) (by lia) with hs | hs <;> subst hs
        · skip
          refine And.intro (by decide) ?_
          refine sf_X7_copyFrom__56_14 hI  (fun M8 t9 hI10 hF11 hq12 => ?_)
          have hF13 : Fr [55, 57, 59, 61, 63, 65, 67, 69, 71] [(58, 3), (60, 3), (62, 3), (66, 3), (68, 3), (70, 3)] M M8 := fr_call fr_rfl hF11 (by decide) (by decide)
          refine And.intro (vpI (c := 2) (by decide) (by lia) (by lia)) ?_
          intro W14 hW15
          have hI16 : Inv W14 := by rw [hW15]; exact inv_set hI10 (i_any _)
          have hF17 : Fr [55, 57, 59, 61, 63, 65, 67, 69, 71] [(58, 3), (60, 3), (62, 3), (66, 3), (68, 3), (70, 3)] M W14 := by rw [hW15]; exact fr_arr hF13 (by decide)
          exact hp _ _ _ hI16 hF17 trivial
        · skip
          refine And.intro (by decide) ?_
          refine sf_X7_copyFrom__64_14 hI  (fun M19 t20 hI21 hF22 hq23 => ?_)
          have hF24 : Fr [55, 57, 59, 61, 63, 65, 67, 69, 71] [(58, 3), (60, 3), (62, 3), (66, 3), (68, 3), (70, 3)] M M19 := fr_call fr_rfl hF22 (by decide) (by decide)
          refine And.intro (vpI (c := 2) (by decide) (by lia) (by lia)) ?_
          intro W25 hW26
          have hI27 : Inv W25 := by rw [hW26]; exact inv_set hI21 (i_any _)
          have hF28 : Fr [55, 57, 59, 61, 63, 65, 67, 69, 71] [(58, 3), (60, 3), (62, 3), (66, 3), (68, 3), (70, 3)] M W25 := by rw [hW26]; exact fr_arr hF24 (by decide)
          exact hp _ _ _ hI27 hF28 trivial
      · skip
        unfold wX10_keep_25
        refine And.intro (vpI (c := 2) (by decide) (by lia) (by lia)) ?_
        rcases cs2 (v := v1) (by lia) (by lia) with hs | hs <;> subst hs
        · skip
          refine And.intro (by decide) ?_
          refine sf_X7_copyFrom__56_14 hI  (fun M30 t31 hI32 hF33 hq34 => ?_)
          have hF35 : Fr [55, 57, 59, 61, 63, 65, 67, 69, 71] [(58, 3), (60, 3), (62, 3), (66, 3), (68, 3), (70, 3)] M M30 := fr_call fr_rfl hF33 (by decide) (by decide)
          refine And.intro (vpI (c := 2) (by decide) (by lia) (by lia)) ?_
          intro W36 hW37
          have hI38 : Inv W36 := by rw [hW37]; exact inv_set hI32 (i_any _)
          have hF39 : Fr [55, 57, 59, 61, 63, 65, 67, 69, 71] [(58, 3), (60, 3), (62, 3), (66, 3), (68, 3), (70, 3)] M W36 := by rw [hW37]; exact fr_arr hF35 (by decide)
          exact hp _ _ _ hI38 hF39 trivial
        · skip
          refine And.intro (by decide) ?_
          refine sf_X7_copyFrom__64_14 hI  (fun M41 t42 hI43 hF44 hq45 => ?_)
          have hF46 : Fr [55, 57, 59, 61, 63, 65, 67, 69, 71] [(58, 3), (60, 3), (62, 3), (66, 3), (68, 3), (70, 3)] M M41 := fr_call fr_rfl hF44 (by decide) (by decide)
          refine And.intro (vpI (c := 2) (by decide) (by lia) (by lia)) ?_
          intro W47 hW48
          have hI49 : Inv W47 := by rw [hW48]; exact inv_set hI43 (i_any _)
          have hF50 : Fr [55, 57, 59, 61, 63, 65, 67, 69, 71] [(58, 3), (60, 3), (62, 3), (66, 3), (68, 3), (70, 3)] M W47 := by rw [hW48]; exact fr_arr hF46 (by decide)
          exact hp _ _ _ hI49 hF50 trivial
    · skip
      exact hp _ _ _ hI fr_rfl trivial
set_option maxHeartbeats 4000000 in
theorem sf_X5_copyFrom__16_58 {post : MM → Int64 → Prop} {M : MM} {tl : Int64} (hI : Inv M) (hp : ∀ (M1 : MM) (t1 : Int64), Inv M1 → Fr [17] [(16, 3)] M M1 → True → post M1 t1) : wpX5_copyFrom post M tl 16 58 := by
  unfold wpX5_copyFrom
  simp only [Nat.reduceAdd, ln_al_17, ln_al_59]
  refine And.intro (by decide) ?_
  refine And.intro (by decide) ?_
  have hr3 := iv_58_3 hI
  intro W1 hW2
  have hI4 : Inv W1 := by rw [hW2]; exact inv_set hI (show 0 ≤ (M 58 3) ∧ (M 58 3) ≤ 12 from ⟨by lia, by lia⟩)
  have hF5 : Fr [17] [(16, 3)] M W1 := by rw [hW2]; exact fr_fld fr_rfl (by decide)
  have hv6 : W1 16 3 = (M 58 3) := by rw [hW2]; exact mset_at _ _ _ _
  refine And.intro (by decide) ?_
  refine And.intro (by decide) ?_
  refine And.intro (by decide) ?_
  refine And.intro (by decide) ?_
  refine And.intro (by decide) ?_
  refine And.intro (by decide) ?_
  refine And.intro (by decide) ?_
  refine And.intro (by decide) ?_
  refine And.intro (by lia) ?_
  refine And.intro (by decide) ?_
  refine And.intro (by decide) ?_
  intro W7 hW8
  have hI9 : Inv W7 := by rw [hW8]; exact inv_row hI4 (fun j => i_any _)
  have hF10 : Fr [17] [(16, 3)] M W7 := by rw [hW8]; exact fr_row hF5 (by decide)
  exact hp _ _ hI9 hF10 trivial
set_option maxHeartbeats 4000000 in
theorem sf_X5_copyFrom__18_60 {post : MM → Int64 → Prop} {M : MM} {tl : Int64} (hI : Inv M) (hp : ∀ (M1 : MM) (t1 : Int64), Inv M1 → Fr [19] [(18, 3)] M M1 → True → post M1 t1) : wpX5_copyFrom post M tl 18 60 := by
  unfold wpX5_copyFrom
  simp only [Nat.reduceAdd, ln_al_19, ln_al_61]
  refine And.intro (by decide) ?_
  refine And.intro (by decide) ?_
  have hr3 := iv_60_3 hI
  intro W1 hW2
  have hI4 : Inv W1 := by rw [hW2]; exact inv_set hI (show 0 ≤ (M 60 3) ∧ (M 60 3) ≤ 6 from ⟨by lia, by lia⟩)
  have hF5 : Fr [19] [(18, 3)] M W1 := by rw [hW2]; exact fr_fld fr_rfl (by decide)
  have hv6 : W1 18 3 = (M 60 3) := by rw [hW2]; exact mset_at _ _ _ _
  refine And.intro (by decide) ?_
  refine And.intro (by decide) ?_
  refine And.intro (by decide) ?_
  refine And.intro (by decide) ?_
  refine And.intro (by decide) ?_
  refine And.intro (by decide) ?_
  refine And.intro (by decide) ?_
  refine And.intro (by decide) ?_
  refine And.intro (by lia) ?_
  refine And.intro (by decide) ?_
  refine And.intro (by decide) ?_
  intro W7 hW8
  have hI9 : Inv W7 := by rw [hW8]; exact inv_row hI4 (fun j => i_any _)
  have hF10 : Fr [19] [(18, 3)] M W7 := by rw [hW8]; exact fr_row hF5 (by decide)
  exact hp _ _ hI9 hF10 trivial
set_option maxHeartbeats 4000000 in
theorem sf_X5_copyFrom__20_62 {post : MM → Int64 → Prop} {M : MM} {tl : Int64} (hI : Inv M) (hp : ∀ (M1 : MM) (t1 : Int64), Inv M1 → Fr [21] [(20, 3)] M M1 → True → post M1 t1) : wpX5_copyFrom post M tl 20 62 := by
  unfold wpX5_copyFrom
  simp only [Nat.reduceAdd, ln_al_21, ln_al_63]
  refine And.intro (by decide) ?_
  refine And.intro (by decide) ?_
  have hr3 := iv_62_3 hI
  intro W1 hW2
  have hI4 : Inv W1 := by rw [hW2]; exact inv_set hI (show 0 ≤ (M 62 3) ∧ (M 62 3) ≤ 12 from ⟨by lia, by lia⟩)
  have hF5 : Fr [21] [(20, 3)] M W1 := by rw [hW2]; exact fr_fld fr_rfl (by decide)
  have hv6 : W1 20 3 = (M 62 3) := by rw [hW2]; exact mset_at _ _ _ _
  refine And.intro (by decide) ?_
  refine And.intro (by decide) ?_
  refine And.intro (by decide) ?_
  refine And.intro (by decide) ?_
  refine And.intro (by decide) ?_
  refine And.intro (by decide) ?_
  refine And.intro (by decide) ?_
  refine And.intro (by decide) ?_
  refine And.intro (by lia) ?_
  refine And.intro (by decide) ?_
  refine And.intro (by decide) ?_
  intro W7 hW8
  have hI9 : Inv W7 := by rw [hW8]; exact inv_row hI4 (fun j => i_any _)
  have hF10 : Fr [21] [(20, 3)] M W7 := by rw [hW8]; exact fr_row hF5 (by decide)
  exact hp _ _ hI9 hF10 trivial
set_option maxHeartbeats 4000000 in
theorem sf_X7_copyFrom__14_56 {post : MM → Int64 → Prop} {M : MM} {tl : Int64} (hI : Inv M) (hp : ∀ (M1 : MM) (t1 : Int64), Inv M1 → Fr [15, 17, 19, 21] [(16, 3), (18, 3), (20, 3)] M M1 → True → post M1 t1) : wpX7_copyFrom post M tl 14 56 := by
  unfold wpX7_copyFrom
  refine And.intro (by decide) ?_
  refine And.intro (by decide) ?_
  refine And.intro (by decide) ?_
  refine And.intro (by decide) ?_
  refine And.intro (by decide) ?_
  refine And.intro (by decide) ?_
  intro W1 hW2
  have hI3 : Inv W1 := by rw [hW2]; exact inv_row hI (fun j => i_any _)
  have hF4 : Fr [15, 17, 19, 21] [(16, 3), (18, 3), (20, 3)] M W1 := by rw [hW2]; exact fr_row fr_rfl (by decide)
  refine And.intro (by decide) ?_
  refine And.intro (by decide) ?_
  refine And.intro (by decide) ?_
  refine sf_X5_copyFrom__16_58 hI3  (fun M6 t7 hI8 hF9 hq10 => ?_)
  have hF11 : Fr [15, 17, 19, 21] [(16, 3), (18, 3), (20, 3)] M M6 := fr_call hF4 hF9 (by decide) (by decide)
  refine And.intro (by decide) ?_
  refine And.intro (by decide) ?_
  refine And.intro (by decide) ?_
  refine sf_X5_copyFrom__18_60 hI8  (fun M13 t14 hI15 hF16 hq17 => ?_)
  have hF18 : Fr [15, 17, 19, 21] [(16, 3), (18, 3), (20, 3)] M M13 := fr_call hF11 hF16 (by decide) (by decide)
  refine And.intro (by decide) ?_
  refine And.intro (by decide) ?_
  refine And.intro (by decide) ?_
  refine sf_X5_copyFrom__20_62 hI15  (fun M20 t21 hI22 hF23 hq24 => ?_)
  have hF25 : Fr [15, 17, 19, 21] [(16, 3), (18, 3), (20, 3)] M M20 := fr_call hF18 hF23 (by decide) (by decide)
  exact hp _ _ hI22 hF25 trivial
set_option maxHeartbeats 4000000 in
theorem sl_X7_countThings_4__14 {post : Int32 → MM → Int64 → Prop} {M : MM} {tl : Int64} (hp : ∀ (r : Int32), True → post r M tl) (hI : Inv M) : ∀ v2 : Int32, 0 ≤ v2 → v2 ≤ 16 → ∃ n, ∀ (v1 : Int32), (True) → wX7_countThings_4 post n M tl 14 v1 v2 := by
  refine up_ex (P := fun d v2 => ∀ (v1 : Int32), (True) → wX7_countThings_4 post d M tl 14 v1 v2) 0 16 ?_
  intro d v2 hlo hhi rec v1 hli
  unfold wX7_countThings_4
  refine ifs (fun hc1 => ?_) (fun hc2 => ?_)
  · skip
    exact hp _ trivial
  · skip
    refine And.intro (by decide) ?_
    refine And.intro (by decide) ?_
    refine And.intro (vpI (c := 16) (by decide) (by lia) (by lia)) ?_
    refine ifs (fun hc3 => ?_) (fun hc4 => ?_)
    · skip
      unfold wX7_countThings_25
      exact rec (by lia) (v1 + (0 : Int32)) trivial
    · skip
      unfold wX7_countThings_25
      exact rec (by lia) (v1 + (1 : Int32)) trivial
set_option maxHeartbeats 4000000 in
theorem sf_X7_countThings__14 {post : Int32 → MM → Int64 → Prop} {M : MM} {tl : Int64} (hI : Inv M) (hp : ∀ (r : Int32), True → post r M tl) : wpX7_countThings post M tl 14 := by
  unfold wpX7_countThings
  obtain ⟨n1, hn2⟩ := sl_X7_countThings_4__14 (M := M) (tl := tl) hp  hI (0 : Int32) (by lia) (by lia)
  exact ⟨n1, hn2 (0 : Int32) trivial⟩
set_option maxHeartbeats 4000000 in
theorem sf_X5_copyFrom__16_66 {post : MM → Int64 → Prop} {M : MM} {tl : Int64} (hI : Inv M) (hp : ∀ (M1 : MM) (t1 : Int64), Inv M1 → Fr [17] [(16, 3)] M M1 → True → post M1 t1) : wpX5_copyFrom post M tl 16 66 := by
  unfold wpX5_copyFrom
  simp only [Nat.reduceAdd, ln_al_17, ln_al_67]
  refine And.intro (by decide) ?_
  refine And.intro (by decide) ?_
  have hr3 := iv_66_3 hI
  intro W1 hW2
  have hI4 : Inv W1 := by rw [hW2]; exact inv_set hI (show 0 ≤ (M 66 3) ∧ (M 66 3) ≤ 12 from ⟨by lia, by lia⟩)
  have hF5 : Fr [17] [(16, 3)] M W1 := by rw [hW2]; exact fr_fld fr_rfl (by decide)
  have hv6 : W1 16 3 = (M 66 3) := by rw [hW2]; exact mset_at _ _ _ _
  refine And.intro (by decide) ?_
  refine And.intro (by decide) ?_
  refine And.intro (by decide) ?_
  refine And.intro (by decide) ?_
  refine And.intro (by decide) ?_
  refine And.intro (by decide) ?_
  refine And.intro (by decide) ?_
  refine And.intro (by decide) ?_
  refine And.intro (by lia) ?_
  refine And.intro (by decide) ?_
  refine And.intro (by decide) ?_
  intro W7 hW8
  have hI9 : Inv W7 := by rw [hW8]; exact inv_row hI4 (fun j => i_any _)
  have hF10 : Fr [17] [(16, 3)] M W7 := by rw [hW8]; exact fr_row hF5 (by decide)
  exact hp _ _ hI9 hF10 trivial
set_option maxHeartbeats 4000000 in
theorem sf_X5_copyFrom__18_68 {post : MM → Int64 → Prop} {M : MM} {tl : Int64} (hI : Inv M) (hp : ∀ (M1 : MM) (t1 : Int64), Inv M1 → Fr [19] [(18, 3)] M M1 → True → post M1 t1) : wpX5_copyFrom post M tl 18 68 := by
  unfold wpX5_copyFrom
  simp only [Nat.reduceAdd, ln_al_19, ln_al_69]
  refine And.intro (by decide) ?_
  refine And.intro (by decide) ?_
  have hr3 := iv_68_3 hI
  intro W1 hW2
  have hI4 : Inv W1 := by rw [hW2]; exact inv_set hI (show 0 ≤ (M 68 3) ∧ (M 68 3) ≤ 6 from ⟨by lia, by lia⟩)
  have hF5 : Fr [19] [(18, 3)] M W1 := by rw [hW2]; exact fr_fld fr_rfl (by decide)
  have hv6 : W1 18 3 = (M 68 3) := by rw [hW2]; exact mset_at _ _ _ _
  refine And.intro (by decide) ?_
  refine And.intro (by decide) ?_
  refine And.intro (by decide) ?_
  refine And.intro (by decide) ?_
  refine And.intro (by decide) ?_
  refine And.intro (by decide) ?_
  refine And.intro (by decide) ?_
  refine And.intro (by decide) ?_
  refine And.intro (by lia) ?_
  refine And.intro (by decide) ?_
  refine And.intro (by decide) ?_
  intro W7 hW8
  have hI9 : Inv W7 := by rw [hW8]; exact inv_row hI4 (fun j => i_any _)
  have hF10 : Fr [19] [(18, 3)] M W7 := by rw [hW8]; exact fr_row hF5 (by decide)
  exact hp _ _ hI9 hF10 trivial
set_option maxHeartbeats 4000000 in
theorem sf_X5_copyFrom__20_70 {post : MM → Int64 → Prop} {M : MM} {tl : Int64} (hI : Inv M) (hp : ∀ (M1 : MM) (t1 : Int64), Inv M1 → Fr [21] [(20, 3)] M M1 → True → post M1 t1) : wpX5_copyFrom post M tl 20 70 := by
  unfold wpX5_copyFrom
  simp only [Nat.reduceAdd, ln_al_21, ln_al_71]
  refine And.intro (by decide) ?_
  refine And.intro (by decide) ?_
  have hr3 := iv_70_3 hI
  intro W1 hW2
  have hI4 : Inv W1 := by rw [hW2]; exact inv_set hI (show 0 ≤ (M 70 3) ∧ (M 70 3) ≤ 12 from ⟨by lia, by lia⟩)
  have hF5 : Fr [21] [(20, 3)] M W1 := by rw [hW2]; exact fr_fld fr_rfl (by decide)
  have hv6 : W1 20 3 = (M 70 3) := by rw [hW2]; exact mset_at _ _ _ _
  refine And.intro (by decide) ?_
  refine And.intro (by decide) ?_
  refine And.intro (by decide) ?_
  refine And.intro (by decide) ?_
  refine And.intro (by decide) ?_
  refine And.intro (by decide) ?_
  refine And.intro (by decide) ?_
  refine And.intro (by decide) ?_
  refine And.intro (by lia) ?_
  refine And.intro (by decide) ?_
  refine And.intro (by decide) ?_
  intro W7 hW8
  have hI9 : Inv W7 := by rw [hW8]; exact inv_row hI4 (fun j => i_any _)
  have hF10 : Fr [21] [(20, 3)] M W7 := by rw [hW8]; exact fr_row hF5 (by decide)
  exact hp _ _ hI9 hF10 trivial
set_option maxHeartbeats 4000000 in
theorem sf_X7_copyFrom__14_64 {post : MM → Int64 → Prop} {M : MM} {tl : Int64} (hI : Inv M) (hp : ∀ (M1 : MM) (t1 : Int64), Inv M1 → Fr [15, 17, 19, 21] [(16, 3), (18, 3), (20, 3)] M M1 → True → post M1 t1) : wpX7_copyFrom post M tl 14 64 := by
  unfold wpX7_copyFrom
  refine And.intro (by decide) ?_
  refine And.intro (by decide) ?_
  refine And.intro (by decide) ?_
  refine And.intro (by decide) ?_
  refine And.intro (by decide) ?_
  refine And.intro (by decide) ?_
  intro W1 hW2
  have hI3 : Inv W1 := by rw [hW2]; exact inv_row hI (fun j => i_any _)
  have hF4 : Fr [15, 17, 19, 21] [(16, 3), (18, 3), (20, 3)] M W1 := by rw [hW2]; exact fr_row fr_rfl (by decide)
  refine And.intro (by decide) ?_
  refine And.intro (by decide) ?_
  refine And.intro (by decide) ?_
  refine sf_X5_copyFrom__16_66 hI3  (fun M6 t7 hI8 hF9 hq10 => ?_)
  have hF11 : Fr [15, 17, 19, 21] [(16, 3), (18, 3), (20, 3)] M M6 := fr_call hF4 hF9 (by decide) (by decide)
  refine And.intro (by decide) ?_
  refine And.intro (by decide) ?_
  refine And.intro (by decide) ?_
  refine sf_X5_copyFrom__18_68 hI8  (fun M13 t14 hI15 hF16 hq17 => ?_)
  have hF18 : Fr [15, 17, 19, 21] [(16, 3), (18, 3), (20, 3)] M M13 := fr_call hF11 hF16 (by decide) (by decide)
  refine And.intro (by decide) ?_
  refine And.intro (by decide) ?_
  refine And.intro (by decide) ?_
  refine sf_X5_copyFrom__20_70 hI15  (fun M20 t21 hI22 hF23 hq24 => ?_)
  have hF25 : Fr [15, 17, 19, 21] [(16, 3), (18, 3), (20, 3)] M M20 := fr_call hF18 hF23 (by decide) (by decide)
  exact hp _ _ hI22 hF25 trivial
set_option maxHeartbeats 4000000 in
theorem sf_X10_back {post : Int32 → MM → Int64 → Prop} {M : MM} {tl : Int64} {v1 : Int32} (hI : Inv M) (hp : ∀ (r : Int32) (M1 : MM) (t1 : Int64), Inv M1 → Fr [15, 17, 19, 21] [(16, 3), (18, 3), (20, 3)] M M1 → True → post r M1 t1) : wpX10_back post M tl v1 := by
  unfold wpX10_back
  refine ifs (fun hc1 => ?_) (fun hc2 => ?_)
  · skip
    exact hp _ _ _ hI fr_rfl trivial
  · skip
    refine ifs (fun hc3 => ?_) (fun hc4 => ?_)
    · skip
      refine And.intro (vpI (c := 2) (by decide) (by lia) (by lia)) ?_
      refine ifs (fun hc5 => ?_) (fun hc6 => ?_)
      · skip
        exact hp _ _ _ hI fr_rfl trivial
      · skip
        refine And.intro (vpI (c := 2) (by decide) (by lia) (by lia)) ?_
        rcases cs2 (v := v1) (by lia) (by lia) with hs | hs <;> subst hs
        · skip
          refine sf_X7_copyFrom__14_56 hI  (fun M8 t9 hI10 hF11 hq12 => ?_)
          have hF13 : Fr [15, 17, 19, 21] [(16, 3), (18, 3), (20, 3)] M M8 := fr_call fr_rfl hF11 (by decide) (by decide)
          refine sf_X7_countThings__14 hI10  (fun r14 hq15 => ?_)
          exact hp _ _ _ hI10 hF13 trivial
        · skip
          refine sf_X7_copyFrom__14_64 hI  (fun M17 t18 hI19 hF20 hq21 => ?_)
          have hF22 : Fr [15, 17, 19, 21] [(16, 3), (18, 3), (20, 3)] M M17 := fr_call fr_rfl hF20 (by decide) (by decide)
          refine sf_X7_countThings__14 hI19  (fun r23 hq24 => ?_)
          exact hp _ _ _ hI19 hF22 trivial
    · skip
      exact hp _ _ _ hI fr_rfl trivial
set_option maxHeartbeats 4000000 in
theorem sf_X10_isSheet {post : Int32 → MM → Int64 → Prop} {M : MM} {tl : Int64} {v0 : Int32} (hI : Inv M) (hp : ∀ (r : Int32), ((r = 1 ∧ 0 ≤ v0 ∧ v0 < 4) ∨ (r = 0 ∧ ¬ (0 ≤ v0 ∧ v0 < 4))) → post r M tl) : wpX10_isSheet post M tl v0 := by
  unfold wpX10_isSheet
  refine ifs (fun hc1 => ?_) (fun hc2 => ?_)
  · skip
    exact hp _ (by lia)
  · skip
    refine ifs (fun hc3 => ?_) (fun hc4 => ?_)
    · skip
      exact hp _ (by lia)
    · skip
      exact hp _ (by lia)
set_option maxHeartbeats 4000000 in
theorem sf_X10_isLane {post : Int32 → MM → Int64 → Prop} {M : MM} {tl : Int64} {v0 : Int32} (hI : Inv M) (hp : ∀ (r : Int32), ((r = 1 ∧ 0 ≤ v0 ∧ v0 < 3) ∨ (r = 0 ∧ ¬ (0 ≤ v0 ∧ v0 < 3))) → post r M tl) : wpX10_isLane post M tl v0 := by
  unfold wpX10_isLane
  refine ifs (fun hc1 => ?_) (fun hc2 => ?_)
  · skip
    exact hp _ (by lia)
  · skip
    refine ifs (fun hc3 => ?_) (fun hc4 => ?_)
    · skip
      exact hp _ (by lia)
    · skip
      exact hp _ (by lia)
set_option maxHeartbeats 4000000 in
theorem sl_X8_renew_17__73 {post : MM → Int64 → Prop} {Mb : MM} (hp : ∀ (M1 : MM) (t1 : Int64), Inv M1 → Fr [74] [(73, 0), (73, 1)] Mb M1 → True → post M1 t1) : ∀ v3 : Int32, 0 ≤ v3 → v3 ≤ 40 → ∃ n, ∀ (M : MM) (tl : Int64), Inv M → Fr [74] [(73, 0), (73, 1)] Mb M → (True) → wX8_renew_17 post n M tl 73 v3 := by
  refine up_ex (P := fun d v3 => ∀ (M : MM) (tl : Int64), Inv M → Fr [74] [(73, 0), (73, 1)] Mb M → (True) → wX8_renew_17 post d M tl 73 v3) 0 40 ?_
  intro d v3 hlo hhi rec M tl  hI hF hli
  unfold wX8_renew_17
  refine ifs (fun hc1 => ?_) (fun hc2 => ?_)
  · skip
    exact hp _ _ hI hF trivial
  · skip
    refine And.intro (by decide) ?_
    refine And.intro (by decide) ?_
    refine And.intro (vpI (c := 40) (by decide) (by lia) (by lia)) ?_
    intro W3 hW4
    have hI5 : Inv W3 := by rw [hW4]; exact inv_set hI (i_any _)
    have hF6 : Fr [74] [(73, 0), (73, 1)] Mb W3 := by rw [hW4]; exact fr_arr hF (by decide)
    exact rec (by lia) _ _  hI5 hF6 trivial
set_option maxHeartbeats 4000000 in
theorem sf_X8_renew__73 {post : MM → Int64 → Prop} {M : MM} {tl : Int64} {v1 : Int32} {v2 : Int32} (hI : Inv M) (hp1 : 0 ≤ v2) (hp : ∀ (M1 : MM) (t1 : Int64), Inv M1 → Fr [74] [(73, 0), (73, 1)] M M1 → True → post M1 t1) : wpX8_renew post M tl 73 v1 v2 := by
  unfold wpX8_renew
  refine And.intro (by decide) ?_
  intro W1 hW2
  have hI3 : Inv W1 := by rw [hW2]; exact inv_set hI (i_any _)
  have hF4 : Fr [74] [(73, 0), (73, 1)] M W1 := by rw [hW2]; exact fr_fld fr_rfl (by decide)
  have hv5 : W1 73 1 = v1 := by rw [hW2]; exact mset_at _ _ _ _
  refine And.intro (by decide) ?_
  intro W6 hW7
  have hI8 : Inv W6 := by rw [hW7]; exact inv_set hI3 (show (-1) ≤ (if (40 : Int32) < v2 then (40 : Int32) else v2) ∧ (if (40 : Int32) < v2 then (40 : Int32) else v2) ≤ 40 from ⟨by lia, by lia⟩)
  have hF9 : Fr [74] [(73, 0), (73, 1)] M W6 := by rw [hW7]; exact fr_fld hF4 (by decide)
  have hv10 : W6 73 0 = (if (40 : Int32) < v2 then (40 : Int32) else v2) := by rw [hW7]; exact mset_at _ _ _ _
  obtain ⟨n11, hn12⟩ := sl_X8_renew_17__73 (Mb := M) hp  (0 : Int32) (by lia) (by lia)
  exact ⟨n11, hn12 _ _  hI8 hF9 trivial⟩
set_option maxHeartbeats 4000000 in
theorem sl_X8_renew_17__75 {post : MM → Int64 → Prop} {Mb : MM} (hp : ∀ (M1 : MM) (t1 : Int64), Inv M1 → Fr [76] [(75, 0), (75, 1)] Mb M1 → True → post M1 t1) : ∀ v3 : Int32, 0 ≤ v3 → v3 ≤ 40 → ∃ n, ∀ (M : MM) (tl : Int64), Inv M → Fr [76] [(75, 0), (75, 1)] Mb M → (True) → wX8_renew_17 post n M tl 75 v3 := by
  refine up_ex (P := fun d v3 => ∀ (M : MM) (tl : Int64), Inv M → Fr [76] [(75, 0), (75, 1)] Mb M → (True) → wX8_renew_17 post d M tl 75 v3) 0 40 ?_
  intro d v3 hlo hhi rec M tl  hI hF hli
  unfold wX8_renew_17
  refine ifs (fun hc1 => ?_) (fun hc2 => ?_)
  · skip
    exact hp _ _ hI hF trivial
  · skip
    refine And.intro (by decide) ?_
    refine And.intro (by decide) ?_
    refine And.intro (vpI (c := 40) (by decide) (by lia) (by lia)) ?_
    intro W3 hW4
    have hI5 : Inv W3 := by rw [hW4]; exact inv_set hI (i_any _)
    have hF6 : Fr [76] [(75, 0), (75, 1)] Mb W3 := by rw [hW4]; exact fr_arr hF (by decide)
    exact rec (by lia) _ _  hI5 hF6 trivial
set_option maxHeartbeats 4000000 in
theorem sf_X8_renew__75 {post : MM → Int64 → Prop} {M : MM} {tl : Int64} {v1 : Int32} {v2 : Int32} (hI : Inv M) (hp1 : 0 ≤ v2) (hp : ∀ (M1 : MM) (t1 : Int64), Inv M1 → Fr [76] [(75, 0), (75, 1)] M M1 → True → post M1 t1) : wpX8_renew post M tl 75 v1 v2 := by
  unfold wpX8_renew
  refine And.intro (by decide) ?_
  intro W1 hW2
  have hI3 : Inv W1 := by rw [hW2]; exact inv_set hI (i_any _)
  have hF4 : Fr [76] [(75, 0), (75, 1)] M W1 := by rw [hW2]; exact fr_fld fr_rfl (by decide)
  have hv5 : W1 75 1 = v1 := by rw [hW2]; exact mset_at _ _ _ _
  refine And.intro (by decide) ?_
  intro W6 hW7
  have hI8 : Inv W6 := by rw [hW7]; exact inv_set hI3 (show (-1) ≤ (if (40 : Int32) < v2 then (40 : Int32) else v2) ∧ (if (40 : Int32) < v2 then (40 : Int32) else v2) ≤ 40 from ⟨by lia, by lia⟩)
  have hF9 : Fr [76] [(75, 0), (75, 1)] M W6 := by rw [hW7]; exact fr_fld hF4 (by decide)
  have hv10 : W6 75 0 = (if (40 : Int32) < v2 then (40 : Int32) else v2) := by rw [hW7]; exact mset_at _ _ _ _
  obtain ⟨n11, hn12⟩ := sl_X8_renew_17__75 (Mb := M) hp  (0 : Int32) (by lia) (by lia)
  exact ⟨n11, hn12 _ _  hI8 hF9 trivial⟩
set_option maxHeartbeats 4000000 in
theorem sl_X8_renew_17__77 {post : MM → Int64 → Prop} {Mb : MM} (hp : ∀ (M1 : MM) (t1 : Int64), Inv M1 → Fr [78] [(77, 0), (77, 1)] Mb M1 → True → post M1 t1) : ∀ v3 : Int32, 0 ≤ v3 → v3 ≤ 40 → ∃ n, ∀ (M : MM) (tl : Int64), Inv M → Fr [78] [(77, 0), (77, 1)] Mb M → (True) → wX8_renew_17 post n M tl 77 v3 := by
  refine up_ex (P := fun d v3 => ∀ (M : MM) (tl : Int64), Inv M → Fr [78] [(77, 0), (77, 1)] Mb M → (True) → wX8_renew_17 post d M tl 77 v3) 0 40 ?_
  intro d v3 hlo hhi rec M tl  hI hF hli
  unfold wX8_renew_17
  refine ifs (fun hc1 => ?_) (fun hc2 => ?_)
  · skip
    exact hp _ _ hI hF trivial
  · skip
    refine And.intro (by decide) ?_
    refine And.intro (by decide) ?_
    refine And.intro (vpI (c := 40) (by decide) (by lia) (by lia)) ?_
    intro W3 hW4
    have hI5 : Inv W3 := by rw [hW4]; exact inv_set hI (i_any _)
    have hF6 : Fr [78] [(77, 0), (77, 1)] Mb W3 := by rw [hW4]; exact fr_arr hF (by decide)
    exact rec (by lia) _ _  hI5 hF6 trivial
set_option maxHeartbeats 4000000 in
theorem sf_X8_renew__77 {post : MM → Int64 → Prop} {M : MM} {tl : Int64} {v1 : Int32} {v2 : Int32} (hI : Inv M) (hp1 : 0 ≤ v2) (hp : ∀ (M1 : MM) (t1 : Int64), Inv M1 → Fr [78] [(77, 0), (77, 1)] M M1 → True → post M1 t1) : wpX8_renew post M tl 77 v1 v2 := by
  unfold wpX8_renew
  refine And.intro (by decide) ?_
  intro W1 hW2
  have hI3 : Inv W1 := by rw [hW2]; exact inv_set hI (i_any _)
  have hF4 : Fr [78] [(77, 0), (77, 1)] M W1 := by rw [hW2]; exact fr_fld fr_rfl (by decide)
  have hv5 : W1 77 1 = v1 := by rw [hW2]; exact mset_at _ _ _ _
  refine And.intro (by decide) ?_
  intro W6 hW7
  have hI8 : Inv W6 := by rw [hW7]; exact inv_set hI3 (show (-1) ≤ (if (40 : Int32) < v2 then (40 : Int32) else v2) ∧ (if (40 : Int32) < v2 then (40 : Int32) else v2) ≤ 40 from ⟨by lia, by lia⟩)
  have hF9 : Fr [78] [(77, 0), (77, 1)] M W6 := by rw [hW7]; exact fr_fld hF4 (by decide)
  have hv10 : W6 77 0 = (if (40 : Int32) < v2 then (40 : Int32) else v2) := by rw [hW7]; exact mset_at _ _ _ _
  obtain ⟨n11, hn12⟩ := sl_X8_renew_17__77 (Mb := M) hp  (0 : Int32) (by lia) (by lia)
  exact ⟨n11, hn12 _ _  hI8 hF9 trivial⟩
set_option maxHeartbeats 4000000 in
theorem sl_X8_renew_17__79 {post : MM → Int64 → Prop} {Mb : MM} (hp : ∀ (M1 : MM) (t1 : Int64), Inv M1 → Fr [80] [(79, 0), (79, 1)] Mb M1 → True → post M1 t1) : ∀ v3 : Int32, 0 ≤ v3 → v3 ≤ 40 → ∃ n, ∀ (M : MM) (tl : Int64), Inv M → Fr [80] [(79, 0), (79, 1)] Mb M → (True) → wX8_renew_17 post n M tl 79 v3 := by
  refine up_ex (P := fun d v3 => ∀ (M : MM) (tl : Int64), Inv M → Fr [80] [(79, 0), (79, 1)] Mb M → (True) → wX8_renew_17 post d M tl 79 v3) 0 40 ?_
  intro d v3 hlo hhi rec M tl  hI hF hli
  unfold wX8_renew_17
  refine ifs (fun hc1 => ?_) (fun hc2 => ?_)
  · skip
    exact hp _ _ hI hF trivial
  · skip
    refine And.intro (by decide) ?_
    refine And.intro (by decide) ?_
    refine And.intro (vpI (c := 40) (by decide) (by lia) (by lia)) ?_
    intro W3 hW4
    have hI5 : Inv W3 := by rw [hW4]; exact inv_set hI (i_any _)
    have hF6 : Fr [80] [(79, 0), (79, 1)] Mb W3 := by rw [hW4]; exact fr_arr hF (by decide)
    exact rec (by lia) _ _  hI5 hF6 trivial
set_option maxHeartbeats 4000000 in
theorem sf_X8_renew__79 {post : MM → Int64 → Prop} {M : MM} {tl : Int64} {v1 : Int32} {v2 : Int32} (hI : Inv M) (hp1 : 0 ≤ v2) (hp : ∀ (M1 : MM) (t1 : Int64), Inv M1 → Fr [80] [(79, 0), (79, 1)] M M1 → True → post M1 t1) : wpX8_renew post M tl 79 v1 v2 := by
  unfold wpX8_renew
  refine And.intro (by decide) ?_
  intro W1 hW2
  have hI3 : Inv W1 := by rw [hW2]; exact inv_set hI (i_any _)
  have hF4 : Fr [80] [(79, 0), (79, 1)] M W1 := by rw [hW2]; exact fr_fld fr_rfl (by decide)
  have hv5 : W1 79 1 = v1 := by rw [hW2]; exact mset_at _ _ _ _
  refine And.intro (by decide) ?_
  intro W6 hW7
  have hI8 : Inv W6 := by rw [hW7]; exact inv_set hI3 (show (-1) ≤ (if (40 : Int32) < v2 then (40 : Int32) else v2) ∧ (if (40 : Int32) < v2 then (40 : Int32) else v2) ≤ 40 from ⟨by lia, by lia⟩)
  have hF9 : Fr [80] [(79, 0), (79, 1)] M W6 := by rw [hW7]; exact fr_fld hF4 (by decide)
  have hv10 : W6 79 0 = (if (40 : Int32) < v2 then (40 : Int32) else v2) := by rw [hW7]; exact mset_at _ _ _ _
  obtain ⟨n11, hn12⟩ := sl_X8_renew_17__79 (Mb := M) hp  (0 : Int32) (by lia) (by lia)
  exact ⟨n11, hn12 _ _  hI8 hF9 trivial⟩
set_option maxHeartbeats 4000000 in
theorem sf_X10_sheet {post : Int32 → MM → Int64 → Prop} {M : MM} {tl : Int64} {v1 : Int32} {v2 : Int32} {v3 : Int32} (hI : Inv M) (hp : ∀ (r : Int32) (M1 : MM) (t1 : Int64), Inv M1 → Fr [74, 76, 78, 80] [(73, 0), (73, 1), (75, 0), (75, 1), (77, 0), (77, 1), (79, 0), (79, 1)] M M1 → ((r = -1 ∧ ¬ (0 ≤ v1 ∧ v1 < 4 ∧ 0 ≤ v2 ∧ v2 < 3 ∧ v3 ≤ 40)) ∨ (r = -14 ∧ (0 ≤ v1 ∧ v1 < 4 ∧ 0 ≤ v2 ∧ v2 < 3) ∧ v3 < 0) ∨ (r = 1 ∧ (0 ≤ v1 ∧ v1 < 4 ∧ 0 ≤ v2 ∧ v2 < 3) ∧ 0 ≤ v3 ∧ v3 ≤ 40)) → post r M1 t1) : wpX10_sheet post M tl v1 v2 v3 := by
  unfold wpX10_sheet
  refine sf_X10_isSheet hI  (fun r1 hq2 => ?_)
  refine ifs (fun hc3 => ?_) (fun hc4 => ?_)
  · skip
    exact hp _ _ _ hI fr_rfl (by lia)
  · skip
    refine sf_X10_isLane hI  (fun r5 hq6 => ?_)
    refine ifs (fun hc7 => ?_) (fun hc8 => ?_)
    · skip
      exact hp _ _ _ hI fr_rfl (by lia)
    · skip
      refine ifs (fun hc9 => ?_) (fun hc10 => ?_)
      · skip
        refine ifs (fun hc11 => ?_) (fun hc12 => ?_)
        · skip
          refine And.intro (vpI (c := 4) (by decide) (by lia) (by lia)) ?_
          rcases cs4 (v := v1) (by lia) (by lia) with hs | hs | hs | hs <;> subst hs
          · skip
            refine And.intro (by decide) ?_
            refine sf_X8_renew__73 hI (by lia) (fun M14 t15 hI16 hF17 hq18 => ?_)
            have hF19 : Fr [74, 76, 78, 80] [(73, 0), (73, 1), (75, 0), (75, 1), (77, 0), (77, 1), (79, 0), (79, 1)] M M14 := fr_call fr_rfl hF17 (by decide) (by decide)
            exact hp _ _ _ hI16 hF19 (by lia)
          · skip
            refine And.intro (by decide) ?_
            refine sf_X8_renew__75 hI (by lia) (fun M21 t22 hI23 hF24 hq25 => ?_)
            have hF26 : Fr [74, 76, 78, 80] [(73, 0), (73, 1), (75, 0), (75, 1), (77, 0), (77, 1), (79, 0), (79, 1)] M M21 := fr_call fr_rfl hF24 (by decide) (by decide)
            exact hp _ _ _ hI23 hF26 (by lia)
          · skip
            refine And.intro (by decide) ?_
            refine sf_X8_renew__77 hI (by lia) (fun M28 t29 hI30 hF31 hq32 => ?_)
            have hF33 : Fr [74, 76, 78, 80] [(73, 0), (73, 1), (75, 0), (75, 1), (77, 0), (77, 1), (79, 0), (79, 1)] M M28 := fr_call fr_rfl hF31 (by decide) (by decide)
            exact hp _ _ _ hI30 hF33 (by lia)
          · skip
            refine And.intro (by decide) ?_
            refine sf_X8_renew__79 hI (by lia) (fun M35 t36 hI37 hF38 hq39 => ?_)
            have hF40 : Fr [74, 76, 78, 80] [(73, 0), (73, 1), (75, 0), (75, 1), (77, 0), (77, 1), (79, 0), (79, 1)] M M35 := fr_call fr_rfl hF38 (by decide) (by decide)
            exact hp _ _ _ hI37 hF40 (by lia)
        · skip
          exact hp _ _ _ hI fr_rfl (by lia)
      · skip
        exact hp _ _ _ hI fr_rfl (by lia)
set_option maxHeartbeats 4000000 in
theorem sf_X8_faultAt__73 {post : Int32 → MM → Int64 → Prop} {M : MM} {tl : Int64} {v1 : Int32} (hI : Inv M) (hp : ∀ (r : Int32), (r = 0 → 0 ≤ v1 ∧ v1 < 40) → post r M tl) : wpX8_faultAt post M tl 73 v1 := by
  unfold wpX8_faultAt
  refine And.intro (by decide) ?_
  have hr1 := iv_73_0 hI
  refine ifs (fun hc2 => ?_) (fun hc3 => ?_)
  · skip
    refine ifs (fun hc4 => ?_) (fun hc5 => ?_)
    · skip
      exact hp _ (by lia)
    · skip
      refine And.intro (by decide) ?_
      refine ifs (fun hc6 => ?_) (fun hc7 => ?_)
      · skip
        exact hp _ (by lia)
      · skip
        exact hp _ (by lia)
  · skip
    exact hp _ (by lia)
set_option maxHeartbeats 4000000 in
theorem sf_X8_setCell__73 {post : MM → Int64 → Prop} {M : MM} {tl : Int64} {v1 : Int32} {v2 : Int32} (hI : Inv M) (hp : ∀ (M1 : MM) (t1 : Int64), Inv M1 → Fr [74] [] M M1 → True → post M1 t1) : wpX8_setCell post M tl 73 v1 v2 := by
  unfold wpX8_setCell
  refine And.intro (by decide) ?_
  refine sf_X8_faultAt__73 hI  (fun r1 hq2 => ?_)
  refine ifs (fun hc3 => ?_) (fun hc4 => ?_)
  · skip
    refine And.intro (by decide) ?_
    refine And.intro (by decide) ?_
    refine ifs (fun hc5 => ?_) (fun hc6 => ?_)
    · skip
      unfold wX8_setCell_39
      refine And.intro (by decide) ?_
      refine And.intro (vpI (c := 40) (by decide) (by lia) (by lia)) ?_
      intro W7 hW8
      have hI9 : Inv W7 := by rw [hW8]; exact inv_set hI (i_any _)
      have hF10 : Fr [74] [] M W7 := by rw [hW8]; exact fr_arr fr_rfl (by decide)
      exact hp _ _ hI9 hF10 trivial
    · skip
      refine And.intro (by decide) ?_
      refine ifs (fun hc11 => ?_) (fun hc12 => ?_)
      · skip
        unfold wX8_setCell_39
        refine And.intro (by decide) ?_
        refine And.intro (vpI (c := 40) (by decide) (by lia) (by lia)) ?_
        intro W13 hW14
        have hI15 : Inv W13 := by rw [hW14]; exact inv_set hI (i_any _)
        have hF16 : Fr [74] [] M W13 := by rw [hW14]; exact fr_arr fr_rfl (by decide)
        exact hp _ _ hI15 hF16 trivial
      · skip
        unfold wX8_setCell_39
        refine And.intro (by decide) ?_
        refine And.intro (vpI (c := 40) (by decide) (by lia) (by lia)) ?_
        intro W17 hW18
        have hI19 : Inv W17 := by rw [hW18]; exact inv_set hI (i_any _)
        have hF20 : Fr [74] [] M W17 := by rw [hW18]; exact fr_arr fr_rfl (by decide)
        exact hp _ _ hI19 hF20 trivial
  · skip
    exact hp _ _ hI fr_rfl trivial
set_option maxHeartbeats 4000000 in
theorem sf_X8_faultAt__75 {post : Int32 → MM → Int64 → Prop} {M : MM} {tl : Int64} {v1 : Int32} (hI : Inv M) (hp : ∀ (r : Int32), (r = 0 → 0 ≤ v1 ∧ v1 < 40) → post r M tl) : wpX8_faultAt post M tl 75 v1 := by
  unfold wpX8_faultAt
  refine And.intro (by decide) ?_
  have hr1 := iv_75_0 hI
  refine ifs (fun hc2 => ?_) (fun hc3 => ?_)
  · skip
    refine ifs (fun hc4 => ?_) (fun hc5 => ?_)
    · skip
      exact hp _ (by lia)
    · skip
      refine And.intro (by decide) ?_
      refine ifs (fun hc6 => ?_) (fun hc7 => ?_)
      · skip
        exact hp _ (by lia)
      · skip
        exact hp _ (by lia)
  · skip
    exact hp _ (by lia)
set_option maxHeartbeats 4000000 in
theorem sf_X8_setCell__75 {post : MM → Int64 → Prop} {M : MM} {tl : Int64} {v1 : Int32} {v2 : Int32} (hI : Inv M) (hp : ∀ (M1 : MM) (t1 : Int64), Inv M1 → Fr [76] [] M M1 → True → post M1 t1) : wpX8_setCell post M tl 75 v1 v2 := by
  unfold wpX8_setCell
  refine And.intro (by decide) ?_
  refine sf_X8_faultAt__75 hI  (fun r1 hq2 => ?_)
  refine ifs (fun hc3 => ?_) (fun hc4 => ?_)
  · skip
    refine And.intro (by decide) ?_
    refine And.intro (by decide) ?_
    refine ifs (fun hc5 => ?_) (fun hc6 => ?_)
    · skip
      unfold wX8_setCell_39
      refine And.intro (by decide) ?_
      refine And.intro (vpI (c := 40) (by decide) (by lia) (by lia)) ?_
      intro W7 hW8
      have hI9 : Inv W7 := by rw [hW8]; exact inv_set hI (i_any _)
      have hF10 : Fr [76] [] M W7 := by rw [hW8]; exact fr_arr fr_rfl (by decide)
      exact hp _ _ hI9 hF10 trivial
    · skip
      refine And.intro (by decide) ?_
      refine ifs (fun hc11 => ?_) (fun hc12 => ?_)
      · skip
        unfold wX8_setCell_39
        refine And.intro (by decide) ?_
        refine And.intro (vpI (c := 40) (by decide) (by lia) (by lia)) ?_
        intro W13 hW14
        have hI15 : Inv W13 := by rw [hW14]; exact inv_set hI (i_any _)
        have hF16 : Fr [76] [] M W13 := by rw [hW14]; exact fr_arr fr_rfl (by decide)
        exact hp _ _ hI15 hF16 trivial
      · skip
        unfold wX8_setCell_39
        refine And.intro (by decide) ?_
        refine And.intro (vpI (c := 40) (by decide) (by lia) (by lia)) ?_
        intro W17 hW18
        have hI19 : Inv W17 := by rw [hW18]; exact inv_set hI (i_any _)
        have hF20 : Fr [76] [] M W17 := by rw [hW18]; exact fr_arr fr_rfl (by decide)
        exact hp _ _ hI19 hF20 trivial
  · skip
    exact hp _ _ hI fr_rfl trivial
set_option maxHeartbeats 4000000 in
theorem sf_X8_faultAt__77 {post : Int32 → MM → Int64 → Prop} {M : MM} {tl : Int64} {v1 : Int32} (hI : Inv M) (hp : ∀ (r : Int32), (r = 0 → 0 ≤ v1 ∧ v1 < 40) → post r M tl) : wpX8_faultAt post M tl 77 v1 := by
  unfold wpX8_faultAt
  refine And.intro (by decide) ?_
  have hr1 := iv_77_0 hI
  refine ifs (fun hc2 => ?_) (fun hc3 => ?_)
  · skip
    refine ifs (fun hc4 => ?_) (fun hc5 => ?_)
    · skip
      exact hp _ (by lia)
    · skip
      refine And.intro (by decide) ?_
      refine ifs (fun hc6 => ?_) (fun hc7 => ?_)
      · skip
        exact hp _ (by lia)
      · skip
        exact hp _ (by lia)
  · skip
    exact hp _ (by lia)
set_option maxHeartbeats 4000000 in
theorem sf_X8_setCell__77 {post : MM → Int64 → Prop} {M : MM} {tl : Int64} {v1 : Int32} {v2 : Int32} (hI : Inv M) (hp : ∀ (M1 : MM) (t1 : Int64), Inv M1 → Fr [78] [] M M1 → True → post M1 t1) : wpX8_setCell post M tl 77 v1 v2 := by
  unfold wpX8_setCell
  refine And.intro (by decide) ?_
  refine sf_X8_faultAt__77 hI  (fun r1 hq2 => ?_)
  refine ifs (fun hc3 => ?_) (fun hc4 => ?_)
  · skip
    refine And.intro (by decide) ?_
    refine And.intro (by decide) ?_
    refine ifs (fun hc5 => ?_) (fun hc6 => ?_)
    · skip
      unfold wX8_setCell_39
      refine And.intro (by decide) ?_
      refine And.intro (vpI (c := 40) (by decide) (by lia) (by lia)) ?_
      intro W7 hW8
      have hI9 : Inv W7 := by rw [hW8]; exact inv_set hI (i_any _)
      have hF10 : Fr [78] [] M W7 := by rw [hW8]; exact fr_arr fr_rfl (by decide)
      exact hp _ _ hI9 hF10 trivial
    · skip
      refine And.intro (by decide) ?_
      refine ifs (fun hc11 => ?_) (fun hc12 => ?_)
      · skip
        unfold wX8_setCell_39
        refine And.intro (by decide) ?_
        refine And.intro (vpI (c := 40) (by decide) (by lia) (by lia)) ?_
        intro W13 hW14
        have hI15 : Inv W13 := by rw [hW14]; exact inv_set hI (i_any _)
        have hF16 : Fr [78] [] M W13 := by rw [hW14]; exact fr_arr fr_rfl (by decide)
        exact hp _ _ hI15 hF16 trivial
      · skip
        unfold wX8_setCell_39
        refine And.intro (by decide) ?_
        refine And.intro (vpI (c := 40) (by decide) (by lia) (by lia)) ?_
        intro W17 hW18
        have hI19 : Inv W17 := by rw [hW18]; exact inv_set hI (i_any _)
        have hF20 : Fr [78] [] M W17 := by rw [hW18]; exact fr_arr fr_rfl (by decide)
        exact hp _ _ hI19 hF20 trivial
  · skip
    exact hp _ _ hI fr_rfl trivial
set_option maxHeartbeats 4000000 in
theorem sf_X8_faultAt__79 {post : Int32 → MM → Int64 → Prop} {M : MM} {tl : Int64} {v1 : Int32} (hI : Inv M) (hp : ∀ (r : Int32), (r = 0 → 0 ≤ v1 ∧ v1 < 40) → post r M tl) : wpX8_faultAt post M tl 79 v1 := by
  unfold wpX8_faultAt
  refine And.intro (by decide) ?_
  have hr1 := iv_79_0 hI
  refine ifs (fun hc2 => ?_) (fun hc3 => ?_)
  · skip
    refine ifs (fun hc4 => ?_) (fun hc5 => ?_)
    · skip
      exact hp _ (by lia)
    · skip
      refine And.intro (by decide) ?_
      refine ifs (fun hc6 => ?_) (fun hc7 => ?_)
      · skip
        exact hp _ (by lia)
      · skip
        exact hp _ (by lia)
  · skip
    exact hp _ (by lia)
set_option maxHeartbeats 4000000 in
theorem sf_X8_setCell__79 {post : MM → Int64 → Prop} {M : MM} {tl : Int64} {v1 : Int32} {v2 : Int32} (hI : Inv M) (hp : ∀ (M1 : MM) (t1 : Int64), Inv M1 → Fr [80] [] M M1 → True → post M1 t1) : wpX8_setCell post M tl 79 v1 v2 := by
  unfold wpX8_setCell
  refine And.intro (by decide) ?_
  refine sf_X8_faultAt__79 hI  (fun r1 hq2 => ?_)
  refine ifs (fun hc3 => ?_) (fun hc4 => ?_)
  · skip
    refine And.intro (by decide) ?_
    refine And.intro (by decide) ?_
    refine ifs (fun hc5 => ?_) (fun hc6 => ?_)
    · skip
      unfold wX8_setCell_39
      refine And.intro (by decide) ?_
      refine And.intro (vpI (c := 40) (by decide) (by lia) (by lia)) ?_
      intro W7 hW8
      have hI9 : Inv W7 := by rw [hW8]; exact inv_set hI (i_any _)
      have hF10 : Fr [80] [] M W7 := by rw [hW8]; exact fr_arr fr_rfl (by decide)
      exact hp _ _ hI9 hF10 trivial
    · skip
      refine And.intro (by decide) ?_
      refine ifs (fun hc11 => ?_) (fun hc12 => ?_)
      · skip
        unfold wX8_setCell_39
        refine And.intro (by decide) ?_
        refine And.intro (vpI (c := 40) (by decide) (by lia) (by lia)) ?_
        intro W13 hW14
        have hI15 : Inv W13 := by rw [hW14]; exact inv_set hI (i_any _)
        have hF16 : Fr [80] [] M W13 := by rw [hW14]; exact fr_arr fr_rfl (by decide)
        exact hp _ _ hI15 hF16 trivial
      · skip
        unfold wX8_setCell_39
        refine And.intro (by decide) ?_
        refine And.intro (vpI (c := 40) (by decide) (by lia) (by lia)) ?_
        intro W17 hW18
        have hI19 : Inv W17 := by rw [hW18]; exact inv_set hI (i_any _)
        have hF20 : Fr [80] [] M W17 := by rw [hW18]; exact fr_arr fr_rfl (by decide)
        exact hp _ _ hI19 hF20 trivial
  · skip
    exact hp _ _ hI fr_rfl trivial
set_option maxHeartbeats 4000000 in
theorem sf_X10_lay {post : Int32 → MM → Int64 → Prop} {M : MM} {tl : Int64} {v1 : Int32} {v2 : Int32} {v3 : Int32} (hI : Inv M) (hp : ∀ (r : Int32) (M1 : MM) (t1 : Int64), Inv M1 → Fr [74, 76, 78, 80] [] M M1 → True → post r M1 t1) : wpX10_lay post M tl v1 v2 v3 := by
  unfold wpX10_lay
  refine sf_X10_isSheet hI  (fun r1 hq2 => ?_)
  refine ifs (fun hc3 => ?_) (fun hc4 => ?_)
  · skip
    exact hp _ _ _ hI fr_rfl trivial
  · skip
    refine And.intro (vpI (c := 4) (by decide) (by lia) (by lia)) ?_
    rcases cs4 (v := v1) (by lia) (by lia) with hs | hs | hs | hs <;> subst hs
    · skip
      refine And.intro (by decide) ?_
      refine sf_X8_faultAt__73 hI  (fun r5 hq6 => ?_)
      refine ifs (fun hc7 => ?_) (fun hc8 => ?_)
      · skip
        refine And.intro (vpI (c := 4) (by decide) (by lia) (by lia)) ?_
        refine And.intro (by decide) ?_
        refine sf_X8_setCell__73 hI  (fun M10 t11 hI12 hF13 hq14 => ?_)
        have hF15 : Fr [74, 76, 78, 80] [] M M10 := fr_call fr_rfl hF13 (by decide) (by decide)
        exact hp _ _ _ hI12 hF15 trivial
      · skip
        exact hp _ _ _ hI fr_rfl trivial
    · skip
      refine And.intro (by decide) ?_
      refine sf_X8_faultAt__75 hI  (fun r16 hq17 => ?_)
      refine ifs (fun hc18 => ?_) (fun hc19 => ?_)
      · skip
        refine And.intro (vpI (c := 4) (by decide) (by lia) (by lia)) ?_
        refine And.intro (by decide) ?_
        refine sf_X8_setCell__75 hI  (fun M21 t22 hI23 hF24 hq25 => ?_)
        have hF26 : Fr [74, 76, 78, 80] [] M M21 := fr_call fr_rfl hF24 (by decide) (by decide)
        exact hp _ _ _ hI23 hF26 trivial
      · skip
        exact hp _ _ _ hI fr_rfl trivial
    · skip
      refine And.intro (by decide) ?_
      refine sf_X8_faultAt__77 hI  (fun r27 hq28 => ?_)
      refine ifs (fun hc29 => ?_) (fun hc30 => ?_)
      · skip
        refine And.intro (vpI (c := 4) (by decide) (by lia) (by lia)) ?_
        refine And.intro (by decide) ?_
        refine sf_X8_setCell__77 hI  (fun M32 t33 hI34 hF35 hq36 => ?_)
        have hF37 : Fr [74, 76, 78, 80] [] M M32 := fr_call fr_rfl hF35 (by decide) (by decide)
        exact hp _ _ _ hI34 hF37 trivial
      · skip
        exact hp _ _ _ hI fr_rfl trivial
    · skip
      refine And.intro (by decide) ?_
      refine sf_X8_faultAt__79 hI  (fun r38 hq39 => ?_)
      refine ifs (fun hc40 => ?_) (fun hc41 => ?_)
      · skip
        refine And.intro (vpI (c := 4) (by decide) (by lia) (by lia)) ?_
        refine And.intro (by decide) ?_
        refine sf_X8_setCell__79 hI  (fun M43 t44 hI45 hF46 hq47 => ?_)
        have hF48 : Fr [74, 76, 78, 80] [] M M43 := fr_call fr_rfl hF46 (by decide) (by decide)
        exact hp _ _ _ hI45 hF48 trivial
      · skip
        exact hp _ _ _ hI fr_rfl trivial
set_option maxHeartbeats 4000000 in
theorem sf_X8_wholeThings__73 {post : Int32 → MM → Int64 → Prop} {M : MM} {tl : Int64} {v1 : Int32} {v2 : Int32} {v3 : Int32} (hI : Inv M) (hp : ∀ (r : Int32), (r ≤ v3 ∨ r ≤ 13) → post r M tl) : wpX8_wholeThings post M tl 73 v1 v2 v3 := by
  unfold wpX8_wholeThings
  refine And.intro (by decide) ?_
  have hr1 := iv_73_0 hI
  refine ifs (fun hc2 => ?_) (fun hc3 => ?_)
  · skip
    exact hp _ (by lia)
  · skip
    refine And.intro (by decide) ?_
    refine ifs (fun hc4 => ?_) (fun hc5 => ?_)
    · skip
      refine ifs (fun hc6 => ?_) (fun hc7 => ?_)
      · skip
        exact hp _ (by lia)
      · skip
        refine And.intro (by decide) ?_
        refine ifs (fun hc8 => ?_) (fun hc9 => ?_)
        · skip
          refine And.intro (by decide) ?_
          exact hp _ (by lia)
        · skip
          exact hp _ (by lia)
    · skip
      exact hp _ (by lia)
set_option maxHeartbeats 4000000 in
theorem sf_X8_faultOfReading__73 {post : Int32 → MM → Int64 → Prop} {M : MM} {tl : Int64} {v1 : Int32} {v2 : Int32} {v3 : Int32} (hI : Inv M) (hp : ∀ (r : Int32), True → post r M tl) : wpX8_faultOfReading post M tl 73 v1 v2 v3 := by
  unfold wpX8_faultOfReading
  refine And.intro (by decide) ?_
  refine sf_X8_wholeThings__73 hI  (fun r1 hq2 => ?_)
  refine ifs (fun hc3 => ?_) (fun hc4 => ?_)
  · skip
    refine And.intro (by decide) ?_
    have hr5 := iv_73_0 hI
    refine ifs (fun hc6 => ?_) (fun hc7 => ?_)
    · skip
      refine And.intro (by decide) ?_
      refine ifs (fun hc8 => ?_) (fun hc9 => ?_)
      · skip
        exact hp _ trivial
      · skip
        exact hp _ trivial
    · skip
      exact hp _ trivial
  · skip
    exact hp _ trivial
set_option maxHeartbeats 4000000 in
theorem sf_X8_cell__73 {post : Int32 → MM → Int64 → Prop} {M : MM} {tl : Int64} {v1 : Int32} (hI : Inv M) (hp : ∀ (r : Int32), True → post r M tl) : wpX8_cell post M tl 73 v1 := by
  unfold wpX8_cell
  refine And.intro (by decide) ?_
  refine sf_X8_faultAt__73 hI  (fun r1 hq2 => ?_)
  refine ifs (fun hc3 => ?_) (fun hc4 => ?_)
  · skip
    refine And.intro (by decide) ?_
    refine And.intro (by decide) ?_
    refine And.intro (vpI (c := 40) (by decide) (by lia) (by lia)) ?_
    exact hp _ trivial
  · skip
    exact hp _ trivial
set_option maxHeartbeats 4000000 in
theorem sf_X8_wholeThings__75 {post : Int32 → MM → Int64 → Prop} {M : MM} {tl : Int64} {v1 : Int32} {v2 : Int32} {v3 : Int32} (hI : Inv M) (hp : ∀ (r : Int32), (r ≤ v3 ∨ r ≤ 13) → post r M tl) : wpX8_wholeThings post M tl 75 v1 v2 v3 := by
  unfold wpX8_wholeThings
  refine And.intro (by decide) ?_
  have hr1 := iv_75_0 hI
  refine ifs (fun hc2 => ?_) (fun hc3 => ?_)
  · skip
    exact hp _ (by lia)
  · skip
    refine And.intro (by decide) ?_
    refine ifs (fun hc4 => ?_) (fun hc5 => ?_)
    · skip
      refine ifs (fun hc6 => ?_) (fun hc7 => ?_)
      · skip
        exact hp _ (by lia)
      · skip
        refine And.intro (by decide) ?_
        refine ifs (fun hc8 => ?_) (fun hc9 => ?_)
        · skip
          refine And.intro (by decide) ?_
          exact hp _ (by lia)
        · skip
          exact hp _ (by lia)
    · skip
      exact hp _ (by lia)
set_option maxHeartbeats 4000000 in
theorem sf_X8_faultOfReading__75 {post : Int32 → MM → Int64 → Prop} {M : MM} {tl : Int64} {v1 : Int32} {v2 : Int32} {v3 : Int32} (hI : Inv M) (hp : ∀ (r : Int32), True → post r M tl) : wpX8_faultOfReading post M tl 75 v1 v2 v3 := by
  unfold wpX8_faultOfReading
  refine And.intro (by decide) ?_
  refine sf_X8_wholeThings__75 hI  (fun r1 hq2 => ?_)
  refine ifs (fun hc3 => ?_) (fun hc4 => ?_)
  · skip
    refine And.intro (by decide) ?_
    have hr5 := iv_75_0 hI
    refine ifs (fun hc6 => ?_) (fun hc7 => ?_)
    · skip
      refine And.intro (by decide) ?_
      refine ifs (fun hc8 => ?_) (fun hc9 => ?_)
      · skip
        exact hp _ trivial
      · skip
        exact hp _ trivial
    · skip
      exact hp _ trivial
  · skip
    exact hp _ trivial
set_option maxHeartbeats 4000000 in
theorem sf_X8_cell__75 {post : Int32 → MM → Int64 → Prop} {M : MM} {tl : Int64} {v1 : Int32} (hI : Inv M) (hp : ∀ (r : Int32), True → post r M tl) : wpX8_cell post M tl 75 v1 := by
  unfold wpX8_cell
  refine And.intro (by decide) ?_
  refine sf_X8_faultAt__75 hI  (fun r1 hq2 => ?_)
  refine ifs (fun hc3 => ?_) (fun hc4 => ?_)
  · skip
    refine And.intro (by decide) ?_
    refine And.intro (by decide) ?_
    refine And.intro (vpI (c := 40) (by decide) (by lia) (by lia)) ?_
    exact hp _ trivial
  · skip
    exact hp _ trivial
set_option maxHeartbeats 4000000 in
theorem sf_X8_wholeThings__77 {post : Int32 → MM → Int64 → Prop} {M : MM} {tl : Int64} {v1 : Int32} {v2 : Int32} {v3 : Int32} (hI : Inv M) (hp : ∀ (r : Int32), (r ≤ v3 ∨ r ≤ 13) → post r M tl) : wpX8_wholeThings post M tl 77 v1 v2 v3 := by
  unfold wpX8_wholeThings
  refine And.intro (by decide) ?_
  have hr1 := iv_77_0 hI
  refine ifs (fun hc2 => ?_) (fun hc3 => ?_)
  · skip
    exact hp _ (by lia)
  · skip
    refine And.intro (by decide) ?_
    refine ifs (fun hc4 => ?_) (fun hc5 => ?_)
    · skip
      refine ifs (fun hc6 => ?_) (fun hc7 => ?_)
      · skip
        exact hp _ (by lia)
      · skip
        refine And.intro (by decide) ?_
        refine ifs (fun hc8 => ?_) (fun hc9 => ?_)
        · skip
          refine And.intro (by decide) ?_
          exact hp _ (by lia)
        · skip
          exact hp _ (by lia)
    · skip
      exact hp _ (by lia)
set_option maxHeartbeats 4000000 in
theorem sf_X8_faultOfReading__77 {post : Int32 → MM → Int64 → Prop} {M : MM} {tl : Int64} {v1 : Int32} {v2 : Int32} {v3 : Int32} (hI : Inv M) (hp : ∀ (r : Int32), True → post r M tl) : wpX8_faultOfReading post M tl 77 v1 v2 v3 := by
  unfold wpX8_faultOfReading
  refine And.intro (by decide) ?_
  refine sf_X8_wholeThings__77 hI  (fun r1 hq2 => ?_)
  refine ifs (fun hc3 => ?_) (fun hc4 => ?_)
  · skip
    refine And.intro (by decide) ?_
    have hr5 := iv_77_0 hI
    refine ifs (fun hc6 => ?_) (fun hc7 => ?_)
    · skip
      refine And.intro (by decide) ?_
      refine ifs (fun hc8 => ?_) (fun hc9 => ?_)
      · skip
        exact hp _ trivial
      · skip
        exact hp _ trivial
    · skip
      exact hp _ trivial
  · skip
    exact hp _ trivial
set_option maxHeartbeats 4000000 in
theorem sf_X8_cell__77 {post : Int32 → MM → Int64 → Prop} {M : MM} {tl : Int64} {v1 : Int32} (hI : Inv M) (hp : ∀ (r : Int32), True → post r M tl) : wpX8_cell post M tl 77 v1 := by
  unfold wpX8_cell
  refine And.intro (by decide) ?_
  refine sf_X8_faultAt__77 hI  (fun r1 hq2 => ?_)
  refine ifs (fun hc3 => ?_) (fun hc4 => ?_)
  · skip
    refine And.intro (by decide) ?_
    refine And.intro (by decide) ?_
    refine And.intro (vpI (c := 40) (by decide) (by lia) (by lia)) ?_
    exact hp _ trivial
  · skip
    exact hp _ trivial
set_option maxHeartbeats 4000000 in
theorem sf_X8_wholeThings__79 {post : Int32 → MM → Int64 → Prop} {M : MM} {tl : Int64} {v1 : Int32} {v2 : Int32} {v3 : Int32} (hI : Inv M) (hp : ∀ (r : Int32), (r ≤ v3 ∨ r ≤ 13) → post r M tl) : wpX8_wholeThings post M tl 79 v1 v2 v3 := by
  unfold wpX8_wholeThings
  refine And.intro (by decide) ?_
  have hr1 := iv_79_0 hI
  refine ifs (fun hc2 => ?_) (fun hc3 => ?_)
  · skip
    exact hp _ (by lia)
  · skip
    refine And.intro (by decide) ?_
    refine ifs (fun hc4 => ?_) (fun hc5 => ?_)
    · skip
      refine ifs (fun hc6 => ?_) (fun hc7 => ?_)
      · skip
        exact hp _ (by lia)
      · skip
        refine And.intro (by decide) ?_
        refine ifs (fun hc8 => ?_) (fun hc9 => ?_)
        · skip
          refine And.intro (by decide) ?_
          exact hp _ (by lia)
        · skip
          exact hp _ (by lia)
    · skip
      exact hp _ (by lia)
set_option maxHeartbeats 4000000 in
theorem sf_X8_faultOfReading__79 {post : Int32 → MM → Int64 → Prop} {M : MM} {tl : Int64} {v1 : Int32} {v2 : Int32} {v3 : Int32} (hI : Inv M) (hp : ∀ (r : Int32), True → post r M tl) : wpX8_faultOfReading post M tl 79 v1 v2 v3 := by
  unfold wpX8_faultOfReading
  refine And.intro (by decide) ?_
  refine sf_X8_wholeThings__79 hI  (fun r1 hq2 => ?_)
  refine ifs (fun hc3 => ?_) (fun hc4 => ?_)
  · skip
    refine And.intro (by decide) ?_
    have hr5 := iv_79_0 hI
    refine ifs (fun hc6 => ?_) (fun hc7 => ?_)
    · skip
      refine And.intro (by decide) ?_
      refine ifs (fun hc8 => ?_) (fun hc9 => ?_)
      · skip
        exact hp _ trivial
      · skip
        exact hp _ trivial
    · skip
      exact hp _ trivial
  · skip
    exact hp _ trivial
set_option maxHeartbeats 4000000 in
theorem sf_X8_cell__79 {post : Int32 → MM → Int64 → Prop} {M : MM} {tl : Int64} {v1 : Int32} (hI : Inv M) (hp : ∀ (r : Int32), True → post r M tl) : wpX8_cell post M tl 79 v1 := by
  unfold wpX8_cell
  refine And.intro (by decide) ?_
  refine sf_X8_faultAt__79 hI  (fun r1 hq2 => ?_)
  refine ifs (fun hc3 => ?_) (fun hc4 => ?_)
  · skip
    refine And.intro (by decide) ?_
    refine And.intro (by decide) ?_
    refine And.intro (vpI (c := 40) (by decide) (by lia) (by lia)) ?_
    exact hp _ trivial
  · skip
    exact hp _ trivial
set_option maxHeartbeats 4000000 in
theorem sl_X10_read_142__73 {post : Int32 → MM → Int64 → Prop} {Mb : MM} (hp : ∀ (r : Int32) (M1 : MM) (t1 : Int64), Inv M1 → Fr [15] [(0, 12)] Mb M1 → True → post r M1 t1) : ∀ v8 : Int32, 0 ≤ v8 → v8 ≤ 13 → ∃ n, ∀ (M : MM) (tl : Int64) (v3 : Int32) (v6 : Int32) (v7 : Int32), Inv M → Fr [15] [(0, 12)] Mb M → (v7 ≤ 13) → wX10_read_142 post n M tl v3 73 v6 v7 v8 := by
  refine up_ex (P := fun d v8 => ∀ (M : MM) (tl : Int64) (v3 : Int32) (v6 : Int32) (v7 : Int32), Inv M → Fr [15] [(0, 12)] Mb M → (v7 ≤ 13) → wX10_read_142 post d M tl v3 73 v6 v7 v8) 0 13 ?_
  intro d v8 hlo hhi rec M tl v3 v6 v7 hI hF hli
  unfold wX10_read_142
  refine ifs (fun hc1 => ?_) (fun hc2 => ?_)
  · skip
    intro W3 hW4
    have hI5 : Inv W3 := by rw [hW4]; exact inv_set hI (i_any _)
    have hF6 : Fr [15] [(0, 12)] Mb W3 := by rw [hW4]; exact fr_fld hF (by decide)
    have hv7 : W3 0 12 = v6 := by rw [hW4]; exact mset_at _ _ _ _
    exact hp _ _ _ hI5 hF6 trivial
  · skip
    refine And.intro (by decide) ?_
    refine sf_X8_cell__73 hI  (fun r8 hq9 => ?_)
    refine And.intro (by decide) ?_
    refine sf_X8_cell__73 hI  (fun r10 hq11 => ?_)
    refine And.intro (by decide) ?_
    refine sf_X8_cell__73 hI  (fun r12 hq13 => ?_)
    refine sf_X7_setThing__14 hI  (fun M15 t16 hI17 hF18 hq19 => ?_)
    have hF20 : Fr [15] [(0, 12)] Mb M15 := fr_call hF hF18 (by decide) (by decide)
    exact rec (by lia) _ _ v3 v6 v7 hI17 hF20 (by lia)
set_option maxHeartbeats 4000000 in
theorem sl_X10_read_71__73 {post : Int32 → MM → Int64 → Prop} {Mb : MM} (hp : ∀ (r : Int32) (M1 : MM) (t1 : Int64), Inv M1 → Fr [15] [(0, 12)] Mb M1 → True → post r M1 t1) : ∀ v8 : Int32, 0 ≤ v8 → v8 ≤ 13 → ∃ n, ∀ (M : MM) (tl : Int64) (v3 : Int32) (v6 : Int32) (v7 : Int32), Inv M → Fr [15] [(0, 12)] Mb M → (v7 ≤ 13) → wX10_read_71 post n M tl v3 73 v6 v7 v8 := by
  refine up_ex (P := fun d v8 => ∀ (M : MM) (tl : Int64) (v3 : Int32) (v6 : Int32) (v7 : Int32), Inv M → Fr [15] [(0, 12)] Mb M → (v7 ≤ 13) → wX10_read_71 post d M tl v3 73 v6 v7 v8) 0 13 ?_
  intro d v8 hlo hhi rec M tl v3 v6 v7 hI hF hli
  unfold wX10_read_71
  refine ifs (fun hc1 => ?_) (fun hc2 => ?_)
  · skip
    obtain ⟨n3, hn4⟩ := sl_X10_read_142__73 (Mb := Mb) hp  (0 : Int32) (by lia) (by lia)
    exact ⟨n3, hn4 _ _ v3 v6 v7 hI hF (by lia)⟩
  · skip
    refine And.intro (by decide) ?_
    refine sf_X8_cell__73 hI  (fun r5 hq6 => ?_)
    refine And.intro (by decide) ?_
    refine sf_X8_cell__73 hI  (fun r7 hq8 => ?_)
    refine sf_X1_isLot__3 hI  (fun r9 hq10 => ?_)
    refine ifs (fun hc11 => ?_) (fun hc12 => ?_)
    · skip
      exact hp _ _ _ hI hF trivial
    · skip
      refine And.intro (by decide) ?_
      refine sf_X8_cell__73 hI  (fun r13 hq14 => ?_)
      refine sf_X10_isThing hI  (fun r15 hq16 => ?_)
      refine ifs (fun hc17 => ?_) (fun hc18 => ?_)
      · skip
        exact hp _ _ _ hI hF trivial
      · skip
        exact rec (by lia) _ _ v3 v6 v7 hI hF (by lia)
set_option maxHeartbeats 4000000 in
theorem sl_X10_read_142__75 {post : Int32 → MM → Int64 → Prop} {Mb : MM} (hp : ∀ (r : Int32) (M1 : MM) (t1 : Int64), Inv M1 → Fr [15] [(0, 12)] Mb M1 → True → post r M1 t1) : ∀ v8 : Int32, 0 ≤ v8 → v8 ≤ 13 → ∃ n, ∀ (M : MM) (tl : Int64) (v3 : Int32) (v6 : Int32) (v7 : Int32), Inv M → Fr [15] [(0, 12)] Mb M → (v7 ≤ 13) → wX10_read_142 post n M tl v3 75 v6 v7 v8 := by
  refine up_ex (P := fun d v8 => ∀ (M : MM) (tl : Int64) (v3 : Int32) (v6 : Int32) (v7 : Int32), Inv M → Fr [15] [(0, 12)] Mb M → (v7 ≤ 13) → wX10_read_142 post d M tl v3 75 v6 v7 v8) 0 13 ?_
  intro d v8 hlo hhi rec M tl v3 v6 v7 hI hF hli
  unfold wX10_read_142
  refine ifs (fun hc1 => ?_) (fun hc2 => ?_)
  · skip
    intro W3 hW4
    have hI5 : Inv W3 := by rw [hW4]; exact inv_set hI (i_any _)
    have hF6 : Fr [15] [(0, 12)] Mb W3 := by rw [hW4]; exact fr_fld hF (by decide)
    have hv7 : W3 0 12 = v6 := by rw [hW4]; exact mset_at _ _ _ _
    exact hp _ _ _ hI5 hF6 trivial
  · skip
    refine And.intro (by decide) ?_
    refine sf_X8_cell__75 hI  (fun r8 hq9 => ?_)
    refine And.intro (by decide) ?_
    refine sf_X8_cell__75 hI  (fun r10 hq11 => ?_)
    refine And.intro (by decide) ?_
    refine sf_X8_cell__75 hI  (fun r12 hq13 => ?_)
    refine sf_X7_setThing__14 hI  (fun M15 t16 hI17 hF18 hq19 => ?_)
    have hF20 : Fr [15] [(0, 12)] Mb M15 := fr_call hF hF18 (by decide) (by decide)
    exact rec (by lia) _ _ v3 v6 v7 hI17 hF20 (by lia)
set_option maxHeartbeats 4000000 in
theorem sl_X10_read_71__75 {post : Int32 → MM → Int64 → Prop} {Mb : MM} (hp : ∀ (r : Int32) (M1 : MM) (t1 : Int64), Inv M1 → Fr [15] [(0, 12)] Mb M1 → True → post r M1 t1) : ∀ v8 : Int32, 0 ≤ v8 → v8 ≤ 13 → ∃ n, ∀ (M : MM) (tl : Int64) (v3 : Int32) (v6 : Int32) (v7 : Int32), Inv M → Fr [15] [(0, 12)] Mb M → (v7 ≤ 13) → wX10_read_71 post n M tl v3 75 v6 v7 v8 := by
  refine up_ex (P := fun d v8 => ∀ (M : MM) (tl : Int64) (v3 : Int32) (v6 : Int32) (v7 : Int32), Inv M → Fr [15] [(0, 12)] Mb M → (v7 ≤ 13) → wX10_read_71 post d M tl v3 75 v6 v7 v8) 0 13 ?_
  intro d v8 hlo hhi rec M tl v3 v6 v7 hI hF hli
  unfold wX10_read_71
  refine ifs (fun hc1 => ?_) (fun hc2 => ?_)
  · skip
    obtain ⟨n3, hn4⟩ := sl_X10_read_142__75 (Mb := Mb) hp  (0 : Int32) (by lia) (by lia)
    exact ⟨n3, hn4 _ _ v3 v6 v7 hI hF (by lia)⟩
  · skip
    refine And.intro (by decide) ?_
    refine sf_X8_cell__75 hI  (fun r5 hq6 => ?_)
    refine And.intro (by decide) ?_
    refine sf_X8_cell__75 hI  (fun r7 hq8 => ?_)
    refine sf_X1_isLot__3 hI  (fun r9 hq10 => ?_)
    refine ifs (fun hc11 => ?_) (fun hc12 => ?_)
    · skip
      exact hp _ _ _ hI hF trivial
    · skip
      refine And.intro (by decide) ?_
      refine sf_X8_cell__75 hI  (fun r13 hq14 => ?_)
      refine sf_X10_isThing hI  (fun r15 hq16 => ?_)
      refine ifs (fun hc17 => ?_) (fun hc18 => ?_)
      · skip
        exact hp _ _ _ hI hF trivial
      · skip
        exact rec (by lia) _ _ v3 v6 v7 hI hF (by lia)
set_option maxHeartbeats 4000000 in
theorem sl_X10_read_142__77 {post : Int32 → MM → Int64 → Prop} {Mb : MM} (hp : ∀ (r : Int32) (M1 : MM) (t1 : Int64), Inv M1 → Fr [15] [(0, 12)] Mb M1 → True → post r M1 t1) : ∀ v8 : Int32, 0 ≤ v8 → v8 ≤ 13 → ∃ n, ∀ (M : MM) (tl : Int64) (v3 : Int32) (v6 : Int32) (v7 : Int32), Inv M → Fr [15] [(0, 12)] Mb M → (v7 ≤ 13) → wX10_read_142 post n M tl v3 77 v6 v7 v8 := by
  refine up_ex (P := fun d v8 => ∀ (M : MM) (tl : Int64) (v3 : Int32) (v6 : Int32) (v7 : Int32), Inv M → Fr [15] [(0, 12)] Mb M → (v7 ≤ 13) → wX10_read_142 post d M tl v3 77 v6 v7 v8) 0 13 ?_
  intro d v8 hlo hhi rec M tl v3 v6 v7 hI hF hli
  unfold wX10_read_142
  refine ifs (fun hc1 => ?_) (fun hc2 => ?_)
  · skip
    intro W3 hW4
    have hI5 : Inv W3 := by rw [hW4]; exact inv_set hI (i_any _)
    have hF6 : Fr [15] [(0, 12)] Mb W3 := by rw [hW4]; exact fr_fld hF (by decide)
    have hv7 : W3 0 12 = v6 := by rw [hW4]; exact mset_at _ _ _ _
    exact hp _ _ _ hI5 hF6 trivial
  · skip
    refine And.intro (by decide) ?_
    refine sf_X8_cell__77 hI  (fun r8 hq9 => ?_)
    refine And.intro (by decide) ?_
    refine sf_X8_cell__77 hI  (fun r10 hq11 => ?_)
    refine And.intro (by decide) ?_
    refine sf_X8_cell__77 hI  (fun r12 hq13 => ?_)
    refine sf_X7_setThing__14 hI  (fun M15 t16 hI17 hF18 hq19 => ?_)
    have hF20 : Fr [15] [(0, 12)] Mb M15 := fr_call hF hF18 (by decide) (by decide)
    exact rec (by lia) _ _ v3 v6 v7 hI17 hF20 (by lia)
set_option maxHeartbeats 4000000 in
theorem sl_X10_read_71__77 {post : Int32 → MM → Int64 → Prop} {Mb : MM} (hp : ∀ (r : Int32) (M1 : MM) (t1 : Int64), Inv M1 → Fr [15] [(0, 12)] Mb M1 → True → post r M1 t1) : ∀ v8 : Int32, 0 ≤ v8 → v8 ≤ 13 → ∃ n, ∀ (M : MM) (tl : Int64) (v3 : Int32) (v6 : Int32) (v7 : Int32), Inv M → Fr [15] [(0, 12)] Mb M → (v7 ≤ 13) → wX10_read_71 post n M tl v3 77 v6 v7 v8 := by
  refine up_ex (P := fun d v8 => ∀ (M : MM) (tl : Int64) (v3 : Int32) (v6 : Int32) (v7 : Int32), Inv M → Fr [15] [(0, 12)] Mb M → (v7 ≤ 13) → wX10_read_71 post d M tl v3 77 v6 v7 v8) 0 13 ?_
  intro d v8 hlo hhi rec M tl v3 v6 v7 hI hF hli
  unfold wX10_read_71
  refine ifs (fun hc1 => ?_) (fun hc2 => ?_)
  · skip
    obtain ⟨n3, hn4⟩ := sl_X10_read_142__77 (Mb := Mb) hp  (0 : Int32) (by lia) (by lia)
    exact ⟨n3, hn4 _ _ v3 v6 v7 hI hF (by lia)⟩
  · skip
    refine And.intro (by decide) ?_
    refine sf_X8_cell__77 hI  (fun r5 hq6 => ?_)
    refine And.intro (by decide) ?_
    refine sf_X8_cell__77 hI  (fun r7 hq8 => ?_)
    refine sf_X1_isLot__3 hI  (fun r9 hq10 => ?_)
    refine ifs (fun hc11 => ?_) (fun hc12 => ?_)
    · skip
      exact hp _ _ _ hI hF trivial
    · skip
      refine And.intro (by decide) ?_
      refine sf_X8_cell__77 hI  (fun r13 hq14 => ?_)
      refine sf_X10_isThing hI  (fun r15 hq16 => ?_)
      refine ifs (fun hc17 => ?_) (fun hc18 => ?_)
      · skip
        exact hp _ _ _ hI hF trivial
      · skip
        exact rec (by lia) _ _ v3 v6 v7 hI hF (by lia)
set_option maxHeartbeats 4000000 in
theorem sl_X10_read_142__79 {post : Int32 → MM → Int64 → Prop} {Mb : MM} (hp : ∀ (r : Int32) (M1 : MM) (t1 : Int64), Inv M1 → Fr [15] [(0, 12)] Mb M1 → True → post r M1 t1) : ∀ v8 : Int32, 0 ≤ v8 → v8 ≤ 13 → ∃ n, ∀ (M : MM) (tl : Int64) (v3 : Int32) (v6 : Int32) (v7 : Int32), Inv M → Fr [15] [(0, 12)] Mb M → (v7 ≤ 13) → wX10_read_142 post n M tl v3 79 v6 v7 v8 := by
  refine up_ex (P := fun d v8 => ∀ (M : MM) (tl : Int64) (v3 : Int32) (v6 : Int32) (v7 : Int32), Inv M → Fr [15] [(0, 12)] Mb M → (v7 ≤ 13) → wX10_read_142 post d M tl v3 79 v6 v7 v8) 0 13 ?_
  intro d v8 hlo hhi rec M tl v3 v6 v7 hI hF hli
  unfold wX10_read_142
  refine ifs (fun hc1 => ?_) (fun hc2 => ?_)
  · skip
    intro W3 hW4
    have hI5 : Inv W3 := by rw [hW4]; exact inv_set hI (i_any _)
    have hF6 : Fr [15] [(0, 12)] Mb W3 := by rw [hW4]; exact fr_fld hF (by decide)
    have hv7 : W3 0 12 = v6 := by rw [hW4]; exact mset_at _ _ _ _
    exact hp _ _ _ hI5 hF6 trivial
  · skip
    refine And.intro (by decide) ?_
    refine sf_X8_cell__79 hI  (fun r8 hq9 => ?_)
    refine And.intro (by decide) ?_
    refine sf_X8_cell__79 hI  (fun r10 hq11 => ?_)
    refine And.intro (by decide) ?_
    refine sf_X8_cell__79 hI  (fun r12 hq13 => ?_)
    refine sf_X7_setThing__14 hI  (fun M15 t16 hI17 hF18 hq19 => ?_)
    have hF20 : Fr [15] [(0, 12)] Mb M15 := fr_call hF hF18 (by decide) (by decide)
    exact rec (by lia) _ _ v3 v6 v7 hI17 hF20 (by lia)
set_option maxHeartbeats 4000000 in
theorem sl_X10_read_71__79 {post : Int32 → MM → Int64 → Prop} {Mb : MM} (hp : ∀ (r : Int32) (M1 : MM) (t1 : Int64), Inv M1 → Fr [15] [(0, 12)] Mb M1 → True → post r M1 t1) : ∀ v8 : Int32, 0 ≤ v8 → v8 ≤ 13 → ∃ n, ∀ (M : MM) (tl : Int64) (v3 : Int32) (v6 : Int32) (v7 : Int32), Inv M → Fr [15] [(0, 12)] Mb M → (v7 ≤ 13) → wX10_read_71 post n M tl v3 79 v6 v7 v8 := by
  refine up_ex (P := fun d v8 => ∀ (M : MM) (tl : Int64) (v3 : Int32) (v6 : Int32) (v7 : Int32), Inv M → Fr [15] [(0, 12)] Mb M → (v7 ≤ 13) → wX10_read_71 post d M tl v3 79 v6 v7 v8) 0 13 ?_
  intro d v8 hlo hhi rec M tl v3 v6 v7 hI hF hli
  unfold wX10_read_71
  refine ifs (fun hc1 => ?_) (fun hc2 => ?_)
  · skip
    obtain ⟨n3, hn4⟩ := sl_X10_read_142__79 (Mb := Mb) hp  (0 : Int32) (by lia) (by lia)
    exact ⟨n3, hn4 _ _ v3 v6 v7 hI hF (by lia)⟩
  · skip
    refine And.intro (by decide) ?_
    refine sf_X8_cell__79 hI  (fun r5 hq6 => ?_)
    refine And.intro (by decide) ?_
    refine sf_X8_cell__79 hI  (fun r7 hq8 => ?_)
    refine sf_X1_isLot__3 hI  (fun r9 hq10 => ?_)
    refine ifs (fun hc11 => ?_) (fun hc12 => ?_)
    · skip
      exact hp _ _ _ hI hF trivial
    · skip
      refine And.intro (by decide) ?_
      refine sf_X8_cell__79 hI  (fun r13 hq14 => ?_)
      refine sf_X10_isThing hI  (fun r15 hq16 => ?_)
      refine ifs (fun hc17 => ?_) (fun hc18 => ?_)
      · skip
        exact hp _ _ _ hI hF trivial
      · skip
        exact rec (by lia) _ _ v3 v6 v7 hI hF (by lia)
set_option maxHeartbeats 4000000 in
theorem sf_X10_read {post : Int32 → MM → Int64 → Prop} {M : MM} {tl : Int64} {v1 : Int32} {v2 : Int32} {v3 : Int32} {v4 : Int32} (hI : Inv M) (hp : ∀ (r : Int32) (M1 : MM) (t1 : Int64), Inv M1 → Fr [15] [(0, 12)] M M1 → True → post r M1 t1) : wpX10_read post M tl v1 v2 v3 v4 := by
  unfold wpX10_read
  refine sf_X10_isSheet hI  (fun r1 hq2 => ?_)
  refine ifs (fun hc3 => ?_) (fun hc4 => ?_)
  · skip
    exact hp _ _ _ hI fr_rfl trivial
  · skip
    refine sf_X10_isLane hI  (fun r5 hq6 => ?_)
    refine ifs (fun hc7 => ?_) (fun hc8 => ?_)
    · skip
      exact hp _ _ _ hI fr_rfl trivial
    · skip
      refine ifs (fun hc9 => ?_) (fun hc10 => ?_)
      · skip
        exact hp _ _ _ hI fr_rfl trivial
      · skip
        refine ifs (fun hc11 => ?_) (fun hc12 => ?_)
        · skip
          refine And.intro (vpI (c := 4) (by decide) (by lia) (by lia)) ?_
          rcases cs4 (v := v1) (by lia) (by lia) with hs | hs | hs | hs <;> subst hs
          · skip
            refine And.intro (by decide) ?_
            refine sf_X8_faultOfReading__73 hI  (fun r13 hq14 => ?_)
            refine ifs (fun hc15 => ?_) (fun hc16 => ?_)
            · skip
              unfold wX10_read_66
              obtain ⟨n17, hn18⟩ := sl_X10_read_71__73 (Mb := M) hp  (0 : Int32) (by lia) (by lia)
              exact ⟨n17, hn18 _ _ v3 r13 v4 hI fr_rfl (by lia)⟩
            · skip
              refine And.intro (by decide) ?_
              refine sf_X8_wholeThings__73 hI  (fun r19 hq20 => ?_)
              unfold wX10_read_66
              obtain ⟨n21, hn22⟩ := sl_X10_read_71__73 (Mb := M) hp  (0 : Int32) (by lia) (by lia)
              exact ⟨n21, hn22 _ _ v3 r13 r19 hI fr_rfl (by lia)⟩
          · skip
            refine And.intro (by decide) ?_
            refine sf_X8_faultOfReading__75 hI  (fun r23 hq24 => ?_)
            refine ifs (fun hc25 => ?_) (fun hc26 => ?_)
            · skip
              unfold wX10_read_66
              obtain ⟨n27, hn28⟩ := sl_X10_read_71__75 (Mb := M) hp  (0 : Int32) (by lia) (by lia)
              exact ⟨n27, hn28 _ _ v3 r23 v4 hI fr_rfl (by lia)⟩
            · skip
              refine And.intro (by decide) ?_
              refine sf_X8_wholeThings__75 hI  (fun r29 hq30 => ?_)
              unfold wX10_read_66
              obtain ⟨n31, hn32⟩ := sl_X10_read_71__75 (Mb := M) hp  (0 : Int32) (by lia) (by lia)
              exact ⟨n31, hn32 _ _ v3 r23 r29 hI fr_rfl (by lia)⟩
          · skip
            refine And.intro (by decide) ?_
            refine sf_X8_faultOfReading__77 hI  (fun r33 hq34 => ?_)
            refine ifs (fun hc35 => ?_) (fun hc36 => ?_)
            · skip
              unfold wX10_read_66
              obtain ⟨n37, hn38⟩ := sl_X10_read_71__77 (Mb := M) hp  (0 : Int32) (by lia) (by lia)
              exact ⟨n37, hn38 _ _ v3 r33 v4 hI fr_rfl (by lia)⟩
            · skip
              refine And.intro (by decide) ?_
              refine sf_X8_wholeThings__77 hI  (fun r39 hq40 => ?_)
              unfold wX10_read_66
              obtain ⟨n41, hn42⟩ := sl_X10_read_71__77 (Mb := M) hp  (0 : Int32) (by lia) (by lia)
              exact ⟨n41, hn42 _ _ v3 r33 r39 hI fr_rfl (by lia)⟩
          · skip
            refine And.intro (by decide) ?_
            refine sf_X8_faultOfReading__79 hI  (fun r43 hq44 => ?_)
            refine ifs (fun hc45 => ?_) (fun hc46 => ?_)
            · skip
              unfold wX10_read_66
              obtain ⟨n47, hn48⟩ := sl_X10_read_71__79 (Mb := M) hp  (0 : Int32) (by lia) (by lia)
              exact ⟨n47, hn48 _ _ v3 r43 v4 hI fr_rfl (by lia)⟩
            · skip
              refine And.intro (by decide) ?_
              refine sf_X8_wholeThings__79 hI  (fun r49 hq50 => ?_)
              unfold wX10_read_66
              obtain ⟨n51, hn52⟩ := sl_X10_read_71__79 (Mb := M) hp  (0 : Int32) (by lia) (by lia)
              exact ⟨n51, hn52 _ _ v3 r43 r49 hI fr_rfl (by lia)⟩
        · skip
          exact hp _ _ _ hI fr_rfl trivial
set_option maxHeartbeats 4000000 in
theorem sf_X10_torn {post : Int32 → MM → Int64 → Prop} {M : MM} {tl : Int64} (hI : Inv M) (hp : ∀ (r : Int32), True → post r M tl) : wpX10_torn post M tl  := by
  unfold wpX10_torn
  exact hp _ trivial
set_option maxHeartbeats 4000000 in
theorem sl_X1_countPairs_4__3 {post : Int32 → MM → Int64 → Prop} {M : MM} {tl : Int64} (hp : ∀ (r : Int32), True → post r M tl) (hI : Inv M) : ∀ v2 : Int32, 0 ≤ v2 → v2 ≤ 8 → ∃ n, ∀ (v1 : Int32), (True) → wX1_countPairs_4 post n M tl 3 v1 v2 := by
  refine up_ex (P := fun d v2 => ∀ (v1 : Int32), (True) → wX1_countPairs_4 post d M tl 3 v1 v2) 0 8 ?_
  intro d v2 hlo hhi rec v1 hli
  unfold wX1_countPairs_4
  refine And.intro (by decide) ?_
  have hr1 := iv_3_0 hI
  refine ifs (fun hc2 => ?_) (fun hc3 => ?_)
  · skip
    exact hp _ trivial
  · skip
    refine And.intro (by decide) ?_
    refine sf_X1_matchOf__3 hI  (fun r4 hq5 => ?_)
    refine ifs (fun hc6 => ?_) (fun hc7 => ?_)
    · skip
      unfold wX1_countPairs_29
      exact rec (by lia) (v1 + (0 : Int32)) trivial
    · skip
      unfold wX1_countPairs_29
      exact rec (by lia) (v1 + (1 : Int32)) trivial
set_option maxHeartbeats 4000000 in
theorem sf_X1_countPairs__3 {post : Int32 → MM → Int64 → Prop} {M : MM} {tl : Int64} (hI : Inv M) (hp : ∀ (r : Int32), True → post r M tl) : wpX1_countPairs post M tl 3 := by
  unfold wpX1_countPairs
  obtain ⟨n1, hn2⟩ := sl_X1_countPairs_4__3 (M := M) (tl := tl) hp  hI (0 : Int32) (by lia) (by lia)
  exact ⟨n1, hn2 (0 : Int32) trivial⟩
set_option maxHeartbeats 4000000 in
theorem sf_X10_count {post : Int32 → MM → Int64 → Prop} {M : MM} {tl : Int64} {v1 : Int32} (hI : Inv M) (hp : ∀ (r : Int32), True → post r M tl) : wpX10_count post M tl v1 := by
  unfold wpX10_count
  refine ifs (fun hc1 => ?_) (fun hc2 => ?_)
  · skip
    refine sf_X7_countThings__14 hI  (fun r3 hq4 => ?_)
    exact hp _ trivial
  · skip
    refine ifs (fun hc5 => ?_) (fun hc6 => ?_)
    · skip
      refine sf_X1_countPairs__3 hI  (fun r7 hq8 => ?_)
      exact hp _ trivial
    · skip
      refine ifs (fun hc9 => ?_) (fun hc10 => ?_)
      · skip
        have hr11 := iv_18_3 hI
        exact hp _ trivial
      · skip
        refine ifs (fun hc12 => ?_) (fun hc13 => ?_)
        · skip
          have hr14 := iv_20_3 hI
          exact hp _ trivial
        · skip
          refine ifs (fun hc15 => ?_) (fun hc16 => ?_)
          · skip
            refine And.intro (vpI (c := 2) (by decide) (by lia) (by lia)) ?_
            refine ifs (fun hc17 => ?_) (fun hc18 => ?_)
            · skip
              unfold wX10_count_96
              refine And.intro (vpI (c := 2) (by decide) (by lia) (by lia)) ?_
              refine ifs (fun hc19 => ?_) (fun hc20 => ?_)
              · skip
                exact hp _ trivial
              · skip
                exact hp _ trivial
            · skip
              unfold wX10_count_96
              refine And.intro (vpI (c := 2) (by decide) (by lia) (by lia)) ?_
              refine ifs (fun hc21 => ?_) (fun hc22 => ?_)
              · skip
                exact hp _ trivial
              · skip
                exact hp _ trivial
          · skip
            refine ifs (fun hc23 => ?_) (fun hc24 => ?_)
            · skip
              have hr25 := iv_1_1 hI
              exact hp _ trivial
            · skip
              refine ifs (fun hc26 => ?_) (fun hc27 => ?_)
              · skip
                refine And.intro (vpI (c := 4) (by decide) (by lia) (by lia)) ?_
                refine And.intro (by decide) ?_
                have hr28 := iv_73_0 hI
                refine ifs (fun hc29 => ?_) (fun hc30 => ?_)
                · skip
                  refine And.intro (vpI (c := 4) (by decide) (by lia) (by lia)) ?_
                  refine And.intro (by decide) ?_
                  exact hp _ trivial
                · skip
                  exact hp _ trivial
              · skip
                exact hp _ trivial
set_option maxHeartbeats 4000000 in
theorem sl_X1_setFirst_115__23 {post : MM → Int64 → Prop} {Mb : MM} (hp : ∀ (M1 : MM) (t1 : Int64), Inv M1 → Fr [24, 26, 27, 29, 30, 31, 32, 33] [(23, 0), (23, 1), (23, 2), (23, 3)] Mb M1 → True → post M1 t1) : ∀ v1 : Int32, 0 ≤ v1 → v1 ≤ 4 → ∃ n, ∀ (M : MM) (tl : Int64), Inv M → Fr [24, 26, 27, 29, 30, 31, 32, 33] [(23, 0), (23, 1), (23, 2), (23, 3)] Mb M → (True) → wX1_setFirst_115 post n M tl 23 v1 := by
  refine up_ex (P := fun d v1 => ∀ (M : MM) (tl : Int64), Inv M → Fr [24, 26, 27, 29, 30, 31, 32, 33] [(23, 0), (23, 1), (23, 2), (23, 3)] Mb M → (True) → wX1_setFirst_115 post d M tl 23 v1) 0 4 ?_
  intro d v1 hlo hhi rec M tl  hI hF hli
  unfold wX1_setFirst_115
  refine ifs (fun hc1 => ?_) (fun hc2 => ?_)
  · skip
    exact hp _ _ hI hF trivial
  · skip
    refine And.intro (by decide) ?_
    refine And.intro (by decide) ?_
    refine And.intro (vpI (c := 4) (by decide) (by lia) (by lia)) ?_
    intro W3 hW4
    have hI5 : Inv W3 := by rw [hW4]; exact inv_set hI (i_any _)
    have hF6 : Fr [24, 26, 27, 29, 30, 31, 32, 33] [(23, 0), (23, 1), (23, 2), (23, 3)] Mb W3 := by rw [hW4]; exact fr_arr hF (by decide)
    exact rec (by lia) _ _  hI5 hF6 trivial
set_option maxHeartbeats 4000000 in
theorem sl_X1_setFirst_94__23 {post : MM → Int64 → Prop} {Mb : MM} (hp : ∀ (M1 : MM) (t1 : Int64), Inv M1 → Fr [24, 26, 27, 29, 30, 31, 32, 33] [(23, 0), (23, 1), (23, 2), (23, 3)] Mb M1 → True → post M1 t1) : ∀ v1 : Int32, 0 ≤ v1 → v1 ≤ 6 → ∃ n, ∀ (M : MM) (tl : Int64), Inv M → Fr [24, 26, 27, 29, 30, 31, 32, 33] [(23, 0), (23, 1), (23, 2), (23, 3)] Mb M → (True) → wX1_setFirst_94 post n M tl 23 v1 := by
  refine up_ex (P := fun d v1 => ∀ (M : MM) (tl : Int64), Inv M → Fr [24, 26, 27, 29, 30, 31, 32, 33] [(23, 0), (23, 1), (23, 2), (23, 3)] Mb M → (True) → wX1_setFirst_94 post d M tl 23 v1) 0 6 ?_
  intro d v1 hlo hhi rec M tl  hI hF hli
  unfold wX1_setFirst_94
  refine ifs (fun hc1 => ?_) (fun hc2 => ?_)
  · skip
    obtain ⟨n3, hn4⟩ := sl_X1_setFirst_115__23 (Mb := Mb) hp  (0 : Int32) (by lia) (by lia)
    exact ⟨n3, hn4 _ _  hI hF trivial⟩
  · skip
    refine And.intro (by decide) ?_
    refine And.intro (by decide) ?_
    refine And.intro (vpI (c := 6) (by decide) (by lia) (by lia)) ?_
    intro W5 hW6
    have hI7 : Inv W5 := by rw [hW6]; exact inv_set hI (i_any _)
    have hF8 : Fr [24, 26, 27, 29, 30, 31, 32, 33] [(23, 0), (23, 1), (23, 2), (23, 3)] Mb W5 := by rw [hW6]; exact fr_arr hF (by decide)
    exact rec (by lia) _ _  hI7 hF8 trivial
set_option maxHeartbeats 4000000 in
theorem sl_X1_setFirst_56__23 {post : MM → Int64 → Prop} {bk42 : MM → Int64 → Nat → Int32 → Prop} {u42 : Int32} {Mb : MM} (hp : ∀ (M1 : MM) (t1 : Int64), Inv M1 → Fr [24, 26, 27, 29, 30, 31, 32, 33] [(23, 0), (23, 1), (23, 2), (23, 3)] Mb M1 → True → post M1 t1) (hb42 : ∀ (M1 : MM) (t1 : Int64) (v1 : Int32), Inv M1 → Fr [24, 26, 27, 29, 30, 31, 32, 33] [(23, 0), (23, 1), (23, 2), (23, 3)] Mb M1 → v1 = u42 → True → bk42 M1 t1 23 v1) : ∀ v2 : Int32, 0 ≤ v2 → v2 ≤ 6 → ∃ n, ∀ (M : MM) (tl : Int64) (v1 : Int32), Inv M → Fr [24, 26, 27, 29, 30, 31, 32, 33] [(23, 0), (23, 1), (23, 2), (23, 3)] Mb M → (0 ≤ v1 ∧ v1 < 2 ∧ v1 + (1 : Int32) = u42) → wX1_setFirst_56 post bk42 n M tl 23 v1 v2 := by
  refine up_ex (P := fun d v2 => ∀ (M : MM) (tl : Int64) (v1 : Int32), Inv M → Fr [24, 26, 27, 29, 30, 31, 32, 33] [(23, 0), (23, 1), (23, 2), (23, 3)] Mb M → (0 ≤ v1 ∧ v1 < 2 ∧ v1 + (1 : Int32) = u42) → wX1_setFirst_56 post bk42 d M tl 23 v1 v2) 0 6 ?_
  intro d v2 hlo hhi rec M tl v1 hI hF hli
  unfold wX1_setFirst_56
  refine ifs (fun hc1 => ?_) (fun hc2 => ?_)
  · skip
    exact hb42 _ _ (v1 + (1 : Int32)) hI hF (by lia) trivial
  · skip
    refine And.intro (by decide) ?_
    refine And.intro (by decide) ?_
    refine And.intro (vpI (c := 2) (by decide) (by lia) (by lia)) ?_
    rcases cs2 (v := v1) (by lia) (by lia) with hs | hs <;> subst hs
    · skip
      refine And.intro (by decide) ?_
      refine And.intro (vpI (c := 6) (by decide) (by lia) (by lia)) ?_
      intro W3 hW4
      have hI5 : Inv W3 := by rw [hW4]; exact inv_set hI (i_any _)
      have hF6 : Fr [24, 26, 27, 29, 30, 31, 32, 33] [(23, 0), (23, 1), (23, 2), (23, 3)] Mb W3 := by rw [hW4]; exact fr_arr hF (by decide)
      refine And.intro (by decide) ?_
      refine And.intro (by decide) ?_
      refine And.intro (vpI (c := 2) (by decide) (by lia) (by lia)) ?_
      refine And.intro (by decide) ?_
      refine And.intro (vpI (c := 6) (by decide) (by lia) (by lia)) ?_
      intro W7 hW8
      have hI9 : Inv W7 := by rw [hW8]; exact inv_set hI5 (i_any _)
      have hF10 : Fr [24, 26, 27, 29, 30, 31, 32, 33] [(23, 0), (23, 1), (23, 2), (23, 3)] Mb W7 := by rw [hW8]; exact fr_arr hF6 (by decide)
      exact rec (by lia) _ _ (0 : Int32) hI9 hF10 (by lia)
    · skip
      refine And.intro (by decide) ?_
      refine And.intro (vpI (c := 6) (by decide) (by lia) (by lia)) ?_
      intro W11 hW12
      have hI13 : Inv W11 := by rw [hW12]; exact inv_set hI (i_any _)
      have hF14 : Fr [24, 26, 27, 29, 30, 31, 32, 33] [(23, 0), (23, 1), (23, 2), (23, 3)] Mb W11 := by rw [hW12]; exact fr_arr hF (by decide)
      refine And.intro (by decide) ?_
      refine And.intro (by decide) ?_
      refine And.intro (vpI (c := 2) (by decide) (by lia) (by lia)) ?_
      refine And.intro (by decide) ?_
      refine And.intro (vpI (c := 6) (by decide) (by lia) (by lia)) ?_
      intro W15 hW16
      have hI17 : Inv W15 := by rw [hW16]; exact inv_set hI13 (i_any _)
      have hF18 : Fr [24, 26, 27, 29, 30, 31, 32, 33] [(23, 0), (23, 1), (23, 2), (23, 3)] Mb W15 := by rw [hW16]; exact fr_arr hF14 (by decide)
      exact rec (by lia) _ _ (1 : Int32) hI17 hF18 (by lia)
set_option maxHeartbeats 4000000 in
theorem sl_X1_setFirst_42__23 {post : MM → Int64 → Prop} {Mb : MM} (hp : ∀ (M1 : MM) (t1 : Int64), Inv M1 → Fr [24, 26, 27, 29, 30, 31, 32, 33] [(23, 0), (23, 1), (23, 2), (23, 3)] Mb M1 → True → post M1 t1) : ∀ v1 : Int32, 0 ≤ v1 → v1 ≤ 2 → ∃ n, ∀ (M : MM) (tl : Int64), Inv M → Fr [24, 26, 27, 29, 30, 31, 32, 33] [(23, 0), (23, 1), (23, 2), (23, 3)] Mb M → (True) → wX1_setFirst_42 post n M tl 23 v1 := by
  refine up_ex (P := fun d v1 => ∀ (M : MM) (tl : Int64), Inv M → Fr [24, 26, 27, 29, 30, 31, 32, 33] [(23, 0), (23, 1), (23, 2), (23, 3)] Mb M → (True) → wX1_setFirst_42 post d M tl 23 v1) 0 2 ?_
  intro d v1 hlo hhi rec M tl  hI hF hli
  unfold wX1_setFirst_42
  refine ifs (fun hc1 => ?_) (fun hc2 => ?_)
  · skip
    obtain ⟨n3, hn4⟩ := sl_X1_setFirst_94__23 (Mb := Mb) hp  (0 : Int32) (by lia) (by lia)
    exact ⟨n3, hn4 _ _  hI hF trivial⟩
  · skip
    refine And.intro (by decide) ?_
    refine And.intro (by decide) ?_
    refine And.intro (vpI (c := 2) (by decide) (by lia) (by lia)) ?_
    intro W5 hW6
    have hI7 : Inv W5 := by rw [hW6]; exact inv_set hI (i_any _)
    have hF8 : Fr [24, 26, 27, 29, 30, 31, 32, 33] [(23, 0), (23, 1), (23, 2), (23, 3)] Mb W5 := by rw [hW6]; exact fr_arr hF (by decide)
    obtain ⟨n9, hn10⟩ := sl_X1_setFirst_56__23 (Mb := Mb) (u42 := v1 + (1 : Int32)) hp (fun M1 t1 v1 hJ hG hu hl => by subst hu; exact rec (by lia) M1 t1  hJ hG hl) (1 : Int32) (by lia) (by lia)
    exact ⟨n9, hn10 _ _ v1 hI7 hF8 (by lia)⟩
set_option maxHeartbeats 4000000 in
theorem sl_X1_setFirst_22__23 {post : MM → Int64 → Prop} {Mb : MM} (hp : ∀ (M1 : MM) (t1 : Int64), Inv M1 → Fr [24, 26, 27, 29, 30, 31, 32, 33] [(23, 0), (23, 1), (23, 2), (23, 3)] Mb M1 → True → post M1 t1) : ∀ v1 : Int32, 0 ≤ v1 → v1 ≤ 4 → ∃ n, ∀ (M : MM) (tl : Int64), Inv M → Fr [24, 26, 27, 29, 30, 31, 32, 33] [(23, 0), (23, 1), (23, 2), (23, 3)] Mb M → (True) → wX1_setFirst_22 post n M tl 23 v1 := by
  refine up_ex (P := fun d v1 => ∀ (M : MM) (tl : Int64), Inv M → Fr [24, 26, 27, 29, 30, 31, 32, 33] [(23, 0), (23, 1), (23, 2), (23, 3)] Mb M → (True) → wX1_setFirst_22 post d M tl 23 v1) 0 4 ?_
  intro d v1 hlo hhi rec M tl  hI hF hli
  unfold wX1_setFirst_22
  refine ifs (fun hc1 => ?_) (fun hc2 => ?_)
  · skip
    obtain ⟨n3, hn4⟩ := sl_X1_setFirst_42__23 (Mb := Mb) hp  (0 : Int32) (by lia) (by lia)
    exact ⟨n3, hn4 _ _  hI hF trivial⟩
  · skip
    refine And.intro (by decide) ?_
    refine And.intro (by decide) ?_
    refine And.intro (vpI (c := 4) (by decide) (by lia) (by lia)) ?_
    intro W5 hW6
    have hI7 : Inv W5 := by rw [hW6]; exact inv_set hI (i_any _)
    have hF8 : Fr [24, 26, 27, 29, 30, 31, 32, 33] [(23, 0), (23, 1), (23, 2), (23, 3)] Mb W5 := by rw [hW6]; exact fr_arr hF (by decide)
    exact rec (by lia) _ _  hI7 hF8 trivial
set_option maxHeartbeats 4000000 in
theorem sf_X1_setFirst__23 {post : MM → Int64 → Prop} {M : MM} {tl : Int64} (hI : Inv M) (hp : ∀ (M1 : MM) (t1 : Int64), Inv M1 → Fr [24, 26, 27, 29, 30, 31, 32, 33] [(23, 0), (23, 1), (23, 2), (23, 3)] M M1 → True → post M1 t1) : wpX1_setFirst post M tl 23 := by
  unfold wpX1_setFirst
  refine And.intro (by decide) ?_
  intro W1 hW2
  have hI3 : Inv W1 := by rw [hW2]; exact inv_set hI (show (-2147483648) ≤ (5 : Int32) ∧ (5 : Int32) ≤ 8 from ⟨by lia, by lia⟩)
  have hF4 : Fr [24, 26, 27, 29, 30, 31, 32, 33] [(23, 0), (23, 1), (23, 2), (23, 3)] M W1 := by rw [hW2]; exact fr_fld fr_rfl (by decide)
  have hv5 : W1 23 0 = (5 : Int32) := by rw [hW2]; exact mset_at _ _ _ _
  refine And.intro (by decide) ?_
  intro W6 hW7
  have hI8 : Inv W6 := by rw [hW7]; exact inv_set hI3 (i_any _)
  have hF9 : Fr [24, 26, 27, 29, 30, 31, 32, 33] [(23, 0), (23, 1), (23, 2), (23, 3)] M W6 := by rw [hW7]; exact fr_fld hF4 (by decide)
  have hv10 : W6 23 1 = (3 : Int32) := by rw [hW7]; exact mset_at _ _ _ _
  refine And.intro (by decide) ?_
  intro W11 hW12
  have hI13 : Inv W11 := by rw [hW12]; exact inv_set hI8 (i_any _)
  have hF14 : Fr [24, 26, 27, 29, 30, 31, 32, 33] [(23, 0), (23, 1), (23, 2), (23, 3)] M W11 := by rw [hW12]; exact fr_fld hF9 (by decide)
  have hv15 : W11 23 2 = (1 : Int32) := by rw [hW12]; exact mset_at _ _ _ _
  refine And.intro (by decide) ?_
  intro W16 hW17
  have hI18 : Inv W16 := by rw [hW17]; exact inv_set hI13 (i_any _)
  have hF19 : Fr [24, 26, 27, 29, 30, 31, 32, 33] [(23, 0), (23, 1), (23, 2), (23, 3)] M W16 := by rw [hW17]; exact fr_fld hF14 (by decide)
  have hv20 : W16 23 3 = (0 : Int32) := by rw [hW17]; exact mset_at _ _ _ _
  obtain ⟨n21, hn22⟩ := sl_X1_setFirst_22__23 (Mb := M) hp  (0 : Int32) (by lia) (by lia)
  exact ⟨n21, hn22 _ _  hI18 hF19 trivial⟩
set_option maxHeartbeats 4000000 in
theorem sf_X5_empty__36 {post : Int32 → MM → Int64 → Prop} {M : MM} {tl : Int64} (hI : Inv M) (hp : ∀ (r : Int32) (M1 : MM) (t1 : Int64), Inv M1 → Fr [] [(36, 3)] M M1 → True → post r M1 t1) : wpX5_empty post M tl 36 := by
  unfold wpX5_empty
  refine And.intro (by decide) ?_
  refine And.intro (by decide) ?_
  intro W1 hW2
  have hI3 : Inv W1 := by rw [hW2]; exact inv_set hI (show 0 ≤ (0 : Int32) ∧ (0 : Int32) ≤ 12 from ⟨by lia, by lia⟩)
  have hF4 : Fr [] [(36, 3)] M W1 := by rw [hW2]; exact fr_fld fr_rfl (by decide)
  have hv5 : W1 36 3 = (0 : Int32) := by rw [hW2]; exact mset_at _ _ _ _
  have hr6 := iv_36_3 hI
  exact hp _ _ _ hI3 hF4 trivial
set_option maxHeartbeats 4000000 in
theorem sf_X5_empty__38 {post : Int32 → MM → Int64 → Prop} {M : MM} {tl : Int64} (hI : Inv M) (hp : ∀ (r : Int32) (M1 : MM) (t1 : Int64), Inv M1 → Fr [] [(38, 3)] M M1 → True → post r M1 t1) : wpX5_empty post M tl 38 := by
  unfold wpX5_empty
  refine And.intro (by decide) ?_
  refine And.intro (by decide) ?_
  intro W1 hW2
  have hI3 : Inv W1 := by rw [hW2]; exact inv_set hI (show 0 ≤ (0 : Int32) ∧ (0 : Int32) ≤ 6 from ⟨by lia, by lia⟩)
  have hF4 : Fr [] [(38, 3)] M W1 := by rw [hW2]; exact fr_fld fr_rfl (by decide)
  have hv5 : W1 38 3 = (0 : Int32) := by rw [hW2]; exact mset_at _ _ _ _
  have hr6 := iv_38_3 hI
  exact hp _ _ _ hI3 hF4 trivial
set_option maxHeartbeats 4000000 in
theorem sf_X5_empty__40 {post : Int32 → MM → Int64 → Prop} {M : MM} {tl : Int64} (hI : Inv M) (hp : ∀ (r : Int32) (M1 : MM) (t1 : Int64), Inv M1 → Fr [] [(40, 3)] M M1 → True → post r M1 t1) : wpX5_empty post M tl 40 := by
  unfold wpX5_empty
  refine And.intro (by decide) ?_
  refine And.intro (by decide) ?_
  intro W1 hW2
  have hI3 : Inv W1 := by rw [hW2]; exact inv_set hI (show 0 ≤ (0 : Int32) ∧ (0 : Int32) ≤ 12 from ⟨by lia, by lia⟩)
  have hF4 : Fr [] [(40, 3)] M W1 := by rw [hW2]; exact fr_fld fr_rfl (by decide)
  have hv5 : W1 40 3 = (0 : Int32) := by rw [hW2]; exact mset_at _ _ _ _
  have hr6 := iv_40_3 hI
  exact hp _ _ _ hI3 hF4 trivial
set_option maxHeartbeats 4000000 in
theorem sl_X7_clear_2__34 {post : MM → Int64 → Prop} {Mb : MM} (hp : ∀ (M1 : MM) (t1 : Int64), Inv M1 → Fr [35] [(36, 3), (38, 3), (40, 3)] Mb M1 → True → post M1 t1) : ∀ v1 : Int32, 0 ≤ v1 → v1 ≤ 16 → ∃ n, ∀ (M : MM) (tl : Int64), Inv M → Fr [35] [(36, 3), (38, 3), (40, 3)] Mb M → (True) → wX7_clear_2 post n M tl 34 v1 := by
  refine up_ex (P := fun d v1 => ∀ (M : MM) (tl : Int64), Inv M → Fr [35] [(36, 3), (38, 3), (40, 3)] Mb M → (True) → wX7_clear_2 post d M tl 34 v1) 0 16 ?_
  intro d v1 hlo hhi rec M tl  hI hF hli
  unfold wX7_clear_2
  refine ifs (fun hc1 => ?_) (fun hc2 => ?_)
  · skip
    refine And.intro (by decide) ?_
    refine And.intro (by decide) ?_
    refine sf_X5_empty__36 hI  (fun r3 M4 t5 hI6 hF7 hq8 => ?_)
    have hF9 : Fr [35] [(36, 3), (38, 3), (40, 3)] Mb M4 := fr_call hF hF7 (by decide) (by decide)
    refine And.intro (by decide) ?_
    refine And.intro (by decide) ?_
    refine sf_X5_empty__38 hI6  (fun r10 M11 t12 hI13 hF14 hq15 => ?_)
    have hF16 : Fr [35] [(36, 3), (38, 3), (40, 3)] Mb M11 := fr_call hF9 hF14 (by decide) (by decide)
    refine And.intro (by decide) ?_
    refine And.intro (by decide) ?_
    refine sf_X5_empty__40 hI13  (fun r17 M18 t19 hI20 hF21 hq22 => ?_)
    have hF23 : Fr [35] [(36, 3), (38, 3), (40, 3)] Mb M18 := fr_call hF16 hF21 (by decide) (by decide)
    exact hp _ _ hI20 hF23 trivial
  · skip
    refine And.intro (by decide) ?_
    refine And.intro (by decide) ?_
    refine And.intro (vpI (c := 16) (by decide) (by lia) (by lia)) ?_
    intro W24 hW25
    have hI26 : Inv W24 := by rw [hW25]; exact inv_set hI (i_any _)
    have hF27 : Fr [35] [(36, 3), (38, 3), (40, 3)] Mb W24 := by rw [hW25]; exact fr_arr hF (by decide)
    exact rec (by lia) _ _  hI26 hF27 trivial
set_option maxHeartbeats 4000000 in
theorem sf_X7_clear__34 {post : MM → Int64 → Prop} {M : MM} {tl : Int64} (hI : Inv M) (hp : ∀ (M1 : MM) (t1 : Int64), Inv M1 → Fr [35] [(36, 3), (38, 3), (40, 3)] M M1 → True → post M1 t1) : wpX7_clear post M tl 34 := by
  unfold wpX7_clear
  obtain ⟨n1, hn2⟩ := sl_X7_clear_2__34 (Mb := M) hp  (0 : Int32) (by lia) (by lia)
  exact ⟨n1, hn2 _ _  hI fr_rfl trivial⟩
set_option maxHeartbeats 4000000 in
theorem sf_X4_restart {post : MM → Int64 → Prop} {M : MM} {tl : Int64} (hI : Inv M) (hp : ∀ (M1 : MM) (t1 : Int64), Inv M1 → Fr [24, 26, 27, 29, 30, 31, 32, 33, 35] [(22, 2), (22, 3), (22, 4), (22, 6), (23, 0), (23, 1), (23, 2), (23, 3), (36, 3), (38, 3), (40, 3)] M M1 → True → post M1 t1) : wpX4_restart post M tl  := by
  unfold wpX4_restart
  refine sf_X1_setFirst__23 hI  (fun M2 t3 hI4 hF5 hq6 => ?_)
  have hF7 : Fr [24, 26, 27, 29, 30, 31, 32, 33, 35] [(22, 2), (22, 3), (22, 4), (22, 6), (23, 0), (23, 1), (23, 2), (23, 3), (36, 3), (38, 3), (40, 3)] M M2 := fr_call fr_rfl hF5 (by decide) (by decide)
  refine sf_X7_clear__34 hI4  (fun M9 t10 hI11 hF12 hq13 => ?_)
  have hF14 : Fr [24, 26, 27, 29, 30, 31, 32, 33, 35] [(22, 2), (22, 3), (22, 4), (22, 6), (23, 0), (23, 1), (23, 2), (23, 3), (36, 3), (38, 3), (40, 3)] M M9 := fr_call hF7 hF12 (by decide) (by decide)
  intro W15 hW16
  have hI17 : Inv W15 := by rw [hW16]; exact inv_set hI11 (i_any _)
  have hF18 : Fr [24, 26, 27, 29, 30, 31, 32, 33, 35] [(22, 2), (22, 3), (22, 4), (22, 6), (23, 0), (23, 1), (23, 2), (23, 3), (36, 3), (38, 3), (40, 3)] M W15 := by rw [hW16]; exact fr_fld hF14 (by decide)
  have hv19 : W15 22 2 = (0 : Int32) := by rw [hW16]; exact mset_at _ _ _ _
  intro W20 hW21
  have hI22 : Inv W20 := by rw [hW21]; exact inv_set hI17 (i_any _)
  have hF23 : Fr [24, 26, 27, 29, 30, 31, 32, 33, 35] [(22, 2), (22, 3), (22, 4), (22, 6), (23, 0), (23, 1), (23, 2), (23, 3), (36, 3), (38, 3), (40, 3)] M W20 := by rw [hW21]; exact fr_fld hF18 (by decide)
  have hv24 : W20 22 3 = (0 : Int32) := by rw [hW21]; exact mset_at _ _ _ _
  intro W25 hW26
  have hI27 : Inv W25 := by rw [hW26]; exact inv_set hI22 (i_any _)
  have hF28 : Fr [24, 26, 27, 29, 30, 31, 32, 33, 35] [(22, 2), (22, 3), (22, 4), (22, 6), (23, 0), (23, 1), (23, 2), (23, 3), (36, 3), (38, 3), (40, 3)] M W25 := by rw [hW26]; exact fr_fld hF23 (by decide)
  have hv29 : W25 22 4 = (0 : Int32) := by rw [hW26]; exact mset_at _ _ _ _
  intro W30 hW31
  have hI32 : Inv W30 := by rw [hW31]; exact inv_set hI27 (show 0 ≤ (0 : Int32) ∧ (0 : Int32) ≤ 400 from ⟨by lia, by lia⟩)
  have hF33 : Fr [24, 26, 27, 29, 30, 31, 32, 33, 35] [(22, 2), (22, 3), (22, 4), (22, 6), (23, 0), (23, 1), (23, 2), (23, 3), (36, 3), (38, 3), (40, 3)] M W30 := by rw [hW31]; exact fr_fld hF28 (by decide)
  have hv34 : W30 22 6 = (0 : Int32) := by rw [hW31]; exact mset_at _ _ _ _
  exact hp _ _ hI32 hF33 trivial
set_option maxHeartbeats 4000000 in
theorem sf_X9_byteAt {post : Int32 → MM → Int64 → Prop} {M : MM} {tl : Int64} {v1 : Int32} (hI : Inv M) (hp : ∀ (r : Int32), (r = -1 ∨ (0 ≤ v1 ∧ v1 < M 1 1)) → post r M tl) : wpX9_byteAt post M tl v1 := by
  unfold wpX9_byteAt
  refine ifs (fun hc1 => ?_) (fun hc2 => ?_)
  · skip
    exact hp _ (by lia)
  · skip
    have hr3 := iv_1_1 hI
    refine ifs (fun hc4 => ?_) (fun hc5 => ?_)
    · skip
      exact hp _ (by lia)
    · skip
      refine ifs (fun hc6 => ?_) (fun hc7 => ?_)
      · skip
        exact hp _ (by lia)
      · skip
        refine And.intro (vpI (c := 400) (by decide) (by lia) (by lia)) ?_
        exact hp _ (by lia)
set_option maxHeartbeats 4000000 in
theorem sf_X4_typeOf {post : Int32 → MM → Int64 → Prop} {M : MM} {tl : Int64} {v0 : Int32} (hI : Inv M) (hp : ∀ (r : Int32), (0 ≤ r ∧ r ≤ 4 ∧ (r = 0 ∨ 0 ≤ v0)) → post r M tl) : wpX4_typeOf post M tl v0 := by
  unfold wpX4_typeOf
  refine ifs (fun hc1 => ?_) (fun hc2 => ?_)
  · skip
    refine ifs (fun hc3 => ?_) (fun hc4 => ?_)
    · skip
      unfold wX4_typeOf_20
      refine ifs (fun hc5 => ?_) (fun hc6 => ?_)
      · skip
        unfold wX4_typeOf_34
        refine ifs (fun hc7 => ?_) (fun hc8 => ?_)
        · skip
          exact hp _ (by lia)
        · skip
          exact hp _ (by lia)
      · skip
        refine ifs (fun hc9 => ?_) (fun hc10 => ?_)
        · skip
          unfold wX4_typeOf_34
          refine ifs (fun hc11 => ?_) (fun hc12 => ?_)
          · skip
            exact hp _ (by lia)
          · skip
            exact hp _ (by lia)
        · skip
          exact hp _ (by lia)
    · skip
      refine ifs (fun hc13 => ?_) (fun hc14 => ?_)
      · skip
        unfold wX4_typeOf_20
        refine ifs (fun hc15 => ?_) (fun hc16 => ?_)
        · skip
          unfold wX4_typeOf_34
          refine ifs (fun hc17 => ?_) (fun hc18 => ?_)
          · skip
            exact hp _ (by lia)
          · skip
            exact hp _ (by lia)
        · skip
          refine ifs (fun hc19 => ?_) (fun hc20 => ?_)
          · skip
            unfold wX4_typeOf_34
            refine ifs (fun hc21 => ?_) (fun hc22 => ?_)
            · skip
              exact hp _ (by lia)
            · skip
              exact hp _ (by lia)
          · skip
            exact hp _ (by lia)
      · skip
        exact hp _ (by lia)
  · skip
    exact hp _ (by lia)
set_option maxHeartbeats 4000000 in
theorem sf_X4_fail {post : Int32 → MM → Int64 → Prop} {M : MM} {tl : Int64} {v1 : Int32} {v2 : Int32} (hI : Inv M) (hp1 : v1 ≠ 0) (hp : ∀ (r : Int32) (M1 : MM) (t1 : Int64), Inv M1 → Fr [] [(22, 2), (22, 3)] M M1 → (r = -1 ∧ M1 22 2 ≠ 0) → post r M1 t1) : wpX4_fail post M tl v1 v2 := by
  unfold wpX4_fail
  intro W1 hW2
  have hI3 : Inv W1 := by rw [hW2]; exact inv_set hI (i_any _)
  have hF4 : Fr [] [(22, 2), (22, 3)] M W1 := by rw [hW2]; exact fr_fld fr_rfl (by decide)
  have hv5 : W1 22 2 = v1 := by rw [hW2]; exact mset_at _ _ _ _
  intro W6 hW7
  have hI8 : Inv W6 := by rw [hW7]; exact inv_set hI3 (i_any _)
  have hF9 : Fr [] [(22, 2), (22, 3)] M W6 := by rw [hW7]; exact fr_fld hF4 (by decide)
  have hv10 : W6 22 3 = v2 := by rw [hW7]; exact mset_at _ _ _ _
  have hx11 : W6 22 2 = W1 22 2 := by rw [hW7, mset_nk (by decide)]
  exact hp _ _ _ hI8 hF9 (by lia)
set_option maxHeartbeats 4000000 in
theorem sl_X4_takeToken_100 {post : MM → Int64 → Prop} {Mb : MM} (hp : ∀ (M1 : MM) (t1 : Int64), Inv M1 → Fr [] [(22, 2), (22, 3), (22, 6), (22, 7), (22, 8), (22, 9)] Mb M1 → (Mb 22 2 = 0 ∨ M1 22 2 ≠ 0) → post M1 t1) (hex : Mb 22 2 = 0) : ∀ (M : MM) (tl : Int64), Inv M → Fr [] [(22, 2), (22, 3), (22, 6), (22, 7), (22, 8), (22, 9)] Mb M → wX4_takeToken_100 post (400 + 1) M tl := by
  intro M tl hI hF
  refine cell_ex (P := fun d M tl => wX4_takeToken_100 post d M tl) (D := fun M => Inv M ∧ Fr [] [(22, 2), (22, 3), (22, 6), (22, 7), (22, 8), (22, 9)] Mb M) 22 6 400 (by decide) (fun M h => iv_22_6 h.1) ?_ M tl ⟨hI, hF⟩
  clear hI hF tl M
  intro d M tl hD rec
  obtain ⟨hI, hF⟩ := hD
  unfold wX4_takeToken_100
  have hr1 := iv_22_6 hI
  have hr2 := iv_1_1 hI
  refine ifs (fun hc3 => ?_) (fun hc4 => ?_)
  · skip
    unfold wX4_takeToken_202
    refine ifs (fun hc5 => ?_) (fun hc6 => ?_)
    · skip
      unfold wX4_takeToken_231
      refine sf_X4_fail hI (by lia) (fun r7 M8 t9 hI10 hF11 hq12 => ?_)
      have hF13 : Fr [] [(22, 2), (22, 3), (22, 6), (22, 7), (22, 8), (22, 9)] Mb M8 := fr_call hF hF11 (by decide) (by decide)
      exact hp _ _ hI10 hF13 (by lia)
    · skip
      refine ifs (fun hc14 => ?_) (fun hc15 => ?_)
      · skip
        refine ifs (fun hc16 => ?_) (fun hc17 => ?_)
        · skip
          exact hp _ _ hI hF (by lia)
        · skip
          unfold wX4_takeToken_231
          refine sf_X4_fail hI (by lia) (fun r18 M19 t20 hI21 hF22 hq23 => ?_)
          have hF24 : Fr [] [(22, 2), (22, 3), (22, 6), (22, 7), (22, 8), (22, 9)] Mb M19 := fr_call hF hF22 (by decide) (by decide)
          exact hp _ _ hI21 hF24 (by lia)
      · skip
        exact hp _ _ hI hF (by lia)
  · skip
    refine ifs (fun hc25 => ?_) (fun hc26 => ?_)
    · skip
      unfold wX4_takeToken_130
      refine sf_X9_byteAt hI  (fun r27 hq28 => ?_)
      have hr29 := iv_1_1 hI
      refine sf_X4_typeOf hI  (fun r30 hq31 => ?_)
      refine ifs (fun hc32 => ?_) (fun hc33 => ?_)
      · skip
        refine ifs (fun hc34 => ?_) (fun hc35 => ?_)
        · skip
          refine sf_X9_byteAt hI  (fun r36 hq37 => ?_)
          have hr38 := iv_1_1 hI
          unfold wX4_takeToken_186
          intro W39 hW40
          have hI41 : Inv W39 := by rw [hW40]; exact inv_set hI (i_any _)
          have hF42 : Fr [] [(22, 2), (22, 3), (22, 6), (22, 7), (22, 8), (22, 9)] Mb W39 := by rw [hW40]; exact fr_fld hF (by decide)
          have hv43 : W39 22 9 = ((((10 : Int32) * (M 22 9)) + r36) - (48 : Int32)) := by rw [hW40]; exact mset_at _ _ _ _
          have hx46 : W39 22 6 = M 22 6 := by rw [hW40, mset_nk (by decide)]
          have hr47 := iv_22_6 hI
          have hr48 := iv_22_6 hI41
          intro W44 hW45
          have hI49 : Inv W44 := by rw [hW45]; exact inv_set hI41 (show 0 ≤ ((W39 22 6) + (1 : Int32)) ∧ ((W39 22 6) + (1 : Int32)) ≤ 400 from ⟨by lia, by lia⟩)
          have hF50 : Fr [] [(22, 2), (22, 3), (22, 6), (22, 7), (22, 8), (22, 9)] Mb W44 := by rw [hW45]; exact fr_fld hF42 (by decide)
          have hv51 : W44 22 6 = ((W39 22 6) + (1 : Int32)) := by rw [hW45]; exact mset_at _ _ _ _
          exact rec _ _ ⟨hI49, hF50⟩ (by lia)
        · skip
          unfold wX4_takeToken_186
          intro W52 hW53
          have hI54 : Inv W52 := by rw [hW53]; exact inv_set hI (i_any _)
          have hF55 : Fr [] [(22, 2), (22, 3), (22, 6), (22, 7), (22, 8), (22, 9)] Mb W52 := by rw [hW53]; exact fr_fld hF (by decide)
          have hv56 : W52 22 9 = (0 : Int32) := by rw [hW53]; exact mset_at _ _ _ _
          have hx59 : W52 22 6 = M 22 6 := by rw [hW53, mset_nk (by decide)]
          have hr60 := iv_22_6 hI
          have hr61 := iv_22_6 hI54
          intro W57 hW58
          have hI62 : Inv W57 := by rw [hW58]; exact inv_set hI54 (show 0 ≤ ((W52 22 6) + (1 : Int32)) ∧ ((W52 22 6) + (1 : Int32)) ≤ 400 from ⟨by lia, by lia⟩)
          have hF63 : Fr [] [(22, 2), (22, 3), (22, 6), (22, 7), (22, 8), (22, 9)] Mb W57 := by rw [hW58]; exact fr_fld hF55 (by decide)
          have hv64 : W57 22 6 = ((W52 22 6) + (1 : Int32)) := by rw [hW58]; exact mset_at _ _ _ _
          exact rec _ _ ⟨hI62, hF63⟩ (by lia)
      · skip
        unfold wX4_takeToken_202
        refine ifs (fun hc65 => ?_) (fun hc66 => ?_)
        · skip
          unfold wX4_takeToken_231
          refine sf_X4_fail hI (by lia) (fun r67 M68 t69 hI70 hF71 hq72 => ?_)
          have hF73 : Fr [] [(22, 2), (22, 3), (22, 6), (22, 7), (22, 8), (22, 9)] Mb M68 := fr_call hF hF71 (by decide) (by decide)
          exact hp _ _ hI70 hF73 (by lia)
        · skip
          refine ifs (fun hc74 => ?_) (fun hc75 => ?_)
          · skip
            refine ifs (fun hc76 => ?_) (fun hc77 => ?_)
            · skip
              exact hp _ _ hI hF (by lia)
            · skip
              unfold wX4_takeToken_231
              refine sf_X4_fail hI (by lia) (fun r78 M79 t80 hI81 hF82 hq83 => ?_)
              have hF84 : Fr [] [(22, 2), (22, 3), (22, 6), (22, 7), (22, 8), (22, 9)] Mb M79 := fr_call hF hF82 (by decide) (by decide)
              exact hp _ _ hI81 hF84 (by lia)
          · skip
            exact hp _ _ hI hF (by lia)
    · skip
      refine ifs (fun hc85 => ?_) (fun hc86 => ?_)
      · skip
        unfold wX4_takeToken_130
        refine sf_X9_byteAt hI  (fun r87 hq88 => ?_)
        have hr89 := iv_1_1 hI
        refine sf_X4_typeOf hI  (fun r90 hq91 => ?_)
        refine ifs (fun hc92 => ?_) (fun hc93 => ?_)
        · skip
          refine ifs (fun hc94 => ?_) (fun hc95 => ?_)
          · skip
            refine sf_X9_byteAt hI  (fun r96 hq97 => ?_)
            have hr98 := iv_1_1 hI
            unfold wX4_takeToken_186
            intro W99 hW100
            have hI101 : Inv W99 := by rw [hW100]; exact inv_set hI (i_any _)
            have hF102 : Fr [] [(22, 2), (22, 3), (22, 6), (22, 7), (22, 8), (22, 9)] Mb W99 := by rw [hW100]; exact fr_fld hF (by decide)
            have hv103 : W99 22 9 = ((((10 : Int32) * (M 22 9)) + r96) - (48 : Int32)) := by rw [hW100]; exact mset_at _ _ _ _
            have hx106 : W99 22 6 = M 22 6 := by rw [hW100, mset_nk (by decide)]
            have hr107 := iv_22_6 hI
            have hr108 := iv_22_6 hI101
            intro W104 hW105
            have hI109 : Inv W104 := by rw [hW105]; exact inv_set hI101 (show 0 ≤ ((W99 22 6) + (1 : Int32)) ∧ ((W99 22 6) + (1 : Int32)) ≤ 400 from ⟨by lia, by lia⟩)
            have hF110 : Fr [] [(22, 2), (22, 3), (22, 6), (22, 7), (22, 8), (22, 9)] Mb W104 := by rw [hW105]; exact fr_fld hF102 (by decide)
            have hv111 : W104 22 6 = ((W99 22 6) + (1 : Int32)) := by rw [hW105]; exact mset_at _ _ _ _
            exact rec _ _ ⟨hI109, hF110⟩ (by lia)
          · skip
            unfold wX4_takeToken_186
            intro W112 hW113
            have hI114 : Inv W112 := by rw [hW113]; exact inv_set hI (i_any _)
            have hF115 : Fr [] [(22, 2), (22, 3), (22, 6), (22, 7), (22, 8), (22, 9)] Mb W112 := by rw [hW113]; exact fr_fld hF (by decide)
            have hv116 : W112 22 9 = (0 : Int32) := by rw [hW113]; exact mset_at _ _ _ _
            have hx119 : W112 22 6 = M 22 6 := by rw [hW113, mset_nk (by decide)]
            have hr120 := iv_22_6 hI
            have hr121 := iv_22_6 hI114
            intro W117 hW118
            have hI122 : Inv W117 := by rw [hW118]; exact inv_set hI114 (show 0 ≤ ((W112 22 6) + (1 : Int32)) ∧ ((W112 22 6) + (1 : Int32)) ≤ 400 from ⟨by lia, by lia⟩)
            have hF123 : Fr [] [(22, 2), (22, 3), (22, 6), (22, 7), (22, 8), (22, 9)] Mb W117 := by rw [hW118]; exact fr_fld hF115 (by decide)
            have hv124 : W117 22 6 = ((W112 22 6) + (1 : Int32)) := by rw [hW118]; exact mset_at _ _ _ _
            exact rec _ _ ⟨hI122, hF123⟩ (by lia)
        · skip
          unfold wX4_takeToken_202
          refine ifs (fun hc125 => ?_) (fun hc126 => ?_)
          · skip
            unfold wX4_takeToken_231
            refine sf_X4_fail hI (by lia) (fun r127 M128 t129 hI130 hF131 hq132 => ?_)
            have hF133 : Fr [] [(22, 2), (22, 3), (22, 6), (22, 7), (22, 8), (22, 9)] Mb M128 := fr_call hF hF131 (by decide) (by decide)
            exact hp _ _ hI130 hF133 (by lia)
          · skip
            refine ifs (fun hc134 => ?_) (fun hc135 => ?_)
            · skip
              refine ifs (fun hc136 => ?_) (fun hc137 => ?_)
              · skip
                exact hp _ _ hI hF (by lia)
              · skip
                unfold wX4_takeToken_231
                refine sf_X4_fail hI (by lia) (fun r138 M139 t140 hI141 hF142 hq143 => ?_)
                have hF144 : Fr [] [(22, 2), (22, 3), (22, 6), (22, 7), (22, 8), (22, 9)] Mb M139 := fr_call hF hF142 (by decide) (by decide)
                exact hp _ _ hI141 hF144 (by lia)
            · skip
              exact hp _ _ hI hF (by lia)
      · skip
        unfold wX4_takeToken_202
        refine ifs (fun hc145 => ?_) (fun hc146 => ?_)
        · skip
          unfold wX4_takeToken_231
          refine sf_X4_fail hI (by lia) (fun r147 M148 t149 hI150 hF151 hq152 => ?_)
          have hF153 : Fr [] [(22, 2), (22, 3), (22, 6), (22, 7), (22, 8), (22, 9)] Mb M148 := fr_call hF hF151 (by decide) (by decide)
          exact hp _ _ hI150 hF153 (by lia)
        · skip
          refine ifs (fun hc154 => ?_) (fun hc155 => ?_)
          · skip
            refine ifs (fun hc156 => ?_) (fun hc157 => ?_)
            · skip
              exact hp _ _ hI hF (by lia)
            · skip
              unfold wX4_takeToken_231
              refine sf_X4_fail hI (by lia) (fun r158 M159 t160 hI161 hF162 hq163 => ?_)
              have hF164 : Fr [] [(22, 2), (22, 3), (22, 6), (22, 7), (22, 8), (22, 9)] Mb M159 := fr_call hF hF162 (by decide) (by decide)
              exact hp _ _ hI161 hF164 (by lia)
          · skip
            exact hp _ _ hI hF (by lia)
set_option maxHeartbeats 4000000 in
theorem sl_X4_takeToken_8 {post : MM → Int64 → Prop} {Mb : MM} (hp : ∀ (M1 : MM) (t1 : Int64), Inv M1 → Fr [] [(22, 2), (22, 3), (22, 6), (22, 7), (22, 8), (22, 9)] Mb M1 → (Mb 22 2 = 0 ∨ M1 22 2 ≠ 0) → post M1 t1) (hex : Mb 22 2 = 0) : ∀ (M : MM) (tl : Int64), Inv M → Fr [] [(22, 2), (22, 3), (22, 6), (22, 7), (22, 8), (22, 9)] Mb M → wX4_takeToken_8 post (400 + 1) M tl := by
  intro M tl hI hF
  refine cell_ex (P := fun d M tl => wX4_takeToken_8 post d M tl) (D := fun M => Inv M ∧ Fr [] [(22, 2), (22, 3), (22, 6), (22, 7), (22, 8), (22, 9)] Mb M) 22 6 400 (by decide) (fun M h => iv_22_6 h.1) ?_ M tl ⟨hI, hF⟩
  clear hI hF tl M
  intro d M tl hD rec
  obtain ⟨hI, hF⟩ := hD
  unfold wX4_takeToken_8
  have hr1 := iv_22_6 hI
  have hr2 := iv_1_1 hI
  refine ifs (fun hc3 => ?_) (fun hc4 => ?_)
  · skip
    unfold wX4_takeToken_51
    intro W5 hW6
    have hI7 : Inv W5 := by rw [hW6]; exact inv_set hI (i_any _)
    have hF8 : Fr [] [(22, 2), (22, 3), (22, 6), (22, 7), (22, 8), (22, 9)] Mb W5 := by rw [hW6]; exact fr_fld hF (by decide)
    have hv9 : W5 22 7 = (M 22 6) := by rw [hW6]; exact mset_at _ _ _ _
    have hx10 : W5 22 6 = M 22 6 := by rw [hW6, mset_nk (by decide)]
    have hr11 := iv_22_6 hI
    have hr12 := iv_22_6 hI7
    refine sf_X9_byteAt hI7  (fun r13 hq14 => ?_)
    have hr15 := iv_1_1 hI7
    refine sf_X4_typeOf hI7  (fun r16 hq17 => ?_)
    intro W18 hW19
    have hI20 : Inv W18 := by rw [hW19]; exact inv_set hI7 (i_any _)
    have hF21 : Fr [] [(22, 2), (22, 3), (22, 6), (22, 7), (22, 8), (22, 9)] Mb W18 := by rw [hW19]; exact fr_fld hF8 (by decide)
    have hv22 : W18 22 8 = r16 := by rw [hW19]; exact mset_at _ _ _ _
    intro W23 hW24
    have hI25 : Inv W23 := by rw [hW24]; exact inv_set hI20 (i_any _)
    have hF26 : Fr [] [(22, 2), (22, 3), (22, 6), (22, 7), (22, 8), (22, 9)] Mb W23 := by rw [hW24]; exact fr_fld hF21 (by decide)
    have hv27 : W23 22 9 = (0 : Int32) := by rw [hW24]; exact mset_at _ _ _ _
    have hx28 : W23 22 8 = W18 22 8 := by rw [hW24, mset_nk (by decide)]
    refine ifs (fun hc29 => ?_) (fun hc30 => ?_)
    · skip
      have hx33 : W23 22 6 = W18 22 6 := by rw [hW24, mset_nk (by decide)]
      have hr34 := iv_22_6 hI20
      have hx35 : W18 22 6 = W5 22 6 := by rw [hW19, mset_nk (by decide)]
      have hr36 := iv_22_6 hI7
      have hx37 : W5 22 6 = M 22 6 := by rw [hW6, mset_nk (by decide)]
      have hr38 := iv_22_6 hI
      have hr39 := iv_22_6 hI25
      intro W31 hW32
      have hI40 : Inv W31 := by rw [hW32]; exact inv_set hI25 (show 0 ≤ ((W23 22 6) + (1 : Int32)) ∧ ((W23 22 6) + (1 : Int32)) ≤ 400 from ⟨by lia, by lia⟩)
      have hF41 : Fr [] [(22, 2), (22, 3), (22, 6), (22, 7), (22, 8), (22, 9)] Mb W31 := by rw [hW32]; exact fr_fld hF26 (by decide)
      have hv42 : W31 22 6 = ((W23 22 6) + (1 : Int32)) := by rw [hW32]; exact mset_at _ _ _ _
      exact ⟨400 + 1, sl_X4_takeToken_100 (Mb := Mb) hp (by lia) _ _ hI40 hF41⟩
    · skip
      exact ⟨400 + 1, sl_X4_takeToken_100 (Mb := Mb) hp (by lia) _ _ hI25 hF26⟩
  · skip
    refine sf_X9_byteAt hI  (fun r43 hq44 => ?_)
    have hr45 := iv_1_1 hI
    refine ifs (fun hc46 => ?_) (fun hc47 => ?_)
    · skip
      intro W48 hW49
      have hI50 : Inv W48 := by rw [hW49]; exact inv_set hI (show 0 ≤ ((M 22 6) + (1 : Int32)) ∧ ((M 22 6) + (1 : Int32)) ≤ 400 from ⟨by lia, by lia⟩)
      have hF51 : Fr [] [(22, 2), (22, 3), (22, 6), (22, 7), (22, 8), (22, 9)] Mb W48 := by rw [hW49]; exact fr_fld hF (by decide)
      have hv52 : W48 22 6 = ((M 22 6) + (1 : Int32)) := by rw [hW49]; exact mset_at _ _ _ _
      exact rec _ _ ⟨hI50, hF51⟩ (by lia)
    · skip
      unfold wX4_takeToken_51
      intro W53 hW54
      have hI55 : Inv W53 := by rw [hW54]; exact inv_set hI (i_any _)
      have hF56 : Fr [] [(22, 2), (22, 3), (22, 6), (22, 7), (22, 8), (22, 9)] Mb W53 := by rw [hW54]; exact fr_fld hF (by decide)
      have hv57 : W53 22 7 = (M 22 6) := by rw [hW54]; exact mset_at _ _ _ _
      have hx58 : W53 22 6 = M 22 6 := by rw [hW54, mset_nk (by decide)]
      have hr59 := iv_22_6 hI
      have hr60 := iv_22_6 hI55
      refine sf_X9_byteAt hI55  (fun r61 hq62 => ?_)
      have hr63 := iv_1_1 hI55
      refine sf_X4_typeOf hI55  (fun r64 hq65 => ?_)
      intro W66 hW67
      have hI68 : Inv W66 := by rw [hW67]; exact inv_set hI55 (i_any _)
      have hF69 : Fr [] [(22, 2), (22, 3), (22, 6), (22, 7), (22, 8), (22, 9)] Mb W66 := by rw [hW67]; exact fr_fld hF56 (by decide)
      have hv70 : W66 22 8 = r64 := by rw [hW67]; exact mset_at _ _ _ _
      intro W71 hW72
      have hI73 : Inv W71 := by rw [hW72]; exact inv_set hI68 (i_any _)
      have hF74 : Fr [] [(22, 2), (22, 3), (22, 6), (22, 7), (22, 8), (22, 9)] Mb W71 := by rw [hW72]; exact fr_fld hF69 (by decide)
      have hv75 : W71 22 9 = (0 : Int32) := by rw [hW72]; exact mset_at _ _ _ _
      have hx76 : W71 22 8 = W66 22 8 := by rw [hW72, mset_nk (by decide)]
      refine ifs (fun hc77 => ?_) (fun hc78 => ?_)
      · skip
        have hx81 : W71 22 6 = W66 22 6 := by rw [hW72, mset_nk (by decide)]
        have hr82 := iv_22_6 hI68
        have hx83 : W66 22 6 = W53 22 6 := by rw [hW67, mset_nk (by decide)]
        have hr84 := iv_22_6 hI55
        have hx85 : W53 22 6 = M 22 6 := by rw [hW54, mset_nk (by decide)]
        have hr86 := iv_22_6 hI
        have hr87 := iv_22_6 hI73
        intro W79 hW80
        have hI88 : Inv W79 := by rw [hW80]; exact inv_set hI73 (show 0 ≤ ((W71 22 6) + (1 : Int32)) ∧ ((W71 22 6) + (1 : Int32)) ≤ 400 from ⟨by lia, by lia⟩)
        have hF89 : Fr [] [(22, 2), (22, 3), (22, 6), (22, 7), (22, 8), (22, 9)] Mb W79 := by rw [hW80]; exact fr_fld hF74 (by decide)
        have hv90 : W79 22 6 = ((W71 22 6) + (1 : Int32)) := by rw [hW80]; exact mset_at _ _ _ _
        exact ⟨400 + 1, sl_X4_takeToken_100 (Mb := Mb) hp (by lia) _ _ hI88 hF89⟩
      · skip
        exact ⟨400 + 1, sl_X4_takeToken_100 (Mb := Mb) hp (by lia) _ _ hI73 hF74⟩
set_option maxHeartbeats 4000000 in
theorem sf_X4_takeToken {post : MM → Int64 → Prop} {M : MM} {tl : Int64} (hI : Inv M) (hp : ∀ (M1 : MM) (t1 : Int64), Inv M1 → Fr [] [(22, 2), (22, 3), (22, 6), (22, 7), (22, 8), (22, 9)] M M1 → (M 22 2 = 0 ∨ M1 22 2 ≠ 0) → post M1 t1) : wpX4_takeToken post M tl  := by
  unfold wpX4_takeToken
  refine ifs (fun hc1 => ?_) (fun hc2 => ?_)
  · skip
    exact ⟨400 + 1, sl_X4_takeToken_8 (Mb := M) hp (by lia) _ _ hI fr_rfl⟩
  · skip
    exact hp _ _ hI fr_rfl (by lia)
set_option maxHeartbeats 4000000 in
theorem sf_X5_cell__36 {post : Int32 → MM → Int64 → Prop} {M : MM} {tl : Int64} {v1 : Int32} {v2 : Int32} (hI : Inv M) (hp : ∀ (r : Int32), True → post r M tl) : wpX5_cell post M tl 36 v1 v2 := by
  unfold wpX5_cell
  simp only [Nat.reduceAdd, ln_wd_36]
  refine ifs (fun hc1 => ?_) (fun hc2 => ?_)
  · skip
    exact hp _ trivial
  · skip
    refine And.intro (by decide) ?_
    have hr3 := iv_36_3 hI
    refine ifs (fun hc4 => ?_) (fun hc5 => ?_)
    · skip
      exact hp _ trivial
    · skip
      refine ifs (fun hc6 => ?_) (fun hc7 => ?_)
      · skip
        exact hp _ trivial
      · skip
        refine And.intro (by decide) ?_
        refine ifs (fun hc8 => ?_) (fun hc9 => ?_)
        · skip
          refine And.intro (by decide) ?_
          refine And.intro (by decide) ?_
          refine And.intro (by decide) ?_
          refine And.intro (vpI (c := 48) (by decide) (by lia) (by lia)) ?_
          exact hp _ trivial
        · skip
          exact hp _ trivial
set_option maxHeartbeats 4000000 in
theorem sl_X4_allLotsAre_57 {post : Int32 → MM → Int64 → Prop} {M : MM} {tl : Int64} (hp : ∀ (r : Int32), (r = 0 ∨ r = 1) → post r M tl) (hI : Inv M) : ∀ v1 : Int32, 0 ≤ v1 → v1 ≤ 12 → ∃ n, (True) → wX4_allLotsAre_57 post n M tl v1 := by
  refine up_ex (P := fun d v1 => (True) → wX4_allLotsAre_57 post d M tl v1) 0 12 ?_
  intro d v1 hlo hhi rec  hli
  unfold wX4_allLotsAre_57
  have hr1 := iv_36_3 hI
  refine ifs (fun hc2 => ?_) (fun hc3 => ?_)
  · skip
    exact hp _ (by lia)
  · skip
    refine sf_X5_cell__36 hI  (fun r4 hq5 => ?_)
    have hr6 := iv_23_0 hI
    refine ifs (fun hc7 => ?_) (fun hc8 => ?_)
    · skip
      exact rec (by lia)  trivial
    · skip
      exact hp _ (by lia)
set_option maxHeartbeats 4000000 in
theorem sl_X4_allLotsAre_15 {post : Int32 → MM → Int64 → Prop} {bk2 : MM → Int64 → Int32 → Prop} {u2 : Int32} {M : MM} {tl : Int64} (hp : ∀ (r : Int32), (r = 0 ∨ r = 1) → post r M tl) (hb2 : ∀ (v1 : Int32), v1 = u2 → True → bk2 M tl v1) (hI : Inv M) : ∀ v2 : Int32, (-2147483648) ≤ v2 → v2 ≤ 8 → ∃ n, ∀ (v1 : Int32), (0 ≤ v1 ∧ v1 < 2 ∧ v1 + (1 : Int32) = u2) → wX4_allLotsAre_15 post bk2 n M tl v1 v2 := by
  refine up_ex (P := fun d v2 => ∀ (v1 : Int32), (0 ≤ v1 ∧ v1 < 2 ∧ v1 + (1 : Int32) = u2) → wX4_allLotsAre_15 post bk2 d M tl v1 v2) (-2147483648) 8 ?_
  intro d v2 hlo hhi rec v1 hli
  unfold wX4_allLotsAre_15
  refine ifs (fun hc1 => ?_) (fun hc2 => ?_)
  · skip
    exact hb2 (v1 + (1 : Int32)) (by lia) trivial
  · skip
    refine sf_X10_slot hI  (fun r3 hq4 => ?_)
    refine ifs (fun hc5 => ?_) (fun hc6 => ?_)
    · skip
      exact rec (by lia) v1 (by lia)
    · skip
      exact hp _ (by lia)
set_option maxHeartbeats 4000000 in
theorem sl_X4_allLotsAre_2 {post : Int32 → MM → Int64 → Prop} {M : MM} {tl : Int64} (hp : ∀ (r : Int32), (r = 0 ∨ r = 1) → post r M tl) (hI : Inv M) : ∀ v1 : Int32, 0 ≤ v1 → v1 ≤ 2 → ∃ n, (True) → wX4_allLotsAre_2 post n M tl v1 := by
  refine up_ex (P := fun d v1 => (True) → wX4_allLotsAre_2 post d M tl v1) 0 2 ?_
  intro d v1 hlo hhi rec  hli
  unfold wX4_allLotsAre_2
  refine ifs (fun hc1 => ?_) (fun hc2 => ?_)
  · skip
    obtain ⟨n3, hn4⟩ := sl_X4_allLotsAre_57 (M := M) (tl := tl) hp  hI (0 : Int32) (by lia) (by lia)
    exact ⟨n3, hn4  trivial⟩
  · skip
    have hr5 := iv_23_0 hI
    obtain ⟨n6, hn7⟩ := sl_X4_allLotsAre_15 (M := M) (tl := tl) (u2 := v1 + (1 : Int32)) hp (fun v1 hu hl => by subst hu; exact rec (by lia)  hl) hI (M 23 0) (by lia) (by lia)
    exact ⟨n6, hn7 v1 (by lia)⟩
set_option maxHeartbeats 4000000 in
theorem sf_X4_allLotsAre {post : Int32 → MM → Int64 → Prop} {M : MM} {tl : Int64} (hI : Inv M) (hp : ∀ (r : Int32), (r = 0 ∨ r = 1) → post r M tl) : wpX4_allLotsAre post M tl  := by
  unfold wpX4_allLotsAre
  obtain ⟨n1, hn2⟩ := sl_X4_allLotsAre_2 (M := M) (tl := tl) hp  hI (0 : Int32) (by lia) (by lia)
  exact ⟨n1, hn2  trivial⟩
theorem na_0_65 {post : Int32 → MM → Int64 → Prop} {M : MM} {tl : Int64} (hI : Inv M) (hp : ∀ (r : Int32), (-1 ≤ r ∧ r ≤ 11) → post r M tl) (v2 v3 v4 : Int32) (h : 0 ≤ v2 ∧ v2 ≤ 12) : wX4_nameAmong_25 post (0 + 1) M tl 0 v2 v3 v4 65 := by
  unfold wX4_nameAmong_25
  exact And.intro (by decide) (ifp (by decide) (hp _ (by decide)))
theorem na_0_64 {post : Int32 → MM → Int64 → Prop} {M : MM} {tl : Int64} (hI : Inv M) (hp : ∀ (r : Int32), (-1 ≤ r ∧ r ≤ 11) → post r M tl) (v2 v3 v4 : Int32) (h : 0 ≤ v2 ∧ v2 ≤ 11) : wX4_nameAmong_25 post (1 + 1) M tl 0 v2 v3 v4 64 := by
  unfold wX4_nameAmong_25
  refine And.intro (by decide) (ifn (by decide) (And.intro (by decide) (ifp (by decide) ?_)))
  unfold wX4_nameAmong_54
  have q : wX4_nameAmong_69 post (wX4_nameAmong_25 post 1) M tl 0 v2 64 := by
    unfold wX4_nameAmong_69
    refine ifs (fun _ => ?_) (fun _ => ?_)
    · exact na_0_65 hI hp (v2 + 1) (M 22 7) (1) (by lia)
    · exact na_0_65 hI hp (v2 + 1) (M 22 7) (0) (by lia)
  exact ifs (fun _ => q) (fun _ => ifs (fun _ => hp _ (by lia)) (fun _ => q))
theorem na_0_63 {post : Int32 → MM → Int64 → Prop} {M : MM} {tl : Int64} (hI : Inv M) (hp : ∀ (r : Int32), (-1 ≤ r ∧ r ≤ 11) → post r M tl) (v2 v3 v4 : Int32) (h : 0 ≤ v2 ∧ v2 ≤ 11) : wX4_nameAmong_25 post (2 + 1) M tl 0 v2 v3 v4 63 := by
  unfold wX4_nameAmong_25
  refine And.intro (by decide) (ifn (by decide) (And.intro (by decide) (ifn (by decide) (And.intro (by decide) (And.intro (by unfold vp_in; decide) ?_)))))
  refine ifn (by decide) ?_
  have q : wX4_nameAmong_129 post (wX4_nameAmong_25 post 2) M tl 0 v2 v3 63 := na_0_64 hI hp (v2) (v3 + 1) (0) (by lia)
  refine ifs (fun _ => q) (fun _ => ifs (fun _ => q) (fun _ => And.intro (by decide) (And.intro (by unfold vp_in; decide) ?_)))
  refine sf_X9_byteAt hI (fun r _ => ifs (fun _ => ?_) (fun _ => q))
  exact na_0_64 hI hp (v2) (v3 + 1) (1) (by lia)
theorem na_0_62 {post : Int32 → MM → Int64 → Prop} {M : MM} {tl : Int64} (hI : Inv M) (hp : ∀ (r : Int32), (-1 ≤ r ∧ r ≤ 11) → post r M tl) (v2 v3 v4 : Int32) (h : 0 ≤ v2 ∧ v2 ≤ 11) : wX4_nameAmong_25 post (3 + 1) M tl 0 v2 v3 v4 62 := by
  unfold wX4_nameAmong_25
  refine And.intro (by decide) (ifn (by decide) (And.intro (by decide) (ifn (by decide) (And.intro (by decide) (And.intro (by unfold vp_in; decide) ?_)))))
  refine ifn (by decide) ?_
  have q : wX4_nameAmong_129 post (wX4_nameAmong_25 post 3) M tl 0 v2 v3 62 := na_0_63 hI hp (v2) (v3 + 1) (0) (by lia)
  refine ifs (fun _ => q) (fun _ => ifs (fun _ => q) (fun _ => And.intro (by decide) (And.intro (by unfold vp_in; decide) ?_)))
  refine sf_X9_byteAt hI (fun r _ => ifs (fun _ => ?_) (fun _ => q))
  exact na_0_63 hI hp (v2) (v3 + 1) (1) (by lia)
theorem na_0_61 {post : Int32 → MM → Int64 → Prop} {M : MM} {tl : Int64} (hI : Inv M) (hp : ∀ (r : Int32), (-1 ≤ r ∧ r ≤ 11) → post r M tl) (v2 v3 v4 : Int32) (h : 0 ≤ v2 ∧ v2 ≤ 11) : wX4_nameAmong_25 post (4 + 1) M tl 0 v2 v3 v4 61 := by
  unfold wX4_nameAmong_25
  refine And.intro (by decide) (ifn (by decide) (And.intro (by decide) (ifn (by decide) (And.intro (by decide) (And.intro (by unfold vp_in; decide) ?_)))))
  refine ifn (by decide) ?_
  have q : wX4_nameAmong_129 post (wX4_nameAmong_25 post 4) M tl 0 v2 v3 61 := na_0_62 hI hp (v2) (v3 + 1) (0) (by lia)
  refine ifs (fun _ => q) (fun _ => ifs (fun _ => q) (fun _ => And.intro (by decide) (And.intro (by unfold vp_in; decide) ?_)))
  refine sf_X9_byteAt hI (fun r _ => ifs (fun _ => ?_) (fun _ => q))
  exact na_0_62 hI hp (v2) (v3 + 1) (1) (by lia)
theorem na_0_60 {post : Int32 → MM → Int64 → Prop} {M : MM} {tl : Int64} (hI : Inv M) (hp : ∀ (r : Int32), (-1 ≤ r ∧ r ≤ 11) → post r M tl) (v2 v3 v4 : Int32) (h : 0 ≤ v2 ∧ v2 ≤ 11) : wX4_nameAmong_25 post (5 + 1) M tl 0 v2 v3 v4 60 := by
  unfold wX4_nameAmong_25
  refine And.intro (by decide) (ifn (by decide) (And.intro (by decide) (ifn (by decide) (And.intro (by decide) (And.intro (by unfold vp_in; decide) ?_)))))
  refine ifn (by decide) ?_
  have q : wX4_nameAmong_129 post (wX4_nameAmong_25 post 5) M tl 0 v2 v3 60 := na_0_61 hI hp (v2) (v3 + 1) (0) (by lia)
  refine ifs (fun _ => q) (fun _ => ifs (fun _ => q) (fun _ => And.intro (by decide) (And.intro (by unfold vp_in; decide) ?_)))
  refine sf_X9_byteAt hI (fun r _ => ifs (fun _ => ?_) (fun _ => q))
  exact na_0_61 hI hp (v2) (v3 + 1) (1) (by lia)
theorem na_0_59 {post : Int32 → MM → Int64 → Prop} {M : MM} {tl : Int64} (hI : Inv M) (hp : ∀ (r : Int32), (-1 ≤ r ∧ r ≤ 11) → post r M tl) (v2 v3 v4 : Int32) (h : 0 ≤ v2 ∧ v2 ≤ 10) : wX4_nameAmong_25 post (6 + 1) M tl 0 v2 v3 v4 59 := by
  unfold wX4_nameAmong_25
  refine And.intro (by decide) (ifn (by decide) (And.intro (by decide) (ifn (by decide) (And.intro (by decide) (And.intro (by unfold vp_in; decide) ?_)))))
  refine ifp (by decide) ?_
  unfold wX4_nameAmong_54
  have q : wX4_nameAmong_69 post (wX4_nameAmong_25 post 6) M tl 0 v2 59 := by
    unfold wX4_nameAmong_69
    refine ifs (fun _ => ?_) (fun _ => ?_)
    · exact na_0_60 hI hp (v2 + 1) (M 22 7) (1) (by lia)
    · exact na_0_60 hI hp (v2 + 1) (M 22 7) (0) (by lia)
  exact ifs (fun _ => q) (fun _ => ifs (fun _ => hp _ (by lia)) (fun _ => q))
theorem na_0_58 {post : Int32 → MM → Int64 → Prop} {M : MM} {tl : Int64} (hI : Inv M) (hp : ∀ (r : Int32), (-1 ≤ r ∧ r ≤ 11) → post r M tl) (v2 v3 v4 : Int32) (h : 0 ≤ v2 ∧ v2 ≤ 10) : wX4_nameAmong_25 post (7 + 1) M tl 0 v2 v3 v4 58 := by
  unfold wX4_nameAmong_25
  refine And.intro (by decide) (ifn (by decide) (And.intro (by decide) (ifn (by decide) (And.intro (by decide) (And.intro (by unfold vp_in; decide) ?_)))))
  refine ifn (by decide) ?_
  have q : wX4_nameAmong_129 post (wX4_nameAmong_25 post 7) M tl 0 v2 v3 58 := na_0_59 hI hp (v2) (v3 + 1) (0) (by lia)
  refine ifs (fun _ => q) (fun _ => ifs (fun _ => q) (fun _ => And.intro (by decide) (And.intro (by unfold vp_in; decide) ?_)))
  refine sf_X9_byteAt hI (fun r _ => ifs (fun _ => ?_) (fun _ => q))
  exact na_0_59 hI hp (v2) (v3 + 1) (1) (by lia)
theorem na_0_57 {post : Int32 → MM → Int64 → Prop} {M : MM} {tl : Int64} (hI : Inv M) (hp : ∀ (r : Int32), (-1 ≤ r ∧ r ≤ 11) → post r M tl) (v2 v3 v4 : Int32) (h : 0 ≤ v2 ∧ v2 ≤ 10) : wX4_nameAmong_25 post (8 + 1) M tl 0 v2 v3 v4 57 := by
  unfold wX4_nameAmong_25
  refine And.intro (by decide) (ifn (by decide) (And.intro (by decide) (ifn (by decide) (And.intro (by decide) (And.intro (by unfold vp_in; decide) ?_)))))
  refine ifn (by decide) ?_
  have q : wX4_nameAmong_129 post (wX4_nameAmong_25 post 8) M tl 0 v2 v3 57 := na_0_58 hI hp (v2) (v3 + 1) (0) (by lia)
  refine ifs (fun _ => q) (fun _ => ifs (fun _ => q) (fun _ => And.intro (by decide) (And.intro (by unfold vp_in; decide) ?_)))
  refine sf_X9_byteAt hI (fun r _ => ifs (fun _ => ?_) (fun _ => q))
  exact na_0_58 hI hp (v2) (v3 + 1) (1) (by lia)
theorem na_0_56 {post : Int32 → MM → Int64 → Prop} {M : MM} {tl : Int64} (hI : Inv M) (hp : ∀ (r : Int32), (-1 ≤ r ∧ r ≤ 11) → post r M tl) (v2 v3 v4 : Int32) (h : 0 ≤ v2 ∧ v2 ≤ 10) : wX4_nameAmong_25 post (9 + 1) M tl 0 v2 v3 v4 56 := by
  unfold wX4_nameAmong_25
  refine And.intro (by decide) (ifn (by decide) (And.intro (by decide) (ifn (by decide) (And.intro (by decide) (And.intro (by unfold vp_in; decide) ?_)))))
  refine ifn (by decide) ?_
  have q : wX4_nameAmong_129 post (wX4_nameAmong_25 post 9) M tl 0 v2 v3 56 := na_0_57 hI hp (v2) (v3 + 1) (0) (by lia)
  refine ifs (fun _ => q) (fun _ => ifs (fun _ => q) (fun _ => And.intro (by decide) (And.intro (by unfold vp_in; decide) ?_)))
  refine sf_X9_byteAt hI (fun r _ => ifs (fun _ => ?_) (fun _ => q))
  exact na_0_57 hI hp (v2) (v3 + 1) (1) (by lia)
theorem na_0_55 {post : Int32 → MM → Int64 → Prop} {M : MM} {tl : Int64} (hI : Inv M) (hp : ∀ (r : Int32), (-1 ≤ r ∧ r ≤ 11) → post r M tl) (v2 v3 v4 : Int32) (h : 0 ≤ v2 ∧ v2 ≤ 10) : wX4_nameAmong_25 post (10 + 1) M tl 0 v2 v3 v4 55 := by
  unfold wX4_nameAmong_25
  refine And.intro (by decide) (ifn (by decide) (And.intro (by decide) (ifn (by decide) (And.intro (by decide) (And.intro (by unfold vp_in; decide) ?_)))))
  refine ifn (by decide) ?_
  have q : wX4_nameAmong_129 post (wX4_nameAmong_25 post 10) M tl 0 v2 v3 55 := na_0_56 hI hp (v2) (v3 + 1) (0) (by lia)
  refine ifs (fun _ => q) (fun _ => ifs (fun _ => q) (fun _ => And.intro (by decide) (And.intro (by unfold vp_in; decide) ?_)))
  refine sf_X9_byteAt hI (fun r _ => ifs (fun _ => ?_) (fun _ => q))
  exact na_0_56 hI hp (v2) (v3 + 1) (1) (by lia)
theorem na_0_54 {post : Int32 → MM → Int64 → Prop} {M : MM} {tl : Int64} (hI : Inv M) (hp : ∀ (r : Int32), (-1 ≤ r ∧ r ≤ 11) → post r M tl) (v2 v3 v4 : Int32) (h : 0 ≤ v2 ∧ v2 ≤ 10) : wX4_nameAmong_25 post (11 + 1) M tl 0 v2 v3 v4 54 := by
  unfold wX4_nameAmong_25
  refine And.intro (by decide) (ifn (by decide) (And.intro (by decide) (ifn (by decide) (And.intro (by decide) (And.intro (by unfold vp_in; decide) ?_)))))
  refine ifn (by decide) ?_
  have q : wX4_nameAmong_129 post (wX4_nameAmong_25 post 11) M tl 0 v2 v3 54 := na_0_55 hI hp (v2) (v3 + 1) (0) (by lia)
  refine ifs (fun _ => q) (fun _ => ifs (fun _ => q) (fun _ => And.intro (by decide) (And.intro (by unfold vp_in; decide) ?_)))
  refine sf_X9_byteAt hI (fun r _ => ifs (fun _ => ?_) (fun _ => q))
  exact na_0_55 hI hp (v2) (v3 + 1) (1) (by lia)
theorem na_0_53 {post : Int32 → MM → Int64 → Prop} {M : MM} {tl : Int64} (hI : Inv M) (hp : ∀ (r : Int32), (-1 ≤ r ∧ r ≤ 11) → post r M tl) (v2 v3 v4 : Int32) (h : 0 ≤ v2 ∧ v2 ≤ 9) : wX4_nameAmong_25 post (12 + 1) M tl 0 v2 v3 v4 53 := by
  unfold wX4_nameAmong_25
  refine And.intro (by decide) (ifn (by decide) (And.intro (by decide) (ifn (by decide) (And.intro (by decide) (And.intro (by unfold vp_in; decide) ?_)))))
  refine ifp (by decide) ?_
  unfold wX4_nameAmong_54
  have q : wX4_nameAmong_69 post (wX4_nameAmong_25 post 12) M tl 0 v2 53 := by
    unfold wX4_nameAmong_69
    refine ifs (fun _ => ?_) (fun _ => ?_)
    · exact na_0_54 hI hp (v2 + 1) (M 22 7) (1) (by lia)
    · exact na_0_54 hI hp (v2 + 1) (M 22 7) (0) (by lia)
  exact ifs (fun _ => q) (fun _ => ifs (fun _ => hp _ (by lia)) (fun _ => q))
theorem na_0_52 {post : Int32 → MM → Int64 → Prop} {M : MM} {tl : Int64} (hI : Inv M) (hp : ∀ (r : Int32), (-1 ≤ r ∧ r ≤ 11) → post r M tl) (v2 v3 v4 : Int32) (h : 0 ≤ v2 ∧ v2 ≤ 9) : wX4_nameAmong_25 post (13 + 1) M tl 0 v2 v3 v4 52 := by
  unfold wX4_nameAmong_25
  refine And.intro (by decide) (ifn (by decide) (And.intro (by decide) (ifn (by decide) (And.intro (by decide) (And.intro (by unfold vp_in; decide) ?_)))))
  refine ifn (by decide) ?_
  have q : wX4_nameAmong_129 post (wX4_nameAmong_25 post 13) M tl 0 v2 v3 52 := na_0_53 hI hp (v2) (v3 + 1) (0) (by lia)
  refine ifs (fun _ => q) (fun _ => ifs (fun _ => q) (fun _ => And.intro (by decide) (And.intro (by unfold vp_in; decide) ?_)))
  refine sf_X9_byteAt hI (fun r _ => ifs (fun _ => ?_) (fun _ => q))
  exact na_0_53 hI hp (v2) (v3 + 1) (1) (by lia)
theorem na_0_51 {post : Int32 → MM → Int64 → Prop} {M : MM} {tl : Int64} (hI : Inv M) (hp : ∀ (r : Int32), (-1 ≤ r ∧ r ≤ 11) → post r M tl) (v2 v3 v4 : Int32) (h : 0 ≤ v2 ∧ v2 ≤ 9) : wX4_nameAmong_25 post (14 + 1) M tl 0 v2 v3 v4 51 := by
  unfold wX4_nameAmong_25
  refine And.intro (by decide) (ifn (by decide) (And.intro (by decide) (ifn (by decide) (And.intro (by decide) (And.intro (by unfold vp_in; decide) ?_)))))
  refine ifn (by decide) ?_
  have q : wX4_nameAmong_129 post (wX4_nameAmong_25 post 14) M tl 0 v2 v3 51 := na_0_52 hI hp (v2) (v3 + 1) (0) (by lia)
  refine ifs (fun _ => q) (fun _ => ifs (fun _ => q) (fun _ => And.intro (by decide) (And.intro (by unfold vp_in; decide) ?_)))
  refine sf_X9_byteAt hI (fun r _ => ifs (fun _ => ?_) (fun _ => q))
  exact na_0_52 hI hp (v2) (v3 + 1) (1) (by lia)
theorem na_0_50 {post : Int32 → MM → Int64 → Prop} {M : MM} {tl : Int64} (hI : Inv M) (hp : ∀ (r : Int32), (-1 ≤ r ∧ r ≤ 11) → post r M tl) (v2 v3 v4 : Int32) (h : 0 ≤ v2 ∧ v2 ≤ 9) : wX4_nameAmong_25 post (15 + 1) M tl 0 v2 v3 v4 50 := by
  unfold wX4_nameAmong_25
  refine And.intro (by decide) (ifn (by decide) (And.intro (by decide) (ifn (by decide) (And.intro (by decide) (And.intro (by unfold vp_in; decide) ?_)))))
  refine ifn (by decide) ?_
  have q : wX4_nameAmong_129 post (wX4_nameAmong_25 post 15) M tl 0 v2 v3 50 := na_0_51 hI hp (v2) (v3 + 1) (0) (by lia)
  refine ifs (fun _ => q) (fun _ => ifs (fun _ => q) (fun _ => And.intro (by decide) (And.intro (by unfold vp_in; decide) ?_)))
  refine sf_X9_byteAt hI (fun r _ => ifs (fun _ => ?_) (fun _ => q))
  exact na_0_51 hI hp (v2) (v3 + 1) (1) (by lia)
theorem na_0_49 {post : Int32 → MM → Int64 → Prop} {M : MM} {tl : Int64} (hI : Inv M) (hp : ∀ (r : Int32), (-1 ≤ r ∧ r ≤ 11) → post r M tl) (v2 v3 v4 : Int32) (h : 0 ≤ v2 ∧ v2 ≤ 9) : wX4_nameAmong_25 post (16 + 1) M tl 0 v2 v3 v4 49 := by
  unfold wX4_nameAmong_25
  refine And.intro (by decide) (ifn (by decide) (And.intro (by decide) (ifn (by decide) (And.intro (by decide) (And.intro (by unfold vp_in; decide) ?_)))))
  refine ifn (by decide) ?_
  have q : wX4_nameAmong_129 post (wX4_nameAmong_25 post 16) M tl 0 v2 v3 49 := na_0_50 hI hp (v2) (v3 + 1) (0) (by lia)
  refine ifs (fun _ => q) (fun _ => ifs (fun _ => q) (fun _ => And.intro (by decide) (And.intro (by unfold vp_in; decide) ?_)))
  refine sf_X9_byteAt hI (fun r _ => ifs (fun _ => ?_) (fun _ => q))
  exact na_0_50 hI hp (v2) (v3 + 1) (1) (by lia)
theorem na_0_48 {post : Int32 → MM → Int64 → Prop} {M : MM} {tl : Int64} (hI : Inv M) (hp : ∀ (r : Int32), (-1 ≤ r ∧ r ≤ 11) → post r M tl) (v2 v3 v4 : Int32) (h : 0 ≤ v2 ∧ v2 ≤ 9) : wX4_nameAmong_25 post (17 + 1) M tl 0 v2 v3 v4 48 := by
  unfold wX4_nameAmong_25
  refine And.intro (by decide) (ifn (by decide) (And.intro (by decide) (ifn (by decide) (And.intro (by decide) (And.intro (by unfold vp_in; decide) ?_)))))
  refine ifn (by decide) ?_
  have q : wX4_nameAmong_129 post (wX4_nameAmong_25 post 17) M tl 0 v2 v3 48 := na_0_49 hI hp (v2) (v3 + 1) (0) (by lia)
  refine ifs (fun _ => q) (fun _ => ifs (fun _ => q) (fun _ => And.intro (by decide) (And.intro (by unfold vp_in; decide) ?_)))
  refine sf_X9_byteAt hI (fun r _ => ifs (fun _ => ?_) (fun _ => q))
  exact na_0_49 hI hp (v2) (v3 + 1) (1) (by lia)
theorem na_0_47 {post : Int32 → MM → Int64 → Prop} {M : MM} {tl : Int64} (hI : Inv M) (hp : ∀ (r : Int32), (-1 ≤ r ∧ r ≤ 11) → post r M tl) (v2 v3 v4 : Int32) (h : 0 ≤ v2 ∧ v2 ≤ 8) : wX4_nameAmong_25 post (18 + 1) M tl 0 v2 v3 v4 47 := by
  unfold wX4_nameAmong_25
  refine And.intro (by decide) (ifn (by decide) (And.intro (by decide) (ifn (by decide) (And.intro (by decide) (And.intro (by unfold vp_in; decide) ?_)))))
  refine ifp (by decide) ?_
  unfold wX4_nameAmong_54
  have q : wX4_nameAmong_69 post (wX4_nameAmong_25 post 18) M tl 0 v2 47 := by
    unfold wX4_nameAmong_69
    refine ifs (fun _ => ?_) (fun _ => ?_)
    · exact na_0_48 hI hp (v2 + 1) (M 22 7) (1) (by lia)
    · exact na_0_48 hI hp (v2 + 1) (M 22 7) (0) (by lia)
  exact ifs (fun _ => q) (fun _ => ifs (fun _ => hp _ (by lia)) (fun _ => q))
theorem na_0_46 {post : Int32 → MM → Int64 → Prop} {M : MM} {tl : Int64} (hI : Inv M) (hp : ∀ (r : Int32), (-1 ≤ r ∧ r ≤ 11) → post r M tl) (v2 v3 v4 : Int32) (h : 0 ≤ v2 ∧ v2 ≤ 8) : wX4_nameAmong_25 post (19 + 1) M tl 0 v2 v3 v4 46 := by
  unfold wX4_nameAmong_25
  refine And.intro (by decide) (ifn (by decide) (And.intro (by decide) (ifn (by decide) (And.intro (by decide) (And.intro (by unfold vp_in; decide) ?_)))))
  refine ifn (by decide) ?_
  have q : wX4_nameAmong_129 post (wX4_nameAmong_25 post 19) M tl 0 v2 v3 46 := na_0_47 hI hp (v2) (v3 + 1) (0) (by lia)
  refine ifs (fun _ => q) (fun _ => ifs (fun _ => q) (fun _ => And.intro (by decide) (And.intro (by unfold vp_in; decide) ?_)))
  refine sf_X9_byteAt hI (fun r _ => ifs (fun _ => ?_) (fun _ => q))
  exact na_0_47 hI hp (v2) (v3 + 1) (1) (by lia)
theorem na_0_45 {post : Int32 → MM → Int64 → Prop} {M : MM} {tl : Int64} (hI : Inv M) (hp : ∀ (r : Int32), (-1 ≤ r ∧ r ≤ 11) → post r M tl) (v2 v3 v4 : Int32) (h : 0 ≤ v2 ∧ v2 ≤ 8) : wX4_nameAmong_25 post (20 + 1) M tl 0 v2 v3 v4 45 := by
  unfold wX4_nameAmong_25
  refine And.intro (by decide) (ifn (by decide) (And.intro (by decide) (ifn (by decide) (And.intro (by decide) (And.intro (by unfold vp_in; decide) ?_)))))
  refine ifn (by decide) ?_
  have q : wX4_nameAmong_129 post (wX4_nameAmong_25 post 20) M tl 0 v2 v3 45 := na_0_46 hI hp (v2) (v3 + 1) (0) (by lia)
  refine ifs (fun _ => q) (fun _ => ifs (fun _ => q) (fun _ => And.intro (by decide) (And.intro (by unfold vp_in; decide) ?_)))
  refine sf_X9_byteAt hI (fun r _ => ifs (fun _ => ?_) (fun _ => q))
  exact na_0_46 hI hp (v2) (v3 + 1) (1) (by lia)
theorem na_0_44 {post : Int32 → MM → Int64 → Prop} {M : MM} {tl : Int64} (hI : Inv M) (hp : ∀ (r : Int32), (-1 ≤ r ∧ r ≤ 11) → post r M tl) (v2 v3 v4 : Int32) (h : 0 ≤ v2 ∧ v2 ≤ 8) : wX4_nameAmong_25 post (21 + 1) M tl 0 v2 v3 v4 44 := by
  unfold wX4_nameAmong_25
  refine And.intro (by decide) (ifn (by decide) (And.intro (by decide) (ifn (by decide) (And.intro (by decide) (And.intro (by unfold vp_in; decide) ?_)))))
  refine ifn (by decide) ?_
  have q : wX4_nameAmong_129 post (wX4_nameAmong_25 post 21) M tl 0 v2 v3 44 := na_0_45 hI hp (v2) (v3 + 1) (0) (by lia)
  refine ifs (fun _ => q) (fun _ => ifs (fun _ => q) (fun _ => And.intro (by decide) (And.intro (by unfold vp_in; decide) ?_)))
  refine sf_X9_byteAt hI (fun r _ => ifs (fun _ => ?_) (fun _ => q))
  exact na_0_45 hI hp (v2) (v3 + 1) (1) (by lia)
theorem na_0_43 {post : Int32 → MM → Int64 → Prop} {M : MM} {tl : Int64} (hI : Inv M) (hp : ∀ (r : Int32), (-1 ≤ r ∧ r ≤ 11) → post r M tl) (v2 v3 v4 : Int32) (h : 0 ≤ v2 ∧ v2 ≤ 8) : wX4_nameAmong_25 post (22 + 1) M tl 0 v2 v3 v4 43 := by
  unfold wX4_nameAmong_25
  refine And.intro (by decide) (ifn (by decide) (And.intro (by decide) (ifn (by decide) (And.intro (by decide) (And.intro (by unfold vp_in; decide) ?_)))))
  refine ifn (by decide) ?_
  have q : wX4_nameAmong_129 post (wX4_nameAmong_25 post 22) M tl 0 v2 v3 43 := na_0_44 hI hp (v2) (v3 + 1) (0) (by lia)
  refine ifs (fun _ => q) (fun _ => ifs (fun _ => q) (fun _ => And.intro (by decide) (And.intro (by unfold vp_in; decide) ?_)))
  refine sf_X9_byteAt hI (fun r _ => ifs (fun _ => ?_) (fun _ => q))
  exact na_0_44 hI hp (v2) (v3 + 1) (1) (by lia)
theorem na_0_42 {post : Int32 → MM → Int64 → Prop} {M : MM} {tl : Int64} (hI : Inv M) (hp : ∀ (r : Int32), (-1 ≤ r ∧ r ≤ 11) → post r M tl) (v2 v3 v4 : Int32) (h : 0 ≤ v2 ∧ v2 ≤ 8) : wX4_nameAmong_25 post (23 + 1) M tl 0 v2 v3 v4 42 := by
  unfold wX4_nameAmong_25
  refine And.intro (by decide) (ifn (by decide) (And.intro (by decide) (ifn (by decide) (And.intro (by decide) (And.intro (by unfold vp_in; decide) ?_)))))
  refine ifn (by decide) ?_
  have q : wX4_nameAmong_129 post (wX4_nameAmong_25 post 23) M tl 0 v2 v3 42 := na_0_43 hI hp (v2) (v3 + 1) (0) (by lia)
  refine ifs (fun _ => q) (fun _ => ifs (fun _ => q) (fun _ => And.intro (by decide) (And.intro (by unfold vp_in; decide) ?_)))
  refine sf_X9_byteAt hI (fun r _ => ifs (fun _ => ?_) (fun _ => q))
  exact na_0_43 hI hp (v2) (v3 + 1) (1) (by lia)
theorem na_0_41 {post : Int32 → MM → Int64 → Prop} {M : MM} {tl : Int64} (hI : Inv M) (hp : ∀ (r : Int32), (-1 ≤ r ∧ r ≤ 11) → post r M tl) (v2 v3 v4 : Int32) (h : 0 ≤ v2 ∧ v2 ≤ 7) : wX4_nameAmong_25 post (24 + 1) M tl 0 v2 v3 v4 41 := by
  unfold wX4_nameAmong_25
  refine And.intro (by decide) (ifn (by decide) (And.intro (by decide) (ifn (by decide) (And.intro (by decide) (And.intro (by unfold vp_in; decide) ?_)))))
  refine ifp (by decide) ?_
  unfold wX4_nameAmong_54
  have q : wX4_nameAmong_69 post (wX4_nameAmong_25 post 24) M tl 0 v2 41 := by
    unfold wX4_nameAmong_69
    refine ifs (fun _ => ?_) (fun _ => ?_)
    · exact na_0_42 hI hp (v2 + 1) (M 22 7) (1) (by lia)
    · exact na_0_42 hI hp (v2 + 1) (M 22 7) (0) (by lia)
  exact ifs (fun _ => q) (fun _ => ifs (fun _ => hp _ (by lia)) (fun _ => q))
theorem na_0_40 {post : Int32 → MM → Int64 → Prop} {M : MM} {tl : Int64} (hI : Inv M) (hp : ∀ (r : Int32), (-1 ≤ r ∧ r ≤ 11) → post r M tl) (v2 v3 v4 : Int32) (h : 0 ≤ v2 ∧ v2 ≤ 7) : wX4_nameAmong_25 post (25 + 1) M tl 0 v2 v3 v4 40 := by
  unfold wX4_nameAmong_25
  refine And.intro (by decide) (ifn (by decide) (And.intro (by decide) (ifn (by decide) (And.intro (by decide) (And.intro (by unfold vp_in; decide) ?_)))))
  refine ifn (by decide) ?_
  have q : wX4_nameAmong_129 post (wX4_nameAmong_25 post 25) M tl 0 v2 v3 40 := na_0_41 hI hp (v2) (v3 + 1) (0) (by lia)
  refine ifs (fun _ => q) (fun _ => ifs (fun _ => q) (fun _ => And.intro (by decide) (And.intro (by unfold vp_in; decide) ?_)))
  refine sf_X9_byteAt hI (fun r _ => ifs (fun _ => ?_) (fun _ => q))
  exact na_0_41 hI hp (v2) (v3 + 1) (1) (by lia)
theorem na_0_39 {post : Int32 → MM → Int64 → Prop} {M : MM} {tl : Int64} (hI : Inv M) (hp : ∀ (r : Int32), (-1 ≤ r ∧ r ≤ 11) → post r M tl) (v2 v3 v4 : Int32) (h : 0 ≤ v2 ∧ v2 ≤ 7) : wX4_nameAmong_25 post (26 + 1) M tl 0 v2 v3 v4 39 := by
  unfold wX4_nameAmong_25
  refine And.intro (by decide) (ifn (by decide) (And.intro (by decide) (ifn (by decide) (And.intro (by decide) (And.intro (by unfold vp_in; decide) ?_)))))
  refine ifn (by decide) ?_
  have q : wX4_nameAmong_129 post (wX4_nameAmong_25 post 26) M tl 0 v2 v3 39 := na_0_40 hI hp (v2) (v3 + 1) (0) (by lia)
  refine ifs (fun _ => q) (fun _ => ifs (fun _ => q) (fun _ => And.intro (by decide) (And.intro (by unfold vp_in; decide) ?_)))
  refine sf_X9_byteAt hI (fun r _ => ifs (fun _ => ?_) (fun _ => q))
  exact na_0_40 hI hp (v2) (v3 + 1) (1) (by lia)
theorem na_0_38 {post : Int32 → MM → Int64 → Prop} {M : MM} {tl : Int64} (hI : Inv M) (hp : ∀ (r : Int32), (-1 ≤ r ∧ r ≤ 11) → post r M tl) (v2 v3 v4 : Int32) (h : 0 ≤ v2 ∧ v2 ≤ 7) : wX4_nameAmong_25 post (27 + 1) M tl 0 v2 v3 v4 38 := by
  unfold wX4_nameAmong_25
  refine And.intro (by decide) (ifn (by decide) (And.intro (by decide) (ifn (by decide) (And.intro (by decide) (And.intro (by unfold vp_in; decide) ?_)))))
  refine ifn (by decide) ?_
  have q : wX4_nameAmong_129 post (wX4_nameAmong_25 post 27) M tl 0 v2 v3 38 := na_0_39 hI hp (v2) (v3 + 1) (0) (by lia)
  refine ifs (fun _ => q) (fun _ => ifs (fun _ => q) (fun _ => And.intro (by decide) (And.intro (by unfold vp_in; decide) ?_)))
  refine sf_X9_byteAt hI (fun r _ => ifs (fun _ => ?_) (fun _ => q))
  exact na_0_39 hI hp (v2) (v3 + 1) (1) (by lia)
theorem na_0_37 {post : Int32 → MM → Int64 → Prop} {M : MM} {tl : Int64} (hI : Inv M) (hp : ∀ (r : Int32), (-1 ≤ r ∧ r ≤ 11) → post r M tl) (v2 v3 v4 : Int32) (h : 0 ≤ v2 ∧ v2 ≤ 7) : wX4_nameAmong_25 post (28 + 1) M tl 0 v2 v3 v4 37 := by
  unfold wX4_nameAmong_25
  refine And.intro (by decide) (ifn (by decide) (And.intro (by decide) (ifn (by decide) (And.intro (by decide) (And.intro (by unfold vp_in; decide) ?_)))))
  refine ifn (by decide) ?_
  have q : wX4_nameAmong_129 post (wX4_nameAmong_25 post 28) M tl 0 v2 v3 37 := na_0_38 hI hp (v2) (v3 + 1) (0) (by lia)
  refine ifs (fun _ => q) (fun _ => ifs (fun _ => q) (fun _ => And.intro (by decide) (And.intro (by unfold vp_in; decide) ?_)))
  refine sf_X9_byteAt hI (fun r _ => ifs (fun _ => ?_) (fun _ => q))
  exact na_0_38 hI hp (v2) (v3 + 1) (1) (by lia)
theorem na_0_36 {post : Int32 → MM → Int64 → Prop} {M : MM} {tl : Int64} (hI : Inv M) (hp : ∀ (r : Int32), (-1 ≤ r ∧ r ≤ 11) → post r M tl) (v2 v3 v4 : Int32) (h : 0 ≤ v2 ∧ v2 ≤ 6) : wX4_nameAmong_25 post (29 + 1) M tl 0 v2 v3 v4 36 := by
  unfold wX4_nameAmong_25
  refine And.intro (by decide) (ifn (by decide) (And.intro (by decide) (ifn (by decide) (And.intro (by decide) (And.intro (by unfold vp_in; decide) ?_)))))
  refine ifp (by decide) ?_
  unfold wX4_nameAmong_54
  have q : wX4_nameAmong_69 post (wX4_nameAmong_25 post 29) M tl 0 v2 36 := by
    unfold wX4_nameAmong_69
    refine ifs (fun _ => ?_) (fun _ => ?_)
    · exact na_0_37 hI hp (v2 + 1) (M 22 7) (1) (by lia)
    · exact na_0_37 hI hp (v2 + 1) (M 22 7) (0) (by lia)
  exact ifs (fun _ => q) (fun _ => ifs (fun _ => hp _ (by lia)) (fun _ => q))
theorem na_0_35 {post : Int32 → MM → Int64 → Prop} {M : MM} {tl : Int64} (hI : Inv M) (hp : ∀ (r : Int32), (-1 ≤ r ∧ r ≤ 11) → post r M tl) (v2 v3 v4 : Int32) (h : 0 ≤ v2 ∧ v2 ≤ 6) : wX4_nameAmong_25 post (30 + 1) M tl 0 v2 v3 v4 35 := by
  unfold wX4_nameAmong_25
  refine And.intro (by decide) (ifn (by decide) (And.intro (by decide) (ifn (by decide) (And.intro (by decide) (And.intro (by unfold vp_in; decide) ?_)))))
  refine ifn (by decide) ?_
  have q : wX4_nameAmong_129 post (wX4_nameAmong_25 post 30) M tl 0 v2 v3 35 := na_0_36 hI hp (v2) (v3 + 1) (0) (by lia)
  refine ifs (fun _ => q) (fun _ => ifs (fun _ => q) (fun _ => And.intro (by decide) (And.intro (by unfold vp_in; decide) ?_)))
  refine sf_X9_byteAt hI (fun r _ => ifs (fun _ => ?_) (fun _ => q))
  exact na_0_36 hI hp (v2) (v3 + 1) (1) (by lia)
theorem na_0_34 {post : Int32 → MM → Int64 → Prop} {M : MM} {tl : Int64} (hI : Inv M) (hp : ∀ (r : Int32), (-1 ≤ r ∧ r ≤ 11) → post r M tl) (v2 v3 v4 : Int32) (h : 0 ≤ v2 ∧ v2 ≤ 6) : wX4_nameAmong_25 post (31 + 1) M tl 0 v2 v3 v4 34 := by
  unfold wX4_nameAmong_25
  refine And.intro (by decide) (ifn (by decide) (And.intro (by decide) (ifn (by decide) (And.intro (by decide) (And.intro (by unfold vp_in; decide) ?_)))))
  refine ifn (by decide) ?_
  have q : wX4_nameAmong_129 post (wX4_nameAmong_25 post 31) M tl 0 v2 v3 34 := na_0_35 hI hp (v2) (v3 + 1) (0) (by lia)
  refine ifs (fun _ => q) (fun _ => ifs (fun _ => q) (fun _ => And.intro (by decide) (And.intro (by unfold vp_in; decide) ?_)))
  refine sf_X9_byteAt hI (fun r _ => ifs (fun _ => ?_) (fun _ => q))
  exact na_0_35 hI hp (v2) (v3 + 1) (1) (by lia)
theorem na_0_33 {post : Int32 → MM → Int64 → Prop} {M : MM} {tl : Int64} (hI : Inv M) (hp : ∀ (r : Int32), (-1 ≤ r ∧ r ≤ 11) → post r M tl) (v2 v3 v4 : Int32) (h : 0 ≤ v2 ∧ v2 ≤ 6) : wX4_nameAmong_25 post (32 + 1) M tl 0 v2 v3 v4 33 := by
  unfold wX4_nameAmong_25
  refine And.intro (by decide) (ifn (by decide) (And.intro (by decide) (ifn (by decide) (And.intro (by decide) (And.intro (by unfold vp_in; decide) ?_)))))
  refine ifn (by decide) ?_
  have q : wX4_nameAmong_129 post (wX4_nameAmong_25 post 32) M tl 0 v2 v3 33 := na_0_34 hI hp (v2) (v3 + 1) (0) (by lia)
  refine ifs (fun _ => q) (fun _ => ifs (fun _ => q) (fun _ => And.intro (by decide) (And.intro (by unfold vp_in; decide) ?_)))
  refine sf_X9_byteAt hI (fun r _ => ifs (fun _ => ?_) (fun _ => q))
  exact na_0_34 hI hp (v2) (v3 + 1) (1) (by lia)
theorem na_0_32 {post : Int32 → MM → Int64 → Prop} {M : MM} {tl : Int64} (hI : Inv M) (hp : ∀ (r : Int32), (-1 ≤ r ∧ r ≤ 11) → post r M tl) (v2 v3 v4 : Int32) (h : 0 ≤ v2 ∧ v2 ≤ 6) : wX4_nameAmong_25 post (33 + 1) M tl 0 v2 v3 v4 32 := by
  unfold wX4_nameAmong_25
  refine And.intro (by decide) (ifn (by decide) (And.intro (by decide) (ifn (by decide) (And.intro (by decide) (And.intro (by unfold vp_in; decide) ?_)))))
  refine ifn (by decide) ?_
  have q : wX4_nameAmong_129 post (wX4_nameAmong_25 post 33) M tl 0 v2 v3 32 := na_0_33 hI hp (v2) (v3 + 1) (0) (by lia)
  refine ifs (fun _ => q) (fun _ => ifs (fun _ => q) (fun _ => And.intro (by decide) (And.intro (by unfold vp_in; decide) ?_)))
  refine sf_X9_byteAt hI (fun r _ => ifs (fun _ => ?_) (fun _ => q))
  exact na_0_33 hI hp (v2) (v3 + 1) (1) (by lia)
theorem na_0_31 {post : Int32 → MM → Int64 → Prop} {M : MM} {tl : Int64} (hI : Inv M) (hp : ∀ (r : Int32), (-1 ≤ r ∧ r ≤ 11) → post r M tl) (v2 v3 v4 : Int32) (h : 0 ≤ v2 ∧ v2 ≤ 5) : wX4_nameAmong_25 post (34 + 1) M tl 0 v2 v3 v4 31 := by
  unfold wX4_nameAmong_25
  refine And.intro (by decide) (ifn (by decide) (And.intro (by decide) (ifn (by decide) (And.intro (by decide) (And.intro (by unfold vp_in; decide) ?_)))))
  refine ifp (by decide) ?_
  unfold wX4_nameAmong_54
  have q : wX4_nameAmong_69 post (wX4_nameAmong_25 post 34) M tl 0 v2 31 := by
    unfold wX4_nameAmong_69
    refine ifs (fun _ => ?_) (fun _ => ?_)
    · exact na_0_32 hI hp (v2 + 1) (M 22 7) (1) (by lia)
    · exact na_0_32 hI hp (v2 + 1) (M 22 7) (0) (by lia)
  exact ifs (fun _ => q) (fun _ => ifs (fun _ => hp _ (by lia)) (fun _ => q))
theorem na_0_30 {post : Int32 → MM → Int64 → Prop} {M : MM} {tl : Int64} (hI : Inv M) (hp : ∀ (r : Int32), (-1 ≤ r ∧ r ≤ 11) → post r M tl) (v2 v3 v4 : Int32) (h : 0 ≤ v2 ∧ v2 ≤ 5) : wX4_nameAmong_25 post (35 + 1) M tl 0 v2 v3 v4 30 := by
  unfold wX4_nameAmong_25
  refine And.intro (by decide) (ifn (by decide) (And.intro (by decide) (ifn (by decide) (And.intro (by decide) (And.intro (by unfold vp_in; decide) ?_)))))
  refine ifn (by decide) ?_
  have q : wX4_nameAmong_129 post (wX4_nameAmong_25 post 35) M tl 0 v2 v3 30 := na_0_31 hI hp (v2) (v3 + 1) (0) (by lia)
  refine ifs (fun _ => q) (fun _ => ifs (fun _ => q) (fun _ => And.intro (by decide) (And.intro (by unfold vp_in; decide) ?_)))
  refine sf_X9_byteAt hI (fun r _ => ifs (fun _ => ?_) (fun _ => q))
  exact na_0_31 hI hp (v2) (v3 + 1) (1) (by lia)
theorem na_0_29 {post : Int32 → MM → Int64 → Prop} {M : MM} {tl : Int64} (hI : Inv M) (hp : ∀ (r : Int32), (-1 ≤ r ∧ r ≤ 11) → post r M tl) (v2 v3 v4 : Int32) (h : 0 ≤ v2 ∧ v2 ≤ 5) : wX4_nameAmong_25 post (36 + 1) M tl 0 v2 v3 v4 29 := by
  unfold wX4_nameAmong_25
  refine And.intro (by decide) (ifn (by decide) (And.intro (by decide) (ifn (by decide) (And.intro (by decide) (And.intro (by unfold vp_in; decide) ?_)))))
  refine ifn (by decide) ?_
  have q : wX4_nameAmong_129 post (wX4_nameAmong_25 post 36) M tl 0 v2 v3 29 := na_0_30 hI hp (v2) (v3 + 1) (0) (by lia)
  refine ifs (fun _ => q) (fun _ => ifs (fun _ => q) (fun _ => And.intro (by decide) (And.intro (by unfold vp_in; decide) ?_)))
  refine sf_X9_byteAt hI (fun r _ => ifs (fun _ => ?_) (fun _ => q))
  exact na_0_30 hI hp (v2) (v3 + 1) (1) (by lia)
theorem na_0_28 {post : Int32 → MM → Int64 → Prop} {M : MM} {tl : Int64} (hI : Inv M) (hp : ∀ (r : Int32), (-1 ≤ r ∧ r ≤ 11) → post r M tl) (v2 v3 v4 : Int32) (h : 0 ≤ v2 ∧ v2 ≤ 5) : wX4_nameAmong_25 post (37 + 1) M tl 0 v2 v3 v4 28 := by
  unfold wX4_nameAmong_25
  refine And.intro (by decide) (ifn (by decide) (And.intro (by decide) (ifn (by decide) (And.intro (by decide) (And.intro (by unfold vp_in; decide) ?_)))))
  refine ifn (by decide) ?_
  have q : wX4_nameAmong_129 post (wX4_nameAmong_25 post 37) M tl 0 v2 v3 28 := na_0_29 hI hp (v2) (v3 + 1) (0) (by lia)
  refine ifs (fun _ => q) (fun _ => ifs (fun _ => q) (fun _ => And.intro (by decide) (And.intro (by unfold vp_in; decide) ?_)))
  refine sf_X9_byteAt hI (fun r _ => ifs (fun _ => ?_) (fun _ => q))
  exact na_0_29 hI hp (v2) (v3 + 1) (1) (by lia)
theorem na_0_27 {post : Int32 → MM → Int64 → Prop} {M : MM} {tl : Int64} (hI : Inv M) (hp : ∀ (r : Int32), (-1 ≤ r ∧ r ≤ 11) → post r M tl) (v2 v3 v4 : Int32) (h : 0 ≤ v2 ∧ v2 ≤ 5) : wX4_nameAmong_25 post (38 + 1) M tl 0 v2 v3 v4 27 := by
  unfold wX4_nameAmong_25
  refine And.intro (by decide) (ifn (by decide) (And.intro (by decide) (ifn (by decide) (And.intro (by decide) (And.intro (by unfold vp_in; decide) ?_)))))
  refine ifn (by decide) ?_
  have q : wX4_nameAmong_129 post (wX4_nameAmong_25 post 38) M tl 0 v2 v3 27 := na_0_28 hI hp (v2) (v3 + 1) (0) (by lia)
  refine ifs (fun _ => q) (fun _ => ifs (fun _ => q) (fun _ => And.intro (by decide) (And.intro (by unfold vp_in; decide) ?_)))
  refine sf_X9_byteAt hI (fun r _ => ifs (fun _ => ?_) (fun _ => q))
  exact na_0_28 hI hp (v2) (v3 + 1) (1) (by lia)
theorem na_0_26 {post : Int32 → MM → Int64 → Prop} {M : MM} {tl : Int64} (hI : Inv M) (hp : ∀ (r : Int32), (-1 ≤ r ∧ r ≤ 11) → post r M tl) (v2 v3 v4 : Int32) (h : 0 ≤ v2 ∧ v2 ≤ 5) : wX4_nameAmong_25 post (39 + 1) M tl 0 v2 v3 v4 26 := by
  unfold wX4_nameAmong_25
  refine And.intro (by decide) (ifn (by decide) (And.intro (by decide) (ifn (by decide) (And.intro (by decide) (And.intro (by unfold vp_in; decide) ?_)))))
  refine ifn (by decide) ?_
  have q : wX4_nameAmong_129 post (wX4_nameAmong_25 post 39) M tl 0 v2 v3 26 := na_0_27 hI hp (v2) (v3 + 1) (0) (by lia)
  refine ifs (fun _ => q) (fun _ => ifs (fun _ => q) (fun _ => And.intro (by decide) (And.intro (by unfold vp_in; decide) ?_)))
  refine sf_X9_byteAt hI (fun r _ => ifs (fun _ => ?_) (fun _ => q))
  exact na_0_27 hI hp (v2) (v3 + 1) (1) (by lia)
theorem na_0_25 {post : Int32 → MM → Int64 → Prop} {M : MM} {tl : Int64} (hI : Inv M) (hp : ∀ (r : Int32), (-1 ≤ r ∧ r ≤ 11) → post r M tl) (v2 v3 v4 : Int32) (h : 0 ≤ v2 ∧ v2 ≤ 4) : wX4_nameAmong_25 post (40 + 1) M tl 0 v2 v3 v4 25 := by
  unfold wX4_nameAmong_25
  refine And.intro (by decide) (ifn (by decide) (And.intro (by decide) (ifn (by decide) (And.intro (by decide) (And.intro (by unfold vp_in; decide) ?_)))))
  refine ifp (by decide) ?_
  unfold wX4_nameAmong_54
  have q : wX4_nameAmong_69 post (wX4_nameAmong_25 post 40) M tl 0 v2 25 := by
    unfold wX4_nameAmong_69
    refine ifs (fun _ => ?_) (fun _ => ?_)
    · exact na_0_26 hI hp (v2 + 1) (M 22 7) (1) (by lia)
    · exact na_0_26 hI hp (v2 + 1) (M 22 7) (0) (by lia)
  exact ifs (fun _ => q) (fun _ => ifs (fun _ => hp _ (by lia)) (fun _ => q))
theorem na_0_24 {post : Int32 → MM → Int64 → Prop} {M : MM} {tl : Int64} (hI : Inv M) (hp : ∀ (r : Int32), (-1 ≤ r ∧ r ≤ 11) → post r M tl) (v2 v3 v4 : Int32) (h : 0 ≤ v2 ∧ v2 ≤ 4) : wX4_nameAmong_25 post (41 + 1) M tl 0 v2 v3 v4 24 := by
  unfold wX4_nameAmong_25
  refine And.intro (by decide) (ifn (by decide) (And.intro (by decide) (ifn (by decide) (And.intro (by decide) (And.intro (by unfold vp_in; decide) ?_)))))
  refine ifn (by decide) ?_
  have q : wX4_nameAmong_129 post (wX4_nameAmong_25 post 41) M tl 0 v2 v3 24 := na_0_25 hI hp (v2) (v3 + 1) (0) (by lia)
  refine ifs (fun _ => q) (fun _ => ifs (fun _ => q) (fun _ => And.intro (by decide) (And.intro (by unfold vp_in; decide) ?_)))
  refine sf_X9_byteAt hI (fun r _ => ifs (fun _ => ?_) (fun _ => q))
  exact na_0_25 hI hp (v2) (v3 + 1) (1) (by lia)
theorem na_0_23 {post : Int32 → MM → Int64 → Prop} {M : MM} {tl : Int64} (hI : Inv M) (hp : ∀ (r : Int32), (-1 ≤ r ∧ r ≤ 11) → post r M tl) (v2 v3 v4 : Int32) (h : 0 ≤ v2 ∧ v2 ≤ 4) : wX4_nameAmong_25 post (42 + 1) M tl 0 v2 v3 v4 23 := by
  unfold wX4_nameAmong_25
  refine And.intro (by decide) (ifn (by decide) (And.intro (by decide) (ifn (by decide) (And.intro (by decide) (And.intro (by unfold vp_in; decide) ?_)))))
  refine ifn (by decide) ?_
  have q : wX4_nameAmong_129 post (wX4_nameAmong_25 post 42) M tl 0 v2 v3 23 := na_0_24 hI hp (v2) (v3 + 1) (0) (by lia)
  refine ifs (fun _ => q) (fun _ => ifs (fun _ => q) (fun _ => And.intro (by decide) (And.intro (by unfold vp_in; decide) ?_)))
  refine sf_X9_byteAt hI (fun r _ => ifs (fun _ => ?_) (fun _ => q))
  exact na_0_24 hI hp (v2) (v3 + 1) (1) (by lia)
theorem na_0_22 {post : Int32 → MM → Int64 → Prop} {M : MM} {tl : Int64} (hI : Inv M) (hp : ∀ (r : Int32), (-1 ≤ r ∧ r ≤ 11) → post r M tl) (v2 v3 v4 : Int32) (h : 0 ≤ v2 ∧ v2 ≤ 4) : wX4_nameAmong_25 post (43 + 1) M tl 0 v2 v3 v4 22 := by
  unfold wX4_nameAmong_25
  refine And.intro (by decide) (ifn (by decide) (And.intro (by decide) (ifn (by decide) (And.intro (by decide) (And.intro (by unfold vp_in; decide) ?_)))))
  refine ifn (by decide) ?_
  have q : wX4_nameAmong_129 post (wX4_nameAmong_25 post 43) M tl 0 v2 v3 22 := na_0_23 hI hp (v2) (v3 + 1) (0) (by lia)
  refine ifs (fun _ => q) (fun _ => ifs (fun _ => q) (fun _ => And.intro (by decide) (And.intro (by unfold vp_in; decide) ?_)))
  refine sf_X9_byteAt hI (fun r _ => ifs (fun _ => ?_) (fun _ => q))
  exact na_0_23 hI hp (v2) (v3 + 1) (1) (by lia)
theorem na_0_21 {post : Int32 → MM → Int64 → Prop} {M : MM} {tl : Int64} (hI : Inv M) (hp : ∀ (r : Int32), (-1 ≤ r ∧ r ≤ 11) → post r M tl) (v2 v3 v4 : Int32) (h : 0 ≤ v2 ∧ v2 ≤ 4) : wX4_nameAmong_25 post (44 + 1) M tl 0 v2 v3 v4 21 := by
  unfold wX4_nameAmong_25
  refine And.intro (by decide) (ifn (by decide) (And.intro (by decide) (ifn (by decide) (And.intro (by decide) (And.intro (by unfold vp_in; decide) ?_)))))
  refine ifn (by decide) ?_
  have q : wX4_nameAmong_129 post (wX4_nameAmong_25 post 44) M tl 0 v2 v3 21 := na_0_22 hI hp (v2) (v3 + 1) (0) (by lia)
  refine ifs (fun _ => q) (fun _ => ifs (fun _ => q) (fun _ => And.intro (by decide) (And.intro (by unfold vp_in; decide) ?_)))
  refine sf_X9_byteAt hI (fun r _ => ifs (fun _ => ?_) (fun _ => q))
  exact na_0_22 hI hp (v2) (v3 + 1) (1) (by lia)
theorem na_0_20 {post : Int32 → MM → Int64 → Prop} {M : MM} {tl : Int64} (hI : Inv M) (hp : ∀ (r : Int32), (-1 ≤ r ∧ r ≤ 11) → post r M tl) (v2 v3 v4 : Int32) (h : 0 ≤ v2 ∧ v2 ≤ 3) : wX4_nameAmong_25 post (45 + 1) M tl 0 v2 v3 v4 20 := by
  unfold wX4_nameAmong_25
  refine And.intro (by decide) (ifn (by decide) (And.intro (by decide) (ifn (by decide) (And.intro (by decide) (And.intro (by unfold vp_in; decide) ?_)))))
  refine ifp (by decide) ?_
  unfold wX4_nameAmong_54
  have q : wX4_nameAmong_69 post (wX4_nameAmong_25 post 45) M tl 0 v2 20 := by
    unfold wX4_nameAmong_69
    refine ifs (fun _ => ?_) (fun _ => ?_)
    · exact na_0_21 hI hp (v2 + 1) (M 22 7) (1) (by lia)
    · exact na_0_21 hI hp (v2 + 1) (M 22 7) (0) (by lia)
  exact ifs (fun _ => q) (fun _ => ifs (fun _ => hp _ (by lia)) (fun _ => q))
theorem na_0_19 {post : Int32 → MM → Int64 → Prop} {M : MM} {tl : Int64} (hI : Inv M) (hp : ∀ (r : Int32), (-1 ≤ r ∧ r ≤ 11) → post r M tl) (v2 v3 v4 : Int32) (h : 0 ≤ v2 ∧ v2 ≤ 3) : wX4_nameAmong_25 post (46 + 1) M tl 0 v2 v3 v4 19 := by
  unfold wX4_nameAmong_25
  refine And.intro (by decide) (ifn (by decide) (And.intro (by decide) (ifn (by decide) (And.intro (by decide) (And.intro (by unfold vp_in; decide) ?_)))))
  refine ifn (by decide) ?_
  have q : wX4_nameAmong_129 post (wX4_nameAmong_25 post 46) M tl 0 v2 v3 19 := na_0_20 hI hp (v2) (v3 + 1) (0) (by lia)
  refine ifs (fun _ => q) (fun _ => ifs (fun _ => q) (fun _ => And.intro (by decide) (And.intro (by unfold vp_in; decide) ?_)))
  refine sf_X9_byteAt hI (fun r _ => ifs (fun _ => ?_) (fun _ => q))
  exact na_0_20 hI hp (v2) (v3 + 1) (1) (by lia)
theorem na_0_18 {post : Int32 → MM → Int64 → Prop} {M : MM} {tl : Int64} (hI : Inv M) (hp : ∀ (r : Int32), (-1 ≤ r ∧ r ≤ 11) → post r M tl) (v2 v3 v4 : Int32) (h : 0 ≤ v2 ∧ v2 ≤ 3) : wX4_nameAmong_25 post (47 + 1) M tl 0 v2 v3 v4 18 := by
  unfold wX4_nameAmong_25
  refine And.intro (by decide) (ifn (by decide) (And.intro (by decide) (ifn (by decide) (And.intro (by decide) (And.intro (by unfold vp_in; decide) ?_)))))
  refine ifn (by decide) ?_
  have q : wX4_nameAmong_129 post (wX4_nameAmong_25 post 47) M tl 0 v2 v3 18 := na_0_19 hI hp (v2) (v3 + 1) (0) (by lia)
  refine ifs (fun _ => q) (fun _ => ifs (fun _ => q) (fun _ => And.intro (by decide) (And.intro (by unfold vp_in; decide) ?_)))
  refine sf_X9_byteAt hI (fun r _ => ifs (fun _ => ?_) (fun _ => q))
  exact na_0_19 hI hp (v2) (v3 + 1) (1) (by lia)
theorem na_0_17 {post : Int32 → MM → Int64 → Prop} {M : MM} {tl : Int64} (hI : Inv M) (hp : ∀ (r : Int32), (-1 ≤ r ∧ r ≤ 11) → post r M tl) (v2 v3 v4 : Int32) (h : 0 ≤ v2 ∧ v2 ≤ 3) : wX4_nameAmong_25 post (48 + 1) M tl 0 v2 v3 v4 17 := by
  unfold wX4_nameAmong_25
  refine And.intro (by decide) (ifn (by decide) (And.intro (by decide) (ifn (by decide) (And.intro (by decide) (And.intro (by unfold vp_in; decide) ?_)))))
  refine ifn (by decide) ?_
  have q : wX4_nameAmong_129 post (wX4_nameAmong_25 post 48) M tl 0 v2 v3 17 := na_0_18 hI hp (v2) (v3 + 1) (0) (by lia)
  refine ifs (fun _ => q) (fun _ => ifs (fun _ => q) (fun _ => And.intro (by decide) (And.intro (by unfold vp_in; decide) ?_)))
  refine sf_X9_byteAt hI (fun r _ => ifs (fun _ => ?_) (fun _ => q))
  exact na_0_18 hI hp (v2) (v3 + 1) (1) (by lia)
theorem na_0_16 {post : Int32 → MM → Int64 → Prop} {M : MM} {tl : Int64} (hI : Inv M) (hp : ∀ (r : Int32), (-1 ≤ r ∧ r ≤ 11) → post r M tl) (v2 v3 v4 : Int32) (h : 0 ≤ v2 ∧ v2 ≤ 3) : wX4_nameAmong_25 post (49 + 1) M tl 0 v2 v3 v4 16 := by
  unfold wX4_nameAmong_25
  refine And.intro (by decide) (ifn (by decide) (And.intro (by decide) (ifn (by decide) (And.intro (by decide) (And.intro (by unfold vp_in; decide) ?_)))))
  refine ifn (by decide) ?_
  have q : wX4_nameAmong_129 post (wX4_nameAmong_25 post 49) M tl 0 v2 v3 16 := na_0_17 hI hp (v2) (v3 + 1) (0) (by lia)
  refine ifs (fun _ => q) (fun _ => ifs (fun _ => q) (fun _ => And.intro (by decide) (And.intro (by unfold vp_in; decide) ?_)))
  refine sf_X9_byteAt hI (fun r _ => ifs (fun _ => ?_) (fun _ => q))
  exact na_0_17 hI hp (v2) (v3 + 1) (1) (by lia)
theorem na_0_15 {post : Int32 → MM → Int64 → Prop} {M : MM} {tl : Int64} (hI : Inv M) (hp : ∀ (r : Int32), (-1 ≤ r ∧ r ≤ 11) → post r M tl) (v2 v3 v4 : Int32) (h : 0 ≤ v2 ∧ v2 ≤ 3) : wX4_nameAmong_25 post (50 + 1) M tl 0 v2 v3 v4 15 := by
  unfold wX4_nameAmong_25
  refine And.intro (by decide) (ifn (by decide) (And.intro (by decide) (ifn (by decide) (And.intro (by decide) (And.intro (by unfold vp_in; decide) ?_)))))
  refine ifn (by decide) ?_
  have q : wX4_nameAmong_129 post (wX4_nameAmong_25 post 50) M tl 0 v2 v3 15 := na_0_16 hI hp (v2) (v3 + 1) (0) (by lia)
  refine ifs (fun _ => q) (fun _ => ifs (fun _ => q) (fun _ => And.intro (by decide) (And.intro (by unfold vp_in; decide) ?_)))
  refine sf_X9_byteAt hI (fun r _ => ifs (fun _ => ?_) (fun _ => q))
  exact na_0_16 hI hp (v2) (v3 + 1) (1) (by lia)
theorem na_0_14 {post : Int32 → MM → Int64 → Prop} {M : MM} {tl : Int64} (hI : Inv M) (hp : ∀ (r : Int32), (-1 ≤ r ∧ r ≤ 11) → post r M tl) (v2 v3 v4 : Int32) (h : 0 ≤ v2 ∧ v2 ≤ 2) : wX4_nameAmong_25 post (51 + 1) M tl 0 v2 v3 v4 14 := by
  unfold wX4_nameAmong_25
  refine And.intro (by decide) (ifn (by decide) (And.intro (by decide) (ifn (by decide) (And.intro (by decide) (And.intro (by unfold vp_in; decide) ?_)))))
  refine ifp (by decide) ?_
  unfold wX4_nameAmong_54
  have q : wX4_nameAmong_69 post (wX4_nameAmong_25 post 51) M tl 0 v2 14 := by
    unfold wX4_nameAmong_69
    refine ifs (fun _ => ?_) (fun _ => ?_)
    · exact na_0_15 hI hp (v2 + 1) (M 22 7) (1) (by lia)
    · exact na_0_15 hI hp (v2 + 1) (M 22 7) (0) (by lia)
  exact ifs (fun _ => q) (fun _ => ifs (fun _ => hp _ (by lia)) (fun _ => q))
theorem na_0_13 {post : Int32 → MM → Int64 → Prop} {M : MM} {tl : Int64} (hI : Inv M) (hp : ∀ (r : Int32), (-1 ≤ r ∧ r ≤ 11) → post r M tl) (v2 v3 v4 : Int32) (h : 0 ≤ v2 ∧ v2 ≤ 2) : wX4_nameAmong_25 post (52 + 1) M tl 0 v2 v3 v4 13 := by
  unfold wX4_nameAmong_25
  refine And.intro (by decide) (ifn (by decide) (And.intro (by decide) (ifn (by decide) (And.intro (by decide) (And.intro (by unfold vp_in; decide) ?_)))))
  refine ifn (by decide) ?_
  have q : wX4_nameAmong_129 post (wX4_nameAmong_25 post 52) M tl 0 v2 v3 13 := na_0_14 hI hp (v2) (v3 + 1) (0) (by lia)
  refine ifs (fun _ => q) (fun _ => ifs (fun _ => q) (fun _ => And.intro (by decide) (And.intro (by unfold vp_in; decide) ?_)))
  refine sf_X9_byteAt hI (fun r _ => ifs (fun _ => ?_) (fun _ => q))
  exact na_0_14 hI hp (v2) (v3 + 1) (1) (by lia)
theorem na_0_12 {post : Int32 → MM → Int64 → Prop} {M : MM} {tl : Int64} (hI : Inv M) (hp : ∀ (r : Int32), (-1 ≤ r ∧ r ≤ 11) → post r M tl) (v2 v3 v4 : Int32) (h : 0 ≤ v2 ∧ v2 ≤ 2) : wX4_nameAmong_25 post (53 + 1) M tl 0 v2 v3 v4 12 := by
  unfold wX4_nameAmong_25
  refine And.intro (by decide) (ifn (by decide) (And.intro (by decide) (ifn (by decide) (And.intro (by decide) (And.intro (by unfold vp_in; decide) ?_)))))
  refine ifn (by decide) ?_
  have q : wX4_nameAmong_129 post (wX4_nameAmong_25 post 53) M tl 0 v2 v3 12 := na_0_13 hI hp (v2) (v3 + 1) (0) (by lia)
  refine ifs (fun _ => q) (fun _ => ifs (fun _ => q) (fun _ => And.intro (by decide) (And.intro (by unfold vp_in; decide) ?_)))
  refine sf_X9_byteAt hI (fun r _ => ifs (fun _ => ?_) (fun _ => q))
  exact na_0_13 hI hp (v2) (v3 + 1) (1) (by lia)
theorem na_0_11 {post : Int32 → MM → Int64 → Prop} {M : MM} {tl : Int64} (hI : Inv M) (hp : ∀ (r : Int32), (-1 ≤ r ∧ r ≤ 11) → post r M tl) (v2 v3 v4 : Int32) (h : 0 ≤ v2 ∧ v2 ≤ 2) : wX4_nameAmong_25 post (54 + 1) M tl 0 v2 v3 v4 11 := by
  unfold wX4_nameAmong_25
  refine And.intro (by decide) (ifn (by decide) (And.intro (by decide) (ifn (by decide) (And.intro (by decide) (And.intro (by unfold vp_in; decide) ?_)))))
  refine ifn (by decide) ?_
  have q : wX4_nameAmong_129 post (wX4_nameAmong_25 post 54) M tl 0 v2 v3 11 := na_0_12 hI hp (v2) (v3 + 1) (0) (by lia)
  refine ifs (fun _ => q) (fun _ => ifs (fun _ => q) (fun _ => And.intro (by decide) (And.intro (by unfold vp_in; decide) ?_)))
  refine sf_X9_byteAt hI (fun r _ => ifs (fun _ => ?_) (fun _ => q))
  exact na_0_12 hI hp (v2) (v3 + 1) (1) (by lia)
theorem na_0_10 {post : Int32 → MM → Int64 → Prop} {M : MM} {tl : Int64} (hI : Inv M) (hp : ∀ (r : Int32), (-1 ≤ r ∧ r ≤ 11) → post r M tl) (v2 v3 v4 : Int32) (h : 0 ≤ v2 ∧ v2 ≤ 2) : wX4_nameAmong_25 post (55 + 1) M tl 0 v2 v3 v4 10 := by
  unfold wX4_nameAmong_25
  refine And.intro (by decide) (ifn (by decide) (And.intro (by decide) (ifn (by decide) (And.intro (by decide) (And.intro (by unfold vp_in; decide) ?_)))))
  refine ifn (by decide) ?_
  have q : wX4_nameAmong_129 post (wX4_nameAmong_25 post 55) M tl 0 v2 v3 10 := na_0_11 hI hp (v2) (v3 + 1) (0) (by lia)
  refine ifs (fun _ => q) (fun _ => ifs (fun _ => q) (fun _ => And.intro (by decide) (And.intro (by unfold vp_in; decide) ?_)))
  refine sf_X9_byteAt hI (fun r _ => ifs (fun _ => ?_) (fun _ => q))
  exact na_0_11 hI hp (v2) (v3 + 1) (1) (by lia)
theorem na_0_9 {post : Int32 → MM → Int64 → Prop} {M : MM} {tl : Int64} (hI : Inv M) (hp : ∀ (r : Int32), (-1 ≤ r ∧ r ≤ 11) → post r M tl) (v2 v3 v4 : Int32) (h : 0 ≤ v2 ∧ v2 ≤ 1) : wX4_nameAmong_25 post (56 + 1) M tl 0 v2 v3 v4 9 := by
  unfold wX4_nameAmong_25
  refine And.intro (by decide) (ifn (by decide) (And.intro (by decide) (ifn (by decide) (And.intro (by decide) (And.intro (by unfold vp_in; decide) ?_)))))
  refine ifp (by decide) ?_
  unfold wX4_nameAmong_54
  have q : wX4_nameAmong_69 post (wX4_nameAmong_25 post 56) M tl 0 v2 9 := by
    unfold wX4_nameAmong_69
    refine ifs (fun _ => ?_) (fun _ => ?_)
    · exact na_0_10 hI hp (v2 + 1) (M 22 7) (1) (by lia)
    · exact na_0_10 hI hp (v2 + 1) (M 22 7) (0) (by lia)
  exact ifs (fun _ => q) (fun _ => ifs (fun _ => hp _ (by lia)) (fun _ => q))
theorem na_0_8 {post : Int32 → MM → Int64 → Prop} {M : MM} {tl : Int64} (hI : Inv M) (hp : ∀ (r : Int32), (-1 ≤ r ∧ r ≤ 11) → post r M tl) (v2 v3 v4 : Int32) (h : 0 ≤ v2 ∧ v2 ≤ 1) : wX4_nameAmong_25 post (57 + 1) M tl 0 v2 v3 v4 8 := by
  unfold wX4_nameAmong_25
  refine And.intro (by decide) (ifn (by decide) (And.intro (by decide) (ifn (by decide) (And.intro (by decide) (And.intro (by unfold vp_in; decide) ?_)))))
  refine ifn (by decide) ?_
  have q : wX4_nameAmong_129 post (wX4_nameAmong_25 post 57) M tl 0 v2 v3 8 := na_0_9 hI hp (v2) (v3 + 1) (0) (by lia)
  refine ifs (fun _ => q) (fun _ => ifs (fun _ => q) (fun _ => And.intro (by decide) (And.intro (by unfold vp_in; decide) ?_)))
  refine sf_X9_byteAt hI (fun r _ => ifs (fun _ => ?_) (fun _ => q))
  exact na_0_9 hI hp (v2) (v3 + 1) (1) (by lia)
theorem na_0_7 {post : Int32 → MM → Int64 → Prop} {M : MM} {tl : Int64} (hI : Inv M) (hp : ∀ (r : Int32), (-1 ≤ r ∧ r ≤ 11) → post r M tl) (v2 v3 v4 : Int32) (h : 0 ≤ v2 ∧ v2 ≤ 1) : wX4_nameAmong_25 post (58 + 1) M tl 0 v2 v3 v4 7 := by
  unfold wX4_nameAmong_25
  refine And.intro (by decide) (ifn (by decide) (And.intro (by decide) (ifn (by decide) (And.intro (by decide) (And.intro (by unfold vp_in; decide) ?_)))))
  refine ifn (by decide) ?_
  have q : wX4_nameAmong_129 post (wX4_nameAmong_25 post 58) M tl 0 v2 v3 7 := na_0_8 hI hp (v2) (v3 + 1) (0) (by lia)
  refine ifs (fun _ => q) (fun _ => ifs (fun _ => q) (fun _ => And.intro (by decide) (And.intro (by unfold vp_in; decide) ?_)))
  refine sf_X9_byteAt hI (fun r _ => ifs (fun _ => ?_) (fun _ => q))
  exact na_0_8 hI hp (v2) (v3 + 1) (1) (by lia)
theorem na_0_6 {post : Int32 → MM → Int64 → Prop} {M : MM} {tl : Int64} (hI : Inv M) (hp : ∀ (r : Int32), (-1 ≤ r ∧ r ≤ 11) → post r M tl) (v2 v3 v4 : Int32) (h : 0 ≤ v2 ∧ v2 ≤ 1) : wX4_nameAmong_25 post (59 + 1) M tl 0 v2 v3 v4 6 := by
  unfold wX4_nameAmong_25
  refine And.intro (by decide) (ifn (by decide) (And.intro (by decide) (ifn (by decide) (And.intro (by decide) (And.intro (by unfold vp_in; decide) ?_)))))
  refine ifn (by decide) ?_
  have q : wX4_nameAmong_129 post (wX4_nameAmong_25 post 59) M tl 0 v2 v3 6 := na_0_7 hI hp (v2) (v3 + 1) (0) (by lia)
  refine ifs (fun _ => q) (fun _ => ifs (fun _ => q) (fun _ => And.intro (by decide) (And.intro (by unfold vp_in; decide) ?_)))
  refine sf_X9_byteAt hI (fun r _ => ifs (fun _ => ?_) (fun _ => q))
  exact na_0_7 hI hp (v2) (v3 + 1) (1) (by lia)
theorem na_0_5 {post : Int32 → MM → Int64 → Prop} {M : MM} {tl : Int64} (hI : Inv M) (hp : ∀ (r : Int32), (-1 ≤ r ∧ r ≤ 11) → post r M tl) (v2 v3 v4 : Int32) (h : 0 ≤ v2 ∧ v2 ≤ 1) : wX4_nameAmong_25 post (60 + 1) M tl 0 v2 v3 v4 5 := by
  unfold wX4_nameAmong_25
  refine And.intro (by decide) (ifn (by decide) (And.intro (by decide) (ifn (by decide) (And.intro (by decide) (And.intro (by unfold vp_in; decide) ?_)))))
  refine ifn (by decide) ?_
  have q : wX4_nameAmong_129 post (wX4_nameAmong_25 post 60) M tl 0 v2 v3 5 := na_0_6 hI hp (v2) (v3 + 1) (0) (by lia)
  refine ifs (fun _ => q) (fun _ => ifs (fun _ => q) (fun _ => And.intro (by decide) (And.intro (by unfold vp_in; decide) ?_)))
  refine sf_X9_byteAt hI (fun r _ => ifs (fun _ => ?_) (fun _ => q))
  exact na_0_6 hI hp (v2) (v3 + 1) (1) (by lia)
theorem na_0_4 {post : Int32 → MM → Int64 → Prop} {M : MM} {tl : Int64} (hI : Inv M) (hp : ∀ (r : Int32), (-1 ≤ r ∧ r ≤ 11) → post r M tl) (v2 v3 v4 : Int32) (h : 0 ≤ v2 ∧ v2 ≤ 0) : wX4_nameAmong_25 post (61 + 1) M tl 0 v2 v3 v4 4 := by
  unfold wX4_nameAmong_25
  refine And.intro (by decide) (ifn (by decide) (And.intro (by decide) (ifn (by decide) (And.intro (by decide) (And.intro (by unfold vp_in; decide) ?_)))))
  refine ifp (by decide) ?_
  unfold wX4_nameAmong_54
  have q : wX4_nameAmong_69 post (wX4_nameAmong_25 post 61) M tl 0 v2 4 := by
    unfold wX4_nameAmong_69
    refine ifs (fun _ => ?_) (fun _ => ?_)
    · exact na_0_5 hI hp (v2 + 1) (M 22 7) (1) (by lia)
    · exact na_0_5 hI hp (v2 + 1) (M 22 7) (0) (by lia)
  exact ifs (fun _ => q) (fun _ => ifs (fun _ => hp _ (by lia)) (fun _ => q))
theorem na_0_3 {post : Int32 → MM → Int64 → Prop} {M : MM} {tl : Int64} (hI : Inv M) (hp : ∀ (r : Int32), (-1 ≤ r ∧ r ≤ 11) → post r M tl) (v2 v3 v4 : Int32) (h : 0 ≤ v2 ∧ v2 ≤ 0) : wX4_nameAmong_25 post (62 + 1) M tl 0 v2 v3 v4 3 := by
  unfold wX4_nameAmong_25
  refine And.intro (by decide) (ifn (by decide) (And.intro (by decide) (ifn (by decide) (And.intro (by decide) (And.intro (by unfold vp_in; decide) ?_)))))
  refine ifn (by decide) ?_
  have q : wX4_nameAmong_129 post (wX4_nameAmong_25 post 62) M tl 0 v2 v3 3 := na_0_4 hI hp (v2) (v3 + 1) (0) (by lia)
  refine ifs (fun _ => q) (fun _ => ifs (fun _ => q) (fun _ => And.intro (by decide) (And.intro (by unfold vp_in; decide) ?_)))
  refine sf_X9_byteAt hI (fun r _ => ifs (fun _ => ?_) (fun _ => q))
  exact na_0_4 hI hp (v2) (v3 + 1) (1) (by lia)
theorem na_0_2 {post : Int32 → MM → Int64 → Prop} {M : MM} {tl : Int64} (hI : Inv M) (hp : ∀ (r : Int32), (-1 ≤ r ∧ r ≤ 11) → post r M tl) (v2 v3 v4 : Int32) (h : 0 ≤ v2 ∧ v2 ≤ 0) : wX4_nameAmong_25 post (63 + 1) M tl 0 v2 v3 v4 2 := by
  unfold wX4_nameAmong_25
  refine And.intro (by decide) (ifn (by decide) (And.intro (by decide) (ifn (by decide) (And.intro (by decide) (And.intro (by unfold vp_in; decide) ?_)))))
  refine ifn (by decide) ?_
  have q : wX4_nameAmong_129 post (wX4_nameAmong_25 post 63) M tl 0 v2 v3 2 := na_0_3 hI hp (v2) (v3 + 1) (0) (by lia)
  refine ifs (fun _ => q) (fun _ => ifs (fun _ => q) (fun _ => And.intro (by decide) (And.intro (by unfold vp_in; decide) ?_)))
  refine sf_X9_byteAt hI (fun r _ => ifs (fun _ => ?_) (fun _ => q))
  exact na_0_3 hI hp (v2) (v3 + 1) (1) (by lia)
theorem na_0_1 {post : Int32 → MM → Int64 → Prop} {M : MM} {tl : Int64} (hI : Inv M) (hp : ∀ (r : Int32), (-1 ≤ r ∧ r ≤ 11) → post r M tl) (v2 v3 v4 : Int32) (h : 0 ≤ v2 ∧ v2 ≤ 0) : wX4_nameAmong_25 post (64 + 1) M tl 0 v2 v3 v4 1 := by
  unfold wX4_nameAmong_25
  refine And.intro (by decide) (ifn (by decide) (And.intro (by decide) (ifn (by decide) (And.intro (by decide) (And.intro (by unfold vp_in; decide) ?_)))))
  refine ifn (by decide) ?_
  have q : wX4_nameAmong_129 post (wX4_nameAmong_25 post 64) M tl 0 v2 v3 1 := na_0_2 hI hp (v2) (v3 + 1) (0) (by lia)
  refine ifs (fun _ => q) (fun _ => ifs (fun _ => q) (fun _ => And.intro (by decide) (And.intro (by unfold vp_in; decide) ?_)))
  refine sf_X9_byteAt hI (fun r _ => ifs (fun _ => ?_) (fun _ => q))
  exact na_0_2 hI hp (v2) (v3 + 1) (1) (by lia)
theorem na_0_0 {post : Int32 → MM → Int64 → Prop} {M : MM} {tl : Int64} (hI : Inv M) (hp : ∀ (r : Int32), (-1 ≤ r ∧ r ≤ 11) → post r M tl) (v2 v3 v4 : Int32) (h : 0 ≤ v2 ∧ v2 ≤ 0) : wX4_nameAmong_25 post (65 + 1) M tl 0 v2 v3 v4 0 := by
  unfold wX4_nameAmong_25
  refine And.intro (by decide) (ifn (by decide) (And.intro (by decide) (ifn (by decide) (And.intro (by decide) (And.intro (by unfold vp_in; decide) ?_)))))
  refine ifn (by decide) ?_
  have q : wX4_nameAmong_129 post (wX4_nameAmong_25 post 65) M tl 0 v2 v3 0 := na_0_1 hI hp (v2) (v3 + 1) (0) (by lia)
  refine ifs (fun _ => q) (fun _ => ifs (fun _ => q) (fun _ => And.intro (by decide) (And.intro (by unfold vp_in; decide) ?_)))
  refine sf_X9_byteAt hI (fun r _ => ifs (fun _ => ?_) (fun _ => q))
  exact na_0_1 hI hp (v2) (v3 + 1) (1) (by lia)
theorem sf_X4_nameAmong__0 {post : Int32 → MM → Int64 → Prop} {M : MM} {tl : Int64} (hI : Inv M) (hp : ∀ (r : Int32), (-1 ≤ r ∧ r ≤ 11) → post r M tl) : wpX4_nameAmong post M tl 0 := by
  unfold wpX4_nameAmong
  refine ifs (fun _ => ?_) (fun _ => ?_)
  · exact ⟨65 + 1, na_0_0 hI hp 0 _ 1 (by decide)⟩
  · exact ⟨65 + 1, na_0_0 hI hp 0 _ 0 (by decide)⟩
set_option maxHeartbeats 4000000 in
theorem sf_X4_tellOnce {post : MM → Int64 → Prop} {M : MM} {tl : Int64} {v1 : Int32} (hI : Inv M) (hp : ∀ (M1 : MM) (t1 : Int64), Inv M1 → Fr [] [(22, 2), (22, 3)] M M1 → (M 22 2 = 0 ∨ M1 22 2 ≠ 0) → post M1 t1) : wpX4_tellOnce post M tl v1 := by
  unfold wpX4_tellOnce
  refine ifs (fun hc1 => ?_) (fun hc2 => ?_)
  · skip
    refine ifs (fun hc3 => ?_) (fun hc4 => ?_)
    · skip
      unfold wX4_tellOnce_31
      exact hp _ _ hI fr_rfl (by lia)
    · skip
      refine sf_X4_fail hI (by lia) (fun r5 M6 t7 hI8 hF9 hq10 => ?_)
      have hF11 : Fr [] [(22, 2), (22, 3)] M M6 := fr_call fr_rfl hF9 (by decide) (by decide)
      unfold wX4_tellOnce_31
      exact hp _ _ hI8 hF11 (by lia)
  · skip
    exact hp _ _ hI fr_rfl (by lia)
set_option maxHeartbeats 4000000 in
theorem sf_X4_takeNumber {post : Int32 → MM → Int64 → Prop} {M : MM} {tl : Int64} {v1 : Int32} {v2 : Int32} (hI : Inv M) (hp : ∀ (r : Int32) (M1 : MM) (t1 : Int64), Inv M1 → Fr [] [(22, 2), (22, 3), (22, 6), (22, 7), (22, 8), (22, 9)] M M1 → (M 22 2 = 0 ∨ M1 22 2 ≠ 0) ∧ ((r = -1 ∧ M1 22 2 ≠ 0) ∨ (v1 ≤ r ∧ r ≤ v2 ∧ M1 22 2 = 0)) → post r M1 t1) : wpX4_takeNumber post M tl v1 v2 := by
  unfold wpX4_takeNumber
  refine sf_X4_takeToken hI  (fun M2 t3 hI4 hF5 hq6 => ?_)
  have hF7 : Fr [] [(22, 2), (22, 3), (22, 6), (22, 7), (22, 8), (22, 9)] M M2 := fr_call fr_rfl hF5 (by decide) (by decide)
  refine ifs (fun hc8 => ?_) (fun hc9 => ?_)
  · skip
    refine ifs (fun hc10 => ?_) (fun hc11 => ?_)
    · skip
      refine ifs (fun hc12 => ?_) (fun hc13 => ?_)
      · skip
        unfold wX4_takeNumber_47
        refine sf_X4_fail hI4 (by lia) (fun r14 M15 t16 hI17 hF18 hq19 => ?_)
        have hF20 : Fr [] [(22, 2), (22, 3), (22, 6), (22, 7), (22, 8), (22, 9)] M M15 := fr_call hF7 hF18 (by decide) (by decide)
        exact hp _ _ _ hI17 hF20 (by lia)
      · skip
        refine ifs (fun hc21 => ?_) (fun hc22 => ?_)
        · skip
          exact hp _ _ _ hI4 hF7 (by lia)
        · skip
          unfold wX4_takeNumber_47
          refine sf_X4_fail hI4 (by lia) (fun r23 M24 t25 hI26 hF27 hq28 => ?_)
          have hF29 : Fr [] [(22, 2), (22, 3), (22, 6), (22, 7), (22, 8), (22, 9)] M M24 := fr_call hF7 hF27 (by decide) (by decide)
          exact hp _ _ _ hI26 hF29 (by lia)
    · skip
      refine sf_X4_fail hI4 (by lia) (fun r30 M31 t32 hI33 hF34 hq35 => ?_)
      have hF36 : Fr [] [(22, 2), (22, 3), (22, 6), (22, 7), (22, 8), (22, 9)] M M31 := fr_call hF7 hF34 (by decide) (by decide)
      exact hp _ _ _ hI33 hF36 (by lia)
  · skip
    exact hp _ _ _ hI4 hF7 (by lia)
set_option maxHeartbeats 4000000 in
theorem sl_X4_readPrices_2 {post : MM → Int64 → Prop} {Mb : MM} (hp : ∀ (M1 : MM) (t1 : Int64), Inv M1 → Fr [24] [(22, 2), (22, 3), (22, 6), (22, 7), (22, 8), (22, 9)] Mb M1 → True → post M1 t1) : ∀ v1 : Int32, 0 ≤ v1 → v1 ≤ 4 → ∃ n, ∀ (M : MM) (tl : Int64), Inv M → Fr [24] [(22, 2), (22, 3), (22, 6), (22, 7), (22, 8), (22, 9)] Mb M → (True) → wX4_readPrices_2 post n M tl v1 := by
  refine up_ex (P := fun d v1 => ∀ (M : MM) (tl : Int64), Inv M → Fr [24] [(22, 2), (22, 3), (22, 6), (22, 7), (22, 8), (22, 9)] Mb M → (True) → wX4_readPrices_2 post d M tl v1) 0 4 ?_
  intro d v1 hlo hhi rec M tl  hI hF hli
  unfold wX4_readPrices_2
  refine ifs (fun hc1 => ?_) (fun hc2 => ?_)
  · skip
    exact hp _ _ hI hF trivial
  · skip
    refine ifs (fun hc3 => ?_) (fun hc4 => ?_)
    · skip
      refine sf_X4_takeNumber hI  (fun r5 M6 t7 hI8 hF9 hq10 => ?_)
      have hF11 : Fr [24] [(22, 2), (22, 3), (22, 6), (22, 7), (22, 8), (22, 9)] Mb M6 := fr_call hF hF9 (by decide) (by decide)
      refine And.intro (vpI (c := 4) (by decide) (by lia) (by lia)) ?_
      intro W12 hW13
      have hI14 : Inv W12 := by rw [hW13]; exact inv_set hI8 (i_any _)
      have hF15 : Fr [24] [(22, 2), (22, 3), (22, 6), (22, 7), (22, 8), (22, 9)] Mb W12 := by rw [hW13]; exact fr_arr hF11 (by decide)
      exact rec (by lia) _ _  hI14 hF15 trivial
    · skip
      exact hp _ _ hI hF trivial
set_option maxHeartbeats 4000000 in
theorem sf_X4_readPrices {post : MM → Int64 → Prop} {M : MM} {tl : Int64} (hI : Inv M) (hp : ∀ (M1 : MM) (t1 : Int64), Inv M1 → Fr [24] [(22, 2), (22, 3), (22, 6), (22, 7), (22, 8), (22, 9)] M M1 → True → post M1 t1) : wpX4_readPrices post M tl  := by
  unfold wpX4_readPrices
  obtain ⟨n1, hn2⟩ := sl_X4_readPrices_2 (Mb := M) hp  (0 : Int32) (by lia) (by lia)
  exact ⟨n1, hn2 _ _  hI fr_rfl trivial⟩
set_option maxHeartbeats 4000000 in
theorem sf_X4_takeBank {post : Int32 → MM → Int64 → Prop} {M : MM} {tl : Int64} (hI : Inv M) (hp : ∀ (r : Int32) (M1 : MM) (t1 : Int64), Inv M1 → Fr [] [(22, 2), (22, 3), (22, 6), (22, 7), (22, 8), (22, 9)] M M1 → (M 22 2 = 0 ∨ M1 22 2 ≠ 0) ∧ ((r = -1 ∧ M1 22 2 ≠ 0) ∨ (0 ≤ r ∧ r ≤ 1 ∧ M1 22 2 = 0)) → post r M1 t1) : wpX4_takeBank post M tl  := by
  unfold wpX4_takeBank
  refine sf_X4_takeNumber hI  (fun r1 M2 t3 hI4 hF5 hq6 => ?_)
  have hF7 : Fr [] [(22, 2), (22, 3), (22, 6), (22, 7), (22, 8), (22, 9)] M M2 := fr_call fr_rfl hF5 (by decide) (by decide)
  exact hp _ _ _ hI4 hF7 (by lia)
set_option maxHeartbeats 4000000 in
theorem sl_X4_readOfKinds_15__25 {post : MM → Int64 → Prop} {Mb : MM} (hp : ∀ (M1 : MM) (t1 : Int64), Inv M1 → Fr [26, 27] [(22, 2), (22, 3), (22, 6), (22, 7), (22, 8), (22, 9)] Mb M1 → True → post M1 t1) : ∀ v4 : Int32, 0 ≤ v4 → v4 ≤ 6 → ∃ n, ∀ (M : MM) (tl : Int64) (v3 : Int32), Inv M → Fr [26, 27] [(22, 2), (22, 3), (22, 6), (22, 7), (22, 8), (22, 9)] Mb M → (((v3 = -1 ∧ M 22 2 ≠ 0) ∨ (0 ≤ v3 ∧ v3 ≤ 1))) → wX4_readOfKinds_15 post n M tl 25 v3 v4 := by
  refine up_ex (P := fun d v4 => ∀ (M : MM) (tl : Int64) (v3 : Int32), Inv M → Fr [26, 27] [(22, 2), (22, 3), (22, 6), (22, 7), (22, 8), (22, 9)] Mb M → (((v3 = -1 ∧ M 22 2 ≠ 0) ∨ (0 ≤ v3 ∧ v3 ≤ 1))) → wX4_readOfKinds_15 post d M tl 25 v3 v4) 0 6 ?_
  intro d v4 hlo hhi rec M tl v3 hI hF hli
  unfold wX4_readOfKinds_15
  refine ifs (fun hc1 => ?_) (fun hc2 => ?_)
  · skip
    exact hp _ _ hI hF trivial
  · skip
    refine ifs (fun hc3 => ?_) (fun hc4 => ?_)
    · skip
      refine And.intro (by decide) ?_
      refine And.intro (vpI (c := 2) (by decide) (by lia) (by lia)) ?_
      refine sf_X4_takeNumber hI  (fun r5 M6 t7 hI8 hF9 hq10 => ?_)
      have hF11 : Fr [26, 27] [(22, 2), (22, 3), (22, 6), (22, 7), (22, 8), (22, 9)] Mb M6 := fr_call hF hF9 (by decide) (by decide)
      rcases cs2 (v := v3) (by lia) (by lia) with hs | hs <;> subst hs
      · skip
        refine And.intro (by decide) ?_
        refine And.intro (vpI (c := 6) (by decide) (by lia) (by lia)) ?_
        intro W12 hW13
        have hI14 : Inv W12 := by rw [hW13]; exact inv_set hI8 (i_any _)
        have hF15 : Fr [26, 27] [(22, 2), (22, 3), (22, 6), (22, 7), (22, 8), (22, 9)] Mb W12 := by rw [hW13]; exact fr_arr hF11 (by decide)
        have hx16 : W12 22 2 = M6 22 2 := by rw [hW13, mset_ne (by decide)]
        exact rec (by lia) _ _ (0 : Int32) hI14 hF15 (by lia)
      · skip
        refine And.intro (by decide) ?_
        refine And.intro (vpI (c := 6) (by decide) (by lia) (by lia)) ?_
        intro W17 hW18
        have hI19 : Inv W17 := by rw [hW18]; exact inv_set hI8 (i_any _)
        have hF20 : Fr [26, 27] [(22, 2), (22, 3), (22, 6), (22, 7), (22, 8), (22, 9)] Mb W17 := by rw [hW18]; exact fr_arr hF11 (by decide)
        have hx21 : W17 22 2 = M6 22 2 := by rw [hW18, mset_ne (by decide)]
        exact rec (by lia) _ _ (1 : Int32) hI19 hF20 (by lia)
    · skip
      exact hp _ _ hI hF trivial
set_option maxHeartbeats 4000000 in
theorem sf_X4_readOfKinds__25 {post : MM → Int64 → Prop} {M : MM} {tl : Int64} {v2 : Int32} (hI : Inv M) (hp : ∀ (M1 : MM) (t1 : Int64), Inv M1 → Fr [26, 27] [(22, 2), (22, 3), (22, 6), (22, 7), (22, 8), (22, 9)] M M1 → True → post M1 t1) : wpX4_readOfKinds post M tl 25 v2 := by
  unfold wpX4_readOfKinds
  refine sf_X4_takeBank hI  (fun r1 M2 t3 hI4 hF5 hq6 => ?_)
  have hF7 : Fr [26, 27] [(22, 2), (22, 3), (22, 6), (22, 7), (22, 8), (22, 9)] M M2 := fr_call fr_rfl hF5 (by decide) (by decide)
  refine sf_X4_tellOnce hI4  (fun M9 t10 hI11 hF12 hq13 => ?_)
  have hF14 : Fr [26, 27] [(22, 2), (22, 3), (22, 6), (22, 7), (22, 8), (22, 9)] M M9 := fr_call hF7 hF12 (by decide) (by decide)
  obtain ⟨n15, hn16⟩ := sl_X4_readOfKinds_15__25 (Mb := M) hp  (1 : Int32) (by lia) (by lia)
  exact ⟨n15, hn16 _ _ r1 hI11 hF14 (by lia)⟩
set_option maxHeartbeats 4000000 in
theorem sl_X4_readOfKinds_15__28 {post : MM → Int64 → Prop} {Mb : MM} (hp : ∀ (M1 : MM) (t1 : Int64), Inv M1 → Fr [29, 30] [(22, 2), (22, 3), (22, 6), (22, 7), (22, 8), (22, 9)] Mb M1 → True → post M1 t1) : ∀ v4 : Int32, 0 ≤ v4 → v4 ≤ 6 → ∃ n, ∀ (M : MM) (tl : Int64) (v3 : Int32), Inv M → Fr [29, 30] [(22, 2), (22, 3), (22, 6), (22, 7), (22, 8), (22, 9)] Mb M → (((v3 = -1 ∧ M 22 2 ≠ 0) ∨ (0 ≤ v3 ∧ v3 ≤ 1))) → wX4_readOfKinds_15 post n M tl 28 v3 v4 := by
  refine up_ex (P := fun d v4 => ∀ (M : MM) (tl : Int64) (v3 : Int32), Inv M → Fr [29, 30] [(22, 2), (22, 3), (22, 6), (22, 7), (22, 8), (22, 9)] Mb M → (((v3 = -1 ∧ M 22 2 ≠ 0) ∨ (0 ≤ v3 ∧ v3 ≤ 1))) → wX4_readOfKinds_15 post d M tl 28 v3 v4) 0 6 ?_
  intro d v4 hlo hhi rec M tl v3 hI hF hli
  unfold wX4_readOfKinds_15
  refine ifs (fun hc1 => ?_) (fun hc2 => ?_)
  · skip
    exact hp _ _ hI hF trivial
  · skip
    refine ifs (fun hc3 => ?_) (fun hc4 => ?_)
    · skip
      refine And.intro (by decide) ?_
      refine And.intro (vpI (c := 2) (by decide) (by lia) (by lia)) ?_
      refine sf_X4_takeNumber hI  (fun r5 M6 t7 hI8 hF9 hq10 => ?_)
      have hF11 : Fr [29, 30] [(22, 2), (22, 3), (22, 6), (22, 7), (22, 8), (22, 9)] Mb M6 := fr_call hF hF9 (by decide) (by decide)
      rcases cs2 (v := v3) (by lia) (by lia) with hs | hs <;> subst hs
      · skip
        refine And.intro (by decide) ?_
        refine And.intro (vpI (c := 6) (by decide) (by lia) (by lia)) ?_
        intro W12 hW13
        have hI14 : Inv W12 := by rw [hW13]; exact inv_set hI8 (i_any _)
        have hF15 : Fr [29, 30] [(22, 2), (22, 3), (22, 6), (22, 7), (22, 8), (22, 9)] Mb W12 := by rw [hW13]; exact fr_arr hF11 (by decide)
        have hx16 : W12 22 2 = M6 22 2 := by rw [hW13, mset_ne (by decide)]
        exact rec (by lia) _ _ (0 : Int32) hI14 hF15 (by lia)
      · skip
        refine And.intro (by decide) ?_
        refine And.intro (vpI (c := 6) (by decide) (by lia) (by lia)) ?_
        intro W17 hW18
        have hI19 : Inv W17 := by rw [hW18]; exact inv_set hI8 (i_any _)
        have hF20 : Fr [29, 30] [(22, 2), (22, 3), (22, 6), (22, 7), (22, 8), (22, 9)] Mb W17 := by rw [hW18]; exact fr_arr hF11 (by decide)
        have hx21 : W17 22 2 = M6 22 2 := by rw [hW18, mset_ne (by decide)]
        exact rec (by lia) _ _ (1 : Int32) hI19 hF20 (by lia)
    · skip
      exact hp _ _ hI hF trivial
set_option maxHeartbeats 4000000 in
theorem sf_X4_readOfKinds__28 {post : MM → Int64 → Prop} {M : MM} {tl : Int64} {v2 : Int32} (hI : Inv M) (hp : ∀ (M1 : MM) (t1 : Int64), Inv M1 → Fr [29, 30] [(22, 2), (22, 3), (22, 6), (22, 7), (22, 8), (22, 9)] M M1 → True → post M1 t1) : wpX4_readOfKinds post M tl 28 v2 := by
  unfold wpX4_readOfKinds
  refine sf_X4_takeBank hI  (fun r1 M2 t3 hI4 hF5 hq6 => ?_)
  have hF7 : Fr [29, 30] [(22, 2), (22, 3), (22, 6), (22, 7), (22, 8), (22, 9)] M M2 := fr_call fr_rfl hF5 (by decide) (by decide)
  refine sf_X4_tellOnce hI4  (fun M9 t10 hI11 hF12 hq13 => ?_)
  have hF14 : Fr [29, 30] [(22, 2), (22, 3), (22, 6), (22, 7), (22, 8), (22, 9)] M M9 := fr_call hF7 hF12 (by decide) (by decide)
  obtain ⟨n15, hn16⟩ := sl_X4_readOfKinds_15__28 (Mb := M) hp  (1 : Int32) (by lia) (by lia)
  exact ⟨n15, hn16 _ _ r1 hI11 hF14 (by lia)⟩
theorem na_1_31 {post : Int32 → MM → Int64 → Prop} {M : MM} {tl : Int64} (hI : Inv M) (hp : ∀ (r : Int32), (-1 ≤ r ∧ r ≤ 4) → post r M tl) (v2 v3 v4 : Int32) (h : 0 ≤ v2 ∧ v2 ≤ 5) : wX4_nameAmong_25 post (0 + 1) M tl 1 v2 v3 v4 31 := by
  unfold wX4_nameAmong_25
  exact And.intro (by decide) (ifp (by decide) (hp _ (by decide)))
theorem na_1_30 {post : Int32 → MM → Int64 → Prop} {M : MM} {tl : Int64} (hI : Inv M) (hp : ∀ (r : Int32), (-1 ≤ r ∧ r ≤ 4) → post r M tl) (v2 v3 v4 : Int32) (h : 0 ≤ v2 ∧ v2 ≤ 4) : wX4_nameAmong_25 post (1 + 1) M tl 1 v2 v3 v4 30 := by
  unfold wX4_nameAmong_25
  refine And.intro (by decide) (ifn (by decide) (And.intro (by decide) (ifp (by decide) ?_)))
  unfold wX4_nameAmong_54
  have q : wX4_nameAmong_69 post (wX4_nameAmong_25 post 1) M tl 1 v2 30 := by
    unfold wX4_nameAmong_69
    refine ifs (fun _ => ?_) (fun _ => ?_)
    · exact na_1_31 hI hp (v2 + 1) (M 22 7) (1) (by lia)
    · exact na_1_31 hI hp (v2 + 1) (M 22 7) (0) (by lia)
  exact ifs (fun _ => q) (fun _ => ifs (fun _ => hp _ (by lia)) (fun _ => q))
theorem na_1_29 {post : Int32 → MM → Int64 → Prop} {M : MM} {tl : Int64} (hI : Inv M) (hp : ∀ (r : Int32), (-1 ≤ r ∧ r ≤ 4) → post r M tl) (v2 v3 v4 : Int32) (h : 0 ≤ v2 ∧ v2 ≤ 4) : wX4_nameAmong_25 post (2 + 1) M tl 1 v2 v3 v4 29 := by
  unfold wX4_nameAmong_25
  refine And.intro (by decide) (ifn (by decide) (And.intro (by decide) (ifn (by decide) (And.intro (by decide) (And.intro (by unfold vp_in; decide) ?_)))))
  refine ifn (by decide) ?_
  have q : wX4_nameAmong_129 post (wX4_nameAmong_25 post 2) M tl 1 v2 v3 29 := na_1_30 hI hp (v2) (v3 + 1) (0) (by lia)
  refine ifs (fun _ => q) (fun _ => ifs (fun _ => q) (fun _ => And.intro (by decide) (And.intro (by unfold vp_in; decide) ?_)))
  refine sf_X9_byteAt hI (fun r _ => ifs (fun _ => ?_) (fun _ => q))
  exact na_1_30 hI hp (v2) (v3 + 1) (1) (by lia)
theorem na_1_28 {post : Int32 → MM → Int64 → Prop} {M : MM} {tl : Int64} (hI : Inv M) (hp : ∀ (r : Int32), (-1 ≤ r ∧ r ≤ 4) → post r M tl) (v2 v3 v4 : Int32) (h : 0 ≤ v2 ∧ v2 ≤ 4) : wX4_nameAmong_25 post (3 + 1) M tl 1 v2 v3 v4 28 := by
  unfold wX4_nameAmong_25
  refine And.intro (by decide) (ifn (by decide) (And.intro (by decide) (ifn (by decide) (And.intro (by decide) (And.intro (by unfold vp_in; decide) ?_)))))
  refine ifn (by decide) ?_
  have q : wX4_nameAmong_129 post (wX4_nameAmong_25 post 3) M tl 1 v2 v3 28 := na_1_29 hI hp (v2) (v3 + 1) (0) (by lia)
  refine ifs (fun _ => q) (fun _ => ifs (fun _ => q) (fun _ => And.intro (by decide) (And.intro (by unfold vp_in; decide) ?_)))
  refine sf_X9_byteAt hI (fun r _ => ifs (fun _ => ?_) (fun _ => q))
  exact na_1_29 hI hp (v2) (v3 + 1) (1) (by lia)
theorem na_1_27 {post : Int32 → MM → Int64 → Prop} {M : MM} {tl : Int64} (hI : Inv M) (hp : ∀ (r : Int32), (-1 ≤ r ∧ r ≤ 4) → post r M tl) (v2 v3 v4 : Int32) (h : 0 ≤ v2 ∧ v2 ≤ 4) : wX4_nameAmong_25 post (4 + 1) M tl 1 v2 v3 v4 27 := by
  unfold wX4_nameAmong_25
  refine And.intro (by decide) (ifn (by decide) (And.intro (by decide) (ifn (by decide) (And.intro (by decide) (And.intro (by unfold vp_in; decide) ?_)))))
  refine ifn (by decide) ?_
  have q : wX4_nameAmong_129 post (wX4_nameAmong_25 post 4) M tl 1 v2 v3 27 := na_1_28 hI hp (v2) (v3 + 1) (0) (by lia)
  refine ifs (fun _ => q) (fun _ => ifs (fun _ => q) (fun _ => And.intro (by decide) (And.intro (by unfold vp_in; decide) ?_)))
  refine sf_X9_byteAt hI (fun r _ => ifs (fun _ => ?_) (fun _ => q))
  exact na_1_28 hI hp (v2) (v3 + 1) (1) (by lia)
theorem na_1_26 {post : Int32 → MM → Int64 → Prop} {M : MM} {tl : Int64} (hI : Inv M) (hp : ∀ (r : Int32), (-1 ≤ r ∧ r ≤ 4) → post r M tl) (v2 v3 v4 : Int32) (h : 0 ≤ v2 ∧ v2 ≤ 4) : wX4_nameAmong_25 post (5 + 1) M tl 1 v2 v3 v4 26 := by
  unfold wX4_nameAmong_25
  refine And.intro (by decide) (ifn (by decide) (And.intro (by decide) (ifn (by decide) (And.intro (by decide) (And.intro (by unfold vp_in; decide) ?_)))))
  refine ifn (by decide) ?_
  have q : wX4_nameAmong_129 post (wX4_nameAmong_25 post 5) M tl 1 v2 v3 26 := na_1_27 hI hp (v2) (v3 + 1) (0) (by lia)
  refine ifs (fun _ => q) (fun _ => ifs (fun _ => q) (fun _ => And.intro (by decide) (And.intro (by unfold vp_in; decide) ?_)))
  refine sf_X9_byteAt hI (fun r _ => ifs (fun _ => ?_) (fun _ => q))
  exact na_1_27 hI hp (v2) (v3 + 1) (1) (by lia)
theorem na_1_25 {post : Int32 → MM → Int64 → Prop} {M : MM} {tl : Int64} (hI : Inv M) (hp : ∀ (r : Int32), (-1 ≤ r ∧ r ≤ 4) → post r M tl) (v2 v3 v4 : Int32) (h : 0 ≤ v2 ∧ v2 ≤ 4) : wX4_nameAmong_25 post (6 + 1) M tl 1 v2 v3 v4 25 := by
  unfold wX4_nameAmong_25
  refine And.intro (by decide) (ifn (by decide) (And.intro (by decide) (ifn (by decide) (And.intro (by decide) (And.intro (by unfold vp_in; decide) ?_)))))
  refine ifn (by decide) ?_
  have q : wX4_nameAmong_129 post (wX4_nameAmong_25 post 6) M tl 1 v2 v3 25 := na_1_26 hI hp (v2) (v3 + 1) (0) (by lia)
  refine ifs (fun _ => q) (fun _ => ifs (fun _ => q) (fun _ => And.intro (by decide) (And.intro (by unfold vp_in; decide) ?_)))
  refine sf_X9_byteAt hI (fun r _ => ifs (fun _ => ?_) (fun _ => q))
  exact na_1_26 hI hp (v2) (v3 + 1) (1) (by lia)
theorem na_1_24 {post : Int32 → MM → Int64 → Prop} {M : MM} {tl : Int64} (hI : Inv M) (hp : ∀ (r : Int32), (-1 ≤ r ∧ r ≤ 4) → post r M tl) (v2 v3 v4 : Int32) (h : 0 ≤ v2 ∧ v2 ≤ 4) : wX4_nameAmong_25 post (7 + 1) M tl 1 v2 v3 v4 24 := by
  unfold wX4_nameAmong_25
  refine And.intro (by decide) (ifn (by decide) (And.intro (by decide) (ifn (by decide) (And.intro (by decide) (And.intro (by unfold vp_in; decide) ?_)))))
  refine ifn (by decide) ?_
  have q : wX4_nameAmong_129 post (wX4_nameAmong_25 post 7) M tl 1 v2 v3 24 := na_1_25 hI hp (v2) (v3 + 1) (0) (by lia)
  refine ifs (fun _ => q) (fun _ => ifs (fun _ => q) (fun _ => And.intro (by decide) (And.intro (by unfold vp_in; decide) ?_)))
  refine sf_X9_byteAt hI (fun r _ => ifs (fun _ => ?_) (fun _ => q))
  exact na_1_25 hI hp (v2) (v3 + 1) (1) (by lia)
theorem na_1_23 {post : Int32 → MM → Int64 → Prop} {M : MM} {tl : Int64} (hI : Inv M) (hp : ∀ (r : Int32), (-1 ≤ r ∧ r ≤ 4) → post r M tl) (v2 v3 v4 : Int32) (h : 0 ≤ v2 ∧ v2 ≤ 3) : wX4_nameAmong_25 post (8 + 1) M tl 1 v2 v3 v4 23 := by
  unfold wX4_nameAmong_25
  refine And.intro (by decide) (ifn (by decide) (And.intro (by decide) (ifn (by decide) (And.intro (by decide) (And.intro (by unfold vp_in; decide) ?_)))))
  refine ifp (by decide) ?_
  unfold wX4_nameAmong_54
  have q : wX4_nameAmong_69 post (wX4_nameAmong_25 post 8) M tl 1 v2 23 := by
    unfold wX4_nameAmong_69
    refine ifs (fun _ => ?_) (fun _ => ?_)
    · exact na_1_24 hI hp (v2 + 1) (M 22 7) (1) (by lia)
    · exact na_1_24 hI hp (v2 + 1) (M 22 7) (0) (by lia)
  exact ifs (fun _ => q) (fun _ => ifs (fun _ => hp _ (by lia)) (fun _ => q))
theorem na_1_22 {post : Int32 → MM → Int64 → Prop} {M : MM} {tl : Int64} (hI : Inv M) (hp : ∀ (r : Int32), (-1 ≤ r ∧ r ≤ 4) → post r M tl) (v2 v3 v4 : Int32) (h : 0 ≤ v2 ∧ v2 ≤ 3) : wX4_nameAmong_25 post (9 + 1) M tl 1 v2 v3 v4 22 := by
  unfold wX4_nameAmong_25
  refine And.intro (by decide) (ifn (by decide) (And.intro (by decide) (ifn (by decide) (And.intro (by decide) (And.intro (by unfold vp_in; decide) ?_)))))
  refine ifn (by decide) ?_
  have q : wX4_nameAmong_129 post (wX4_nameAmong_25 post 9) M tl 1 v2 v3 22 := na_1_23 hI hp (v2) (v3 + 1) (0) (by lia)
  refine ifs (fun _ => q) (fun _ => ifs (fun _ => q) (fun _ => And.intro (by decide) (And.intro (by unfold vp_in; decide) ?_)))
  refine sf_X9_byteAt hI (fun r _ => ifs (fun _ => ?_) (fun _ => q))
  exact na_1_23 hI hp (v2) (v3 + 1) (1) (by lia)
theorem na_1_21 {post : Int32 → MM → Int64 → Prop} {M : MM} {tl : Int64} (hI : Inv M) (hp : ∀ (r : Int32), (-1 ≤ r ∧ r ≤ 4) → post r M tl) (v2 v3 v4 : Int32) (h : 0 ≤ v2 ∧ v2 ≤ 3) : wX4_nameAmong_25 post (10 + 1) M tl 1 v2 v3 v4 21 := by
  unfold wX4_nameAmong_25
  refine And.intro (by decide) (ifn (by decide) (And.intro (by decide) (ifn (by decide) (And.intro (by decide) (And.intro (by unfold vp_in; decide) ?_)))))
  refine ifn (by decide) ?_
  have q : wX4_nameAmong_129 post (wX4_nameAmong_25 post 10) M tl 1 v2 v3 21 := na_1_22 hI hp (v2) (v3 + 1) (0) (by lia)
  refine ifs (fun _ => q) (fun _ => ifs (fun _ => q) (fun _ => And.intro (by decide) (And.intro (by unfold vp_in; decide) ?_)))
  refine sf_X9_byteAt hI (fun r _ => ifs (fun _ => ?_) (fun _ => q))
  exact na_1_22 hI hp (v2) (v3 + 1) (1) (by lia)
theorem na_1_20 {post : Int32 → MM → Int64 → Prop} {M : MM} {tl : Int64} (hI : Inv M) (hp : ∀ (r : Int32), (-1 ≤ r ∧ r ≤ 4) → post r M tl) (v2 v3 v4 : Int32) (h : 0 ≤ v2 ∧ v2 ≤ 3) : wX4_nameAmong_25 post (11 + 1) M tl 1 v2 v3 v4 20 := by
  unfold wX4_nameAmong_25
  refine And.intro (by decide) (ifn (by decide) (And.intro (by decide) (ifn (by decide) (And.intro (by decide) (And.intro (by unfold vp_in; decide) ?_)))))
  refine ifn (by decide) ?_
  have q : wX4_nameAmong_129 post (wX4_nameAmong_25 post 11) M tl 1 v2 v3 20 := na_1_21 hI hp (v2) (v3 + 1) (0) (by lia)
  refine ifs (fun _ => q) (fun _ => ifs (fun _ => q) (fun _ => And.intro (by decide) (And.intro (by unfold vp_in; decide) ?_)))
  refine sf_X9_byteAt hI (fun r _ => ifs (fun _ => ?_) (fun _ => q))
  exact na_1_21 hI hp (v2) (v3 + 1) (1) (by lia)
theorem na_1_19 {post : Int32 → MM → Int64 → Prop} {M : MM} {tl : Int64} (hI : Inv M) (hp : ∀ (r : Int32), (-1 ≤ r ∧ r ≤ 4) → post r M tl) (v2 v3 v4 : Int32) (h : 0 ≤ v2 ∧ v2 ≤ 3) : wX4_nameAmong_25 post (12 + 1) M tl 1 v2 v3 v4 19 := by
  unfold wX4_nameAmong_25
  refine And.intro (by decide) (ifn (by decide) (And.intro (by decide) (ifn (by decide) (And.intro (by decide) (And.intro (by unfold vp_in; decide) ?_)))))
  refine ifn (by decide) ?_
  have q : wX4_nameAmong_129 post (wX4_nameAmong_25 post 12) M tl 1 v2 v3 19 := na_1_20 hI hp (v2) (v3 + 1) (0) (by lia)
  refine ifs (fun _ => q) (fun _ => ifs (fun _ => q) (fun _ => And.intro (by decide) (And.intro (by unfold vp_in; decide) ?_)))
  refine sf_X9_byteAt hI (fun r _ => ifs (fun _ => ?_) (fun _ => q))
  exact na_1_20 hI hp (v2) (v3 + 1) (1) (by lia)
theorem na_1_18 {post : Int32 → MM → Int64 → Prop} {M : MM} {tl : Int64} (hI : Inv M) (hp : ∀ (r : Int32), (-1 ≤ r ∧ r ≤ 4) → post r M tl) (v2 v3 v4 : Int32) (h : 0 ≤ v2 ∧ v2 ≤ 3) : wX4_nameAmong_25 post (13 + 1) M tl 1 v2 v3 v4 18 := by
  unfold wX4_nameAmong_25
  refine And.intro (by decide) (ifn (by decide) (And.intro (by decide) (ifn (by decide) (And.intro (by decide) (And.intro (by unfold vp_in; decide) ?_)))))
  refine ifn (by decide) ?_
  have q : wX4_nameAmong_129 post (wX4_nameAmong_25 post 13) M tl 1 v2 v3 18 := na_1_19 hI hp (v2) (v3 + 1) (0) (by lia)
  refine ifs (fun _ => q) (fun _ => ifs (fun _ => q) (fun _ => And.intro (by decide) (And.intro (by unfold vp_in; decide) ?_)))
  refine sf_X9_byteAt hI (fun r _ => ifs (fun _ => ?_) (fun _ => q))
  exact na_1_19 hI hp (v2) (v3 + 1) (1) (by lia)
theorem na_1_17 {post : Int32 → MM → Int64 → Prop} {M : MM} {tl : Int64} (hI : Inv M) (hp : ∀ (r : Int32), (-1 ≤ r ∧ r ≤ 4) → post r M tl) (v2 v3 v4 : Int32) (h : 0 ≤ v2 ∧ v2 ≤ 2) : wX4_nameAmong_25 post (14 + 1) M tl 1 v2 v3 v4 17 := by
  unfold wX4_nameAmong_25
  refine And.intro (by decide) (ifn (by decide) (And.intro (by decide) (ifn (by decide) (And.intro (by decide) (And.intro (by unfold vp_in; decide) ?_)))))
  refine ifp (by decide) ?_
  unfold wX4_nameAmong_54
  have q : wX4_nameAmong_69 post (wX4_nameAmong_25 post 14) M tl 1 v2 17 := by
    unfold wX4_nameAmong_69
    refine ifs (fun _ => ?_) (fun _ => ?_)
    · exact na_1_18 hI hp (v2 + 1) (M 22 7) (1) (by lia)
    · exact na_1_18 hI hp (v2 + 1) (M 22 7) (0) (by lia)
  exact ifs (fun _ => q) (fun _ => ifs (fun _ => hp _ (by lia)) (fun _ => q))
theorem na_1_16 {post : Int32 → MM → Int64 → Prop} {M : MM} {tl : Int64} (hI : Inv M) (hp : ∀ (r : Int32), (-1 ≤ r ∧ r ≤ 4) → post r M tl) (v2 v3 v4 : Int32) (h : 0 ≤ v2 ∧ v2 ≤ 2) : wX4_nameAmong_25 post (15 + 1) M tl 1 v2 v3 v4 16 := by
  unfold wX4_nameAmong_25
  refine And.intro (by decide) (ifn (by decide) (And.intro (by decide) (ifn (by decide) (And.intro (by decide) (And.intro (by unfold vp_in; decide) ?_)))))
  refine ifn (by decide) ?_
  have q : wX4_nameAmong_129 post (wX4_nameAmong_25 post 15) M tl 1 v2 v3 16 := na_1_17 hI hp (v2) (v3 + 1) (0) (by lia)
  refine ifs (fun _ => q) (fun _ => ifs (fun _ => q) (fun _ => And.intro (by decide) (And.intro (by unfold vp_in; decide) ?_)))
  refine sf_X9_byteAt hI (fun r _ => ifs (fun _ => ?_) (fun _ => q))
  exact na_1_17 hI hp (v2) (v3 + 1) (1) (by lia)
theorem na_1_15 {post : Int32 → MM → Int64 → Prop} {M : MM} {tl : Int64} (hI : Inv M) (hp : ∀ (r : Int32), (-1 ≤ r ∧ r ≤ 4) → post r M tl) (v2 v3 v4 : Int32) (h : 0 ≤ v2 ∧ v2 ≤ 2) : wX4_nameAmong_25 post (16 + 1) M tl 1 v2 v3 v4 15 := by
  unfold wX4_nameAmong_25
  refine And.intro (by decide) (ifn (by decide) (And.intro (by decide) (ifn (by decide) (And.intro (by decide) (And.intro (by unfold vp_in; decide) ?_)))))
  refine ifn (by decide) ?_
  have q : wX4_nameAmong_129 post (wX4_nameAmong_25 post 16) M tl 1 v2 v3 15 := na_1_16 hI hp (v2) (v3 + 1) (0) (by lia)
  refine ifs (fun _ => q) (fun _ => ifs (fun _ => q) (fun _ => And.intro (by decide) (And.intro (by unfold vp_in; decide) ?_)))
  refine sf_X9_byteAt hI (fun r _ => ifs (fun _ => ?_) (fun _ => q))
  exact na_1_16 hI hp (v2) (v3 + 1) (1) (by lia)
theorem na_1_14 {post : Int32 → MM → Int64 → Prop} {M : MM} {tl : Int64} (hI : Inv M) (hp : ∀ (r : Int32), (-1 ≤ r ∧ r ≤ 4) → post r M tl) (v2 v3 v4 : Int32) (h : 0 ≤ v2 ∧ v2 ≤ 2) : wX4_nameAmong_25 post (17 + 1) M tl 1 v2 v3 v4 14 := by
  unfold wX4_nameAmong_25
  refine And.intro (by decide) (ifn (by decide) (And.intro (by decide) (ifn (by decide) (And.intro (by decide) (And.intro (by unfold vp_in; decide) ?_)))))
  refine ifn (by decide) ?_
  have q : wX4_nameAmong_129 post (wX4_nameAmong_25 post 17) M tl 1 v2 v3 14 := na_1_15 hI hp (v2) (v3 + 1) (0) (by lia)
  refine ifs (fun _ => q) (fun _ => ifs (fun _ => q) (fun _ => And.intro (by decide) (And.intro (by unfold vp_in; decide) ?_)))
  refine sf_X9_byteAt hI (fun r _ => ifs (fun _ => ?_) (fun _ => q))
  exact na_1_15 hI hp (v2) (v3 + 1) (1) (by lia)
theorem na_1_13 {post : Int32 → MM → Int64 → Prop} {M : MM} {tl : Int64} (hI : Inv M) (hp : ∀ (r : Int32), (-1 ≤ r ∧ r ≤ 4) → post r M tl) (v2 v3 v4 : Int32) (h : 0 ≤ v2 ∧ v2 ≤ 2) : wX4_nameAmong_25 post (18 + 1) M tl 1 v2 v3 v4 13 := by
  unfold wX4_nameAmong_25
  refine And.intro (by decide) (ifn (by decide) (And.intro (by decide) (ifn (by decide) (And.intro (by decide) (And.intro (by unfold vp_in; decide) ?_)))))
  refine ifn (by decide) ?_
  have q : wX4_nameAmong_129 post (wX4_nameAmong_25 post 18) M tl 1 v2 v3 13 := na_1_14 hI hp (v2) (v3 + 1) (0) (by lia)
  refine ifs (fun _ => q) (fun _ => ifs (fun _ => q) (fun _ => And.intro (by decide) (And.intro (by unfold vp_in; decide) ?_)))
  refine sf_X9_byteAt hI (fun r _ => ifs (fun _ => ?_) (fun _ => q))
  exact na_1_14 hI hp (v2) (v3 + 1) (1) (by lia)
theorem na_1_12 {post : Int32 → MM → Int64 → Prop} {M : MM} {tl : Int64} (hI : Inv M) (hp : ∀ (r : Int32), (-1 ≤ r ∧ r ≤ 4) → post r M tl) (v2 v3 v4 : Int32) (h : 0 ≤ v2 ∧ v2 ≤ 1) : wX4_nameAmong_25 post (19 + 1) M tl 1 v2 v3 v4 12 := by
  unfold wX4_nameAmong_25
  refine And.intro (by decide) (ifn (by decide) (And.intro (by decide) (ifn (by decide) (And.intro (by decide) (And.intro (by unfold vp_in; decide) ?_)))))
  refine ifp (by decide) ?_
  unfold wX4_nameAmong_54
  have q : wX4_nameAmong_69 post (wX4_nameAmong_25 post 19) M tl 1 v2 12 := by
    unfold wX4_nameAmong_69
    refine ifs (fun _ => ?_) (fun _ => ?_)
    · exact na_1_13 hI hp (v2 + 1) (M 22 7) (1) (by lia)
    · exact na_1_13 hI hp (v2 + 1) (M 22 7) (0) (by lia)
  exact ifs (fun _ => q) (fun _ => ifs (fun _ => hp _ (by lia)) (fun _ => q))
theorem na_1_11 {post : Int32 → MM → Int64 → Prop} {M : MM} {tl : Int64} (hI : Inv M) (hp : ∀ (r : Int32), (-1 ≤ r ∧ r ≤ 4) → post r M tl) (v2 v3 v4 : Int32) (h : 0 ≤ v2 ∧ v2 ≤ 1) : wX4_nameAmong_25 post (20 + 1) M tl 1 v2 v3 v4 11 := by
  unfold wX4_nameAmong_25
  refine And.intro (by decide) (ifn (by decide) (And.intro (by decide) (ifn (by decide) (And.intro (by decide) (And.intro (by unfold vp_in; decide) ?_)))))
  refine ifn (by decide) ?_
  have q : wX4_nameAmong_129 post (wX4_nameAmong_25 post 20) M tl 1 v2 v3 11 := na_1_12 hI hp (v2) (v3 + 1) (0) (by lia)
  refine ifs (fun _ => q) (fun _ => ifs (fun _ => q) (fun _ => And.intro (by decide) (And.intro (by unfold vp_in; decide) ?_)))
  refine sf_X9_byteAt hI (fun r _ => ifs (fun _ => ?_) (fun _ => q))
  exact na_1_12 hI hp (v2) (v3 + 1) (1) (by lia)
theorem na_1_10 {post : Int32 → MM → Int64 → Prop} {M : MM} {tl : Int64} (hI : Inv M) (hp : ∀ (r : Int32), (-1 ≤ r ∧ r ≤ 4) → post r M tl) (v2 v3 v4 : Int32) (h : 0 ≤ v2 ∧ v2 ≤ 1) : wX4_nameAmong_25 post (21 + 1) M tl 1 v2 v3 v4 10 := by
  unfold wX4_nameAmong_25
  refine And.intro (by decide) (ifn (by decide) (And.intro (by decide) (ifn (by decide) (And.intro (by decide) (And.intro (by unfold vp_in; decide) ?_)))))
  refine ifn (by decide) ?_
  have q : wX4_nameAmong_129 post (wX4_nameAmong_25 post 21) M tl 1 v2 v3 10 := na_1_11 hI hp (v2) (v3 + 1) (0) (by lia)
  refine ifs (fun _ => q) (fun _ => ifs (fun _ => q) (fun _ => And.intro (by decide) (And.intro (by unfold vp_in; decide) ?_)))
  refine sf_X9_byteAt hI (fun r _ => ifs (fun _ => ?_) (fun _ => q))
  exact na_1_11 hI hp (v2) (v3 + 1) (1) (by lia)
theorem na_1_9 {post : Int32 → MM → Int64 → Prop} {M : MM} {tl : Int64} (hI : Inv M) (hp : ∀ (r : Int32), (-1 ≤ r ∧ r ≤ 4) → post r M tl) (v2 v3 v4 : Int32) (h : 0 ≤ v2 ∧ v2 ≤ 1) : wX4_nameAmong_25 post (22 + 1) M tl 1 v2 v3 v4 9 := by
  unfold wX4_nameAmong_25
  refine And.intro (by decide) (ifn (by decide) (And.intro (by decide) (ifn (by decide) (And.intro (by decide) (And.intro (by unfold vp_in; decide) ?_)))))
  refine ifn (by decide) ?_
  have q : wX4_nameAmong_129 post (wX4_nameAmong_25 post 22) M tl 1 v2 v3 9 := na_1_10 hI hp (v2) (v3 + 1) (0) (by lia)
  refine ifs (fun _ => q) (fun _ => ifs (fun _ => q) (fun _ => And.intro (by decide) (And.intro (by unfold vp_in; decide) ?_)))
  refine sf_X9_byteAt hI (fun r _ => ifs (fun _ => ?_) (fun _ => q))
  exact na_1_10 hI hp (v2) (v3 + 1) (1) (by lia)
theorem na_1_8 {post : Int32 → MM → Int64 → Prop} {M : MM} {tl : Int64} (hI : Inv M) (hp : ∀ (r : Int32), (-1 ≤ r ∧ r ≤ 4) → post r M tl) (v2 v3 v4 : Int32) (h : 0 ≤ v2 ∧ v2 ≤ 1) : wX4_nameAmong_25 post (23 + 1) M tl 1 v2 v3 v4 8 := by
  unfold wX4_nameAmong_25
  refine And.intro (by decide) (ifn (by decide) (And.intro (by decide) (ifn (by decide) (And.intro (by decide) (And.intro (by unfold vp_in; decide) ?_)))))
  refine ifn (by decide) ?_
  have q : wX4_nameAmong_129 post (wX4_nameAmong_25 post 23) M tl 1 v2 v3 8 := na_1_9 hI hp (v2) (v3 + 1) (0) (by lia)
  refine ifs (fun _ => q) (fun _ => ifs (fun _ => q) (fun _ => And.intro (by decide) (And.intro (by unfold vp_in; decide) ?_)))
  refine sf_X9_byteAt hI (fun r _ => ifs (fun _ => ?_) (fun _ => q))
  exact na_1_9 hI hp (v2) (v3 + 1) (1) (by lia)
theorem na_1_7 {post : Int32 → MM → Int64 → Prop} {M : MM} {tl : Int64} (hI : Inv M) (hp : ∀ (r : Int32), (-1 ≤ r ∧ r ≤ 4) → post r M tl) (v2 v3 v4 : Int32) (h : 0 ≤ v2 ∧ v2 ≤ 1) : wX4_nameAmong_25 post (24 + 1) M tl 1 v2 v3 v4 7 := by
  unfold wX4_nameAmong_25
  refine And.intro (by decide) (ifn (by decide) (And.intro (by decide) (ifn (by decide) (And.intro (by decide) (And.intro (by unfold vp_in; decide) ?_)))))
  refine ifn (by decide) ?_
  have q : wX4_nameAmong_129 post (wX4_nameAmong_25 post 24) M tl 1 v2 v3 7 := na_1_8 hI hp (v2) (v3 + 1) (0) (by lia)
  refine ifs (fun _ => q) (fun _ => ifs (fun _ => q) (fun _ => And.intro (by decide) (And.intro (by unfold vp_in; decide) ?_)))
  refine sf_X9_byteAt hI (fun r _ => ifs (fun _ => ?_) (fun _ => q))
  exact na_1_8 hI hp (v2) (v3 + 1) (1) (by lia)
theorem na_1_6 {post : Int32 → MM → Int64 → Prop} {M : MM} {tl : Int64} (hI : Inv M) (hp : ∀ (r : Int32), (-1 ≤ r ∧ r ≤ 4) → post r M tl) (v2 v3 v4 : Int32) (h : 0 ≤ v2 ∧ v2 ≤ 1) : wX4_nameAmong_25 post (25 + 1) M tl 1 v2 v3 v4 6 := by
  unfold wX4_nameAmong_25
  refine And.intro (by decide) (ifn (by decide) (And.intro (by decide) (ifn (by decide) (And.intro (by decide) (And.intro (by unfold vp_in; decide) ?_)))))
  refine ifn (by decide) ?_
  have q : wX4_nameAmong_129 post (wX4_nameAmong_25 post 25) M tl 1 v2 v3 6 := na_1_7 hI hp (v2) (v3 + 1) (0) (by lia)
  refine ifs (fun _ => q) (fun _ => ifs (fun _ => q) (fun _ => And.intro (by decide) (And.intro (by unfold vp_in; decide) ?_)))
  refine sf_X9_byteAt hI (fun r _ => ifs (fun _ => ?_) (fun _ => q))
  exact na_1_7 hI hp (v2) (v3 + 1) (1) (by lia)
theorem na_1_5 {post : Int32 → MM → Int64 → Prop} {M : MM} {tl : Int64} (hI : Inv M) (hp : ∀ (r : Int32), (-1 ≤ r ∧ r ≤ 4) → post r M tl) (v2 v3 v4 : Int32) (h : 0 ≤ v2 ∧ v2 ≤ 0) : wX4_nameAmong_25 post (26 + 1) M tl 1 v2 v3 v4 5 := by
  unfold wX4_nameAmong_25
  refine And.intro (by decide) (ifn (by decide) (And.intro (by decide) (ifn (by decide) (And.intro (by decide) (And.intro (by unfold vp_in; decide) ?_)))))
  refine ifp (by decide) ?_
  unfold wX4_nameAmong_54
  have q : wX4_nameAmong_69 post (wX4_nameAmong_25 post 26) M tl 1 v2 5 := by
    unfold wX4_nameAmong_69
    refine ifs (fun _ => ?_) (fun _ => ?_)
    · exact na_1_6 hI hp (v2 + 1) (M 22 7) (1) (by lia)
    · exact na_1_6 hI hp (v2 + 1) (M 22 7) (0) (by lia)
  exact ifs (fun _ => q) (fun _ => ifs (fun _ => hp _ (by lia)) (fun _ => q))
theorem na_1_4 {post : Int32 → MM → Int64 → Prop} {M : MM} {tl : Int64} (hI : Inv M) (hp : ∀ (r : Int32), (-1 ≤ r ∧ r ≤ 4) → post r M tl) (v2 v3 v4 : Int32) (h : 0 ≤ v2 ∧ v2 ≤ 0) : wX4_nameAmong_25 post (27 + 1) M tl 1 v2 v3 v4 4 := by
  unfold wX4_nameAmong_25
  refine And.intro (by decide) (ifn (by decide) (And.intro (by decide) (ifn (by decide) (And.intro (by decide) (And.intro (by unfold vp_in; decide) ?_)))))
  refine ifn (by decide) ?_
  have q : wX4_nameAmong_129 post (wX4_nameAmong_25 post 27) M tl 1 v2 v3 4 := na_1_5 hI hp (v2) (v3 + 1) (0) (by lia)
  refine ifs (fun _ => q) (fun _ => ifs (fun _ => q) (fun _ => And.intro (by decide) (And.intro (by unfold vp_in; decide) ?_)))
  refine sf_X9_byteAt hI (fun r _ => ifs (fun _ => ?_) (fun _ => q))
  exact na_1_5 hI hp (v2) (v3 + 1) (1) (by lia)
theorem na_1_3 {post : Int32 → MM → Int64 → Prop} {M : MM} {tl : Int64} (hI : Inv M) (hp : ∀ (r : Int32), (-1 ≤ r ∧ r ≤ 4) → post r M tl) (v2 v3 v4 : Int32) (h : 0 ≤ v2 ∧ v2 ≤ 0) : wX4_nameAmong_25 post (28 + 1) M tl 1 v2 v3 v4 3 := by
  unfold wX4_nameAmong_25
  refine And.intro (by decide) (ifn (by decide) (And.intro (by decide) (ifn (by decide) (And.intro (by decide) (And.intro (by unfold vp_in; decide) ?_)))))
  refine ifn (by decide) ?_
  have q : wX4_nameAmong_129 post (wX4_nameAmong_25 post 28) M tl 1 v2 v3 3 := na_1_4 hI hp (v2) (v3 + 1) (0) (by lia)
  refine ifs (fun _ => q) (fun _ => ifs (fun _ => q) (fun _ => And.intro (by decide) (And.intro (by unfold vp_in; decide) ?_)))
  refine sf_X9_byteAt hI (fun r _ => ifs (fun _ => ?_) (fun _ => q))
  exact na_1_4 hI hp (v2) (v3 + 1) (1) (by lia)
theorem na_1_2 {post : Int32 → MM → Int64 → Prop} {M : MM} {tl : Int64} (hI : Inv M) (hp : ∀ (r : Int32), (-1 ≤ r ∧ r ≤ 4) → post r M tl) (v2 v3 v4 : Int32) (h : 0 ≤ v2 ∧ v2 ≤ 0) : wX4_nameAmong_25 post (29 + 1) M tl 1 v2 v3 v4 2 := by
  unfold wX4_nameAmong_25
  refine And.intro (by decide) (ifn (by decide) (And.intro (by decide) (ifn (by decide) (And.intro (by decide) (And.intro (by unfold vp_in; decide) ?_)))))
  refine ifn (by decide) ?_
  have q : wX4_nameAmong_129 post (wX4_nameAmong_25 post 29) M tl 1 v2 v3 2 := na_1_3 hI hp (v2) (v3 + 1) (0) (by lia)
  refine ifs (fun _ => q) (fun _ => ifs (fun _ => q) (fun _ => And.intro (by decide) (And.intro (by unfold vp_in; decide) ?_)))
  refine sf_X9_byteAt hI (fun r _ => ifs (fun _ => ?_) (fun _ => q))
  exact na_1_3 hI hp (v2) (v3 + 1) (1) (by lia)
theorem na_1_1 {post : Int32 → MM → Int64 → Prop} {M : MM} {tl : Int64} (hI : Inv M) (hp : ∀ (r : Int32), (-1 ≤ r ∧ r ≤ 4) → post r M tl) (v2 v3 v4 : Int32) (h : 0 ≤ v2 ∧ v2 ≤ 0) : wX4_nameAmong_25 post (30 + 1) M tl 1 v2 v3 v4 1 := by
  unfold wX4_nameAmong_25
  refine And.intro (by decide) (ifn (by decide) (And.intro (by decide) (ifn (by decide) (And.intro (by decide) (And.intro (by unfold vp_in; decide) ?_)))))
  refine ifn (by decide) ?_
  have q : wX4_nameAmong_129 post (wX4_nameAmong_25 post 30) M tl 1 v2 v3 1 := na_1_2 hI hp (v2) (v3 + 1) (0) (by lia)
  refine ifs (fun _ => q) (fun _ => ifs (fun _ => q) (fun _ => And.intro (by decide) (And.intro (by unfold vp_in; decide) ?_)))
  refine sf_X9_byteAt hI (fun r _ => ifs (fun _ => ?_) (fun _ => q))
  exact na_1_2 hI hp (v2) (v3 + 1) (1) (by lia)
theorem na_1_0 {post : Int32 → MM → Int64 → Prop} {M : MM} {tl : Int64} (hI : Inv M) (hp : ∀ (r : Int32), (-1 ≤ r ∧ r ≤ 4) → post r M tl) (v2 v3 v4 : Int32) (h : 0 ≤ v2 ∧ v2 ≤ 0) : wX4_nameAmong_25 post (31 + 1) M tl 1 v2 v3 v4 0 := by
  unfold wX4_nameAmong_25
  refine And.intro (by decide) (ifn (by decide) (And.intro (by decide) (ifn (by decide) (And.intro (by decide) (And.intro (by unfold vp_in; decide) ?_)))))
  refine ifn (by decide) ?_
  have q : wX4_nameAmong_129 post (wX4_nameAmong_25 post 31) M tl 1 v2 v3 0 := na_1_1 hI hp (v2) (v3 + 1) (0) (by lia)
  refine ifs (fun _ => q) (fun _ => ifs (fun _ => q) (fun _ => And.intro (by decide) (And.intro (by unfold vp_in; decide) ?_)))
  refine sf_X9_byteAt hI (fun r _ => ifs (fun _ => ?_) (fun _ => q))
  exact na_1_1 hI hp (v2) (v3 + 1) (1) (by lia)
theorem sf_X4_nameAmong__1 {post : Int32 → MM → Int64 → Prop} {M : MM} {tl : Int64} (hI : Inv M) (hp : ∀ (r : Int32), (-1 ≤ r ∧ r ≤ 4) → post r M tl) : wpX4_nameAmong post M tl 1 := by
  unfold wpX4_nameAmong
  refine ifs (fun _ => ?_) (fun _ => ?_)
  · exact ⟨31 + 1, na_1_0 hI hp 0 _ 1 (by decide)⟩
  · exact ⟨31 + 1, na_1_0 hI hp 0 _ 0 (by decide)⟩
set_option maxHeartbeats 4000000 in
theorem sf_X4_takeNameOf__1 {post : Int32 → MM → Int64 → Prop} {M : MM} {tl : Int64} (hI : Inv M) (hp : ∀ (r : Int32) (M1 : MM) (t1 : Int64), Inv M1 → Fr [] [(22, 2), (22, 3), (22, 6), (22, 7), (22, 8), (22, 9)] M M1 → (M 22 2 = 0 ∨ M1 22 2 ≠ 0) ∧ ((r = -1 ∧ M1 22 2 ≠ 0) ∨ (0 ≤ r ∧ r ≤ 4 ∧ M1 22 2 = 0)) → post r M1 t1) : wpX4_takeNameOf post M tl 1 := by
  unfold wpX4_takeNameOf
  refine sf_X4_takeToken hI  (fun M2 t3 hI4 hF5 hq6 => ?_)
  have hF7 : Fr [] [(22, 2), (22, 3), (22, 6), (22, 7), (22, 8), (22, 9)] M M2 := fr_call fr_rfl hF5 (by decide) (by decide)
  refine ifs (fun hc8 => ?_) (fun hc9 => ?_)
  · skip
    refine sf_X4_nameAmong__1 hI4  (fun r10 hq11 => ?_)
    refine ifs (fun hc12 => ?_) (fun hc13 => ?_)
    · skip
      exact hp _ _ _ hI4 hF7 (by lia)
    · skip
      refine sf_X4_fail hI4 (by lia) (fun r14 M15 t16 hI17 hF18 hq19 => ?_)
      have hF20 : Fr [] [(22, 2), (22, 3), (22, 6), (22, 7), (22, 8), (22, 9)] M M15 := fr_call hF7 hF18 (by decide) (by decide)
      exact hp _ _ _ hI17 hF20 (by lia)
  · skip
    exact hp _ _ _ hI4 hF7 (by lia)
set_option maxHeartbeats 4000000 in
theorem sf_X4_readLack {post : MM → Int64 → Prop} {M : MM} {tl : Int64} (hI : Inv M) (hp : ∀ (M1 : MM) (t1 : Int64), Inv M1 → Fr [31] [(22, 2), (22, 3), (22, 6), (22, 7), (22, 8), (22, 9)] M M1 → True → post M1 t1) : wpX4_readLack post M tl  := by
  unfold wpX4_readLack
  refine sf_X4_takeBank hI  (fun r1 M2 t3 hI4 hF5 hq6 => ?_)
  have hF7 : Fr [31] [(22, 2), (22, 3), (22, 6), (22, 7), (22, 8), (22, 9)] M M2 := fr_call fr_rfl hF5 (by decide) (by decide)
  refine sf_X4_takeNameOf__1 hI4  (fun r8 M9 t10 hI11 hF12 hq13 => ?_)
  have hF14 : Fr [31] [(22, 2), (22, 3), (22, 6), (22, 7), (22, 8), (22, 9)] M M9 := fr_call hF7 hF12 (by decide) (by decide)
  refine ifs (fun hc15 => ?_) (fun hc16 => ?_)
  · skip
    refine And.intro (vpI (c := 2) (by decide) (by lia) (by lia)) ?_
    refine And.intro (vpI (c := 2) (by decide) (by lia) (by lia)) ?_
    have hm19 : (0 : Int32) ≤ ((r8 + (1 : Int32)) &&& (31 : Int32)) ∧ ((r8 + (1 : Int32)) &&& (31 : Int32)) ≤ (31 : Int32) := andc (r8 + (1 : Int32)) 31 (by decide)
    intro W17 hW18
    have hI20 : Inv W17 := by rw [hW18]; exact inv_set hI11 (i_any _)
    have hF21 : Fr [31] [(22, 2), (22, 3), (22, 6), (22, 7), (22, 8), (22, 9)] M W17 := by rw [hW18]; exact fr_arr hF14 (by decide)
    exact hp _ _ hI20 hF21 trivial
  · skip
    exact hp _ _ hI11 hF14 trivial
set_option maxHeartbeats 4000000 in
theorem sf_X4_readTwins {post : MM → Int64 → Prop} {M : MM} {tl : Int64} (hI : Inv M) (hp : ∀ (M1 : MM) (t1 : Int64), Inv M1 → Fr [32] [(22, 2), (22, 3), (22, 6), (22, 7), (22, 8), (22, 9)] M M1 → True → post M1 t1) : wpX4_readTwins post M tl  := by
  unfold wpX4_readTwins
  refine sf_X4_takeNameOf__1 hI  (fun r1 M2 t3 hI4 hF5 hq6 => ?_)
  have hF7 : Fr [32] [(22, 2), (22, 3), (22, 6), (22, 7), (22, 8), (22, 9)] M M2 := fr_call fr_rfl hF5 (by decide) (by decide)
  refine sf_X4_tellOnce hI4  (fun M9 t10 hI11 hF12 hq13 => ?_)
  have hF14 : Fr [32] [(22, 2), (22, 3), (22, 6), (22, 7), (22, 8), (22, 9)] M M9 := fr_call hF7 hF12 (by decide) (by decide)
  refine sf_X4_takeNameOf__1 hI11  (fun r15 M16 t17 hI18 hF19 hq20 => ?_)
  have hF21 : Fr [32] [(22, 2), (22, 3), (22, 6), (22, 7), (22, 8), (22, 9)] M M16 := fr_call hF14 hF19 (by decide) (by decide)
  refine sf_X4_tellOnce hI18  (fun M23 t24 hI25 hF26 hq27 => ?_)
  have hF28 : Fr [32] [(22, 2), (22, 3), (22, 6), (22, 7), (22, 8), (22, 9)] M M23 := fr_call hF21 hF26 (by decide) (by decide)
  refine ifs (fun hc29 => ?_) (fun hc30 => ?_)
  · skip
    refine And.intro (vpI (c := 6) (by decide) (by lia) (by lia)) ?_
    intro W31 hW32
    have hI33 : Inv W31 := by rw [hW32]; exact inv_set hI25 (i_any _)
    have hF34 : Fr [32] [(22, 2), (22, 3), (22, 6), (22, 7), (22, 8), (22, 9)] M W31 := by rw [hW32]; exact fr_arr hF28 (by decide)
    refine And.intro (vpI (c := 6) (by decide) (by lia) (by lia)) ?_
    intro W35 hW36
    have hI37 : Inv W35 := by rw [hW36]; exact inv_set hI33 (i_any _)
    have hF38 : Fr [32] [(22, 2), (22, 3), (22, 6), (22, 7), (22, 8), (22, 9)] M W35 := by rw [hW36]; exact fr_arr hF34 (by decide)
    exact hp _ _ hI37 hF38 trivial
  · skip
    exact hp _ _ hI25 hF28 trivial
set_option maxHeartbeats 4000000 in
theorem sf_X4_readPaint {post : MM → Int64 → Prop} {M : MM} {tl : Int64} (hI : Inv M) (hp : ∀ (M1 : MM) (t1 : Int64), Inv M1 → Fr [33] [(22, 2), (22, 3), (22, 6), (22, 7), (22, 8), (22, 9)] M M1 → True → post M1 t1) : wpX4_readPaint post M tl  := by
  unfold wpX4_readPaint
  refine sf_X4_takeNumber hI  (fun r1 M2 t3 hI4 hF5 hq6 => ?_)
  have hF7 : Fr [33] [(22, 2), (22, 3), (22, 6), (22, 7), (22, 8), (22, 9)] M M2 := fr_call fr_rfl hF5 (by decide) (by decide)
  refine sf_X4_tellOnce hI4  (fun M9 t10 hI11 hF12 hq13 => ?_)
  have hF14 : Fr [33] [(22, 2), (22, 3), (22, 6), (22, 7), (22, 8), (22, 9)] M M9 := fr_call hF7 hF12 (by decide) (by decide)
  refine sf_X4_takeNumber hI11  (fun r15 M16 t17 hI18 hF19 hq20 => ?_)
  have hF21 : Fr [33] [(22, 2), (22, 3), (22, 6), (22, 7), (22, 8), (22, 9)] M M16 := fr_call hF14 hF19 (by decide) (by decide)
  refine sf_X4_tellOnce hI18  (fun M23 t24 hI25 hF26 hq27 => ?_)
  have hF28 : Fr [33] [(22, 2), (22, 3), (22, 6), (22, 7), (22, 8), (22, 9)] M M23 := fr_call hF21 hF26 (by decide) (by decide)
  refine ifs (fun hc29 => ?_) (fun hc30 => ?_)
  · skip
    refine And.intro (vpI (c := 4) (by decide) (by lia) (by lia)) ?_
    intro W31 hW32
    have hI33 : Inv W31 := by rw [hW32]; exact inv_set hI25 (i_any _)
    have hF34 : Fr [33] [(22, 2), (22, 3), (22, 6), (22, 7), (22, 8), (22, 9)] M W31 := by rw [hW32]; exact fr_arr hF28 (by decide)
    refine And.intro (vpI (c := 4) (by decide) (by lia) (by lia)) ?_
    intro W35 hW36
    have hI37 : Inv W35 := by rw [hW36]; exact inv_set hI33 (i_any _)
    have hF38 : Fr [33] [(22, 2), (22, 3), (22, 6), (22, 7), (22, 8), (22, 9)] M W35 := by rw [hW36]; exact fr_arr hF34 (by decide)
    exact hp _ _ hI37 hF38 trivial
  · skip
    exact hp _ _ hI25 hF28 trivial
set_option maxHeartbeats 4000000 in
theorem sf_X4_readRight {post : MM → Int64 → Prop} {M : MM} {tl : Int64} (hI : Inv M) (hp : ∀ (M1 : MM) (t1 : Int64), Inv M1 → Fr [] [(22, 2), (22, 3), (22, 6), (22, 7), (22, 8), (22, 9), (23, 3)] M M1 → True → post M1 t1) : wpX4_readRight post M tl  := by
  unfold wpX4_readRight
  refine sf_X4_takeNameOf__1 hI  (fun r1 M2 t3 hI4 hF5 hq6 => ?_)
  have hF7 : Fr [] [(22, 2), (22, 3), (22, 6), (22, 7), (22, 8), (22, 9), (23, 3)] M M2 := fr_call fr_rfl hF5 (by decide) (by decide)
  refine ifs (fun hc8 => ?_) (fun hc9 => ?_)
  · skip
    have hx12 : M2 23 3 = M 23 3 := hF5 23 3 (by decide) (by decide)
    have hm13 : (0 : Int32) ≤ ((r1 + (1 : Int32)) &&& (31 : Int32)) ∧ ((r1 + (1 : Int32)) &&& (31 : Int32)) ≤ (31 : Int32) := andc (r1 + (1 : Int32)) 31 (by decide)
    intro W10 hW11
    have hI14 : Inv W10 := by rw [hW11]; exact inv_set hI4 (i_any _)
    have hF15 : Fr [] [(22, 2), (22, 3), (22, 6), (22, 7), (22, 8), (22, 9), (23, 3)] M W10 := by rw [hW11]; exact fr_fld hF7 (by decide)
    have hv16 : W10 23 3 = ((M2 23 3) ||| ((1 : Int32) <<< ((r1 + (1 : Int32)) &&& (31 : Int32)))) := by rw [hW11]; exact mset_at _ _ _ _
    exact hp _ _ hI14 hF15 trivial
  · skip
    exact hp _ _ hI4 hF7 trivial
theorem na_2_39 {post : Int32 → MM → Int64 → Prop} {M : MM} {tl : Int64} (hI : Inv M) (hp : ∀ (r : Int32), (-1 ≤ r ∧ r ≤ 5) → post r M tl) (v2 v3 v4 : Int32) (h : 0 ≤ v2 ∧ v2 ≤ 6) : wX4_nameAmong_25 post (0 + 1) M tl 2 v2 v3 v4 39 := by
  unfold wX4_nameAmong_25
  exact And.intro (by decide) (ifp (by decide) (hp _ (by decide)))
theorem na_2_38 {post : Int32 → MM → Int64 → Prop} {M : MM} {tl : Int64} (hI : Inv M) (hp : ∀ (r : Int32), (-1 ≤ r ∧ r ≤ 5) → post r M tl) (v2 v3 v4 : Int32) (h : 0 ≤ v2 ∧ v2 ≤ 5) : wX4_nameAmong_25 post (1 + 1) M tl 2 v2 v3 v4 38 := by
  unfold wX4_nameAmong_25
  refine And.intro (by decide) (ifn (by decide) (And.intro (by decide) (ifp (by decide) ?_)))
  unfold wX4_nameAmong_54
  have q : wX4_nameAmong_69 post (wX4_nameAmong_25 post 1) M tl 2 v2 38 := by
    unfold wX4_nameAmong_69
    refine ifs (fun _ => ?_) (fun _ => ?_)
    · exact na_2_39 hI hp (v2 + 1) (M 22 7) (1) (by lia)
    · exact na_2_39 hI hp (v2 + 1) (M 22 7) (0) (by lia)
  exact ifs (fun _ => q) (fun _ => ifs (fun _ => hp _ (by lia)) (fun _ => q))
theorem na_2_37 {post : Int32 → MM → Int64 → Prop} {M : MM} {tl : Int64} (hI : Inv M) (hp : ∀ (r : Int32), (-1 ≤ r ∧ r ≤ 5) → post r M tl) (v2 v3 v4 : Int32) (h : 0 ≤ v2 ∧ v2 ≤ 5) : wX4_nameAmong_25 post (2 + 1) M tl 2 v2 v3 v4 37 := by
  unfold wX4_nameAmong_25
  refine And.intro (by decide) (ifn (by decide) (And.intro (by decide) (ifn (by decide) (And.intro (by decide) (And.intro (by unfold vp_in; decide) ?_)))))
  refine ifn (by decide) ?_
  have q : wX4_nameAmong_129 post (wX4_nameAmong_25 post 2) M tl 2 v2 v3 37 := na_2_38 hI hp (v2) (v3 + 1) (0) (by lia)
  refine ifs (fun _ => q) (fun _ => ifs (fun _ => q) (fun _ => And.intro (by decide) (And.intro (by unfold vp_in; decide) ?_)))
  refine sf_X9_byteAt hI (fun r _ => ifs (fun _ => ?_) (fun _ => q))
  exact na_2_38 hI hp (v2) (v3 + 1) (1) (by lia)
theorem na_2_36 {post : Int32 → MM → Int64 → Prop} {M : MM} {tl : Int64} (hI : Inv M) (hp : ∀ (r : Int32), (-1 ≤ r ∧ r ≤ 5) → post r M tl) (v2 v3 v4 : Int32) (h : 0 ≤ v2 ∧ v2 ≤ 5) : wX4_nameAmong_25 post (3 + 1) M tl 2 v2 v3 v4 36 := by
  unfold wX4_nameAmong_25
  refine And.intro (by decide) (ifn (by decide) (And.intro (by decide) (ifn (by decide) (And.intro (by decide) (And.intro (by unfold vp_in; decide) ?_)))))
  refine ifn (by decide) ?_
  have q : wX4_nameAmong_129 post (wX4_nameAmong_25 post 3) M tl 2 v2 v3 36 := na_2_37 hI hp (v2) (v3 + 1) (0) (by lia)
  refine ifs (fun _ => q) (fun _ => ifs (fun _ => q) (fun _ => And.intro (by decide) (And.intro (by unfold vp_in; decide) ?_)))
  refine sf_X9_byteAt hI (fun r _ => ifs (fun _ => ?_) (fun _ => q))
  exact na_2_37 hI hp (v2) (v3 + 1) (1) (by lia)
theorem na_2_35 {post : Int32 → MM → Int64 → Prop} {M : MM} {tl : Int64} (hI : Inv M) (hp : ∀ (r : Int32), (-1 ≤ r ∧ r ≤ 5) → post r M tl) (v2 v3 v4 : Int32) (h : 0 ≤ v2 ∧ v2 ≤ 5) : wX4_nameAmong_25 post (4 + 1) M tl 2 v2 v3 v4 35 := by
  unfold wX4_nameAmong_25
  refine And.intro (by decide) (ifn (by decide) (And.intro (by decide) (ifn (by decide) (And.intro (by decide) (And.intro (by unfold vp_in; decide) ?_)))))
  refine ifn (by decide) ?_
  have q : wX4_nameAmong_129 post (wX4_nameAmong_25 post 4) M tl 2 v2 v3 35 := na_2_36 hI hp (v2) (v3 + 1) (0) (by lia)
  refine ifs (fun _ => q) (fun _ => ifs (fun _ => q) (fun _ => And.intro (by decide) (And.intro (by unfold vp_in; decide) ?_)))
  refine sf_X9_byteAt hI (fun r _ => ifs (fun _ => ?_) (fun _ => q))
  exact na_2_36 hI hp (v2) (v3 + 1) (1) (by lia)
theorem na_2_34 {post : Int32 → MM → Int64 → Prop} {M : MM} {tl : Int64} (hI : Inv M) (hp : ∀ (r : Int32), (-1 ≤ r ∧ r ≤ 5) → post r M tl) (v2 v3 v4 : Int32) (h : 0 ≤ v2 ∧ v2 ≤ 5) : wX4_nameAmong_25 post (5 + 1) M tl 2 v2 v3 v4 34 := by
  unfold wX4_nameAmong_25
  refine And.intro (by decide) (ifn (by decide) (And.intro (by decide) (ifn (by decide) (And.intro (by decide) (And.intro (by unfold vp_in; decide) ?_)))))
  refine ifn (by decide) ?_
  have q : wX4_nameAmong_129 post (wX4_nameAmong_25 post 5) M tl 2 v2 v3 34 := na_2_35 hI hp (v2) (v3 + 1) (0) (by lia)
  refine ifs (fun _ => q) (fun _ => ifs (fun _ => q) (fun _ => And.intro (by decide) (And.intro (by unfold vp_in; decide) ?_)))
  refine sf_X9_byteAt hI (fun r _ => ifs (fun _ => ?_) (fun _ => q))
  exact na_2_35 hI hp (v2) (v3 + 1) (1) (by lia)
theorem na_2_33 {post : Int32 → MM → Int64 → Prop} {M : MM} {tl : Int64} (hI : Inv M) (hp : ∀ (r : Int32), (-1 ≤ r ∧ r ≤ 5) → post r M tl) (v2 v3 v4 : Int32) (h : 0 ≤ v2 ∧ v2 ≤ 5) : wX4_nameAmong_25 post (6 + 1) M tl 2 v2 v3 v4 33 := by
  unfold wX4_nameAmong_25
  refine And.intro (by decide) (ifn (by decide) (And.intro (by decide) (ifn (by decide) (And.intro (by decide) (And.intro (by unfold vp_in; decide) ?_)))))
  refine ifn (by decide) ?_
  have q : wX4_nameAmong_129 post (wX4_nameAmong_25 post 6) M tl 2 v2 v3 33 := na_2_34 hI hp (v2) (v3 + 1) (0) (by lia)
  refine ifs (fun _ => q) (fun _ => ifs (fun _ => q) (fun _ => And.intro (by decide) (And.intro (by unfold vp_in; decide) ?_)))
  refine sf_X9_byteAt hI (fun r _ => ifs (fun _ => ?_) (fun _ => q))
  exact na_2_34 hI hp (v2) (v3 + 1) (1) (by lia)
theorem na_2_32 {post : Int32 → MM → Int64 → Prop} {M : MM} {tl : Int64} (hI : Inv M) (hp : ∀ (r : Int32), (-1 ≤ r ∧ r ≤ 5) → post r M tl) (v2 v3 v4 : Int32) (h : 0 ≤ v2 ∧ v2 ≤ 5) : wX4_nameAmong_25 post (7 + 1) M tl 2 v2 v3 v4 32 := by
  unfold wX4_nameAmong_25
  refine And.intro (by decide) (ifn (by decide) (And.intro (by decide) (ifn (by decide) (And.intro (by decide) (And.intro (by unfold vp_in; decide) ?_)))))
  refine ifn (by decide) ?_
  have q : wX4_nameAmong_129 post (wX4_nameAmong_25 post 7) M tl 2 v2 v3 32 := na_2_33 hI hp (v2) (v3 + 1) (0) (by lia)
  refine ifs (fun _ => q) (fun _ => ifs (fun _ => q) (fun _ => And.intro (by decide) (And.intro (by unfold vp_in; decide) ?_)))
  refine sf_X9_byteAt hI (fun r _ => ifs (fun _ => ?_) (fun _ => q))
  exact na_2_33 hI hp (v2) (v3 + 1) (1) (by lia)
theorem na_2_31 {post : Int32 → MM → Int64 → Prop} {M : MM} {tl : Int64} (hI : Inv M) (hp : ∀ (r : Int32), (-1 ≤ r ∧ r ≤ 5) → post r M tl) (v2 v3 v4 : Int32) (h : 0 ≤ v2 ∧ v2 ≤ 4) : wX4_nameAmong_25 post (8 + 1) M tl 2 v2 v3 v4 31 := by
  unfold wX4_nameAmong_25
  refine And.intro (by decide) (ifn (by decide) (And.intro (by decide) (ifn (by decide) (And.intro (by decide) (And.intro (by unfold vp_in; decide) ?_)))))
  refine ifp (by decide) ?_
  unfold wX4_nameAmong_54
  have q : wX4_nameAmong_69 post (wX4_nameAmong_25 post 8) M tl 2 v2 31 := by
    unfold wX4_nameAmong_69
    refine ifs (fun _ => ?_) (fun _ => ?_)
    · exact na_2_32 hI hp (v2 + 1) (M 22 7) (1) (by lia)
    · exact na_2_32 hI hp (v2 + 1) (M 22 7) (0) (by lia)
  exact ifs (fun _ => q) (fun _ => ifs (fun _ => hp _ (by lia)) (fun _ => q))
theorem na_2_30 {post : Int32 → MM → Int64 → Prop} {M : MM} {tl : Int64} (hI : Inv M) (hp : ∀ (r : Int32), (-1 ≤ r ∧ r ≤ 5) → post r M tl) (v2 v3 v4 : Int32) (h : 0 ≤ v2 ∧ v2 ≤ 4) : wX4_nameAmong_25 post (9 + 1) M tl 2 v2 v3 v4 30 := by
  unfold wX4_nameAmong_25
  refine And.intro (by decide) (ifn (by decide) (And.intro (by decide) (ifn (by decide) (And.intro (by decide) (And.intro (by unfold vp_in; decide) ?_)))))
  refine ifn (by decide) ?_
  have q : wX4_nameAmong_129 post (wX4_nameAmong_25 post 9) M tl 2 v2 v3 30 := na_2_31 hI hp (v2) (v3 + 1) (0) (by lia)
  refine ifs (fun _ => q) (fun _ => ifs (fun _ => q) (fun _ => And.intro (by decide) (And.intro (by unfold vp_in; decide) ?_)))
  refine sf_X9_byteAt hI (fun r _ => ifs (fun _ => ?_) (fun _ => q))
  exact na_2_31 hI hp (v2) (v3 + 1) (1) (by lia)
theorem na_2_29 {post : Int32 → MM → Int64 → Prop} {M : MM} {tl : Int64} (hI : Inv M) (hp : ∀ (r : Int32), (-1 ≤ r ∧ r ≤ 5) → post r M tl) (v2 v3 v4 : Int32) (h : 0 ≤ v2 ∧ v2 ≤ 4) : wX4_nameAmong_25 post (10 + 1) M tl 2 v2 v3 v4 29 := by
  unfold wX4_nameAmong_25
  refine And.intro (by decide) (ifn (by decide) (And.intro (by decide) (ifn (by decide) (And.intro (by decide) (And.intro (by unfold vp_in; decide) ?_)))))
  refine ifn (by decide) ?_
  have q : wX4_nameAmong_129 post (wX4_nameAmong_25 post 10) M tl 2 v2 v3 29 := na_2_30 hI hp (v2) (v3 + 1) (0) (by lia)
  refine ifs (fun _ => q) (fun _ => ifs (fun _ => q) (fun _ => And.intro (by decide) (And.intro (by unfold vp_in; decide) ?_)))
  refine sf_X9_byteAt hI (fun r _ => ifs (fun _ => ?_) (fun _ => q))
  exact na_2_30 hI hp (v2) (v3 + 1) (1) (by lia)
theorem na_2_28 {post : Int32 → MM → Int64 → Prop} {M : MM} {tl : Int64} (hI : Inv M) (hp : ∀ (r : Int32), (-1 ≤ r ∧ r ≤ 5) → post r M tl) (v2 v3 v4 : Int32) (h : 0 ≤ v2 ∧ v2 ≤ 4) : wX4_nameAmong_25 post (11 + 1) M tl 2 v2 v3 v4 28 := by
  unfold wX4_nameAmong_25
  refine And.intro (by decide) (ifn (by decide) (And.intro (by decide) (ifn (by decide) (And.intro (by decide) (And.intro (by unfold vp_in; decide) ?_)))))
  refine ifn (by decide) ?_
  have q : wX4_nameAmong_129 post (wX4_nameAmong_25 post 11) M tl 2 v2 v3 28 := na_2_29 hI hp (v2) (v3 + 1) (0) (by lia)
  refine ifs (fun _ => q) (fun _ => ifs (fun _ => q) (fun _ => And.intro (by decide) (And.intro (by unfold vp_in; decide) ?_)))
  refine sf_X9_byteAt hI (fun r _ => ifs (fun _ => ?_) (fun _ => q))
  exact na_2_29 hI hp (v2) (v3 + 1) (1) (by lia)
theorem na_2_27 {post : Int32 → MM → Int64 → Prop} {M : MM} {tl : Int64} (hI : Inv M) (hp : ∀ (r : Int32), (-1 ≤ r ∧ r ≤ 5) → post r M tl) (v2 v3 v4 : Int32) (h : 0 ≤ v2 ∧ v2 ≤ 4) : wX4_nameAmong_25 post (12 + 1) M tl 2 v2 v3 v4 27 := by
  unfold wX4_nameAmong_25
  refine And.intro (by decide) (ifn (by decide) (And.intro (by decide) (ifn (by decide) (And.intro (by decide) (And.intro (by unfold vp_in; decide) ?_)))))
  refine ifn (by decide) ?_
  have q : wX4_nameAmong_129 post (wX4_nameAmong_25 post 12) M tl 2 v2 v3 27 := na_2_28 hI hp (v2) (v3 + 1) (0) (by lia)
  refine ifs (fun _ => q) (fun _ => ifs (fun _ => q) (fun _ => And.intro (by decide) (And.intro (by unfold vp_in; decide) ?_)))
  refine sf_X9_byteAt hI (fun r _ => ifs (fun _ => ?_) (fun _ => q))
  exact na_2_28 hI hp (v2) (v3 + 1) (1) (by lia)
theorem na_2_26 {post : Int32 → MM → Int64 → Prop} {M : MM} {tl : Int64} (hI : Inv M) (hp : ∀ (r : Int32), (-1 ≤ r ∧ r ≤ 5) → post r M tl) (v2 v3 v4 : Int32) (h : 0 ≤ v2 ∧ v2 ≤ 4) : wX4_nameAmong_25 post (13 + 1) M tl 2 v2 v3 v4 26 := by
  unfold wX4_nameAmong_25
  refine And.intro (by decide) (ifn (by decide) (And.intro (by decide) (ifn (by decide) (And.intro (by decide) (And.intro (by unfold vp_in; decide) ?_)))))
  refine ifn (by decide) ?_
  have q : wX4_nameAmong_129 post (wX4_nameAmong_25 post 13) M tl 2 v2 v3 26 := na_2_27 hI hp (v2) (v3 + 1) (0) (by lia)
  refine ifs (fun _ => q) (fun _ => ifs (fun _ => q) (fun _ => And.intro (by decide) (And.intro (by unfold vp_in; decide) ?_)))
  refine sf_X9_byteAt hI (fun r _ => ifs (fun _ => ?_) (fun _ => q))
  exact na_2_27 hI hp (v2) (v3 + 1) (1) (by lia)
theorem na_2_25 {post : Int32 → MM → Int64 → Prop} {M : MM} {tl : Int64} (hI : Inv M) (hp : ∀ (r : Int32), (-1 ≤ r ∧ r ≤ 5) → post r M tl) (v2 v3 v4 : Int32) (h : 0 ≤ v2 ∧ v2 ≤ 3) : wX4_nameAmong_25 post (14 + 1) M tl 2 v2 v3 v4 25 := by
  unfold wX4_nameAmong_25
  refine And.intro (by decide) (ifn (by decide) (And.intro (by decide) (ifn (by decide) (And.intro (by decide) (And.intro (by unfold vp_in; decide) ?_)))))
  refine ifp (by decide) ?_
  unfold wX4_nameAmong_54
  have q : wX4_nameAmong_69 post (wX4_nameAmong_25 post 14) M tl 2 v2 25 := by
    unfold wX4_nameAmong_69
    refine ifs (fun _ => ?_) (fun _ => ?_)
    · exact na_2_26 hI hp (v2 + 1) (M 22 7) (1) (by lia)
    · exact na_2_26 hI hp (v2 + 1) (M 22 7) (0) (by lia)
  exact ifs (fun _ => q) (fun _ => ifs (fun _ => hp _ (by lia)) (fun _ => q))
theorem na_2_24 {post : Int32 → MM → Int64 → Prop} {M : MM} {tl : Int64} (hI : Inv M) (hp : ∀ (r : Int32), (-1 ≤ r ∧ r ≤ 5) → post r M tl) (v2 v3 v4 : Int32) (h : 0 ≤ v2 ∧ v2 ≤ 3) : wX4_nameAmong_25 post (15 + 1) M tl 2 v2 v3 v4 24 := by
  unfold wX4_nameAmong_25
  refine And.intro (by decide) (ifn (by decide) (And.intro (by decide) (ifn (by decide) (And.intro (by decide) (And.intro (by unfold vp_in; decide) ?_)))))
  refine ifn (by decide) ?_
  have q : wX4_nameAmong_129 post (wX4_nameAmong_25 post 15) M tl 2 v2 v3 24 := na_2_25 hI hp (v2) (v3 + 1) (0) (by lia)
  refine ifs (fun _ => q) (fun _ => ifs (fun _ => q) (fun _ => And.intro (by decide) (And.intro (by unfold vp_in; decide) ?_)))
  refine sf_X9_byteAt hI (fun r _ => ifs (fun _ => ?_) (fun _ => q))
  exact na_2_25 hI hp (v2) (v3 + 1) (1) (by lia)
theorem na_2_23 {post : Int32 → MM → Int64 → Prop} {M : MM} {tl : Int64} (hI : Inv M) (hp : ∀ (r : Int32), (-1 ≤ r ∧ r ≤ 5) → post r M tl) (v2 v3 v4 : Int32) (h : 0 ≤ v2 ∧ v2 ≤ 3) : wX4_nameAmong_25 post (16 + 1) M tl 2 v2 v3 v4 23 := by
  unfold wX4_nameAmong_25
  refine And.intro (by decide) (ifn (by decide) (And.intro (by decide) (ifn (by decide) (And.intro (by decide) (And.intro (by unfold vp_in; decide) ?_)))))
  refine ifn (by decide) ?_
  have q : wX4_nameAmong_129 post (wX4_nameAmong_25 post 16) M tl 2 v2 v3 23 := na_2_24 hI hp (v2) (v3 + 1) (0) (by lia)
  refine ifs (fun _ => q) (fun _ => ifs (fun _ => q) (fun _ => And.intro (by decide) (And.intro (by unfold vp_in; decide) ?_)))
  refine sf_X9_byteAt hI (fun r _ => ifs (fun _ => ?_) (fun _ => q))
  exact na_2_24 hI hp (v2) (v3 + 1) (1) (by lia)
theorem na_2_22 {post : Int32 → MM → Int64 → Prop} {M : MM} {tl : Int64} (hI : Inv M) (hp : ∀ (r : Int32), (-1 ≤ r ∧ r ≤ 5) → post r M tl) (v2 v3 v4 : Int32) (h : 0 ≤ v2 ∧ v2 ≤ 3) : wX4_nameAmong_25 post (17 + 1) M tl 2 v2 v3 v4 22 := by
  unfold wX4_nameAmong_25
  refine And.intro (by decide) (ifn (by decide) (And.intro (by decide) (ifn (by decide) (And.intro (by decide) (And.intro (by unfold vp_in; decide) ?_)))))
  refine ifn (by decide) ?_
  have q : wX4_nameAmong_129 post (wX4_nameAmong_25 post 17) M tl 2 v2 v3 22 := na_2_23 hI hp (v2) (v3 + 1) (0) (by lia)
  refine ifs (fun _ => q) (fun _ => ifs (fun _ => q) (fun _ => And.intro (by decide) (And.intro (by unfold vp_in; decide) ?_)))
  refine sf_X9_byteAt hI (fun r _ => ifs (fun _ => ?_) (fun _ => q))
  exact na_2_23 hI hp (v2) (v3 + 1) (1) (by lia)
theorem na_2_21 {post : Int32 → MM → Int64 → Prop} {M : MM} {tl : Int64} (hI : Inv M) (hp : ∀ (r : Int32), (-1 ≤ r ∧ r ≤ 5) → post r M tl) (v2 v3 v4 : Int32) (h : 0 ≤ v2 ∧ v2 ≤ 3) : wX4_nameAmong_25 post (18 + 1) M tl 2 v2 v3 v4 21 := by
  unfold wX4_nameAmong_25
  refine And.intro (by decide) (ifn (by decide) (And.intro (by decide) (ifn (by decide) (And.intro (by decide) (And.intro (by unfold vp_in; decide) ?_)))))
  refine ifn (by decide) ?_
  have q : wX4_nameAmong_129 post (wX4_nameAmong_25 post 18) M tl 2 v2 v3 21 := na_2_22 hI hp (v2) (v3 + 1) (0) (by lia)
  refine ifs (fun _ => q) (fun _ => ifs (fun _ => q) (fun _ => And.intro (by decide) (And.intro (by unfold vp_in; decide) ?_)))
  refine sf_X9_byteAt hI (fun r _ => ifs (fun _ => ?_) (fun _ => q))
  exact na_2_22 hI hp (v2) (v3 + 1) (1) (by lia)
theorem na_2_20 {post : Int32 → MM → Int64 → Prop} {M : MM} {tl : Int64} (hI : Inv M) (hp : ∀ (r : Int32), (-1 ≤ r ∧ r ≤ 5) → post r M tl) (v2 v3 v4 : Int32) (h : 0 ≤ v2 ∧ v2 ≤ 2) : wX4_nameAmong_25 post (19 + 1) M tl 2 v2 v3 v4 20 := by
  unfold wX4_nameAmong_25
  refine And.intro (by decide) (ifn (by decide) (And.intro (by decide) (ifn (by decide) (And.intro (by decide) (And.intro (by unfold vp_in; decide) ?_)))))
  refine ifp (by decide) ?_
  unfold wX4_nameAmong_54
  have q : wX4_nameAmong_69 post (wX4_nameAmong_25 post 19) M tl 2 v2 20 := by
    unfold wX4_nameAmong_69
    refine ifs (fun _ => ?_) (fun _ => ?_)
    · exact na_2_21 hI hp (v2 + 1) (M 22 7) (1) (by lia)
    · exact na_2_21 hI hp (v2 + 1) (M 22 7) (0) (by lia)
  exact ifs (fun _ => q) (fun _ => ifs (fun _ => hp _ (by lia)) (fun _ => q))
theorem na_2_19 {post : Int32 → MM → Int64 → Prop} {M : MM} {tl : Int64} (hI : Inv M) (hp : ∀ (r : Int32), (-1 ≤ r ∧ r ≤ 5) → post r M tl) (v2 v3 v4 : Int32) (h : 0 ≤ v2 ∧ v2 ≤ 2) : wX4_nameAmong_25 post (20 + 1) M tl 2 v2 v3 v4 19 := by
  unfold wX4_nameAmong_25
  refine And.intro (by decide) (ifn (by decide) (And.intro (by decide) (ifn (by decide) (And.intro (by decide) (And.intro (by unfold vp_in; decide) ?_)))))
  refine ifn (by decide) ?_
  have q : wX4_nameAmong_129 post (wX4_nameAmong_25 post 20) M tl 2 v2 v3 19 := na_2_20 hI hp (v2) (v3 + 1) (0) (by lia)
  refine ifs (fun _ => q) (fun _ => ifs (fun _ => q) (fun _ => And.intro (by decide) (And.intro (by unfold vp_in; decide) ?_)))
  refine sf_X9_byteAt hI (fun r _ => ifs (fun _ => ?_) (fun _ => q))
  exact na_2_20 hI hp (v2) (v3 + 1) (1) (by lia)
theorem na_2_18 {post : Int32 → MM → Int64 → Prop} {M : MM} {tl : Int64} (hI : Inv M) (hp : ∀ (r : Int32), (-1 ≤ r ∧ r ≤ 5) → post r M tl) (v2 v3 v4 : Int32) (h : 0 ≤ v2 ∧ v2 ≤ 2) : wX4_nameAmong_25 post (21 + 1) M tl 2 v2 v3 v4 18 := by
  unfold wX4_nameAmong_25
  refine And.intro (by decide) (ifn (by decide) (And.intro (by decide) (ifn (by decide) (And.intro (by decide) (And.intro (by unfold vp_in; decide) ?_)))))
  refine ifn (by decide) ?_
  have q : wX4_nameAmong_129 post (wX4_nameAmong_25 post 21) M tl 2 v2 v3 18 := na_2_19 hI hp (v2) (v3 + 1) (0) (by lia)
  refine ifs (fun _ => q) (fun _ => ifs (fun _ => q) (fun _ => And.intro (by decide) (And.intro (by unfold vp_in; decide) ?_)))
  refine sf_X9_byteAt hI (fun r _ => ifs (fun _ => ?_) (fun _ => q))
  exact na_2_19 hI hp (v2) (v3 + 1) (1) (by lia)
theorem na_2_17 {post : Int32 → MM → Int64 → Prop} {M : MM} {tl : Int64} (hI : Inv M) (hp : ∀ (r : Int32), (-1 ≤ r ∧ r ≤ 5) → post r M tl) (v2 v3 v4 : Int32) (h : 0 ≤ v2 ∧ v2 ≤ 2) : wX4_nameAmong_25 post (22 + 1) M tl 2 v2 v3 v4 17 := by
  unfold wX4_nameAmong_25
  refine And.intro (by decide) (ifn (by decide) (And.intro (by decide) (ifn (by decide) (And.intro (by decide) (And.intro (by unfold vp_in; decide) ?_)))))
  refine ifn (by decide) ?_
  have q : wX4_nameAmong_129 post (wX4_nameAmong_25 post 22) M tl 2 v2 v3 17 := na_2_18 hI hp (v2) (v3 + 1) (0) (by lia)
  refine ifs (fun _ => q) (fun _ => ifs (fun _ => q) (fun _ => And.intro (by decide) (And.intro (by unfold vp_in; decide) ?_)))
  refine sf_X9_byteAt hI (fun r _ => ifs (fun _ => ?_) (fun _ => q))
  exact na_2_18 hI hp (v2) (v3 + 1) (1) (by lia)
theorem na_2_16 {post : Int32 → MM → Int64 → Prop} {M : MM} {tl : Int64} (hI : Inv M) (hp : ∀ (r : Int32), (-1 ≤ r ∧ r ≤ 5) → post r M tl) (v2 v3 v4 : Int32) (h : 0 ≤ v2 ∧ v2 ≤ 2) : wX4_nameAmong_25 post (23 + 1) M tl 2 v2 v3 v4 16 := by
  unfold wX4_nameAmong_25
  refine And.intro (by decide) (ifn (by decide) (And.intro (by decide) (ifn (by decide) (And.intro (by decide) (And.intro (by unfold vp_in; decide) ?_)))))
  refine ifn (by decide) ?_
  have q : wX4_nameAmong_129 post (wX4_nameAmong_25 post 23) M tl 2 v2 v3 16 := na_2_17 hI hp (v2) (v3 + 1) (0) (by lia)
  refine ifs (fun _ => q) (fun _ => ifs (fun _ => q) (fun _ => And.intro (by decide) (And.intro (by unfold vp_in; decide) ?_)))
  refine sf_X9_byteAt hI (fun r _ => ifs (fun _ => ?_) (fun _ => q))
  exact na_2_17 hI hp (v2) (v3 + 1) (1) (by lia)
theorem na_2_15 {post : Int32 → MM → Int64 → Prop} {M : MM} {tl : Int64} (hI : Inv M) (hp : ∀ (r : Int32), (-1 ≤ r ∧ r ≤ 5) → post r M tl) (v2 v3 v4 : Int32) (h : 0 ≤ v2 ∧ v2 ≤ 2) : wX4_nameAmong_25 post (24 + 1) M tl 2 v2 v3 v4 15 := by
  unfold wX4_nameAmong_25
  refine And.intro (by decide) (ifn (by decide) (And.intro (by decide) (ifn (by decide) (And.intro (by decide) (And.intro (by unfold vp_in; decide) ?_)))))
  refine ifn (by decide) ?_
  have q : wX4_nameAmong_129 post (wX4_nameAmong_25 post 24) M tl 2 v2 v3 15 := na_2_16 hI hp (v2) (v3 + 1) (0) (by lia)
  refine ifs (fun _ => q) (fun _ => ifs (fun _ => q) (fun _ => And.intro (by decide) (And.intro (by unfold vp_in; decide) ?_)))
  refine sf_X9_byteAt hI (fun r _ => ifs (fun _ => ?_) (fun _ => q))
  exact na_2_16 hI hp (v2) (v3 + 1) (1) (by lia)
theorem na_2_14 {post : Int32 → MM → Int64 → Prop} {M : MM} {tl : Int64} (hI : Inv M) (hp : ∀ (r : Int32), (-1 ≤ r ∧ r ≤ 5) → post r M tl) (v2 v3 v4 : Int32) (h : 0 ≤ v2 ∧ v2 ≤ 2) : wX4_nameAmong_25 post (25 + 1) M tl 2 v2 v3 v4 14 := by
  unfold wX4_nameAmong_25
  refine And.intro (by decide) (ifn (by decide) (And.intro (by decide) (ifn (by decide) (And.intro (by decide) (And.intro (by unfold vp_in; decide) ?_)))))
  refine ifn (by decide) ?_
  have q : wX4_nameAmong_129 post (wX4_nameAmong_25 post 25) M tl 2 v2 v3 14 := na_2_15 hI hp (v2) (v3 + 1) (0) (by lia)
  refine ifs (fun _ => q) (fun _ => ifs (fun _ => q) (fun _ => And.intro (by decide) (And.intro (by unfold vp_in; decide) ?_)))
  refine sf_X9_byteAt hI (fun r _ => ifs (fun _ => ?_) (fun _ => q))
  exact na_2_15 hI hp (v2) (v3 + 1) (1) (by lia)
theorem na_2_13 {post : Int32 → MM → Int64 → Prop} {M : MM} {tl : Int64} (hI : Inv M) (hp : ∀ (r : Int32), (-1 ≤ r ∧ r ≤ 5) → post r M tl) (v2 v3 v4 : Int32) (h : 0 ≤ v2 ∧ v2 ≤ 1) : wX4_nameAmong_25 post (26 + 1) M tl 2 v2 v3 v4 13 := by
  unfold wX4_nameAmong_25
  refine And.intro (by decide) (ifn (by decide) (And.intro (by decide) (ifn (by decide) (And.intro (by decide) (And.intro (by unfold vp_in; decide) ?_)))))
  refine ifp (by decide) ?_
  unfold wX4_nameAmong_54
  have q : wX4_nameAmong_69 post (wX4_nameAmong_25 post 26) M tl 2 v2 13 := by
    unfold wX4_nameAmong_69
    refine ifs (fun _ => ?_) (fun _ => ?_)
    · exact na_2_14 hI hp (v2 + 1) (M 22 7) (1) (by lia)
    · exact na_2_14 hI hp (v2 + 1) (M 22 7) (0) (by lia)
  exact ifs (fun _ => q) (fun _ => ifs (fun _ => hp _ (by lia)) (fun _ => q))
theorem na_2_12 {post : Int32 → MM → Int64 → Prop} {M : MM} {tl : Int64} (hI : Inv M) (hp : ∀ (r : Int32), (-1 ≤ r ∧ r ≤ 5) → post r M tl) (v2 v3 v4 : Int32) (h : 0 ≤ v2 ∧ v2 ≤ 1) : wX4_nameAmong_25 post (27 + 1) M tl 2 v2 v3 v4 12 := by
  unfold wX4_nameAmong_25
  refine And.intro (by decide) (ifn (by decide) (And.intro (by decide) (ifn (by decide) (And.intro (by decide) (And.intro (by unfold vp_in; decide) ?_)))))
  refine ifn (by decide) ?_
  have q : wX4_nameAmong_129 post (wX4_nameAmong_25 post 27) M tl 2 v2 v3 12 := na_2_13 hI hp (v2) (v3 + 1) (0) (by lia)
  refine ifs (fun _ => q) (fun _ => ifs (fun _ => q) (fun _ => And.intro (by decide) (And.intro (by unfold vp_in; decide) ?_)))
  refine sf_X9_byteAt hI (fun r _ => ifs (fun _ => ?_) (fun _ => q))
  exact na_2_13 hI hp (v2) (v3 + 1) (1) (by lia)
theorem na_2_11 {post : Int32 → MM → Int64 → Prop} {M : MM} {tl : Int64} (hI : Inv M) (hp : ∀ (r : Int32), (-1 ≤ r ∧ r ≤ 5) → post r M tl) (v2 v3 v4 : Int32) (h : 0 ≤ v2 ∧ v2 ≤ 1) : wX4_nameAmong_25 post (28 + 1) M tl 2 v2 v3 v4 11 := by
  unfold wX4_nameAmong_25
  refine And.intro (by decide) (ifn (by decide) (And.intro (by decide) (ifn (by decide) (And.intro (by decide) (And.intro (by unfold vp_in; decide) ?_)))))
  refine ifn (by decide) ?_
  have q : wX4_nameAmong_129 post (wX4_nameAmong_25 post 28) M tl 2 v2 v3 11 := na_2_12 hI hp (v2) (v3 + 1) (0) (by lia)
  refine ifs (fun _ => q) (fun _ => ifs (fun _ => q) (fun _ => And.intro (by decide) (And.intro (by unfold vp_in; decide) ?_)))
  refine sf_X9_byteAt hI (fun r _ => ifs (fun _ => ?_) (fun _ => q))
  exact na_2_12 hI hp (v2) (v3 + 1) (1) (by lia)
theorem na_2_10 {post : Int32 → MM → Int64 → Prop} {M : MM} {tl : Int64} (hI : Inv M) (hp : ∀ (r : Int32), (-1 ≤ r ∧ r ≤ 5) → post r M tl) (v2 v3 v4 : Int32) (h : 0 ≤ v2 ∧ v2 ≤ 1) : wX4_nameAmong_25 post (29 + 1) M tl 2 v2 v3 v4 10 := by
  unfold wX4_nameAmong_25
  refine And.intro (by decide) (ifn (by decide) (And.intro (by decide) (ifn (by decide) (And.intro (by decide) (And.intro (by unfold vp_in; decide) ?_)))))
  refine ifn (by decide) ?_
  have q : wX4_nameAmong_129 post (wX4_nameAmong_25 post 29) M tl 2 v2 v3 10 := na_2_11 hI hp (v2) (v3 + 1) (0) (by lia)
  refine ifs (fun _ => q) (fun _ => ifs (fun _ => q) (fun _ => And.intro (by decide) (And.intro (by unfold vp_in; decide) ?_)))
  refine sf_X9_byteAt hI (fun r _ => ifs (fun _ => ?_) (fun _ => q))
  exact na_2_11 hI hp (v2) (v3 + 1) (1) (by lia)
theorem na_2_9 {post : Int32 → MM → Int64 → Prop} {M : MM} {tl : Int64} (hI : Inv M) (hp : ∀ (r : Int32), (-1 ≤ r ∧ r ≤ 5) → post r M tl) (v2 v3 v4 : Int32) (h : 0 ≤ v2 ∧ v2 ≤ 1) : wX4_nameAmong_25 post (30 + 1) M tl 2 v2 v3 v4 9 := by
  unfold wX4_nameAmong_25
  refine And.intro (by decide) (ifn (by decide) (And.intro (by decide) (ifn (by decide) (And.intro (by decide) (And.intro (by unfold vp_in; decide) ?_)))))
  refine ifn (by decide) ?_
  have q : wX4_nameAmong_129 post (wX4_nameAmong_25 post 30) M tl 2 v2 v3 9 := na_2_10 hI hp (v2) (v3 + 1) (0) (by lia)
  refine ifs (fun _ => q) (fun _ => ifs (fun _ => q) (fun _ => And.intro (by decide) (And.intro (by unfold vp_in; decide) ?_)))
  refine sf_X9_byteAt hI (fun r _ => ifs (fun _ => ?_) (fun _ => q))
  exact na_2_10 hI hp (v2) (v3 + 1) (1) (by lia)
theorem na_2_8 {post : Int32 → MM → Int64 → Prop} {M : MM} {tl : Int64} (hI : Inv M) (hp : ∀ (r : Int32), (-1 ≤ r ∧ r ≤ 5) → post r M tl) (v2 v3 v4 : Int32) (h : 0 ≤ v2 ∧ v2 ≤ 1) : wX4_nameAmong_25 post (31 + 1) M tl 2 v2 v3 v4 8 := by
  unfold wX4_nameAmong_25
  refine And.intro (by decide) (ifn (by decide) (And.intro (by decide) (ifn (by decide) (And.intro (by decide) (And.intro (by unfold vp_in; decide) ?_)))))
  refine ifn (by decide) ?_
  have q : wX4_nameAmong_129 post (wX4_nameAmong_25 post 31) M tl 2 v2 v3 8 := na_2_9 hI hp (v2) (v3 + 1) (0) (by lia)
  refine ifs (fun _ => q) (fun _ => ifs (fun _ => q) (fun _ => And.intro (by decide) (And.intro (by unfold vp_in; decide) ?_)))
  refine sf_X9_byteAt hI (fun r _ => ifs (fun _ => ?_) (fun _ => q))
  exact na_2_9 hI hp (v2) (v3 + 1) (1) (by lia)
theorem na_2_7 {post : Int32 → MM → Int64 → Prop} {M : MM} {tl : Int64} (hI : Inv M) (hp : ∀ (r : Int32), (-1 ≤ r ∧ r ≤ 5) → post r M tl) (v2 v3 v4 : Int32) (h : 0 ≤ v2 ∧ v2 ≤ 0) : wX4_nameAmong_25 post (32 + 1) M tl 2 v2 v3 v4 7 := by
  unfold wX4_nameAmong_25
  refine And.intro (by decide) (ifn (by decide) (And.intro (by decide) (ifn (by decide) (And.intro (by decide) (And.intro (by unfold vp_in; decide) ?_)))))
  refine ifp (by decide) ?_
  unfold wX4_nameAmong_54
  have q : wX4_nameAmong_69 post (wX4_nameAmong_25 post 32) M tl 2 v2 7 := by
    unfold wX4_nameAmong_69
    refine ifs (fun _ => ?_) (fun _ => ?_)
    · exact na_2_8 hI hp (v2 + 1) (M 22 7) (1) (by lia)
    · exact na_2_8 hI hp (v2 + 1) (M 22 7) (0) (by lia)
  exact ifs (fun _ => q) (fun _ => ifs (fun _ => hp _ (by lia)) (fun _ => q))
theorem na_2_6 {post : Int32 → MM → Int64 → Prop} {M : MM} {tl : Int64} (hI : Inv M) (hp : ∀ (r : Int32), (-1 ≤ r ∧ r ≤ 5) → post r M tl) (v2 v3 v4 : Int32) (h : 0 ≤ v2 ∧ v2 ≤ 0) : wX4_nameAmong_25 post (33 + 1) M tl 2 v2 v3 v4 6 := by
  unfold wX4_nameAmong_25
  refine And.intro (by decide) (ifn (by decide) (And.intro (by decide) (ifn (by decide) (And.intro (by decide) (And.intro (by unfold vp_in; decide) ?_)))))
  refine ifn (by decide) ?_
  have q : wX4_nameAmong_129 post (wX4_nameAmong_25 post 33) M tl 2 v2 v3 6 := na_2_7 hI hp (v2) (v3 + 1) (0) (by lia)
  refine ifs (fun _ => q) (fun _ => ifs (fun _ => q) (fun _ => And.intro (by decide) (And.intro (by unfold vp_in; decide) ?_)))
  refine sf_X9_byteAt hI (fun r _ => ifs (fun _ => ?_) (fun _ => q))
  exact na_2_7 hI hp (v2) (v3 + 1) (1) (by lia)
theorem na_2_5 {post : Int32 → MM → Int64 → Prop} {M : MM} {tl : Int64} (hI : Inv M) (hp : ∀ (r : Int32), (-1 ≤ r ∧ r ≤ 5) → post r M tl) (v2 v3 v4 : Int32) (h : 0 ≤ v2 ∧ v2 ≤ 0) : wX4_nameAmong_25 post (34 + 1) M tl 2 v2 v3 v4 5 := by
  unfold wX4_nameAmong_25
  refine And.intro (by decide) (ifn (by decide) (And.intro (by decide) (ifn (by decide) (And.intro (by decide) (And.intro (by unfold vp_in; decide) ?_)))))
  refine ifn (by decide) ?_
  have q : wX4_nameAmong_129 post (wX4_nameAmong_25 post 34) M tl 2 v2 v3 5 := na_2_6 hI hp (v2) (v3 + 1) (0) (by lia)
  refine ifs (fun _ => q) (fun _ => ifs (fun _ => q) (fun _ => And.intro (by decide) (And.intro (by unfold vp_in; decide) ?_)))
  refine sf_X9_byteAt hI (fun r _ => ifs (fun _ => ?_) (fun _ => q))
  exact na_2_6 hI hp (v2) (v3 + 1) (1) (by lia)
theorem na_2_4 {post : Int32 → MM → Int64 → Prop} {M : MM} {tl : Int64} (hI : Inv M) (hp : ∀ (r : Int32), (-1 ≤ r ∧ r ≤ 5) → post r M tl) (v2 v3 v4 : Int32) (h : 0 ≤ v2 ∧ v2 ≤ 0) : wX4_nameAmong_25 post (35 + 1) M tl 2 v2 v3 v4 4 := by
  unfold wX4_nameAmong_25
  refine And.intro (by decide) (ifn (by decide) (And.intro (by decide) (ifn (by decide) (And.intro (by decide) (And.intro (by unfold vp_in; decide) ?_)))))
  refine ifn (by decide) ?_
  have q : wX4_nameAmong_129 post (wX4_nameAmong_25 post 35) M tl 2 v2 v3 4 := na_2_5 hI hp (v2) (v3 + 1) (0) (by lia)
  refine ifs (fun _ => q) (fun _ => ifs (fun _ => q) (fun _ => And.intro (by decide) (And.intro (by unfold vp_in; decide) ?_)))
  refine sf_X9_byteAt hI (fun r _ => ifs (fun _ => ?_) (fun _ => q))
  exact na_2_5 hI hp (v2) (v3 + 1) (1) (by lia)
theorem na_2_3 {post : Int32 → MM → Int64 → Prop} {M : MM} {tl : Int64} (hI : Inv M) (hp : ∀ (r : Int32), (-1 ≤ r ∧ r ≤ 5) → post r M tl) (v2 v3 v4 : Int32) (h : 0 ≤ v2 ∧ v2 ≤ 0) : wX4_nameAmong_25 post (36 + 1) M tl 2 v2 v3 v4 3 := by
  unfold wX4_nameAmong_25
  refine And.intro (by decide) (ifn (by decide) (And.intro (by decide) (ifn (by decide) (And.intro (by decide) (And.intro (by unfold vp_in; decide) ?_)))))
  refine ifn (by decide) ?_
  have q : wX4_nameAmong_129 post (wX4_nameAmong_25 post 36) M tl 2 v2 v3 3 := na_2_4 hI hp (v2) (v3 + 1) (0) (by lia)
  refine ifs (fun _ => q) (fun _ => ifs (fun _ => q) (fun _ => And.intro (by decide) (And.intro (by unfold vp_in; decide) ?_)))
  refine sf_X9_byteAt hI (fun r _ => ifs (fun _ => ?_) (fun _ => q))
  exact na_2_4 hI hp (v2) (v3 + 1) (1) (by lia)
theorem na_2_2 {post : Int32 → MM → Int64 → Prop} {M : MM} {tl : Int64} (hI : Inv M) (hp : ∀ (r : Int32), (-1 ≤ r ∧ r ≤ 5) → post r M tl) (v2 v3 v4 : Int32) (h : 0 ≤ v2 ∧ v2 ≤ 0) : wX4_nameAmong_25 post (37 + 1) M tl 2 v2 v3 v4 2 := by
  unfold wX4_nameAmong_25
  refine And.intro (by decide) (ifn (by decide) (And.intro (by decide) (ifn (by decide) (And.intro (by decide) (And.intro (by unfold vp_in; decide) ?_)))))
  refine ifn (by decide) ?_
  have q : wX4_nameAmong_129 post (wX4_nameAmong_25 post 37) M tl 2 v2 v3 2 := na_2_3 hI hp (v2) (v3 + 1) (0) (by lia)
  refine ifs (fun _ => q) (fun _ => ifs (fun _ => q) (fun _ => And.intro (by decide) (And.intro (by unfold vp_in; decide) ?_)))
  refine sf_X9_byteAt hI (fun r _ => ifs (fun _ => ?_) (fun _ => q))
  exact na_2_3 hI hp (v2) (v3 + 1) (1) (by lia)
theorem na_2_1 {post : Int32 → MM → Int64 → Prop} {M : MM} {tl : Int64} (hI : Inv M) (hp : ∀ (r : Int32), (-1 ≤ r ∧ r ≤ 5) → post r M tl) (v2 v3 v4 : Int32) (h : 0 ≤ v2 ∧ v2 ≤ 0) : wX4_nameAmong_25 post (38 + 1) M tl 2 v2 v3 v4 1 := by
  unfold wX4_nameAmong_25
  refine And.intro (by decide) (ifn (by decide) (And.intro (by decide) (ifn (by decide) (And.intro (by decide) (And.intro (by unfold vp_in; decide) ?_)))))
  refine ifn (by decide) ?_
  have q : wX4_nameAmong_129 post (wX4_nameAmong_25 post 38) M tl 2 v2 v3 1 := na_2_2 hI hp (v2) (v3 + 1) (0) (by lia)
  refine ifs (fun _ => q) (fun _ => ifs (fun _ => q) (fun _ => And.intro (by decide) (And.intro (by unfold vp_in; decide) ?_)))
  refine sf_X9_byteAt hI (fun r _ => ifs (fun _ => ?_) (fun _ => q))
  exact na_2_2 hI hp (v2) (v3 + 1) (1) (by lia)
theorem na_2_0 {post : Int32 → MM → Int64 → Prop} {M : MM} {tl : Int64} (hI : Inv M) (hp : ∀ (r : Int32), (-1 ≤ r ∧ r ≤ 5) → post r M tl) (v2 v3 v4 : Int32) (h : 0 ≤ v2 ∧ v2 ≤ 0) : wX4_nameAmong_25 post (39 + 1) M tl 2 v2 v3 v4 0 := by
  unfold wX4_nameAmong_25
  refine And.intro (by decide) (ifn (by decide) (And.intro (by decide) (ifn (by decide) (And.intro (by decide) (And.intro (by unfold vp_in; decide) ?_)))))
  refine ifn (by decide) ?_
  have q : wX4_nameAmong_129 post (wX4_nameAmong_25 post 39) M tl 2 v2 v3 0 := na_2_1 hI hp (v2) (v3 + 1) (0) (by lia)
  refine ifs (fun _ => q) (fun _ => ifs (fun _ => q) (fun _ => And.intro (by decide) (And.intro (by unfold vp_in; decide) ?_)))
  refine sf_X9_byteAt hI (fun r _ => ifs (fun _ => ?_) (fun _ => q))
  exact na_2_1 hI hp (v2) (v3 + 1) (1) (by lia)
theorem sf_X4_nameAmong__2 {post : Int32 → MM → Int64 → Prop} {M : MM} {tl : Int64} (hI : Inv M) (hp : ∀ (r : Int32), (-1 ≤ r ∧ r ≤ 5) → post r M tl) : wpX4_nameAmong post M tl 2 := by
  unfold wpX4_nameAmong
  refine ifs (fun _ => ?_) (fun _ => ?_)
  · exact ⟨39 + 1, na_2_0 hI hp 0 _ 1 (by decide)⟩
  · exact ⟨39 + 1, na_2_0 hI hp 0 _ 0 (by decide)⟩
set_option maxHeartbeats 4000000 in
theorem sf_X4_takeNameOf__2 {post : Int32 → MM → Int64 → Prop} {M : MM} {tl : Int64} (hI : Inv M) (hp : ∀ (r : Int32) (M1 : MM) (t1 : Int64), Inv M1 → Fr [] [(22, 2), (22, 3), (22, 6), (22, 7), (22, 8), (22, 9)] M M1 → (M 22 2 = 0 ∨ M1 22 2 ≠ 0) ∧ ((r = -1 ∧ M1 22 2 ≠ 0) ∨ (0 ≤ r ∧ r ≤ 5 ∧ M1 22 2 = 0)) → post r M1 t1) : wpX4_takeNameOf post M tl 2 := by
  unfold wpX4_takeNameOf
  refine sf_X4_takeToken hI  (fun M2 t3 hI4 hF5 hq6 => ?_)
  have hF7 : Fr [] [(22, 2), (22, 3), (22, 6), (22, 7), (22, 8), (22, 9)] M M2 := fr_call fr_rfl hF5 (by decide) (by decide)
  refine ifs (fun hc8 => ?_) (fun hc9 => ?_)
  · skip
    refine sf_X4_nameAmong__2 hI4  (fun r10 hq11 => ?_)
    refine ifs (fun hc12 => ?_) (fun hc13 => ?_)
    · skip
      exact hp _ _ _ hI4 hF7 (by lia)
    · skip
      refine sf_X4_fail hI4 (by lia) (fun r14 M15 t16 hI17 hF18 hq19 => ?_)
      have hF20 : Fr [] [(22, 2), (22, 3), (22, 6), (22, 7), (22, 8), (22, 9)] M M15 := fr_call hF7 hF18 (by decide) (by decide)
      exact hp _ _ _ hI17 hF20 (by lia)
  · skip
    exact hp _ _ _ hI4 hF7 (by lia)
theorem na_3_11 {post : Int32 → MM → Int64 → Prop} {M : MM} {tl : Int64} (hI : Inv M) (hp : ∀ (r : Int32), (-1 ≤ r ∧ r ≤ 1) → post r M tl) (v2 v3 v4 : Int32) (h : 0 ≤ v2 ∧ v2 ≤ 2) : wX4_nameAmong_25 post (0 + 1) M tl 3 v2 v3 v4 11 := by
  unfold wX4_nameAmong_25
  exact And.intro (by decide) (ifp (by decide) (hp _ (by decide)))
theorem na_3_10 {post : Int32 → MM → Int64 → Prop} {M : MM} {tl : Int64} (hI : Inv M) (hp : ∀ (r : Int32), (-1 ≤ r ∧ r ≤ 1) → post r M tl) (v2 v3 v4 : Int32) (h : 0 ≤ v2 ∧ v2 ≤ 1) : wX4_nameAmong_25 post (1 + 1) M tl 3 v2 v3 v4 10 := by
  unfold wX4_nameAmong_25
  refine And.intro (by decide) (ifn (by decide) (And.intro (by decide) (ifp (by decide) ?_)))
  unfold wX4_nameAmong_54
  have q : wX4_nameAmong_69 post (wX4_nameAmong_25 post 1) M tl 3 v2 10 := by
    unfold wX4_nameAmong_69
    refine ifs (fun _ => ?_) (fun _ => ?_)
    · exact na_3_11 hI hp (v2 + 1) (M 22 7) (1) (by lia)
    · exact na_3_11 hI hp (v2 + 1) (M 22 7) (0) (by lia)
  exact ifs (fun _ => q) (fun _ => ifs (fun _ => hp _ (by lia)) (fun _ => q))
theorem na_3_9 {post : Int32 → MM → Int64 → Prop} {M : MM} {tl : Int64} (hI : Inv M) (hp : ∀ (r : Int32), (-1 ≤ r ∧ r ≤ 1) → post r M tl) (v2 v3 v4 : Int32) (h : 0 ≤ v2 ∧ v2 ≤ 1) : wX4_nameAmong_25 post (2 + 1) M tl 3 v2 v3 v4 9 := by
  unfold wX4_nameAmong_25
  refine And.intro (by decide) (ifn (by decide) (And.intro (by decide) (ifn (by decide) (And.intro (by decide) (And.intro (by unfold vp_in; decide) ?_)))))
  refine ifn (by decide) ?_
  have q : wX4_nameAmong_129 post (wX4_nameAmong_25 post 2) M tl 3 v2 v3 9 := na_3_10 hI hp (v2) (v3 + 1) (0) (by lia)
  refine ifs (fun _ => q) (fun _ => ifs (fun _ => q) (fun _ => And.intro (by decide) (And.intro (by unfold vp_in; decide) ?_)))
  refine sf_X9_byteAt hI (fun r _ => ifs (fun _ => ?_) (fun _ => q))
  exact na_3_10 hI hp (v2) (v3 + 1) (1) (by lia)
theorem na_3_8 {post : Int32 → MM → Int64 → Prop} {M : MM} {tl : Int64} (hI : Inv M) (hp : ∀ (r : Int32), (-1 ≤ r ∧ r ≤ 1) → post r M tl) (v2 v3 v4 : Int32) (h : 0 ≤ v2 ∧ v2 ≤ 1) : wX4_nameAmong_25 post (3 + 1) M tl 3 v2 v3 v4 8 := by
  unfold wX4_nameAmong_25
  refine And.intro (by decide) (ifn (by decide) (And.intro (by decide) (ifn (by decide) (And.intro (by decide) (And.intro (by unfold vp_in; decide) ?_)))))
  refine ifn (by decide) ?_
  have q : wX4_nameAmong_129 post (wX4_nameAmong_25 post 3) M tl 3 v2 v3 8 := na_3_9 hI hp (v2) (v3 + 1) (0) (by lia)
  refine ifs (fun _ => q) (fun _ => ifs (fun _ => q) (fun _ => And.intro (by decide) (And.intro (by unfold vp_in; decide) ?_)))
  refine sf_X9_byteAt hI (fun r _ => ifs (fun _ => ?_) (fun _ => q))
  exact na_3_9 hI hp (v2) (v3 + 1) (1) (by lia)
theorem na_3_7 {post : Int32 → MM → Int64 → Prop} {M : MM} {tl : Int64} (hI : Inv M) (hp : ∀ (r : Int32), (-1 ≤ r ∧ r ≤ 1) → post r M tl) (v2 v3 v4 : Int32) (h : 0 ≤ v2 ∧ v2 ≤ 1) : wX4_nameAmong_25 post (4 + 1) M tl 3 v2 v3 v4 7 := by
  unfold wX4_nameAmong_25
  refine And.intro (by decide) (ifn (by decide) (And.intro (by decide) (ifn (by decide) (And.intro (by decide) (And.intro (by unfold vp_in; decide) ?_)))))
  refine ifn (by decide) ?_
  have q : wX4_nameAmong_129 post (wX4_nameAmong_25 post 4) M tl 3 v2 v3 7 := na_3_8 hI hp (v2) (v3 + 1) (0) (by lia)
  refine ifs (fun _ => q) (fun _ => ifs (fun _ => q) (fun _ => And.intro (by decide) (And.intro (by unfold vp_in; decide) ?_)))
  refine sf_X9_byteAt hI (fun r _ => ifs (fun _ => ?_) (fun _ => q))
  exact na_3_8 hI hp (v2) (v3 + 1) (1) (by lia)
theorem na_3_6 {post : Int32 → MM → Int64 → Prop} {M : MM} {tl : Int64} (hI : Inv M) (hp : ∀ (r : Int32), (-1 ≤ r ∧ r ≤ 1) → post r M tl) (v2 v3 v4 : Int32) (h : 0 ≤ v2 ∧ v2 ≤ 1) : wX4_nameAmong_25 post (5 + 1) M tl 3 v2 v3 v4 6 := by
  unfold wX4_nameAmong_25
  refine And.intro (by decide) (ifn (by decide) (And.intro (by decide) (ifn (by decide) (And.intro (by decide) (And.intro (by unfold vp_in; decide) ?_)))))
  refine ifn (by decide) ?_
  have q : wX4_nameAmong_129 post (wX4_nameAmong_25 post 5) M tl 3 v2 v3 6 := na_3_7 hI hp (v2) (v3 + 1) (0) (by lia)
  refine ifs (fun _ => q) (fun _ => ifs (fun _ => q) (fun _ => And.intro (by decide) (And.intro (by unfold vp_in; decide) ?_)))
  refine sf_X9_byteAt hI (fun r _ => ifs (fun _ => ?_) (fun _ => q))
  exact na_3_7 hI hp (v2) (v3 + 1) (1) (by lia)
theorem na_3_5 {post : Int32 → MM → Int64 → Prop} {M : MM} {tl : Int64} (hI : Inv M) (hp : ∀ (r : Int32), (-1 ≤ r ∧ r ≤ 1) → post r M tl) (v2 v3 v4 : Int32) (h : 0 ≤ v2 ∧ v2 ≤ 1) : wX4_nameAmong_25 post (6 + 1) M tl 3 v2 v3 v4 5 := by
  unfold wX4_nameAmong_25
  refine And.intro (by decide) (ifn (by decide) (And.intro (by decide) (ifn (by decide) (And.intro (by decide) (And.intro (by unfold vp_in; decide) ?_)))))
  refine ifn (by decide) ?_
  have q : wX4_nameAmong_129 post (wX4_nameAmong_25 post 6) M tl 3 v2 v3 5 := na_3_6 hI hp (v2) (v3 + 1) (0) (by lia)
  refine ifs (fun _ => q) (fun _ => ifs (fun _ => q) (fun _ => And.intro (by decide) (And.intro (by unfold vp_in; decide) ?_)))
  refine sf_X9_byteAt hI (fun r _ => ifs (fun _ => ?_) (fun _ => q))
  exact na_3_6 hI hp (v2) (v3 + 1) (1) (by lia)
theorem na_3_4 {post : Int32 → MM → Int64 → Prop} {M : MM} {tl : Int64} (hI : Inv M) (hp : ∀ (r : Int32), (-1 ≤ r ∧ r ≤ 1) → post r M tl) (v2 v3 v4 : Int32) (h : 0 ≤ v2 ∧ v2 ≤ 0) : wX4_nameAmong_25 post (7 + 1) M tl 3 v2 v3 v4 4 := by
  unfold wX4_nameAmong_25
  refine And.intro (by decide) (ifn (by decide) (And.intro (by decide) (ifn (by decide) (And.intro (by decide) (And.intro (by unfold vp_in; decide) ?_)))))
  refine ifp (by decide) ?_
  unfold wX4_nameAmong_54
  have q : wX4_nameAmong_69 post (wX4_nameAmong_25 post 7) M tl 3 v2 4 := by
    unfold wX4_nameAmong_69
    refine ifs (fun _ => ?_) (fun _ => ?_)
    · exact na_3_5 hI hp (v2 + 1) (M 22 7) (1) (by lia)
    · exact na_3_5 hI hp (v2 + 1) (M 22 7) (0) (by lia)
  exact ifs (fun _ => q) (fun _ => ifs (fun _ => hp _ (by lia)) (fun _ => q))
theorem na_3_3 {post : Int32 → MM → Int64 → Prop} {M : MM} {tl : Int64} (hI : Inv M) (hp : ∀ (r : Int32), (-1 ≤ r ∧ r ≤ 1) → post r M tl) (v2 v3 v4 : Int32) (h : 0 ≤ v2 ∧ v2 ≤ 0) : wX4_nameAmong_25 post (8 + 1) M tl 3 v2 v3 v4 3 := by
  unfold wX4_nameAmong_25
  refine And.intro (by decide) (ifn (by decide) (And.intro (by decide) (ifn (by decide) (And.intro (by decide) (And.intro (by unfold vp_in; decide) ?_)))))
  refine ifn (by decide) ?_
  have q : wX4_nameAmong_129 post (wX4_nameAmong_25 post 8) M tl 3 v2 v3 3 := na_3_4 hI hp (v2) (v3 + 1) (0) (by lia)
  refine ifs (fun _ => q) (fun _ => ifs (fun _ => q) (fun _ => And.intro (by decide) (And.intro (by unfold vp_in; decide) ?_)))
  refine sf_X9_byteAt hI (fun r _ => ifs (fun _ => ?_) (fun _ => q))
  exact na_3_4 hI hp (v2) (v3 + 1) (1) (by lia)
theorem na_3_2 {post : Int32 → MM → Int64 → Prop} {M : MM} {tl : Int64} (hI : Inv M) (hp : ∀ (r : Int32), (-1 ≤ r ∧ r ≤ 1) → post r M tl) (v2 v3 v4 : Int32) (h : 0 ≤ v2 ∧ v2 ≤ 0) : wX4_nameAmong_25 post (9 + 1) M tl 3 v2 v3 v4 2 := by
  unfold wX4_nameAmong_25
  refine And.intro (by decide) (ifn (by decide) (And.intro (by decide) (ifn (by decide) (And.intro (by decide) (And.intro (by unfold vp_in; decide) ?_)))))
  refine ifn (by decide) ?_
  have q : wX4_nameAmong_129 post (wX4_nameAmong_25 post 9) M tl 3 v2 v3 2 := na_3_3 hI hp (v2) (v3 + 1) (0) (by lia)
  refine ifs (fun _ => q) (fun _ => ifs (fun _ => q) (fun _ => And.intro (by decide) (And.intro (by unfold vp_in; decide) ?_)))
  refine sf_X9_byteAt hI (fun r _ => ifs (fun _ => ?_) (fun _ => q))
  exact na_3_3 hI hp (v2) (v3 + 1) (1) (by lia)
theorem na_3_1 {post : Int32 → MM → Int64 → Prop} {M : MM} {tl : Int64} (hI : Inv M) (hp : ∀ (r : Int32), (-1 ≤ r ∧ r ≤ 1) → post r M tl) (v2 v3 v4 : Int32) (h : 0 ≤ v2 ∧ v2 ≤ 0) : wX4_nameAmong_25 post (10 + 1) M tl 3 v2 v3 v4 1 := by
  unfold wX4_nameAmong_25
  refine And.intro (by decide) (ifn (by decide) (And.intro (by decide) (ifn (by decide) (And.intro (by decide) (And.intro (by unfold vp_in; decide) ?_)))))
  refine ifn (by decide) ?_
  have q : wX4_nameAmong_129 post (wX4_nameAmong_25 post 10) M tl 3 v2 v3 1 := na_3_2 hI hp (v2) (v3 + 1) (0) (by lia)
  refine ifs (fun _ => q) (fun _ => ifs (fun _ => q) (fun _ => And.intro (by decide) (And.intro (by unfold vp_in; decide) ?_)))
  refine sf_X9_byteAt hI (fun r _ => ifs (fun _ => ?_) (fun _ => q))
  exact na_3_2 hI hp (v2) (v3 + 1) (1) (by lia)
theorem na_3_0 {post : Int32 → MM → Int64 → Prop} {M : MM} {tl : Int64} (hI : Inv M) (hp : ∀ (r : Int32), (-1 ≤ r ∧ r ≤ 1) → post r M tl) (v2 v3 v4 : Int32) (h : 0 ≤ v2 ∧ v2 ≤ 0) : wX4_nameAmong_25 post (11 + 1) M tl 3 v2 v3 v4 0 := by
  unfold wX4_nameAmong_25
  refine And.intro (by decide) (ifn (by decide) (And.intro (by decide) (ifn (by decide) (And.intro (by decide) (And.intro (by unfold vp_in; decide) ?_)))))
  refine ifn (by decide) ?_
  have q : wX4_nameAmong_129 post (wX4_nameAmong_25 post 11) M tl 3 v2 v3 0 := na_3_1 hI hp (v2) (v3 + 1) (0) (by lia)
  refine ifs (fun _ => q) (fun _ => ifs (fun _ => q) (fun _ => And.intro (by decide) (And.intro (by unfold vp_in; decide) ?_)))
  refine sf_X9_byteAt hI (fun r _ => ifs (fun _ => ?_) (fun _ => q))
  exact na_3_1 hI hp (v2) (v3 + 1) (1) (by lia)
theorem sf_X4_nameAmong__3 {post : Int32 → MM → Int64 → Prop} {M : MM} {tl : Int64} (hI : Inv M) (hp : ∀ (r : Int32), (-1 ≤ r ∧ r ≤ 1) → post r M tl) : wpX4_nameAmong post M tl 3 := by
  unfold wpX4_nameAmong
  refine ifs (fun _ => ?_) (fun _ => ?_)
  · exact ⟨11 + 1, na_3_0 hI hp 0 _ 1 (by decide)⟩
  · exact ⟨11 + 1, na_3_0 hI hp 0 _ 0 (by decide)⟩
set_option maxHeartbeats 4000000 in
theorem sf_X4_takeNameOf__3 {post : Int32 → MM → Int64 → Prop} {M : MM} {tl : Int64} (hI : Inv M) (hp : ∀ (r : Int32) (M1 : MM) (t1 : Int64), Inv M1 → Fr [] [(22, 2), (22, 3), (22, 6), (22, 7), (22, 8), (22, 9)] M M1 → (M 22 2 = 0 ∨ M1 22 2 ≠ 0) ∧ ((r = -1 ∧ M1 22 2 ≠ 0) ∨ (0 ≤ r ∧ r ≤ 1 ∧ M1 22 2 = 0)) → post r M1 t1) : wpX4_takeNameOf post M tl 3 := by
  unfold wpX4_takeNameOf
  refine sf_X4_takeToken hI  (fun M2 t3 hI4 hF5 hq6 => ?_)
  have hF7 : Fr [] [(22, 2), (22, 3), (22, 6), (22, 7), (22, 8), (22, 9)] M M2 := fr_call fr_rfl hF5 (by decide) (by decide)
  refine ifs (fun hc8 => ?_) (fun hc9 => ?_)
  · skip
    refine sf_X4_nameAmong__3 hI4  (fun r10 hq11 => ?_)
    refine ifs (fun hc12 => ?_) (fun hc13 => ?_)
    · skip
      exact hp _ _ _ hI4 hF7 (by lia)
    · skip
      refine sf_X4_fail hI4 (by lia) (fun r14 M15 t16 hI17 hF18 hq19 => ?_)
      have hF20 : Fr [] [(22, 2), (22, 3), (22, 6), (22, 7), (22, 8), (22, 9)] M M15 := fr_call hF7 hF18 (by decide) (by decide)
      exact hp _ _ _ hI17 hF20 (by lia)
  · skip
    exact hp _ _ _ hI4 hF7 (by lia)
set_option maxHeartbeats 4000000 in
theorem sf_X4_takeThing {post : Int32 → MM → Int64 → Prop} {M : MM} {tl : Int64} (hI : Inv M) (hp : ∀ (r : Int32) (M1 : MM) (t1 : Int64), Inv M1 → Fr [] [(22, 2), (22, 3), (22, 6), (22, 7), (22, 8), (22, 9)] M M1 → True → post r M1 t1) : wpX4_takeThing post M tl  := by
  unfold wpX4_takeThing
  refine sf_X4_takeNameOf__2 hI  (fun r1 M2 t3 hI4 hF5 hq6 => ?_)
  have hF7 : Fr [] [(22, 2), (22, 3), (22, 6), (22, 7), (22, 8), (22, 9)] M M2 := fr_call fr_rfl hF5 (by decide) (by decide)
  refine ifs (fun hc8 => ?_) (fun hc9 => ?_)
  · skip
    refine sf_X4_takeNumber hI4  (fun r10 M11 t12 hI13 hF14 hq15 => ?_)
    have hF16 : Fr [] [(22, 2), (22, 3), (22, 6), (22, 7), (22, 8), (22, 9)] M M11 := fr_call hF7 hF14 (by decide) (by decide)
    refine sf_X4_takeNameOf__3 hI13  (fun r17 M18 t19 hI20 hF21 hq22 => ?_)
    have hF23 : Fr [] [(22, 2), (22, 3), (22, 6), (22, 7), (22, 8), (22, 9)] M M18 := fr_call hF16 hF21 (by decide) (by decide)
    refine ifs (fun hc24 => ?_) (fun hc25 => ?_)
    · skip
      exact hp _ _ _ hI20 hF23 trivial
    · skip
      exact hp _ _ _ hI20 hF23 trivial
  · skip
    exact hp _ _ _ hI4 hF7 trivial
set_option maxHeartbeats 4000000 in
theorem sf_X7_setThing__34 {post : MM → Int64 → Prop} {M : MM} {tl : Int64} {v1 : Int32} {v2 : Int32} {v3 : Int32} (hI : Inv M) (hp : ∀ (M1 : MM) (t1 : Int64), Inv M1 → Fr [35] [] M M1 → True → post M1 t1) : wpX7_setThing post M tl 34 v1 v2 v3 := by
  unfold wpX7_setThing
  refine sf_X10_isSlot hI  (fun r1 hq2 => ?_)
  refine ifs (fun hc3 => ?_) (fun hc4 => ?_)
  · skip
    exact hp _ _ hI fr_rfl trivial
  · skip
    refine And.intro (by decide) ?_
    refine sf_X10_slot hI  (fun r5 hq6 => ?_)
    refine And.intro (by decide) ?_
    refine And.intro (vpI (c := 16) (by decide) (by lia) (by lia)) ?_
    intro W7 hW8
    have hI9 : Inv W7 := by rw [hW8]; exact inv_set hI (i_any _)
    have hF10 : Fr [35] [] M W7 := by rw [hW8]; exact fr_arr fr_rfl (by decide)
    exact hp _ _ hI9 hF10 trivial
set_option maxHeartbeats 4000000 in
theorem sf_X4_readThing {post : MM → Int64 → Prop} {M : MM} {tl : Int64} (hI : Inv M) (hp : ∀ (M1 : MM) (t1 : Int64), Inv M1 → Fr [35] [(22, 2), (22, 3), (22, 6), (22, 7), (22, 8), (22, 9)] M M1 → True → post M1 t1) : wpX4_readThing post M tl  := by
  unfold wpX4_readThing
  refine sf_X4_takeBank hI  (fun r1 M2 t3 hI4 hF5 hq6 => ?_)
  have hF7 : Fr [35] [(22, 2), (22, 3), (22, 6), (22, 7), (22, 8), (22, 9)] M M2 := fr_call fr_rfl hF5 (by decide) (by decide)
  refine sf_X4_takeNumber hI4  (fun r8 M9 t10 hI11 hF12 hq13 => ?_)
  have hF14 : Fr [35] [(22, 2), (22, 3), (22, 6), (22, 7), (22, 8), (22, 9)] M M9 := fr_call hF7 hF12 (by decide) (by decide)
  refine sf_X10_slot hI11  (fun r15 hq16 => ?_)
  refine sf_X4_tellOnce hI11  (fun M18 t19 hI20 hF21 hq22 => ?_)
  have hF23 : Fr [35] [(22, 2), (22, 3), (22, 6), (22, 7), (22, 8), (22, 9)] M M18 := fr_call hF14 hF21 (by decide) (by decide)
  refine sf_X4_takeThing hI20  (fun r24 M25 t26 hI27 hF28 hq29 => ?_)
  have hF30 : Fr [35] [(22, 2), (22, 3), (22, 6), (22, 7), (22, 8), (22, 9)] M M25 := fr_call hF23 hF28 (by decide) (by decide)
  refine ifs (fun hc31 => ?_) (fun hc32 => ?_)
  · skip
    refine sf_X7_setThing__34 hI27  (fun M34 t35 hI36 hF37 hq38 => ?_)
    have hF39 : Fr [35] [(22, 2), (22, 3), (22, 6), (22, 7), (22, 8), (22, 9)] M M34 := fr_call hF30 hF37 (by decide) (by decide)
    exact hp _ _ hI36 hF39 trivial
  · skip
    exact hp _ _ hI27 hF30 trivial
set_option maxHeartbeats 4000000 in
theorem sf_X5_isFull__36 {post : Int32 → MM → Int64 → Prop} {M : MM} {tl : Int64} (hI : Inv M) (hp : ∀ (r : Int32), ((r = 0 ∨ r = 1) ∧ (r = 0 → M 36 3 < 12)) → post r M tl) : wpX5_isFull post M tl 36 := by
  unfold wpX5_isFull
  simp only [Nat.reduceAdd, ln_al_36]
  refine And.intro (by decide) ?_
  refine And.intro (by decide) ?_
  have hr1 := iv_36_3 hI
  refine ifs (fun hc2 => ?_) (fun hc3 => ?_)
  · skip
    exact hp _ (by lia)
  · skip
    exact hp _ (by lia)
set_option maxHeartbeats 4000000 in
theorem sf_X7_lastMonth__34 {post : Int32 → MM → Int64 → Prop} {M : MM} {tl : Int64} (hI : Inv M) (hp : ∀ (r : Int32), True → post r M tl) : wpX7_lastMonth post M tl 34 := by
  unfold wpX7_lastMonth
  refine And.intro (by decide) ?_
  refine And.intro (by decide) ?_
  refine And.intro (by decide) ?_
  refine And.intro (by decide) ?_
  have hr1 := iv_36_3 hI
  refine sf_X5_cell__36 hI  (fun r2 hq3 => ?_)
  exact hp _ trivial
set_option maxHeartbeats 4000000 in
theorem sf_X5_setCell__36 {post : MM → Int64 → Prop} {M : MM} {tl : Int64} {v1 : Int32} {v2 : Int32} {v3 : Int32} (hI : Inv M) (hp1 : 0 ≤ v1 ∧ v1 < 12) (hp2 : 0 ≤ v2) (hp : ∀ (M1 : MM) (t1 : Int64), Inv M1 → Fr [37] [] M M1 → True → post M1 t1) : wpX5_setCell post M tl 36 v1 v2 v3 := by
  unfold wpX5_setCell
  simp only [Nat.reduceAdd, ln_wd_36]
  refine And.intro (by decide) ?_
  refine ifs (fun hc1 => ?_) (fun hc2 => ?_)
  · skip
    exact hp _ _ hI fr_rfl trivial
  · skip
    refine And.intro (by decide) ?_
    refine And.intro (by decide) ?_
    refine And.intro (by decide) ?_
    refine And.intro (vpI (c := 48) (by decide) (by lia) (by lia)) ?_
    intro W3 hW4
    have hI5 : Inv W3 := by rw [hW4]; exact inv_set hI (i_any _)
    have hF6 : Fr [37] [] M W3 := by rw [hW4]; exact fr_arr fr_rfl (by decide)
    exact hp _ _ hI5 hF6 trivial
set_option maxHeartbeats 4000000 in
theorem sf_X5_addRow__36 {post : MM → Int64 → Prop} {M : MM} {tl : Int64} {v1 : Int32} {v2 : Int32} {v3 : Int32} {v4 : Int32} (hI : Inv M) (hp : ∀ (M1 : MM) (t1 : Int64), Inv M1 → Fr [37] [(36, 3)] M M1 → True → post M1 t1) : wpX5_addRow post M tl 36 v1 v2 v3 v4 := by
  unfold wpX5_addRow
  refine And.intro (by decide) ?_
  refine sf_X5_isFull__36 hI  (fun r1 hq2 => ?_)
  refine ifs (fun hc3 => ?_) (fun hc4 => ?_)
  · skip
    refine And.intro (by decide) ?_
    refine And.intro (by decide) ?_
    refine And.intro (by decide) ?_
    have hr7 := iv_36_3 hI
    intro W5 hW6
    have hI8 : Inv W5 := by rw [hW6]; exact inv_set hI (show 0 ≤ ((M 36 3) + (1 : Int32)) ∧ ((M 36 3) + (1 : Int32)) ≤ 12 from ⟨by lia, by lia⟩)
    have hF9 : Fr [37] [(36, 3)] M W5 := by rw [hW6]; exact fr_fld fr_rfl (by decide)
    have hv10 : W5 36 3 = ((M 36 3) + (1 : Int32)) := by rw [hW6]; exact mset_at _ _ _ _
    refine And.intro (by decide) ?_
    refine sf_X5_setCell__36 hI8 (by lia) (by lia) (fun M12 t13 hI14 hF15 hq16 => ?_)
    have hF17 : Fr [37] [(36, 3)] M M12 := fr_call hF9 hF15 (by decide) (by decide)
    refine And.intro (by decide) ?_
    refine sf_X5_setCell__36 hI14 (by lia) (by lia) (fun M19 t20 hI21 hF22 hq23 => ?_)
    have hF24 : Fr [37] [(36, 3)] M M19 := fr_call hF17 hF22 (by decide) (by decide)
    refine And.intro (by decide) ?_
    refine sf_X5_setCell__36 hI21 (by lia) (by lia) (fun M26 t27 hI28 hF29 hq30 => ?_)
    have hF31 : Fr [37] [(36, 3)] M M26 := fr_call hF24 hF29 (by decide) (by decide)
    refine And.intro (by decide) ?_
    refine sf_X5_setCell__36 hI28 (by lia) (by lia) (fun M33 t34 hI35 hF36 hq37 => ?_)
    have hF38 : Fr [37] [(36, 3)] M M33 := fr_call hF31 hF36 (by decide) (by decide)
    exact hp _ _ hI35 hF38 trivial
  · skip
    exact hp _ _ hI fr_rfl trivial
set_option maxHeartbeats 4000000 in
theorem sf_X4_readWork {post : MM → Int64 → Prop} {M : MM} {tl : Int64} (hI : Inv M) (hp : ∀ (M1 : MM) (t1 : Int64), Inv M1 → Fr [37] [(22, 2), (22, 3), (22, 6), (22, 7), (22, 8), (22, 9), (36, 3)] M M1 → True → post M1 t1) : wpX4_readWork post M tl  := by
  unfold wpX4_readWork
  refine sf_X5_isFull__36 hI  (fun r1 hq2 => ?_)
  refine ifs (fun hc3 => ?_) (fun hc4 => ?_)
  · skip
    unfold wX4_readWork_23
    refine sf_X7_lastMonth__34 hI  (fun r5 hq6 => ?_)
    refine sf_X4_takeNumber hI  (fun r7 M8 t9 hI10 hF11 hq12 => ?_)
    have hF13 : Fr [37] [(22, 2), (22, 3), (22, 6), (22, 7), (22, 8), (22, 9), (36, 3)] M M8 := fr_call fr_rfl hF11 (by decide) (by decide)
    refine sf_X4_takeBank hI10  (fun r14 M15 t16 hI17 hF18 hq19 => ?_)
    have hF20 : Fr [37] [(22, 2), (22, 3), (22, 6), (22, 7), (22, 8), (22, 9), (36, 3)] M M15 := fr_call hF13 hF18 (by decide) (by decide)
    refine sf_X4_takeNumber hI17  (fun r21 M22 t23 hI24 hF25 hq26 => ?_)
    have hF27 : Fr [37] [(22, 2), (22, 3), (22, 6), (22, 7), (22, 8), (22, 9), (36, 3)] M M22 := fr_call hF20 hF25 (by decide) (by decide)
    refine sf_X4_takeThing hI24  (fun r28 M29 t30 hI31 hF32 hq33 => ?_)
    have hF34 : Fr [37] [(22, 2), (22, 3), (22, 6), (22, 7), (22, 8), (22, 9), (36, 3)] M M29 := fr_call hF27 hF32 (by decide) (by decide)
    refine ifs (fun hc35 => ?_) (fun hc36 => ?_)
    · skip
      refine sf_X5_addRow__36 hI31  (fun M38 t39 hI40 hF41 hq42 => ?_)
      have hF43 : Fr [37] [(22, 2), (22, 3), (22, 6), (22, 7), (22, 8), (22, 9), (36, 3)] M M38 := fr_call hF34 hF41 (by decide) (by decide)
      exact hp _ _ hI40 hF43 trivial
    · skip
      exact hp _ _ hI31 hF34 trivial
  · skip
    refine sf_X4_fail hI (by lia) (fun r44 M45 t46 hI47 hF48 hq49 => ?_)
    have hF50 : Fr [37] [(22, 2), (22, 3), (22, 6), (22, 7), (22, 8), (22, 9), (36, 3)] M M45 := fr_call fr_rfl hF48 (by decide) (by decide)
    unfold wX4_readWork_23
    refine sf_X7_lastMonth__34 hI47  (fun r51 hq52 => ?_)
    refine sf_X4_takeNumber hI47  (fun r53 M54 t55 hI56 hF57 hq58 => ?_)
    have hF59 : Fr [37] [(22, 2), (22, 3), (22, 6), (22, 7), (22, 8), (22, 9), (36, 3)] M M54 := fr_call hF50 hF57 (by decide) (by decide)
    refine sf_X4_takeBank hI56  (fun r60 M61 t62 hI63 hF64 hq65 => ?_)
    have hF66 : Fr [37] [(22, 2), (22, 3), (22, 6), (22, 7), (22, 8), (22, 9), (36, 3)] M M61 := fr_call hF59 hF64 (by decide) (by decide)
    refine sf_X4_takeNumber hI63  (fun r67 M68 t69 hI70 hF71 hq72 => ?_)
    have hF73 : Fr [37] [(22, 2), (22, 3), (22, 6), (22, 7), (22, 8), (22, 9), (36, 3)] M M68 := fr_call hF66 hF71 (by decide) (by decide)
    refine sf_X4_takeThing hI70  (fun r74 M75 t76 hI77 hF78 hq79 => ?_)
    have hF80 : Fr [37] [(22, 2), (22, 3), (22, 6), (22, 7), (22, 8), (22, 9), (36, 3)] M M75 := fr_call hF73 hF78 (by decide) (by decide)
    refine ifs (fun hc81 => ?_) (fun hc82 => ?_)
    · skip
      refine sf_X5_addRow__36 hI77  (fun M84 t85 hI86 hF87 hq88 => ?_)
      have hF89 : Fr [37] [(22, 2), (22, 3), (22, 6), (22, 7), (22, 8), (22, 9), (36, 3)] M M84 := fr_call hF80 hF87 (by decide) (by decide)
      exact hp _ _ hI86 hF89 trivial
    · skip
      exact hp _ _ hI77 hF80 trivial
set_option maxHeartbeats 4000000 in
theorem sf_X4_readLine {post : MM → Int64 → Prop} {M : MM} {tl : Int64} (hI : Inv M) (hp : ∀ (M1 : MM) (t1 : Int64), Inv M1 → Fr [24, 26, 27, 29, 30, 31, 32, 33, 35, 37] [(22, 2), (22, 3), (22, 6), (22, 7), (22, 8), (22, 9), (23, 0), (23, 1), (23, 2), (23, 3), (36, 3)] M M1 → True → post M1 t1) : wpX4_readLine post M tl  := by
  unfold wpX4_readLine
  refine sf_X4_nameAmong__0 hI  (fun r1 hq2 => ?_)
  refine ifs (fun hc3 => ?_) (fun hc4 => ?_)
  · skip
    unfold wX4_readLine_21
    refine ifs (fun hc5 => ?_) (fun hc6 => ?_)
    · skip
      refine sf_X4_tellOnce hI  (fun M8 t9 hI10 hF11 hq12 => ?_)
      have hF13 : Fr [24, 26, 27, 29, 30, 31, 32, 33, 35, 37] [(22, 2), (22, 3), (22, 6), (22, 7), (22, 8), (22, 9), (23, 0), (23, 1), (23, 2), (23, 3), (36, 3)] M M8 := fr_call fr_rfl hF11 (by decide) (by decide)
      refine sf_X4_takeNumber hI10  (fun r14 M15 t16 hI17 hF18 hq19 => ?_)
      have hF20 : Fr [24, 26, 27, 29, 30, 31, 32, 33, 35, 37] [(22, 2), (22, 3), (22, 6), (22, 7), (22, 8), (22, 9), (23, 0), (23, 1), (23, 2), (23, 3), (36, 3)] M M15 := fr_call hF13 hF18 (by decide) (by decide)
      intro W21 hW22
      have hI23 : Inv W21 := by rw [hW22]; exact inv_set hI17 (show (-2147483648) ≤ r14 ∧ r14 ≤ 8 from ⟨by lia, by lia⟩)
      have hF24 : Fr [24, 26, 27, 29, 30, 31, 32, 33, 35, 37] [(22, 2), (22, 3), (22, 6), (22, 7), (22, 8), (22, 9), (23, 0), (23, 1), (23, 2), (23, 3), (36, 3)] M W21 := by rw [hW22]; exact fr_fld hF20 (by decide)
      have hv25 : W21 23 0 = r14 := by rw [hW22]; exact mset_at _ _ _ _
      exact hp _ _ hI23 hF24 trivial
    · skip
      refine ifs (fun hc26 => ?_) (fun hc27 => ?_)
      · skip
        refine sf_X4_tellOnce hI  (fun M29 t30 hI31 hF32 hq33 => ?_)
        have hF34 : Fr [24, 26, 27, 29, 30, 31, 32, 33, 35, 37] [(22, 2), (22, 3), (22, 6), (22, 7), (22, 8), (22, 9), (23, 0), (23, 1), (23, 2), (23, 3), (36, 3)] M M29 := fr_call fr_rfl hF32 (by decide) (by decide)
        refine sf_X4_takeNumber hI31  (fun r35 M36 t37 hI38 hF39 hq40 => ?_)
        have hF41 : Fr [24, 26, 27, 29, 30, 31, 32, 33, 35, 37] [(22, 2), (22, 3), (22, 6), (22, 7), (22, 8), (22, 9), (23, 0), (23, 1), (23, 2), (23, 3), (36, 3)] M M36 := fr_call hF34 hF39 (by decide) (by decide)
        intro W42 hW43
        have hI44 : Inv W42 := by rw [hW43]; exact inv_set hI38 (i_any _)
        have hF45 : Fr [24, 26, 27, 29, 30, 31, 32, 33, 35, 37] [(22, 2), (22, 3), (22, 6), (22, 7), (22, 8), (22, 9), (23, 0), (23, 1), (23, 2), (23, 3), (36, 3)] M W42 := by rw [hW43]; exact fr_fld hF41 (by decide)
        have hv46 : W42 23 1 = r35 := by rw [hW43]; exact mset_at _ _ _ _
        exact hp _ _ hI44 hF45 trivial
      · skip
        refine ifs (fun hc47 => ?_) (fun hc48 => ?_)
        · skip
          refine sf_X4_tellOnce hI  (fun M50 t51 hI52 hF53 hq54 => ?_)
          have hF55 : Fr [24, 26, 27, 29, 30, 31, 32, 33, 35, 37] [(22, 2), (22, 3), (22, 6), (22, 7), (22, 8), (22, 9), (23, 0), (23, 1), (23, 2), (23, 3), (36, 3)] M M50 := fr_call fr_rfl hF53 (by decide) (by decide)
          refine sf_X4_takeNumber hI52  (fun r56 M57 t58 hI59 hF60 hq61 => ?_)
          have hF62 : Fr [24, 26, 27, 29, 30, 31, 32, 33, 35, 37] [(22, 2), (22, 3), (22, 6), (22, 7), (22, 8), (22, 9), (23, 0), (23, 1), (23, 2), (23, 3), (36, 3)] M M57 := fr_call hF55 hF60 (by decide) (by decide)
          intro W63 hW64
          have hI65 : Inv W63 := by rw [hW64]; exact inv_set hI59 (i_any _)
          have hF66 : Fr [24, 26, 27, 29, 30, 31, 32, 33, 35, 37] [(22, 2), (22, 3), (22, 6), (22, 7), (22, 8), (22, 9), (23, 0), (23, 1), (23, 2), (23, 3), (36, 3)] M W63 := by rw [hW64]; exact fr_fld hF62 (by decide)
          have hv67 : W63 23 2 = r56 := by rw [hW64]; exact mset_at _ _ _ _
          exact hp _ _ hI65 hF66 trivial
        · skip
          refine ifs (fun hc68 => ?_) (fun hc69 => ?_)
          · skip
            refine sf_X4_tellOnce hI  (fun M71 t72 hI73 hF74 hq75 => ?_)
            have hF76 : Fr [24, 26, 27, 29, 30, 31, 32, 33, 35, 37] [(22, 2), (22, 3), (22, 6), (22, 7), (22, 8), (22, 9), (23, 0), (23, 1), (23, 2), (23, 3), (36, 3)] M M71 := fr_call fr_rfl hF74 (by decide) (by decide)
            refine sf_X4_readPrices hI73  (fun M78 t79 hI80 hF81 hq82 => ?_)
            have hF83 : Fr [24, 26, 27, 29, 30, 31, 32, 33, 35, 37] [(22, 2), (22, 3), (22, 6), (22, 7), (22, 8), (22, 9), (23, 0), (23, 1), (23, 2), (23, 3), (36, 3)] M M78 := fr_call hF76 hF81 (by decide) (by decide)
            exact hp _ _ hI80 hF83 trivial
          · skip
            refine ifs (fun hc84 => ?_) (fun hc85 => ?_)
            · skip
              refine sf_X4_readOfKinds__25 hI  (fun M87 t88 hI89 hF90 hq91 => ?_)
              have hF92 : Fr [24, 26, 27, 29, 30, 31, 32, 33, 35, 37] [(22, 2), (22, 3), (22, 6), (22, 7), (22, 8), (22, 9), (23, 0), (23, 1), (23, 2), (23, 3), (36, 3)] M M87 := fr_call fr_rfl hF90 (by decide) (by decide)
              exact hp _ _ hI89 hF92 trivial
            · skip
              refine ifs (fun hc93 => ?_) (fun hc94 => ?_)
              · skip
                refine sf_X4_readOfKinds__28 hI  (fun M96 t97 hI98 hF99 hq100 => ?_)
                have hF101 : Fr [24, 26, 27, 29, 30, 31, 32, 33, 35, 37] [(22, 2), (22, 3), (22, 6), (22, 7), (22, 8), (22, 9), (23, 0), (23, 1), (23, 2), (23, 3), (36, 3)] M M96 := fr_call fr_rfl hF99 (by decide) (by decide)
                exact hp _ _ hI98 hF101 trivial
              · skip
                refine ifs (fun hc102 => ?_) (fun hc103 => ?_)
                · skip
                  refine sf_X4_readLack hI  (fun M105 t106 hI107 hF108 hq109 => ?_)
                  have hF110 : Fr [24, 26, 27, 29, 30, 31, 32, 33, 35, 37] [(22, 2), (22, 3), (22, 6), (22, 7), (22, 8), (22, 9), (23, 0), (23, 1), (23, 2), (23, 3), (36, 3)] M M105 := fr_call fr_rfl hF108 (by decide) (by decide)
                  exact hp _ _ hI107 hF110 trivial
                · skip
                  refine ifs (fun hc111 => ?_) (fun hc112 => ?_)
                  · skip
                    refine sf_X4_readTwins hI  (fun M114 t115 hI116 hF117 hq118 => ?_)
                    have hF119 : Fr [24, 26, 27, 29, 30, 31, 32, 33, 35, 37] [(22, 2), (22, 3), (22, 6), (22, 7), (22, 8), (22, 9), (23, 0), (23, 1), (23, 2), (23, 3), (36, 3)] M M114 := fr_call fr_rfl hF117 (by decide) (by decide)
                    exact hp _ _ hI116 hF119 trivial
                  · skip
                    refine ifs (fun hc120 => ?_) (fun hc121 => ?_)
                    · skip
                      refine sf_X4_readPaint hI  (fun M123 t124 hI125 hF126 hq127 => ?_)
                      have hF128 : Fr [24, 26, 27, 29, 30, 31, 32, 33, 35, 37] [(22, 2), (22, 3), (22, 6), (22, 7), (22, 8), (22, 9), (23, 0), (23, 1), (23, 2), (23, 3), (36, 3)] M M123 := fr_call fr_rfl hF126 (by decide) (by decide)
                      exact hp _ _ hI125 hF128 trivial
                    · skip
                      refine ifs (fun hc129 => ?_) (fun hc130 => ?_)
                      · skip
                        refine sf_X4_readRight hI  (fun M132 t133 hI134 hF135 hq136 => ?_)
                        have hF137 : Fr [24, 26, 27, 29, 30, 31, 32, 33, 35, 37] [(22, 2), (22, 3), (22, 6), (22, 7), (22, 8), (22, 9), (23, 0), (23, 1), (23, 2), (23, 3), (36, 3)] M M132 := fr_call fr_rfl hF135 (by decide) (by decide)
                        exact hp _ _ hI134 hF137 trivial
                      · skip
                        refine ifs (fun hc138 => ?_) (fun hc139 => ?_)
                        · skip
                          refine sf_X4_readThing hI  (fun M141 t142 hI143 hF144 hq145 => ?_)
                          have hF146 : Fr [24, 26, 27, 29, 30, 31, 32, 33, 35, 37] [(22, 2), (22, 3), (22, 6), (22, 7), (22, 8), (22, 9), (23, 0), (23, 1), (23, 2), (23, 3), (36, 3)] M M141 := fr_call fr_rfl hF144 (by decide) (by decide)
                          exact hp _ _ hI143 hF146 trivial
                        · skip
                          refine ifs (fun hc147 => ?_) (fun hc148 => ?_)
                          · skip
                            refine sf_X4_readWork hI  (fun M150 t151 hI152 hF153 hq154 => ?_)
                            have hF155 : Fr [24, 26, 27, 29, 30, 31, 32, 33, 35, 37] [(22, 2), (22, 3), (22, 6), (22, 7), (22, 8), (22, 9), (23, 0), (23, 1), (23, 2), (23, 3), (36, 3)] M M150 := fr_call fr_rfl hF153 (by decide) (by decide)
                            exact hp _ _ hI152 hF155 trivial
                          · skip
                            exact hp _ _ hI fr_rfl trivial
  · skip
    refine sf_X4_fail hI (by lia) (fun r156 M157 t158 hI159 hF160 hq161 => ?_)
    have hF162 : Fr [24, 26, 27, 29, 30, 31, 32, 33, 35, 37] [(22, 2), (22, 3), (22, 6), (22, 7), (22, 8), (22, 9), (23, 0), (23, 1), (23, 2), (23, 3), (36, 3)] M M157 := fr_call fr_rfl hF160 (by decide) (by decide)
    unfold wX4_readLine_21
    refine ifs (fun hc163 => ?_) (fun hc164 => ?_)
    · skip
      refine sf_X4_tellOnce hI159  (fun M166 t167 hI168 hF169 hq170 => ?_)
      have hF171 : Fr [24, 26, 27, 29, 30, 31, 32, 33, 35, 37] [(22, 2), (22, 3), (22, 6), (22, 7), (22, 8), (22, 9), (23, 0), (23, 1), (23, 2), (23, 3), (36, 3)] M M166 := fr_call hF162 hF169 (by decide) (by decide)
      refine sf_X4_takeNumber hI168  (fun r172 M173 t174 hI175 hF176 hq177 => ?_)
      have hF178 : Fr [24, 26, 27, 29, 30, 31, 32, 33, 35, 37] [(22, 2), (22, 3), (22, 6), (22, 7), (22, 8), (22, 9), (23, 0), (23, 1), (23, 2), (23, 3), (36, 3)] M M173 := fr_call hF171 hF176 (by decide) (by decide)
      intro W179 hW180
      have hI181 : Inv W179 := by rw [hW180]; exact inv_set hI175 (show (-2147483648) ≤ r172 ∧ r172 ≤ 8 from ⟨by lia, by lia⟩)
      have hF182 : Fr [24, 26, 27, 29, 30, 31, 32, 33, 35, 37] [(22, 2), (22, 3), (22, 6), (22, 7), (22, 8), (22, 9), (23, 0), (23, 1), (23, 2), (23, 3), (36, 3)] M W179 := by rw [hW180]; exact fr_fld hF178 (by decide)
      have hv183 : W179 23 0 = r172 := by rw [hW180]; exact mset_at _ _ _ _
      exact hp _ _ hI181 hF182 trivial
    · skip
      refine ifs (fun hc184 => ?_) (fun hc185 => ?_)
      · skip
        refine sf_X4_tellOnce hI159  (fun M187 t188 hI189 hF190 hq191 => ?_)
        have hF192 : Fr [24, 26, 27, 29, 30, 31, 32, 33, 35, 37] [(22, 2), (22, 3), (22, 6), (22, 7), (22, 8), (22, 9), (23, 0), (23, 1), (23, 2), (23, 3), (36, 3)] M M187 := fr_call hF162 hF190 (by decide) (by decide)
        refine sf_X4_takeNumber hI189  (fun r193 M194 t195 hI196 hF197 hq198 => ?_)
        have hF199 : Fr [24, 26, 27, 29, 30, 31, 32, 33, 35, 37] [(22, 2), (22, 3), (22, 6), (22, 7), (22, 8), (22, 9), (23, 0), (23, 1), (23, 2), (23, 3), (36, 3)] M M194 := fr_call hF192 hF197 (by decide) (by decide)
        intro W200 hW201
        have hI202 : Inv W200 := by rw [hW201]; exact inv_set hI196 (i_any _)
        have hF203 : Fr [24, 26, 27, 29, 30, 31, 32, 33, 35, 37] [(22, 2), (22, 3), (22, 6), (22, 7), (22, 8), (22, 9), (23, 0), (23, 1), (23, 2), (23, 3), (36, 3)] M W200 := by rw [hW201]; exact fr_fld hF199 (by decide)
        have hv204 : W200 23 1 = r193 := by rw [hW201]; exact mset_at _ _ _ _
        exact hp _ _ hI202 hF203 trivial
      · skip
        refine ifs (fun hc205 => ?_) (fun hc206 => ?_)
        · skip
          refine sf_X4_tellOnce hI159  (fun M208 t209 hI210 hF211 hq212 => ?_)
          have hF213 : Fr [24, 26, 27, 29, 30, 31, 32, 33, 35, 37] [(22, 2), (22, 3), (22, 6), (22, 7), (22, 8), (22, 9), (23, 0), (23, 1), (23, 2), (23, 3), (36, 3)] M M208 := fr_call hF162 hF211 (by decide) (by decide)
          refine sf_X4_takeNumber hI210  (fun r214 M215 t216 hI217 hF218 hq219 => ?_)
          have hF220 : Fr [24, 26, 27, 29, 30, 31, 32, 33, 35, 37] [(22, 2), (22, 3), (22, 6), (22, 7), (22, 8), (22, 9), (23, 0), (23, 1), (23, 2), (23, 3), (36, 3)] M M215 := fr_call hF213 hF218 (by decide) (by decide)
          intro W221 hW222
          have hI223 : Inv W221 := by rw [hW222]; exact inv_set hI217 (i_any _)
          have hF224 : Fr [24, 26, 27, 29, 30, 31, 32, 33, 35, 37] [(22, 2), (22, 3), (22, 6), (22, 7), (22, 8), (22, 9), (23, 0), (23, 1), (23, 2), (23, 3), (36, 3)] M W221 := by rw [hW222]; exact fr_fld hF220 (by decide)
          have hv225 : W221 23 2 = r214 := by rw [hW222]; exact mset_at _ _ _ _
          exact hp _ _ hI223 hF224 trivial
        · skip
          refine ifs (fun hc226 => ?_) (fun hc227 => ?_)
          · skip
            refine sf_X4_tellOnce hI159  (fun M229 t230 hI231 hF232 hq233 => ?_)
            have hF234 : Fr [24, 26, 27, 29, 30, 31, 32, 33, 35, 37] [(22, 2), (22, 3), (22, 6), (22, 7), (22, 8), (22, 9), (23, 0), (23, 1), (23, 2), (23, 3), (36, 3)] M M229 := fr_call hF162 hF232 (by decide) (by decide)
            refine sf_X4_readPrices hI231  (fun M236 t237 hI238 hF239 hq240 => ?_)
            have hF241 : Fr [24, 26, 27, 29, 30, 31, 32, 33, 35, 37] [(22, 2), (22, 3), (22, 6), (22, 7), (22, 8), (22, 9), (23, 0), (23, 1), (23, 2), (23, 3), (36, 3)] M M236 := fr_call hF234 hF239 (by decide) (by decide)
            exact hp _ _ hI238 hF241 trivial
          · skip
            refine ifs (fun hc242 => ?_) (fun hc243 => ?_)
            · skip
              refine sf_X4_readOfKinds__25 hI159  (fun M245 t246 hI247 hF248 hq249 => ?_)
              have hF250 : Fr [24, 26, 27, 29, 30, 31, 32, 33, 35, 37] [(22, 2), (22, 3), (22, 6), (22, 7), (22, 8), (22, 9), (23, 0), (23, 1), (23, 2), (23, 3), (36, 3)] M M245 := fr_call hF162 hF248 (by decide) (by decide)
              exact hp _ _ hI247 hF250 trivial
            · skip
              refine ifs (fun hc251 => ?_) (fun hc252 => ?_)
              · skip
                refine sf_X4_readOfKinds__28 hI159  (fun M254 t255 hI256 hF257 hq258 => ?_)
                have hF259 : Fr [24, 26, 27, 29, 30, 31, 32, 33, 35, 37] [(22, 2), (22, 3), (22, 6), (22, 7), (22, 8), (22, 9), (23, 0), (23, 1), (23, 2), (23, 3), (36, 3)] M M254 := fr_call hF162 hF257 (by decide) (by decide)
                exact hp _ _ hI256 hF259 trivial
              · skip
                refine ifs (fun hc260 => ?_) (fun hc261 => ?_)
                · skip
                  refine sf_X4_readLack hI159  (fun M263 t264 hI265 hF266 hq267 => ?_)
                  have hF268 : Fr [24, 26, 27, 29, 30, 31, 32, 33, 35, 37] [(22, 2), (22, 3), (22, 6), (22, 7), (22, 8), (22, 9), (23, 0), (23, 1), (23, 2), (23, 3), (36, 3)] M M263 := fr_call hF162 hF266 (by decide) (by decide)
                  exact hp _ _ hI265 hF268 trivial
                · skip
                  refine ifs (fun hc269 => ?_) (fun hc270 => ?_)
                  · skip
                    refine sf_X4_readTwins hI159  (fun M272 t273 hI274 hF275 hq276 => ?_)
                    have hF277 : Fr [24, 26, 27, 29, 30, 31, 32, 33, 35, 37] [(22, 2), (22, 3), (22, 6), (22, 7), (22, 8), (22, 9), (23, 0), (23, 1), (23, 2), (23, 3), (36, 3)] M M272 := fr_call hF162 hF275 (by decide) (by decide)
                    exact hp _ _ hI274 hF277 trivial
                  · skip
                    refine ifs (fun hc278 => ?_) (fun hc279 => ?_)
                    · skip
                      refine sf_X4_readPaint hI159  (fun M281 t282 hI283 hF284 hq285 => ?_)
                      have hF286 : Fr [24, 26, 27, 29, 30, 31, 32, 33, 35, 37] [(22, 2), (22, 3), (22, 6), (22, 7), (22, 8), (22, 9), (23, 0), (23, 1), (23, 2), (23, 3), (36, 3)] M M281 := fr_call hF162 hF284 (by decide) (by decide)
                      exact hp _ _ hI283 hF286 trivial
                    · skip
                      refine ifs (fun hc287 => ?_) (fun hc288 => ?_)
                      · skip
                        refine sf_X4_readRight hI159  (fun M290 t291 hI292 hF293 hq294 => ?_)
                        have hF295 : Fr [24, 26, 27, 29, 30, 31, 32, 33, 35, 37] [(22, 2), (22, 3), (22, 6), (22, 7), (22, 8), (22, 9), (23, 0), (23, 1), (23, 2), (23, 3), (36, 3)] M M290 := fr_call hF162 hF293 (by decide) (by decide)
                        exact hp _ _ hI292 hF295 trivial
                      · skip
                        refine ifs (fun hc296 => ?_) (fun hc297 => ?_)
                        · skip
                          refine sf_X4_readThing hI159  (fun M299 t300 hI301 hF302 hq303 => ?_)
                          have hF304 : Fr [24, 26, 27, 29, 30, 31, 32, 33, 35, 37] [(22, 2), (22, 3), (22, 6), (22, 7), (22, 8), (22, 9), (23, 0), (23, 1), (23, 2), (23, 3), (36, 3)] M M299 := fr_call hF162 hF302 (by decide) (by decide)
                          exact hp _ _ hI301 hF304 trivial
                        · skip
                          refine ifs (fun hc305 => ?_) (fun hc306 => ?_)
                          · skip
                            refine sf_X4_readWork hI159  (fun M308 t309 hI310 hF311 hq312 => ?_)
                            have hF313 : Fr [24, 26, 27, 29, 30, 31, 32, 33, 35, 37] [(22, 2), (22, 3), (22, 6), (22, 7), (22, 8), (22, 9), (23, 0), (23, 1), (23, 2), (23, 3), (36, 3)] M M308 := fr_call hF162 hF311 (by decide) (by decide)
                            exact hp _ _ hI310 hF313 trivial
                          · skip
                            exact hp _ _ hI159 hF162 trivial
set_option maxHeartbeats 4000000 in
theorem sf_X4_takeStop {post : MM → Int64 → Prop} {M : MM} {tl : Int64} (hI : Inv M) (hp : ∀ (M1 : MM) (t1 : Int64), Inv M1 → Fr [] [(22, 2), (22, 3), (22, 6), (22, 7), (22, 8), (22, 9)] M M1 → (M 22 2 = 0 ∨ M1 22 2 ≠ 0) → post M1 t1) : wpX4_takeStop post M tl  := by
  unfold wpX4_takeStop
  refine sf_X4_takeToken hI  (fun M2 t3 hI4 hF5 hq6 => ?_)
  have hF7 : Fr [] [(22, 2), (22, 3), (22, 6), (22, 7), (22, 8), (22, 9)] M M2 := fr_call fr_rfl hF5 (by decide) (by decide)
  refine ifs (fun hc8 => ?_) (fun hc9 => ?_)
  · skip
    refine ifs (fun hc10 => ?_) (fun hc11 => ?_)
    · skip
      exact hp _ _ hI4 hF7 (by lia)
    · skip
      refine sf_X4_fail hI4 (by lia) (fun r12 M13 t14 hI15 hF16 hq17 => ?_)
      have hF18 : Fr [] [(22, 2), (22, 3), (22, 6), (22, 7), (22, 8), (22, 9)] M M13 := fr_call hF7 hF16 (by decide) (by decide)
      exact hp _ _ hI15 hF18 (by lia)
  · skip
    exact hp _ _ hI4 hF7 (by lia)
set_option maxHeartbeats 4000000 in
theorem sl_X4_readAll_10 {post : MM → Int64 → Prop} {Mb : MM} (hp : ∀ (M1 : MM) (t1 : Int64), Inv M1 → Fr [24, 26, 27, 29, 30, 31, 32, 33, 35, 37] [(22, 2), (22, 3), (22, 4), (22, 6), (22, 7), (22, 8), (22, 9), (23, 0), (23, 1), (23, 2), (23, 3), (36, 3), (38, 3), (40, 3)] Mb M1 → True → post M1 t1) : ∀ v1 : Int32, 0 ≤ v1 → v1 ≤ 400 → ∃ n, ∀ (M : MM) (tl : Int64), Inv M → Fr [24, 26, 27, 29, 30, 31, 32, 33, 35, 37] [(22, 2), (22, 3), (22, 4), (22, 6), (22, 7), (22, 8), (22, 9), (23, 0), (23, 1), (23, 2), (23, 3), (36, 3), (38, 3), (40, 3)] Mb M → (True) → wX4_readAll_10 post n M tl v1 := by
  refine up_ex (P := fun d v1 => ∀ (M : MM) (tl : Int64), Inv M → Fr [24, 26, 27, 29, 30, 31, 32, 33, 35, 37] [(22, 2), (22, 3), (22, 4), (22, 6), (22, 7), (22, 8), (22, 9), (23, 0), (23, 1), (23, 2), (23, 3), (36, 3), (38, 3), (40, 3)] Mb M → (True) → wX4_readAll_10 post d M tl v1) 0 400 ?_
  intro d v1 hlo hhi rec M tl  hI hF hli
  unfold wX4_readAll_10
  refine ifs (fun hc1 => ?_) (fun hc2 => ?_)
  · skip
    unfold wX4_readAll_59
    refine ifs (fun hc3 => ?_) (fun hc4 => ?_)
    · skip
      refine sf_X4_allLotsAre hI  (fun r5 hq6 => ?_)
      refine ifs (fun hc7 => ?_) (fun hc8 => ?_)
      · skip
        have hr9 := iv_1_1 hI
        refine sf_X4_fail hI (by lia) (fun r10 M11 t12 hI13 hF14 hq15 => ?_)
        have hF16 : Fr [24, 26, 27, 29, 30, 31, 32, 33, 35, 37] [(22, 2), (22, 3), (22, 4), (22, 6), (22, 7), (22, 8), (22, 9), (23, 0), (23, 1), (23, 2), (23, 3), (36, 3), (38, 3), (40, 3)] Mb M11 := fr_call hF hF14 (by decide) (by decide)
        exact hp _ _ hI13 hF16 trivial
      · skip
        exact hp _ _ hI hF trivial
    · skip
      exact hp _ _ hI hF trivial
  · skip
    refine ifs (fun hc17 => ?_) (fun hc18 => ?_)
    · skip
      refine ifs (fun hc19 => ?_) (fun hc20 => ?_)
      · skip
        unfold wX4_readAll_59
        refine ifs (fun hc21 => ?_) (fun hc22 => ?_)
        · skip
          refine sf_X4_allLotsAre hI  (fun r23 hq24 => ?_)
          refine ifs (fun hc25 => ?_) (fun hc26 => ?_)
          · skip
            have hr27 := iv_1_1 hI
            refine sf_X4_fail hI (by lia) (fun r28 M29 t30 hI31 hF32 hq33 => ?_)
            have hF34 : Fr [24, 26, 27, 29, 30, 31, 32, 33, 35, 37] [(22, 2), (22, 3), (22, 4), (22, 6), (22, 7), (22, 8), (22, 9), (23, 0), (23, 1), (23, 2), (23, 3), (36, 3), (38, 3), (40, 3)] Mb M29 := fr_call hF hF32 (by decide) (by decide)
            exact hp _ _ hI31 hF34 trivial
          · skip
            exact hp _ _ hI hF trivial
        · skip
          exact hp _ _ hI hF trivial
      · skip
        refine sf_X4_readLine hI  (fun M36 t37 hI38 hF39 hq40 => ?_)
        have hF41 : Fr [24, 26, 27, 29, 30, 31, 32, 33, 35, 37] [(22, 2), (22, 3), (22, 4), (22, 6), (22, 7), (22, 8), (22, 9), (23, 0), (23, 1), (23, 2), (23, 3), (36, 3), (38, 3), (40, 3)] Mb M36 := fr_call hF hF39 (by decide) (by decide)
        refine sf_X4_takeStop hI38  (fun M43 t44 hI45 hF46 hq47 => ?_)
        have hF48 : Fr [24, 26, 27, 29, 30, 31, 32, 33, 35, 37] [(22, 2), (22, 3), (22, 4), (22, 6), (22, 7), (22, 8), (22, 9), (23, 0), (23, 1), (23, 2), (23, 3), (36, 3), (38, 3), (40, 3)] Mb M43 := fr_call hF41 hF46 (by decide) (by decide)
        refine sf_X4_takeToken hI45  (fun M50 t51 hI52 hF53 hq54 => ?_)
        have hF55 : Fr [24, 26, 27, 29, 30, 31, 32, 33, 35, 37] [(22, 2), (22, 3), (22, 4), (22, 6), (22, 7), (22, 8), (22, 9), (23, 0), (23, 1), (23, 2), (23, 3), (36, 3), (38, 3), (40, 3)] Mb M50 := fr_call hF48 hF53 (by decide) (by decide)
        have hx58 : M50 22 4 = M43 22 4 := hF53 22 4 (by decide) (by decide)
        have hx59 : M43 22 4 = M36 22 4 := hF46 22 4 (by decide) (by decide)
        have hx60 : M36 22 4 = M 22 4 := hF39 22 4 (by decide) (by decide)
        intro W56 hW57
        have hI61 : Inv W56 := by rw [hW57]; exact inv_set hI52 (i_any _)
        have hF62 : Fr [24, 26, 27, 29, 30, 31, 32, 33, 35, 37] [(22, 2), (22, 3), (22, 4), (22, 6), (22, 7), (22, 8), (22, 9), (23, 0), (23, 1), (23, 2), (23, 3), (36, 3), (38, 3), (40, 3)] Mb W56 := by rw [hW57]; exact fr_fld hF55 (by decide)
        have hv63 : W56 22 4 = ((M50 22 4) + (1 : Int32)) := by rw [hW57]; exact mset_at _ _ _ _
        exact rec (by lia) _ _  hI61 hF62 trivial
    · skip
      unfold wX4_readAll_59
      refine ifs (fun hc64 => ?_) (fun hc65 => ?_)
      · skip
        refine sf_X4_allLotsAre hI  (fun r66 hq67 => ?_)
        refine ifs (fun hc68 => ?_) (fun hc69 => ?_)
        · skip
          have hr70 := iv_1_1 hI
          refine sf_X4_fail hI (by lia) (fun r71 M72 t73 hI74 hF75 hq76 => ?_)
          have hF77 : Fr [24, 26, 27, 29, 30, 31, 32, 33, 35, 37] [(22, 2), (22, 3), (22, 4), (22, 6), (22, 7), (22, 8), (22, 9), (23, 0), (23, 1), (23, 2), (23, 3), (36, 3), (38, 3), (40, 3)] Mb M72 := fr_call hF hF75 (by decide) (by decide)
          exact hp _ _ hI74 hF77 trivial
        · skip
          exact hp _ _ hI hF trivial
      · skip
        exact hp _ _ hI hF trivial
set_option maxHeartbeats 4000000 in
theorem sf_X4_readAll {post : MM → Int64 → Prop} {M : MM} {tl : Int64} (hI : Inv M) (hp : ∀ (M1 : MM) (t1 : Int64), Inv M1 → Fr [24, 26, 27, 29, 30, 31, 32, 33, 35, 37] [(22, 2), (22, 3), (22, 4), (22, 6), (22, 7), (22, 8), (22, 9), (23, 0), (23, 1), (23, 2), (23, 3), (36, 3), (38, 3), (40, 3)] M M1 → True → post M1 t1) : wpX4_readAll post M tl  := by
  unfold wpX4_readAll
  refine sf_X4_restart hI  (fun M2 t3 hI4 hF5 hq6 => ?_)
  have hF7 : Fr [24, 26, 27, 29, 30, 31, 32, 33, 35, 37] [(22, 2), (22, 3), (22, 4), (22, 6), (22, 7), (22, 8), (22, 9), (23, 0), (23, 1), (23, 2), (23, 3), (36, 3), (38, 3), (40, 3)] M M2 := fr_call fr_rfl hF5 (by decide) (by decide)
  refine sf_X4_takeToken hI4  (fun M9 t10 hI11 hF12 hq13 => ?_)
  have hF14 : Fr [24, 26, 27, 29, 30, 31, 32, 33, 35, 37] [(22, 2), (22, 3), (22, 4), (22, 6), (22, 7), (22, 8), (22, 9), (23, 0), (23, 1), (23, 2), (23, 3), (36, 3), (38, 3), (40, 3)] M M9 := fr_call hF7 hF12 (by decide) (by decide)
  obtain ⟨n15, hn16⟩ := sl_X4_readAll_10 (Mb := M) hp  (0 : Int32) (by lia) (by lia)
  exact ⟨n15, hn16 _ _  hI11 hF14 trivial⟩
set_option maxHeartbeats 4000000 in
theorem sl_X1_copyFrom_91__3_23 {post : MM → Int64 → Prop} {Mb : MM} (hp : ∀ (M1 : MM) (t1 : Int64), Inv M1 → Fr [4, 6, 7, 9, 10, 11, 12, 13] [(3, 0), (3, 1), (3, 2), (3, 3)] Mb M1 → True → post M1 t1) : ∀ v2 : Int32, 0 ≤ v2 → v2 ≤ 2 → ∃ n, ∀ (M : MM) (tl : Int64), Inv M → Fr [4, 6, 7, 9, 10, 11, 12, 13] [(3, 0), (3, 1), (3, 2), (3, 3)] Mb M → (True) → wX1_copyFrom_91 post n M tl 3 23 v2 := by
  refine up_ex (P := fun d v2 => ∀ (M : MM) (tl : Int64), Inv M → Fr [4, 6, 7, 9, 10, 11, 12, 13] [(3, 0), (3, 1), (3, 2), (3, 3)] Mb M → (True) → wX1_copyFrom_91 post d M tl 3 23 v2) 0 2 ?_
  intro d v2 hlo hhi rec M tl  hI hF hli
  unfold wX1_copyFrom_91
  refine ifs (fun hc1 => ?_) (fun hc2 => ?_)
  · skip
    exact hp _ _ hI hF trivial
  · skip
    refine And.intro (by decide) ?_
    refine And.intro (by decide) ?_
    refine And.intro (vpI (c := 2) (by decide) (by lia) (by lia)) ?_
    refine And.intro (by decide) ?_
    refine And.intro (by decide) ?_
    refine And.intro (vpI (c := 2) (by decide) (by lia) (by lia)) ?_
    rcases cs2 (v := v2) (by lia) (by lia) with hs | hs <;> subst hs
    · skip
      refine And.intro (by decide) ?_
      refine And.intro (by decide) ?_
      refine And.intro (by decide) ?_
      refine And.intro (by decide) ?_
      intro W3 hW4
      have hI5 : Inv W3 := by rw [hW4]; exact inv_row hI (fun j => i_any _)
      have hF6 : Fr [4, 6, 7, 9, 10, 11, 12, 13] [(3, 0), (3, 1), (3, 2), (3, 3)] Mb W3 := by rw [hW4]; exact fr_row hF (by decide)
      refine And.intro (by decide) ?_
      refine And.intro (by decide) ?_
      refine And.intro (vpI (c := 2) (by decide) (by lia) (by lia)) ?_
      refine And.intro (by decide) ?_
      refine And.intro (by decide) ?_
      refine And.intro (vpI (c := 2) (by decide) (by lia) (by lia)) ?_
      refine And.intro (by decide) ?_
      refine And.intro (by decide) ?_
      refine And.intro (by decide) ?_
      refine And.intro (by decide) ?_
      intro W7 hW8
      have hI9 : Inv W7 := by rw [hW8]; exact inv_row hI5 (fun j => i_any _)
      have hF10 : Fr [4, 6, 7, 9, 10, 11, 12, 13] [(3, 0), (3, 1), (3, 2), (3, 3)] Mb W7 := by rw [hW8]; exact fr_row hF6 (by decide)
      exact rec (by lia) _ _  hI9 hF10 trivial
    · skip
      refine And.intro (by decide) ?_
      refine And.intro (by decide) ?_
      refine And.intro (by decide) ?_
      refine And.intro (by decide) ?_
      intro W11 hW12
      have hI13 : Inv W11 := by rw [hW12]; exact inv_row hI (fun j => i_any _)
      have hF14 : Fr [4, 6, 7, 9, 10, 11, 12, 13] [(3, 0), (3, 1), (3, 2), (3, 3)] Mb W11 := by rw [hW12]; exact fr_row hF (by decide)
      refine And.intro (by decide) ?_
      refine And.intro (by decide) ?_
      refine And.intro (vpI (c := 2) (by decide) (by lia) (by lia)) ?_
      refine And.intro (by decide) ?_
      refine And.intro (by decide) ?_
      refine And.intro (vpI (c := 2) (by decide) (by lia) (by lia)) ?_
      refine And.intro (by decide) ?_
      refine And.intro (by decide) ?_
      refine And.intro (by decide) ?_
      refine And.intro (by decide) ?_
      intro W15 hW16
      have hI17 : Inv W15 := by rw [hW16]; exact inv_row hI13 (fun j => i_any _)
      have hF18 : Fr [4, 6, 7, 9, 10, 11, 12, 13] [(3, 0), (3, 1), (3, 2), (3, 3)] Mb W15 := by rw [hW16]; exact fr_row hF14 (by decide)
      exact rec (by lia) _ _  hI17 hF18 trivial
set_option maxHeartbeats 4000000 in
theorem sf_X1_copyFrom__3_23 {post : MM → Int64 → Prop} {M : MM} {tl : Int64} (hI : Inv M) (hp : ∀ (M1 : MM) (t1 : Int64), Inv M1 → Fr [4, 6, 7, 9, 10, 11, 12, 13] [(3, 0), (3, 1), (3, 2), (3, 3)] M M1 → True → post M1 t1) : wpX1_copyFrom post M tl 3 23 := by
  unfold wpX1_copyFrom
  refine And.intro (by decide) ?_
  refine And.intro (by decide) ?_
  have hr3 := iv_23_0 hI
  intro W1 hW2
  have hI4 : Inv W1 := by rw [hW2]; exact inv_set hI (show (-2147483648) ≤ (M 23 0) ∧ (M 23 0) ≤ 8 from ⟨by lia, by lia⟩)
  have hF5 : Fr [4, 6, 7, 9, 10, 11, 12, 13] [(3, 0), (3, 1), (3, 2), (3, 3)] M W1 := by rw [hW2]; exact fr_fld fr_rfl (by decide)
  have hv6 : W1 3 0 = (M 23 0) := by rw [hW2]; exact mset_at _ _ _ _
  refine And.intro (by decide) ?_
  refine And.intro (by decide) ?_
  have hx9 : W1 23 1 = M 23 1 := by rw [hW2, mset_ne (by decide)]
  intro W7 hW8
  have hI10 : Inv W7 := by rw [hW8]; exact inv_set hI4 (i_any _)
  have hF11 : Fr [4, 6, 7, 9, 10, 11, 12, 13] [(3, 0), (3, 1), (3, 2), (3, 3)] M W7 := by rw [hW8]; exact fr_fld hF5 (by decide)
  have hv12 : W7 3 1 = (W1 23 1) := by rw [hW8]; exact mset_at _ _ _ _
  refine And.intro (by decide) ?_
  refine And.intro (by decide) ?_
  have hx15 : W7 23 2 = W1 23 2 := by rw [hW8, mset_ne (by decide)]
  have hx16 : W1 23 2 = M 23 2 := by rw [hW2, mset_ne (by decide)]
  intro W13 hW14
  have hI17 : Inv W13 := by rw [hW14]; exact inv_set hI10 (i_any _)
  have hF18 : Fr [4, 6, 7, 9, 10, 11, 12, 13] [(3, 0), (3, 1), (3, 2), (3, 3)] M W13 := by rw [hW14]; exact fr_fld hF11 (by decide)
  have hv19 : W13 3 2 = (W7 23 2) := by rw [hW14]; exact mset_at _ _ _ _
  refine And.intro (by decide) ?_
  refine And.intro (by decide) ?_
  have hx22 : W13 23 3 = W7 23 3 := by rw [hW14, mset_ne (by decide)]
  have hx23 : W7 23 3 = W1 23 3 := by rw [hW8, mset_ne (by decide)]
  have hx24 : W1 23 3 = M 23 3 := by rw [hW2, mset_ne (by decide)]
  intro W20 hW21
  have hI25 : Inv W20 := by rw [hW21]; exact inv_set hI17 (i_any _)
  have hF26 : Fr [4, 6, 7, 9, 10, 11, 12, 13] [(3, 0), (3, 1), (3, 2), (3, 3)] M W20 := by rw [hW21]; exact fr_fld hF18 (by decide)
  have hv27 : W20 3 3 = (W13 23 3) := by rw [hW21]; exact mset_at _ _ _ _
  refine And.intro (by decide) ?_
  refine And.intro (by decide) ?_
  refine And.intro (by decide) ?_
  refine And.intro (by decide) ?_
  refine And.intro (by decide) ?_
  refine And.intro (by decide) ?_
  intro W28 hW29
  have hI30 : Inv W28 := by rw [hW29]; exact inv_row hI25 (fun j => i_any _)
  have hF31 : Fr [4, 6, 7, 9, 10, 11, 12, 13] [(3, 0), (3, 1), (3, 2), (3, 3)] M W28 := by rw [hW29]; exact fr_row hF26 (by decide)
  refine And.intro (by decide) ?_
  refine And.intro (by decide) ?_
  refine And.intro (by decide) ?_
  refine And.intro (by decide) ?_
  refine And.intro (by decide) ?_
  refine And.intro (by decide) ?_
  intro W32 hW33
  have hI34 : Inv W32 := by rw [hW33]; exact inv_row hI30 (fun j => i_any _)
  have hF35 : Fr [4, 6, 7, 9, 10, 11, 12, 13] [(3, 0), (3, 1), (3, 2), (3, 3)] M W32 := by rw [hW33]; exact fr_row hF31 (by decide)
  refine And.intro (by decide) ?_
  refine And.intro (by decide) ?_
  refine And.intro (by decide) ?_
  refine And.intro (by decide) ?_
  refine And.intro (by decide) ?_
  refine And.intro (by decide) ?_
  intro W36 hW37
  have hI38 : Inv W36 := by rw [hW37]; exact inv_row hI34 (fun j => i_any _)
  have hF39 : Fr [4, 6, 7, 9, 10, 11, 12, 13] [(3, 0), (3, 1), (3, 2), (3, 3)] M W36 := by rw [hW37]; exact fr_row hF35 (by decide)
  refine And.intro (by decide) ?_
  refine And.intro (by decide) ?_
  refine And.intro (by decide) ?_
  refine And.intro (by decide) ?_
  refine And.intro (by decide) ?_
  refine And.intro (by decide) ?_
  intro W40 hW41
  have hI42 : Inv W40 := by rw [hW41]; exact inv_row hI38 (fun j => i_any _)
  have hF43 : Fr [4, 6, 7, 9, 10, 11, 12, 13] [(3, 0), (3, 1), (3, 2), (3, 3)] M W40 := by rw [hW41]; exact fr_row hF39 (by decide)
  obtain ⟨n44, hn45⟩ := sl_X1_copyFrom_91__3_23 (Mb := M) hp  (0 : Int32) (by lia) (by lia)
  exact ⟨n44, hn45 _ _  hI42 hF43 trivial⟩
set_option maxHeartbeats 4000000 in
theorem sf_X5_copyFrom__16_36 {post : MM → Int64 → Prop} {M : MM} {tl : Int64} (hI : Inv M) (hp : ∀ (M1 : MM) (t1 : Int64), Inv M1 → Fr [17] [(16, 3)] M M1 → True → post M1 t1) : wpX5_copyFrom post M tl 16 36 := by
  unfold wpX5_copyFrom
  simp only [Nat.reduceAdd, ln_al_17, ln_al_37]
  refine And.intro (by decide) ?_
  refine And.intro (by decide) ?_
  have hr3 := iv_36_3 hI
  intro W1 hW2
  have hI4 : Inv W1 := by rw [hW2]; exact inv_set hI (show 0 ≤ (M 36 3) ∧ (M 36 3) ≤ 12 from ⟨by lia, by lia⟩)
  have hF5 : Fr [17] [(16, 3)] M W1 := by rw [hW2]; exact fr_fld fr_rfl (by decide)
  have hv6 : W1 16 3 = (M 36 3) := by rw [hW2]; exact mset_at _ _ _ _
  refine And.intro (by decide) ?_
  refine And.intro (by decide) ?_
  refine And.intro (by decide) ?_
  refine And.intro (by decide) ?_
  refine And.intro (by decide) ?_
  refine And.intro (by decide) ?_
  refine And.intro (by decide) ?_
  refine And.intro (by decide) ?_
  refine And.intro (by lia) ?_
  refine And.intro (by decide) ?_
  refine And.intro (by decide) ?_
  intro W7 hW8
  have hI9 : Inv W7 := by rw [hW8]; exact inv_row hI4 (fun j => i_any _)
  have hF10 : Fr [17] [(16, 3)] M W7 := by rw [hW8]; exact fr_row hF5 (by decide)
  exact hp _ _ hI9 hF10 trivial
set_option maxHeartbeats 4000000 in
theorem sf_X5_copyFrom__18_38 {post : MM → Int64 → Prop} {M : MM} {tl : Int64} (hI : Inv M) (hp : ∀ (M1 : MM) (t1 : Int64), Inv M1 → Fr [19] [(18, 3)] M M1 → True → post M1 t1) : wpX5_copyFrom post M tl 18 38 := by
  unfold wpX5_copyFrom
  simp only [Nat.reduceAdd, ln_al_19, ln_al_39]
  refine And.intro (by decide) ?_
  refine And.intro (by decide) ?_
  have hr3 := iv_38_3 hI
  intro W1 hW2
  have hI4 : Inv W1 := by rw [hW2]; exact inv_set hI (show 0 ≤ (M 38 3) ∧ (M 38 3) ≤ 6 from ⟨by lia, by lia⟩)
  have hF5 : Fr [19] [(18, 3)] M W1 := by rw [hW2]; exact fr_fld fr_rfl (by decide)
  have hv6 : W1 18 3 = (M 38 3) := by rw [hW2]; exact mset_at _ _ _ _
  refine And.intro (by decide) ?_
  refine And.intro (by decide) ?_
  refine And.intro (by decide) ?_
  refine And.intro (by decide) ?_
  refine And.intro (by decide) ?_
  refine And.intro (by decide) ?_
  refine And.intro (by decide) ?_
  refine And.intro (by decide) ?_
  refine And.intro (by lia) ?_
  refine And.intro (by decide) ?_
  refine And.intro (by decide) ?_
  intro W7 hW8
  have hI9 : Inv W7 := by rw [hW8]; exact inv_row hI4 (fun j => i_any _)
  have hF10 : Fr [19] [(18, 3)] M W7 := by rw [hW8]; exact fr_row hF5 (by decide)
  exact hp _ _ hI9 hF10 trivial
set_option maxHeartbeats 4000000 in
theorem sf_X5_copyFrom__20_40 {post : MM → Int64 → Prop} {M : MM} {tl : Int64} (hI : Inv M) (hp : ∀ (M1 : MM) (t1 : Int64), Inv M1 → Fr [21] [(20, 3)] M M1 → True → post M1 t1) : wpX5_copyFrom post M tl 20 40 := by
  unfold wpX5_copyFrom
  simp only [Nat.reduceAdd, ln_al_21, ln_al_41]
  refine And.intro (by decide) ?_
  refine And.intro (by decide) ?_
  have hr3 := iv_40_3 hI
  intro W1 hW2
  have hI4 : Inv W1 := by rw [hW2]; exact inv_set hI (show 0 ≤ (M 40 3) ∧ (M 40 3) ≤ 12 from ⟨by lia, by lia⟩)
  have hF5 : Fr [21] [(20, 3)] M W1 := by rw [hW2]; exact fr_fld fr_rfl (by decide)
  have hv6 : W1 20 3 = (M 40 3) := by rw [hW2]; exact mset_at _ _ _ _
  refine And.intro (by decide) ?_
  refine And.intro (by decide) ?_
  refine And.intro (by decide) ?_
  refine And.intro (by decide) ?_
  refine And.intro (by decide) ?_
  refine And.intro (by decide) ?_
  refine And.intro (by decide) ?_
  refine And.intro (by decide) ?_
  refine And.intro (by lia) ?_
  refine And.intro (by decide) ?_
  refine And.intro (by decide) ?_
  intro W7 hW8
  have hI9 : Inv W7 := by rw [hW8]; exact inv_row hI4 (fun j => i_any _)
  have hF10 : Fr [21] [(20, 3)] M W7 := by rw [hW8]; exact fr_row hF5 (by decide)
  exact hp _ _ hI9 hF10 trivial
set_option maxHeartbeats 4000000 in
theorem sf_X7_copyFrom__14_34 {post : MM → Int64 → Prop} {M : MM} {tl : Int64} (hI : Inv M) (hp : ∀ (M1 : MM) (t1 : Int64), Inv M1 → Fr [15, 17, 19, 21] [(16, 3), (18, 3), (20, 3)] M M1 → True → post M1 t1) : wpX7_copyFrom post M tl 14 34 := by
  unfold wpX7_copyFrom
  refine And.intro (by decide) ?_
  refine And.intro (by decide) ?_
  refine And.intro (by decide) ?_
  refine And.intro (by decide) ?_
  refine And.intro (by decide) ?_
  refine And.intro (by decide) ?_
  intro W1 hW2
  have hI3 : Inv W1 := by rw [hW2]; exact inv_row hI (fun j => i_any _)
  have hF4 : Fr [15, 17, 19, 21] [(16, 3), (18, 3), (20, 3)] M W1 := by rw [hW2]; exact fr_row fr_rfl (by decide)
  refine And.intro (by decide) ?_
  refine And.intro (by decide) ?_
  refine And.intro (by decide) ?_
  refine sf_X5_copyFrom__16_36 hI3  (fun M6 t7 hI8 hF9 hq10 => ?_)
  have hF11 : Fr [15, 17, 19, 21] [(16, 3), (18, 3), (20, 3)] M M6 := fr_call hF4 hF9 (by decide) (by decide)
  refine And.intro (by decide) ?_
  refine And.intro (by decide) ?_
  refine And.intro (by decide) ?_
  refine sf_X5_copyFrom__18_38 hI8  (fun M13 t14 hI15 hF16 hq17 => ?_)
  have hF18 : Fr [15, 17, 19, 21] [(16, 3), (18, 3), (20, 3)] M M13 := fr_call hF11 hF16 (by decide) (by decide)
  refine And.intro (by decide) ?_
  refine And.intro (by decide) ?_
  refine And.intro (by decide) ?_
  refine sf_X5_copyFrom__20_40 hI15  (fun M20 t21 hI22 hF23 hq24 => ?_)
  have hF25 : Fr [15, 17, 19, 21] [(16, 3), (18, 3), (20, 3)] M M20 := fr_call hF18 hF23 (by decide) (by decide)
  exact hp _ _ hI22 hF25 trivial
set_option maxHeartbeats 4000000 in
theorem sl_X10_text_77 {post : Int32 → MM → Int64 → Prop} {Mb : MM} (hp : ∀ (r : Int32) (M1 : MM) (t1 : Int64), Inv M1 → Fr [4, 6, 7, 9, 10, 11, 12, 13, 15, 17, 19, 21, 24, 26, 27, 29, 30, 31, 32, 33, 35, 37, 55] [(0, 11), (1, 1), (3, 0), (3, 1), (3, 2), (3, 3), (16, 3), (18, 3), (20, 3), (22, 2), (22, 3), (22, 4), (22, 6), (22, 7), (22, 8), (22, 9), (23, 0), (23, 1), (23, 2), (23, 3), (36, 3), (38, 3), (40, 3)] Mb M1 → M1 1 1 = 0 → post r M1 t1) : ∀ v1 : Int32, 0 ≤ v1 → v1 ≤ 2 → ∃ n, ∀ (M : MM) (tl : Int64), Inv M → Fr [4, 6, 7, 9, 10, 11, 12, 13, 15, 17, 19, 21, 24, 26, 27, 29, 30, 31, 32, 33, 35, 37, 55] [(0, 11), (1, 1), (3, 0), (3, 1), (3, 2), (3, 3), (16, 3), (18, 3), (20, 3), (22, 2), (22, 3), (22, 4), (22, 6), (22, 7), (22, 8), (22, 9), (23, 0), (23, 1), (23, 2), (23, 3), (36, 3), (38, 3), (40, 3)] Mb M → (M 1 1 = 0) → wX10_text_77 post n M tl v1 := by
  refine up_ex (P := fun d v1 => ∀ (M : MM) (tl : Int64), Inv M → Fr [4, 6, 7, 9, 10, 11, 12, 13, 15, 17, 19, 21, 24, 26, 27, 29, 30, 31, 32, 33, 35, 37, 55] [(0, 11), (1, 1), (3, 0), (3, 1), (3, 2), (3, 3), (16, 3), (18, 3), (20, 3), (22, 2), (22, 3), (22, 4), (22, 6), (22, 7), (22, 8), (22, 9), (23, 0), (23, 1), (23, 2), (23, 3), (36, 3), (38, 3), (40, 3)] Mb M → (M 1 1 = 0) → wX10_text_77 post d M tl v1) 0 2 ?_
  intro d v1 hlo hhi rec M tl  hI hF hli
  unfold wX10_text_77
  refine ifs (fun hc1 => ?_) (fun hc2 => ?_)
  · skip
    have hr3 := iv_1_1 hI
    exact hp _ _ _ hI hF (by lia)
  · skip
    refine And.intro (vpI (c := 2) (by decide) (by lia) (by lia)) ?_
    intro W4 hW5
    have hI6 : Inv W4 := by rw [hW5]; exact inv_set hI (i_any _)
    have hF7 : Fr [4, 6, 7, 9, 10, 11, 12, 13, 15, 17, 19, 21, 24, 26, 27, 29, 30, 31, 32, 33, 35, 37, 55] [(0, 11), (1, 1), (3, 0), (3, 1), (3, 2), (3, 3), (16, 3), (18, 3), (20, 3), (22, 2), (22, 3), (22, 4), (22, 6), (22, 7), (22, 8), (22, 9), (23, 0), (23, 1), (23, 2), (23, 3), (36, 3), (38, 3), (40, 3)] Mb W4 := by rw [hW5]; exact fr_arr hF (by decide)
    have hx8 : W4 1 1 = M 1 1 := by rw [hW5, mset_ne (by decide)]
    have hr9 := iv_1_1 hI
    have hr10 := iv_1_1 hI6
    exact rec (by lia) _ _  hI6 hF7 (by lia)
set_option maxHeartbeats 4000000 in
theorem sf_X10_text {post : Int32 → MM → Int64 → Prop} {M : MM} {tl : Int64} (hI : Inv M) (hp : ∀ (r : Int32) (M1 : MM) (t1 : Int64), Inv M1 → Fr [4, 6, 7, 9, 10, 11, 12, 13, 15, 17, 19, 21, 24, 26, 27, 29, 30, 31, 32, 33, 35, 37, 55] [(0, 11), (1, 1), (3, 0), (3, 1), (3, 2), (3, 3), (16, 3), (18, 3), (20, 3), (22, 2), (22, 3), (22, 4), (22, 6), (22, 7), (22, 8), (22, 9), (23, 0), (23, 1), (23, 2), (23, 3), (36, 3), (38, 3), (40, 3)] M M1 → M1 1 1 = 0 → post r M1 t1) : wpX10_text post M tl  := by
  unfold wpX10_text
  refine sf_X4_readAll hI  (fun M2 t3 hI4 hF5 hq6 => ?_)
  have hF7 : Fr [4, 6, 7, 9, 10, 11, 12, 13, 15, 17, 19, 21, 24, 26, 27, 29, 30, 31, 32, 33, 35, 37, 55] [(0, 11), (1, 1), (3, 0), (3, 1), (3, 2), (3, 3), (16, 3), (18, 3), (20, 3), (22, 2), (22, 3), (22, 4), (22, 6), (22, 7), (22, 8), (22, 9), (23, 0), (23, 1), (23, 2), (23, 3), (36, 3), (38, 3), (40, 3)] M M2 := fr_call fr_rfl hF5 (by decide) (by decide)
  intro W8 hW9
  have hI10 : Inv W8 := by rw [hW9]; exact inv_set hI4 (show 0 ≤ (0 : Int32) ∧ (0 : Int32) ≤ 400 from ⟨by lia, by lia⟩)
  have hF11 : Fr [4, 6, 7, 9, 10, 11, 12, 13, 15, 17, 19, 21, 24, 26, 27, 29, 30, 31, 32, 33, 35, 37, 55] [(0, 11), (1, 1), (3, 0), (3, 1), (3, 2), (3, 3), (16, 3), (18, 3), (20, 3), (22, 2), (22, 3), (22, 4), (22, 6), (22, 7), (22, 8), (22, 9), (23, 0), (23, 1), (23, 2), (23, 3), (36, 3), (38, 3), (40, 3)] M W8 := by rw [hW9]; exact fr_fld hF7 (by decide)
  have hv12 : W8 1 1 = (0 : Int32) := by rw [hW9]; exact mset_at _ _ _ _
  have hx15 : W8 22 2 = M2 22 2 := by rw [hW9, mset_ne (by decide)]
  intro W13 hW14
  have hI16 : Inv W13 := by rw [hW14]; exact inv_set hI10 (i_any _)
  have hF17 : Fr [4, 6, 7, 9, 10, 11, 12, 13, 15, 17, 19, 21, 24, 26, 27, 29, 30, 31, 32, 33, 35, 37, 55] [(0, 11), (1, 1), (3, 0), (3, 1), (3, 2), (3, 3), (16, 3), (18, 3), (20, 3), (22, 2), (22, 3), (22, 4), (22, 6), (22, 7), (22, 8), (22, 9), (23, 0), (23, 1), (23, 2), (23, 3), (36, 3), (38, 3), (40, 3)] M W13 := by rw [hW14]; exact fr_fld hF11 (by decide)
  have hv18 : W13 0 11 = (W8 22 2) := by rw [hW14]; exact mset_at _ _ _ _
  have hx19 : W13 22 2 = W8 22 2 := by rw [hW14, mset_ne (by decide)]
  have hx20 : W8 22 2 = M2 22 2 := by rw [hW9, mset_ne (by decide)]
  refine ifs (fun hc21 => ?_) (fun hc22 => ?_)
  · skip
    refine sf_X1_copyFrom__3_23 hI16  (fun M24 t25 hI26 hF27 hq28 => ?_)
    have hF29 : Fr [4, 6, 7, 9, 10, 11, 12, 13, 15, 17, 19, 21, 24, 26, 27, 29, 30, 31, 32, 33, 35, 37, 55] [(0, 11), (1, 1), (3, 0), (3, 1), (3, 2), (3, 3), (16, 3), (18, 3), (20, 3), (22, 2), (22, 3), (22, 4), (22, 6), (22, 7), (22, 8), (22, 9), (23, 0), (23, 1), (23, 2), (23, 3), (36, 3), (38, 3), (40, 3)] M M24 := fr_call hF17 hF27 (by decide) (by decide)
    refine sf_X7_copyFrom__14_34 hI26  (fun M31 t32 hI33 hF34 hq35 => ?_)
    have hF36 : Fr [4, 6, 7, 9, 10, 11, 12, 13, 15, 17, 19, 21, 24, 26, 27, 29, 30, 31, 32, 33, 35, 37, 55] [(0, 11), (1, 1), (3, 0), (3, 1), (3, 2), (3, 3), (16, 3), (18, 3), (20, 3), (22, 2), (22, 3), (22, 4), (22, 6), (22, 7), (22, 8), (22, 9), (23, 0), (23, 1), (23, 2), (23, 3), (36, 3), (38, 3), (40, 3)] M M31 := fr_call hF29 hF34 (by decide) (by decide)
    have hx37 : M31 1 1 = M24 1 1 := hF34 1 1 (by decide) (by decide)
    have hr38 := iv_1_1 hI26
    have hx39 : M24 1 1 = W13 1 1 := hF27 1 1 (by decide) (by decide)
    have hr40 := iv_1_1 hI16
    have hx41 : W13 1 1 = W8 1 1 := by rw [hW14, mset_ne (by decide)]
    have hr42 := iv_1_1 hI10
    have hr43 := iv_1_1 hI33
    obtain ⟨n44, hn45⟩ := sl_X10_text_77 (Mb := M) hp  (0 : Int32) (by lia) (by lia)
    exact ⟨n44, hn45 _ _  hI33 hF36 (by lia)⟩
  · skip
    have hx46 : W13 22 3 = W8 22 3 := by rw [hW14, mset_ne (by decide)]
    have hx47 : W8 22 3 = M2 22 3 := by rw [hW9, mset_ne (by decide)]
    have hx48 : W13 1 1 = W8 1 1 := by rw [hW14, mset_ne (by decide)]
    have hx49 : M2 1 1 = M 1 1 := hF5 1 1 (by decide) (by decide)
    have hx50 : W13 1 1 = W8 1 1 := by rw [hW14, mset_ne (by decide)]
    have hr51 := iv_1_1 hI10
    have hr52 := iv_1_1 hI16
    exact hp _ _ _ hI16 hF17 (by lia)
