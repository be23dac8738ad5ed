set_option maxHeartbeats 4000000 in
theorem sf_X11_flag {post : Int32 → MM → Int64 → Prop} {M : MM} {tl : Int64} {v0 : Int32} (hI : Inv M) (hp : ∀ (r : Int32), (r = 0 ∨ r = 1) → post r M tl) : wpX11_flag post M tl v0 := by
  unfold wpX11_flag
  refine ifs (fun hc1 => ?_) (fun hc2 => ?_)
  · skip
    exact hp _ (by lia)
  · skip
    exact hp _ (by lia)
set_option maxHeartbeats 4000000 in
theorem sl_X11_copies_2 {post : MM → Int64 → Prop} {Mb : MM} (hp : ∀ (M1 : MM) (t1 : Int64), Inv M1 → Fr [82] [] Mb M1 → True → post M1 t1) : ∀ v3 : Int32, 0 ≤ v3 → v3 ≤ 127 → ∃ n, ∀ (M : MM) (tl : Int64) (v1 : Int32) (v2 : Int32), Inv M → Fr [82] [] Mb M → ((v1 = 0 ∨ v1 = 127 ∨ v1 = 254) ∧ (v2 = 0 ∨ v2 = 127 ∨ v2 = 254)) → wX11_copies_2 post n M tl v1 v2 v3 := by
  refine up_ex (P := fun d v3 => ∀ (M : MM) (tl : Int64) (v1 : Int32) (v2 : Int32), Inv M → Fr [82] [] Mb M → ((v1 = 0 ∨ v1 = 127 ∨ v1 = 254) ∧ (v2 = 0 ∨ v2 = 127 ∨ v2 = 254)) → wX11_copies_2 post d M tl v1 v2 v3) 0 127 ?_
  intro d v3 hlo hhi rec M tl v1 v2 hI hF hli
  unfold wX11_copies_2
  refine ifs (fun hc1 => ?_) (fun hc2 => ?_)
  · skip
    exact hp _ _ hI hF trivial
  · skip
    refine And.intro (vpI (c := 381) (by decide) (by lia) (by lia)) ?_
    refine And.intro (vpI (c := 381) (by decide) (by lia) (by lia)) ?_
    intro W3 hW4
    have hI6 : Inv W3 := by rw [hW4]; exact inv_82 hI (by rw [cp_mod (d := v2) (by lia) (by lia) (by lia) (by lia)]; exact (hI).2.1 _)
    have hF7 : Fr [82] [] Mb W3 := by rw [hW4]; exact fr_arr hF (by decide)
    exact rec (by lia) _ _ v1 v2 hI6 hF7 (by lia)
set_option maxHeartbeats 4000000 in
theorem sf_X11_copies {post : MM → Int64 → Prop} {M : MM} {tl : Int64} {v1 : Int32} {v2 : Int32} (hI : Inv M) (hp1 : (v1 = 0 ∨ v1 = 127 ∨ v1 = 254)) (hp2 : (v2 = 0 ∨ v2 = 127 ∨ v2 = 254)) (hp : ∀ (M1 : MM) (t1 : Int64), Inv M1 → Fr [82] [] M M1 → True → post M1 t1) : wpX11_copies post M tl v1 v2 := by
  unfold wpX11_copies
  obtain ⟨n1, hn2⟩ := sl_X11_copies_2 (Mb := M) hp  (0 : Int32) (by lia) (by lia)
  exact ⟨n1, hn2 _ _ v1 v2 hI fr_rfl (by lia)⟩
set_option maxHeartbeats 4000000 in
theorem sf_X11_keep {post : Int32 → MM → Int64 → Prop} {M : MM} {tl : Int64} {v1 : Int32} (hI : Inv M) (hp : ∀ (r : Int32) (M1 : MM) (t1 : Int64), Inv M1 → Fr [82, 83] [] M M1 → True → post r M1 t1) : wpX11_keep post M tl v1 := by
  unfold wpX11_keep
  refine m_in (v := v1) (lo := 0) (hi := 1) rfl rfl rfl (fun hn1 hn2 => ?_) (fun hn3 => ?_)
  · skip
    refine ifs (fun hc4 => ?_) (fun hc5 => ?_)
    · skip
      exact hp _ _ _ hI fr_rfl trivial
    · skip
      refine And.intro (vpI (c := 2) (by decide) (by lia) (by lia)) ?_
      refine sf_X11_flag hI  (fun r6 hq7 => ?_)
      refine And.intro (vpI (c := 2) (by decide) (by lia) (by lia)) ?_
      intro W8 hW9
      have hI10 : Inv W8 := by rw [hW9]; exact inv_set hI (i_any _)
      have hF11 : Fr [82, 83] [] M W8 := by rw [hW9]; exact fr_arr fr_rfl (by decide)
      refine sf_X11_copies hI10 (by lia) (by lia) (fun M13 t14 hI15 hF16 hq17 => ?_)
      have hF18 : Fr [82, 83] [] M M13 := fr_call hF11 hF16 (by decide) (by decide)
      exact hp _ _ _ hI15 hF18 trivial
  · skip
    refine ifs (fun hc19 => ?_) (fun hc20 => ?_)
    · skip
      exact hp _ _ _ hI fr_rfl trivial
    · skip
      refine And.intro (vpI (c := 2) (by decide) (by lia) (by lia)) ?_
      refine sf_X11_flag hI  (fun r21 hq22 => ?_)
      refine And.intro (vpI (c := 2) (by decide) (by lia) (by lia)) ?_
      intro W23 hW24
      have hI25 : Inv W23 := by rw [hW24]; exact inv_set hI (i_any _)
      have hF26 : Fr [82, 83] [] M W23 := by rw [hW24]; exact fr_arr fr_rfl (by decide)
      refine sf_X11_copies hI25 (by lia) (by lia) (fun M28 t29 hI30 hF31 hq32 => ?_)
      have hF33 : Fr [82, 83] [] M M28 := fr_call hF26 hF31 (by decide) (by decide)
      exact hp _ _ _ hI30 hF33 trivial
set_option maxHeartbeats 4000000 in
theorem sl_X11_thingMany_4 {post : Int32 → MM → Int64 → Prop} {M : MM} {tl : Int64} (hp : ∀ (r : Int32), True → post r M tl) (hI : Inv M) : ∀ v2 : Int32, 0 ≤ v2 → v2 ≤ 16 → ∃ n, ∀ (v1 : Int32), (True) → wX11_thingMany_4 post n M tl v1 v2 := by
  refine up_ex (P := fun d v2 => ∀ (v1 : Int32), (True) → wX11_thingMany_4 post d M tl v1 v2) 0 16 ?_
  intro d v2 hlo hhi rec v1 hli
  unfold wX11_thingMany_4
  refine ifs (fun hc1 => ?_) (fun hc2 => ?_)
  · skip
    exact hp _ trivial
  · skip
    refine And.intro (vpI (c := 381) (by decide) (by lia) (by lia)) ?_
    have hr3 := r82_th hI v2 (by lia) (by lia)
    unfold Th at hr3
    refine ifs (fun hc4 => ?_) (fun hc5 => ?_)
    · skip
      unfold wX11_thingMany_25
      refine sf_X11_flag hI  (fun r6 hq7 => ?_)
      exact rec (by lia) (v1 + r6) trivial
    · skip
      unfold wX11_thingMany_25
      refine sf_X11_flag hI  (fun r8 hq9 => ?_)
      exact rec (by lia) (v1 + r8) trivial
set_option maxHeartbeats 4000000 in
theorem sf_X11_thingMany {post : Int32 → MM → Int64 → Prop} {M : MM} {tl : Int64} (hI : Inv M) (hp : ∀ (r : Int32), True → post r M tl) : wpX11_thingMany post M tl  := by
  unfold wpX11_thingMany
  obtain ⟨n1, hn2⟩ := sl_X11_thingMany_4 (M := M) (tl := tl) hp  hI (0 : Int32) (by lia) (by lia)
  exact ⟨n1, hn2 (0 : Int32) trivial⟩
set_option maxHeartbeats 4000000 in
theorem sf_X11_back {post : Int32 → MM → Int64 → Prop} {M : MM} {tl : Int64} {v1 : Int32} (hI : Inv M) (hp : ∀ (r : Int32) (M1 : MM) (t1 : Int64), Inv M1 → Fr [82] [] M M1 → True → post r M1 t1) : wpX11_back post M tl v1 := by
  unfold wpX11_back
  refine m_in (v := v1) (lo := 0) (hi := 1) rfl rfl rfl (fun hn1 hn2 => ?_) (fun hn3 => ?_)
  · skip
    refine ifs (fun hc4 => ?_) (fun hc5 => ?_)
    · skip
      exact hp _ _ _ hI fr_rfl trivial
    · skip
      refine And.intro (vpI (c := 2) (by decide) (by lia) (by lia)) ?_
      refine ifs (fun hc6 => ?_) (fun hc7 => ?_)
      · skip
        exact hp _ _ _ hI fr_rfl trivial
      · skip
        refine sf_X11_copies hI (by lia) (by lia) (fun M9 t10 hI11 hF12 hq13 => ?_)
        have hF14 : Fr [82] [] M M9 := fr_call fr_rfl hF12 (by decide) (by decide)
        refine sf_X11_thingMany hI11  (fun r15 hq16 => ?_)
        exact hp _ _ _ hI11 hF14 trivial
  · skip
    refine ifs (fun hc17 => ?_) (fun hc18 => ?_)
    · skip
      exact hp _ _ _ hI fr_rfl trivial
    · skip
      refine And.intro (vpI (c := 2) (by decide) (by lia) (by lia)) ?_
      refine ifs (fun hc19 => ?_) (fun hc20 => ?_)
      · skip
        exact hp _ _ _ hI fr_rfl trivial
      · skip
        refine sf_X11_copies hI (by lia) (by lia) (fun M22 t23 hI24 hF25 hq26 => ?_)
        have hF27 : Fr [82] [] M M22 := fr_call fr_rfl hF25 (by decide) (by decide)
        refine sf_X11_thingMany hI24  (fun r28 hq29 => ?_)
        exact hp _ _ _ hI24 hF27 trivial
set_option maxHeartbeats 4000000 in
theorem sl_X11_firstDraft_118 {post : MM → Int64 → Prop} {Mb : MM} (hp : ∀ (M1 : MM) (t1 : Int64), Inv M1 → Fr [90, 91, 92, 93, 94, 95, 96] [(81, 13), (81, 14), (81, 15), (81, 22), (81, 23), (81, 24), (81, 25), (81, 26), (81, 27), (81, 28), (81, 29)] Mb M1 → True → post M1 t1) : ∀ v1 : Int32, 0 ≤ v1 → v1 ≤ 6 → ∃ n, ∀ (M : MM) (tl : Int64), Inv M → Fr [90, 91, 92, 93, 94, 95, 96] [(81, 13), (81, 14), (81, 15), (81, 22), (81, 23), (81, 24), (81, 25), (81, 26), (81, 27), (81, 28), (81, 29)] Mb M → (True) → wX11_firstDraft_118 post n M tl v1 := by
  refine up_ex (P := fun d v1 => ∀ (M : MM) (tl : Int64), Inv M → Fr [90, 91, 92, 93, 94, 95, 96] [(81, 13), (81, 14), (81, 15), (81, 22), (81, 23), (81, 24), (81, 25), (81, 26), (81, 27), (81, 28), (81, 29)] Mb M → (True) → wX11_firstDraft_118 post d M tl v1) 0 6 ?_
  intro d v1 hlo hhi rec M tl  hI hF hli
  unfold wX11_firstDraft_118
  refine ifs (fun hc1 => ?_) (fun hc2 => ?_)
  · skip
    intro W3 hW4
    have hI5 : Inv W3 := by rw [hW4]; exact inv_set hI (i_any _)
    have hF6 : Fr [90, 91, 92, 93, 94, 95, 96] [(81, 13), (81, 14), (81, 15), (81, 22), (81, 23), (81, 24), (81, 25), (81, 26), (81, 27), (81, 28), (81, 29)] Mb W3 := by rw [hW4]; exact fr_fld hF (by decide)
    have hv7 : W3 81 22 = (0 : Int32) := by rw [hW4]; exact mset_at _ _ _ _
    intro W8 hW9
    have hI10 : Inv W8 := by rw [hW9]; exact inv_set hI5 (i_any _)
    have hF11 : Fr [90, 91, 92, 93, 94, 95, 96] [(81, 13), (81, 14), (81, 15), (81, 22), (81, 23), (81, 24), (81, 25), (81, 26), (81, 27), (81, 28), (81, 29)] Mb W8 := by rw [hW9]; exact fr_fld hF6 (by decide)
    have hv12 : W8 81 23 = (0 : Int32) := by rw [hW9]; exact mset_at _ _ _ _
    intro W13 hW14
    have hI15 : Inv W13 := by rw [hW14]; exact inv_set hI10 (i_any _)
    have hF16 : Fr [90, 91, 92, 93, 94, 95, 96] [(81, 13), (81, 14), (81, 15), (81, 22), (81, 23), (81, 24), (81, 25), (81, 26), (81, 27), (81, 28), (81, 29)] Mb W13 := by rw [hW14]; exact fr_fld hF11 (by decide)
    have hv17 : W13 81 24 = (0 : Int32) := by rw [hW14]; exact mset_at _ _ _ _
    intro W18 hW19
    have hI20 : Inv W18 := by rw [hW19]; exact inv_set hI15 (i_any _)
    have hF21 : Fr [90, 91, 92, 93, 94, 95, 96] [(81, 13), (81, 14), (81, 15), (81, 22), (81, 23), (81, 24), (81, 25), (81, 26), (81, 27), (81, 28), (81, 29)] Mb W18 := by rw [hW19]; exact fr_fld hF16 (by decide)
    have hv22 : W18 81 25 = (0 : Int32) := by rw [hW19]; exact mset_at _ _ _ _
    intro W23 hW24
    have hI25 : Inv W23 := by rw [hW24]; exact inv_set hI20 (i_any _)
    have hF26 : Fr [90, 91, 92, 93, 94, 95, 96] [(81, 13), (81, 14), (81, 15), (81, 22), (81, 23), (81, 24), (81, 25), (81, 26), (81, 27), (81, 28), (81, 29)] Mb W23 := by rw [hW24]; exact fr_fld hF21 (by decide)
    have hv27 : W23 81 26 = (0 : Int32) := by rw [hW24]; exact mset_at _ _ _ _
    intro W28 hW29
    have hI30 : Inv W28 := by rw [hW29]; exact inv_set hI25 (i_any _)
    have hF31 : Fr [90, 91, 92, 93, 94, 95, 96] [(81, 13), (81, 14), (81, 15), (81, 22), (81, 23), (81, 24), (81, 25), (81, 26), (81, 27), (81, 28), (81, 29)] Mb W28 := by rw [hW29]; exact fr_fld hF26 (by decide)
    have hv32 : W28 81 27 = (0 : Int32) := by rw [hW29]; exact mset_at _ _ _ _
    intro W33 hW34
    have hI35 : Inv W33 := by rw [hW34]; exact inv_set hI30 (i_any _)
    have hF36 : Fr [90, 91, 92, 93, 94, 95, 96] [(81, 13), (81, 14), (81, 15), (81, 22), (81, 23), (81, 24), (81, 25), (81, 26), (81, 27), (81, 28), (81, 29)] Mb W33 := by rw [hW34]; exact fr_fld hF31 (by decide)
    have hv37 : W33 81 28 = (0 : Int32) := by rw [hW34]; exact mset_at _ _ _ _
    intro W38 hW39
    have hI40 : Inv W38 := by rw [hW39]; exact inv_set hI35 (i_any _)
    have hF41 : Fr [90, 91, 92, 93, 94, 95, 96] [(81, 13), (81, 14), (81, 15), (81, 22), (81, 23), (81, 24), (81, 25), (81, 26), (81, 27), (81, 28), (81, 29)] Mb W38 := by rw [hW39]; exact fr_fld hF36 (by decide)
    have hv42 : W38 81 29 = (-4 : Int32) := by rw [hW39]; exact mset_at _ _ _ _
    exact hp _ _ hI40 hF41 trivial
  · skip
    refine And.intro (vpI (c := 6) (by decide) (by lia) (by lia)) ?_
    intro W43 hW44
    have hI45 : Inv W43 := by rw [hW44]; exact inv_set hI (show 0 ≤ v1 ∧ v1 ≤ 5 from ⟨by lia, by lia⟩)
    have hF46 : Fr [90, 91, 92, 93, 94, 95, 96] [(81, 13), (81, 14), (81, 15), (81, 22), (81, 23), (81, 24), (81, 25), (81, 26), (81, 27), (81, 28), (81, 29)] Mb W43 := by rw [hW44]; exact fr_arr hF (by decide)
    exact rec (by lia) _ _  hI45 hF46 trivial
set_option maxHeartbeats 4000000 in
theorem sl_X11_firstDraft_65 {post : MM → Int64 → Prop} {Mb : MM} (hp : ∀ (M1 : MM) (t1 : Int64), Inv M1 → Fr [90, 91, 92, 93, 94, 95, 96] [(81, 13), (81, 14), (81, 15), (81, 22), (81, 23), (81, 24), (81, 25), (81, 26), (81, 27), (81, 28), (81, 29)] Mb M1 → True → post M1 t1) : ∀ v1 : Int32, 0 ≤ v1 → v1 ≤ 12 → ∃ n, ∀ (M : MM) (tl : Int64), Inv M → Fr [90, 91, 92, 93, 94, 95, 96] [(81, 13), (81, 14), (81, 15), (81, 22), (81, 23), (81, 24), (81, 25), (81, 26), (81, 27), (81, 28), (81, 29)] Mb M → (True) → wX11_firstDraft_65 post n M tl v1 := by
  refine up_ex (P := fun d v1 => ∀ (M : MM) (tl : Int64), Inv M → Fr [90, 91, 92, 93, 94, 95, 96] [(81, 13), (81, 14), (81, 15), (81, 22), (81, 23), (81, 24), (81, 25), (81, 26), (81, 27), (81, 28), (81, 29)] Mb M → (True) → wX11_firstDraft_65 post d M tl v1) 0 12 ?_
  intro d v1 hlo hhi rec M tl  hI hF hli
  unfold wX11_firstDraft_65
  refine ifs (fun hc1 => ?_) (fun hc2 => ?_)
  · skip
    refine And.intro (vpI (c := 2) (by decide) (by lia) (by lia)) ?_
    intro W3 hW4
    have hI5 : Inv W3 := by rw [hW4]; exact inv_set hI (i_any _)
    have hF6 : Fr [90, 91, 92, 93, 94, 95, 96] [(81, 13), (81, 14), (81, 15), (81, 22), (81, 23), (81, 24), (81, 25), (81, 26), (81, 27), (81, 28), (81, 29)] Mb W3 := by rw [hW4]; exact fr_arr hF (by decide)
    refine And.intro (vpI (c := 2) (by decide) (by lia) (by lia)) ?_
    intro W7 hW8
    have hI9 : Inv W7 := by rw [hW8]; exact inv_set hI5 (i_any _)
    have hF10 : Fr [90, 91, 92, 93, 94, 95, 96] [(81, 13), (81, 14), (81, 15), (81, 22), (81, 23), (81, 24), (81, 25), (81, 26), (81, 27), (81, 28), (81, 29)] Mb W7 := by rw [hW8]; exact fr_arr hF6 (by decide)
    obtain ⟨n11, hn12⟩ := sl_X11_firstDraft_118 (Mb := Mb) hp  (0 : Int32) (by lia) (by lia)
    exact ⟨n11, hn12 _ _  hI9 hF10 trivial⟩
  · skip
    refine And.intro (vpI (c := 12) (by decide) (by lia) (by lia)) ?_
    intro W13 hW14
    have hI15 : Inv W13 := by rw [hW14]; exact inv_set hI (i_any _)
    have hF16 : Fr [90, 91, 92, 93, 94, 95, 96] [(81, 13), (81, 14), (81, 15), (81, 22), (81, 23), (81, 24), (81, 25), (81, 26), (81, 27), (81, 28), (81, 29)] Mb W13 := by rw [hW14]; exact fr_arr hF (by decide)
    refine ifs (fun hc17 => ?_) (fun hc18 => ?_)
    · skip
      unfold wX11_firstDraft_95
      refine And.intro (vpI (c := 12) (by decide) (by lia) (by lia)) ?_
      intro W19 hW20
      have hI21 : Inv W19 := by rw [hW20]; exact inv_set hI15 (i_any _)
      have hF22 : Fr [90, 91, 92, 93, 94, 95, 96] [(81, 13), (81, 14), (81, 15), (81, 22), (81, 23), (81, 24), (81, 25), (81, 26), (81, 27), (81, 28), (81, 29)] Mb W19 := by rw [hW20]; exact fr_arr hF16 (by decide)
      exact rec (by lia) _ _  hI21 hF22 trivial
    · skip
      unfold wX11_firstDraft_95
      refine And.intro (vpI (c := 12) (by decide) (by lia) (by lia)) ?_
      intro W23 hW24
      have hI25 : Inv W23 := by rw [hW24]; exact inv_set hI15 (i_any _)
      have hF26 : Fr [90, 91, 92, 93, 94, 95, 96] [(81, 13), (81, 14), (81, 15), (81, 22), (81, 23), (81, 24), (81, 25), (81, 26), (81, 27), (81, 28), (81, 29)] Mb W23 := by rw [hW24]; exact fr_arr hF16 (by decide)
      exact rec (by lia) _ _  hI25 hF26 trivial
set_option maxHeartbeats 4000000 in
theorem sl_X11_firstDraft_38 {post : MM → Int64 → Prop} {Mb : MM} (hp : ∀ (M1 : MM) (t1 : Int64), Inv M1 → Fr [90, 91, 92, 93, 94, 95, 96] [(81, 13), (81, 14), (81, 15), (81, 22), (81, 23), (81, 24), (81, 25), (81, 26), (81, 27), (81, 28), (81, 29)] Mb M1 → True → post M1 t1) : ∀ v1 : Int32, 0 ≤ v1 → v1 ≤ 4 → ∃ n, ∀ (M : MM) (tl : Int64), Inv M → Fr [90, 91, 92, 93, 94, 95, 96] [(81, 13), (81, 14), (81, 15), (81, 22), (81, 23), (81, 24), (81, 25), (81, 26), (81, 27), (81, 28), (81, 29)] Mb M → (True) → wX11_firstDraft_38 post n M tl v1 := by
  refine up_ex (P := fun d v1 => ∀ (M : MM) (tl : Int64), Inv M → Fr [90, 91, 92, 93, 94, 95, 96] [(81, 13), (81, 14), (81, 15), (81, 22), (81, 23), (81, 24), (81, 25), (81, 26), (81, 27), (81, 28), (81, 29)] Mb M → (True) → wX11_firstDraft_38 post d M tl v1) 0 4 ?_
  intro d v1 hlo hhi rec M tl  hI hF hli
  unfold wX11_firstDraft_38
  refine ifs (fun hc1 => ?_) (fun hc2 => ?_)
  · skip
    obtain ⟨n3, hn4⟩ := sl_X11_firstDraft_65 (Mb := Mb) hp  (0 : Int32) (by lia) (by lia)
    exact ⟨n3, hn4 _ _  hI hF trivial⟩
  · skip
    refine And.intro (vpI (c := 4) (by decide) (by lia) (by lia)) ?_
    intro W5 hW6
    have hI7 : Inv W5 := by rw [hW6]; exact inv_set hI (i_any _)
    have hF8 : Fr [90, 91, 92, 93, 94, 95, 96] [(81, 13), (81, 14), (81, 15), (81, 22), (81, 23), (81, 24), (81, 25), (81, 26), (81, 27), (81, 28), (81, 29)] Mb W5 := by rw [hW6]; exact fr_arr hF (by decide)
    refine And.intro (vpI (c := 4) (by decide) (by lia) (by lia)) ?_
    intro W9 hW10
    have hI11 : Inv W9 := by rw [hW10]; exact inv_set hI7 (show 0 ≤ v1 ∧ v1 ≤ 3 from ⟨by lia, by lia⟩)
    have hF12 : Fr [90, 91, 92, 93, 94, 95, 96] [(81, 13), (81, 14), (81, 15), (81, 22), (81, 23), (81, 24), (81, 25), (81, 26), (81, 27), (81, 28), (81, 29)] Mb W9 := by rw [hW10]; exact fr_arr hF8 (by decide)
    exact rec (by lia) _ _  hI11 hF12 trivial
set_option maxHeartbeats 4000000 in
theorem sl_X11_firstDraft_2 {post : MM → Int64 → Prop} {Mb : MM} (hp : ∀ (M1 : MM) (t1 : Int64), Inv M1 → Fr [90, 91, 92, 93, 94, 95, 96] [(81, 13), (81, 14), (81, 15), (81, 22), (81, 23), (81, 24), (81, 25), (81, 26), (81, 27), (81, 28), (81, 29)] Mb M1 → True → post M1 t1) : ∀ v1 : Int32, 0 ≤ v1 → v1 ≤ 127 → ∃ n, ∀ (M : MM) (tl : Int64), Inv M → Fr [90, 91, 92, 93, 94, 95, 96] [(81, 13), (81, 14), (81, 15), (81, 22), (81, 23), (81, 24), (81, 25), (81, 26), (81, 27), (81, 28), (81, 29)] Mb M → (True) → wX11_firstDraft_2 post n M tl v1 := by
  refine up_ex (P := fun d v1 => ∀ (M : MM) (tl : Int64), Inv M → Fr [90, 91, 92, 93, 94, 95, 96] [(81, 13), (81, 14), (81, 15), (81, 22), (81, 23), (81, 24), (81, 25), (81, 26), (81, 27), (81, 28), (81, 29)] Mb M → (True) → wX11_firstDraft_2 post d M tl v1) 0 127 ?_
  intro d v1 hlo hhi rec M tl  hI hF hli
  unfold wX11_firstDraft_2
  refine ifs (fun hc1 => ?_) (fun hc2 => ?_)
  · skip
    intro W3 hW4
    have hI5 : Inv W3 := by rw [hW4]; exact inv_set hI (show 0 ≤ (5 : Int32) ∧ (5 : Int32) ≤ 8 from ⟨by lia, by lia⟩)
    have hF6 : Fr [90, 91, 92, 93, 94, 95, 96] [(81, 13), (81, 14), (81, 15), (81, 22), (81, 23), (81, 24), (81, 25), (81, 26), (81, 27), (81, 28), (81, 29)] Mb W3 := by rw [hW4]; exact fr_fld hF (by decide)
    have hv7 : W3 81 13 = (5 : Int32) := by rw [hW4]; exact mset_at _ _ _ _
    intro W8 hW9
    have hI10 : Inv W8 := by rw [hW9]; exact inv_set hI5 (i_any _)
    have hF11 : Fr [90, 91, 92, 93, 94, 95, 96] [(81, 13), (81, 14), (81, 15), (81, 22), (81, 23), (81, 24), (81, 25), (81, 26), (81, 27), (81, 28), (81, 29)] Mb W8 := by rw [hW9]; exact fr_fld hF6 (by decide)
    have hv12 : W8 81 14 = (3 : Int32) := by rw [hW9]; exact mset_at _ _ _ _
    intro W13 hW14
    have hI15 : Inv W13 := by rw [hW14]; exact inv_set hI10 (i_any _)
    have hF16 : Fr [90, 91, 92, 93, 94, 95, 96] [(81, 13), (81, 14), (81, 15), (81, 22), (81, 23), (81, 24), (81, 25), (81, 26), (81, 27), (81, 28), (81, 29)] Mb W13 := by rw [hW14]; exact fr_fld hF11 (by decide)
    have hv17 : W13 81 15 = (1 : Int32) := by rw [hW14]; exact mset_at _ _ _ _
    obtain ⟨n18, hn19⟩ := sl_X11_firstDraft_38 (Mb := Mb) hp  (0 : Int32) (by lia) (by lia)
    exact ⟨n18, hn19 _ _  hI15 hF16 trivial⟩
  · skip
    refine And.intro (vpI (c := 127) (by decide) (by lia) (by lia)) ?_
    intro W20 hW21
    have hI22 : Inv W20 := by rw [hW21]; exact inv_90 hI (sd_zero _)
    have hF23 : Fr [90, 91, 92, 93, 94, 95, 96] [(81, 13), (81, 14), (81, 15), (81, 22), (81, 23), (81, 24), (81, 25), (81, 26), (81, 27), (81, 28), (81, 29)] Mb W20 := by rw [hW21]; exact fr_arr hF (by decide)
    exact rec (by lia) _ _  hI22 hF23 trivial
set_option maxHeartbeats 4000000 in
theorem sf_X11_firstDraft {post : MM → Int64 → Prop} {M : MM} {tl : Int64} (hI : Inv M) (hp : ∀ (M1 : MM) (t1 : Int64), Inv M1 → Fr [90, 91, 92, 93, 94, 95, 96] [(81, 13), (81, 14), (81, 15), (81, 22), (81, 23), (81, 24), (81, 25), (81, 26), (81, 27), (81, 28), (81, 29)] M M1 → True → post M1 t1) : wpX11_firstDraft post M tl  := by
  unfold wpX11_firstDraft
  obtain ⟨n1, hn2⟩ := sl_X11_firstDraft_2 (Mb := M) hp  (0 : Int32) (by lia) (by lia)
  exact ⟨n1, hn2 _ _  hI fr_rfl trivial⟩
set_option maxHeartbeats 4000000 in
theorem sl_X11_keepDraft_173 {post : MM → Int64 → Prop} {Mb : MM} (hp : ∀ (M1 : MM) (t1 : Int64), Inv M1 → Fr [82, 83, 84, 85, 86, 87, 88, 89] [(81, 2), (81, 3), (81, 4), (81, 11)] Mb M1 → True → post M1 t1) : ∀ v1 : Int32, 0 ≤ v1 → v1 ≤ 6 → ∃ n, ∀ (M : MM) (tl : Int64), Inv M → Fr [82, 83, 84, 85, 86, 87, 88, 89] [(81, 2), (81, 3), (81, 4), (81, 11)] Mb M → (True) → wX11_keepDraft_173 post n M tl v1 := by
  refine up_ex (P := fun d v1 => ∀ (M : MM) (tl : Int64), Inv M → Fr [82, 83, 84, 85, 86, 87, 88, 89] [(81, 2), (81, 3), (81, 4), (81, 11)] Mb M → (True) → wX11_keepDraft_173 post d M tl v1) 0 6 ?_
  intro d v1 hlo hhi rec M tl  hI hF hli
  unfold wX11_keepDraft_173
  refine ifs (fun hc1 => ?_) (fun hc2 => ?_)
  · skip
    refine And.intro (vpI (c := 2) (by decide) (by lia) (by lia)) ?_
    intro W3 hW4
    have hI5 : Inv W3 := by rw [hW4]; exact inv_set hI (i_any _)
    have hF6 : Fr [82, 83, 84, 85, 86, 87, 88, 89] [(81, 2), (81, 3), (81, 4), (81, 11)] Mb W3 := by rw [hW4]; exact fr_arr hF (by decide)
    refine And.intro (vpI (c := 2) (by decide) (by lia) (by lia)) ?_
    intro W7 hW8
    have hI9 : Inv W7 := by rw [hW8]; exact inv_set hI5 (i_any _)
    have hF10 : Fr [82, 83, 84, 85, 86, 87, 88, 89] [(81, 2), (81, 3), (81, 4), (81, 11)] Mb W7 := by rw [hW8]; exact fr_arr hF6 (by decide)
    exact hp _ _ hI9 hF10 trivial
  · skip
    refine And.intro (vpI (c := 6) (by decide) (by lia) (by lia)) ?_
    refine And.intro (vpI (c := 6) (by decide) (by lia) (by lia)) ?_
    have hr13 := iv_95 hI (v1).toNatClampNeg
    intro W11 hW12
    have hI14 : Inv W11 := by rw [hW12]; exact inv_set hI (show 0 ≤ (M 95 (v1).toNatClampNeg) ∧ (M 95 (v1).toNatClampNeg) ≤ 5 from ⟨by lia, by lia⟩)
    have hF15 : Fr [82, 83, 84, 85, 86, 87, 88, 89] [(81, 2), (81, 3), (81, 4), (81, 11)] Mb W11 := by rw [hW12]; exact fr_arr hF (by decide)
    refine And.intro (vpI (c := 6) (by decide) (by lia) (by lia)) ?_
    have hx18 : W11 81 11 = M 81 11 := by rw [hW12, mset_ne (by decide)]
    have hm19 : (0 : Int32) ≤ (((W11 81 22) >>> (v1 &&& (31 : Int32))) &&& (1 : Int32)) ∧ (((W11 81 22) >>> (v1 &&& (31 : Int32))) &&& (1 : Int32)) ≤ (1 : Int32) := andc ((W11 81 22) >>> (v1 &&& (31 : Int32))) 1 (by decide)
    have hx20 : W11 81 22 = M 81 22 := by rw [hW12, mset_ne (by decide)]
    have hm21 : (0 : Int32) ≤ (v1 &&& (31 : Int32)) ∧ (v1 &&& (31 : Int32)) ≤ (31 : Int32) := andc v1 31 (by decide)
    have hm22 : (0 : Int32) ≤ ((W11 95 (v1).toNatClampNeg) &&& (31 : Int32)) ∧ ((W11 95 (v1).toNatClampNeg) &&& (31 : Int32)) ≤ (31 : Int32) := andc (W11 95 (v1).toNatClampNeg) 31 (by decide)
    have hr23 := iv_95 hI14 (v1).toNatClampNeg
    intro W16 hW17
    have hI24 : Inv W16 := by rw [hW17]; exact inv_set hI14 (i_any _)
    have hF25 : Fr [82, 83, 84, 85, 86, 87, 88, 89] [(81, 2), (81, 3), (81, 4), (81, 11)] Mb W16 := by rw [hW17]; exact fr_fld hF15 (by decide)
    have hv26 : W16 81 11 = ((W11 81 11) ||| ((((W11 81 22) >>> (v1 &&& (31 : Int32))) &&& (1 : Int32)) <<< ((W11 95 (v1).toNatClampNeg) &&& (31 : Int32)))) := by rw [hW17]; exact mset_at _ _ _ _
    exact rec (by lia) _ _  hI24 hF25 trivial
set_option maxHeartbeats 4000000 in
theorem sl_X11_keepDraft_89 {post : MM → Int64 → Prop} {Mb : MM} (hp : ∀ (M1 : MM) (t1 : Int64), Inv M1 → Fr [82, 83, 84, 85, 86, 87, 88, 89] [(81, 2), (81, 3), (81, 4), (81, 11)] Mb M1 → True → post M1 t1) : ∀ v1 : Int32, 0 ≤ v1 → v1 ≤ 12 → ∃ n, ∀ (M : MM) (tl : Int64), Inv M → Fr [82, 83, 84, 85, 86, 87, 88, 89] [(81, 2), (81, 3), (81, 4), (81, 11)] Mb M → (True) → wX11_keepDraft_89 post n M tl v1 := by
  refine up_ex (P := fun d v1 => ∀ (M : MM) (tl : Int64), Inv M → Fr [82, 83, 84, 85, 86, 87, 88, 89] [(81, 2), (81, 3), (81, 4), (81, 11)] Mb M → (True) → wX11_keepDraft_89 post d M tl v1) 0 12 ?_
  intro d v1 hlo hhi rec M tl  hI hF hli
  unfold wX11_keepDraft_89
  refine ifs (fun hc1 => ?_) (fun hc2 => ?_)
  · skip
    refine And.intro (vpI (c := 2) (by decide) (by lia) (by lia)) ?_
    refine And.intro (vpI (c := 2) (by decide) (by lia) (by lia)) ?_
    intro W3 hW4
    have hI5 : Inv W3 := by rw [hW4]; exact inv_set hI (i_any _)
    have hF6 : Fr [82, 83, 84, 85, 86, 87, 88, 89] [(81, 2), (81, 3), (81, 4), (81, 11)] Mb W3 := by rw [hW4]; exact fr_arr hF (by decide)
    refine And.intro (vpI (c := 2) (by decide) (by lia) (by lia)) ?_
    refine And.intro (vpI (c := 2) (by decide) (by lia) (by lia)) ?_
    have hx9 : W3 94 1 = M 94 1 := by rw [hW4, mset_ne (by decide)]
    intro W7 hW8
    have hI10 : Inv W7 := by rw [hW8]; exact inv_set hI5 (i_any _)
    have hF11 : Fr [82, 83, 84, 85, 86, 87, 88, 89] [(81, 2), (81, 3), (81, 4), (81, 11)] Mb W7 := by rw [hW8]; exact fr_arr hF6 (by decide)
    have hx14 : W7 81 22 = W3 81 22 := by rw [hW8, mset_ne (by decide)]
    have hx15 : W3 81 22 = M 81 22 := by rw [hW4, mset_ne (by decide)]
    intro W12 hW13
    have hI16 : Inv W12 := by rw [hW13]; exact inv_set hI10 (i_any _)
    have hF17 : Fr [82, 83, 84, 85, 86, 87, 88, 89] [(81, 2), (81, 3), (81, 4), (81, 11)] Mb W12 := by rw [hW13]; exact fr_fld hF11 (by decide)
    have hv18 : W12 81 11 = (W7 81 22) := by rw [hW13]; exact mset_at _ _ _ _
    obtain ⟨n19, hn20⟩ := sl_X11_keepDraft_173 (Mb := Mb) hp  (0 : Int32) (by lia) (by lia)
    exact ⟨n19, hn20 _ _  hI16 hF17 trivial⟩
  · skip
    refine ifs (fun hc21 => ?_) (fun hc22 => ?_)
    · skip
      unfold wX11_keepDraft_120
      refine And.intro (vpI (c := 12) (by decide) (by lia) (by lia)) ?_
      intro W23 hW24
      have hI25 : Inv W23 := by rw [hW24]; exact inv_set hI (i_any _)
      have hF26 : Fr [82, 83, 84, 85, 86, 87, 88, 89] [(81, 2), (81, 3), (81, 4), (81, 11)] Mb W23 := by rw [hW24]; exact fr_arr hF (by decide)
      refine And.intro (vpI (c := 12) (by decide) (by lia) (by lia)) ?_
      refine And.intro (vpI (c := 12) (by decide) (by lia) (by lia)) ?_
      intro W27 hW28
      have hI29 : Inv W27 := by rw [hW28]; exact inv_set hI25 (i_any _)
      have hF30 : Fr [82, 83, 84, 85, 86, 87, 88, 89] [(81, 2), (81, 3), (81, 4), (81, 11)] Mb W27 := by rw [hW28]; exact fr_arr hF26 (by decide)
      exact rec (by lia) _ _  hI29 hF30 trivial
    · skip
      refine And.intro (vpI (c := 12) (by decide) (by lia) (by lia)) ?_
      unfold wX11_keepDraft_120
      refine And.intro (vpI (c := 12) (by decide) (by lia) (by lia)) ?_
      intro W31 hW32
      have hI33 : Inv W31 := by rw [hW32]; exact inv_set hI (i_any _)
      have hF34 : Fr [82, 83, 84, 85, 86, 87, 88, 89] [(81, 2), (81, 3), (81, 4), (81, 11)] Mb W31 := by rw [hW32]; exact fr_arr hF (by decide)
      refine And.intro (vpI (c := 12) (by decide) (by lia) (by lia)) ?_
      refine And.intro (vpI (c := 12) (by decide) (by lia) (by lia)) ?_
      intro W35 hW36
      have hI37 : Inv W35 := by rw [hW36]; exact inv_set hI33 (i_any _)
      have hF38 : Fr [82, 83, 84, 85, 86, 87, 88, 89] [(81, 2), (81, 3), (81, 4), (81, 11)] Mb W35 := by rw [hW36]; exact fr_arr hF34 (by decide)
      exact rec (by lia) _ _  hI37 hF38 trivial
set_option maxHeartbeats 4000000 in
theorem sl_X11_keepDraft_52 {post : MM → Int64 → Prop} {Mb : MM} (hp : ∀ (M1 : MM) (t1 : Int64), Inv M1 → Fr [82, 83, 84, 85, 86, 87, 88, 89] [(81, 2), (81, 3), (81, 4), (81, 11)] Mb M1 → True → post M1 t1) : ∀ v1 : Int32, 0 ≤ v1 → v1 ≤ 4 → ∃ n, ∀ (M : MM) (tl : Int64), Inv M → Fr [82, 83, 84, 85, 86, 87, 88, 89] [(81, 2), (81, 3), (81, 4), (81, 11)] Mb M → (True) → wX11_keepDraft_52 post n M tl v1 := by
  refine up_ex (P := fun d v1 => ∀ (M : MM) (tl : Int64), Inv M → Fr [82, 83, 84, 85, 86, 87, 88, 89] [(81, 2), (81, 3), (81, 4), (81, 11)] Mb M → (True) → wX11_keepDraft_52 post d M tl v1) 0 4 ?_
  intro d v1 hlo hhi rec M tl  hI hF hli
  unfold wX11_keepDraft_52
  refine ifs (fun hc1 => ?_) (fun hc2 => ?_)
  · skip
    obtain ⟨n3, hn4⟩ := sl_X11_keepDraft_89 (Mb := Mb) hp  (0 : Int32) (by lia) (by lia)
    exact ⟨n3, hn4 _ _  hI hF trivial⟩
  · skip
    refine And.intro (vpI (c := 4) (by decide) (by lia) (by lia)) ?_
    refine And.intro (vpI (c := 4) (by decide) (by lia) (by lia)) ?_
    intro W5 hW6
    have hI7 : Inv W5 := by rw [hW6]; exact inv_set hI (i_any _)
    have hF8 : Fr [82, 83, 84, 85, 86, 87, 88, 89] [(81, 2), (81, 3), (81, 4), (81, 11)] Mb W5 := by rw [hW6]; exact fr_arr hF (by decide)
    refine And.intro (vpI (c := 4) (by decide) (by lia) (by lia)) ?_
    refine And.intro (vpI (c := 4) (by decide) (by lia) (by lia)) ?_
    have hr11 := iv_96 hI7 (v1).toNatClampNeg
    intro W9 hW10
    have hI12 : Inv W9 := by rw [hW10]; exact inv_set hI7 (show 0 ≤ (W5 96 (v1).toNatClampNeg) ∧ (W5 96 (v1).toNatClampNeg) ≤ 3 from ⟨by lia, by lia⟩)
    have hF13 : Fr [82, 83, 84, 85, 86, 87, 88, 89] [(81, 2), (81, 3), (81, 4), (81, 11)] Mb W9 := by rw [hW10]; exact fr_arr hF8 (by decide)
    exact rec (by lia) _ _  hI12 hF13 trivial
set_option maxHeartbeats 4000000 in
theorem sl_X11_keepDraft_2 {post : MM → Int64 → Prop} {Mb : MM} (hp : ∀ (M1 : MM) (t1 : Int64), Inv M1 → Fr [82, 83, 84, 85, 86, 87, 88, 89] [(81, 2), (81, 3), (81, 4), (81, 11)] Mb M1 → True → post M1 t1) : ∀ v1 : Int32, 0 ≤ v1 → v1 ≤ 127 → ∃ n, ∀ (M : MM) (tl : Int64), Inv M → Fr [82, 83, 84, 85, 86, 87, 88, 89] [(81, 2), (81, 3), (81, 4), (81, 11)] Mb M → (True) → wX11_keepDraft_2 post n M tl v1 := by
  refine up_ex (P := fun d v1 => ∀ (M : MM) (tl : Int64), Inv M → Fr [82, 83, 84, 85, 86, 87, 88, 89] [(81, 2), (81, 3), (81, 4), (81, 11)] Mb M → (True) → wX11_keepDraft_2 post d M tl v1) 0 127 ?_
  intro d v1 hlo hhi rec M tl  hI hF hli
  unfold wX11_keepDraft_2
  refine ifs (fun hc1 => ?_) (fun hc2 => ?_)
  · skip
    have hr5 := iv_81_13 hI
    intro W3 hW4
    have hI6 : Inv W3 := by rw [hW4]; exact inv_set hI (show 0 ≤ (M 81 13) ∧ (M 81 13) ≤ 8 from ⟨by lia, by lia⟩)
    have hF7 : Fr [82, 83, 84, 85, 86, 87, 88, 89] [(81, 2), (81, 3), (81, 4), (81, 11)] Mb W3 := by rw [hW4]; exact fr_fld hF (by decide)
    have hv8 : W3 81 2 = (M 81 13) := by rw [hW4]; exact mset_at _ _ _ _
    have hx11 : W3 81 14 = M 81 14 := by rw [hW4, mset_nk (by decide)]
    intro W9 hW10
    have hI12 : Inv W9 := by rw [hW10]; exact inv_set hI6 (i_any _)
    have hF13 : Fr [82, 83, 84, 85, 86, 87, 88, 89] [(81, 2), (81, 3), (81, 4), (81, 11)] Mb W9 := by rw [hW10]; exact fr_fld hF7 (by decide)
    have hv14 : W9 81 3 = (W3 81 14) := by rw [hW10]; exact mset_at _ _ _ _
    have hx17 : W9 81 15 = W3 81 15 := by rw [hW10, mset_nk (by decide)]
    have hx18 : W3 81 15 = M 81 15 := by rw [hW4, mset_nk (by decide)]
    intro W15 hW16
    have hI19 : Inv W15 := by rw [hW16]; exact inv_set hI12 (i_any _)
    have hF20 : Fr [82, 83, 84, 85, 86, 87, 88, 89] [(81, 2), (81, 3), (81, 4), (81, 11)] Mb W15 := by rw [hW16]; exact fr_fld hF13 (by decide)
    have hv21 : W15 81 4 = (W9 81 15) := by rw [hW16]; exact mset_at _ _ _ _
    obtain ⟨n22, hn23⟩ := sl_X11_keepDraft_52 (Mb := Mb) hp  (0 : Int32) (by lia) (by lia)
    exact ⟨n22, hn23 _ _  hI19 hF20 trivial⟩
  · skip
    refine And.intro (vpI (c := 127) (by decide) (by lia) (by lia)) ?_
    refine And.intro (vpI (c := 381) (by decide) (by lia) (by lia)) ?_
    intro W24 hW25
    have hI27 : Inv W24 := by rw [hW25]; exact inv_82 hI ((hI).2.2.1 _)
    have hF28 : Fr [82, 83, 84, 85, 86, 87, 88, 89] [(81, 2), (81, 3), (81, 4), (81, 11)] Mb W24 := by rw [hW25]; exact fr_arr hF (by decide)
    exact rec (by lia) _ _  hI27 hF28 trivial
set_option maxHeartbeats 4000000 in
theorem sf_X11_keepDraft {post : MM → Int64 → Prop} {M : MM} {tl : Int64} (hI : Inv M) (hp : ∀ (M1 : MM) (t1 : Int64), Inv M1 → Fr [82, 83, 84, 85, 86, 87, 88, 89] [(81, 2), (81, 3), (81, 4), (81, 11)] M M1 → True → post M1 t1) : wpX11_keepDraft post M tl  := by
  unfold wpX11_keepDraft
  obtain ⟨n1, hn2⟩ := sl_X11_keepDraft_2 (Mb := M) hp  (0 : Int32) (by lia) (by lia)
  exact ⟨n1, hn2 _ _  hI fr_rfl trivial⟩
