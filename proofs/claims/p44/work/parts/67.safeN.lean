set_option maxHeartbeats 4000000 in
theorem sf_X11_isMany {post : Int32 → MM → Int64 → Prop} {M : MM} {tl : Int64} {v0 : Int32} (hI : Inv M) (hp : ∀ (r : Int32), ((r = 0 ∨ r = 1) ∧ (r ≠ 0 → 0 ≤ v0 ∧ v0 < 25)) → post r M tl) : wpX11_isMany post M tl v0 := by
  unfold wpX11_isMany
  refine m_in (v := v0) (lo := 0) (hi := 24) rfl rfl rfl (fun hn1 hn2 => ?_) (fun hn3 => ?_)
  · skip
    refine And.intro (nar_b (by lia)) ?_
    exact hp _ (by lia)
  · skip
    refine And.intro (nar_b (by lia)) ?_
    exact hp _ (by lia)
set_option maxHeartbeats 4000000 in
theorem sf_X11_after {post : Int32 → MM → Int64 → Prop} {M : MM} {tl : Int64} {v1 : Int32} {v2 : Int32} {v3 : Int32} (hI : Inv M) (hp : ∀ (r : Int32) (M1 : MM) (t1 : Int64), Inv M1 → Fr [98, 99, 100, 101, 102, 103] [] M M1 → True → post r M1 t1) : wpX11_after post M tl v1 v2 v3 := by
  unfold wpX11_after
  refine sf_X11_isMany hI  (fun r1 hq2 => ?_)
  refine ifs (fun hc3 => ?_) (fun hc4 => ?_)
  · skip
    exact hp _ _ _ hI fr_rfl trivial
  · skip
    refine sf_X11_isLot hI  (fun r5 hq6 => ?_)
    refine ifs (fun hc7 => ?_) (fun hc8 => ?_)
    · skip
      exact hp _ _ _ hI fr_rfl trivial
    · skip
      refine sf_X11_goRun hI (by lia) (fun M10 t11 hI12 hF13 hq14 => ?_)
      have hF15 : Fr [98, 99, 100, 101, 102, 103] [] M M10 := fr_call fr_rfl hF13 (by decide) (by decide)
      refine And.intro (vpI (c := 16) (by decide) (by lia) (by lia)) ?_
      have hr16 := iv_98 hI12 ((((8 : Int32) * v2) + v3)).toNatClampNeg
      unfold Th at hr16
      exact hp _ _ _ hI12 hF15 trivial
set_option maxHeartbeats 4000000 in
theorem sf_X11_paid {post : Int32 → MM → Int64 → Prop} {M : MM} {tl : Int64} {v1 : Int32} {v2 : Int32} (hI : Inv M) (hp : ∀ (r : Int32) (M1 : MM) (t1 : Int64), Inv M1 → Fr [98, 99, 100, 101, 102, 103] [] M M1 → True → post r M1 t1) : wpX11_paid post M tl v1 v2 := by
  unfold wpX11_paid
  refine sf_X11_isMany hI  (fun r1 hq2 => ?_)
  refine ifs (fun hc3 => ?_) (fun hc4 => ?_)
  · skip
    exact hp _ _ _ hI fr_rfl trivial
  · skip
    refine sf_X11_isBank hI  (fun r5 hq6 => ?_)
    refine ifs (fun hc7 => ?_) (fun hc8 => ?_)
    · skip
      exact hp _ _ _ hI fr_rfl trivial
    · skip
      refine sf_X11_goRun hI (by lia) (fun M10 t11 hI12 hF13 hq14 => ?_)
      have hF15 : Fr [98, 99, 100, 101, 102, 103] [] M M10 := fr_call fr_rfl hF13 (by decide) (by decide)
      refine And.intro (vpI (c := 2) (by decide) (by lia) (by lia)) ?_
      exact hp _ _ _ hI12 hF15 trivial
set_option maxHeartbeats 4000000 in
theorem sl_X11_owes_26 {post : Int32 → MM → Int64 → Prop} {M : MM} {tl : Int64} (hp : ∀ (r : Int32), True → post r M tl) (hI : Inv M) : ∀ v4 : Int32, 0 ≤ v4 → v4 ≤ 8 → ∃ n, ∀ (v2 : Int32) (v3 : Int32), (True) → wX11_owes_26 post n M tl v2 v3 v4 := by
  refine up_ex (P := fun d v4 => ∀ (v2 : Int32) (v3 : Int32), (True) → wX11_owes_26 post d M tl v2 v3 v4) 0 8 ?_
  intro d v4 hlo hhi rec v2 v3 hli
  unfold wX11_owes_26
  have hr1 := iv_81_2 hI
  refine ifs (fun hc2 => ?_) (fun hc3 => ?_)
  · skip
    exact hp _ trivial
  · skip
    refine sf_X11_isEven hI (by lia) (fun r4 hq5 => ?_)
    refine ifs (fun hc6 => ?_) (fun hc7 => ?_)
    · skip
      refine And.intro (vpI (c := 8) (by decide) (by lia) (by lia)) ?_
      refine ifs (fun hc8 => ?_) (fun hc9 => ?_)
      · skip
        refine ifs (fun hc10 => ?_) (fun hc11 => ?_)
        · skip
          unfold wX11_owes_75
          have hm12 : (0 : Int32) ≤ (v4 &&& (31 : Int32)) ∧ (v4 &&& (31 : Int32)) ≤ (31 : Int32) := andc v4 31 (by decide)
          unfold wX11_owes_78
          exact rec (by lia) v2 (v3 ||| ((1 : Int32) <<< (v4 &&& (31 : Int32)))) trivial
        · skip
          refine sf_X11_matchOf hI  (fun r13 hq14 => ?_)
          unfold wX11_owes_75
          have hm15 : (0 : Int32) ≤ (r13 &&& (31 : Int32)) ∧ (r13 &&& (31 : Int32)) ≤ (31 : Int32) := andc r13 31 (by decide)
          unfold wX11_owes_78
          exact rec (by lia) v2 (v3 ||| ((1 : Int32) <<< (r13 &&& (31 : Int32)))) trivial
      · skip
        unfold wX11_owes_78
        exact rec (by lia) v2 v3 trivial
    · skip
      unfold wX11_owes_78
      exact rec (by lia) v2 v3 trivial
set_option maxHeartbeats 4000000 in
theorem sf_X11_owes {post : Int32 → MM → Int64 → Prop} {M : MM} {tl : Int64} {v1 : Int32} {v2 : Int32} (hI : Inv M) (hp : ∀ (r : Int32) (M1 : MM) (t1 : Int64), Inv M1 → Fr [98, 99, 100, 101, 102, 103] [] M M1 → True → post r M1 t1) : wpX11_owes post M tl v1 v2 := by
  unfold wpX11_owes
  refine sf_X11_isMany hI  (fun r1 hq2 => ?_)
  refine ifs (fun hc3 => ?_) (fun hc4 => ?_)
  · skip
    exact hp _ _ _ hI fr_rfl trivial
  · skip
    refine sf_X11_isBank hI  (fun r5 hq6 => ?_)
    refine ifs (fun hc7 => ?_) (fun hc8 => ?_)
    · skip
      exact hp _ _ _ hI fr_rfl trivial
    · skip
      refine sf_X11_goRun hI (by lia) (fun M10 t11 hI12 hF13 hq14 => ?_)
      have hF15 : Fr [98, 99, 100, 101, 102, 103] [] M M10 := fr_call fr_rfl hF13 (by decide) (by decide)
      obtain ⟨n16, hn17⟩ := sl_X11_owes_26 (M := M10) (tl := t11) (fun r hq => hp r _ _ hI12 hF15 hq)  hI12 (0 : Int32) (by lia) (by lia)
      exact ⟨n16, hn17 v2 (0 : Int32) trivial⟩
set_option maxHeartbeats 4000000 in
theorem sf_X11_fate {post : Int32 → MM → Int64 → Prop} {M : MM} {tl : Int64} {v1 : Int32} (hI : Inv M) (hp : ∀ (r : Int32) (M1 : MM) (t1 : Int64), Inv M1 → Fr [98, 99, 100, 101, 102, 103] [] M M1 → True → post r M1 t1) : wpX11_fate post M tl v1 := by
  unfold wpX11_fate
  refine And.intro (vpI (c := 381) (by decide) (by lia) (by lia)) ?_
  have hr1 := r82_16 hI
  refine m_in (v := v1) (lo := 0) (hi := ((M 82 ((16 : Int32)).toNatClampNeg) - (1 : Int32))) rfl rfl rfl (fun hn2 hn3 => ?_) (fun hn4 => ?_)
  · skip
    refine ifn (by decide) ?_
    refine sf_X11_goRun hI (by lia) (fun M6 t7 hI8 hF9 hq10 => ?_)
    have hF11 : Fr [98, 99, 100, 101, 102, 103] [] M M6 := fr_call fr_rfl hF9 (by decide) (by decide)
    refine And.intro (vpI (c := 12) (by decide) (by lia) (by lia)) ?_
    exact hp _ _ _ hI8 hF11 trivial
  · skip
    refine ifp (by decide) ?_
    exact hp _ _ _ hI fr_rfl trivial
set_option maxHeartbeats 4000000 in
theorem sl_X11_go_49 {post : Int32 → MM → Int64 → Prop} {Mb : MM} (hp : ∀ (r : Int32) (M1 : MM) (t1 : Int64), Inv M1 → Fr [82, 98, 99, 100, 101, 102, 103] [] Mb M1 → True → post r M1 t1) : ∀ v2 : Int32, 0 ≤ v2 → v2 ≤ 16 → ∃ n, ∀ (M : MM) (tl : Int64) (v1 : Int32), Inv M → Fr [82, 98, 99, 100, 101, 102, 103] [] Mb M → (True) → wX11_go_49 post n M tl v1 v2 := by
  refine up_ex (P := fun d v2 => ∀ (M : MM) (tl : Int64) (v1 : Int32), Inv M → Fr [82, 98, 99, 100, 101, 102, 103] [] Mb M → (True) → wX11_go_49 post d M tl v1 v2) 0 16 ?_
  intro d v2 hlo hhi rec M tl v1 hI hF hli
  unfold wX11_go_49
  refine ifs (fun hc1 => ?_) (fun hc2 => ?_)
  · skip
    refine And.intro (vpI (c := 381) (by decide) (by lia) (by lia)) ?_
    intro W3 hW4
    have hI5 : Inv W3 := by rw [hW4]; exact w82_16 hI _ ⟨by lia, by lia⟩
    have hF6 : Fr [82, 98, 99, 100, 101, 102, 103] [] Mb W3 := by rw [hW4]; exact fr_arr hF (by decide)
    exact hp _ _ _ hI5 hF6 trivial
  · skip
    refine And.intro (vpI (c := 16) (by decide) (by lia) (by lia)) ?_
    refine And.intro (vpI (c := 381) (by decide) (by lia) (by lia)) ?_
    have hr9 := iv_98 hI (v2).toNatClampNeg
    unfold Th at hr9
    intro W7 hW8
    have hI10 : Inv W7 := by rw [hW8]; exact w82_th hI _ _ (by lia) (by lia) (by unfold Th; lia)
    have hF11 : Fr [82, 98, 99, 100, 101, 102, 103] [] Mb W7 := by rw [hW8]; exact fr_arr hF (by decide)
    exact rec (by lia) _ _ v1 hI10 hF11 trivial
set_option maxHeartbeats 4000000 in
theorem sl_X11_go_10 {post : Int32 → MM → Int64 → Prop} {Mb : MM} (hp : ∀ (r : Int32) (M1 : MM) (t1 : Int64), Inv M1 → Fr [82, 98, 99, 100, 101, 102, 103] [] Mb M1 → True → post r M1 t1) : ∀ v2 : Int32, 0 ≤ v2 → v2 ≤ 12 → ∃ n, ∀ (M : MM) (tl : Int64) (v1 : Int32), Inv M → Fr [82, 98, 99, 100, 101, 102, 103] [] Mb M → (True) → wX11_go_10 post n M tl v1 v2 := by
  refine up_ex (P := fun d v2 => ∀ (M : MM) (tl : Int64) (v1 : Int32), Inv M → Fr [82, 98, 99, 100, 101, 102, 103] [] Mb M → (True) → wX11_go_10 post d M tl v1 v2) 0 12 ?_
  intro d v2 hlo hhi rec M tl v1 hI hF hli
  unfold wX11_go_10
  refine And.intro (vpI (c := 381) (by decide) (by lia) (by lia)) ?_
  have hr1 := r82_16 hI
  refine ifs (fun hc2 => ?_) (fun hc3 => ?_)
  · skip
    obtain ⟨n4, hn5⟩ := sl_X11_go_49 (Mb := Mb) hp  (0 : Int32) (by lia) (by lia)
    exact ⟨n4, hn5 _ _ v1 hI hF trivial⟩
  · skip
    refine And.intro (vpI (c := 12) (by decide) (by lia) (by lia)) ?_
    refine ifs (fun hc6 => ?_) (fun hc7 => ?_)
    · skip
      unfold wX11_go_36
      refine sf_X11_flag hI  (fun r8 hq9 => ?_)
      exact rec (by lia) _ _ (v1 + r8) hI hF trivial
    · skip
      unfold wX11_go_36
      refine sf_X11_flag hI  (fun r10 hq11 => ?_)
      exact rec (by lia) _ _ (v1 + r10) hI hF trivial
set_option maxHeartbeats 4000000 in
theorem sf_X11_go {post : Int32 → MM → Int64 → Prop} {M : MM} {tl : Int64} (hI : Inv M) (hp : ∀ (r : Int32) (M1 : MM) (t1 : Int64), Inv M1 → Fr [82, 98, 99, 100, 101, 102, 103] [] M M1 → True → post r M1 t1) : wpX11_go post M tl  := by
  unfold wpX11_go
  refine sf_X11_goRun hI (by lia) (fun M2 t3 hI4 hF5 hq6 => ?_)
  have hF7 : Fr [82, 98, 99, 100, 101, 102, 103] [] M M2 := fr_call fr_rfl hF5 (by decide) (by decide)
  obtain ⟨n8, hn9⟩ := sl_X11_go_10 (Mb := M) hp  (0 : Int32) (by lia) (by lia)
  exact ⟨n8, hn9 _ _ (0 : Int32) hI4 hF7 trivial⟩
set_option maxHeartbeats 4000000 in
theorem sf_X11_look {post : Int32 → MM → Int64 → Prop} {M : MM} {tl : Int64} {v1 : Int32} (hI : Inv M) (hp1 : 0 ≤ v1) (hp : ∀ (r : Int32), (r = -1 ∨ v1 < M 81 31) → post r M tl) : wpX11_look post M tl v1 := by
  unfold wpX11_look
  have hr1 := iv_81_31 hI
  refine ifs (fun hc2 => ?_) (fun hc3 => ?_)
  · skip
    exact hp _ (by lia)
  · skip
    refine And.intro (vpI (c := 400) (by decide) (by lia) (by lia)) ?_
    exact hp _ (by lia)
set_option maxHeartbeats 4000000 in
theorem sf_X11_needs {post : MM → Int64 → Prop} {M : MM} {tl : Int64} {v1 : Int32} {v2 : Int32} (hI : Inv M) (hp1 : 1 ≤ v2 ∧ v2 ≤ 6) (hp : ∀ (M1 : MM) (t1 : Int64), Inv M1 → Fr [] [(81, 36), (81, 37)] M M1 → (v1 ≠ 0 ∨ M1 81 36 ≠ 0) ∧ (M 81 36 = 0 ∨ M1 81 36 ≠ 0) ∧ (v1 = 0 ∨ M1 81 36 = M 81 36) → post M1 t1) : wpX11_needs post M tl v1 v2 := by
  unfold wpX11_needs
  refine ifs (fun hc1 => ?_) (fun hc2 => ?_)
  · skip
    have hr3 := iv_81_36 hI
    refine ifs (fun hc4 => ?_) (fun hc5 => ?_)
    · skip
      intro W6 hW7
      have hI8 : Inv W6 := by rw [hW7]; exact inv_set hI (show 0 ≤ v2 ∧ v2 ≤ 6 from ⟨by lia, by lia⟩)
      have hF9 : Fr [] [(81, 36), (81, 37)] M W6 := by rw [hW7]; exact fr_fld fr_rfl (by decide)
      have hv10 : W6 81 36 = v2 := by rw [hW7]; exact mset_at _ _ _ _
      have hx13 : W6 81 33 = M 81 33 := by rw [hW7, mset_nk (by decide)]
      have hr14 := iv_81_33 hI
      have hr15 := iv_81_33 hI8
      intro W11 hW12
      have hI16 : Inv W11 := by rw [hW12]; exact inv_set hI8 (i_any _)
      have hF17 : Fr [] [(81, 36), (81, 37)] M W11 := by rw [hW12]; exact fr_fld hF9 (by decide)
      have hv18 : W11 81 37 = (W6 81 33) := by rw [hW12]; exact mset_at _ _ _ _
      have hx19 : W11 81 32 = W6 81 32 := by rw [hW12, mset_nk (by decide)]
      have hx20 : W6 81 32 = M 81 32 := by rw [hW7, mset_nk (by decide)]
      have hx21 : W11 81 32 = W6 81 32 := by rw [hW12, mset_nk (by decide)]
      have hr22 := iv_81_32 hI8
      have hx23 : W6 81 32 = M 81 32 := by rw [hW7, mset_nk (by decide)]
      have hr24 := iv_81_32 hI
      have hr25 := iv_81_32 hI16
      have hx26 : W11 81 34 = W6 81 34 := by rw [hW12, mset_nk (by decide)]
      have hx27 : W6 81 34 = M 81 34 := by rw [hW7, mset_nk (by decide)]
      have hx28 : W11 81 34 = W6 81 34 := by rw [hW12, mset_nk (by decide)]
      have hx29 : W6 81 34 = M 81 34 := by rw [hW7, mset_nk (by decide)]
      have hx30 : W11 81 36 = W6 81 36 := by rw [hW12, mset_nk (by decide)]
      have hx31 : W11 81 36 = W6 81 36 := by rw [hW12, mset_nk (by decide)]
      have hr32 := iv_81_36 hI8
      have hr33 := iv_81_36 hI16
      exact hp _ _ hI16 hF17 (by lia)
    · skip
      have hr34 := iv_81_32 hI
      exact hp _ _ hI fr_rfl (by lia)
  · skip
    have hr35 := iv_81_32 hI
    have hr36 := iv_81_36 hI
    exact hp _ _ hI fr_rfl (by lia)
set_option maxHeartbeats 4000000 in
theorem sl_X11_next_82 {post : MM → Int64 → Prop} {Mb : MM} (hp : ∀ (M1 : MM) (t1 : Int64), Inv M1 → Fr [] [(81, 32), (81, 33), (81, 34), (81, 35), (81, 36), (81, 37)] Mb M1 → Mb 81 32 ≤ M1 81 32 ∧ (Mb 81 36 = 0 ∨ M1 81 36 ≠ 0) ∧ (M1 81 36 ≠ 0 ∨ M1 81 34 ≠ 3 ∨ Mb 81 32 < M1 81 32) → post M1 t1) (hex : Mb 81 36 = 0) : ∀ (M : MM) (tl : Int64), Inv M → Fr [] [(81, 32), (81, 33), (81, 34), (81, 35), (81, 36), (81, 37)] Mb M → (Mb 81 32 ≤ M 81 32 ∧ M 81 34 = 1) → wX11_next_82 post (400 + 1) M tl := by
  intro M tl hI hF hli
  refine cell_ex (P := fun d M tl => wX11_next_82 post d M tl) (D := fun M => Inv M ∧ Fr [] [(81, 32), (81, 33), (81, 34), (81, 35), (81, 36), (81, 37)] Mb M ∧ (Mb 81 32 ≤ M 81 32 ∧ M 81 34 = 1)) 81 32 400 (by decide) (fun M h => iv_81_32 h.1) ?_ M tl ⟨hI, hF, hli⟩
  clear hI hF tl hli M
  intro d M tl hD rec
  obtain ⟨hI, hF, hli⟩ := hD
  unfold wX11_next_82
  have hr1 := iv_81_32 hI
  refine sf_X11_look hI (by lia) (fun r2 hq3 => ?_)
  have hr4 := iv_81_31 hI
  refine m_in (v := r2) (lo := 97) (hi := 122) rfl rfl rfl (fun hn5 hn6 => ?_) (fun hn7 => ?_)
  · skip
    refine ifn (by decide) ?_
    intro W8 hW9
    have hI10 : Inv W8 := by rw [hW9]; exact inv_set hI (show 0 ≤ ((M 81 32) + (1 : Int32)) ∧ ((M 81 32) + (1 : Int32)) ≤ 400 from ⟨by lia, by lia⟩)
    have hF11 : Fr [] [(81, 32), (81, 33), (81, 34), (81, 35), (81, 36), (81, 37)] Mb W8 := by rw [hW9]; exact fr_fld hF (by decide)
    have hv12 : W8 81 32 = ((M 81 32) + (1 : Int32)) := by rw [hW9]; exact mset_at _ _ _ _
    have hx13 : W8 81 34 = M 81 34 := by rw [hW9, mset_nk (by decide)]
    have hx14 : W8 81 36 = M 81 36 := by rw [hW9, mset_nk (by decide)]
    exact rec _ _ ⟨hI10, hF11, by lia⟩ (by lia)
  · skip
    refine ifp (by decide) ?_
    have hr15 := iv_81_36 hI
    exact hp _ _ hI hF (by lia)
set_option maxHeartbeats 4000000 in
theorem sl_X11_next_140 {post : MM → Int64 → Prop} {Mb : MM} (hp : ∀ (M1 : MM) (t1 : Int64), Inv M1 → Fr [] [(81, 32), (81, 33), (81, 34), (81, 35), (81, 36), (81, 37)] Mb M1 → Mb 81 32 ≤ M1 81 32 ∧ (Mb 81 36 = 0 ∨ M1 81 36 ≠ 0) ∧ (M1 81 36 ≠ 0 ∨ M1 81 34 ≠ 3 ∨ Mb 81 32 < M1 81 32) → post M1 t1) (hex : Mb 81 36 = 0) : ∀ (M : MM) (tl : Int64), Inv M → Fr [] [(81, 32), (81, 33), (81, 34), (81, 35), (81, 36), (81, 37)] Mb M → (Mb 81 32 ≤ M 81 32 ∧ M 81 34 = 2) → wX11_next_140 post (400 + 1) M tl := by
  intro M tl hI hF hli
  refine cell_ex (P := fun d M tl => wX11_next_140 post d M tl) (D := fun M => Inv M ∧ Fr [] [(81, 32), (81, 33), (81, 34), (81, 35), (81, 36), (81, 37)] Mb M ∧ (Mb 81 32 ≤ M 81 32 ∧ M 81 34 = 2)) 81 32 400 (by decide) (fun M h => iv_81_32 h.1) ?_ M tl ⟨hI, hF, hli⟩
  clear hI hF tl hli M
  intro d M tl hD rec
  obtain ⟨hI, hF, hli⟩ := hD
  unfold wX11_next_140
  have hr1 := iv_81_32 hI
  refine sf_X11_look hI (by lia) (fun r2 hq3 => ?_)
  have hr4 := iv_81_31 hI
  refine m_in (v := r2) (lo := 48) (hi := 57) rfl rfl rfl (fun hn5 hn6 => ?_) (fun hn7 => ?_)
  · skip
    refine ifn (by decide) ?_
    have hr8 := iv_81_33 hI
    refine ifs (fun hc9 => ?_) (fun hc10 => ?_)
    · skip
      unfold wX11_next_201
      intro W11 hW12
      have hI13 : Inv W11 := by rw [hW12]; exact inv_set hI (i_any _)
      have hF14 : Fr [] [(81, 32), (81, 33), (81, 34), (81, 35), (81, 36), (81, 37)] Mb W11 := by rw [hW12]; exact fr_fld hF (by decide)
      have hv15 : W11 81 35 = (M 81 35) := by rw [hW12]; exact mset_at _ _ _ _
      have hx18 : W11 81 32 = M 81 32 := by rw [hW12, mset_nk (by decide)]
      have hx19 : W11 81 32 = M 81 32 := by rw [hW12, mset_nk (by decide)]
      have hr20 := iv_81_32 hI
      have hr21 := iv_81_32 hI13
      intro W16 hW17
      have hI22 : Inv W16 := by rw [hW17]; exact inv_set hI13 (show 0 ≤ ((W11 81 32) + (1 : Int32)) ∧ ((W11 81 32) + (1 : Int32)) ≤ 400 from ⟨by lia, by lia⟩)
      have hF23 : Fr [] [(81, 32), (81, 33), (81, 34), (81, 35), (81, 36), (81, 37)] Mb W16 := by rw [hW17]; exact fr_fld hF14 (by decide)
      have hv24 : W16 81 32 = ((W11 81 32) + (1 : Int32)) := by rw [hW17]; exact mset_at _ _ _ _
      have hx25 : W16 81 34 = W11 81 34 := by rw [hW17, mset_nk (by decide)]
      have hx26 : W11 81 34 = M 81 34 := by rw [hW12, mset_nk (by decide)]
      have hx27 : W16 81 36 = W11 81 36 := by rw [hW17, mset_nk (by decide)]
      have hx28 : W11 81 36 = M 81 36 := by rw [hW12, mset_nk (by decide)]
      exact rec _ _ ⟨hI22, hF23, by lia⟩ (by lia)
    · skip
      refine sf_X11_look hI (by lia) (fun r29 hq30 => ?_)
      have hr31 := iv_81_31 hI
      unfold wX11_next_201
      intro W32 hW33
      have hI34 : Inv W32 := by rw [hW33]; exact inv_set hI (i_any _)
      have hF35 : Fr [] [(81, 32), (81, 33), (81, 34), (81, 35), (81, 36), (81, 37)] Mb W32 := by rw [hW33]; exact fr_fld hF (by decide)
      have hv36 : W32 81 35 = ((((10 : Int32) * (M 81 35)) + r29) - (48 : Int32)) := by rw [hW33]; exact mset_at _ _ _ _
      have hx39 : W32 81 32 = M 81 32 := by rw [hW33, mset_nk (by decide)]
      have hx40 : W32 81 32 = M 81 32 := by rw [hW33, mset_nk (by decide)]
      have hr41 := iv_81_32 hI
      have hr42 := iv_81_32 hI34
      intro W37 hW38
      have hI43 : Inv W37 := by rw [hW38]; exact inv_set hI34 (show 0 ≤ ((W32 81 32) + (1 : Int32)) ∧ ((W32 81 32) + (1 : Int32)) ≤ 400 from ⟨by lia, by lia⟩)
      have hF44 : Fr [] [(81, 32), (81, 33), (81, 34), (81, 35), (81, 36), (81, 37)] Mb W37 := by rw [hW38]; exact fr_fld hF35 (by decide)
      have hv45 : W37 81 32 = ((W32 81 32) + (1 : Int32)) := by rw [hW38]; exact mset_at _ _ _ _
      have hx46 : W37 81 34 = W32 81 34 := by rw [hW38, mset_nk (by decide)]
      have hx47 : W32 81 34 = M 81 34 := by rw [hW33, mset_nk (by decide)]
      have hx48 : W37 81 36 = W32 81 36 := by rw [hW38, mset_nk (by decide)]
      have hx49 : W32 81 36 = M 81 36 := by rw [hW33, mset_nk (by decide)]
      exact rec _ _ ⟨hI43, hF44, by lia⟩ (by lia)
  · skip
    refine ifp (by decide) ?_
    have hr50 := iv_81_33 hI
    refine ifs (fun hc51 => ?_) (fun hc52 => ?_)
    · skip
      unfold wX11_next_236
      refine sf_X11_needs hI (by lia) (fun M54 t55 hI56 hF57 hq58 => ?_)
      have hF59 : Fr [] [(81, 32), (81, 33), (81, 34), (81, 35), (81, 36), (81, 37)] Mb M54 := fr_call hF hF57 (by decide) (by decide)
      have hx60 : M54 81 32 = M 81 32 := hF57 81 32 (by decide) (by decide)
      have hx61 : M54 81 32 = M 81 32 := hF57 81 32 (by decide) (by decide)
      have hr62 := iv_81_32 hI
      have hr63 := iv_81_32 hI56
      have hx64 : M54 81 34 = M 81 34 := hF57 81 34 (by decide) (by decide)
      have hx65 : M54 81 34 = M 81 34 := hF57 81 34 (by decide) (by decide)
      have hr66 := iv_81_36 hI56
      exact hp _ _ hI56 hF59 (by lia)
    · skip
      unfold wX11_next_236
      refine sf_X11_needs hI (by lia) (fun M68 t69 hI70 hF71 hq72 => ?_)
      have hF73 : Fr [] [(81, 32), (81, 33), (81, 34), (81, 35), (81, 36), (81, 37)] Mb M68 := fr_call hF hF71 (by decide) (by decide)
      have hx74 : M68 81 32 = M 81 32 := hF71 81 32 (by decide) (by decide)
      have hx75 : M68 81 32 = M 81 32 := hF71 81 32 (by decide) (by decide)
      have hr76 := iv_81_32 hI
      have hr77 := iv_81_32 hI70
      have hx78 : M68 81 34 = M 81 34 := hF71 81 34 (by decide) (by decide)
      have hx79 : M68 81 34 = M 81 34 := hF71 81 34 (by decide) (by decide)
      have hr80 := iv_81_36 hI70
      exact hp _ _ hI70 hF73 (by lia)
set_option maxHeartbeats 4000000 in
theorem sl_X11_next_8 {post : MM → Int64 → Prop} {Mb : MM} (hp : ∀ (M1 : MM) (t1 : Int64), Inv M1 → Fr [] [(81, 32), (81, 33), (81, 34), (81, 35), (81, 36), (81, 37)] Mb M1 → Mb 81 32 ≤ M1 81 32 ∧ (Mb 81 36 = 0 ∨ M1 81 36 ≠ 0) ∧ (M1 81 36 ≠ 0 ∨ M1 81 34 ≠ 3 ∨ Mb 81 32 < M1 81 32) → post M1 t1) (hex : Mb 81 36 = 0) : ∀ (M : MM) (tl : Int64), Inv M → Fr [] [(81, 32), (81, 33), (81, 34), (81, 35), (81, 36), (81, 37)] Mb M → Mb 81 32 ≤ M 81 32 → wX11_next_8 post (400 + 1) M tl := by
  intro M tl hI hF hli
  refine cell_ex (P := fun d M tl => wX11_next_8 post d M tl) (D := fun M => Inv M ∧ Fr [] [(81, 32), (81, 33), (81, 34), (81, 35), (81, 36), (81, 37)] Mb M ∧ Mb 81 32 ≤ M 81 32) 81 32 400 (by decide) (fun M h => iv_81_32 h.1) ?_ M tl ⟨hI, hF, hli⟩
  clear hI hF tl hli M
  intro d M tl hD rec
  obtain ⟨hI, hF, hli⟩ := hD
  unfold wX11_next_8
  have hr1 := iv_81_32 hI
  refine sf_X11_look hI (by lia) (fun r2 hq3 => ?_)
  have hr4 := iv_81_31 hI
  refine ifs (fun hc5 => ?_) (fun hc6 => ?_)
  · skip
    intro W7 hW8
    have hI9 : Inv W7 := by rw [hW8]; exact inv_set hI (show 0 ≤ ((M 81 32) + (1 : Int32)) ∧ ((M 81 32) + (1 : Int32)) ≤ 400 from ⟨by lia, by lia⟩)
    have hF10 : Fr [] [(81, 32), (81, 33), (81, 34), (81, 35), (81, 36), (81, 37)] Mb W7 := by rw [hW8]; exact fr_fld hF (by decide)
    have hv11 : W7 81 32 = ((M 81 32) + (1 : Int32)) := by rw [hW8]; exact mset_at _ _ _ _
    have hx12 : W7 81 34 = M 81 34 := by rw [hW8, mset_nk (by decide)]
    have hx13 : W7 81 36 = M 81 36 := by rw [hW8, mset_nk (by decide)]
    exact rec _ _ ⟨hI9, hF10, by lia⟩ (by lia)
  · skip
    intro W14 hW15
    have hI16 : Inv W14 := by rw [hW15]; exact inv_set hI (show 0 ≤ (M 81 32) ∧ (M 81 32) ≤ 400 from ⟨by lia, by lia⟩)
    have hF17 : Fr [] [(81, 32), (81, 33), (81, 34), (81, 35), (81, 36), (81, 37)] Mb W14 := by rw [hW15]; exact fr_fld hF (by decide)
    have hv18 : W14 81 33 = (M 81 32) := by rw [hW15]; exact mset_at _ _ _ _
    have hx19 : W14 81 32 = M 81 32 := by rw [hW15, mset_nk (by decide)]
    have hx20 : W14 81 32 = M 81 32 := by rw [hW15, mset_nk (by decide)]
    have hr21 := iv_81_32 hI
    have hr22 := iv_81_32 hI16
    refine sf_X11_look hI16 (by lia) (fun r23 hq24 => ?_)
    have hr25 := iv_81_31 hI16
    refine ifs (fun hc26 => ?_) (fun hc27 => ?_)
    · skip
      refine m_in (v := r23) (lo := 97) (hi := 122) rfl rfl rfl (fun hn28 hn29 => ?_) (fun hn30 => ?_)
      · skip
        refine ifn (by decide) ?_
        intro W31 hW32
        have hI33 : Inv W31 := by rw [hW32]; exact inv_set hI16 (i_any _)
        have hF34 : Fr [] [(81, 32), (81, 33), (81, 34), (81, 35), (81, 36), (81, 37)] Mb W31 := by rw [hW32]; exact fr_fld hF17 (by decide)
        have hv35 : W31 81 34 = (1 : Int32) := by rw [hW32]; exact mset_at _ _ _ _
        have hx36 : W31 81 32 = W14 81 32 := by rw [hW32, mset_nk (by decide)]
        have hx37 : W14 81 34 = M 81 34 := by rw [hW15, mset_nk (by decide)]
        have hx38 : W31 81 36 = W14 81 36 := by rw [hW32, mset_nk (by decide)]
        have hx39 : W14 81 36 = M 81 36 := by rw [hW15, mset_nk (by decide)]
        exact ⟨400 + 1, sl_X11_next_82 (Mb := Mb) hp (by lia) _ _ hI33 hF34 (by lia)⟩
      · skip
        refine ifp (by decide) ?_
        refine m_in (v := r23) (lo := 48) (hi := 57) rfl rfl rfl (fun hn40 hn41 => ?_) (fun hn42 => ?_)
        · skip
          refine ifn (by decide) ?_
          intro W43 hW44
          have hI45 : Inv W43 := by rw [hW44]; exact inv_set hI16 (i_any _)
          have hF46 : Fr [] [(81, 32), (81, 33), (81, 34), (81, 35), (81, 36), (81, 37)] Mb W43 := by rw [hW44]; exact fr_fld hF17 (by decide)
          have hv47 : W43 81 34 = (2 : Int32) := by rw [hW44]; exact mset_at _ _ _ _
          intro W48 hW49
          have hI50 : Inv W48 := by rw [hW49]; exact inv_set hI45 (i_any _)
          have hF51 : Fr [] [(81, 32), (81, 33), (81, 34), (81, 35), (81, 36), (81, 37)] Mb W48 := by rw [hW49]; exact fr_fld hF46 (by decide)
          have hv52 : W48 81 35 = (0 : Int32) := by rw [hW49]; exact mset_at _ _ _ _
          have hx53 : W48 81 32 = W43 81 32 := by rw [hW49, mset_nk (by decide)]
          have hx54 : W43 81 32 = W14 81 32 := by rw [hW44, mset_nk (by decide)]
          have hx55 : W48 81 34 = W43 81 34 := by rw [hW49, mset_nk (by decide)]
          have hx56 : W14 81 34 = M 81 34 := by rw [hW15, mset_nk (by decide)]
          have hx57 : W48 81 36 = W43 81 36 := by rw [hW49, mset_nk (by decide)]
          have hx58 : W43 81 36 = W14 81 36 := by rw [hW44, mset_nk (by decide)]
          have hx59 : W14 81 36 = M 81 36 := by rw [hW15, mset_nk (by decide)]
          exact ⟨400 + 1, sl_X11_next_140 (Mb := Mb) hp (by lia) _ _ hI50 hF51 (by lia)⟩
        · skip
          refine ifp (by decide) ?_
          intro W60 hW61
          have hI62 : Inv W60 := by rw [hW61]; exact inv_set hI16 (i_any _)
          have hF63 : Fr [] [(81, 32), (81, 33), (81, 34), (81, 35), (81, 36), (81, 37)] Mb W60 := by rw [hW61]; exact fr_fld hF17 (by decide)
          have hv64 : W60 81 34 = (3 : Int32) := by rw [hW61]; exact mset_at _ _ _ _
          refine ifs (fun hc65 => ?_) (fun hc66 => ?_)
          · skip
            unfold wX11_next_260
            refine sf_X11_needs hI62 (by lia) (fun M68 t69 hI70 hF71 hq72 => ?_)
            have hF73 : Fr [] [(81, 32), (81, 33), (81, 34), (81, 35), (81, 36), (81, 37)] Mb M68 := fr_call hF63 hF71 (by decide) (by decide)
            have hx76 : M68 81 32 = W60 81 32 := hF71 81 32 (by decide) (by decide)
            have hx77 : W60 81 32 = W14 81 32 := by rw [hW61, mset_nk (by decide)]
            have hx78 : M68 81 32 = W60 81 32 := hF71 81 32 (by decide) (by decide)
            have hr79 := iv_81_32 hI62
            have hx80 : W60 81 32 = W14 81 32 := by rw [hW61, mset_nk (by decide)]
            have hr81 := iv_81_32 hI16
            have hx82 : W14 81 32 = M 81 32 := by rw [hW15, mset_nk (by decide)]
            have hr83 := iv_81_32 hI
            have hr84 := iv_81_32 hI70
            intro W74 hW75
            have hI85 : Inv W74 := by rw [hW75]; exact inv_set hI70 (show 0 ≤ ((M68 81 32) + (1 : Int32)) ∧ ((M68 81 32) + (1 : Int32)) ≤ 400 from ⟨by lia, by lia⟩)
            have hF86 : Fr [] [(81, 32), (81, 33), (81, 34), (81, 35), (81, 36), (81, 37)] Mb W74 := by rw [hW75]; exact fr_fld hF73 (by decide)
            have hv87 : W74 81 32 = ((M68 81 32) + (1 : Int32)) := by rw [hW75]; exact mset_at _ _ _ _
            have hr88 := iv_81_32 hI85
            have hx89 : W74 81 34 = M68 81 34 := by rw [hW75, mset_nk (by decide)]
            have hx90 : M68 81 34 = W60 81 34 := hF71 81 34 (by decide) (by decide)
            have hx91 : W14 81 34 = M 81 34 := by rw [hW15, mset_nk (by decide)]
            have hx92 : W74 81 34 = M68 81 34 := by rw [hW75, mset_nk (by decide)]
            have hx93 : M68 81 34 = W60 81 34 := hF71 81 34 (by decide) (by decide)
            have hx94 : W74 81 36 = M68 81 36 := by rw [hW75, mset_nk (by decide)]
            have hx95 : W60 81 36 = W14 81 36 := by rw [hW61, mset_nk (by decide)]
            have hx96 : W14 81 36 = M 81 36 := by rw [hW15, mset_nk (by decide)]
            have hx97 : W74 81 36 = M68 81 36 := by rw [hW75, mset_nk (by decide)]
            have hr98 := iv_81_36 hI70
            have hr99 := iv_81_36 hI85
            exact hp _ _ hI85 hF86 (by lia)
          · skip
            unfold wX11_next_260
            refine sf_X11_needs hI62 (by lia) (fun M101 t102 hI103 hF104 hq105 => ?_)
            have hF106 : Fr [] [(81, 32), (81, 33), (81, 34), (81, 35), (81, 36), (81, 37)] Mb M101 := fr_call hF63 hF104 (by decide) (by decide)
            have hx109 : M101 81 32 = W60 81 32 := hF104 81 32 (by decide) (by decide)
            have hx110 : W60 81 32 = W14 81 32 := by rw [hW61, mset_nk (by decide)]
            have hx111 : M101 81 32 = W60 81 32 := hF104 81 32 (by decide) (by decide)
            have hr112 := iv_81_32 hI62
            have hx113 : W60 81 32 = W14 81 32 := by rw [hW61, mset_nk (by decide)]
            have hr114 := iv_81_32 hI16
            have hx115 : W14 81 32 = M 81 32 := by rw [hW15, mset_nk (by decide)]
            have hr116 := iv_81_32 hI
            have hr117 := iv_81_32 hI103
            intro W107 hW108
            have hI118 : Inv W107 := by rw [hW108]; exact inv_set hI103 (show 0 ≤ ((M101 81 32) + (1 : Int32)) ∧ ((M101 81 32) + (1 : Int32)) ≤ 400 from ⟨by lia, by lia⟩)
            have hF119 : Fr [] [(81, 32), (81, 33), (81, 34), (81, 35), (81, 36), (81, 37)] Mb W107 := by rw [hW108]; exact fr_fld hF106 (by decide)
            have hv120 : W107 81 32 = ((M101 81 32) + (1 : Int32)) := by rw [hW108]; exact mset_at _ _ _ _
            have hr121 := iv_81_32 hI118
            have hx122 : W107 81 34 = M101 81 34 := by rw [hW108, mset_nk (by decide)]
            have hx123 : M101 81 34 = W60 81 34 := hF104 81 34 (by decide) (by decide)
            have hx124 : W14 81 34 = M 81 34 := by rw [hW15, mset_nk (by decide)]
            have hx125 : W107 81 34 = M101 81 34 := by rw [hW108, mset_nk (by decide)]
            have hx126 : M101 81 34 = W60 81 34 := hF104 81 34 (by decide) (by decide)
            have hx127 : W107 81 36 = M101 81 36 := by rw [hW108, mset_nk (by decide)]
            have hx128 : W60 81 36 = W14 81 36 := by rw [hW61, mset_nk (by decide)]
            have hx129 : W14 81 36 = M 81 36 := by rw [hW15, mset_nk (by decide)]
            have hx130 : W107 81 36 = M101 81 36 := by rw [hW108, mset_nk (by decide)]
            have hr131 := iv_81_36 hI103
            have hr132 := iv_81_36 hI118
            exact hp _ _ hI118 hF119 (by lia)
    · skip
      intro W133 hW134
      have hI135 : Inv W133 := by rw [hW134]; exact inv_set hI16 (i_any _)
      have hF136 : Fr [] [(81, 32), (81, 33), (81, 34), (81, 35), (81, 36), (81, 37)] Mb W133 := by rw [hW134]; exact fr_fld hF17 (by decide)
      have hv137 : W133 81 34 = (0 : Int32) := by rw [hW134]; exact mset_at _ _ _ _
      have hx138 : W133 81 32 = W14 81 32 := by rw [hW134, mset_nk (by decide)]
      have hx139 : W133 81 32 = W14 81 32 := by rw [hW134, mset_nk (by decide)]
      have hr140 := iv_81_32 hI16
      have hx141 : W14 81 32 = M 81 32 := by rw [hW15, mset_nk (by decide)]
      have hr142 := iv_81_32 hI
      have hr143 := iv_81_32 hI135
      have hx144 : W14 81 34 = M 81 34 := by rw [hW15, mset_nk (by decide)]
      have hx145 : W133 81 36 = W14 81 36 := by rw [hW134, mset_nk (by decide)]
      have hx146 : W14 81 36 = M 81 36 := by rw [hW15, mset_nk (by decide)]
      have hx147 : W133 81 36 = W14 81 36 := by rw [hW134, mset_nk (by decide)]
      have hr148 := iv_81_36 hI16
      have hx149 : W14 81 36 = M 81 36 := by rw [hW15, mset_nk (by decide)]
      have hr150 := iv_81_36 hI
      have hr151 := iv_81_36 hI135
      exact hp _ _ hI135 hF136 (by lia)
set_option maxHeartbeats 4000000 in
theorem sf_X11_next {post : MM → Int64 → Prop} {M : MM} {tl : Int64} (hI : Inv M) (hp : ∀ (M1 : MM) (t1 : Int64), Inv M1 → Fr [] [(81, 32), (81, 33), (81, 34), (81, 35), (81, 36), (81, 37)] M M1 → M 81 32 ≤ M1 81 32 ∧ (M 81 36 = 0 ∨ M1 81 36 ≠ 0) ∧ (M1 81 36 ≠ 0 ∨ M1 81 34 ≠ 3 ∨ M 81 32 < M1 81 32) → post M1 t1) : wpX11_next post M tl  := by
  unfold wpX11_next
  have hr1 := iv_81_36 hI
  refine ifs (fun hc2 => ?_) (fun hc3 => ?_)
  · skip
    exact ⟨400 + 1, sl_X11_next_8 (Mb := M) hp (by lia) _ _ hI fr_rfl (by lia)⟩
  · skip
    have hr4 := iv_81_32 hI
    exact hp _ _ hI fr_rfl (by lia)
set_option maxHeartbeats 4000000 in
theorem sf_X11_is {post : Int32 → MM → Int64 → Prop} {M : MM} {tl : Int64} {v1 : Int32} {v2 : Int32} {v3 : Int32} {v4 : Int32} {v5 : Int32} (hI : Inv M) (hp : ∀ (r : Int32), (r = 0 ∨ r = 1) → post r M tl) : wpX11_is post M tl v1 v2 v3 v4 v5 := by
  unfold wpX11_is
  have hr1 := iv_81_32 hI
  have hr2 := iv_81_33 hI
  refine ifs (fun hc3 => ?_) (fun hc4 => ?_)
  · skip
    refine sf_X11_look hI (by lia) (fun r5 hq6 => ?_)
    have hr7 := iv_81_31 hI
    refine ifs (fun hc8 => ?_) (fun hc9 => ?_)
    · skip
      refine sf_X11_look hI (by lia) (fun r10 hq11 => ?_)
      have hr12 := iv_81_31 hI
      refine ifs (fun hc13 => ?_) (fun hc14 => ?_)
      · skip
        refine sf_X11_look hI (by lia) (fun r15 hq16 => ?_)
        have hr17 := iv_81_31 hI
        refine ifs (fun hc18 => ?_) (fun hc19 => ?_)
        · skip
          refine sf_X11_look hI (by lia) (fun r20 hq21 => ?_)
          have hr22 := iv_81_31 hI
          refine ifs (fun hc23 => ?_) (fun hc24 => ?_)
          · skip
            exact hp _ (by lia)
          · skip
            exact hp _ (by lia)
        · skip
          exact hp _ (by lia)
      · skip
        exact hp _ (by lia)
    · skip
      exact hp _ (by lia)
  · skip
    exact hp _ (by lia)
set_option maxHeartbeats 4000000 in
theorem sf_X11_ends {post : Int32 → MM → Int64 → Prop} {M : MM} {tl : Int64} {v1 : Int32} {v2 : Int32} {v3 : Int32} (hI : Inv M) (hp : ∀ (r : Int32), (r = 0 ∨ r = 1) → post r M tl) : wpX11_ends post M tl v1 v2 v3 := by
  unfold wpX11_ends
  have hr1 := iv_81_33 hI
  refine sf_X11_look hI (by lia) (fun r2 hq3 => ?_)
  have hr4 := iv_81_31 hI
  refine ifs (fun hc5 => ?_) (fun hc6 => ?_)
  · skip
    refine ifs (fun hc7 => ?_) (fun hc8 => ?_)
    · skip
      unfold wX11_ends_32
      refine ifs (fun hc9 => ?_) (fun hc10 => ?_)
      · skip
        exact hp _ (by lia)
      · skip
        refine sf_X11_look hI (by lia) (fun r11 hq12 => ?_)
        have hr13 := iv_81_31 hI
        refine ifs (fun hc14 => ?_) (fun hc15 => ?_)
        · skip
          exact hp _ (by lia)
        · skip
          exact hp _ (by lia)
    · skip
      refine sf_X11_look hI (by lia) (fun r16 hq17 => ?_)
      have hr18 := iv_81_31 hI
      refine ifs (fun hc19 => ?_) (fun hc20 => ?_)
      · skip
        unfold wX11_ends_32
        refine ifs (fun hc21 => ?_) (fun hc22 => ?_)
        · skip
          exact hp _ (by lia)
        · skip
          refine sf_X11_look hI (by lia) (fun r23 hq24 => ?_)
          have hr25 := iv_81_31 hI
          refine ifs (fun hc26 => ?_) (fun hc27 => ?_)
          · skip
            exact hp _ (by lia)
          · skip
            exact hp _ (by lia)
      · skip
        exact hp _ (by lia)
  · skip
    exact hp _ (by lia)
set_option maxHeartbeats 4000000 in
theorem sf_X11_ruleNow {post : Int32 → MM → Int64 → Prop} {M : MM} {tl : Int64} (hI : Inv M) (hp : ∀ (r : Int32), True → post r M tl) : wpX11_ruleNow post M tl  := by
  unfold wpX11_ruleNow
  refine sf_X11_is hI  (fun r1 hq2 => ?_)
  refine ifs (fun hc3 => ?_) (fun hc4 => ?_)
  · skip
    refine sf_X11_is hI  (fun r5 hq6 => ?_)
    refine ifs (fun hc7 => ?_) (fun hc8 => ?_)
    · skip
      refine sf_X11_is hI  (fun r9 hq10 => ?_)
      refine ifs (fun hc11 => ?_) (fun hc12 => ?_)
      · skip
        refine sf_X11_is hI  (fun r13 hq14 => ?_)
        refine ifs (fun hc15 => ?_) (fun hc16 => ?_)
        · skip
          unfold wX11_ruleNow_87
          refine sf_X11_is hI  (fun r17 hq18 => ?_)
          refine ifs (fun hc19 => ?_) (fun hc20 => ?_)
          · skip
            refine sf_X11_is hI  (fun r21 hq22 => ?_)
            refine ifs (fun hc23 => ?_) (fun hc24 => ?_)
            · skip
              exact hp _ trivial
            · skip
              refine sf_X11_ends hI  (fun r25 hq26 => ?_)
              refine ifs (fun hc27 => ?_) (fun hc28 => ?_)
              · skip
                exact hp _ trivial
              · skip
                exact hp _ trivial
          · skip
            exact hp _ trivial
        · skip
          refine sf_X11_ends hI  (fun r29 hq30 => ?_)
          refine ifs (fun hc31 => ?_) (fun hc32 => ?_)
          · skip
            unfold wX11_ruleNow_87
            refine sf_X11_is hI  (fun r33 hq34 => ?_)
            refine ifs (fun hc35 => ?_) (fun hc36 => ?_)
            · skip
              refine sf_X11_is hI  (fun r37 hq38 => ?_)
              refine ifs (fun hc39 => ?_) (fun hc40 => ?_)
              · skip
                exact hp _ trivial
              · skip
                refine sf_X11_ends hI  (fun r41 hq42 => ?_)
                refine ifs (fun hc43 => ?_) (fun hc44 => ?_)
                · skip
                  exact hp _ trivial
                · skip
                  exact hp _ trivial
            · skip
              exact hp _ trivial
          · skip
            exact hp _ trivial
      · skip
        exact hp _ trivial
    · skip
      exact hp _ trivial
  · skip
    exact hp _ trivial
set_option maxHeartbeats 4000000 in
theorem sf_X11_lineNow {post : Int32 → MM → Int64 → Prop} {M : MM} {tl : Int64} (hI : Inv M) (hp : ∀ (r : Int32), True → post r M tl) : wpX11_lineNow post M tl  := by
  unfold wpX11_lineNow
  refine sf_X11_is hI  (fun r1 hq2 => ?_)
  refine ifs (fun hc3 => ?_) (fun hc4 => ?_)
  · skip
    refine sf_X11_is hI  (fun r5 hq6 => ?_)
    refine ifs (fun hc7 => ?_) (fun hc8 => ?_)
    · skip
      refine sf_X11_is hI  (fun r9 hq10 => ?_)
      refine ifs (fun hc11 => ?_) (fun hc12 => ?_)
      · skip
        unfold wX11_lineNow_68
        refine sf_X11_is hI  (fun r13 hq14 => ?_)
        refine ifs (fun hc15 => ?_) (fun hc16 => ?_)
        · skip
          unfold wX11_lineNow_98
          refine sf_X11_is hI  (fun r17 hq18 => ?_)
          refine ifs (fun hc19 => ?_) (fun hc20 => ?_)
          · skip
            unfold wX11_lineNow_128
            refine sf_X11_is hI  (fun r21 hq22 => ?_)
            refine ifs (fun hc23 => ?_) (fun hc24 => ?_)
            · skip
              refine sf_X11_ruleNow hI  (fun r25 hq26 => ?_)
              exact hp _ trivial
            · skip
              exact hp _ trivial
          · skip
            refine sf_X11_ends hI  (fun r27 hq28 => ?_)
            refine ifs (fun hc29 => ?_) (fun hc30 => ?_)
            · skip
              unfold wX11_lineNow_128
              refine sf_X11_is hI  (fun r31 hq32 => ?_)
              refine ifs (fun hc33 => ?_) (fun hc34 => ?_)
              · skip
                refine sf_X11_ruleNow hI  (fun r35 hq36 => ?_)
                exact hp _ trivial
              · skip
                exact hp _ trivial
            · skip
              exact hp _ trivial
        · skip
          refine sf_X11_ends hI  (fun r37 hq38 => ?_)
          refine ifs (fun hc39 => ?_) (fun hc40 => ?_)
          · skip
            unfold wX11_lineNow_98
            refine sf_X11_is hI  (fun r41 hq42 => ?_)
            refine ifs (fun hc43 => ?_) (fun hc44 => ?_)
            · skip
              unfold wX11_lineNow_128
              refine sf_X11_is hI  (fun r45 hq46 => ?_)
              refine ifs (fun hc47 => ?_) (fun hc48 => ?_)
              · skip
                refine sf_X11_ruleNow hI  (fun r49 hq50 => ?_)
                exact hp _ trivial
              · skip
                exact hp _ trivial
            · skip
              refine sf_X11_ends hI  (fun r51 hq52 => ?_)
              refine ifs (fun hc53 => ?_) (fun hc54 => ?_)
              · skip
                unfold wX11_lineNow_128
                refine sf_X11_is hI  (fun r55 hq56 => ?_)
                refine ifs (fun hc57 => ?_) (fun hc58 => ?_)
                · skip
                  refine sf_X11_ruleNow hI  (fun r59 hq60 => ?_)
                  exact hp _ trivial
                · skip
                  exact hp _ trivial
              · skip
                exact hp _ trivial
          · skip
            exact hp _ trivial
      · skip
        refine sf_X11_ends hI  (fun r61 hq62 => ?_)
        refine ifs (fun hc63 => ?_) (fun hc64 => ?_)
        · skip
          unfold wX11_lineNow_68
          refine sf_X11_is hI  (fun r65 hq66 => ?_)
          refine ifs (fun hc67 => ?_) (fun hc68 => ?_)
          · skip
            unfold wX11_lineNow_98
            refine sf_X11_is hI  (fun r69 hq70 => ?_)
            refine ifs (fun hc71 => ?_) (fun hc72 => ?_)
            · skip
              unfold wX11_lineNow_128
              refine sf_X11_is hI  (fun r73 hq74 => ?_)
              refine ifs (fun hc75 => ?_) (fun hc76 => ?_)
              · skip
                refine sf_X11_ruleNow hI  (fun r77 hq78 => ?_)
                exact hp _ trivial
              · skip
                exact hp _ trivial
            · skip
              refine sf_X11_ends hI  (fun r79 hq80 => ?_)
              refine ifs (fun hc81 => ?_) (fun hc82 => ?_)
              · skip
                unfold wX11_lineNow_128
                refine sf_X11_is hI  (fun r83 hq84 => ?_)
                refine ifs (fun hc85 => ?_) (fun hc86 => ?_)
                · skip
                  refine sf_X11_ruleNow hI  (fun r87 hq88 => ?_)
                  exact hp _ trivial
                · skip
                  exact hp _ trivial
              · skip
                exact hp _ trivial
          · skip
            refine sf_X11_ends hI  (fun r89 hq90 => ?_)
            refine ifs (fun hc91 => ?_) (fun hc92 => ?_)
            · skip
              unfold wX11_lineNow_98
              refine sf_X11_is hI  (fun r93 hq94 => ?_)
              refine ifs (fun hc95 => ?_) (fun hc96 => ?_)
              · skip
                unfold wX11_lineNow_128
                refine sf_X11_is hI  (fun r97 hq98 => ?_)
                refine ifs (fun hc99 => ?_) (fun hc100 => ?_)
                · skip
                  refine sf_X11_ruleNow hI  (fun r101 hq102 => ?_)
                  exact hp _ trivial
                · skip
                  exact hp _ trivial
              · skip
                refine sf_X11_ends hI  (fun r103 hq104 => ?_)
                refine ifs (fun hc105 => ?_) (fun hc106 => ?_)
                · skip
                  unfold wX11_lineNow_128
                  refine sf_X11_is hI  (fun r107 hq108 => ?_)
                  refine ifs (fun hc109 => ?_) (fun hc110 => ?_)
                  · skip
                    refine sf_X11_ruleNow hI  (fun r111 hq112 => ?_)
                    exact hp _ trivial
                  · skip
                    exact hp _ trivial
                · skip
                  exact hp _ trivial
            · skip
              exact hp _ trivial
        · skip
          exact hp _ trivial
    · skip
      exact hp _ trivial
  · skip
    exact hp _ trivial
set_option maxHeartbeats 4000000 in
theorem sf_X11_looked {post : Int32 → MM → Int64 → Prop} {M : MM} {tl : Int64} {v1 : Int32} {v2 : Int32} (hI : Inv M) (hp : ∀ (r : Int32) (M1 : MM) (t1 : Int64), Inv M1 → Fr [] [(81, 36), (81, 37)] M M1 → (r = 0 ∨ (v1 ≤ r ∧ r ≤ v2)) ∧ (M 81 36 = 0 ∨ M1 81 36 ≠ 0) → post r M1 t1) : wpX11_looked post M tl v1 v2 := by
  unfold wpX11_looked
  have hr1 := iv_81_36 hI
  refine ifs (fun hc2 => ?_) (fun hc3 => ?_)
  · skip
    refine ifs (fun hc4 => ?_) (fun hc5 => ?_)
    · skip
      unfold wX11_looked_21
      refine sf_X11_needs hI (by lia) (fun M7 t8 hI9 hF10 hq11 => ?_)
      have hF12 : Fr [] [(81, 36), (81, 37)] M M7 := fr_call fr_rfl hF10 (by decide) (by decide)
      unfold wX11_looked_25
      have hr13 := iv_81_36 hI9
      refine ifs (fun hc14 => ?_) (fun hc15 => ?_)
      · skip
        have hx16 : M7 81 35 = M 81 35 := hF10 81 35 (by decide) (by decide)
        have hx17 : M7 81 35 = M 81 35 := hF10 81 35 (by decide) (by decide)
        refine m_in (v := (M7 81 35)) (lo := v1) (hi := v2) rfl rfl rfl (fun hn18 hn19 => ?_) (fun hn20 => ?_)
        · skip
          refine sf_X11_needs hI9 (by lia) (fun M22 t23 hI24 hF25 hq26 => ?_)
          have hF27 : Fr [] [(81, 36), (81, 37)] M M22 := fr_call hF12 hF25 (by decide) (by decide)
          unfold wX11_looked_49
          have hr28 := iv_81_36 hI24
          refine ifs (fun hc29 => ?_) (fun hc30 => ?_)
          · skip
            have hx31 : M22 81 35 = M7 81 35 := hF25 81 35 (by decide) (by decide)
            have hx32 : M7 81 35 = M 81 35 := hF10 81 35 (by decide) (by decide)
            have hx33 : M22 81 32 = M7 81 32 := hF25 81 32 (by decide) (by decide)
            have hx34 : M7 81 32 = M 81 32 := hF10 81 32 (by decide) (by decide)
            have hx35 : M22 81 32 = M7 81 32 := hF25 81 32 (by decide) (by decide)
            have hr36 := iv_81_32 hI9
            have hx37 : M7 81 32 = M 81 32 := hF10 81 32 (by decide) (by decide)
            have hr38 := iv_81_32 hI
            have hr39 := iv_81_32 hI24
            have hx40 : M22 81 34 = M7 81 34 := hF25 81 34 (by decide) (by decide)
            have hx41 : M7 81 34 = M 81 34 := hF10 81 34 (by decide) (by decide)
            have hx42 : M22 81 34 = M7 81 34 := hF25 81 34 (by decide) (by decide)
            have hx43 : M7 81 34 = M 81 34 := hF10 81 34 (by decide) (by decide)
            exact hp _ _ _ hI24 hF27 (by lia)
          · skip
            have hx44 : M22 81 32 = M7 81 32 := hF25 81 32 (by decide) (by decide)
            have hx45 : M7 81 32 = M 81 32 := hF10 81 32 (by decide) (by decide)
            have hx46 : M22 81 32 = M7 81 32 := hF25 81 32 (by decide) (by decide)
            have hr47 := iv_81_32 hI9
            have hx48 : M7 81 32 = M 81 32 := hF10 81 32 (by decide) (by decide)
            have hr49 := iv_81_32 hI
            have hr50 := iv_81_32 hI24
            have hx51 : M22 81 34 = M7 81 34 := hF25 81 34 (by decide) (by decide)
            have hx52 : M7 81 34 = M 81 34 := hF10 81 34 (by decide) (by decide)
            have hx53 : M22 81 34 = M7 81 34 := hF25 81 34 (by decide) (by decide)
            have hx54 : M7 81 34 = M 81 34 := hF10 81 34 (by decide) (by decide)
            exact hp _ _ _ hI24 hF27 (by lia)
        · skip
          refine sf_X11_needs hI9 (by lia) (fun M56 t57 hI58 hF59 hq60 => ?_)
          have hF61 : Fr [] [(81, 36), (81, 37)] M M56 := fr_call hF12 hF59 (by decide) (by decide)
          unfold wX11_looked_49
          have hr62 := iv_81_36 hI58
          refine ifs (fun hc63 => ?_) (fun hc64 => ?_)
          · skip
            have hx65 : M56 81 35 = M7 81 35 := hF59 81 35 (by decide) (by decide)
            have hx66 : M7 81 35 = M 81 35 := hF10 81 35 (by decide) (by decide)
            have hx67 : M56 81 32 = M7 81 32 := hF59 81 32 (by decide) (by decide)
            have hx68 : M7 81 32 = M 81 32 := hF10 81 32 (by decide) (by decide)
            have hx69 : M56 81 32 = M7 81 32 := hF59 81 32 (by decide) (by decide)
            have hr70 := iv_81_32 hI9
            have hx71 : M7 81 32 = M 81 32 := hF10 81 32 (by decide) (by decide)
            have hr72 := iv_81_32 hI
            have hr73 := iv_81_32 hI58
            have hx74 : M56 81 34 = M7 81 34 := hF59 81 34 (by decide) (by decide)
            have hx75 : M7 81 34 = M 81 34 := hF10 81 34 (by decide) (by decide)
            have hx76 : M56 81 34 = M7 81 34 := hF59 81 34 (by decide) (by decide)
            have hx77 : M7 81 34 = M 81 34 := hF10 81 34 (by decide) (by decide)
            exact hp _ _ _ hI58 hF61 (by lia)
          · skip
            have hx78 : M56 81 32 = M7 81 32 := hF59 81 32 (by decide) (by decide)
            have hx79 : M7 81 32 = M 81 32 := hF10 81 32 (by decide) (by decide)
            have hx80 : M56 81 32 = M7 81 32 := hF59 81 32 (by decide) (by decide)
            have hr81 := iv_81_32 hI9
            have hx82 : M7 81 32 = M 81 32 := hF10 81 32 (by decide) (by decide)
            have hr83 := iv_81_32 hI
            have hr84 := iv_81_32 hI58
            have hx85 : M56 81 34 = M7 81 34 := hF59 81 34 (by decide) (by decide)
            have hx86 : M7 81 34 = M 81 34 := hF10 81 34 (by decide) (by decide)
            have hx87 : M56 81 34 = M7 81 34 := hF59 81 34 (by decide) (by decide)
            have hx88 : M7 81 34 = M 81 34 := hF10 81 34 (by decide) (by decide)
            exact hp _ _ _ hI58 hF61 (by lia)
      · skip
        unfold wX11_looked_49
        refine ifs (fun hc89 => ?_) (fun hc90 => ?_)
        · skip
          have hx91 : M7 81 35 = M 81 35 := hF10 81 35 (by decide) (by decide)
          have hx92 : M7 81 32 = M 81 32 := hF10 81 32 (by decide) (by decide)
          have hx93 : M7 81 32 = M 81 32 := hF10 81 32 (by decide) (by decide)
          have hr94 := iv_81_32 hI
          have hr95 := iv_81_32 hI9
          have hx96 : M7 81 34 = M 81 34 := hF10 81 34 (by decide) (by decide)
          have hx97 : M7 81 34 = M 81 34 := hF10 81 34 (by decide) (by decide)
          exact hp _ _ _ hI9 hF12 (by lia)
        · skip
          have hx98 : M7 81 32 = M 81 32 := hF10 81 32 (by decide) (by decide)
          have hx99 : M7 81 32 = M 81 32 := hF10 81 32 (by decide) (by decide)
          have hr100 := iv_81_32 hI
          have hr101 := iv_81_32 hI9
          have hx102 : M7 81 34 = M 81 34 := hF10 81 34 (by decide) (by decide)
          have hx103 : M7 81 34 = M 81 34 := hF10 81 34 (by decide) (by decide)
          exact hp _ _ _ hI9 hF12 (by lia)
    · skip
      unfold wX11_looked_21
      refine sf_X11_needs hI (by lia) (fun M105 t106 hI107 hF108 hq109 => ?_)
      have hF110 : Fr [] [(81, 36), (81, 37)] M M105 := fr_call fr_rfl hF108 (by decide) (by decide)
      unfold wX11_looked_25
      have hr111 := iv_81_36 hI107
      refine ifs (fun hc112 => ?_) (fun hc113 => ?_)
      · skip
        have hx114 : M105 81 35 = M 81 35 := hF108 81 35 (by decide) (by decide)
        have hx115 : M105 81 35 = M 81 35 := hF108 81 35 (by decide) (by decide)
        refine m_in (v := (M105 81 35)) (lo := v1) (hi := v2) rfl rfl rfl (fun hn116 hn117 => ?_) (fun hn118 => ?_)
        · skip
          refine sf_X11_needs hI107 (by lia) (fun M120 t121 hI122 hF123 hq124 => ?_)
          have hF125 : Fr [] [(81, 36), (81, 37)] M M120 := fr_call hF110 hF123 (by decide) (by decide)
          unfold wX11_looked_49
          have hr126 := iv_81_36 hI122
          refine ifs (fun hc127 => ?_) (fun hc128 => ?_)
          · skip
            have hx129 : M120 81 35 = M105 81 35 := hF123 81 35 (by decide) (by decide)
            have hx130 : M105 81 35 = M 81 35 := hF108 81 35 (by decide) (by decide)
            have hx131 : M120 81 32 = M105 81 32 := hF123 81 32 (by decide) (by decide)
            have hx132 : M105 81 32 = M 81 32 := hF108 81 32 (by decide) (by decide)
            have hx133 : M120 81 32 = M105 81 32 := hF123 81 32 (by decide) (by decide)
            have hr134 := iv_81_32 hI107
            have hx135 : M105 81 32 = M 81 32 := hF108 81 32 (by decide) (by decide)
            have hr136 := iv_81_32 hI
            have hr137 := iv_81_32 hI122
            have hx138 : M120 81 34 = M105 81 34 := hF123 81 34 (by decide) (by decide)
            have hx139 : M105 81 34 = M 81 34 := hF108 81 34 (by decide) (by decide)
            have hx140 : M120 81 34 = M105 81 34 := hF123 81 34 (by decide) (by decide)
            have hx141 : M105 81 34 = M 81 34 := hF108 81 34 (by decide) (by decide)
            exact hp _ _ _ hI122 hF125 (by lia)
          · skip
            have hx142 : M120 81 32 = M105 81 32 := hF123 81 32 (by decide) (by decide)
            have hx143 : M105 81 32 = M 81 32 := hF108 81 32 (by decide) (by decide)
            have hx144 : M120 81 32 = M105 81 32 := hF123 81 32 (by decide) (by decide)
            have hr145 := iv_81_32 hI107
            have hx146 : M105 81 32 = M 81 32 := hF108 81 32 (by decide) (by decide)
            have hr147 := iv_81_32 hI
            have hr148 := iv_81_32 hI122
            have hx149 : M120 81 34 = M105 81 34 := hF123 81 34 (by decide) (by decide)
            have hx150 : M105 81 34 = M 81 34 := hF108 81 34 (by decide) (by decide)
            have hx151 : M120 81 34 = M105 81 34 := hF123 81 34 (by decide) (by decide)
            have hx152 : M105 81 34 = M 81 34 := hF108 81 34 (by decide) (by decide)
            exact hp _ _ _ hI122 hF125 (by lia)
        · skip
          refine sf_X11_needs hI107 (by lia) (fun M154 t155 hI156 hF157 hq158 => ?_)
          have hF159 : Fr [] [(81, 36), (81, 37)] M M154 := fr_call hF110 hF157 (by decide) (by decide)
          unfold wX11_looked_49
          have hr160 := iv_81_36 hI156
          refine ifs (fun hc161 => ?_) (fun hc162 => ?_)
          · skip
            have hx163 : M154 81 35 = M105 81 35 := hF157 81 35 (by decide) (by decide)
            have hx164 : M105 81 35 = M 81 35 := hF108 81 35 (by decide) (by decide)
            have hx165 : M154 81 32 = M105 81 32 := hF157 81 32 (by decide) (by decide)
            have hx166 : M105 81 32 = M 81 32 := hF108 81 32 (by decide) (by decide)
            have hx167 : M154 81 32 = M105 81 32 := hF157 81 32 (by decide) (by decide)
            have hr168 := iv_81_32 hI107
            have hx169 : M105 81 32 = M 81 32 := hF108 81 32 (by decide) (by decide)
            have hr170 := iv_81_32 hI
            have hr171 := iv_81_32 hI156
            have hx172 : M154 81 34 = M105 81 34 := hF157 81 34 (by decide) (by decide)
            have hx173 : M105 81 34 = M 81 34 := hF108 81 34 (by decide) (by decide)
            have hx174 : M154 81 34 = M105 81 34 := hF157 81 34 (by decide) (by decide)
            have hx175 : M105 81 34 = M 81 34 := hF108 81 34 (by decide) (by decide)
            exact hp _ _ _ hI156 hF159 (by lia)
          · skip
            have hx176 : M154 81 32 = M105 81 32 := hF157 81 32 (by decide) (by decide)
            have hx177 : M105 81 32 = M 81 32 := hF108 81 32 (by decide) (by decide)
            have hx178 : M154 81 32 = M105 81 32 := hF157 81 32 (by decide) (by decide)
            have hr179 := iv_81_32 hI107
            have hx180 : M105 81 32 = M 81 32 := hF108 81 32 (by decide) (by decide)
            have hr181 := iv_81_32 hI
            have hr182 := iv_81_32 hI156
            have hx183 : M154 81 34 = M105 81 34 := hF157 81 34 (by decide) (by decide)
            have hx184 : M105 81 34 = M 81 34 := hF108 81 34 (by decide) (by decide)
            have hx185 : M154 81 34 = M105 81 34 := hF157 81 34 (by decide) (by decide)
            have hx186 : M105 81 34 = M 81 34 := hF108 81 34 (by decide) (by decide)
            exact hp _ _ _ hI156 hF159 (by lia)
      · skip
        unfold wX11_looked_49
        refine ifs (fun hc187 => ?_) (fun hc188 => ?_)
        · skip
          have hx189 : M105 81 35 = M 81 35 := hF108 81 35 (by decide) (by decide)
          have hx190 : M105 81 32 = M 81 32 := hF108 81 32 (by decide) (by decide)
          have hx191 : M105 81 32 = M 81 32 := hF108 81 32 (by decide) (by decide)
          have hr192 := iv_81_32 hI
          have hr193 := iv_81_32 hI107
          have hx194 : M105 81 34 = M 81 34 := hF108 81 34 (by decide) (by decide)
          have hx195 : M105 81 34 = M 81 34 := hF108 81 34 (by decide) (by decide)
          exact hp _ _ _ hI107 hF110 (by lia)
        · skip
          have hx196 : M105 81 32 = M 81 32 := hF108 81 32 (by decide) (by decide)
          have hx197 : M105 81 32 = M 81 32 := hF108 81 32 (by decide) (by decide)
          have hr198 := iv_81_32 hI
          have hr199 := iv_81_32 hI107
          have hx200 : M105 81 34 = M 81 34 := hF108 81 34 (by decide) (by decide)
          have hx201 : M105 81 34 = M 81 34 := hF108 81 34 (by decide) (by decide)
          exact hp _ _ _ hI107 hF110 (by lia)
  · skip
    unfold wX11_looked_25
    refine ifs (fun hc202 => ?_) (fun hc203 => ?_)
    · skip
      refine m_in (v := (M 81 35)) (lo := v1) (hi := v2) rfl rfl rfl (fun hn204 hn205 => ?_) (fun hn206 => ?_)
      · skip
        refine sf_X11_needs hI (by lia) (fun M208 t209 hI210 hF211 hq212 => ?_)
        have hF213 : Fr [] [(81, 36), (81, 37)] M M208 := fr_call fr_rfl hF211 (by decide) (by decide)
        unfold wX11_looked_49
        have hr214 := iv_81_36 hI210
        refine ifs (fun hc215 => ?_) (fun hc216 => ?_)
        · skip
          have hx217 : M208 81 35 = M 81 35 := hF211 81 35 (by decide) (by decide)
          have hx218 : M208 81 32 = M 81 32 := hF211 81 32 (by decide) (by decide)
          have hx219 : M208 81 32 = M 81 32 := hF211 81 32 (by decide) (by decide)
          have hr220 := iv_81_32 hI
          have hr221 := iv_81_32 hI210
          have hx222 : M208 81 34 = M 81 34 := hF211 81 34 (by decide) (by decide)
          have hx223 : M208 81 34 = M 81 34 := hF211 81 34 (by decide) (by decide)
          exact hp _ _ _ hI210 hF213 (by lia)
        · skip
          have hx224 : M208 81 32 = M 81 32 := hF211 81 32 (by decide) (by decide)
          have hx225 : M208 81 32 = M 81 32 := hF211 81 32 (by decide) (by decide)
          have hr226 := iv_81_32 hI
          have hr227 := iv_81_32 hI210
          have hx228 : M208 81 34 = M 81 34 := hF211 81 34 (by decide) (by decide)
          have hx229 : M208 81 34 = M 81 34 := hF211 81 34 (by decide) (by decide)
          exact hp _ _ _ hI210 hF213 (by lia)
      · skip
        refine sf_X11_needs hI (by lia) (fun M231 t232 hI233 hF234 hq235 => ?_)
        have hF236 : Fr [] [(81, 36), (81, 37)] M M231 := fr_call fr_rfl hF234 (by decide) (by decide)
        unfold wX11_looked_49
        have hr237 := iv_81_36 hI233
        refine ifs (fun hc238 => ?_) (fun hc239 => ?_)
        · skip
          have hx240 : M231 81 35 = M 81 35 := hF234 81 35 (by decide) (by decide)
          have hx241 : M231 81 32 = M 81 32 := hF234 81 32 (by decide) (by decide)
          have hx242 : M231 81 32 = M 81 32 := hF234 81 32 (by decide) (by decide)
          have hr243 := iv_81_32 hI
          have hr244 := iv_81_32 hI233
          have hx245 : M231 81 34 = M 81 34 := hF234 81 34 (by decide) (by decide)
          have hx246 : M231 81 34 = M 81 34 := hF234 81 34 (by decide) (by decide)
          exact hp _ _ _ hI233 hF236 (by lia)
        · skip
          have hx247 : M231 81 32 = M 81 32 := hF234 81 32 (by decide) (by decide)
          have hx248 : M231 81 32 = M 81 32 := hF234 81 32 (by decide) (by decide)
          have hr249 := iv_81_32 hI
          have hr250 := iv_81_32 hI233
          have hx251 : M231 81 34 = M 81 34 := hF234 81 34 (by decide) (by decide)
          have hx252 : M231 81 34 = M 81 34 := hF234 81 34 (by decide) (by decide)
          exact hp _ _ _ hI233 hF236 (by lia)
    · skip
      unfold wX11_looked_49
      refine ifs (fun hc253 => ?_) (fun hc254 => ?_)
      · skip
        have hr255 := iv_81_32 hI
        exact hp _ _ _ hI fr_rfl (by lia)
      · skip
        have hr256 := iv_81_32 hI
        exact hp _ _ _ hI fr_rfl (by lia)
set_option maxHeartbeats 4000000 in
theorem sf_X11_readNumber {post : Int32 → MM → Int64 → Prop} {M : MM} {tl : Int64} {v1 : Int32} {v2 : Int32} (hI : Inv M) (hp : ∀ (r : Int32) (M1 : MM) (t1 : Int64), Inv M1 → Fr [] [(81, 32), (81, 33), (81, 34), (81, 35), (81, 36), (81, 37)] M M1 → (r = 0 ∨ (v1 ≤ r ∧ r ≤ v2)) ∧ M 81 32 ≤ M1 81 32 ∧ (M 81 36 = 0 ∨ M1 81 36 ≠ 0) ∧ (M1 81 36 ≠ 0 ∨ M1 81 34 ≠ 3 ∨ M 81 32 < M1 81 32) → post r M1 t1) : wpX11_readNumber post M tl v1 v2 := by
  unfold wpX11_readNumber
  refine sf_X11_looked hI  (fun r1 M2 t3 hI4 hF5 hq6 => ?_)
  have hF7 : Fr [] [(81, 32), (81, 33), (81, 34), (81, 35), (81, 36), (81, 37)] M M2 := fr_call fr_rfl hF5 (by decide) (by decide)
  refine sf_X11_next hI4  (fun M9 t10 hI11 hF12 hq13 => ?_)
  have hF14 : Fr [] [(81, 32), (81, 33), (81, 34), (81, 35), (81, 36), (81, 37)] M M9 := fr_call hF7 hF12 (by decide) (by decide)
  have hx15 : M2 81 32 = M 81 32 := hF5 81 32 (by decide) (by decide)
  have hr16 := iv_81_32 hI11
  have hx17 : M2 81 34 = M 81 34 := hF5 81 34 (by decide) (by decide)
  have hr18 := iv_81_36 hI11
  exact hp _ _ _ hI11 hF14 (by lia)
set_option maxHeartbeats 4000000 in
theorem sl_X11_readCosts_92 {post : MM → Int64 → Prop} {Mb : MM} (hp : ∀ (M1 : MM) (t1 : Int64), Inv M1 → Fr [92, 93] [(81, 25), (81, 26), (81, 32), (81, 33), (81, 34), (81, 35), (81, 36), (81, 37)] Mb M1 → Mb 81 32 ≤ M1 81 32 ∧ (Mb 81 36 = 0 ∨ M1 81 36 ≠ 0) ∧ (M1 81 36 ≠ 0 ∨ M1 81 34 ≠ 3 ∨ Mb 81 32 < M1 81 32) → post M1 t1) : ∀ v3 : Int32, 0 ≤ v3 → v3 ≤ 6 → ∃ n, ∀ (M : MM) (tl : Int64) (v1 : Int32) (v2 : Int32), Inv M → Fr [92, 93] [(81, 25), (81, 26), (81, 32), (81, 33), (81, 34), (81, 35), (81, 36), (81, 37)] Mb M → ((0 ≤ v2 ∧ v2 ≤ 1) ∧ (Mb 81 32 ≤ M 81 32) ∧ (Mb 81 36 = 0 ∨ M 81 36 ≠ 0) ∧ (M 81 36 ≠ 0 ∨ M 81 34 ≠ 3 ∨ Mb 81 32 < M 81 32)) → wX11_readCosts_92 post n M tl v1 v2 v3 := by
  refine up_ex (P := fun d v3 => ∀ (M : MM) (tl : Int64) (v1 : Int32) (v2 : Int32), Inv M → Fr [92, 93] [(81, 25), (81, 26), (81, 32), (81, 33), (81, 34), (81, 35), (81, 36), (81, 37)] Mb M → ((0 ≤ v2 ∧ v2 ≤ 1) ∧ (Mb 81 32 ≤ M 81 32) ∧ (Mb 81 36 = 0 ∨ M 81 36 ≠ 0) ∧ (M 81 36 ≠ 0 ∨ M 81 34 ≠ 3 ∨ Mb 81 32 < M 81 32)) → wX11_readCosts_92 post d M tl v1 v2 v3) 0 6 ?_
  intro d v3 hlo hhi rec M tl v1 v2 hI hF hli
  unfold wX11_readCosts_92
  refine ifs (fun hc1 => ?_) (fun hc2 => ?_)
  · skip
    have hr3 := iv_81_32 hI
    have hr4 := iv_81_36 hI
    exact hp _ _ hI hF (by lia)
  · skip
    refine sf_X11_readNumber hI  (fun r5 M6 t7 hI8 hF9 hq10 => ?_)
    have hF11 : Fr [92, 93] [(81, 25), (81, 26), (81, 32), (81, 33), (81, 34), (81, 35), (81, 36), (81, 37)] Mb M6 := fr_call hF hF9 (by decide) (by decide)
    refine ifs (fun hc12 => ?_) (fun hc13 => ?_)
    · skip
      refine And.intro (vpI (c := 12) (by decide) (by lia) (by lia)) ?_
      intro W14 hW15
      have hI16 : Inv W14 := by rw [hW15]; exact inv_set hI8 (i_any _)
      have hF17 : Fr [92, 93] [(81, 25), (81, 26), (81, 32), (81, 33), (81, 34), (81, 35), (81, 36), (81, 37)] Mb W14 := by rw [hW15]; exact fr_arr hF11 (by decide)
      unfold wX11_readCosts_140
      have hx18 : W14 81 32 = M6 81 32 := by rw [hW15, mset_ne (by decide)]
      have hx19 : W14 81 34 = M6 81 34 := by rw [hW15, mset_ne (by decide)]
      have hx20 : W14 81 36 = M6 81 36 := by rw [hW15, mset_ne (by decide)]
      have hx21 : W14 81 32 = M6 81 32 := by rw [hW15, mset_ne (by decide)]
      have hr22 := iv_81_32 hI8
      have hr23 := iv_81_32 hI16
      have hx24 : W14 81 34 = M6 81 34 := by rw [hW15, mset_ne (by decide)]
      have hx25 : W14 81 36 = M6 81 36 := by rw [hW15, mset_ne (by decide)]
      have hr26 := iv_81_36 hI8
      have hr27 := iv_81_36 hI16
      exact rec (by lia) _ _ v1 v2 hI16 hF17 (by lia)
    · skip
      refine And.intro (vpI (c := 12) (by decide) (by lia) (by lia)) ?_
      intro W28 hW29
      have hI30 : Inv W28 := by rw [hW29]; exact inv_set hI8 (show 0 ≤ r5 ∧ r5 ≤ 20 from ⟨by lia, by lia⟩)
      have hF31 : Fr [92, 93] [(81, 25), (81, 26), (81, 32), (81, 33), (81, 34), (81, 35), (81, 36), (81, 37)] Mb W28 := by rw [hW29]; exact fr_arr hF11 (by decide)
      unfold wX11_readCosts_140
      have hx32 : W28 81 32 = M6 81 32 := by rw [hW29, mset_ne (by decide)]
      have hx33 : W28 81 34 = M6 81 34 := by rw [hW29, mset_ne (by decide)]
      have hx34 : W28 81 36 = M6 81 36 := by rw [hW29, mset_ne (by decide)]
      have hx35 : W28 81 32 = M6 81 32 := by rw [hW29, mset_ne (by decide)]
      have hr36 := iv_81_32 hI8
      have hr37 := iv_81_32 hI30
      have hx38 : W28 81 34 = M6 81 34 := by rw [hW29, mset_ne (by decide)]
      have hx39 : W28 81 36 = M6 81 36 := by rw [hW29, mset_ne (by decide)]
      have hr40 := iv_81_36 hI8
      have hr41 := iv_81_36 hI30
      exact rec (by lia) _ _ v1 v2 hI30 hF31 (by lia)
set_option maxHeartbeats 4000000 in
theorem sf_X11_readCosts {post : MM → Int64 → Prop} {M : MM} {tl : Int64} {v1 : Int32} (hI : Inv M) (hp : ∀ (M1 : MM) (t1 : Int64), Inv M1 → Fr [92, 93] [(81, 25), (81, 26), (81, 32), (81, 33), (81, 34), (81, 35), (81, 36), (81, 37)] M M1 → M 81 32 ≤ M1 81 32 ∧ (M 81 36 = 0 ∨ M1 81 36 ≠ 0) ∧ (M1 81 36 ≠ 0 ∨ M1 81 34 ≠ 3 ∨ M 81 32 < M1 81 32) → post M1 t1) : wpX11_readCosts post M tl v1 := by
  unfold wpX11_readCosts
  refine sf_X11_looked hI  (fun r1 M2 t3 hI4 hF5 hq6 => ?_)
  have hF7 : Fr [92, 93] [(81, 25), (81, 26), (81, 32), (81, 33), (81, 34), (81, 35), (81, 36), (81, 37)] M M2 := fr_call fr_rfl hF5 (by decide) (by decide)
  have hr8 := iv_81_36 hI4
  refine ifs (fun hc9 => ?_) (fun hc10 => ?_)
  · skip
    refine ifs (fun hc11 => ?_) (fun hc12 => ?_)
    · skip
      have hx13 : M2 81 26 = M 81 26 := hF5 81 26 (by decide) (by decide)
      unfold wX11_readCosts_30
      have hm14 : (0 : Int32) ≤ (((M2 81 26) >>> (r1 &&& (31 : Int32))) &&& (1 : Int32)) ∧ (((M2 81 26) >>> (r1 &&& (31 : Int32))) &&& (1 : Int32)) ≤ (1 : Int32) := andc ((M2 81 26) >>> (r1 &&& (31 : Int32))) 1 (by decide)
      have hm15 : (0 : Int32) ≤ (r1 &&& (31 : Int32)) ∧ (r1 &&& (31 : Int32)) ≤ (31 : Int32) := andc r1 31 (by decide)
      refine ifs (fun hc16 => ?_) (fun hc17 => ?_)
      · skip
        unfold wX11_readCosts_42
        refine sf_X11_needs hI4 (by lia) (fun M19 t20 hI21 hF22 hq23 => ?_)
        have hF24 : Fr [92, 93] [(81, 25), (81, 26), (81, 32), (81, 33), (81, 34), (81, 35), (81, 36), (81, 37)] M M19 := fr_call hF7 hF22 (by decide) (by decide)
        unfold wX11_readCosts_46
        refine ifs (fun hc25 => ?_) (fun hc26 => ?_)
        · skip
          have hx27 : M19 81 25 = M2 81 25 := hF22 81 25 (by decide) (by decide)
          have hx28 : M2 81 25 = M 81 25 := hF5 81 25 (by decide) (by decide)
          unfold wX11_readCosts_62
          intro W29 hW30
          have hI31 : Inv W29 := by rw [hW30]; exact inv_set hI21 (i_any _)
          have hF32 : Fr [92, 93] [(81, 25), (81, 26), (81, 32), (81, 33), (81, 34), (81, 35), (81, 36), (81, 37)] M W29 := by rw [hW30]; exact fr_fld hF24 (by decide)
          have hv33 : W29 81 25 = ((M19 81 25) ||| (0 : Int32)) := by rw [hW30]; exact mset_at _ _ _ _
          refine ifs (fun hc34 => ?_) (fun hc35 => ?_)
          · skip
            have hx36 : W29 81 26 = M19 81 26 := by rw [hW30, mset_nk (by decide)]
            have hx37 : M19 81 26 = M2 81 26 := hF22 81 26 (by decide) (by decide)
            have hx38 : M2 81 26 = M 81 26 := hF5 81 26 (by decide) (by decide)
            unfold wX11_readCosts_82
            intro W39 hW40
            have hI41 : Inv W39 := by rw [hW40]; exact inv_set hI31 (i_any _)
            have hF42 : Fr [92, 93] [(81, 25), (81, 26), (81, 32), (81, 33), (81, 34), (81, 35), (81, 36), (81, 37)] M W39 := by rw [hW40]; exact fr_fld hF32 (by decide)
            have hv43 : W39 81 26 = ((W29 81 26) ||| ((1 : Int32) <<< (r1 &&& (31 : Int32)))) := by rw [hW40]; exact mset_at _ _ _ _
            refine sf_X11_next hI41  (fun M45 t46 hI47 hF48 hq49 => ?_)
            have hF50 : Fr [92, 93] [(81, 25), (81, 26), (81, 32), (81, 33), (81, 34), (81, 35), (81, 36), (81, 37)] M M45 := fr_call hF42 hF48 (by decide) (by decide)
            have hx51 : W39 81 32 = W29 81 32 := by rw [hW40, mset_nk (by decide)]
            have hx52 : W29 81 32 = M19 81 32 := by rw [hW30, mset_nk (by decide)]
            have hx53 : M19 81 32 = M2 81 32 := hF22 81 32 (by decide) (by decide)
            have hx54 : M2 81 32 = M 81 32 := hF5 81 32 (by decide) (by decide)
            have hx55 : W39 81 34 = W29 81 34 := by rw [hW40, mset_nk (by decide)]
            have hx56 : W29 81 34 = M19 81 34 := by rw [hW30, mset_nk (by decide)]
            have hx57 : M19 81 34 = M2 81 34 := hF22 81 34 (by decide) (by decide)
            have hx58 : M2 81 34 = M 81 34 := hF5 81 34 (by decide) (by decide)
            have hx59 : W39 81 36 = W29 81 36 := by rw [hW40, mset_nk (by decide)]
            have hx60 : W29 81 36 = M19 81 36 := by rw [hW30, mset_nk (by decide)]
            have hr61 := iv_81_32 hI47
            have hr62 := iv_81_36 hI47
            obtain ⟨n63, hn64⟩ := sl_X11_readCosts_92 (Mb := M) hp  (1 : Int32) (by lia) (by lia)
            exact ⟨n63, hn64 _ _ v1 r1 hI47 hF50 (by lia)⟩
          · skip
            have hx65 : W29 81 26 = M19 81 26 := by rw [hW30, mset_nk (by decide)]
            have hx66 : M19 81 26 = M2 81 26 := hF22 81 26 (by decide) (by decide)
            have hx67 : M2 81 26 = M 81 26 := hF5 81 26 (by decide) (by decide)
            unfold wX11_readCosts_82
            intro W68 hW69
            have hI70 : Inv W68 := by rw [hW69]; exact inv_set hI31 (i_any _)
            have hF71 : Fr [92, 93] [(81, 25), (81, 26), (81, 32), (81, 33), (81, 34), (81, 35), (81, 36), (81, 37)] M W68 := by rw [hW69]; exact fr_fld hF32 (by decide)
            have hv72 : W68 81 26 = ((W29 81 26) ||| (0 : Int32)) := by rw [hW69]; exact mset_at _ _ _ _
            refine sf_X11_next hI70  (fun M74 t75 hI76 hF77 hq78 => ?_)
            have hF79 : Fr [92, 93] [(81, 25), (81, 26), (81, 32), (81, 33), (81, 34), (81, 35), (81, 36), (81, 37)] M M74 := fr_call hF71 hF77 (by decide) (by decide)
            have hx80 : W68 81 32 = W29 81 32 := by rw [hW69, mset_nk (by decide)]
            have hx81 : W29 81 32 = M19 81 32 := by rw [hW30, mset_nk (by decide)]
            have hx82 : M19 81 32 = M2 81 32 := hF22 81 32 (by decide) (by decide)
            have hx83 : M2 81 32 = M 81 32 := hF5 81 32 (by decide) (by decide)
            have hx84 : W68 81 34 = W29 81 34 := by rw [hW69, mset_nk (by decide)]
            have hx85 : W29 81 34 = M19 81 34 := by rw [hW30, mset_nk (by decide)]
            have hx86 : M19 81 34 = M2 81 34 := hF22 81 34 (by decide) (by decide)
            have hx87 : M2 81 34 = M 81 34 := hF5 81 34 (by decide) (by decide)
            have hx88 : W68 81 36 = W29 81 36 := by rw [hW69, mset_nk (by decide)]
            have hx89 : W29 81 36 = M19 81 36 := by rw [hW30, mset_nk (by decide)]
            have hr90 := iv_81_32 hI76
            have hr91 := iv_81_36 hI76
            obtain ⟨n92, hn93⟩ := sl_X11_readCosts_92 (Mb := M) hp  (1 : Int32) (by lia) (by lia)
            exact ⟨n92, hn93 _ _ v1 r1 hI76 hF79 (by lia)⟩
        · skip
          have hx94 : M19 81 25 = M2 81 25 := hF22 81 25 (by decide) (by decide)
          have hx95 : M2 81 25 = M 81 25 := hF5 81 25 (by decide) (by decide)
          unfold wX11_readCosts_62
          intro W96 hW97
          have hI98 : Inv W96 := by rw [hW97]; exact inv_set hI21 (i_any _)
          have hF99 : Fr [92, 93] [(81, 25), (81, 26), (81, 32), (81, 33), (81, 34), (81, 35), (81, 36), (81, 37)] M W96 := by rw [hW97]; exact fr_fld hF24 (by decide)
          have hv100 : W96 81 25 = ((M19 81 25) ||| ((1 : Int32) <<< (r1 &&& (31 : Int32)))) := by rw [hW97]; exact mset_at _ _ _ _
          refine ifs (fun hc101 => ?_) (fun hc102 => ?_)
          · skip
            have hx103 : W96 81 26 = M19 81 26 := by rw [hW97, mset_nk (by decide)]
            have hx104 : M19 81 26 = M2 81 26 := hF22 81 26 (by decide) (by decide)
            have hx105 : M2 81 26 = M 81 26 := hF5 81 26 (by decide) (by decide)
            unfold wX11_readCosts_82
            intro W106 hW107
            have hI108 : Inv W106 := by rw [hW107]; exact inv_set hI98 (i_any _)
            have hF109 : Fr [92, 93] [(81, 25), (81, 26), (81, 32), (81, 33), (81, 34), (81, 35), (81, 36), (81, 37)] M W106 := by rw [hW107]; exact fr_fld hF99 (by decide)
            have hv110 : W106 81 26 = ((W96 81 26) ||| ((1 : Int32) <<< (r1 &&& (31 : Int32)))) := by rw [hW107]; exact mset_at _ _ _ _
            refine sf_X11_next hI108  (fun M112 t113 hI114 hF115 hq116 => ?_)
            have hF117 : Fr [92, 93] [(81, 25), (81, 26), (81, 32), (81, 33), (81, 34), (81, 35), (81, 36), (81, 37)] M M112 := fr_call hF109 hF115 (by decide) (by decide)
            have hx118 : W106 81 32 = W96 81 32 := by rw [hW107, mset_nk (by decide)]
            have hx119 : W96 81 32 = M19 81 32 := by rw [hW97, mset_nk (by decide)]
            have hx120 : M19 81 32 = M2 81 32 := hF22 81 32 (by decide) (by decide)
            have hx121 : M2 81 32 = M 81 32 := hF5 81 32 (by decide) (by decide)
            have hx122 : W106 81 34 = W96 81 34 := by rw [hW107, mset_nk (by decide)]
            have hx123 : W96 81 34 = M19 81 34 := by rw [hW97, mset_nk (by decide)]
            have hx124 : M19 81 34 = M2 81 34 := hF22 81 34 (by decide) (by decide)
            have hx125 : M2 81 34 = M 81 34 := hF5 81 34 (by decide) (by decide)
            have hx126 : W106 81 36 = W96 81 36 := by rw [hW107, mset_nk (by decide)]
            have hx127 : W96 81 36 = M19 81 36 := by rw [hW97, mset_nk (by decide)]
            have hr128 := iv_81_32 hI114
            have hr129 := iv_81_36 hI114
            obtain ⟨n130, hn131⟩ := sl_X11_readCosts_92 (Mb := M) hp  (1 : Int32) (by lia) (by lia)
            exact ⟨n130, hn131 _ _ v1 r1 hI114 hF117 (by lia)⟩
          · skip
            have hx132 : W96 81 26 = M19 81 26 := by rw [hW97, mset_nk (by decide)]
            have hx133 : M19 81 26 = M2 81 26 := hF22 81 26 (by decide) (by decide)
            have hx134 : M2 81 26 = M 81 26 := hF5 81 26 (by decide) (by decide)
            unfold wX11_readCosts_82
            intro W135 hW136
            have hI137 : Inv W135 := by rw [hW136]; exact inv_set hI98 (i_any _)
            have hF138 : Fr [92, 93] [(81, 25), (81, 26), (81, 32), (81, 33), (81, 34), (81, 35), (81, 36), (81, 37)] M W135 := by rw [hW136]; exact fr_fld hF99 (by decide)
            have hv139 : W135 81 26 = ((W96 81 26) ||| (0 : Int32)) := by rw [hW136]; exact mset_at _ _ _ _
            refine sf_X11_next hI137  (fun M141 t142 hI143 hF144 hq145 => ?_)
            have hF146 : Fr [92, 93] [(81, 25), (81, 26), (81, 32), (81, 33), (81, 34), (81, 35), (81, 36), (81, 37)] M M141 := fr_call hF138 hF144 (by decide) (by decide)
            have hx147 : W135 81 32 = W96 81 32 := by rw [hW136, mset_nk (by decide)]
            have hx148 : W96 81 32 = M19 81 32 := by rw [hW97, mset_nk (by decide)]
            have hx149 : M19 81 32 = M2 81 32 := hF22 81 32 (by decide) (by decide)
            have hx150 : M2 81 32 = M 81 32 := hF5 81 32 (by decide) (by decide)
            have hx151 : W135 81 34 = W96 81 34 := by rw [hW136, mset_nk (by decide)]
            have hx152 : W96 81 34 = M19 81 34 := by rw [hW97, mset_nk (by decide)]
            have hx153 : M19 81 34 = M2 81 34 := hF22 81 34 (by decide) (by decide)
            have hx154 : M2 81 34 = M 81 34 := hF5 81 34 (by decide) (by decide)
            have hx155 : W135 81 36 = W96 81 36 := by rw [hW136, mset_nk (by decide)]
            have hx156 : W96 81 36 = M19 81 36 := by rw [hW97, mset_nk (by decide)]
            have hr157 := iv_81_32 hI143
            have hr158 := iv_81_36 hI143
            obtain ⟨n159, hn160⟩ := sl_X11_readCosts_92 (Mb := M) hp  (1 : Int32) (by lia) (by lia)
            exact ⟨n159, hn160 _ _ v1 r1 hI143 hF146 (by lia)⟩
      · skip
        unfold wX11_readCosts_42
        refine sf_X11_needs hI4 (by lia) (fun M162 t163 hI164 hF165 hq166 => ?_)
        have hF167 : Fr [92, 93] [(81, 25), (81, 26), (81, 32), (81, 33), (81, 34), (81, 35), (81, 36), (81, 37)] M M162 := fr_call hF7 hF165 (by decide) (by decide)
        unfold wX11_readCosts_46
        refine ifs (fun hc168 => ?_) (fun hc169 => ?_)
        · skip
          have hx170 : M162 81 25 = M2 81 25 := hF165 81 25 (by decide) (by decide)
          have hx171 : M2 81 25 = M 81 25 := hF5 81 25 (by decide) (by decide)
          unfold wX11_readCosts_62
          intro W172 hW173
          have hI174 : Inv W172 := by rw [hW173]; exact inv_set hI164 (i_any _)
          have hF175 : Fr [92, 93] [(81, 25), (81, 26), (81, 32), (81, 33), (81, 34), (81, 35), (81, 36), (81, 37)] M W172 := by rw [hW173]; exact fr_fld hF167 (by decide)
          have hv176 : W172 81 25 = ((M162 81 25) ||| (0 : Int32)) := by rw [hW173]; exact mset_at _ _ _ _
          refine ifs (fun hc177 => ?_) (fun hc178 => ?_)
          · skip
            have hx179 : W172 81 26 = M162 81 26 := by rw [hW173, mset_nk (by decide)]
            have hx180 : M162 81 26 = M2 81 26 := hF165 81 26 (by decide) (by decide)
            have hx181 : M2 81 26 = M 81 26 := hF5 81 26 (by decide) (by decide)
            unfold wX11_readCosts_82
            intro W182 hW183
            have hI184 : Inv W182 := by rw [hW183]; exact inv_set hI174 (i_any _)
            have hF185 : Fr [92, 93] [(81, 25), (81, 26), (81, 32), (81, 33), (81, 34), (81, 35), (81, 36), (81, 37)] M W182 := by rw [hW183]; exact fr_fld hF175 (by decide)
            have hv186 : W182 81 26 = ((W172 81 26) ||| ((1 : Int32) <<< (r1 &&& (31 : Int32)))) := by rw [hW183]; exact mset_at _ _ _ _
            refine sf_X11_next hI184  (fun M188 t189 hI190 hF191 hq192 => ?_)
            have hF193 : Fr [92, 93] [(81, 25), (81, 26), (81, 32), (81, 33), (81, 34), (81, 35), (81, 36), (81, 37)] M M188 := fr_call hF185 hF191 (by decide) (by decide)
            have hx194 : W182 81 32 = W172 81 32 := by rw [hW183, mset_nk (by decide)]
            have hx195 : W172 81 32 = M162 81 32 := by rw [hW173, mset_nk (by decide)]
            have hx196 : M162 81 32 = M2 81 32 := hF165 81 32 (by decide) (by decide)
            have hx197 : M2 81 32 = M 81 32 := hF5 81 32 (by decide) (by decide)
            have hx198 : W182 81 34 = W172 81 34 := by rw [hW183, mset_nk (by decide)]
            have hx199 : W172 81 34 = M162 81 34 := by rw [hW173, mset_nk (by decide)]
            have hx200 : M162 81 34 = M2 81 34 := hF165 81 34 (by decide) (by decide)
            have hx201 : M2 81 34 = M 81 34 := hF5 81 34 (by decide) (by decide)
            have hx202 : W182 81 36 = W172 81 36 := by rw [hW183, mset_nk (by decide)]
            have hx203 : W172 81 36 = M162 81 36 := by rw [hW173, mset_nk (by decide)]
            have hr204 := iv_81_32 hI190
            have hr205 := iv_81_36 hI190
            obtain ⟨n206, hn207⟩ := sl_X11_readCosts_92 (Mb := M) hp  (1 : Int32) (by lia) (by lia)
            exact ⟨n206, hn207 _ _ v1 r1 hI190 hF193 (by lia)⟩
          · skip
            have hx208 : W172 81 26 = M162 81 26 := by rw [hW173, mset_nk (by decide)]
            have hx209 : M162 81 26 = M2 81 26 := hF165 81 26 (by decide) (by decide)
            have hx210 : M2 81 26 = M 81 26 := hF5 81 26 (by decide) (by decide)
            unfold wX11_readCosts_82
            intro W211 hW212
            have hI213 : Inv W211 := by rw [hW212]; exact inv_set hI174 (i_any _)
            have hF214 : Fr [92, 93] [(81, 25), (81, 26), (81, 32), (81, 33), (81, 34), (81, 35), (81, 36), (81, 37)] M W211 := by rw [hW212]; exact fr_fld hF175 (by decide)
            have hv215 : W211 81 26 = ((W172 81 26) ||| (0 : Int32)) := by rw [hW212]; exact mset_at _ _ _ _
            refine sf_X11_next hI213  (fun M217 t218 hI219 hF220 hq221 => ?_)
            have hF222 : Fr [92, 93] [(81, 25), (81, 26), (81, 32), (81, 33), (81, 34), (81, 35), (81, 36), (81, 37)] M M217 := fr_call hF214 hF220 (by decide) (by decide)
            have hx223 : W211 81 32 = W172 81 32 := by rw [hW212, mset_nk (by decide)]
            have hx224 : W172 81 32 = M162 81 32 := by rw [hW173, mset_nk (by decide)]
            have hx225 : M162 81 32 = M2 81 32 := hF165 81 32 (by decide) (by decide)
            have hx226 : M2 81 32 = M 81 32 := hF5 81 32 (by decide) (by decide)
            have hx227 : W211 81 34 = W172 81 34 := by rw [hW212, mset_nk (by decide)]
            have hx228 : W172 81 34 = M162 81 34 := by rw [hW173, mset_nk (by decide)]
            have hx229 : M162 81 34 = M2 81 34 := hF165 81 34 (by decide) (by decide)
            have hx230 : M2 81 34 = M 81 34 := hF5 81 34 (by decide) (by decide)
            have hx231 : W211 81 36 = W172 81 36 := by rw [hW212, mset_nk (by decide)]
            have hx232 : W172 81 36 = M162 81 36 := by rw [hW173, mset_nk (by decide)]
            have hr233 := iv_81_32 hI219
            have hr234 := iv_81_36 hI219
            obtain ⟨n235, hn236⟩ := sl_X11_readCosts_92 (Mb := M) hp  (1 : Int32) (by lia) (by lia)
            exact ⟨n235, hn236 _ _ v1 r1 hI219 hF222 (by lia)⟩
        · skip
          have hx237 : M162 81 25 = M2 81 25 := hF165 81 25 (by decide) (by decide)
          have hx238 : M2 81 25 = M 81 25 := hF5 81 25 (by decide) (by decide)
          unfold wX11_readCosts_62
          intro W239 hW240
          have hI241 : Inv W239 := by rw [hW240]; exact inv_set hI164 (i_any _)
          have hF242 : Fr [92, 93] [(81, 25), (81, 26), (81, 32), (81, 33), (81, 34), (81, 35), (81, 36), (81, 37)] M W239 := by rw [hW240]; exact fr_fld hF167 (by decide)
          have hv243 : W239 81 25 = ((M162 81 25) ||| ((1 : Int32) <<< (r1 &&& (31 : Int32)))) := by rw [hW240]; exact mset_at _ _ _ _
          refine ifs (fun hc244 => ?_) (fun hc245 => ?_)
          · skip
            have hx246 : W239 81 26 = M162 81 26 := by rw [hW240, mset_nk (by decide)]
            have hx247 : M162 81 26 = M2 81 26 := hF165 81 26 (by decide) (by decide)
            have hx248 : M2 81 26 = M 81 26 := hF5 81 26 (by decide) (by decide)
            unfold wX11_readCosts_82
            intro W249 hW250
            have hI251 : Inv W249 := by rw [hW250]; exact inv_set hI241 (i_any _)
            have hF252 : Fr [92, 93] [(81, 25), (81, 26), (81, 32), (81, 33), (81, 34), (81, 35), (81, 36), (81, 37)] M W249 := by rw [hW250]; exact fr_fld hF242 (by decide)
            have hv253 : W249 81 26 = ((W239 81 26) ||| ((1 : Int32) <<< (r1 &&& (31 : Int32)))) := by rw [hW250]; exact mset_at _ _ _ _
            refine sf_X11_next hI251  (fun M255 t256 hI257 hF258 hq259 => ?_)
            have hF260 : Fr [92, 93] [(81, 25), (81, 26), (81, 32), (81, 33), (81, 34), (81, 35), (81, 36), (81, 37)] M M255 := fr_call hF252 hF258 (by decide) (by decide)
            have hx261 : W249 81 32 = W239 81 32 := by rw [hW250, mset_nk (by decide)]
            have hx262 : W239 81 32 = M162 81 32 := by rw [hW240, mset_nk (by decide)]
            have hx263 : M162 81 32 = M2 81 32 := hF165 81 32 (by decide) (by decide)
            have hx264 : M2 81 32 = M 81 32 := hF5 81 32 (by decide) (by decide)
            have hx265 : W249 81 34 = W239 81 34 := by rw [hW250, mset_nk (by decide)]
            have hx266 : W239 81 34 = M162 81 34 := by rw [hW240, mset_nk (by decide)]
            have hx267 : M162 81 34 = M2 81 34 := hF165 81 34 (by decide) (by decide)
            have hx268 : M2 81 34 = M 81 34 := hF5 81 34 (by decide) (by decide)
            have hx269 : W249 81 36 = W239 81 36 := by rw [hW250, mset_nk (by decide)]
            have hx270 : W239 81 36 = M162 81 36 := by rw [hW240, mset_nk (by decide)]
            have hr271 := iv_81_32 hI257
            have hr272 := iv_81_36 hI257
            obtain ⟨n273, hn274⟩ := sl_X11_readCosts_92 (Mb := M) hp  (1 : Int32) (by lia) (by lia)
            exact ⟨n273, hn274 _ _ v1 r1 hI257 hF260 (by lia)⟩
          · skip
            have hx275 : W239 81 26 = M162 81 26 := by rw [hW240, mset_nk (by decide)]
            have hx276 : M162 81 26 = M2 81 26 := hF165 81 26 (by decide) (by decide)
            have hx277 : M2 81 26 = M 81 26 := hF5 81 26 (by decide) (by decide)
            unfold wX11_readCosts_82
            intro W278 hW279
            have hI280 : Inv W278 := by rw [hW279]; exact inv_set hI241 (i_any _)
            have hF281 : Fr [92, 93] [(81, 25), (81, 26), (81, 32), (81, 33), (81, 34), (81, 35), (81, 36), (81, 37)] M W278 := by rw [hW279]; exact fr_fld hF242 (by decide)
            have hv282 : W278 81 26 = ((W239 81 26) ||| (0 : Int32)) := by rw [hW279]; exact mset_at _ _ _ _
            refine sf_X11_next hI280  (fun M284 t285 hI286 hF287 hq288 => ?_)
            have hF289 : Fr [92, 93] [(81, 25), (81, 26), (81, 32), (81, 33), (81, 34), (81, 35), (81, 36), (81, 37)] M M284 := fr_call hF281 hF287 (by decide) (by decide)
            have hx290 : W278 81 32 = W239 81 32 := by rw [hW279, mset_nk (by decide)]
            have hx291 : W239 81 32 = M162 81 32 := by rw [hW240, mset_nk (by decide)]
            have hx292 : M162 81 32 = M2 81 32 := hF165 81 32 (by decide) (by decide)
            have hx293 : M2 81 32 = M 81 32 := hF5 81 32 (by decide) (by decide)
            have hx294 : W278 81 34 = W239 81 34 := by rw [hW279, mset_nk (by decide)]
            have hx295 : W239 81 34 = M162 81 34 := by rw [hW240, mset_nk (by decide)]
            have hx296 : M162 81 34 = M2 81 34 := hF165 81 34 (by decide) (by decide)
            have hx297 : M2 81 34 = M 81 34 := hF5 81 34 (by decide) (by decide)
            have hx298 : W278 81 36 = W239 81 36 := by rw [hW279, mset_nk (by decide)]
            have hx299 : W239 81 36 = M162 81 36 := by rw [hW240, mset_nk (by decide)]
            have hr300 := iv_81_32 hI286
            have hr301 := iv_81_36 hI286
            obtain ⟨n302, hn303⟩ := sl_X11_readCosts_92 (Mb := M) hp  (1 : Int32) (by lia) (by lia)
            exact ⟨n302, hn303 _ _ v1 r1 hI286 hF289 (by lia)⟩
    · skip
      have hx304 : M2 81 25 = M 81 25 := hF5 81 25 (by decide) (by decide)
      unfold wX11_readCosts_30
      have hm305 : (0 : Int32) ≤ (((M2 81 25) >>> (r1 &&& (31 : Int32))) &&& (1 : Int32)) ∧ (((M2 81 25) >>> (r1 &&& (31 : Int32))) &&& (1 : Int32)) ≤ (1 : Int32) := andc ((M2 81 25) >>> (r1 &&& (31 : Int32))) 1 (by decide)
      have hm306 : (0 : Int32) ≤ (r1 &&& (31 : Int32)) ∧ (r1 &&& (31 : Int32)) ≤ (31 : Int32) := andc r1 31 (by decide)
      refine ifs (fun hc307 => ?_) (fun hc308 => ?_)
      · skip
        unfold wX11_readCosts_42
        refine sf_X11_needs hI4 (by lia) (fun M310 t311 hI312 hF313 hq314 => ?_)
        have hF315 : Fr [92, 93] [(81, 25), (81, 26), (81, 32), (81, 33), (81, 34), (81, 35), (81, 36), (81, 37)] M M310 := fr_call hF7 hF313 (by decide) (by decide)
        unfold wX11_readCosts_46
        refine ifs (fun hc316 => ?_) (fun hc317 => ?_)
        · skip
          have hx318 : M310 81 25 = M2 81 25 := hF313 81 25 (by decide) (by decide)
          have hx319 : M2 81 25 = M 81 25 := hF5 81 25 (by decide) (by decide)
          unfold wX11_readCosts_62
          intro W320 hW321
          have hI322 : Inv W320 := by rw [hW321]; exact inv_set hI312 (i_any _)
          have hF323 : Fr [92, 93] [(81, 25), (81, 26), (81, 32), (81, 33), (81, 34), (81, 35), (81, 36), (81, 37)] M W320 := by rw [hW321]; exact fr_fld hF315 (by decide)
          have hv324 : W320 81 25 = ((M310 81 25) ||| (0 : Int32)) := by rw [hW321]; exact mset_at _ _ _ _
          refine ifs (fun hc325 => ?_) (fun hc326 => ?_)
          · skip
            have hx327 : W320 81 26 = M310 81 26 := by rw [hW321, mset_nk (by decide)]
            have hx328 : M310 81 26 = M2 81 26 := hF313 81 26 (by decide) (by decide)
            have hx329 : M2 81 26 = M 81 26 := hF5 81 26 (by decide) (by decide)
            unfold wX11_readCosts_82
            intro W330 hW331
            have hI332 : Inv W330 := by rw [hW331]; exact inv_set hI322 (i_any _)
            have hF333 : Fr [92, 93] [(81, 25), (81, 26), (81, 32), (81, 33), (81, 34), (81, 35), (81, 36), (81, 37)] M W330 := by rw [hW331]; exact fr_fld hF323 (by decide)
            have hv334 : W330 81 26 = ((W320 81 26) ||| ((1 : Int32) <<< (r1 &&& (31 : Int32)))) := by rw [hW331]; exact mset_at _ _ _ _
            refine sf_X11_next hI332  (fun M336 t337 hI338 hF339 hq340 => ?_)
            have hF341 : Fr [92, 93] [(81, 25), (81, 26), (81, 32), (81, 33), (81, 34), (81, 35), (81, 36), (81, 37)] M M336 := fr_call hF333 hF339 (by decide) (by decide)
            have hx342 : W330 81 32 = W320 81 32 := by rw [hW331, mset_nk (by decide)]
            have hx343 : W320 81 32 = M310 81 32 := by rw [hW321, mset_nk (by decide)]
            have hx344 : M310 81 32 = M2 81 32 := hF313 81 32 (by decide) (by decide)
            have hx345 : M2 81 32 = M 81 32 := hF5 81 32 (by decide) (by decide)
            have hx346 : W330 81 34 = W320 81 34 := by rw [hW331, mset_nk (by decide)]
            have hx347 : W320 81 34 = M310 81 34 := by rw [hW321, mset_nk (by decide)]
            have hx348 : M310 81 34 = M2 81 34 := hF313 81 34 (by decide) (by decide)
            have hx349 : M2 81 34 = M 81 34 := hF5 81 34 (by decide) (by decide)
            have hx350 : W330 81 36 = W320 81 36 := by rw [hW331, mset_nk (by decide)]
            have hx351 : W320 81 36 = M310 81 36 := by rw [hW321, mset_nk (by decide)]
            have hr352 := iv_81_32 hI338
            have hr353 := iv_81_36 hI338
            obtain ⟨n354, hn355⟩ := sl_X11_readCosts_92 (Mb := M) hp  (1 : Int32) (by lia) (by lia)
            exact ⟨n354, hn355 _ _ v1 r1 hI338 hF341 (by lia)⟩
          · skip
            have hx356 : W320 81 26 = M310 81 26 := by rw [hW321, mset_nk (by decide)]
            have hx357 : M310 81 26 = M2 81 26 := hF313 81 26 (by decide) (by decide)
            have hx358 : M2 81 26 = M 81 26 := hF5 81 26 (by decide) (by decide)
            unfold wX11_readCosts_82
            intro W359 hW360
            have hI361 : Inv W359 := by rw [hW360]; exact inv_set hI322 (i_any _)
            have hF362 : Fr [92, 93] [(81, 25), (81, 26), (81, 32), (81, 33), (81, 34), (81, 35), (81, 36), (81, 37)] M W359 := by rw [hW360]; exact fr_fld hF323 (by decide)
            have hv363 : W359 81 26 = ((W320 81 26) ||| (0 : Int32)) := by rw [hW360]; exact mset_at _ _ _ _
            refine sf_X11_next hI361  (fun M365 t366 hI367 hF368 hq369 => ?_)
            have hF370 : Fr [92, 93] [(81, 25), (81, 26), (81, 32), (81, 33), (81, 34), (81, 35), (81, 36), (81, 37)] M M365 := fr_call hF362 hF368 (by decide) (by decide)
            have hx371 : W359 81 32 = W320 81 32 := by rw [hW360, mset_nk (by decide)]
            have hx372 : W320 81 32 = M310 81 32 := by rw [hW321, mset_nk (by decide)]
            have hx373 : M310 81 32 = M2 81 32 := hF313 81 32 (by decide) (by decide)
            have hx374 : M2 81 32 = M 81 32 := hF5 81 32 (by decide) (by decide)
            have hx375 : W359 81 34 = W320 81 34 := by rw [hW360, mset_nk (by decide)]
            have hx376 : W320 81 34 = M310 81 34 := by rw [hW321, mset_nk (by decide)]
            have hx377 : M310 81 34 = M2 81 34 := hF313 81 34 (by decide) (by decide)
            have hx378 : M2 81 34 = M 81 34 := hF5 81 34 (by decide) (by decide)
            have hx379 : W359 81 36 = W320 81 36 := by rw [hW360, mset_nk (by decide)]
            have hx380 : W320 81 36 = M310 81 36 := by rw [hW321, mset_nk (by decide)]
            have hr381 := iv_81_32 hI367
            have hr382 := iv_81_36 hI367
            obtain ⟨n383, hn384⟩ := sl_X11_readCosts_92 (Mb := M) hp  (1 : Int32) (by lia) (by lia)
            exact ⟨n383, hn384 _ _ v1 r1 hI367 hF370 (by lia)⟩
        · skip
          have hx385 : M310 81 25 = M2 81 25 := hF313 81 25 (by decide) (by decide)
          have hx386 : M2 81 25 = M 81 25 := hF5 81 25 (by decide) (by decide)
          unfold wX11_readCosts_62
          intro W387 hW388
          have hI389 : Inv W387 := by rw [hW388]; exact inv_set hI312 (i_any _)
          have hF390 : Fr [92, 93] [(81, 25), (81, 26), (81, 32), (81, 33), (81, 34), (81, 35), (81, 36), (81, 37)] M W387 := by rw [hW388]; exact fr_fld hF315 (by decide)
          have hv391 : W387 81 25 = ((M310 81 25) ||| ((1 : Int32) <<< (r1 &&& (31 : Int32)))) := by rw [hW388]; exact mset_at _ _ _ _
          refine ifs (fun hc392 => ?_) (fun hc393 => ?_)
          · skip
            have hx394 : W387 81 26 = M310 81 26 := by rw [hW388, mset_nk (by decide)]
            have hx395 : M310 81 26 = M2 81 26 := hF313 81 26 (by decide) (by decide)
            have hx396 : M2 81 26 = M 81 26 := hF5 81 26 (by decide) (by decide)
            unfold wX11_readCosts_82
            intro W397 hW398
            have hI399 : Inv W397 := by rw [hW398]; exact inv_set hI389 (i_any _)
            have hF400 : Fr [92, 93] [(81, 25), (81, 26), (81, 32), (81, 33), (81, 34), (81, 35), (81, 36), (81, 37)] M W397 := by rw [hW398]; exact fr_fld hF390 (by decide)
            have hv401 : W397 81 26 = ((W387 81 26) ||| ((1 : Int32) <<< (r1 &&& (31 : Int32)))) := by rw [hW398]; exact mset_at _ _ _ _
            refine sf_X11_next hI399  (fun M403 t404 hI405 hF406 hq407 => ?_)
            have hF408 : Fr [92, 93] [(81, 25), (81, 26), (81, 32), (81, 33), (81, 34), (81, 35), (81, 36), (81, 37)] M M403 := fr_call hF400 hF406 (by decide) (by decide)
            have hx409 : W397 81 32 = W387 81 32 := by rw [hW398, mset_nk (by decide)]
            have hx410 : W387 81 32 = M310 81 32 := by rw [hW388, mset_nk (by decide)]
            have hx411 : M310 81 32 = M2 81 32 := hF313 81 32 (by decide) (by decide)
            have hx412 : M2 81 32 = M 81 32 := hF5 81 32 (by decide) (by decide)
            have hx413 : W397 81 34 = W387 81 34 := by rw [hW398, mset_nk (by decide)]
            have hx414 : W387 81 34 = M310 81 34 := by rw [hW388, mset_nk (by decide)]
            have hx415 : M310 81 34 = M2 81 34 := hF313 81 34 (by decide) (by decide)
            have hx416 : M2 81 34 = M 81 34 := hF5 81 34 (by decide) (by decide)
            have hx417 : W397 81 36 = W387 81 36 := by rw [hW398, mset_nk (by decide)]
            have hx418 : W387 81 36 = M310 81 36 := by rw [hW388, mset_nk (by decide)]
            have hr419 := iv_81_32 hI405
            have hr420 := iv_81_36 hI405
            obtain ⟨n421, hn422⟩ := sl_X11_readCosts_92 (Mb := M) hp  (1 : Int32) (by lia) (by lia)
            exact ⟨n421, hn422 _ _ v1 r1 hI405 hF408 (by lia)⟩
          · skip
            have hx423 : W387 81 26 = M310 81 26 := by rw [hW388, mset_nk (by decide)]
            have hx424 : M310 81 26 = M2 81 26 := hF313 81 26 (by decide) (by decide)
            have hx425 : M2 81 26 = M 81 26 := hF5 81 26 (by decide) (by decide)
            unfold wX11_readCosts_82
            intro W426 hW427
            have hI428 : Inv W426 := by rw [hW427]; exact inv_set hI389 (i_any _)
            have hF429 : Fr [92, 93] [(81, 25), (81, 26), (81, 32), (81, 33), (81, 34), (81, 35), (81, 36), (81, 37)] M W426 := by rw [hW427]; exact fr_fld hF390 (by decide)
            have hv430 : W426 81 26 = ((W387 81 26) ||| (0 : Int32)) := by rw [hW427]; exact mset_at _ _ _ _
            refine sf_X11_next hI428  (fun M432 t433 hI434 hF435 hq436 => ?_)
            have hF437 : Fr [92, 93] [(81, 25), (81, 26), (81, 32), (81, 33), (81, 34), (81, 35), (81, 36), (81, 37)] M M432 := fr_call hF429 hF435 (by decide) (by decide)
            have hx438 : W426 81 32 = W387 81 32 := by rw [hW427, mset_nk (by decide)]
            have hx439 : W387 81 32 = M310 81 32 := by rw [hW388, mset_nk (by decide)]
            have hx440 : M310 81 32 = M2 81 32 := hF313 81 32 (by decide) (by decide)
            have hx441 : M2 81 32 = M 81 32 := hF5 81 32 (by decide) (by decide)
            have hx442 : W426 81 34 = W387 81 34 := by rw [hW427, mset_nk (by decide)]
            have hx443 : W387 81 34 = M310 81 34 := by rw [hW388, mset_nk (by decide)]
            have hx444 : M310 81 34 = M2 81 34 := hF313 81 34 (by decide) (by decide)
            have hx445 : M2 81 34 = M 81 34 := hF5 81 34 (by decide) (by decide)
            have hx446 : W426 81 36 = W387 81 36 := by rw [hW427, mset_nk (by decide)]
            have hx447 : W387 81 36 = M310 81 36 := by rw [hW388, mset_nk (by decide)]
            have hr448 := iv_81_32 hI434
            have hr449 := iv_81_36 hI434
            obtain ⟨n450, hn451⟩ := sl_X11_readCosts_92 (Mb := M) hp  (1 : Int32) (by lia) (by lia)
            exact ⟨n450, hn451 _ _ v1 r1 hI434 hF437 (by lia)⟩
      · skip
        unfold wX11_readCosts_42
        refine sf_X11_needs hI4 (by lia) (fun M453 t454 hI455 hF456 hq457 => ?_)
        have hF458 : Fr [92, 93] [(81, 25), (81, 26), (81, 32), (81, 33), (81, 34), (81, 35), (81, 36), (81, 37)] M M453 := fr_call hF7 hF456 (by decide) (by decide)
        unfold wX11_readCosts_46
        refine ifs (fun hc459 => ?_) (fun hc460 => ?_)
        · skip
          have hx461 : M453 81 25 = M2 81 25 := hF456 81 25 (by decide) (by decide)
          have hx462 : M2 81 25 = M 81 25 := hF5 81 25 (by decide) (by decide)
          unfold wX11_readCosts_62
          intro W463 hW464
          have hI465 : Inv W463 := by rw [hW464]; exact inv_set hI455 (i_any _)
          have hF466 : Fr [92, 93] [(81, 25), (81, 26), (81, 32), (81, 33), (81, 34), (81, 35), (81, 36), (81, 37)] M W463 := by rw [hW464]; exact fr_fld hF458 (by decide)
          have hv467 : W463 81 25 = ((M453 81 25) ||| (0 : Int32)) := by rw [hW464]; exact mset_at _ _ _ _
          refine ifs (fun hc468 => ?_) (fun hc469 => ?_)
          · skip
            have hx470 : W463 81 26 = M453 81 26 := by rw [hW464, mset_nk (by decide)]
            have hx471 : M453 81 26 = M2 81 26 := hF456 81 26 (by decide) (by decide)
            have hx472 : M2 81 26 = M 81 26 := hF5 81 26 (by decide) (by decide)
            unfold wX11_readCosts_82
            intro W473 hW474
            have hI475 : Inv W473 := by rw [hW474]; exact inv_set hI465 (i_any _)
            have hF476 : Fr [92, 93] [(81, 25), (81, 26), (81, 32), (81, 33), (81, 34), (81, 35), (81, 36), (81, 37)] M W473 := by rw [hW474]; exact fr_fld hF466 (by decide)
            have hv477 : W473 81 26 = ((W463 81 26) ||| ((1 : Int32) <<< (r1 &&& (31 : Int32)))) := by rw [hW474]; exact mset_at _ _ _ _
            refine sf_X11_next hI475  (fun M479 t480 hI481 hF482 hq483 => ?_)
            have hF484 : Fr [92, 93] [(81, 25), (81, 26), (81, 32), (81, 33), (81, 34), (81, 35), (81, 36), (81, 37)] M M479 := fr_call hF476 hF482 (by decide) (by decide)
            have hx485 : W473 81 32 = W463 81 32 := by rw [hW474, mset_nk (by decide)]
            have hx486 : W463 81 32 = M453 81 32 := by rw [hW464, mset_nk (by decide)]
            have hx487 : M453 81 32 = M2 81 32 := hF456 81 32 (by decide) (by decide)
            have hx488 : M2 81 32 = M 81 32 := hF5 81 32 (by decide) (by decide)
            have hx489 : W473 81 34 = W463 81 34 := by rw [hW474, mset_nk (by decide)]
            have hx490 : W463 81 34 = M453 81 34 := by rw [hW464, mset_nk (by decide)]
            have hx491 : M453 81 34 = M2 81 34 := hF456 81 34 (by decide) (by decide)
            have hx492 : M2 81 34 = M 81 34 := hF5 81 34 (by decide) (by decide)
            have hx493 : W473 81 36 = W463 81 36 := by rw [hW474, mset_nk (by decide)]
            have hx494 : W463 81 36 = M453 81 36 := by rw [hW464, mset_nk (by decide)]
            have hr495 := iv_81_32 hI481
            have hr496 := iv_81_36 hI481
            obtain ⟨n497, hn498⟩ := sl_X11_readCosts_92 (Mb := M) hp  (1 : Int32) (by lia) (by lia)
            exact ⟨n497, hn498 _ _ v1 r1 hI481 hF484 (by lia)⟩
          · skip
            have hx499 : W463 81 26 = M453 81 26 := by rw [hW464, mset_nk (by decide)]
            have hx500 : M453 81 26 = M2 81 26 := hF456 81 26 (by decide) (by decide)
            have hx501 : M2 81 26 = M 81 26 := hF5 81 26 (by decide) (by decide)
            unfold wX11_readCosts_82
            intro W502 hW503
            have hI504 : Inv W502 := by rw [hW503]; exact inv_set hI465 (i_any _)
            have hF505 : Fr [92, 93] [(81, 25), (81, 26), (81, 32), (81, 33), (81, 34), (81, 35), (81, 36), (81, 37)] M W502 := by rw [hW503]; exact fr_fld hF466 (by decide)
            have hv506 : W502 81 26 = ((W463 81 26) ||| (0 : Int32)) := by rw [hW503]; exact mset_at _ _ _ _
            refine sf_X11_next hI504  (fun M508 t509 hI510 hF511 hq512 => ?_)
            have hF513 : Fr [92, 93] [(81, 25), (81, 26), (81, 32), (81, 33), (81, 34), (81, 35), (81, 36), (81, 37)] M M508 := fr_call hF505 hF511 (by decide) (by decide)
            have hx514 : W502 81 32 = W463 81 32 := by rw [hW503, mset_nk (by decide)]
            have hx515 : W463 81 32 = M453 81 32 := by rw [hW464, mset_nk (by decide)]
            have hx516 : M453 81 32 = M2 81 32 := hF456 81 32 (by decide) (by decide)
            have hx517 : M2 81 32 = M 81 32 := hF5 81 32 (by decide) (by decide)
            have hx518 : W502 81 34 = W463 81 34 := by rw [hW503, mset_nk (by decide)]
            have hx519 : W463 81 34 = M453 81 34 := by rw [hW464, mset_nk (by decide)]
            have hx520 : M453 81 34 = M2 81 34 := hF456 81 34 (by decide) (by decide)
            have hx521 : M2 81 34 = M 81 34 := hF5 81 34 (by decide) (by decide)
            have hx522 : W502 81 36 = W463 81 36 := by rw [hW503, mset_nk (by decide)]
            have hx523 : W463 81 36 = M453 81 36 := by rw [hW464, mset_nk (by decide)]
            have hr524 := iv_81_32 hI510
            have hr525 := iv_81_36 hI510
            obtain ⟨n526, hn527⟩ := sl_X11_readCosts_92 (Mb := M) hp  (1 : Int32) (by lia) (by lia)
            exact ⟨n526, hn527 _ _ v1 r1 hI510 hF513 (by lia)⟩
        · skip
          have hx528 : M453 81 25 = M2 81 25 := hF456 81 25 (by decide) (by decide)
          have hx529 : M2 81 25 = M 81 25 := hF5 81 25 (by decide) (by decide)
          unfold wX11_readCosts_62
          intro W530 hW531
          have hI532 : Inv W530 := by rw [hW531]; exact inv_set hI455 (i_any _)
          have hF533 : Fr [92, 93] [(81, 25), (81, 26), (81, 32), (81, 33), (81, 34), (81, 35), (81, 36), (81, 37)] M W530 := by rw [hW531]; exact fr_fld hF458 (by decide)
          have hv534 : W530 81 25 = ((M453 81 25) ||| ((1 : Int32) <<< (r1 &&& (31 : Int32)))) := by rw [hW531]; exact mset_at _ _ _ _
          refine ifs (fun hc535 => ?_) (fun hc536 => ?_)
          · skip
            have hx537 : W530 81 26 = M453 81 26 := by rw [hW531, mset_nk (by decide)]
            have hx538 : M453 81 26 = M2 81 26 := hF456 81 26 (by decide) (by decide)
            have hx539 : M2 81 26 = M 81 26 := hF5 81 26 (by decide) (by decide)
            unfold wX11_readCosts_82
            intro W540 hW541
            have hI542 : Inv W540 := by rw [hW541]; exact inv_set hI532 (i_any _)
            have hF543 : Fr [92, 93] [(81, 25), (81, 26), (81, 32), (81, 33), (81, 34), (81, 35), (81, 36), (81, 37)] M W540 := by rw [hW541]; exact fr_fld hF533 (by decide)
            have hv544 : W540 81 26 = ((W530 81 26) ||| ((1 : Int32) <<< (r1 &&& (31 : Int32)))) := by rw [hW541]; exact mset_at _ _ _ _
            refine sf_X11_next hI542  (fun M546 t547 hI548 hF549 hq550 => ?_)
            have hF551 : Fr [92, 93] [(81, 25), (81, 26), (81, 32), (81, 33), (81, 34), (81, 35), (81, 36), (81, 37)] M M546 := fr_call hF543 hF549 (by decide) (by decide)
            have hx552 : W540 81 32 = W530 81 32 := by rw [hW541, mset_nk (by decide)]
            have hx553 : W530 81 32 = M453 81 32 := by rw [hW531, mset_nk (by decide)]
            have hx554 : M453 81 32 = M2 81 32 := hF456 81 32 (by decide) (by decide)
            have hx555 : M2 81 32 = M 81 32 := hF5 81 32 (by decide) (by decide)
            have hx556 : W540 81 34 = W530 81 34 := by rw [hW541, mset_nk (by decide)]
            have hx557 : W530 81 34 = M453 81 34 := by rw [hW531, mset_nk (by decide)]
            have hx558 : M453 81 34 = M2 81 34 := hF456 81 34 (by decide) (by decide)
            have hx559 : M2 81 34 = M 81 34 := hF5 81 34 (by decide) (by decide)
            have hx560 : W540 81 36 = W530 81 36 := by rw [hW541, mset_nk (by decide)]
            have hx561 : W530 81 36 = M453 81 36 := by rw [hW531, mset_nk (by decide)]
            have hr562 := iv_81_32 hI548
            have hr563 := iv_81_36 hI548
            obtain ⟨n564, hn565⟩ := sl_X11_readCosts_92 (Mb := M) hp  (1 : Int32) (by lia) (by lia)
            exact ⟨n564, hn565 _ _ v1 r1 hI548 hF551 (by lia)⟩
          · skip
            have hx566 : W530 81 26 = M453 81 26 := by rw [hW531, mset_nk (by decide)]
            have hx567 : M453 81 26 = M2 81 26 := hF456 81 26 (by decide) (by decide)
            have hx568 : M2 81 26 = M 81 26 := hF5 81 26 (by decide) (by decide)
            unfold wX11_readCosts_82
            intro W569 hW570
            have hI571 : Inv W569 := by rw [hW570]; exact inv_set hI532 (i_any _)
            have hF572 : Fr [92, 93] [(81, 25), (81, 26), (81, 32), (81, 33), (81, 34), (81, 35), (81, 36), (81, 37)] M W569 := by rw [hW570]; exact fr_fld hF533 (by decide)
            have hv573 : W569 81 26 = ((W530 81 26) ||| (0 : Int32)) := by rw [hW570]; exact mset_at _ _ _ _
            refine sf_X11_next hI571  (fun M575 t576 hI577 hF578 hq579 => ?_)
            have hF580 : Fr [92, 93] [(81, 25), (81, 26), (81, 32), (81, 33), (81, 34), (81, 35), (81, 36), (81, 37)] M M575 := fr_call hF572 hF578 (by decide) (by decide)
            have hx581 : W569 81 32 = W530 81 32 := by rw [hW570, mset_nk (by decide)]
            have hx582 : W530 81 32 = M453 81 32 := by rw [hW531, mset_nk (by decide)]
            have hx583 : M453 81 32 = M2 81 32 := hF456 81 32 (by decide) (by decide)
            have hx584 : M2 81 32 = M 81 32 := hF5 81 32 (by decide) (by decide)
            have hx585 : W569 81 34 = W530 81 34 := by rw [hW570, mset_nk (by decide)]
            have hx586 : W530 81 34 = M453 81 34 := by rw [hW531, mset_nk (by decide)]
            have hx587 : M453 81 34 = M2 81 34 := hF456 81 34 (by decide) (by decide)
            have hx588 : M2 81 34 = M 81 34 := hF5 81 34 (by decide) (by decide)
            have hx589 : W569 81 36 = W530 81 36 := by rw [hW570, mset_nk (by decide)]
            have hx590 : W530 81 36 = M453 81 36 := by rw [hW531, mset_nk (by decide)]
            have hr591 := iv_81_32 hI577
            have hr592 := iv_81_36 hI577
            obtain ⟨n593, hn594⟩ := sl_X11_readCosts_92 (Mb := M) hp  (1 : Int32) (by lia) (by lia)
            exact ⟨n593, hn594 _ _ v1 r1 hI577 hF580 (by lia)⟩
  · skip
    unfold wX11_readCosts_46
    refine ifs (fun hc595 => ?_) (fun hc596 => ?_)
    · skip
      have hx597 : M2 81 25 = M 81 25 := hF5 81 25 (by decide) (by decide)
      unfold wX11_readCosts_62
      intro W598 hW599
      have hI600 : Inv W598 := by rw [hW599]; exact inv_set hI4 (i_any _)
      have hF601 : Fr [92, 93] [(81, 25), (81, 26), (81, 32), (81, 33), (81, 34), (81, 35), (81, 36), (81, 37)] M W598 := by rw [hW599]; exact fr_fld hF7 (by decide)
      have hv602 : W598 81 25 = ((M2 81 25) ||| (0 : Int32)) := by rw [hW599]; exact mset_at _ _ _ _
      refine ifs (fun hc603 => ?_) (fun hc604 => ?_)
      · skip
        have hx605 : W598 81 26 = M2 81 26 := by rw [hW599, mset_nk (by decide)]
        have hx606 : M2 81 26 = M 81 26 := hF5 81 26 (by decide) (by decide)
        have hm607 : (0 : Int32) ≤ (r1 &&& (31 : Int32)) ∧ (r1 &&& (31 : Int32)) ≤ (31 : Int32) := andc r1 31 (by decide)
        unfold wX11_readCosts_82
        intro W608 hW609
        have hI610 : Inv W608 := by rw [hW609]; exact inv_set hI600 (i_any _)
        have hF611 : Fr [92, 93] [(81, 25), (81, 26), (81, 32), (81, 33), (81, 34), (81, 35), (81, 36), (81, 37)] M W608 := by rw [hW609]; exact fr_fld hF601 (by decide)
        have hv612 : W608 81 26 = ((W598 81 26) ||| ((1 : Int32) <<< (r1 &&& (31 : Int32)))) := by rw [hW609]; exact mset_at _ _ _ _
        refine sf_X11_next hI610  (fun M614 t615 hI616 hF617 hq618 => ?_)
        have hF619 : Fr [92, 93] [(81, 25), (81, 26), (81, 32), (81, 33), (81, 34), (81, 35), (81, 36), (81, 37)] M M614 := fr_call hF611 hF617 (by decide) (by decide)
        have hx620 : W608 81 32 = W598 81 32 := by rw [hW609, mset_nk (by decide)]
        have hx621 : W598 81 32 = M2 81 32 := by rw [hW599, mset_nk (by decide)]
        have hx622 : M2 81 32 = M 81 32 := hF5 81 32 (by decide) (by decide)
        have hx623 : W608 81 34 = W598 81 34 := by rw [hW609, mset_nk (by decide)]
        have hx624 : W598 81 34 = M2 81 34 := by rw [hW599, mset_nk (by decide)]
        have hx625 : M2 81 34 = M 81 34 := hF5 81 34 (by decide) (by decide)
        have hx626 : W608 81 36 = W598 81 36 := by rw [hW609, mset_nk (by decide)]
        have hx627 : W598 81 36 = M2 81 36 := by rw [hW599, mset_nk (by decide)]
        have hr628 := iv_81_32 hI616
        have hr629 := iv_81_36 hI616
        obtain ⟨n630, hn631⟩ := sl_X11_readCosts_92 (Mb := M) hp  (1 : Int32) (by lia) (by lia)
        exact ⟨n630, hn631 _ _ v1 r1 hI616 hF619 (by lia)⟩
      · skip
        have hx632 : W598 81 26 = M2 81 26 := by rw [hW599, mset_nk (by decide)]
        have hx633 : M2 81 26 = M 81 26 := hF5 81 26 (by decide) (by decide)
        unfold wX11_readCosts_82
        intro W634 hW635
        have hI636 : Inv W634 := by rw [hW635]; exact inv_set hI600 (i_any _)
        have hF637 : Fr [92, 93] [(81, 25), (81, 26), (81, 32), (81, 33), (81, 34), (81, 35), (81, 36), (81, 37)] M W634 := by rw [hW635]; exact fr_fld hF601 (by decide)
        have hv638 : W634 81 26 = ((W598 81 26) ||| (0 : Int32)) := by rw [hW635]; exact mset_at _ _ _ _
        refine sf_X11_next hI636  (fun M640 t641 hI642 hF643 hq644 => ?_)
        have hF645 : Fr [92, 93] [(81, 25), (81, 26), (81, 32), (81, 33), (81, 34), (81, 35), (81, 36), (81, 37)] M M640 := fr_call hF637 hF643 (by decide) (by decide)
        have hx646 : W634 81 32 = W598 81 32 := by rw [hW635, mset_nk (by decide)]
        have hx647 : W598 81 32 = M2 81 32 := by rw [hW599, mset_nk (by decide)]
        have hx648 : M2 81 32 = M 81 32 := hF5 81 32 (by decide) (by decide)
        have hx649 : W634 81 34 = W598 81 34 := by rw [hW635, mset_nk (by decide)]
        have hx650 : W598 81 34 = M2 81 34 := by rw [hW599, mset_nk (by decide)]
        have hx651 : M2 81 34 = M 81 34 := hF5 81 34 (by decide) (by decide)
        have hx652 : W634 81 36 = W598 81 36 := by rw [hW635, mset_nk (by decide)]
        have hx653 : W598 81 36 = M2 81 36 := by rw [hW599, mset_nk (by decide)]
        have hr654 := iv_81_32 hI642
        have hr655 := iv_81_36 hI642
        obtain ⟨n656, hn657⟩ := sl_X11_readCosts_92 (Mb := M) hp  (1 : Int32) (by lia) (by lia)
        exact ⟨n656, hn657 _ _ v1 r1 hI642 hF645 (by lia)⟩
    · skip
      have hx658 : M2 81 25 = M 81 25 := hF5 81 25 (by decide) (by decide)
      have hm659 : (0 : Int32) ≤ (r1 &&& (31 : Int32)) ∧ (r1 &&& (31 : Int32)) ≤ (31 : Int32) := andc r1 31 (by decide)
      unfold wX11_readCosts_62
      intro W660 hW661
      have hI662 : Inv W660 := by rw [hW661]; exact inv_set hI4 (i_any _)
      have hF663 : Fr [92, 93] [(81, 25), (81, 26), (81, 32), (81, 33), (81, 34), (81, 35), (81, 36), (81, 37)] M W660 := by rw [hW661]; exact fr_fld hF7 (by decide)
      have hv664 : W660 81 25 = ((M2 81 25) ||| ((1 : Int32) <<< (r1 &&& (31 : Int32)))) := by rw [hW661]; exact mset_at _ _ _ _
      refine ifs (fun hc665 => ?_) (fun hc666 => ?_)
      · skip
        have hx667 : W660 81 26 = M2 81 26 := by rw [hW661, mset_nk (by decide)]
        have hx668 : M2 81 26 = M 81 26 := hF5 81 26 (by decide) (by decide)
        unfold wX11_readCosts_82
        intro W669 hW670
        have hI671 : Inv W669 := by rw [hW670]; exact inv_set hI662 (i_any _)
        have hF672 : Fr [92, 93] [(81, 25), (81, 26), (81, 32), (81, 33), (81, 34), (81, 35), (81, 36), (81, 37)] M W669 := by rw [hW670]; exact fr_fld hF663 (by decide)
        have hv673 : W669 81 26 = ((W660 81 26) ||| ((1 : Int32) <<< (r1 &&& (31 : Int32)))) := by rw [hW670]; exact mset_at _ _ _ _
        refine sf_X11_next hI671  (fun M675 t676 hI677 hF678 hq679 => ?_)
        have hF680 : Fr [92, 93] [(81, 25), (81, 26), (81, 32), (81, 33), (81, 34), (81, 35), (81, 36), (81, 37)] M M675 := fr_call hF672 hF678 (by decide) (by decide)
        have hx681 : W669 81 32 = W660 81 32 := by rw [hW670, mset_nk (by decide)]
        have hx682 : W660 81 32 = M2 81 32 := by rw [hW661, mset_nk (by decide)]
        have hx683 : M2 81 32 = M 81 32 := hF5 81 32 (by decide) (by decide)
        have hx684 : W669 81 34 = W660 81 34 := by rw [hW670, mset_nk (by decide)]
        have hx685 : W660 81 34 = M2 81 34 := by rw [hW661, mset_nk (by decide)]
        have hx686 : M2 81 34 = M 81 34 := hF5 81 34 (by decide) (by decide)
        have hx687 : W669 81 36 = W660 81 36 := by rw [hW670, mset_nk (by decide)]
        have hx688 : W660 81 36 = M2 81 36 := by rw [hW661, mset_nk (by decide)]
        have hr689 := iv_81_32 hI677
        have hr690 := iv_81_36 hI677
        obtain ⟨n691, hn692⟩ := sl_X11_readCosts_92 (Mb := M) hp  (1 : Int32) (by lia) (by lia)
        exact ⟨n691, hn692 _ _ v1 r1 hI677 hF680 (by lia)⟩
      · skip
        have hx693 : W660 81 26 = M2 81 26 := by rw [hW661, mset_nk (by decide)]
        have hx694 : M2 81 26 = M 81 26 := hF5 81 26 (by decide) (by decide)
        unfold wX11_readCosts_82
        intro W695 hW696
        have hI697 : Inv W695 := by rw [hW696]; exact inv_set hI662 (i_any _)
        have hF698 : Fr [92, 93] [(81, 25), (81, 26), (81, 32), (81, 33), (81, 34), (81, 35), (81, 36), (81, 37)] M W695 := by rw [hW696]; exact fr_fld hF663 (by decide)
        have hv699 : W695 81 26 = ((W660 81 26) ||| (0 : Int32)) := by rw [hW696]; exact mset_at _ _ _ _
        refine sf_X11_next hI697  (fun M701 t702 hI703 hF704 hq705 => ?_)
        have hF706 : Fr [92, 93] [(81, 25), (81, 26), (81, 32), (81, 33), (81, 34), (81, 35), (81, 36), (81, 37)] M M701 := fr_call hF698 hF704 (by decide) (by decide)
        have hx707 : W695 81 32 = W660 81 32 := by rw [hW696, mset_nk (by decide)]
        have hx708 : W660 81 32 = M2 81 32 := by rw [hW661, mset_nk (by decide)]
        have hx709 : M2 81 32 = M 81 32 := hF5 81 32 (by decide) (by decide)
        have hx710 : W695 81 34 = W660 81 34 := by rw [hW696, mset_nk (by decide)]
        have hx711 : W660 81 34 = M2 81 34 := by rw [hW661, mset_nk (by decide)]
        have hx712 : M2 81 34 = M 81 34 := hF5 81 34 (by decide) (by decide)
        have hx713 : W695 81 36 = W660 81 36 := by rw [hW696, mset_nk (by decide)]
        have hx714 : W660 81 36 = M2 81 36 := by rw [hW661, mset_nk (by decide)]
        have hr715 := iv_81_32 hI703
        have hr716 := iv_81_36 hI703
        obtain ⟨n717, hn718⟩ := sl_X11_readCosts_92 (Mb := M) hp  (1 : Int32) (by lia) (by lia)
        exact ⟨n717, hn718 _ _ v1 r1 hI703 hF706 (by lia)⟩
set_option maxHeartbeats 4000000 in
theorem sf_X11_kindNow {post : Int32 → MM → Int64 → Prop} {M : MM} {tl : Int64} (hI : Inv M) (hp : ∀ (r : Int32), (r = -4 ∨ (1 ≤ r ∧ r ≤ 5)) → post r M tl) : wpX11_kindNow post M tl  := by
  unfold wpX11_kindNow
  refine sf_X11_is hI  (fun r1 hq2 => ?_)
  refine ifs (fun hc3 => ?_) (fun hc4 => ?_)
  · skip
    unfold wX11_kindNow_29
    refine sf_X11_is hI  (fun r5 hq6 => ?_)
    refine ifs (fun hc7 => ?_) (fun hc8 => ?_)
    · skip
      unfold wX11_kindNow_60
      refine sf_X11_is hI  (fun r9 hq10 => ?_)
      refine ifs (fun hc11 => ?_) (fun hc12 => ?_)
      · skip
        refine sf_X11_is hI  (fun r13 hq14 => ?_)
        refine ifs (fun hc15 => ?_) (fun hc16 => ?_)
        · skip
          unfold wX11_kindNow_107
          refine sf_X11_is hI  (fun r17 hq18 => ?_)
          refine ifs (fun hc19 => ?_) (fun hc20 => ?_)
          · skip
            exact hp _ (by lia)
          · skip
            refine sf_X11_ends hI  (fun r21 hq22 => ?_)
            refine ifs (fun hc23 => ?_) (fun hc24 => ?_)
            · skip
              exact hp _ (by lia)
            · skip
              exact hp _ (by lia)
        · skip
          refine sf_X11_ends hI  (fun r25 hq26 => ?_)
          refine ifs (fun hc27 => ?_) (fun hc28 => ?_)
          · skip
            unfold wX11_kindNow_107
            refine sf_X11_is hI  (fun r29 hq30 => ?_)
            refine ifs (fun hc31 => ?_) (fun hc32 => ?_)
            · skip
              exact hp _ (by lia)
            · skip
              refine sf_X11_ends hI  (fun r33 hq34 => ?_)
              refine ifs (fun hc35 => ?_) (fun hc36 => ?_)
              · skip
                exact hp _ (by lia)
              · skip
                exact hp _ (by lia)
          · skip
            exact hp _ (by lia)
      · skip
        exact hp _ (by lia)
    · skip
      refine sf_X11_ends hI  (fun r37 hq38 => ?_)
      refine ifs (fun hc39 => ?_) (fun hc40 => ?_)
      · skip
        unfold wX11_kindNow_60
        refine sf_X11_is hI  (fun r41 hq42 => ?_)
        refine ifs (fun hc43 => ?_) (fun hc44 => ?_)
        · skip
          refine sf_X11_is hI  (fun r45 hq46 => ?_)
          refine ifs (fun hc47 => ?_) (fun hc48 => ?_)
          · skip
            unfold wX11_kindNow_107
            refine sf_X11_is hI  (fun r49 hq50 => ?_)
            refine ifs (fun hc51 => ?_) (fun hc52 => ?_)
            · skip
              exact hp _ (by lia)
            · skip
              refine sf_X11_ends hI  (fun r53 hq54 => ?_)
              refine ifs (fun hc55 => ?_) (fun hc56 => ?_)
              · skip
                exact hp _ (by lia)
              · skip
                exact hp _ (by lia)
          · skip
            refine sf_X11_ends hI  (fun r57 hq58 => ?_)
            refine ifs (fun hc59 => ?_) (fun hc60 => ?_)
            · skip
              unfold wX11_kindNow_107
              refine sf_X11_is hI  (fun r61 hq62 => ?_)
              refine ifs (fun hc63 => ?_) (fun hc64 => ?_)
              · skip
                exact hp _ (by lia)
              · skip
                refine sf_X11_ends hI  (fun r65 hq66 => ?_)
                refine ifs (fun hc67 => ?_) (fun hc68 => ?_)
                · skip
                  exact hp _ (by lia)
                · skip
                  exact hp _ (by lia)
            · skip
              exact hp _ (by lia)
        · skip
          exact hp _ (by lia)
      · skip
        exact hp _ (by lia)
  · skip
    refine sf_X11_ends hI  (fun r69 hq70 => ?_)
    refine ifs (fun hc71 => ?_) (fun hc72 => ?_)
    · skip
      unfold wX11_kindNow_29
      refine sf_X11_is hI  (fun r73 hq74 => ?_)
      refine ifs (fun hc75 => ?_) (fun hc76 => ?_)
      · skip
        unfold wX11_kindNow_60
        refine sf_X11_is hI  (fun r77 hq78 => ?_)
        refine ifs (fun hc79 => ?_) (fun hc80 => ?_)
        · skip
          refine sf_X11_is hI  (fun r81 hq82 => ?_)
          refine ifs (fun hc83 => ?_) (fun hc84 => ?_)
          · skip
            unfold wX11_kindNow_107
            refine sf_X11_is hI  (fun r85 hq86 => ?_)
            refine ifs (fun hc87 => ?_) (fun hc88 => ?_)
            · skip
              exact hp _ (by lia)
            · skip
              refine sf_X11_ends hI  (fun r89 hq90 => ?_)
              refine ifs (fun hc91 => ?_) (fun hc92 => ?_)
              · skip
                exact hp _ (by lia)
              · skip
                exact hp _ (by lia)
          · skip
            refine sf_X11_ends hI  (fun r93 hq94 => ?_)
            refine ifs (fun hc95 => ?_) (fun hc96 => ?_)
            · skip
              unfold wX11_kindNow_107
              refine sf_X11_is hI  (fun r97 hq98 => ?_)
              refine ifs (fun hc99 => ?_) (fun hc100 => ?_)
              · skip
                exact hp _ (by lia)
              · skip
                refine sf_X11_ends hI  (fun r101 hq102 => ?_)
                refine ifs (fun hc103 => ?_) (fun hc104 => ?_)
                · skip
                  exact hp _ (by lia)
                · skip
                  exact hp _ (by lia)
            · skip
              exact hp _ (by lia)
        · skip
          exact hp _ (by lia)
      · skip
        refine sf_X11_ends hI  (fun r105 hq106 => ?_)
        refine ifs (fun hc107 => ?_) (fun hc108 => ?_)
        · skip
          unfold wX11_kindNow_60
          refine sf_X11_is hI  (fun r109 hq110 => ?_)
          refine ifs (fun hc111 => ?_) (fun hc112 => ?_)
          · skip
            refine sf_X11_is hI  (fun r113 hq114 => ?_)
            refine ifs (fun hc115 => ?_) (fun hc116 => ?_)
            · skip
              unfold wX11_kindNow_107
              refine sf_X11_is hI  (fun r117 hq118 => ?_)
              refine ifs (fun hc119 => ?_) (fun hc120 => ?_)
              · skip
                exact hp _ (by lia)
              · skip
                refine sf_X11_ends hI  (fun r121 hq122 => ?_)
                refine ifs (fun hc123 => ?_) (fun hc124 => ?_)
                · skip
                  exact hp _ (by lia)
                · skip
                  exact hp _ (by lia)
            · skip
              refine sf_X11_ends hI  (fun r125 hq126 => ?_)
              refine ifs (fun hc127 => ?_) (fun hc128 => ?_)
              · skip
                unfold wX11_kindNow_107
                refine sf_X11_is hI  (fun r129 hq130 => ?_)
                refine ifs (fun hc131 => ?_) (fun hc132 => ?_)
                · skip
                  exact hp _ (by lia)
                · skip
                  refine sf_X11_ends hI  (fun r133 hq134 => ?_)
                  refine ifs (fun hc135 => ?_) (fun hc136 => ?_)
                  · skip
                    exact hp _ (by lia)
                  · skip
                    exact hp _ (by lia)
              · skip
                exact hp _ (by lia)
          · skip
            exact hp _ (by lia)
        · skip
          exact hp _ (by lia)
    · skip
      exact hp _ (by lia)
set_option maxHeartbeats 4000000 in
theorem sf_X11_readKind {post : Int32 → MM → Int64 → Prop} {M : MM} {tl : Int64} {v1 : Int32} (hI : Inv M) (hp : ∀ (r : Int32) (M1 : MM) (t1 : Int64), Inv M1 → Fr [] [(81, 32), (81, 33), (81, 34), (81, 35), (81, 36), (81, 37)] M M1 → (0 ≤ r ∧ r ≤ 5) ∧ M 81 32 ≤ M1 81 32 ∧ (M 81 36 = 0 ∨ M1 81 36 ≠ 0) ∧ (M1 81 36 ≠ 0 ∨ M1 81 34 ≠ 3 ∨ M 81 32 < M1 81 32) → post r M1 t1) : wpX11_readKind post M tl v1 := by
  unfold wpX11_readKind
  have hr1 := iv_81_36 hI
  refine ifs (fun hc2 => ?_) (fun hc3 => ?_)
  · skip
    refine ifs (fun hc4 => ?_) (fun hc5 => ?_)
    · skip
      refine sf_X11_kindNow hI  (fun r6 hq7 => ?_)
      unfold wX11_readKind_24
      refine ifs (fun hc8 => ?_) (fun hc9 => ?_)
      · skip
        unfold wX11_readKind_37
        refine sf_X11_needs hI (by lia) (fun M11 t12 hI13 hF14 hq15 => ?_)
        have hF16 : Fr [] [(81, 32), (81, 33), (81, 34), (81, 35), (81, 36), (81, 37)] M M11 := fr_call fr_rfl hF14 (by decide) (by decide)
        refine ifs (fun hc17 => ?_) (fun hc18 => ?_)
        · skip
          unfold wX11_readKind_56
          unfold wX11_readKind_61
          refine sf_X11_needs hI13 (by lia) (fun M20 t21 hI22 hF23 hq24 => ?_)
          have hF25 : Fr [] [(81, 32), (81, 33), (81, 34), (81, 35), (81, 36), (81, 37)] M M20 := fr_call hF16 hF23 (by decide) (by decide)
          refine sf_X11_next hI22  (fun M27 t28 hI29 hF30 hq31 => ?_)
          have hF32 : Fr [] [(81, 32), (81, 33), (81, 34), (81, 35), (81, 36), (81, 37)] M M27 := fr_call hF25 hF30 (by decide) (by decide)
          refine ifs (fun hc33 => ?_) (fun hc34 => ?_)
          · skip
            have hx35 : M20 81 32 = M11 81 32 := hF23 81 32 (by decide) (by decide)
            have hx36 : M11 81 32 = M 81 32 := hF14 81 32 (by decide) (by decide)
            have hr37 := iv_81_32 hI29
            have hx38 : M20 81 34 = M11 81 34 := hF23 81 34 (by decide) (by decide)
            have hx39 : M11 81 34 = M 81 34 := hF14 81 34 (by decide) (by decide)
            have hr40 := iv_81_36 hI29
            exact hp _ _ _ hI29 hF32 (by lia)
          · skip
            have hx41 : M20 81 32 = M11 81 32 := hF23 81 32 (by decide) (by decide)
            have hx42 : M11 81 32 = M 81 32 := hF14 81 32 (by decide) (by decide)
            have hr43 := iv_81_32 hI29
            have hx44 : M20 81 34 = M11 81 34 := hF23 81 34 (by decide) (by decide)
            have hx45 : M11 81 34 = M 81 34 := hF14 81 34 (by decide) (by decide)
            have hr46 := iv_81_36 hI29
            exact hp _ _ _ hI29 hF32 (by lia)
        · skip
          have hm47 : (0 : Int32) ≤ ((v1 >>> (r6 &&& (31 : Int32))) &&& (1 : Int32)) ∧ ((v1 >>> (r6 &&& (31 : Int32))) &&& (1 : Int32)) ≤ (1 : Int32) := andc (v1 >>> (r6 &&& (31 : Int32))) 1 (by decide)
          have hm48 : (0 : Int32) ≤ (r6 &&& (31 : Int32)) ∧ (r6 &&& (31 : Int32)) ≤ (31 : Int32) := andc r6 31 (by decide)
          refine ifs (fun hc49 => ?_) (fun hc50 => ?_)
          · skip
            unfold wX11_readKind_56
            unfold wX11_readKind_61
            refine sf_X11_needs hI13 (by lia) (fun M52 t53 hI54 hF55 hq56 => ?_)
            have hF57 : Fr [] [(81, 32), (81, 33), (81, 34), (81, 35), (81, 36), (81, 37)] M M52 := fr_call hF16 hF55 (by decide) (by decide)
            refine sf_X11_next hI54  (fun M59 t60 hI61 hF62 hq63 => ?_)
            have hF64 : Fr [] [(81, 32), (81, 33), (81, 34), (81, 35), (81, 36), (81, 37)] M M59 := fr_call hF57 hF62 (by decide) (by decide)
            refine ifs (fun hc65 => ?_) (fun hc66 => ?_)
            · skip
              have hx67 : M52 81 32 = M11 81 32 := hF55 81 32 (by decide) (by decide)
              have hx68 : M11 81 32 = M 81 32 := hF14 81 32 (by decide) (by decide)
              have hr69 := iv_81_32 hI61
              have hx70 : M52 81 34 = M11 81 34 := hF55 81 34 (by decide) (by decide)
              have hx71 : M11 81 34 = M 81 34 := hF14 81 34 (by decide) (by decide)
              have hr72 := iv_81_36 hI61
              exact hp _ _ _ hI61 hF64 (by lia)
            · skip
              have hx73 : M52 81 32 = M11 81 32 := hF55 81 32 (by decide) (by decide)
              have hx74 : M11 81 32 = M 81 32 := hF14 81 32 (by decide) (by decide)
              have hr75 := iv_81_32 hI61
              have hx76 : M52 81 34 = M11 81 34 := hF55 81 34 (by decide) (by decide)
              have hx77 : M11 81 34 = M 81 34 := hF14 81 34 (by decide) (by decide)
              have hr78 := iv_81_36 hI61
              exact hp _ _ _ hI61 hF64 (by lia)
          · skip
            unfold wX11_readKind_61
            refine sf_X11_needs hI13 (by lia) (fun M80 t81 hI82 hF83 hq84 => ?_)
            have hF85 : Fr [] [(81, 32), (81, 33), (81, 34), (81, 35), (81, 36), (81, 37)] M M80 := fr_call hF16 hF83 (by decide) (by decide)
            refine sf_X11_next hI82  (fun M87 t88 hI89 hF90 hq91 => ?_)
            have hF92 : Fr [] [(81, 32), (81, 33), (81, 34), (81, 35), (81, 36), (81, 37)] M M87 := fr_call hF85 hF90 (by decide) (by decide)
            refine ifs (fun hc93 => ?_) (fun hc94 => ?_)
            · skip
              have hx95 : M80 81 32 = M11 81 32 := hF83 81 32 (by decide) (by decide)
              have hx96 : M11 81 32 = M 81 32 := hF14 81 32 (by decide) (by decide)
              have hr97 := iv_81_32 hI89
              have hx98 : M80 81 34 = M11 81 34 := hF83 81 34 (by decide) (by decide)
              have hx99 : M11 81 34 = M 81 34 := hF14 81 34 (by decide) (by decide)
              have hr100 := iv_81_36 hI89
              exact hp _ _ _ hI89 hF92 (by lia)
            · skip
              have hx101 : M80 81 32 = M11 81 32 := hF83 81 32 (by decide) (by decide)
              have hx102 : M11 81 32 = M 81 32 := hF14 81 32 (by decide) (by decide)
              have hr103 := iv_81_32 hI89
              have hx104 : M80 81 34 = M11 81 34 := hF83 81 34 (by decide) (by decide)
              have hx105 : M11 81 34 = M 81 34 := hF14 81 34 (by decide) (by decide)
              have hr106 := iv_81_36 hI89
              exact hp _ _ _ hI89 hF92 (by lia)
      · skip
        unfold wX11_readKind_37
        refine sf_X11_needs hI (by lia) (fun M108 t109 hI110 hF111 hq112 => ?_)
        have hF113 : Fr [] [(81, 32), (81, 33), (81, 34), (81, 35), (81, 36), (81, 37)] M M108 := fr_call fr_rfl hF111 (by decide) (by decide)
        refine ifs (fun hc114 => ?_) (fun hc115 => ?_)
        · skip
          unfold wX11_readKind_56
          unfold wX11_readKind_61
          refine sf_X11_needs hI110 (by lia) (fun M117 t118 hI119 hF120 hq121 => ?_)
          have hF122 : Fr [] [(81, 32), (81, 33), (81, 34), (81, 35), (81, 36), (81, 37)] M M117 := fr_call hF113 hF120 (by decide) (by decide)
          refine sf_X11_next hI119  (fun M124 t125 hI126 hF127 hq128 => ?_)
          have hF129 : Fr [] [(81, 32), (81, 33), (81, 34), (81, 35), (81, 36), (81, 37)] M M124 := fr_call hF122 hF127 (by decide) (by decide)
          refine ifs (fun hc130 => ?_) (fun hc131 => ?_)
          · skip
            have hx132 : M117 81 32 = M108 81 32 := hF120 81 32 (by decide) (by decide)
            have hx133 : M108 81 32 = M 81 32 := hF111 81 32 (by decide) (by decide)
            have hr134 := iv_81_32 hI126
            have hx135 : M117 81 34 = M108 81 34 := hF120 81 34 (by decide) (by decide)
            have hx136 : M108 81 34 = M 81 34 := hF111 81 34 (by decide) (by decide)
            have hr137 := iv_81_36 hI126
            exact hp _ _ _ hI126 hF129 (by lia)
          · skip
            have hx138 : M117 81 32 = M108 81 32 := hF120 81 32 (by decide) (by decide)
            have hx139 : M108 81 32 = M 81 32 := hF111 81 32 (by decide) (by decide)
            have hr140 := iv_81_32 hI126
            have hx141 : M117 81 34 = M108 81 34 := hF120 81 34 (by decide) (by decide)
            have hx142 : M108 81 34 = M 81 34 := hF111 81 34 (by decide) (by decide)
            have hr143 := iv_81_36 hI126
            exact hp _ _ _ hI126 hF129 (by lia)
        · skip
          have hm144 : (0 : Int32) ≤ ((v1 >>> (r6 &&& (31 : Int32))) &&& (1 : Int32)) ∧ ((v1 >>> (r6 &&& (31 : Int32))) &&& (1 : Int32)) ≤ (1 : Int32) := andc (v1 >>> (r6 &&& (31 : Int32))) 1 (by decide)
          have hm145 : (0 : Int32) ≤ (r6 &&& (31 : Int32)) ∧ (r6 &&& (31 : Int32)) ≤ (31 : Int32) := andc r6 31 (by decide)
          refine ifs (fun hc146 => ?_) (fun hc147 => ?_)
          · skip
            unfold wX11_readKind_56
            unfold wX11_readKind_61
            refine sf_X11_needs hI110 (by lia) (fun M149 t150 hI151 hF152 hq153 => ?_)
            have hF154 : Fr [] [(81, 32), (81, 33), (81, 34), (81, 35), (81, 36), (81, 37)] M M149 := fr_call hF113 hF152 (by decide) (by decide)
            refine sf_X11_next hI151  (fun M156 t157 hI158 hF159 hq160 => ?_)
            have hF161 : Fr [] [(81, 32), (81, 33), (81, 34), (81, 35), (81, 36), (81, 37)] M M156 := fr_call hF154 hF159 (by decide) (by decide)
            refine ifs (fun hc162 => ?_) (fun hc163 => ?_)
            · skip
              have hx164 : M149 81 32 = M108 81 32 := hF152 81 32 (by decide) (by decide)
              have hx165 : M108 81 32 = M 81 32 := hF111 81 32 (by decide) (by decide)
              have hr166 := iv_81_32 hI158
              have hx167 : M149 81 34 = M108 81 34 := hF152 81 34 (by decide) (by decide)
              have hx168 : M108 81 34 = M 81 34 := hF111 81 34 (by decide) (by decide)
              have hr169 := iv_81_36 hI158
              exact hp _ _ _ hI158 hF161 (by lia)
            · skip
              have hx170 : M149 81 32 = M108 81 32 := hF152 81 32 (by decide) (by decide)
              have hx171 : M108 81 32 = M 81 32 := hF111 81 32 (by decide) (by decide)
              have hr172 := iv_81_32 hI158
              have hx173 : M149 81 34 = M108 81 34 := hF152 81 34 (by decide) (by decide)
              have hx174 : M108 81 34 = M 81 34 := hF111 81 34 (by decide) (by decide)
              have hr175 := iv_81_36 hI158
              exact hp _ _ _ hI158 hF161 (by lia)
          · skip
            unfold wX11_readKind_61
            refine sf_X11_needs hI110 (by lia) (fun M177 t178 hI179 hF180 hq181 => ?_)
            have hF182 : Fr [] [(81, 32), (81, 33), (81, 34), (81, 35), (81, 36), (81, 37)] M M177 := fr_call hF113 hF180 (by decide) (by decide)
            refine sf_X11_next hI179  (fun M184 t185 hI186 hF187 hq188 => ?_)
            have hF189 : Fr [] [(81, 32), (81, 33), (81, 34), (81, 35), (81, 36), (81, 37)] M M184 := fr_call hF182 hF187 (by decide) (by decide)
            refine ifs (fun hc190 => ?_) (fun hc191 => ?_)
            · skip
              have hx192 : M177 81 32 = M108 81 32 := hF180 81 32 (by decide) (by decide)
              have hx193 : M108 81 32 = M 81 32 := hF111 81 32 (by decide) (by decide)
              have hr194 := iv_81_32 hI186
              have hx195 : M177 81 34 = M108 81 34 := hF180 81 34 (by decide) (by decide)
              have hx196 : M108 81 34 = M 81 34 := hF111 81 34 (by decide) (by decide)
              have hr197 := iv_81_36 hI186
              exact hp _ _ _ hI186 hF189 (by lia)
            · skip
              have hx198 : M177 81 32 = M108 81 32 := hF180 81 32 (by decide) (by decide)
              have hx199 : M108 81 32 = M 81 32 := hF111 81 32 (by decide) (by decide)
              have hr200 := iv_81_32 hI186
              have hx201 : M177 81 34 = M108 81 34 := hF180 81 34 (by decide) (by decide)
              have hx202 : M108 81 34 = M 81 34 := hF111 81 34 (by decide) (by decide)
              have hr203 := iv_81_36 hI186
              exact hp _ _ _ hI186 hF189 (by lia)
    · skip
      unfold wX11_readKind_22
      unfold wX11_readKind_24
      refine ifp (by decide) ?_
      unfold wX11_readKind_37
      refine sf_X11_needs hI (by lia) (fun M205 t206 hI207 hF208 hq209 => ?_)
      have hF210 : Fr [] [(81, 32), (81, 33), (81, 34), (81, 35), (81, 36), (81, 37)] M M205 := fr_call fr_rfl hF208 (by decide) (by decide)
      refine ifp (by decide) ?_
      unfold wX11_readKind_56
      unfold wX11_readKind_61
      refine sf_X11_needs hI207 (by lia) (fun M212 t213 hI214 hF215 hq216 => ?_)
      have hF217 : Fr [] [(81, 32), (81, 33), (81, 34), (81, 35), (81, 36), (81, 37)] M M212 := fr_call hF210 hF215 (by decide) (by decide)
      refine sf_X11_next hI214  (fun M219 t220 hI221 hF222 hq223 => ?_)
      have hF224 : Fr [] [(81, 32), (81, 33), (81, 34), (81, 35), (81, 36), (81, 37)] M M219 := fr_call hF217 hF222 (by decide) (by decide)
      refine ifp (by decide) ?_
      have hx225 : M212 81 32 = M205 81 32 := hF215 81 32 (by decide) (by decide)
      have hx226 : M205 81 32 = M 81 32 := hF208 81 32 (by decide) (by decide)
      have hr227 := iv_81_32 hI221
      have hx228 : M212 81 34 = M205 81 34 := hF215 81 34 (by decide) (by decide)
      have hx229 : M205 81 34 = M 81 34 := hF208 81 34 (by decide) (by decide)
      have hr230 := iv_81_36 hI221
      exact hp _ _ _ hI221 hF224 (by lia)
  · skip
    unfold wX11_readKind_22
    unfold wX11_readKind_24
    refine ifp (by decide) ?_
    unfold wX11_readKind_37
    refine sf_X11_needs hI (by lia) (fun M232 t233 hI234 hF235 hq236 => ?_)
    have hF237 : Fr [] [(81, 32), (81, 33), (81, 34), (81, 35), (81, 36), (81, 37)] M M232 := fr_call fr_rfl hF235 (by decide) (by decide)
    refine ifp (by decide) ?_
    unfold wX11_readKind_56
    unfold wX11_readKind_61
    refine sf_X11_needs hI234 (by lia) (fun M239 t240 hI241 hF242 hq243 => ?_)
    have hF244 : Fr [] [(81, 32), (81, 33), (81, 34), (81, 35), (81, 36), (81, 37)] M M239 := fr_call hF237 hF242 (by decide) (by decide)
    refine sf_X11_next hI241  (fun M246 t247 hI248 hF249 hq250 => ?_)
    have hF251 : Fr [] [(81, 32), (81, 33), (81, 34), (81, 35), (81, 36), (81, 37)] M M246 := fr_call hF244 hF249 (by decide) (by decide)
    refine ifp (by decide) ?_
    have hx252 : M239 81 32 = M232 81 32 := hF242 81 32 (by decide) (by decide)
    have hx253 : M232 81 32 = M 81 32 := hF235 81 32 (by decide) (by decide)
    have hr254 := iv_81_32 hI248
    have hx255 : M239 81 34 = M232 81 34 := hF242 81 34 (by decide) (by decide)
    have hx256 : M232 81 34 = M 81 34 := hF235 81 34 (by decide) (by decide)
    have hr257 := iv_81_36 hI248
    exact hp _ _ _ hI248 hF251 (by lia)
set_option maxHeartbeats 4000000 in
theorem sf_X11_readColour {post : Int32 → MM → Int64 → Prop} {M : MM} {tl : Int64} {v1 : Int32} (hI : Inv M) (hp : ∀ (r : Int32) (M1 : MM) (t1 : Int64), Inv M1 → Fr [] [(81, 32), (81, 33), (81, 34), (81, 35), (81, 36), (81, 37)] M M1 → (0 ≤ r ∧ r ≤ 3) ∧ M 81 32 ≤ M1 81 32 ∧ (M 81 36 = 0 ∨ M1 81 36 ≠ 0) ∧ (M1 81 36 ≠ 0 ∨ M1 81 34 ≠ 3 ∨ M 81 32 < M1 81 32) → post r M1 t1) : wpX11_readColour post M tl v1 := by
  unfold wpX11_readColour
  refine sf_X11_looked hI  (fun r1 M2 t3 hI4 hF5 hq6 => ?_)
  have hF7 : Fr [] [(81, 32), (81, 33), (81, 34), (81, 35), (81, 36), (81, 37)] M M2 := fr_call fr_rfl hF5 (by decide) (by decide)
  have hr8 := iv_81_36 hI4
  refine ifs (fun hc9 => ?_) (fun hc10 => ?_)
  · skip
    have hm11 : (0 : Int32) ≤ ((v1 >>> (r1 &&& (31 : Int32))) &&& (1 : Int32)) ∧ ((v1 >>> (r1 &&& (31 : Int32))) &&& (1 : Int32)) ≤ (1 : Int32) := andc (v1 >>> (r1 &&& (31 : Int32))) 1 (by decide)
    have hm12 : (0 : Int32) ≤ (r1 &&& (31 : Int32)) ∧ (r1 &&& (31 : Int32)) ≤ (31 : Int32) := andc r1 31 (by decide)
    refine ifs (fun hc13 => ?_) (fun hc14 => ?_)
    · skip
      unfold wX11_readColour_28
      refine sf_X11_needs hI4 (by lia) (fun M16 t17 hI18 hF19 hq20 => ?_)
      have hF21 : Fr [] [(81, 32), (81, 33), (81, 34), (81, 35), (81, 36), (81, 37)] M M16 := fr_call hF7 hF19 (by decide) (by decide)
      unfold wX11_readColour_32
      refine sf_X11_next hI18  (fun M23 t24 hI25 hF26 hq27 => ?_)
      have hF28 : Fr [] [(81, 32), (81, 33), (81, 34), (81, 35), (81, 36), (81, 37)] M M23 := fr_call hF21 hF26 (by decide) (by decide)
      have hx29 : M16 81 32 = M2 81 32 := hF19 81 32 (by decide) (by decide)
      have hx30 : M2 81 32 = M 81 32 := hF5 81 32 (by decide) (by decide)
      have hr31 := iv_81_32 hI25
      have hx32 : M16 81 34 = M2 81 34 := hF19 81 34 (by decide) (by decide)
      have hx33 : M2 81 34 = M 81 34 := hF5 81 34 (by decide) (by decide)
      have hr34 := iv_81_36 hI25
      exact hp _ _ _ hI25 hF28 (by lia)
    · skip
      unfold wX11_readColour_28
      refine sf_X11_needs hI4 (by lia) (fun M36 t37 hI38 hF39 hq40 => ?_)
      have hF41 : Fr [] [(81, 32), (81, 33), (81, 34), (81, 35), (81, 36), (81, 37)] M M36 := fr_call hF7 hF39 (by decide) (by decide)
      unfold wX11_readColour_32
      refine sf_X11_next hI38  (fun M43 t44 hI45 hF46 hq47 => ?_)
      have hF48 : Fr [] [(81, 32), (81, 33), (81, 34), (81, 35), (81, 36), (81, 37)] M M43 := fr_call hF41 hF46 (by decide) (by decide)
      have hx49 : M36 81 32 = M2 81 32 := hF39 81 32 (by decide) (by decide)
      have hx50 : M2 81 32 = M 81 32 := hF5 81 32 (by decide) (by decide)
      have hr51 := iv_81_32 hI45
      have hx52 : M36 81 34 = M2 81 34 := hF39 81 34 (by decide) (by decide)
      have hx53 : M2 81 34 = M 81 34 := hF5 81 34 (by decide) (by decide)
      have hr54 := iv_81_36 hI45
      exact hp _ _ _ hI45 hF48 (by lia)
  · skip
    unfold wX11_readColour_32
    refine sf_X11_next hI4  (fun M56 t57 hI58 hF59 hq60 => ?_)
    have hF61 : Fr [] [(81, 32), (81, 33), (81, 34), (81, 35), (81, 36), (81, 37)] M M56 := fr_call hF7 hF59 (by decide) (by decide)
    have hx62 : M2 81 32 = M 81 32 := hF5 81 32 (by decide) (by decide)
    have hr63 := iv_81_32 hI58
    have hx64 : M2 81 34 = M 81 34 := hF5 81 34 (by decide) (by decide)
    have hr65 := iv_81_36 hI58
    exact hp _ _ _ hI58 hF61 (by lia)
set_option maxHeartbeats 4000000 in
theorem sf_X11_readLaw {post : MM → Int64 → Prop} {M : MM} {tl : Int64} {v1 : Int32} (hI : Inv M) (hp : ∀ (M1 : MM) (t1 : Int64), Inv M1 → Fr [94, 95, 96] [(81, 22), (81, 27), (81, 28), (81, 32), (81, 33), (81, 34), (81, 35), (81, 36), (81, 37)] M M1 → M 81 32 ≤ M1 81 32 ∧ (M 81 36 = 0 ∨ M1 81 36 ≠ 0) ∧ (M1 81 36 ≠ 0 ∨ M1 81 34 ≠ 3 ∨ M 81 32 < M1 81 32) → post M1 t1) : wpX11_readLaw post M tl v1 := by
  unfold wpX11_readLaw
  refine ifs (fun hc1 => ?_) (fun hc2 => ?_)
  · skip
    refine sf_X11_readKind hI  (fun r3 M4 t5 hI6 hF7 hq8 => ?_)
    have hF9 : Fr [94, 95, 96] [(81, 22), (81, 27), (81, 28), (81, 32), (81, 33), (81, 34), (81, 35), (81, 36), (81, 37)] M M4 := fr_call fr_rfl hF7 (by decide) (by decide)
    have hx10 : M4 81 27 = M 81 27 := hF7 81 27 (by decide) (by decide)
    have hm11 : (0 : Int32) ≤ (r3 &&& (31 : Int32)) ∧ (r3 &&& (31 : Int32)) ≤ (31 : Int32) := andc r3 31 (by decide)
    refine sf_X11_readKind hI6  (fun r12 M13 t14 hI15 hF16 hq17 => ?_)
    have hF18 : Fr [94, 95, 96] [(81, 22), (81, 27), (81, 28), (81, 32), (81, 33), (81, 34), (81, 35), (81, 36), (81, 37)] M M13 := fr_call hF9 hF16 (by decide) (by decide)
    have hr19 := iv_81_36 hI15
    refine ifs (fun hc20 => ?_) (fun hc21 => ?_)
    · skip
      unfold wX11_readLaw_50
      refine And.intro (vpI (c := 6) (by decide) (by lia) (by lia)) ?_
      intro W22 hW23
      have hI24 : Inv W22 := by rw [hW23]; exact inv_set hI15 (show 0 ≤ r12 ∧ r12 ≤ 5 from ⟨by lia, by lia⟩)
      have hF25 : Fr [94, 95, 96] [(81, 22), (81, 27), (81, 28), (81, 32), (81, 33), (81, 34), (81, 35), (81, 36), (81, 37)] M W22 := by rw [hW23]; exact fr_arr hF18 (by decide)
      have hx26 : W22 81 36 = M13 81 36 := by rw [hW23, mset_ne (by decide)]
      have hx27 : W22 81 36 = M13 81 36 := by rw [hW23, mset_ne (by decide)]
      have hr28 := iv_81_36 hI15
      have hr29 := iv_81_36 hI24
      refine ifs (fun hc30 => ?_) (fun hc31 => ?_)
      · skip
        unfold wX11_readLaw_73
        refine And.intro (vpI (c := 6) (by decide) (by lia) (by lia)) ?_
        intro W32 hW33
        have hI34 : Inv W32 := by rw [hW33]; exact inv_set hI24 (show 0 ≤ r3 ∧ r3 ≤ 5 from ⟨by lia, by lia⟩)
        have hF35 : Fr [94, 95, 96] [(81, 22), (81, 27), (81, 28), (81, 32), (81, 33), (81, 34), (81, 35), (81, 36), (81, 37)] M W32 := by rw [hW33]; exact fr_arr hF25 (by decide)
        have hx38 : W32 81 27 = W22 81 27 := by rw [hW33, mset_ne (by decide)]
        have hx39 : W22 81 27 = M13 81 27 := by rw [hW23, mset_ne (by decide)]
        have hx40 : M13 81 27 = M4 81 27 := hF16 81 27 (by decide) (by decide)
        have hx41 : M4 81 27 = M 81 27 := hF7 81 27 (by decide) (by decide)
        have hm42 : (0 : Int32) ≤ (r12 &&& (31 : Int32)) ∧ (r12 &&& (31 : Int32)) ≤ (31 : Int32) := andc r12 31 (by decide)
        intro W36 hW37
        have hI43 : Inv W36 := by rw [hW37]; exact inv_set hI34 (i_any _)
        have hF44 : Fr [94, 95, 96] [(81, 22), (81, 27), (81, 28), (81, 32), (81, 33), (81, 34), (81, 35), (81, 36), (81, 37)] M W36 := by rw [hW37]; exact fr_fld hF35 (by decide)
        have hv45 : W36 81 27 = ((W32 81 27) ||| (((1 : Int32) <<< (r3 &&& (31 : Int32))) ||| ((1 : Int32) <<< (r12 &&& (31 : Int32))))) := by rw [hW37]; exact mset_at _ _ _ _
        have hx46 : W36 81 32 = W32 81 32 := by rw [hW37, mset_nk (by decide)]
        have hx47 : W32 81 32 = W22 81 32 := by rw [hW33, mset_ne (by decide)]
        have hx48 : W22 81 32 = M13 81 32 := by rw [hW23, mset_ne (by decide)]
        have hx49 : W36 81 32 = W32 81 32 := by rw [hW37, mset_nk (by decide)]
        have hr50 := iv_81_32 hI34
        have hx51 : W32 81 32 = W22 81 32 := by rw [hW33, mset_ne (by decide)]
        have hr52 := iv_81_32 hI24
        have hx53 : W22 81 32 = M13 81 32 := by rw [hW23, mset_ne (by decide)]
        have hr54 := iv_81_32 hI15
        have hr55 := iv_81_32 hI43
        have hx56 : W36 81 34 = W32 81 34 := by rw [hW37, mset_nk (by decide)]
        have hx57 : W32 81 34 = W22 81 34 := by rw [hW33, mset_ne (by decide)]
        have hx58 : W22 81 34 = M13 81 34 := by rw [hW23, mset_ne (by decide)]
        have hx59 : W36 81 34 = W32 81 34 := by rw [hW37, mset_nk (by decide)]
        have hx60 : W32 81 34 = W22 81 34 := by rw [hW33, mset_ne (by decide)]
        have hx61 : W22 81 34 = M13 81 34 := by rw [hW23, mset_ne (by decide)]
        have hx62 : W36 81 36 = W32 81 36 := by rw [hW37, mset_nk (by decide)]
        have hx63 : W32 81 36 = W22 81 36 := by rw [hW33, mset_ne (by decide)]
        have hx64 : W36 81 36 = W32 81 36 := by rw [hW37, mset_nk (by decide)]
        have hr65 := iv_81_36 hI34
        have hx66 : W32 81 36 = W22 81 36 := by rw [hW33, mset_ne (by decide)]
        have hr67 := iv_81_36 hI24
        have hx68 : W22 81 36 = M13 81 36 := by rw [hW23, mset_ne (by decide)]
        have hr69 := iv_81_36 hI15
        have hr70 := iv_81_36 hI43
        exact hp _ _ hI43 hF44 (by lia)
      · skip
        refine And.intro (vpI (c := 6) (by decide) (by lia) (by lia)) ?_
        have hr71 := iv_95 hI24 (r12).toNatClampNeg
        unfold wX11_readLaw_73
        refine And.intro (vpI (c := 6) (by decide) (by lia) (by lia)) ?_
        intro W72 hW73
        have hI74 : Inv W72 := by rw [hW73]; exact inv_set hI24 (show 0 ≤ (W22 95 (r12).toNatClampNeg) ∧ (W22 95 (r12).toNatClampNeg) ≤ 5 from ⟨by lia, by lia⟩)
        have hF75 : Fr [94, 95, 96] [(81, 22), (81, 27), (81, 28), (81, 32), (81, 33), (81, 34), (81, 35), (81, 36), (81, 37)] M W72 := by rw [hW73]; exact fr_arr hF25 (by decide)
        have hx78 : W72 81 27 = W22 81 27 := by rw [hW73, mset_ne (by decide)]
        have hx79 : W22 81 27 = M13 81 27 := by rw [hW23, mset_ne (by decide)]
        have hx80 : M13 81 27 = M4 81 27 := hF16 81 27 (by decide) (by decide)
        have hx81 : M4 81 27 = M 81 27 := hF7 81 27 (by decide) (by decide)
        have hm82 : (0 : Int32) ≤ (r12 &&& (31 : Int32)) ∧ (r12 &&& (31 : Int32)) ≤ (31 : Int32) := andc r12 31 (by decide)
        intro W76 hW77
        have hI83 : Inv W76 := by rw [hW77]; exact inv_set hI74 (i_any _)
        have hF84 : Fr [94, 95, 96] [(81, 22), (81, 27), (81, 28), (81, 32), (81, 33), (81, 34), (81, 35), (81, 36), (81, 37)] M W76 := by rw [hW77]; exact fr_fld hF75 (by decide)
        have hv85 : W76 81 27 = ((W72 81 27) ||| (((1 : Int32) <<< (r3 &&& (31 : Int32))) ||| ((1 : Int32) <<< (r12 &&& (31 : Int32))))) := by rw [hW77]; exact mset_at _ _ _ _
        have hx86 : W76 81 32 = W72 81 32 := by rw [hW77, mset_nk (by decide)]
        have hx87 : W72 81 32 = W22 81 32 := by rw [hW73, mset_ne (by decide)]
        have hx88 : W22 81 32 = M13 81 32 := by rw [hW23, mset_ne (by decide)]
        have hx89 : W76 81 32 = W72 81 32 := by rw [hW77, mset_nk (by decide)]
        have hr90 := iv_81_32 hI74
        have hx91 : W72 81 32 = W22 81 32 := by rw [hW73, mset_ne (by decide)]
        have hr92 := iv_81_32 hI24
        have hx93 : W22 81 32 = M13 81 32 := by rw [hW23, mset_ne (by decide)]
        have hr94 := iv_81_32 hI15
        have hr95 := iv_81_32 hI83
        have hx96 : W76 81 34 = W72 81 34 := by rw [hW77, mset_nk (by decide)]
        have hx97 : W72 81 34 = W22 81 34 := by rw [hW73, mset_ne (by decide)]
        have hx98 : W22 81 34 = M13 81 34 := by rw [hW23, mset_ne (by decide)]
        have hx99 : W76 81 34 = W72 81 34 := by rw [hW77, mset_nk (by decide)]
        have hx100 : W72 81 34 = W22 81 34 := by rw [hW73, mset_ne (by decide)]
        have hx101 : W22 81 34 = M13 81 34 := by rw [hW23, mset_ne (by decide)]
        have hx102 : W76 81 36 = W72 81 36 := by rw [hW77, mset_nk (by decide)]
        have hx103 : W72 81 36 = W22 81 36 := by rw [hW73, mset_ne (by decide)]
        have hx104 : W76 81 36 = W72 81 36 := by rw [hW77, mset_nk (by decide)]
        have hr105 := iv_81_36 hI74
        have hx106 : W72 81 36 = W22 81 36 := by rw [hW73, mset_ne (by decide)]
        have hr107 := iv_81_36 hI24
        have hx108 : W22 81 36 = M13 81 36 := by rw [hW23, mset_ne (by decide)]
        have hr109 := iv_81_36 hI15
        have hr110 := iv_81_36 hI83
        exact hp _ _ hI83 hF84 (by lia)
    · skip
      refine And.intro (vpI (c := 6) (by decide) (by lia) (by lia)) ?_
      have hr111 := iv_95 hI15 (r3).toNatClampNeg
      unfold wX11_readLaw_50
      refine And.intro (vpI (c := 6) (by decide) (by lia) (by lia)) ?_
      intro W112 hW113
      have hI114 : Inv W112 := by rw [hW113]; exact inv_set hI15 (show 0 ≤ (M13 95 (r3).toNatClampNeg) ∧ (M13 95 (r3).toNatClampNeg) ≤ 5 from ⟨by lia, by lia⟩)
      have hF115 : Fr [94, 95, 96] [(81, 22), (81, 27), (81, 28), (81, 32), (81, 33), (81, 34), (81, 35), (81, 36), (81, 37)] M W112 := by rw [hW113]; exact fr_arr hF18 (by decide)
      have hx116 : W112 81 36 = M13 81 36 := by rw [hW113, mset_ne (by decide)]
      have hx117 : W112 81 36 = M13 81 36 := by rw [hW113, mset_ne (by decide)]
      have hr118 := iv_81_36 hI15
      have hr119 := iv_81_36 hI114
      refine ifs (fun hc120 => ?_) (fun hc121 => ?_)
      · skip
        unfold wX11_readLaw_73
        refine And.intro (vpI (c := 6) (by decide) (by lia) (by lia)) ?_
        intro W122 hW123
        have hI124 : Inv W122 := by rw [hW123]; exact inv_set hI114 (show 0 ≤ r3 ∧ r3 ≤ 5 from ⟨by lia, by lia⟩)
        have hF125 : Fr [94, 95, 96] [(81, 22), (81, 27), (81, 28), (81, 32), (81, 33), (81, 34), (81, 35), (81, 36), (81, 37)] M W122 := by rw [hW123]; exact fr_arr hF115 (by decide)
        have hx128 : W122 81 27 = W112 81 27 := by rw [hW123, mset_ne (by decide)]
        have hx129 : W112 81 27 = M13 81 27 := by rw [hW113, mset_ne (by decide)]
        have hx130 : M13 81 27 = M4 81 27 := hF16 81 27 (by decide) (by decide)
        have hx131 : M4 81 27 = M 81 27 := hF7 81 27 (by decide) (by decide)
        have hm132 : (0 : Int32) ≤ (r12 &&& (31 : Int32)) ∧ (r12 &&& (31 : Int32)) ≤ (31 : Int32) := andc r12 31 (by decide)
        intro W126 hW127
        have hI133 : Inv W126 := by rw [hW127]; exact inv_set hI124 (i_any _)
        have hF134 : Fr [94, 95, 96] [(81, 22), (81, 27), (81, 28), (81, 32), (81, 33), (81, 34), (81, 35), (81, 36), (81, 37)] M W126 := by rw [hW127]; exact fr_fld hF125 (by decide)
        have hv135 : W126 81 27 = ((W122 81 27) ||| (((1 : Int32) <<< (r3 &&& (31 : Int32))) ||| ((1 : Int32) <<< (r12 &&& (31 : Int32))))) := by rw [hW127]; exact mset_at _ _ _ _
        have hx136 : W126 81 32 = W122 81 32 := by rw [hW127, mset_nk (by decide)]
        have hx137 : W122 81 32 = W112 81 32 := by rw [hW123, mset_ne (by decide)]
        have hx138 : W112 81 32 = M13 81 32 := by rw [hW113, mset_ne (by decide)]
        have hx139 : W126 81 32 = W122 81 32 := by rw [hW127, mset_nk (by decide)]
        have hr140 := iv_81_32 hI124
        have hx141 : W122 81 32 = W112 81 32 := by rw [hW123, mset_ne (by decide)]
        have hr142 := iv_81_32 hI114
        have hx143 : W112 81 32 = M13 81 32 := by rw [hW113, mset_ne (by decide)]
        have hr144 := iv_81_32 hI15
        have hr145 := iv_81_32 hI133
        have hx146 : W126 81 34 = W122 81 34 := by rw [hW127, mset_nk (by decide)]
        have hx147 : W122 81 34 = W112 81 34 := by rw [hW123, mset_ne (by decide)]
        have hx148 : W112 81 34 = M13 81 34 := by rw [hW113, mset_ne (by decide)]
        have hx149 : W126 81 34 = W122 81 34 := by rw [hW127, mset_nk (by decide)]
        have hx150 : W122 81 34 = W112 81 34 := by rw [hW123, mset_ne (by decide)]
        have hx151 : W112 81 34 = M13 81 34 := by rw [hW113, mset_ne (by decide)]
        have hx152 : W126 81 36 = W122 81 36 := by rw [hW127, mset_nk (by decide)]
        have hx153 : W122 81 36 = W112 81 36 := by rw [hW123, mset_ne (by decide)]
        have hx154 : W126 81 36 = W122 81 36 := by rw [hW127, mset_nk (by decide)]
        have hr155 := iv_81_36 hI124
        have hx156 : W122 81 36 = W112 81 36 := by rw [hW123, mset_ne (by decide)]
        have hr157 := iv_81_36 hI114
        have hx158 : W112 81 36 = M13 81 36 := by rw [hW113, mset_ne (by decide)]
        have hr159 := iv_81_36 hI15
        have hr160 := iv_81_36 hI133
        exact hp _ _ hI133 hF134 (by lia)
      · skip
        refine And.intro (vpI (c := 6) (by decide) (by lia) (by lia)) ?_
        have hr161 := iv_95 hI114 (r12).toNatClampNeg
        unfold wX11_readLaw_73
        refine And.intro (vpI (c := 6) (by decide) (by lia) (by lia)) ?_
        intro W162 hW163
        have hI164 : Inv W162 := by rw [hW163]; exact inv_set hI114 (show 0 ≤ (W112 95 (r12).toNatClampNeg) ∧ (W112 95 (r12).toNatClampNeg) ≤ 5 from ⟨by lia, by lia⟩)
        have hF165 : Fr [94, 95, 96] [(81, 22), (81, 27), (81, 28), (81, 32), (81, 33), (81, 34), (81, 35), (81, 36), (81, 37)] M W162 := by rw [hW163]; exact fr_arr hF115 (by decide)
        have hx168 : W162 81 27 = W112 81 27 := by rw [hW163, mset_ne (by decide)]
        have hx169 : W112 81 27 = M13 81 27 := by rw [hW113, mset_ne (by decide)]
        have hx170 : M13 81 27 = M4 81 27 := hF16 81 27 (by decide) (by decide)
        have hx171 : M4 81 27 = M 81 27 := hF7 81 27 (by decide) (by decide)
        have hm172 : (0 : Int32) ≤ (r12 &&& (31 : Int32)) ∧ (r12 &&& (31 : Int32)) ≤ (31 : Int32) := andc r12 31 (by decide)
        intro W166 hW167
        have hI173 : Inv W166 := by rw [hW167]; exact inv_set hI164 (i_any _)
        have hF174 : Fr [94, 95, 96] [(81, 22), (81, 27), (81, 28), (81, 32), (81, 33), (81, 34), (81, 35), (81, 36), (81, 37)] M W166 := by rw [hW167]; exact fr_fld hF165 (by decide)
        have hv175 : W166 81 27 = ((W162 81 27) ||| (((1 : Int32) <<< (r3 &&& (31 : Int32))) ||| ((1 : Int32) <<< (r12 &&& (31 : Int32))))) := by rw [hW167]; exact mset_at _ _ _ _
        have hx176 : W166 81 32 = W162 81 32 := by rw [hW167, mset_nk (by decide)]
        have hx177 : W162 81 32 = W112 81 32 := by rw [hW163, mset_ne (by decide)]
        have hx178 : W112 81 32 = M13 81 32 := by rw [hW113, mset_ne (by decide)]
        have hx179 : W166 81 32 = W162 81 32 := by rw [hW167, mset_nk (by decide)]
        have hr180 := iv_81_32 hI164
        have hx181 : W162 81 32 = W112 81 32 := by rw [hW163, mset_ne (by decide)]
        have hr182 := iv_81_32 hI114
        have hx183 : W112 81 32 = M13 81 32 := by rw [hW113, mset_ne (by decide)]
        have hr184 := iv_81_32 hI15
        have hr185 := iv_81_32 hI173
        have hx186 : W166 81 34 = W162 81 34 := by rw [hW167, mset_nk (by decide)]
        have hx187 : W162 81 34 = W112 81 34 := by rw [hW163, mset_ne (by decide)]
        have hx188 : W112 81 34 = M13 81 34 := by rw [hW113, mset_ne (by decide)]
        have hx189 : W166 81 34 = W162 81 34 := by rw [hW167, mset_nk (by decide)]
        have hx190 : W162 81 34 = W112 81 34 := by rw [hW163, mset_ne (by decide)]
        have hx191 : W112 81 34 = M13 81 34 := by rw [hW113, mset_ne (by decide)]
        have hx192 : W166 81 36 = W162 81 36 := by rw [hW167, mset_nk (by decide)]
        have hx193 : W162 81 36 = W112 81 36 := by rw [hW163, mset_ne (by decide)]
        have hx194 : W166 81 36 = W162 81 36 := by rw [hW167, mset_nk (by decide)]
        have hr195 := iv_81_36 hI164
        have hx196 : W162 81 36 = W112 81 36 := by rw [hW163, mset_ne (by decide)]
        have hr197 := iv_81_36 hI114
        have hx198 : W112 81 36 = M13 81 36 := by rw [hW113, mset_ne (by decide)]
        have hr199 := iv_81_36 hI15
        have hr200 := iv_81_36 hI173
        exact hp _ _ hI173 hF174 (by lia)
  · skip
    refine ifs (fun hc201 => ?_) (fun hc202 => ?_)
    · skip
      refine sf_X11_readColour hI  (fun r203 M204 t205 hI206 hF207 hq208 => ?_)
      have hF209 : Fr [94, 95, 96] [(81, 22), (81, 27), (81, 28), (81, 32), (81, 33), (81, 34), (81, 35), (81, 36), (81, 37)] M M204 := fr_call fr_rfl hF207 (by decide) (by decide)
      have hx210 : M204 81 28 = M 81 28 := hF207 81 28 (by decide) (by decide)
      have hm211 : (0 : Int32) ≤ (r203 &&& (31 : Int32)) ∧ (r203 &&& (31 : Int32)) ≤ (31 : Int32) := andc r203 31 (by decide)
      refine sf_X11_readColour hI206  (fun r212 M213 t214 hI215 hF216 hq217 => ?_)
      have hF218 : Fr [94, 95, 96] [(81, 22), (81, 27), (81, 28), (81, 32), (81, 33), (81, 34), (81, 35), (81, 36), (81, 37)] M M213 := fr_call hF209 hF216 (by decide) (by decide)
      have hr219 := iv_81_36 hI215
      refine ifs (fun hc220 => ?_) (fun hc221 => ?_)
      · skip
        unfold wX11_readLaw_143
        refine And.intro (vpI (c := 4) (by decide) (by lia) (by lia)) ?_
        intro W222 hW223
        have hI224 : Inv W222 := by rw [hW223]; exact inv_set hI215 (show 0 ≤ r212 ∧ r212 ≤ 3 from ⟨by lia, by lia⟩)
        have hF225 : Fr [94, 95, 96] [(81, 22), (81, 27), (81, 28), (81, 32), (81, 33), (81, 34), (81, 35), (81, 36), (81, 37)] M W222 := by rw [hW223]; exact fr_arr hF218 (by decide)
        have hx226 : W222 81 36 = M213 81 36 := by rw [hW223, mset_ne (by decide)]
        have hx227 : W222 81 36 = M213 81 36 := by rw [hW223, mset_ne (by decide)]
        have hr228 := iv_81_36 hI215
        have hr229 := iv_81_36 hI224
        refine ifs (fun hc230 => ?_) (fun hc231 => ?_)
        · skip
          unfold wX11_readLaw_166
          refine And.intro (vpI (c := 4) (by decide) (by lia) (by lia)) ?_
          intro W232 hW233
          have hI234 : Inv W232 := by rw [hW233]; exact inv_set hI224 (show 0 ≤ r203 ∧ r203 ≤ 3 from ⟨by lia, by lia⟩)
          have hF235 : Fr [94, 95, 96] [(81, 22), (81, 27), (81, 28), (81, 32), (81, 33), (81, 34), (81, 35), (81, 36), (81, 37)] M W232 := by rw [hW233]; exact fr_arr hF225 (by decide)
          have hx238 : W232 81 28 = W222 81 28 := by rw [hW233, mset_ne (by decide)]
          have hx239 : W222 81 28 = M213 81 28 := by rw [hW223, mset_ne (by decide)]
          have hx240 : M213 81 28 = M204 81 28 := hF216 81 28 (by decide) (by decide)
          have hx241 : M204 81 28 = M 81 28 := hF207 81 28 (by decide) (by decide)
          have hm242 : (0 : Int32) ≤ (r212 &&& (31 : Int32)) ∧ (r212 &&& (31 : Int32)) ≤ (31 : Int32) := andc r212 31 (by decide)
          intro W236 hW237
          have hI243 : Inv W236 := by rw [hW237]; exact inv_set hI234 (i_any _)
          have hF244 : Fr [94, 95, 96] [(81, 22), (81, 27), (81, 28), (81, 32), (81, 33), (81, 34), (81, 35), (81, 36), (81, 37)] M W236 := by rw [hW237]; exact fr_fld hF235 (by decide)
          have hv245 : W236 81 28 = ((W232 81 28) ||| (((1 : Int32) <<< (r203 &&& (31 : Int32))) ||| ((1 : Int32) <<< (r212 &&& (31 : Int32))))) := by rw [hW237]; exact mset_at _ _ _ _
          have hx246 : W236 81 32 = W232 81 32 := by rw [hW237, mset_nk (by decide)]
          have hx247 : W232 81 32 = W222 81 32 := by rw [hW233, mset_ne (by decide)]
          have hx248 : W222 81 32 = M213 81 32 := by rw [hW223, mset_ne (by decide)]
          have hx249 : W236 81 32 = W232 81 32 := by rw [hW237, mset_nk (by decide)]
          have hr250 := iv_81_32 hI234
          have hx251 : W232 81 32 = W222 81 32 := by rw [hW233, mset_ne (by decide)]
          have hr252 := iv_81_32 hI224
          have hx253 : W222 81 32 = M213 81 32 := by rw [hW223, mset_ne (by decide)]
          have hr254 := iv_81_32 hI215
          have hr255 := iv_81_32 hI243
          have hx256 : W236 81 34 = W232 81 34 := by rw [hW237, mset_nk (by decide)]
          have hx257 : W232 81 34 = W222 81 34 := by rw [hW233, mset_ne (by decide)]
          have hx258 : W222 81 34 = M213 81 34 := by rw [hW223, mset_ne (by decide)]
          have hx259 : W236 81 34 = W232 81 34 := by rw [hW237, mset_nk (by decide)]
          have hx260 : W232 81 34 = W222 81 34 := by rw [hW233, mset_ne (by decide)]
          have hx261 : W222 81 34 = M213 81 34 := by rw [hW223, mset_ne (by decide)]
          have hx262 : W236 81 36 = W232 81 36 := by rw [hW237, mset_nk (by decide)]
          have hx263 : W232 81 36 = W222 81 36 := by rw [hW233, mset_ne (by decide)]
          have hx264 : W236 81 36 = W232 81 36 := by rw [hW237, mset_nk (by decide)]
          have hr265 := iv_81_36 hI234
          have hx266 : W232 81 36 = W222 81 36 := by rw [hW233, mset_ne (by decide)]
          have hr267 := iv_81_36 hI224
          have hx268 : W222 81 36 = M213 81 36 := by rw [hW223, mset_ne (by decide)]
          have hr269 := iv_81_36 hI215
          have hr270 := iv_81_36 hI243
          exact hp _ _ hI243 hF244 (by lia)
        · skip
          refine And.intro (vpI (c := 4) (by decide) (by lia) (by lia)) ?_
          have hr271 := iv_96 hI224 (r212).toNatClampNeg
          unfold wX11_readLaw_166
          refine And.intro (vpI (c := 4) (by decide) (by lia) (by lia)) ?_
          intro W272 hW273
          have hI274 : Inv W272 := by rw [hW273]; exact inv_set hI224 (show 0 ≤ (W222 96 (r212).toNatClampNeg) ∧ (W222 96 (r212).toNatClampNeg) ≤ 3 from ⟨by lia, by lia⟩)
          have hF275 : Fr [94, 95, 96] [(81, 22), (81, 27), (81, 28), (81, 32), (81, 33), (81, 34), (81, 35), (81, 36), (81, 37)] M W272 := by rw [hW273]; exact fr_arr hF225 (by decide)
          have hx278 : W272 81 28 = W222 81 28 := by rw [hW273, mset_ne (by decide)]
          have hx279 : W222 81 28 = M213 81 28 := by rw [hW223, mset_ne (by decide)]
          have hx280 : M213 81 28 = M204 81 28 := hF216 81 28 (by decide) (by decide)
          have hx281 : M204 81 28 = M 81 28 := hF207 81 28 (by decide) (by decide)
          have hm282 : (0 : Int32) ≤ (r212 &&& (31 : Int32)) ∧ (r212 &&& (31 : Int32)) ≤ (31 : Int32) := andc r212 31 (by decide)
          intro W276 hW277
          have hI283 : Inv W276 := by rw [hW277]; exact inv_set hI274 (i_any _)
          have hF284 : Fr [94, 95, 96] [(81, 22), (81, 27), (81, 28), (81, 32), (81, 33), (81, 34), (81, 35), (81, 36), (81, 37)] M W276 := by rw [hW277]; exact fr_fld hF275 (by decide)
          have hv285 : W276 81 28 = ((W272 81 28) ||| (((1 : Int32) <<< (r203 &&& (31 : Int32))) ||| ((1 : Int32) <<< (r212 &&& (31 : Int32))))) := by rw [hW277]; exact mset_at _ _ _ _
          have hx286 : W276 81 32 = W272 81 32 := by rw [hW277, mset_nk (by decide)]
          have hx287 : W272 81 32 = W222 81 32 := by rw [hW273, mset_ne (by decide)]
          have hx288 : W222 81 32 = M213 81 32 := by rw [hW223, mset_ne (by decide)]
          have hx289 : W276 81 32 = W272 81 32 := by rw [hW277, mset_nk (by decide)]
          have hr290 := iv_81_32 hI274
          have hx291 : W272 81 32 = W222 81 32 := by rw [hW273, mset_ne (by decide)]
          have hr292 := iv_81_32 hI224
          have hx293 : W222 81 32 = M213 81 32 := by rw [hW223, mset_ne (by decide)]
          have hr294 := iv_81_32 hI215
          have hr295 := iv_81_32 hI283
          have hx296 : W276 81 34 = W272 81 34 := by rw [hW277, mset_nk (by decide)]
          have hx297 : W272 81 34 = W222 81 34 := by rw [hW273, mset_ne (by decide)]
          have hx298 : W222 81 34 = M213 81 34 := by rw [hW223, mset_ne (by decide)]
          have hx299 : W276 81 34 = W272 81 34 := by rw [hW277, mset_nk (by decide)]
          have hx300 : W272 81 34 = W222 81 34 := by rw [hW273, mset_ne (by decide)]
          have hx301 : W222 81 34 = M213 81 34 := by rw [hW223, mset_ne (by decide)]
          have hx302 : W276 81 36 = W272 81 36 := by rw [hW277, mset_nk (by decide)]
          have hx303 : W272 81 36 = W222 81 36 := by rw [hW273, mset_ne (by decide)]
          have hx304 : W276 81 36 = W272 81 36 := by rw [hW277, mset_nk (by decide)]
          have hr305 := iv_81_36 hI274
          have hx306 : W272 81 36 = W222 81 36 := by rw [hW273, mset_ne (by decide)]
          have hr307 := iv_81_36 hI224
          have hx308 : W222 81 36 = M213 81 36 := by rw [hW223, mset_ne (by decide)]
          have hr309 := iv_81_36 hI215
          have hr310 := iv_81_36 hI283
          exact hp _ _ hI283 hF284 (by lia)
      · skip
        refine And.intro (vpI (c := 4) (by decide) (by lia) (by lia)) ?_
        have hr311 := iv_96 hI215 (r203).toNatClampNeg
        unfold wX11_readLaw_143
        refine And.intro (vpI (c := 4) (by decide) (by lia) (by lia)) ?_
        intro W312 hW313
        have hI314 : Inv W312 := by rw [hW313]; exact inv_set hI215 (show 0 ≤ (M213 96 (r203).toNatClampNeg) ∧ (M213 96 (r203).toNatClampNeg) ≤ 3 from ⟨by lia, by lia⟩)
        have hF315 : Fr [94, 95, 96] [(81, 22), (81, 27), (81, 28), (81, 32), (81, 33), (81, 34), (81, 35), (81, 36), (81, 37)] M W312 := by rw [hW313]; exact fr_arr hF218 (by decide)
        have hx316 : W312 81 36 = M213 81 36 := by rw [hW313, mset_ne (by decide)]
        have hx317 : W312 81 36 = M213 81 36 := by rw [hW313, mset_ne (by decide)]
        have hr318 := iv_81_36 hI215
        have hr319 := iv_81_36 hI314
        refine ifs (fun hc320 => ?_) (fun hc321 => ?_)
        · skip
          unfold wX11_readLaw_166
          refine And.intro (vpI (c := 4) (by decide) (by lia) (by lia)) ?_
          intro W322 hW323
          have hI324 : Inv W322 := by rw [hW323]; exact inv_set hI314 (show 0 ≤ r203 ∧ r203 ≤ 3 from ⟨by lia, by lia⟩)
          have hF325 : Fr [94, 95, 96] [(81, 22), (81, 27), (81, 28), (81, 32), (81, 33), (81, 34), (81, 35), (81, 36), (81, 37)] M W322 := by rw [hW323]; exact fr_arr hF315 (by decide)
          have hx328 : W322 81 28 = W312 81 28 := by rw [hW323, mset_ne (by decide)]
          have hx329 : W312 81 28 = M213 81 28 := by rw [hW313, mset_ne (by decide)]
          have hx330 : M213 81 28 = M204 81 28 := hF216 81 28 (by decide) (by decide)
          have hx331 : M204 81 28 = M 81 28 := hF207 81 28 (by decide) (by decide)
          have hm332 : (0 : Int32) ≤ (r212 &&& (31 : Int32)) ∧ (r212 &&& (31 : Int32)) ≤ (31 : Int32) := andc r212 31 (by decide)
          intro W326 hW327
          have hI333 : Inv W326 := by rw [hW327]; exact inv_set hI324 (i_any _)
          have hF334 : Fr [94, 95, 96] [(81, 22), (81, 27), (81, 28), (81, 32), (81, 33), (81, 34), (81, 35), (81, 36), (81, 37)] M W326 := by rw [hW327]; exact fr_fld hF325 (by decide)
          have hv335 : W326 81 28 = ((W322 81 28) ||| (((1 : Int32) <<< (r203 &&& (31 : Int32))) ||| ((1 : Int32) <<< (r212 &&& (31 : Int32))))) := by rw [hW327]; exact mset_at _ _ _ _
          have hx336 : W326 81 32 = W322 81 32 := by rw [hW327, mset_nk (by decide)]
          have hx337 : W322 81 32 = W312 81 32 := by rw [hW323, mset_ne (by decide)]
          have hx338 : W312 81 32 = M213 81 32 := by rw [hW313, mset_ne (by decide)]
          have hx339 : W326 81 32 = W322 81 32 := by rw [hW327, mset_nk (by decide)]
          have hr340 := iv_81_32 hI324
          have hx341 : W322 81 32 = W312 81 32 := by rw [hW323, mset_ne (by decide)]
          have hr342 := iv_81_32 hI314
          have hx343 : W312 81 32 = M213 81 32 := by rw [hW313, mset_ne (by decide)]
          have hr344 := iv_81_32 hI215
          have hr345 := iv_81_32 hI333
          have hx346 : W326 81 34 = W322 81 34 := by rw [hW327, mset_nk (by decide)]
          have hx347 : W322 81 34 = W312 81 34 := by rw [hW323, mset_ne (by decide)]
          have hx348 : W312 81 34 = M213 81 34 := by rw [hW313, mset_ne (by decide)]
          have hx349 : W326 81 34 = W322 81 34 := by rw [hW327, mset_nk (by decide)]
          have hx350 : W322 81 34 = W312 81 34 := by rw [hW323, mset_ne (by decide)]
          have hx351 : W312 81 34 = M213 81 34 := by rw [hW313, mset_ne (by decide)]
          have hx352 : W326 81 36 = W322 81 36 := by rw [hW327, mset_nk (by decide)]
          have hx353 : W322 81 36 = W312 81 36 := by rw [hW323, mset_ne (by decide)]
          have hx354 : W326 81 36 = W322 81 36 := by rw [hW327, mset_nk (by decide)]
          have hr355 := iv_81_36 hI324
          have hx356 : W322 81 36 = W312 81 36 := by rw [hW323, mset_ne (by decide)]
          have hr357 := iv_81_36 hI314
          have hx358 : W312 81 36 = M213 81 36 := by rw [hW313, mset_ne (by decide)]
          have hr359 := iv_81_36 hI215
          have hr360 := iv_81_36 hI333
          exact hp _ _ hI333 hF334 (by lia)
        · skip
          refine And.intro (vpI (c := 4) (by decide) (by lia) (by lia)) ?_
          have hr361 := iv_96 hI314 (r212).toNatClampNeg
          unfold wX11_readLaw_166
          refine And.intro (vpI (c := 4) (by decide) (by lia) (by lia)) ?_
          intro W362 hW363
          have hI364 : Inv W362 := by rw [hW363]; exact inv_set hI314 (show 0 ≤ (W312 96 (r212).toNatClampNeg) ∧ (W312 96 (r212).toNatClampNeg) ≤ 3 from ⟨by lia, by lia⟩)
          have hF365 : Fr [94, 95, 96] [(81, 22), (81, 27), (81, 28), (81, 32), (81, 33), (81, 34), (81, 35), (81, 36), (81, 37)] M W362 := by rw [hW363]; exact fr_arr hF315 (by decide)
          have hx368 : W362 81 28 = W312 81 28 := by rw [hW363, mset_ne (by decide)]
          have hx369 : W312 81 28 = M213 81 28 := by rw [hW313, mset_ne (by decide)]
          have hx370 : M213 81 28 = M204 81 28 := hF216 81 28 (by decide) (by decide)
          have hx371 : M204 81 28 = M 81 28 := hF207 81 28 (by decide) (by decide)
          have hm372 : (0 : Int32) ≤ (r212 &&& (31 : Int32)) ∧ (r212 &&& (31 : Int32)) ≤ (31 : Int32) := andc r212 31 (by decide)
          intro W366 hW367
          have hI373 : Inv W366 := by rw [hW367]; exact inv_set hI364 (i_any _)
          have hF374 : Fr [94, 95, 96] [(81, 22), (81, 27), (81, 28), (81, 32), (81, 33), (81, 34), (81, 35), (81, 36), (81, 37)] M W366 := by rw [hW367]; exact fr_fld hF365 (by decide)
          have hv375 : W366 81 28 = ((W362 81 28) ||| (((1 : Int32) <<< (r203 &&& (31 : Int32))) ||| ((1 : Int32) <<< (r212 &&& (31 : Int32))))) := by rw [hW367]; exact mset_at _ _ _ _
          have hx376 : W366 81 32 = W362 81 32 := by rw [hW367, mset_nk (by decide)]
          have hx377 : W362 81 32 = W312 81 32 := by rw [hW363, mset_ne (by decide)]
          have hx378 : W312 81 32 = M213 81 32 := by rw [hW313, mset_ne (by decide)]
          have hx379 : W366 81 32 = W362 81 32 := by rw [hW367, mset_nk (by decide)]
          have hr380 := iv_81_32 hI364
          have hx381 : W362 81 32 = W312 81 32 := by rw [hW363, mset_ne (by decide)]
          have hr382 := iv_81_32 hI314
          have hx383 : W312 81 32 = M213 81 32 := by rw [hW313, mset_ne (by decide)]
          have hr384 := iv_81_32 hI215
          have hr385 := iv_81_32 hI373
          have hx386 : W366 81 34 = W362 81 34 := by rw [hW367, mset_nk (by decide)]
          have hx387 : W362 81 34 = W312 81 34 := by rw [hW363, mset_ne (by decide)]
          have hx388 : W312 81 34 = M213 81 34 := by rw [hW313, mset_ne (by decide)]
          have hx389 : W366 81 34 = W362 81 34 := by rw [hW367, mset_nk (by decide)]
          have hx390 : W362 81 34 = W312 81 34 := by rw [hW363, mset_ne (by decide)]
          have hx391 : W312 81 34 = M213 81 34 := by rw [hW313, mset_ne (by decide)]
          have hx392 : W366 81 36 = W362 81 36 := by rw [hW367, mset_nk (by decide)]
          have hx393 : W362 81 36 = W312 81 36 := by rw [hW363, mset_ne (by decide)]
          have hx394 : W366 81 36 = W362 81 36 := by rw [hW367, mset_nk (by decide)]
          have hr395 := iv_81_36 hI364
          have hx396 : W362 81 36 = W312 81 36 := by rw [hW363, mset_ne (by decide)]
          have hr397 := iv_81_36 hI314
          have hx398 : W312 81 36 = M213 81 36 := by rw [hW313, mset_ne (by decide)]
          have hr399 := iv_81_36 hI215
          have hr400 := iv_81_36 hI373
          exact hp _ _ hI373 hF374 (by lia)
    · skip
      refine ifs (fun hc401 => ?_) (fun hc402 => ?_)
      · skip
        refine sf_X11_readKind hI  (fun r403 M404 t405 hI406 hF407 hq408 => ?_)
        have hF409 : Fr [94, 95, 96] [(81, 22), (81, 27), (81, 28), (81, 32), (81, 33), (81, 34), (81, 35), (81, 36), (81, 37)] M M404 := fr_call fr_rfl hF407 (by decide) (by decide)
        have hm412 : (0 : Int32) ≤ (r403 &&& (31 : Int32)) ∧ (r403 &&& (31 : Int32)) ≤ (31 : Int32) := andc r403 31 (by decide)
        intro W410 hW411
        have hI413 : Inv W410 := by rw [hW411]; exact inv_set hI406 (i_any _)
        have hF414 : Fr [94, 95, 96] [(81, 22), (81, 27), (81, 28), (81, 32), (81, 33), (81, 34), (81, 35), (81, 36), (81, 37)] M W410 := by rw [hW411]; exact fr_fld hF409 (by decide)
        have hv415 : W410 81 22 = ((M 81 22) ||| ((1 : Int32) <<< (r403 &&& (31 : Int32)))) := by rw [hW411]; exact mset_at _ _ _ _
        have hx416 : W410 81 32 = M404 81 32 := by rw [hW411, mset_nk (by decide)]
        have hx417 : W410 81 32 = M404 81 32 := by rw [hW411, mset_nk (by decide)]
        have hr418 := iv_81_32 hI406
        have hr419 := iv_81_32 hI413
        have hx420 : W410 81 34 = M404 81 34 := by rw [hW411, mset_nk (by decide)]
        have hx421 : W410 81 34 = M404 81 34 := by rw [hW411, mset_nk (by decide)]
        have hx422 : W410 81 36 = M404 81 36 := by rw [hW411, mset_nk (by decide)]
        have hx423 : W410 81 36 = M404 81 36 := by rw [hW411, mset_nk (by decide)]
        have hr424 := iv_81_36 hI406
        have hr425 := iv_81_36 hI413
        exact hp _ _ hI413 hF414 (by lia)
      · skip
        refine sf_X11_readNumber hI  (fun r426 M427 t428 hI429 hF430 hq431 => ?_)
        have hF432 : Fr [94, 95, 96] [(81, 22), (81, 27), (81, 28), (81, 32), (81, 33), (81, 34), (81, 35), (81, 36), (81, 37)] M M427 := fr_call fr_rfl hF430 (by decide) (by decide)
        refine And.intro (vpI (c := 2) (by decide) (by lia) (by lia)) ?_
        refine sf_X11_readKind hI429  (fun r433 M434 t435 hI436 hF437 hq438 => ?_)
        have hF439 : Fr [94, 95, 96] [(81, 22), (81, 27), (81, 28), (81, 32), (81, 33), (81, 34), (81, 35), (81, 36), (81, 37)] M M434 := fr_call hF432 hF437 (by decide) (by decide)
        refine And.intro (vpI (c := 2) (by decide) (by lia) (by lia)) ?_
        have hm442 : (0 : Int32) ≤ (r433 &&& (31 : Int32)) ∧ (r433 &&& (31 : Int32)) ≤ (31 : Int32) := andc r433 31 (by decide)
        intro W440 hW441
        have hI443 : Inv W440 := by rw [hW441]; exact inv_set hI436 (i_any _)
        have hF444 : Fr [94, 95, 96] [(81, 22), (81, 27), (81, 28), (81, 32), (81, 33), (81, 34), (81, 35), (81, 36), (81, 37)] M W440 := by rw [hW441]; exact fr_arr hF439 (by decide)
        have hx445 : W440 81 32 = M434 81 32 := by rw [hW441, mset_ne (by decide)]
        have hx446 : W440 81 32 = M434 81 32 := by rw [hW441, mset_ne (by decide)]
        have hr447 := iv_81_32 hI436
        have hr448 := iv_81_32 hI443
        have hx449 : W440 81 34 = M434 81 34 := by rw [hW441, mset_ne (by decide)]
        have hx450 : W440 81 34 = M434 81 34 := by rw [hW441, mset_ne (by decide)]
        have hx451 : W440 81 36 = M434 81 36 := by rw [hW441, mset_ne (by decide)]
        have hx452 : W440 81 36 = M434 81 36 := by rw [hW441, mset_ne (by decide)]
        have hr453 := iv_81_36 hI436
        have hr454 := iv_81_36 hI443
        exact hp _ _ hI443 hF444 (by lia)
set_option maxHeartbeats 4000000 in
theorem sf_X11_readLot {post : Int32 → MM → Int64 → Prop} {M : MM} {tl : Int64} (hI : Inv M) (hp : ∀ (r : Int32) (M1 : MM) (t1 : Int64), Inv M1 → Fr [] [(81, 29), (81, 32), (81, 33), (81, 34), (81, 35), (81, 36), (81, 37)] M M1 → (0 ≤ r ∧ r ≤ 7) ∧ M 81 32 ≤ M1 81 32 ∧ (M 81 36 = 0 ∨ M1 81 36 ≠ 0) ∧ (M1 81 36 ≠ 0 ∨ M1 81 34 ≠ 3 ∨ M 81 32 < M1 81 32) → post r M1 t1) : wpX11_readLot post M tl  := by
  unfold wpX11_readLot
  refine sf_X11_readNumber hI  (fun r1 M2 t3 hI4 hF5 hq6 => ?_)
  have hF7 : Fr [] [(81, 29), (81, 32), (81, 33), (81, 34), (81, 35), (81, 36), (81, 37)] M M2 := fr_call fr_rfl hF5 (by decide) (by decide)
  have hx8 : M2 81 29 = M 81 29 := hF5 81 29 (by decide) (by decide)
  refine ifs (fun hc9 => ?_) (fun hc10 => ?_)
  · skip
    have hx11 : M2 81 29 = M 81 29 := hF5 81 29 (by decide) (by decide)
    unfold wX11_readLot_25
    intro W12 hW13
    have hI14 : Inv W12 := by rw [hW13]; exact inv_set hI4 (i_any _)
    have hF15 : Fr [] [(81, 29), (81, 32), (81, 33), (81, 34), (81, 35), (81, 36), (81, 37)] M W12 := by rw [hW13]; exact fr_fld hF7 (by decide)
    have hv16 : W12 81 29 = (M2 81 29) := by rw [hW13]; exact mset_at _ _ _ _
    have hx17 : W12 81 32 = M2 81 32 := by rw [hW13, mset_nk (by decide)]
    have hx18 : W12 81 32 = M2 81 32 := by rw [hW13, mset_nk (by decide)]
    have hr19 := iv_81_32 hI4
    have hr20 := iv_81_32 hI14
    have hx21 : W12 81 34 = M2 81 34 := by rw [hW13, mset_nk (by decide)]
    have hx22 : W12 81 34 = M2 81 34 := by rw [hW13, mset_nk (by decide)]
    have hx23 : W12 81 36 = M2 81 36 := by rw [hW13, mset_nk (by decide)]
    have hx24 : W12 81 36 = M2 81 36 := by rw [hW13, mset_nk (by decide)]
    have hr25 := iv_81_36 hI4
    have hr26 := iv_81_36 hI14
    exact hp _ _ _ hI14 hF15 (by lia)
  · skip
    unfold wX11_readLot_25
    intro W27 hW28
    have hI29 : Inv W27 := by rw [hW28]; exact inv_set hI4 (i_any _)
    have hF30 : Fr [] [(81, 29), (81, 32), (81, 33), (81, 34), (81, 35), (81, 36), (81, 37)] M W27 := by rw [hW28]; exact fr_fld hF7 (by decide)
    have hv31 : W27 81 29 = r1 := by rw [hW28]; exact mset_at _ _ _ _
    have hx32 : W27 81 32 = M2 81 32 := by rw [hW28, mset_nk (by decide)]
    have hx33 : W27 81 32 = M2 81 32 := by rw [hW28, mset_nk (by decide)]
    have hr34 := iv_81_32 hI4
    have hr35 := iv_81_32 hI29
    have hx36 : W27 81 34 = M2 81 34 := by rw [hW28, mset_nk (by decide)]
    have hx37 : W27 81 34 = M2 81 34 := by rw [hW28, mset_nk (by decide)]
    have hx38 : W27 81 36 = M2 81 36 := by rw [hW28, mset_nk (by decide)]
    have hx39 : W27 81 36 = M2 81 36 := by rw [hW28, mset_nk (by decide)]
    have hr40 := iv_81_36 hI4
    have hr41 := iv_81_36 hI29
    exact hp _ _ _ hI29 hF30 (by lia)
set_option maxHeartbeats 4000000 in
theorem sf_X11_isNothing {post : Int32 → MM → Int64 → Prop} {M : MM} {tl : Int64} (hI : Inv M) (hp : ∀ (r : Int32), (r = 0 ∨ r = 1) → post r M tl) : wpX11_isNothing post M tl  := by
  unfold wpX11_isNothing
  refine sf_X11_is hI  (fun r1 hq2 => ?_)
  refine ifs (fun hc3 => ?_) (fun hc4 => ?_)
  · skip
    exact hp _ (by lia)
  · skip
    refine sf_X11_ends hI  (fun r5 hq6 => ?_)
    refine ifs (fun hc7 => ?_) (fun hc8 => ?_)
    · skip
      exact hp _ (by lia)
    · skip
      exact hp _ (by lia)
set_option maxHeartbeats 4000000 in
theorem sf_X11_sideNow {post : Int32 → MM → Int64 → Prop} {M : MM} {tl : Int64} (hI : Inv M) (hp : ∀ (r : Int32), (r = -4 ∨ (0 ≤ r ∧ r ≤ 1)) → post r M tl) : wpX11_sideNow post M tl  := by
  unfold wpX11_sideNow
  refine sf_X11_is hI  (fun r1 hq2 => ?_)
  refine ifs (fun hc3 => ?_) (fun hc4 => ?_)
  · skip
    refine sf_X11_is hI  (fun r5 hq6 => ?_)
    refine ifs (fun hc7 => ?_) (fun hc8 => ?_)
    · skip
      exact hp _ (by lia)
    · skip
      refine sf_X11_ends hI  (fun r9 hq10 => ?_)
      refine ifs (fun hc11 => ?_) (fun hc12 => ?_)
      · skip
        exact hp _ (by lia)
      · skip
        exact hp _ (by lia)
  · skip
    exact hp _ (by lia)
set_option maxHeartbeats 4000000 in
theorem sf_X11_readWhat {post : Int32 → MM → Int64 → Prop} {M : MM} {tl : Int64} (hI : Inv M) (hp : ∀ (r : Int32) (M1 : MM) (t1 : Int64), Inv M1 → Fr [] [(81, 32), (81, 33), (81, 34), (81, 35), (81, 36), (81, 37)] M M1 → ((0 ≤ r ∧ r ≤ 63) ∧ 0 ≤ r - r / 8 * 8 ∧ r - r / 8 * 8 ≤ 5) ∧ M 81 32 ≤ M1 81 32 ∧ (M 81 36 = 0 ∨ M1 81 36 ≠ 0) ∧ (M1 81 36 ≠ 0 ∨ M1 81 34 ≠ 3 ∨ M 81 32 < M1 81 32) → post r M1 t1) : wpX11_readWhat post M tl  := by
  unfold wpX11_readWhat
  have hr1 := iv_81_36 hI
  refine ifs (fun hc2 => ?_) (fun hc3 => ?_)
  · skip
    refine ifs (fun hc4 => ?_) (fun hc5 => ?_)
    · skip
      refine sf_X11_isNothing hI  (fun r6 hq7 => ?_)
      refine ifs (fun hc8 => ?_) (fun hc9 => ?_)
      · skip
        unfold wX11_readWhat_28
        refine sf_X11_readKind hI  (fun r10 M11 t12 hI13 hF14 hq15 => ?_)
        have hF16 : Fr [] [(81, 32), (81, 33), (81, 34), (81, 35), (81, 36), (81, 37)] M M11 := fr_call fr_rfl hF14 (by decide) (by decide)
        refine sf_X11_readNumber hI13  (fun r17 M18 t19 hI20 hF21 hq22 => ?_)
        have hF23 : Fr [] [(81, 32), (81, 33), (81, 34), (81, 35), (81, 36), (81, 37)] M M18 := fr_call hF16 hF21 (by decide) (by decide)
        have hr24 := iv_81_36 hI20
        refine ifs (fun hc25 => ?_) (fun hc26 => ?_)
        · skip
          refine ifs (fun hc27 => ?_) (fun hc28 => ?_)
          · skip
            refine sf_X11_sideNow hI20  (fun r29 hq30 => ?_)
            unfold wX11_readWhat_65
            refine ifs (fun hc31 => ?_) (fun hc32 => ?_)
            · skip
              unfold wX11_readWhat_78
              refine sf_X11_needs hI20 (by lia) (fun M34 t35 hI36 hF37 hq38 => ?_)
              have hF39 : Fr [] [(81, 32), (81, 33), (81, 34), (81, 35), (81, 36), (81, 37)] M M34 := fr_call hF23 hF37 (by decide) (by decide)
              refine sf_X11_next hI36  (fun M41 t42 hI43 hF44 hq45 => ?_)
              have hF46 : Fr [] [(81, 32), (81, 33), (81, 34), (81, 35), (81, 36), (81, 37)] M M41 := fr_call hF39 hF44 (by decide) (by decide)
              have hr47 := iv_81_36 hI43
              refine ifs (fun hc48 => ?_) (fun hc49 => ?_)
              · skip
                have hx50 : M34 81 32 = M18 81 32 := hF37 81 32 (by decide) (by decide)
                have hr51 := iv_81_32 hI43
                have hx52 : M34 81 34 = M18 81 34 := hF37 81 34 (by decide) (by decide)
                exact hp _ _ _ hI43 hF46 ⟨(by first | exact th_mk (by lia) (by lia) (by lia) (by lia) (by lia) (by lia) | decide), by lia⟩
              · skip
                have hx53 : M34 81 32 = M18 81 32 := hF37 81 32 (by decide) (by decide)
                have hr54 := iv_81_32 hI43
                have hx55 : M34 81 34 = M18 81 34 := hF37 81 34 (by decide) (by decide)
                exact hp _ _ _ hI43 hF46 ⟨(by first | exact th_mk (by lia) (by lia) (by lia) (by lia) (by lia) (by lia) | decide), by lia⟩
            · skip
              unfold wX11_readWhat_78
              refine sf_X11_needs hI20 (by lia) (fun M57 t58 hI59 hF60 hq61 => ?_)
              have hF62 : Fr [] [(81, 32), (81, 33), (81, 34), (81, 35), (81, 36), (81, 37)] M M57 := fr_call hF23 hF60 (by decide) (by decide)
              refine sf_X11_next hI59  (fun M64 t65 hI66 hF67 hq68 => ?_)
              have hF69 : Fr [] [(81, 32), (81, 33), (81, 34), (81, 35), (81, 36), (81, 37)] M M64 := fr_call hF62 hF67 (by decide) (by decide)
              have hr70 := iv_81_36 hI66
              refine ifs (fun hc71 => ?_) (fun hc72 => ?_)
              · skip
                have hx73 : M57 81 32 = M18 81 32 := hF60 81 32 (by decide) (by decide)
                have hr74 := iv_81_32 hI66
                have hx75 : M57 81 34 = M18 81 34 := hF60 81 34 (by decide) (by decide)
                exact hp _ _ _ hI66 hF69 ⟨(by first | exact th_mk (by lia) (by lia) (by lia) (by lia) (by lia) (by lia) | decide), by lia⟩
              · skip
                have hx76 : M57 81 32 = M18 81 32 := hF60 81 32 (by decide) (by decide)
                have hr77 := iv_81_32 hI66
                have hx78 : M57 81 34 = M18 81 34 := hF60 81 34 (by decide) (by decide)
                exact hp _ _ _ hI66 hF69 ⟨(by first | exact th_mk (by lia) (by lia) (by lia) (by lia) (by lia) (by lia) | decide), by lia⟩
          · skip
            unfold wX11_readWhat_63
            unfold wX11_readWhat_65
            refine ifp (by decide) ?_
            unfold wX11_readWhat_78
            refine sf_X11_needs hI20 (by lia) (fun M80 t81 hI82 hF83 hq84 => ?_)
            have hF85 : Fr [] [(81, 32), (81, 33), (81, 34), (81, 35), (81, 36), (81, 37)] M M80 := fr_call hF23 hF83 (by decide) (by decide)
            refine sf_X11_next hI82  (fun M87 t88 hI89 hF90 hq91 => ?_)
            have hF92 : Fr [] [(81, 32), (81, 33), (81, 34), (81, 35), (81, 36), (81, 37)] M M87 := fr_call hF85 hF90 (by decide) (by decide)
            have hr93 := iv_81_36 hI89
            refine ifs (fun hc94 => ?_) (fun hc95 => ?_)
            · skip
              have hx96 : M80 81 32 = M18 81 32 := hF83 81 32 (by decide) (by decide)
              have hr97 := iv_81_32 hI89
              have hx98 : M80 81 34 = M18 81 34 := hF83 81 34 (by decide) (by decide)
              exact hp _ _ _ hI89 hF92 ⟨(by first | exact th_mk (by lia) (by lia) (by lia) (by lia) (by lia) (by lia) | decide), by lia⟩
            · skip
              have hx99 : M80 81 32 = M18 81 32 := hF83 81 32 (by decide) (by decide)
              have hr100 := iv_81_32 hI89
              have hx101 : M80 81 34 = M18 81 34 := hF83 81 34 (by decide) (by decide)
              exact hp _ _ _ hI89 hF92 ⟨(by first | exact th_mk (by lia) (by lia) (by lia) (by lia) (by lia) (by lia) | decide), by lia⟩
        · skip
          unfold wX11_readWhat_63
          unfold wX11_readWhat_65
          refine ifp (by decide) ?_
          unfold wX11_readWhat_78
          refine sf_X11_needs hI20 (by lia) (fun M103 t104 hI105 hF106 hq107 => ?_)
          have hF108 : Fr [] [(81, 32), (81, 33), (81, 34), (81, 35), (81, 36), (81, 37)] M M103 := fr_call hF23 hF106 (by decide) (by decide)
          refine sf_X11_next hI105  (fun M110 t111 hI112 hF113 hq114 => ?_)
          have hF115 : Fr [] [(81, 32), (81, 33), (81, 34), (81, 35), (81, 36), (81, 37)] M M110 := fr_call hF108 hF113 (by decide) (by decide)
          have hr116 := iv_81_36 hI112
          refine ifs (fun hc117 => ?_) (fun hc118 => ?_)
          · skip
            have hx119 : M103 81 32 = M18 81 32 := hF106 81 32 (by decide) (by decide)
            have hr120 := iv_81_32 hI112
            have hx121 : M103 81 34 = M18 81 34 := hF106 81 34 (by decide) (by decide)
            exact hp _ _ _ hI112 hF115 ⟨(by first | exact th_mk (by lia) (by lia) (by lia) (by lia) (by lia) (by lia) | decide), by lia⟩
          · skip
            have hx122 : M103 81 32 = M18 81 32 := hF106 81 32 (by decide) (by decide)
            have hr123 := iv_81_32 hI112
            have hx124 : M103 81 34 = M18 81 34 := hF106 81 34 (by decide) (by decide)
            exact hp _ _ _ hI112 hF115 ⟨(by first | exact th_mk (by lia) (by lia) (by lia) (by lia) (by lia) (by lia) | decide), by lia⟩
      · skip
        refine sf_X11_next hI  (fun M126 t127 hI128 hF129 hq130 => ?_)
        have hF131 : Fr [] [(81, 32), (81, 33), (81, 34), (81, 35), (81, 36), (81, 37)] M M126 := fr_call fr_rfl hF129 (by decide) (by decide)
        have hr132 := iv_81_32 hI128
        have hr133 := iv_81_36 hI128
        exact hp _ _ _ hI128 hF131 ⟨(by first | exact th_mk (by lia) (by lia) (by lia) (by lia) (by lia) (by lia) | decide), by lia⟩
    · skip
      unfold wX11_readWhat_28
      refine sf_X11_readKind hI  (fun r134 M135 t136 hI137 hF138 hq139 => ?_)
      have hF140 : Fr [] [(81, 32), (81, 33), (81, 34), (81, 35), (81, 36), (81, 37)] M M135 := fr_call fr_rfl hF138 (by decide) (by decide)
      refine sf_X11_readNumber hI137  (fun r141 M142 t143 hI144 hF145 hq146 => ?_)
      have hF147 : Fr [] [(81, 32), (81, 33), (81, 34), (81, 35), (81, 36), (81, 37)] M M142 := fr_call hF140 hF145 (by decide) (by decide)
      have hr148 := iv_81_36 hI144
      refine ifs (fun hc149 => ?_) (fun hc150 => ?_)
      · skip
        refine ifs (fun hc151 => ?_) (fun hc152 => ?_)
        · skip
          refine sf_X11_sideNow hI144  (fun r153 hq154 => ?_)
          unfold wX11_readWhat_65
          refine ifs (fun hc155 => ?_) (fun hc156 => ?_)
          · skip
            unfold wX11_readWhat_78
            refine sf_X11_needs hI144 (by lia) (fun M158 t159 hI160 hF161 hq162 => ?_)
            have hF163 : Fr [] [(81, 32), (81, 33), (81, 34), (81, 35), (81, 36), (81, 37)] M M158 := fr_call hF147 hF161 (by decide) (by decide)
            refine sf_X11_next hI160  (fun M165 t166 hI167 hF168 hq169 => ?_)
            have hF170 : Fr [] [(81, 32), (81, 33), (81, 34), (81, 35), (81, 36), (81, 37)] M M165 := fr_call hF163 hF168 (by decide) (by decide)
            have hr171 := iv_81_36 hI167
            refine ifs (fun hc172 => ?_) (fun hc173 => ?_)
            · skip
              have hx174 : M158 81 32 = M142 81 32 := hF161 81 32 (by decide) (by decide)
              have hr175 := iv_81_32 hI167
              have hx176 : M158 81 34 = M142 81 34 := hF161 81 34 (by decide) (by decide)
              exact hp _ _ _ hI167 hF170 ⟨(by first | exact th_mk (by lia) (by lia) (by lia) (by lia) (by lia) (by lia) | decide), by lia⟩
            · skip
              have hx177 : M158 81 32 = M142 81 32 := hF161 81 32 (by decide) (by decide)
              have hr178 := iv_81_32 hI167
              have hx179 : M158 81 34 = M142 81 34 := hF161 81 34 (by decide) (by decide)
              exact hp _ _ _ hI167 hF170 ⟨(by first | exact th_mk (by lia) (by lia) (by lia) (by lia) (by lia) (by lia) | decide), by lia⟩
          · skip
            unfold wX11_readWhat_78
            refine sf_X11_needs hI144 (by lia) (fun M181 t182 hI183 hF184 hq185 => ?_)
            have hF186 : Fr [] [(81, 32), (81, 33), (81, 34), (81, 35), (81, 36), (81, 37)] M M181 := fr_call hF147 hF184 (by decide) (by decide)
            refine sf_X11_next hI183  (fun M188 t189 hI190 hF191 hq192 => ?_)
            have hF193 : Fr [] [(81, 32), (81, 33), (81, 34), (81, 35), (81, 36), (81, 37)] M M188 := fr_call hF186 hF191 (by decide) (by decide)
            have hr194 := iv_81_36 hI190
            refine ifs (fun hc195 => ?_) (fun hc196 => ?_)
            · skip
              have hx197 : M181 81 32 = M142 81 32 := hF184 81 32 (by decide) (by decide)
              have hr198 := iv_81_32 hI190
              have hx199 : M181 81 34 = M142 81 34 := hF184 81 34 (by decide) (by decide)
              exact hp _ _ _ hI190 hF193 ⟨(by first | exact th_mk (by lia) (by lia) (by lia) (by lia) (by lia) (by lia) | decide), by lia⟩
            · skip
              have hx200 : M181 81 32 = M142 81 32 := hF184 81 32 (by decide) (by decide)
              have hr201 := iv_81_32 hI190
              have hx202 : M181 81 34 = M142 81 34 := hF184 81 34 (by decide) (by decide)
              exact hp _ _ _ hI190 hF193 ⟨(by first | exact th_mk (by lia) (by lia) (by lia) (by lia) (by lia) (by lia) | decide), by lia⟩
        · skip
          unfold wX11_readWhat_63
          unfold wX11_readWhat_65
          refine ifp (by decide) ?_
          unfold wX11_readWhat_78
          refine sf_X11_needs hI144 (by lia) (fun M204 t205 hI206 hF207 hq208 => ?_)
          have hF209 : Fr [] [(81, 32), (81, 33), (81, 34), (81, 35), (81, 36), (81, 37)] M M204 := fr_call hF147 hF207 (by decide) (by decide)
          refine sf_X11_next hI206  (fun M211 t212 hI213 hF214 hq215 => ?_)
          have hF216 : Fr [] [(81, 32), (81, 33), (81, 34), (81, 35), (81, 36), (81, 37)] M M211 := fr_call hF209 hF214 (by decide) (by decide)
          have hr217 := iv_81_36 hI213
          refine ifs (fun hc218 => ?_) (fun hc219 => ?_)
          · skip
            have hx220 : M204 81 32 = M142 81 32 := hF207 81 32 (by decide) (by decide)
            have hr221 := iv_81_32 hI213
            have hx222 : M204 81 34 = M142 81 34 := hF207 81 34 (by decide) (by decide)
            exact hp _ _ _ hI213 hF216 ⟨(by first | exact th_mk (by lia) (by lia) (by lia) (by lia) (by lia) (by lia) | decide), by lia⟩
          · skip
            have hx223 : M204 81 32 = M142 81 32 := hF207 81 32 (by decide) (by decide)
            have hr224 := iv_81_32 hI213
            have hx225 : M204 81 34 = M142 81 34 := hF207 81 34 (by decide) (by decide)
            exact hp _ _ _ hI213 hF216 ⟨(by first | exact th_mk (by lia) (by lia) (by lia) (by lia) (by lia) (by lia) | decide), by lia⟩
      · skip
        unfold wX11_readWhat_63
        unfold wX11_readWhat_65
        refine ifp (by decide) ?_
        unfold wX11_readWhat_78
        refine sf_X11_needs hI144 (by lia) (fun M227 t228 hI229 hF230 hq231 => ?_)
        have hF232 : Fr [] [(81, 32), (81, 33), (81, 34), (81, 35), (81, 36), (81, 37)] M M227 := fr_call hF147 hF230 (by decide) (by decide)
        refine sf_X11_next hI229  (fun M234 t235 hI236 hF237 hq238 => ?_)
        have hF239 : Fr [] [(81, 32), (81, 33), (81, 34), (81, 35), (81, 36), (81, 37)] M M234 := fr_call hF232 hF237 (by decide) (by decide)
        have hr240 := iv_81_36 hI236
        refine ifs (fun hc241 => ?_) (fun hc242 => ?_)
        · skip
          have hx243 : M227 81 32 = M142 81 32 := hF230 81 32 (by decide) (by decide)
          have hr244 := iv_81_32 hI236
          have hx245 : M227 81 34 = M142 81 34 := hF230 81 34 (by decide) (by decide)
          exact hp _ _ _ hI236 hF239 ⟨(by first | exact th_mk (by lia) (by lia) (by lia) (by lia) (by lia) (by lia) | decide), by lia⟩
        · skip
          have hx246 : M227 81 32 = M142 81 32 := hF230 81 32 (by decide) (by decide)
          have hr247 := iv_81_32 hI236
          have hx248 : M227 81 34 = M142 81 34 := hF230 81 34 (by decide) (by decide)
          exact hp _ _ _ hI236 hF239 ⟨(by first | exact th_mk (by lia) (by lia) (by lia) (by lia) (by lia) (by lia) | decide), by lia⟩
  · skip
    unfold wX11_readWhat_28
    refine sf_X11_readKind hI  (fun r249 M250 t251 hI252 hF253 hq254 => ?_)
    have hF255 : Fr [] [(81, 32), (81, 33), (81, 34), (81, 35), (81, 36), (81, 37)] M M250 := fr_call fr_rfl hF253 (by decide) (by decide)
    refine sf_X11_readNumber hI252  (fun r256 M257 t258 hI259 hF260 hq261 => ?_)
    have hF262 : Fr [] [(81, 32), (81, 33), (81, 34), (81, 35), (81, 36), (81, 37)] M M257 := fr_call hF255 hF260 (by decide) (by decide)
    have hr263 := iv_81_36 hI259
    refine ifs (fun hc264 => ?_) (fun hc265 => ?_)
    · skip
      refine ifs (fun hc266 => ?_) (fun hc267 => ?_)
      · skip
        refine sf_X11_sideNow hI259  (fun r268 hq269 => ?_)
        unfold wX11_readWhat_65
        refine ifs (fun hc270 => ?_) (fun hc271 => ?_)
        · skip
          unfold wX11_readWhat_78
          refine sf_X11_needs hI259 (by lia) (fun M273 t274 hI275 hF276 hq277 => ?_)
          have hF278 : Fr [] [(81, 32), (81, 33), (81, 34), (81, 35), (81, 36), (81, 37)] M M273 := fr_call hF262 hF276 (by decide) (by decide)
          refine sf_X11_next hI275  (fun M280 t281 hI282 hF283 hq284 => ?_)
          have hF285 : Fr [] [(81, 32), (81, 33), (81, 34), (81, 35), (81, 36), (81, 37)] M M280 := fr_call hF278 hF283 (by decide) (by decide)
          have hr286 := iv_81_36 hI282
          refine ifs (fun hc287 => ?_) (fun hc288 => ?_)
          · skip
            have hx289 : M273 81 32 = M257 81 32 := hF276 81 32 (by decide) (by decide)
            have hr290 := iv_81_32 hI282
            have hx291 : M273 81 34 = M257 81 34 := hF276 81 34 (by decide) (by decide)
            exact hp _ _ _ hI282 hF285 ⟨(by first | exact th_mk (by lia) (by lia) (by lia) (by lia) (by lia) (by lia) | decide), by lia⟩
          · skip
            have hx292 : M273 81 32 = M257 81 32 := hF276 81 32 (by decide) (by decide)
            have hr293 := iv_81_32 hI282
            have hx294 : M273 81 34 = M257 81 34 := hF276 81 34 (by decide) (by decide)
            exact hp _ _ _ hI282 hF285 ⟨(by first | exact th_mk (by lia) (by lia) (by lia) (by lia) (by lia) (by lia) | decide), by lia⟩
        · skip
          unfold wX11_readWhat_78
          refine sf_X11_needs hI259 (by lia) (fun M296 t297 hI298 hF299 hq300 => ?_)
          have hF301 : Fr [] [(81, 32), (81, 33), (81, 34), (81, 35), (81, 36), (81, 37)] M M296 := fr_call hF262 hF299 (by decide) (by decide)
          refine sf_X11_next hI298  (fun M303 t304 hI305 hF306 hq307 => ?_)
          have hF308 : Fr [] [(81, 32), (81, 33), (81, 34), (81, 35), (81, 36), (81, 37)] M M303 := fr_call hF301 hF306 (by decide) (by decide)
          have hr309 := iv_81_36 hI305
          refine ifs (fun hc310 => ?_) (fun hc311 => ?_)
          · skip
            have hx312 : M296 81 32 = M257 81 32 := hF299 81 32 (by decide) (by decide)
            have hr313 := iv_81_32 hI305
            have hx314 : M296 81 34 = M257 81 34 := hF299 81 34 (by decide) (by decide)
            exact hp _ _ _ hI305 hF308 ⟨(by first | exact th_mk (by lia) (by lia) (by lia) (by lia) (by lia) (by lia) | decide), by lia⟩
          · skip
            have hx315 : M296 81 32 = M257 81 32 := hF299 81 32 (by decide) (by decide)
            have hr316 := iv_81_32 hI305
            have hx317 : M296 81 34 = M257 81 34 := hF299 81 34 (by decide) (by decide)
            exact hp _ _ _ hI305 hF308 ⟨(by first | exact th_mk (by lia) (by lia) (by lia) (by lia) (by lia) (by lia) | decide), by lia⟩
      · skip
        unfold wX11_readWhat_63
        unfold wX11_readWhat_65
        refine ifp (by decide) ?_
        unfold wX11_readWhat_78
        refine sf_X11_needs hI259 (by lia) (fun M319 t320 hI321 hF322 hq323 => ?_)
        have hF324 : Fr [] [(81, 32), (81, 33), (81, 34), (81, 35), (81, 36), (81, 37)] M M319 := fr_call hF262 hF322 (by decide) (by decide)
        refine sf_X11_next hI321  (fun M326 t327 hI328 hF329 hq330 => ?_)
        have hF331 : Fr [] [(81, 32), (81, 33), (81, 34), (81, 35), (81, 36), (81, 37)] M M326 := fr_call hF324 hF329 (by decide) (by decide)
        have hr332 := iv_81_36 hI328
        refine ifs (fun hc333 => ?_) (fun hc334 => ?_)
        · skip
          have hx335 : M319 81 32 = M257 81 32 := hF322 81 32 (by decide) (by decide)
          have hr336 := iv_81_32 hI328
          have hx337 : M319 81 34 = M257 81 34 := hF322 81 34 (by decide) (by decide)
          exact hp _ _ _ hI328 hF331 ⟨(by first | exact th_mk (by lia) (by lia) (by lia) (by lia) (by lia) (by lia) | decide), by lia⟩
        · skip
          have hx338 : M319 81 32 = M257 81 32 := hF322 81 32 (by decide) (by decide)
          have hr339 := iv_81_32 hI328
          have hx340 : M319 81 34 = M257 81 34 := hF322 81 34 (by decide) (by decide)
          exact hp _ _ _ hI328 hF331 ⟨(by first | exact th_mk (by lia) (by lia) (by lia) (by lia) (by lia) (by lia) | decide), by lia⟩
    · skip
      unfold wX11_readWhat_63
      unfold wX11_readWhat_65
      refine ifp (by decide) ?_
      unfold wX11_readWhat_78
      refine sf_X11_needs hI259 (by lia) (fun M342 t343 hI344 hF345 hq346 => ?_)
      have hF347 : Fr [] [(81, 32), (81, 33), (81, 34), (81, 35), (81, 36), (81, 37)] M M342 := fr_call hF262 hF345 (by decide) (by decide)
      refine sf_X11_next hI344  (fun M349 t350 hI351 hF352 hq353 => ?_)
      have hF354 : Fr [] [(81, 32), (81, 33), (81, 34), (81, 35), (81, 36), (81, 37)] M M349 := fr_call hF347 hF352 (by decide) (by decide)
      have hr355 := iv_81_36 hI351
      refine ifs (fun hc356 => ?_) (fun hc357 => ?_)
      · skip
        have hx358 : M342 81 32 = M257 81 32 := hF345 81 32 (by decide) (by decide)
        have hr359 := iv_81_32 hI351
        have hx360 : M342 81 34 = M257 81 34 := hF345 81 34 (by decide) (by decide)
        exact hp _ _ _ hI351 hF354 ⟨(by first | exact th_mk (by lia) (by lia) (by lia) (by lia) (by lia) (by lia) | decide), by lia⟩
      · skip
        have hx361 : M342 81 32 = M257 81 32 := hF345 81 32 (by decide) (by decide)
        have hr362 := iv_81_32 hI351
        have hx363 : M342 81 34 = M257 81 34 := hF345 81 34 (by decide) (by decide)
        exact hp _ _ _ hI351 hF354 ⟨(by first | exact th_mk (by lia) (by lia) (by lia) (by lia) (by lia) (by lia) | decide), by lia⟩
set_option maxHeartbeats 4000000 in
theorem sf_X11_readThing {post : MM → Int64 → Prop} {M : MM} {tl : Int64} (hI : Inv M) (hp : ∀ (M1 : MM) (t1 : Int64), Inv M1 → Fr [90] [(81, 24), (81, 29), (81, 32), (81, 33), (81, 34), (81, 35), (81, 36), (81, 37)] M M1 → M 81 32 ≤ M1 81 32 ∧ (M 81 36 = 0 ∨ M1 81 36 ≠ 0) ∧ (M1 81 36 ≠ 0 ∨ M1 81 34 ≠ 3 ∨ M 81 32 < M1 81 32) → post M1 t1) : wpX11_readThing post M tl  := by
  unfold wpX11_readThing
  refine sf_X11_readNumber hI  (fun r1 M2 t3 hI4 hF5 hq6 => ?_)
  have hF7 : Fr [90] [(81, 24), (81, 29), (81, 32), (81, 33), (81, 34), (81, 35), (81, 36), (81, 37)] M M2 := fr_call fr_rfl hF5 (by decide) (by decide)
  refine sf_X11_looked hI4  (fun r8 M9 t10 hI11 hF12 hq13 => ?_)
  have hF14 : Fr [90] [(81, 24), (81, 29), (81, 32), (81, 33), (81, 34), (81, 35), (81, 36), (81, 37)] M M9 := fr_call hF7 hF12 (by decide) (by decide)
  have hr15 := iv_81_36 hI11
  refine ifs (fun hc16 => ?_) (fun hc17 => ?_)
  · skip
    have hm18 : (0 : Int32) ≤ (((M9 81 24) >>> ((((8 : Int32) * r1) + r8) &&& (31 : Int32))) &&& (1 : Int32)) ∧ (((M9 81 24) >>> ((((8 : Int32) * r1) + r8) &&& (31 : Int32))) &&& (1 : Int32)) ≤ (1 : Int32) := andc ((M9 81 24) >>> ((((8 : Int32) * r1) + r8) &&& (31 : Int32))) 1 (by decide)
    have hx19 : M9 81 24 = M2 81 24 := hF12 81 24 (by decide) (by decide)
    have hx20 : M2 81 24 = M 81 24 := hF5 81 24 (by decide) (by decide)
    have hm21 : (0 : Int32) ≤ ((((8 : Int32) * r1) + r8) &&& (31 : Int32)) ∧ ((((8 : Int32) * r1) + r8) &&& (31 : Int32)) ≤ (31 : Int32) := andc (((8 : Int32) * r1) + r8) 31 (by decide)
    refine ifs (fun hc22 => ?_) (fun hc23 => ?_)
    · skip
      unfold wX11_readThing_44
      refine sf_X11_needs hI11 (by lia) (fun M25 t26 hI27 hF28 hq29 => ?_)
      have hF30 : Fr [90] [(81, 24), (81, 29), (81, 32), (81, 33), (81, 34), (81, 35), (81, 36), (81, 37)] M M25 := fr_call hF14 hF28 (by decide) (by decide)
      unfold wX11_readThing_48
      have hx33 : M25 81 24 = M9 81 24 := hF28 81 24 (by decide) (by decide)
      have hx34 : M9 81 24 = M2 81 24 := hF12 81 24 (by decide) (by decide)
      have hx35 : M2 81 24 = M 81 24 := hF5 81 24 (by decide) (by decide)
      intro W31 hW32
      have hI36 : Inv W31 := by rw [hW32]; exact inv_set hI27 (i_any _)
      have hF37 : Fr [90] [(81, 24), (81, 29), (81, 32), (81, 33), (81, 34), (81, 35), (81, 36), (81, 37)] M W31 := by rw [hW32]; exact fr_fld hF30 (by decide)
      have hv38 : W31 81 24 = ((M25 81 24) ||| ((1 : Int32) <<< ((((8 : Int32) * r1) + r8) &&& (31 : Int32)))) := by rw [hW32]; exact mset_at _ _ _ _
      refine sf_X11_readLot hI36  (fun r39 M40 t41 hI42 hF43 hq44 => ?_)
      have hF45 : Fr [90] [(81, 24), (81, 29), (81, 32), (81, 33), (81, 34), (81, 35), (81, 36), (81, 37)] M M40 := fr_call hF37 hF43 (by decide) (by decide)
      refine sf_X11_readWhat hI42  (fun r46 M47 t48 hI49 hF50 hq51 => ?_)
      have hF52 : Fr [90] [(81, 24), (81, 29), (81, 32), (81, 33), (81, 34), (81, 35), (81, 36), (81, 37)] M M47 := fr_call hF45 hF50 (by decide) (by decide)
      refine And.intro (vpI (c := 127) (by decide) (by lia) (by lia)) ?_
      intro W53 hW54
      have hI55 : Inv W53 := by rw [hW54]; exact w90_th hI49 _ _ (by lia) (by lia) (by unfold Th; lia)
      have hF56 : Fr [90] [(81, 24), (81, 29), (81, 32), (81, 33), (81, 34), (81, 35), (81, 36), (81, 37)] M W53 := by rw [hW54]; exact fr_arr hF52 (by decide)
      have hx57 : W53 81 32 = M47 81 32 := by rw [hW54, mset_ne (by decide)]
      have hx58 : W31 81 32 = M25 81 32 := by rw [hW32, mset_nk (by decide)]
      have hx59 : M25 81 32 = M9 81 32 := hF28 81 32 (by decide) (by decide)
      have hx60 : M9 81 32 = M2 81 32 := hF12 81 32 (by decide) (by decide)
      have hx61 : W53 81 32 = M47 81 32 := by rw [hW54, mset_ne (by decide)]
      have hr62 := iv_81_32 hI49
      have hr63 := iv_81_32 hI55
      have hx64 : W53 81 34 = M47 81 34 := by rw [hW54, mset_ne (by decide)]
      have hx65 : W31 81 34 = M25 81 34 := by rw [hW32, mset_nk (by decide)]
      have hx66 : M25 81 34 = M9 81 34 := hF28 81 34 (by decide) (by decide)
      have hx67 : M9 81 34 = M2 81 34 := hF12 81 34 (by decide) (by decide)
      have hx68 : W53 81 34 = M47 81 34 := by rw [hW54, mset_ne (by decide)]
      have hx69 : W53 81 36 = M47 81 36 := by rw [hW54, mset_ne (by decide)]
      have hx70 : W31 81 36 = M25 81 36 := by rw [hW32, mset_nk (by decide)]
      have hx71 : W53 81 36 = M47 81 36 := by rw [hW54, mset_ne (by decide)]
      have hr72 := iv_81_36 hI49
      have hr73 := iv_81_36 hI55
      exact hp _ _ hI55 hF56 (by lia)
    · skip
      unfold wX11_readThing_44
      refine sf_X11_needs hI11 (by lia) (fun M75 t76 hI77 hF78 hq79 => ?_)
      have hF80 : Fr [90] [(81, 24), (81, 29), (81, 32), (81, 33), (81, 34), (81, 35), (81, 36), (81, 37)] M M75 := fr_call hF14 hF78 (by decide) (by decide)
      unfold wX11_readThing_48
      have hx83 : M75 81 24 = M9 81 24 := hF78 81 24 (by decide) (by decide)
      have hx84 : M9 81 24 = M2 81 24 := hF12 81 24 (by decide) (by decide)
      have hx85 : M2 81 24 = M 81 24 := hF5 81 24 (by decide) (by decide)
      intro W81 hW82
      have hI86 : Inv W81 := by rw [hW82]; exact inv_set hI77 (i_any _)
      have hF87 : Fr [90] [(81, 24), (81, 29), (81, 32), (81, 33), (81, 34), (81, 35), (81, 36), (81, 37)] M W81 := by rw [hW82]; exact fr_fld hF80 (by decide)
      have hv88 : W81 81 24 = ((M75 81 24) ||| ((1 : Int32) <<< ((((8 : Int32) * r1) + r8) &&& (31 : Int32)))) := by rw [hW82]; exact mset_at _ _ _ _
      refine sf_X11_readLot hI86  (fun r89 M90 t91 hI92 hF93 hq94 => ?_)
      have hF95 : Fr [90] [(81, 24), (81, 29), (81, 32), (81, 33), (81, 34), (81, 35), (81, 36), (81, 37)] M M90 := fr_call hF87 hF93 (by decide) (by decide)
      refine sf_X11_readWhat hI92  (fun r96 M97 t98 hI99 hF100 hq101 => ?_)
      have hF102 : Fr [90] [(81, 24), (81, 29), (81, 32), (81, 33), (81, 34), (81, 35), (81, 36), (81, 37)] M M97 := fr_call hF95 hF100 (by decide) (by decide)
      refine And.intro (vpI (c := 127) (by decide) (by lia) (by lia)) ?_
      intro W103 hW104
      have hI105 : Inv W103 := by rw [hW104]; exact w90_th hI99 _ _ (by lia) (by lia) (by unfold Th; lia)
      have hF106 : Fr [90] [(81, 24), (81, 29), (81, 32), (81, 33), (81, 34), (81, 35), (81, 36), (81, 37)] M W103 := by rw [hW104]; exact fr_arr hF102 (by decide)
      have hx107 : W103 81 32 = M97 81 32 := by rw [hW104, mset_ne (by decide)]
      have hx108 : W81 81 32 = M75 81 32 := by rw [hW82, mset_nk (by decide)]
      have hx109 : M75 81 32 = M9 81 32 := hF78 81 32 (by decide) (by decide)
      have hx110 : M9 81 32 = M2 81 32 := hF12 81 32 (by decide) (by decide)
      have hx111 : W103 81 32 = M97 81 32 := by rw [hW104, mset_ne (by decide)]
      have hr112 := iv_81_32 hI99
      have hr113 := iv_81_32 hI105
      have hx114 : W103 81 34 = M97 81 34 := by rw [hW104, mset_ne (by decide)]
      have hx115 : W81 81 34 = M75 81 34 := by rw [hW82, mset_nk (by decide)]
      have hx116 : M75 81 34 = M9 81 34 := hF78 81 34 (by decide) (by decide)
      have hx117 : M9 81 34 = M2 81 34 := hF12 81 34 (by decide) (by decide)
      have hx118 : W103 81 34 = M97 81 34 := by rw [hW104, mset_ne (by decide)]
      have hx119 : W103 81 36 = M97 81 36 := by rw [hW104, mset_ne (by decide)]
      have hx120 : W81 81 36 = M75 81 36 := by rw [hW82, mset_nk (by decide)]
      have hx121 : W103 81 36 = M97 81 36 := by rw [hW104, mset_ne (by decide)]
      have hr122 := iv_81_36 hI99
      have hr123 := iv_81_36 hI105
      exact hp _ _ hI105 hF106 (by lia)
  · skip
    unfold wX11_readThing_48
    have hx126 : M9 81 24 = M2 81 24 := hF12 81 24 (by decide) (by decide)
    have hx127 : M2 81 24 = M 81 24 := hF5 81 24 (by decide) (by decide)
    have hm128 : (0 : Int32) ≤ ((((8 : Int32) * r1) + r8) &&& (31 : Int32)) ∧ ((((8 : Int32) * r1) + r8) &&& (31 : Int32)) ≤ (31 : Int32) := andc (((8 : Int32) * r1) + r8) 31 (by decide)
    intro W124 hW125
    have hI129 : Inv W124 := by rw [hW125]; exact inv_set hI11 (i_any _)
    have hF130 : Fr [90] [(81, 24), (81, 29), (81, 32), (81, 33), (81, 34), (81, 35), (81, 36), (81, 37)] M W124 := by rw [hW125]; exact fr_fld hF14 (by decide)
    have hv131 : W124 81 24 = ((M9 81 24) ||| ((1 : Int32) <<< ((((8 : Int32) * r1) + r8) &&& (31 : Int32)))) := by rw [hW125]; exact mset_at _ _ _ _
    refine sf_X11_readLot hI129  (fun r132 M133 t134 hI135 hF136 hq137 => ?_)
    have hF138 : Fr [90] [(81, 24), (81, 29), (81, 32), (81, 33), (81, 34), (81, 35), (81, 36), (81, 37)] M M133 := fr_call hF130 hF136 (by decide) (by decide)
    refine sf_X11_readWhat hI135  (fun r139 M140 t141 hI142 hF143 hq144 => ?_)
    have hF145 : Fr [90] [(81, 24), (81, 29), (81, 32), (81, 33), (81, 34), (81, 35), (81, 36), (81, 37)] M M140 := fr_call hF138 hF143 (by decide) (by decide)
    refine And.intro (vpI (c := 127) (by decide) (by lia) (by lia)) ?_
    intro W146 hW147
    have hI148 : Inv W146 := by rw [hW147]; exact w90_th hI142 _ _ (by lia) (by lia) (by unfold Th; lia)
    have hF149 : Fr [90] [(81, 24), (81, 29), (81, 32), (81, 33), (81, 34), (81, 35), (81, 36), (81, 37)] M W146 := by rw [hW147]; exact fr_arr hF145 (by decide)
    have hx150 : W146 81 32 = M140 81 32 := by rw [hW147, mset_ne (by decide)]
    have hx151 : W124 81 32 = M9 81 32 := by rw [hW125, mset_nk (by decide)]
    have hx152 : M9 81 32 = M2 81 32 := hF12 81 32 (by decide) (by decide)
    have hx153 : W146 81 32 = M140 81 32 := by rw [hW147, mset_ne (by decide)]
    have hr154 := iv_81_32 hI142
    have hr155 := iv_81_32 hI148
    have hx156 : W146 81 34 = M140 81 34 := by rw [hW147, mset_ne (by decide)]
    have hx157 : W124 81 34 = M9 81 34 := by rw [hW125, mset_nk (by decide)]
    have hx158 : M9 81 34 = M2 81 34 := hF12 81 34 (by decide) (by decide)
    have hx159 : W146 81 34 = M140 81 34 := by rw [hW147, mset_ne (by decide)]
    have hx160 : W146 81 36 = M140 81 36 := by rw [hW147, mset_ne (by decide)]
    have hx161 : W124 81 36 = M9 81 36 := by rw [hW125, mset_nk (by decide)]
    have hx162 : W146 81 36 = M140 81 36 := by rw [hW147, mset_ne (by decide)]
    have hr163 := iv_81_36 hI142
    have hr164 := iv_81_36 hI148
    exact hp _ _ hI148 hF149 (by lia)
set_option maxHeartbeats 4000000 in
theorem sf_X11_readWork {post : MM → Int64 → Prop} {M : MM} {tl : Int64} (hI : Inv M) (hp1 : M 90 (16 : Int32).toNatClampNeg < 12) (hp : ∀ (M1 : MM) (t1 : Int64), Inv M1 → Fr [90] [(81, 29), (81, 32), (81, 33), (81, 34), (81, 35), (81, 36), (81, 37)] M M1 → M 81 32 ≤ M1 81 32 ∧ (M 81 36 = 0 ∨ M1 81 36 ≠ 0) ∧ (M1 81 36 ≠ 0 ∨ M1 81 34 ≠ 3 ∨ M 81 32 < M1 81 32) → post M1 t1) : wpX11_readWork post M tl  := by
  unfold wpX11_readWork
  refine And.intro (vpI (c := 127) (by decide) (by lia) (by lia)) ?_
  have hr1 := r90_16 hI
  refine ifs (fun hc2 => ?_) (fun hc3 => ?_)
  · skip
    unfold wX11_readWork_37
    refine sf_X11_readNumber hI  (fun r4 M5 t6 hI7 hF8 hq9 => ?_)
    have hF10 : Fr [90] [(81, 29), (81, 32), (81, 33), (81, 34), (81, 35), (81, 36), (81, 37)] M M5 := fr_call fr_rfl hF8 (by decide) (by decide)
    refine And.intro (vpI (c := 127) (by decide) (by lia) (by lia)) ?_
    intro W11 hW12
    have hI13 : Inv W11 := by rw [hW12]; exact w90_17_0 hI7 _ _ (by lia) (by lia) (by first | lia | (unfold Th; lia))
    have hF14 : Fr [90] [(81, 29), (81, 32), (81, 33), (81, 34), (81, 35), (81, 36), (81, 37)] M W11 := by rw [hW12]; exact fr_arr hF10 (by decide)
    refine sf_X11_readNumber hI13  (fun r15 M16 t17 hI18 hF19 hq20 => ?_)
    have hF21 : Fr [90] [(81, 29), (81, 32), (81, 33), (81, 34), (81, 35), (81, 36), (81, 37)] M M16 := fr_call hF14 hF19 (by decide) (by decide)
    refine And.intro (vpI (c := 127) (by decide) (by lia) (by lia)) ?_
    intro W22 hW23
    have hI24 : Inv W22 := by rw [hW23]; exact w90_17_1 hI18 _ _ (by lia) (by lia) (by first | lia | (unfold Th; lia))
    have hF25 : Fr [90] [(81, 29), (81, 32), (81, 33), (81, 34), (81, 35), (81, 36), (81, 37)] M W22 := by rw [hW23]; exact fr_arr hF21 (by decide)
    refine sf_X11_readLot hI24  (fun r26 M27 t28 hI29 hF30 hq31 => ?_)
    have hF32 : Fr [90] [(81, 29), (81, 32), (81, 33), (81, 34), (81, 35), (81, 36), (81, 37)] M M27 := fr_call hF25 hF30 (by decide) (by decide)
    refine And.intro (vpI (c := 127) (by decide) (by lia) (by lia)) ?_
    intro W33 hW34
    have hI35 : Inv W33 := by rw [hW34]; exact w90_17_2 hI29 _ _ (by lia) (by lia) (by first | lia | (unfold Th; lia))
    have hF36 : Fr [90] [(81, 29), (81, 32), (81, 33), (81, 34), (81, 35), (81, 36), (81, 37)] M W33 := by rw [hW34]; exact fr_arr hF32 (by decide)
    refine sf_X11_readWhat hI35  (fun r37 M38 t39 hI40 hF41 hq42 => ?_)
    have hF43 : Fr [90] [(81, 29), (81, 32), (81, 33), (81, 34), (81, 35), (81, 36), (81, 37)] M M38 := fr_call hF36 hF41 (by decide) (by decide)
    refine And.intro (vpI (c := 127) (by decide) (by lia) (by lia)) ?_
    intro W44 hW45
    have hI46 : Inv W44 := by rw [hW45]; exact w90_17_3 hI40 _ _ (by lia) (by lia) (by first | lia | (unfold Th; lia))
    have hF47 : Fr [90] [(81, 29), (81, 32), (81, 33), (81, 34), (81, 35), (81, 36), (81, 37)] M W44 := by rw [hW45]; exact fr_arr hF43 (by decide)
    refine And.intro (vpI (c := 127) (by decide) (by lia) (by lia)) ?_
    intro W48 hW49
    have hI50 : Inv W48 := by rw [hW49]; exact w90_16 hI46 _ ⟨by lia, by lia⟩
    have hF51 : Fr [90] [(81, 29), (81, 32), (81, 33), (81, 34), (81, 35), (81, 36), (81, 37)] M W48 := by rw [hW49]; exact fr_arr hF47 (by decide)
    have hx52 : W48 81 32 = W44 81 32 := by rw [hW49, mset_ne (by decide)]
    have hx53 : W44 81 32 = M38 81 32 := by rw [hW45, mset_ne (by decide)]
    have hx54 : W33 81 32 = M27 81 32 := by rw [hW34, mset_ne (by decide)]
    have hx55 : W22 81 32 = M16 81 32 := by rw [hW23, mset_ne (by decide)]
    have hx56 : W11 81 32 = M5 81 32 := by rw [hW12, mset_ne (by decide)]
    have hx57 : W48 81 32 = W44 81 32 := by rw [hW49, mset_ne (by decide)]
    have hr58 := iv_81_32 hI46
    have hx59 : W44 81 32 = M38 81 32 := by rw [hW45, mset_ne (by decide)]
    have hr60 := iv_81_32 hI40
    have hr61 := iv_81_32 hI50
    have hx62 : W48 81 34 = W44 81 34 := by rw [hW49, mset_ne (by decide)]
    have hx63 : W44 81 34 = M38 81 34 := by rw [hW45, mset_ne (by decide)]
    have hx64 : W33 81 34 = M27 81 34 := by rw [hW34, mset_ne (by decide)]
    have hx65 : W22 81 34 = M16 81 34 := by rw [hW23, mset_ne (by decide)]
    have hx66 : W11 81 34 = M5 81 34 := by rw [hW12, mset_ne (by decide)]
    have hx67 : W48 81 34 = W44 81 34 := by rw [hW49, mset_ne (by decide)]
    have hx68 : W44 81 34 = M38 81 34 := by rw [hW45, mset_ne (by decide)]
    have hx69 : W48 81 36 = W44 81 36 := by rw [hW49, mset_ne (by decide)]
    have hx70 : W44 81 36 = M38 81 36 := by rw [hW45, mset_ne (by decide)]
    have hx71 : W33 81 36 = M27 81 36 := by rw [hW34, mset_ne (by decide)]
    have hx72 : W22 81 36 = M16 81 36 := by rw [hW23, mset_ne (by decide)]
    have hx73 : W11 81 36 = M5 81 36 := by rw [hW12, mset_ne (by decide)]
    have hx74 : W48 81 36 = W44 81 36 := by rw [hW49, mset_ne (by decide)]
    have hr75 := iv_81_36 hI46
    have hx76 : W44 81 36 = M38 81 36 := by rw [hW45, mset_ne (by decide)]
    have hr77 := iv_81_36 hI40
    have hr78 := iv_81_36 hI50
    exact hp _ _ hI50 hF51 (by lia)
  · skip
    refine And.intro (vpI (c := 127) (by decide) (by lia) (by lia)) ?_
    have hr79 := r90_prev hI (M 90 ((16 : Int32)).toNatClampNeg) (by lia) (by lia)
    unfold wX11_readWork_37
    refine sf_X11_readNumber hI  (fun r80 M81 t82 hI83 hF84 hq85 => ?_)
    have hF86 : Fr [90] [(81, 29), (81, 32), (81, 33), (81, 34), (81, 35), (81, 36), (81, 37)] M M81 := fr_call fr_rfl hF84 (by decide) (by decide)
    refine And.intro (vpI (c := 127) (by decide) (by lia) (by lia)) ?_
    intro W87 hW88
    have hI89 : Inv W87 := by rw [hW88]; exact w90_17_0 hI83 _ _ (by lia) (by lia) (by first | lia | (unfold Th; lia))
    have hF90 : Fr [90] [(81, 29), (81, 32), (81, 33), (81, 34), (81, 35), (81, 36), (81, 37)] M W87 := by rw [hW88]; exact fr_arr hF86 (by decide)
    refine sf_X11_readNumber hI89  (fun r91 M92 t93 hI94 hF95 hq96 => ?_)
    have hF97 : Fr [90] [(81, 29), (81, 32), (81, 33), (81, 34), (81, 35), (81, 36), (81, 37)] M M92 := fr_call hF90 hF95 (by decide) (by decide)
    refine And.intro (vpI (c := 127) (by decide) (by lia) (by lia)) ?_
    intro W98 hW99
    have hI100 : Inv W98 := by rw [hW99]; exact w90_17_1 hI94 _ _ (by lia) (by lia) (by first | lia | (unfold Th; lia))
    have hF101 : Fr [90] [(81, 29), (81, 32), (81, 33), (81, 34), (81, 35), (81, 36), (81, 37)] M W98 := by rw [hW99]; exact fr_arr hF97 (by decide)
    refine sf_X11_readLot hI100  (fun r102 M103 t104 hI105 hF106 hq107 => ?_)
    have hF108 : Fr [90] [(81, 29), (81, 32), (81, 33), (81, 34), (81, 35), (81, 36), (81, 37)] M M103 := fr_call hF101 hF106 (by decide) (by decide)
    refine And.intro (vpI (c := 127) (by decide) (by lia) (by lia)) ?_
    intro W109 hW110
    have hI111 : Inv W109 := by rw [hW110]; exact w90_17_2 hI105 _ _ (by lia) (by lia) (by first | lia | (unfold Th; lia))
    have hF112 : Fr [90] [(81, 29), (81, 32), (81, 33), (81, 34), (81, 35), (81, 36), (81, 37)] M W109 := by rw [hW110]; exact fr_arr hF108 (by decide)
    refine sf_X11_readWhat hI111  (fun r113 M114 t115 hI116 hF117 hq118 => ?_)
    have hF119 : Fr [90] [(81, 29), (81, 32), (81, 33), (81, 34), (81, 35), (81, 36), (81, 37)] M M114 := fr_call hF112 hF117 (by decide) (by decide)
    refine And.intro (vpI (c := 127) (by decide) (by lia) (by lia)) ?_
    intro W120 hW121
    have hI122 : Inv W120 := by rw [hW121]; exact w90_17_3 hI116 _ _ (by lia) (by lia) (by first | lia | (unfold Th; lia))
    have hF123 : Fr [90] [(81, 29), (81, 32), (81, 33), (81, 34), (81, 35), (81, 36), (81, 37)] M W120 := by rw [hW121]; exact fr_arr hF119 (by decide)
    refine And.intro (vpI (c := 127) (by decide) (by lia) (by lia)) ?_
    intro W124 hW125
    have hI126 : Inv W124 := by rw [hW125]; exact w90_16 hI122 _ ⟨by lia, by lia⟩
    have hF127 : Fr [90] [(81, 29), (81, 32), (81, 33), (81, 34), (81, 35), (81, 36), (81, 37)] M W124 := by rw [hW125]; exact fr_arr hF123 (by decide)
    have hx128 : W124 81 32 = W120 81 32 := by rw [hW125, mset_ne (by decide)]
    have hx129 : W120 81 32 = M114 81 32 := by rw [hW121, mset_ne (by decide)]
    have hx130 : W109 81 32 = M103 81 32 := by rw [hW110, mset_ne (by decide)]
    have hx131 : W98 81 32 = M92 81 32 := by rw [hW99, mset_ne (by decide)]
    have hx132 : W87 81 32 = M81 81 32 := by rw [hW88, mset_ne (by decide)]
    have hx133 : W124 81 32 = W120 81 32 := by rw [hW125, mset_ne (by decide)]
    have hr134 := iv_81_32 hI122
    have hx135 : W120 81 32 = M114 81 32 := by rw [hW121, mset_ne (by decide)]
    have hr136 := iv_81_32 hI116
    have hr137 := iv_81_32 hI126
    have hx138 : W124 81 34 = W120 81 34 := by rw [hW125, mset_ne (by decide)]
    have hx139 : W120 81 34 = M114 81 34 := by rw [hW121, mset_ne (by decide)]
    have hx140 : W109 81 34 = M103 81 34 := by rw [hW110, mset_ne (by decide)]
    have hx141 : W98 81 34 = M92 81 34 := by rw [hW99, mset_ne (by decide)]
    have hx142 : W87 81 34 = M81 81 34 := by rw [hW88, mset_ne (by decide)]
    have hx143 : W124 81 34 = W120 81 34 := by rw [hW125, mset_ne (by decide)]
    have hx144 : W120 81 34 = M114 81 34 := by rw [hW121, mset_ne (by decide)]
    have hx145 : W124 81 36 = W120 81 36 := by rw [hW125, mset_ne (by decide)]
    have hx146 : W120 81 36 = M114 81 36 := by rw [hW121, mset_ne (by decide)]
    have hx147 : W109 81 36 = M103 81 36 := by rw [hW110, mset_ne (by decide)]
    have hx148 : W98 81 36 = M92 81 36 := by rw [hW99, mset_ne (by decide)]
    have hx149 : W87 81 36 = M81 81 36 := by rw [hW88, mset_ne (by decide)]
    have hx150 : W124 81 36 = W120 81 36 := by rw [hW125, mset_ne (by decide)]
    have hr151 := iv_81_36 hI122
    have hx152 : W120 81 36 = M114 81 36 := by rw [hW121, mset_ne (by decide)]
    have hr153 := iv_81_36 hI116
    have hr154 := iv_81_36 hI126
    exact hp _ _ hI126 hF127 (by lia)
set_option maxHeartbeats 4000000 in
theorem sl_X11_readLineOf_108 {post : MM → Int64 → Prop} {Mb : MM} (hp : ∀ (M1 : MM) (t1 : Int64), Inv M1 → Fr [90, 91, 92, 93, 94, 95, 96] [(81, 13), (81, 14), (81, 15), (81, 22), (81, 24), (81, 25), (81, 26), (81, 27), (81, 28), (81, 29), (81, 32), (81, 33), (81, 34), (81, 35), (81, 36), (81, 37)] Mb M1 → Mb 81 32 ≤ M1 81 32 ∧ (Mb 81 36 = 0 ∨ M1 81 36 ≠ 0) ∧ (M1 81 36 ≠ 0 ∨ M1 81 34 ≠ 3 ∨ Mb 81 32 < M1 81 32) → post M1 t1) : ∀ v2 : Int32, 0 ≤ v2 → v2 ≤ 4 → ∃ n, ∀ (M : MM) (tl : Int64), Inv M → Fr [90, 91, 92, 93, 94, 95, 96] [(81, 13), (81, 14), (81, 15), (81, 22), (81, 24), (81, 25), (81, 26), (81, 27), (81, 28), (81, 29), (81, 32), (81, 33), (81, 34), (81, 35), (81, 36), (81, 37)] Mb M → ((Mb 81 32 ≤ M 81 32) ∧ (Mb 81 36 = 0 ∨ M 81 36 ≠ 0) ∧ (v2 = 0 ∨ M 81 36 ≠ 0 ∨ M 81 34 ≠ 3 ∨ Mb 81 32 < M 81 32)) → wX11_readLineOf_108 post n M tl v2 := by
  refine up_ex (P := fun d v2 => ∀ (M : MM) (tl : Int64), Inv M → Fr [90, 91, 92, 93, 94, 95, 96] [(81, 13), (81, 14), (81, 15), (81, 22), (81, 24), (81, 25), (81, 26), (81, 27), (81, 28), (81, 29), (81, 32), (81, 33), (81, 34), (81, 35), (81, 36), (81, 37)] Mb M → ((Mb 81 32 ≤ M 81 32) ∧ (Mb 81 36 = 0 ∨ M 81 36 ≠ 0) ∧ (v2 = 0 ∨ M 81 36 ≠ 0 ∨ M 81 34 ≠ 3 ∨ Mb 81 32 < M 81 32)) → wX11_readLineOf_108 post d M tl v2) 0 4 ?_
  intro d v2 hlo hhi rec M tl  hI hF hli
  unfold wX11_readLineOf_108
  refine ifs (fun hc1 => ?_) (fun hc2 => ?_)
  · skip
    have hr3 := iv_81_32 hI
    have hr4 := iv_81_36 hI
    exact hp _ _ hI hF (by lia)
  · skip
    refine sf_X11_readNumber hI  (fun r5 M6 t7 hI8 hF9 hq10 => ?_)
    have hF11 : Fr [90, 91, 92, 93, 94, 95, 96] [(81, 13), (81, 14), (81, 15), (81, 22), (81, 24), (81, 25), (81, 26), (81, 27), (81, 28), (81, 29), (81, 32), (81, 33), (81, 34), (81, 35), (81, 36), (81, 37)] Mb M6 := fr_call hF hF9 (by decide) (by decide)
    refine And.intro (vpI (c := 4) (by decide) (by lia) (by lia)) ?_
    intro W12 hW13
    have hI14 : Inv W12 := by rw [hW13]; exact inv_set hI8 (show 0 ≤ r5 ∧ r5 ≤ 9 from ⟨by lia, by lia⟩)
    have hF15 : Fr [90, 91, 92, 93, 94, 95, 96] [(81, 13), (81, 14), (81, 15), (81, 22), (81, 24), (81, 25), (81, 26), (81, 27), (81, 28), (81, 29), (81, 32), (81, 33), (81, 34), (81, 35), (81, 36), (81, 37)] Mb W12 := by rw [hW13]; exact fr_arr hF11 (by decide)
    have hx16 : W12 81 32 = M6 81 32 := by rw [hW13, mset_ne (by decide)]
    have hx17 : W12 81 34 = M6 81 34 := by rw [hW13, mset_ne (by decide)]
    have hx18 : W12 81 36 = M6 81 36 := by rw [hW13, mset_ne (by decide)]
    have hx19 : W12 81 32 = M6 81 32 := by rw [hW13, mset_ne (by decide)]
    have hr20 := iv_81_32 hI8
    have hr21 := iv_81_32 hI14
    have hx22 : W12 81 34 = M6 81 34 := by rw [hW13, mset_ne (by decide)]
    have hx23 : W12 81 36 = M6 81 36 := by rw [hW13, mset_ne (by decide)]
    have hr24 := iv_81_36 hI8
    have hr25 := iv_81_36 hI14
    exact rec (by lia) _ _  hI14 hF15 (by lia)
set_option maxHeartbeats 4000000 in
theorem sf_X11_readLineOf {post : MM → Int64 → Prop} {M : MM} {tl : Int64} {v1 : Int32} (hI : Inv M) (hp1 : (v1 = 21 → M 90 (16 : Int32).toNatClampNeg < 12)) (hp : ∀ (M1 : MM) (t1 : Int64), Inv M1 → Fr [90, 91, 92, 93, 94, 95, 96] [(81, 13), (81, 14), (81, 15), (81, 22), (81, 24), (81, 25), (81, 26), (81, 27), (81, 28), (81, 29), (81, 32), (81, 33), (81, 34), (81, 35), (81, 36), (81, 37)] M M1 → M 81 32 ≤ M1 81 32 ∧ (M 81 36 = 0 ∨ M1 81 36 ≠ 0) ∧ (M1 81 36 ≠ 0 ∨ M1 81 34 ≠ 3 ∨ M 81 32 < M1 81 32) → post M1 t1) : wpX11_readLineOf post M tl v1 := by
  unfold wpX11_readLineOf
  refine ifs (fun hc1 => ?_) (fun hc2 => ?_)
  · skip
    refine sf_X11_readNumber hI  (fun r3 M4 t5 hI6 hF7 hq8 => ?_)
    have hF9 : Fr [90, 91, 92, 93, 94, 95, 96] [(81, 13), (81, 14), (81, 15), (81, 22), (81, 24), (81, 25), (81, 26), (81, 27), (81, 28), (81, 29), (81, 32), (81, 33), (81, 34), (81, 35), (81, 36), (81, 37)] M M4 := fr_call fr_rfl hF7 (by decide) (by decide)
    intro W10 hW11
    have hI12 : Inv W10 := by rw [hW11]; exact inv_set hI6 (show 0 ≤ r3 ∧ r3 ≤ 8 from ⟨by lia, by lia⟩)
    have hF13 : Fr [90, 91, 92, 93, 94, 95, 96] [(81, 13), (81, 14), (81, 15), (81, 22), (81, 24), (81, 25), (81, 26), (81, 27), (81, 28), (81, 29), (81, 32), (81, 33), (81, 34), (81, 35), (81, 36), (81, 37)] M W10 := by rw [hW11]; exact fr_fld hF9 (by decide)
    have hv14 : W10 81 13 = r3 := by rw [hW11]; exact mset_at _ _ _ _
    have hx15 : W10 81 32 = M4 81 32 := by rw [hW11, mset_nk (by decide)]
    have hx16 : W10 81 32 = M4 81 32 := by rw [hW11, mset_nk (by decide)]
    have hr17 := iv_81_32 hI6
    have hr18 := iv_81_32 hI12
    have hx19 : W10 81 34 = M4 81 34 := by rw [hW11, mset_nk (by decide)]
    have hx20 : W10 81 34 = M4 81 34 := by rw [hW11, mset_nk (by decide)]
    have hx21 : W10 81 36 = M4 81 36 := by rw [hW11, mset_nk (by decide)]
    have hx22 : W10 81 36 = M4 81 36 := by rw [hW11, mset_nk (by decide)]
    have hr23 := iv_81_36 hI6
    have hr24 := iv_81_36 hI12
    exact hp _ _ hI12 hF13 (by lia)
  · skip
    refine ifs (fun hc25 => ?_) (fun hc26 => ?_)
    · skip
      refine sf_X11_readNumber hI  (fun r27 M28 t29 hI30 hF31 hq32 => ?_)
      have hF33 : Fr [90, 91, 92, 93, 94, 95, 96] [(81, 13), (81, 14), (81, 15), (81, 22), (81, 24), (81, 25), (81, 26), (81, 27), (81, 28), (81, 29), (81, 32), (81, 33), (81, 34), (81, 35), (81, 36), (81, 37)] M M28 := fr_call fr_rfl hF31 (by decide) (by decide)
      intro W34 hW35
      have hI36 : Inv W34 := by rw [hW35]; exact inv_set hI30 (show 0 ≤ r27 ∧ r27 ≤ 6 from ⟨by lia, by lia⟩)
      have hF37 : Fr [90, 91, 92, 93, 94, 95, 96] [(81, 13), (81, 14), (81, 15), (81, 22), (81, 24), (81, 25), (81, 26), (81, 27), (81, 28), (81, 29), (81, 32), (81, 33), (81, 34), (81, 35), (81, 36), (81, 37)] M W34 := by rw [hW35]; exact fr_fld hF33 (by decide)
      have hv38 : W34 81 14 = r27 := by rw [hW35]; exact mset_at _ _ _ _
      have hx39 : W34 81 32 = M28 81 32 := by rw [hW35, mset_nk (by decide)]
      have hx40 : W34 81 32 = M28 81 32 := by rw [hW35, mset_nk (by decide)]
      have hr41 := iv_81_32 hI30
      have hr42 := iv_81_32 hI36
      have hx43 : W34 81 34 = M28 81 34 := by rw [hW35, mset_nk (by decide)]
      have hx44 : W34 81 34 = M28 81 34 := by rw [hW35, mset_nk (by decide)]
      have hx45 : W34 81 36 = M28 81 36 := by rw [hW35, mset_nk (by decide)]
      have hx46 : W34 81 36 = M28 81 36 := by rw [hW35, mset_nk (by decide)]
      have hr47 := iv_81_36 hI30
      have hr48 := iv_81_36 hI36
      exact hp _ _ hI36 hF37 (by lia)
    · skip
      refine ifs (fun hc49 => ?_) (fun hc50 => ?_)
      · skip
        refine sf_X11_readNumber hI  (fun r51 M52 t53 hI54 hF55 hq56 => ?_)
        have hF57 : Fr [90, 91, 92, 93, 94, 95, 96] [(81, 13), (81, 14), (81, 15), (81, 22), (81, 24), (81, 25), (81, 26), (81, 27), (81, 28), (81, 29), (81, 32), (81, 33), (81, 34), (81, 35), (81, 36), (81, 37)] M M52 := fr_call fr_rfl hF55 (by decide) (by decide)
        intro W58 hW59
        have hI60 : Inv W58 := by rw [hW59]; exact inv_set hI54 (show 0 ≤ r51 ∧ r51 ≤ 20 from ⟨by lia, by lia⟩)
        have hF61 : Fr [90, 91, 92, 93, 94, 95, 96] [(81, 13), (81, 14), (81, 15), (81, 22), (81, 24), (81, 25), (81, 26), (81, 27), (81, 28), (81, 29), (81, 32), (81, 33), (81, 34), (81, 35), (81, 36), (81, 37)] M W58 := by rw [hW59]; exact fr_fld hF57 (by decide)
        have hv62 : W58 81 15 = r51 := by rw [hW59]; exact mset_at _ _ _ _
        have hx63 : W58 81 32 = M52 81 32 := by rw [hW59, mset_nk (by decide)]
        have hx64 : W58 81 32 = M52 81 32 := by rw [hW59, mset_nk (by decide)]
        have hr65 := iv_81_32 hI54
        have hr66 := iv_81_32 hI60
        have hx67 : W58 81 34 = M52 81 34 := by rw [hW59, mset_nk (by decide)]
        have hx68 : W58 81 34 = M52 81 34 := by rw [hW59, mset_nk (by decide)]
        have hx69 : W58 81 36 = M52 81 36 := by rw [hW59, mset_nk (by decide)]
        have hx70 : W58 81 36 = M52 81 36 := by rw [hW59, mset_nk (by decide)]
        have hr71 := iv_81_36 hI54
        have hr72 := iv_81_36 hI60
        exact hp _ _ hI60 hF61 (by lia)
      · skip
        refine ifs (fun hc73 => ?_) (fun hc74 => ?_)
        · skip
          have hr75 := iv_81_32 hI
          have hr76 := iv_81_36 hI
          obtain ⟨n77, hn78⟩ := sl_X11_readLineOf_108 (Mb := M) hp  (0 : Int32) (by lia) (by lia)
          exact ⟨n77, hn78 _ _  hI fr_rfl (by lia)⟩
        · skip
          refine ifs (fun hc79 => ?_) (fun hc80 => ?_)
          · skip
            refine ifs (fun hc81 => ?_) (fun hc82 => ?_)
            · skip
              unfold wX11_readLineOf_147
              refine sf_X11_readCosts hI  (fun M84 t85 hI86 hF87 hq88 => ?_)
              have hF89 : Fr [90, 91, 92, 93, 94, 95, 96] [(81, 13), (81, 14), (81, 15), (81, 22), (81, 24), (81, 25), (81, 26), (81, 27), (81, 28), (81, 29), (81, 32), (81, 33), (81, 34), (81, 35), (81, 36), (81, 37)] M M84 := fr_call fr_rfl hF87 (by decide) (by decide)
              have hr90 := iv_81_32 hI86
              have hr91 := iv_81_36 hI86
              exact hp _ _ hI86 hF89 (by lia)
            · skip
              unfold wX11_readLineOf_147
              refine sf_X11_readCosts hI  (fun M93 t94 hI95 hF96 hq97 => ?_)
              have hF98 : Fr [90, 91, 92, 93, 94, 95, 96] [(81, 13), (81, 14), (81, 15), (81, 22), (81, 24), (81, 25), (81, 26), (81, 27), (81, 28), (81, 29), (81, 32), (81, 33), (81, 34), (81, 35), (81, 36), (81, 37)] M M93 := fr_call fr_rfl hF96 (by decide) (by decide)
              have hr99 := iv_81_32 hI95
              have hr100 := iv_81_36 hI95
              exact hp _ _ hI95 hF98 (by lia)
          · skip
            refine ifs (fun hc101 => ?_) (fun hc102 => ?_)
            · skip
              refine ifs (fun hc103 => ?_) (fun hc104 => ?_)
              · skip
                unfold wX11_readLineOf_147
                refine sf_X11_readCosts hI  (fun M106 t107 hI108 hF109 hq110 => ?_)
                have hF111 : Fr [90, 91, 92, 93, 94, 95, 96] [(81, 13), (81, 14), (81, 15), (81, 22), (81, 24), (81, 25), (81, 26), (81, 27), (81, 28), (81, 29), (81, 32), (81, 33), (81, 34), (81, 35), (81, 36), (81, 37)] M M106 := fr_call fr_rfl hF109 (by decide) (by decide)
                have hr112 := iv_81_32 hI108
                have hr113 := iv_81_36 hI108
                exact hp _ _ hI108 hF111 (by lia)
              · skip
                unfold wX11_readLineOf_147
                refine sf_X11_readCosts hI  (fun M115 t116 hI117 hF118 hq119 => ?_)
                have hF120 : Fr [90, 91, 92, 93, 94, 95, 96] [(81, 13), (81, 14), (81, 15), (81, 22), (81, 24), (81, 25), (81, 26), (81, 27), (81, 28), (81, 29), (81, 32), (81, 33), (81, 34), (81, 35), (81, 36), (81, 37)] M M115 := fr_call fr_rfl hF118 (by decide) (by decide)
                have hr121 := iv_81_32 hI117
                have hr122 := iv_81_36 hI117
                exact hp _ _ hI117 hF120 (by lia)
            · skip
              refine ifs (fun hc123 => ?_) (fun hc124 => ?_)
              · skip
                refine sf_X11_readLaw hI  (fun M126 t127 hI128 hF129 hq130 => ?_)
                have hF131 : Fr [90, 91, 92, 93, 94, 95, 96] [(81, 13), (81, 14), (81, 15), (81, 22), (81, 24), (81, 25), (81, 26), (81, 27), (81, 28), (81, 29), (81, 32), (81, 33), (81, 34), (81, 35), (81, 36), (81, 37)] M M126 := fr_call fr_rfl hF129 (by decide) (by decide)
                have hr132 := iv_81_32 hI128
                have hr133 := iv_81_36 hI128
                exact hp _ _ hI128 hF131 (by lia)
              · skip
                refine ifs (fun hc134 => ?_) (fun hc135 => ?_)
                · skip
                  refine sf_X11_readLaw hI  (fun M137 t138 hI139 hF140 hq141 => ?_)
                  have hF142 : Fr [90, 91, 92, 93, 94, 95, 96] [(81, 13), (81, 14), (81, 15), (81, 22), (81, 24), (81, 25), (81, 26), (81, 27), (81, 28), (81, 29), (81, 32), (81, 33), (81, 34), (81, 35), (81, 36), (81, 37)] M M137 := fr_call fr_rfl hF140 (by decide) (by decide)
                  have hr143 := iv_81_32 hI139
                  have hr144 := iv_81_36 hI139
                  exact hp _ _ hI139 hF142 (by lia)
                · skip
                  refine ifs (fun hc145 => ?_) (fun hc146 => ?_)
                  · skip
                    refine sf_X11_readLaw hI  (fun M148 t149 hI150 hF151 hq152 => ?_)
                    have hF153 : Fr [90, 91, 92, 93, 94, 95, 96] [(81, 13), (81, 14), (81, 15), (81, 22), (81, 24), (81, 25), (81, 26), (81, 27), (81, 28), (81, 29), (81, 32), (81, 33), (81, 34), (81, 35), (81, 36), (81, 37)] M M148 := fr_call fr_rfl hF151 (by decide) (by decide)
                    have hr154 := iv_81_32 hI150
                    have hr155 := iv_81_36 hI150
                    exact hp _ _ hI150 hF153 (by lia)
                  · skip
                    refine ifs (fun hc156 => ?_) (fun hc157 => ?_)
                    · skip
                      refine sf_X11_readLaw hI  (fun M159 t160 hI161 hF162 hq163 => ?_)
                      have hF164 : Fr [90, 91, 92, 93, 94, 95, 96] [(81, 13), (81, 14), (81, 15), (81, 22), (81, 24), (81, 25), (81, 26), (81, 27), (81, 28), (81, 29), (81, 32), (81, 33), (81, 34), (81, 35), (81, 36), (81, 37)] M M159 := fr_call fr_rfl hF162 (by decide) (by decide)
                      have hr165 := iv_81_32 hI161
                      have hr166 := iv_81_36 hI161
                      exact hp _ _ hI161 hF164 (by lia)
                    · skip
                      refine ifs (fun hc167 => ?_) (fun hc168 => ?_)
                      · skip
                        refine sf_X11_readThing hI  (fun M170 t171 hI172 hF173 hq174 => ?_)
                        have hF175 : Fr [90, 91, 92, 93, 94, 95, 96] [(81, 13), (81, 14), (81, 15), (81, 22), (81, 24), (81, 25), (81, 26), (81, 27), (81, 28), (81, 29), (81, 32), (81, 33), (81, 34), (81, 35), (81, 36), (81, 37)] M M170 := fr_call fr_rfl hF173 (by decide) (by decide)
                        have hr176 := iv_81_32 hI172
                        have hr177 := iv_81_36 hI172
                        exact hp _ _ hI172 hF175 (by lia)
                      · skip
                        refine ifs (fun hc178 => ?_) (fun hc179 => ?_)
                        · skip
                          have hr180 := r90_16 hI
                          refine sf_X11_readWork hI (by lia) (fun M182 t183 hI184 hF185 hq186 => ?_)
                          have hF187 : Fr [90, 91, 92, 93, 94, 95, 96] [(81, 13), (81, 14), (81, 15), (81, 22), (81, 24), (81, 25), (81, 26), (81, 27), (81, 28), (81, 29), (81, 32), (81, 33), (81, 34), (81, 35), (81, 36), (81, 37)] M M182 := fr_call fr_rfl hF185 (by decide) (by decide)
                          have hr188 := iv_81_32 hI184
                          have hr189 := iv_81_36 hI184
                          exact hp _ _ hI184 hF187 (by lia)
                        · skip
                          refine sf_X11_readLaw hI  (fun M191 t192 hI193 hF194 hq195 => ?_)
                          have hF196 : Fr [90, 91, 92, 93, 94, 95, 96] [(81, 13), (81, 14), (81, 15), (81, 22), (81, 24), (81, 25), (81, 26), (81, 27), (81, 28), (81, 29), (81, 32), (81, 33), (81, 34), (81, 35), (81, 36), (81, 37)] M M191 := fr_call fr_rfl hF194 (by decide) (by decide)
                          have hr197 := iv_81_32 hI193
                          have hr198 := iv_81_36 hI193
                          exact hp _ _ hI193 hF196 (by lia)
set_option maxHeartbeats 4000000 in
theorem sf_X11_readLine {post : MM → Int64 → Prop} {M : MM} {tl : Int64} (hI : Inv M) (hp : ∀ (M1 : MM) (t1 : Int64), Inv M1 → Fr [90, 91, 92, 93, 94, 95, 96] [(81, 13), (81, 14), (81, 15), (81, 22), (81, 23), (81, 24), (81, 25), (81, 26), (81, 27), (81, 28), (81, 29), (81, 32), (81, 33), (81, 34), (81, 35), (81, 36), (81, 37)] M M1 → (M1 81 36 ≠ 0 ∨ M 81 32 < M1 81 32) → post M1 t1) : wpX11_readLine post M tl  := by
  unfold wpX11_readLine
  refine ifs (fun hc1 => ?_) (fun hc2 => ?_)
  · skip
    refine sf_X11_lineNow hI  (fun r3 hq4 => ?_)
    unfold wX11_readLine_17
    refine ifs (fun hc5 => ?_) (fun hc6 => ?_)
    · skip
      unfold wX11_readLine_30
      refine sf_X11_needs hI (by lia) (fun M8 t9 hI10 hF11 hq12 => ?_)
      have hF13 : Fr [90, 91, 92, 93, 94, 95, 96] [(81, 13), (81, 14), (81, 15), (81, 22), (81, 23), (81, 24), (81, 25), (81, 26), (81, 27), (81, 28), (81, 29), (81, 32), (81, 33), (81, 34), (81, 35), (81, 36), (81, 37)] M M8 := fr_call fr_rfl hF11 (by decide) (by decide)
      refine ifs (fun hc14 => ?_) (fun hc15 => ?_)
      · skip
        refine And.intro (vpI (c := 127) (by decide) (by lia) (by lia)) ?_
        have hx16 : M8 90 16 = M 90 16 := hF11 90 16 (by decide) (by decide)
        have hx17 : M8 90 ((16 : Int32)).toNatClampNeg = M 90 ((16 : Int32)).toNatClampNeg := hF11 90 _ (by decide) (by decide)
        have hr18 := r90_16 hI
        have hr19 := r90_16 hI10
        refine ifs (fun hc20 => ?_) (fun hc21 => ?_)
        · skip
          unfold wX11_readLine_58
          refine sf_X11_needs hI10 (by lia) (fun M23 t24 hI25 hF26 hq27 => ?_)
          have hF28 : Fr [90, 91, 92, 93, 94, 95, 96] [(81, 13), (81, 14), (81, 15), (81, 22), (81, 23), (81, 24), (81, 25), (81, 26), (81, 27), (81, 28), (81, 29), (81, 32), (81, 33), (81, 34), (81, 35), (81, 36), (81, 37)] M M23 := fr_call hF13 hF26 (by decide) (by decide)
          have hr29 := iv_81_36 hI25
          refine ifs (fun hc30 => ?_) (fun hc31 => ?_)
          · skip
            refine ifs (fun hc32 => ?_) (fun hc33 => ?_)
            · skip
              unfold wX11_readLine_108
              refine sf_X11_next hI25  (fun M35 t36 hI37 hF38 hq39 => ?_)
              have hF40 : Fr [90, 91, 92, 93, 94, 95, 96] [(81, 13), (81, 14), (81, 15), (81, 22), (81, 23), (81, 24), (81, 25), (81, 26), (81, 27), (81, 28), (81, 29), (81, 32), (81, 33), (81, 34), (81, 35), (81, 36), (81, 37)] M M35 := fr_call hF28 hF38 (by decide) (by decide)
              have hr41 := iv_81_36 hI37
              refine ifs (fun hc42 => ?_) (fun hc43 => ?_)
              · skip
                have hx44 : M35 90 16 = M23 90 16 := hF38 90 16 (by decide) (by decide)
                have hx45 : M23 90 16 = M8 90 16 := hF26 90 16 (by decide) (by decide)
                have hx46 : M8 90 16 = M 90 16 := hF11 90 16 (by decide) (by decide)
                have hx47 : M35 90 ((16 : Int32)).toNatClampNeg = M23 90 ((16 : Int32)).toNatClampNeg := hF38 90 _ (by decide) (by decide)
                have hr48 := r90_16 hI25
                have hx49 : M23 90 ((16 : Int32)).toNatClampNeg = M8 90 ((16 : Int32)).toNatClampNeg := hF26 90 _ (by decide) (by decide)
                have hr50 := r90_16 hI10
                have hx51 : M8 90 ((16 : Int32)).toNatClampNeg = M 90 ((16 : Int32)).toNatClampNeg := hF11 90 _ (by decide) (by decide)
                have hr52 := r90_16 hI
                have hr53 := r90_16 hI37
                refine sf_X11_readLineOf hI37 (by lia) (fun M55 t56 hI57 hF58 hq59 => ?_)
                have hF60 : Fr [90, 91, 92, 93, 94, 95, 96] [(81, 13), (81, 14), (81, 15), (81, 22), (81, 23), (81, 24), (81, 25), (81, 26), (81, 27), (81, 28), (81, 29), (81, 32), (81, 33), (81, 34), (81, 35), (81, 36), (81, 37)] M M55 := fr_call hF40 hF58 (by decide) (by decide)
                have hr61 := iv_81_36 hI57
                refine ifs (fun hc62 => ?_) (fun hc63 => ?_)
                · skip
                  have hx64 : M23 81 34 = M8 81 34 := hF26 81 34 (by decide) (by decide)
                  have hx65 : M8 81 34 = M 81 34 := hF11 81 34 (by decide) (by decide)
                  refine ifs (fun hc66 => ?_) (fun hc67 => ?_)
                  · skip
                    unfold wX11_readLine_146
                    refine sf_X11_needs hI57 (by lia) (fun M69 t70 hI71 hF72 hq73 => ?_)
                    have hF74 : Fr [90, 91, 92, 93, 94, 95, 96] [(81, 13), (81, 14), (81, 15), (81, 22), (81, 23), (81, 24), (81, 25), (81, 26), (81, 27), (81, 28), (81, 29), (81, 32), (81, 33), (81, 34), (81, 35), (81, 36), (81, 37)] M M69 := fr_call hF60 hF72 (by decide) (by decide)
                    unfold wX11_readLine_150
                    refine sf_X11_next hI71  (fun M76 t77 hI78 hF79 hq80 => ?_)
                    have hF81 : Fr [90, 91, 92, 93, 94, 95, 96] [(81, 13), (81, 14), (81, 15), (81, 22), (81, 23), (81, 24), (81, 25), (81, 26), (81, 27), (81, 28), (81, 29), (81, 32), (81, 33), (81, 34), (81, 35), (81, 36), (81, 37)] M M76 := fr_call hF74 hF79 (by decide) (by decide)
                    have hx82 : M69 81 32 = M55 81 32 := hF72 81 32 (by decide) (by decide)
                    have hx83 : M23 81 32 = M8 81 32 := hF26 81 32 (by decide) (by decide)
                    have hx84 : M8 81 32 = M 81 32 := hF11 81 32 (by decide) (by decide)
                    have hr85 := iv_81_32 hI78
                    have hx86 : M69 81 34 = M55 81 34 := hF72 81 34 (by decide) (by decide)
                    have hr87 := iv_81_36 hI78
                    exact hp _ _ hI78 hF81 (by lia)
                  · skip
                    unfold wX11_readLine_146
                    refine sf_X11_needs hI57 (by lia) (fun M89 t90 hI91 hF92 hq93 => ?_)
                    have hF94 : Fr [90, 91, 92, 93, 94, 95, 96] [(81, 13), (81, 14), (81, 15), (81, 22), (81, 23), (81, 24), (81, 25), (81, 26), (81, 27), (81, 28), (81, 29), (81, 32), (81, 33), (81, 34), (81, 35), (81, 36), (81, 37)] M M89 := fr_call hF60 hF92 (by decide) (by decide)
                    unfold wX11_readLine_150
                    refine sf_X11_next hI91  (fun M96 t97 hI98 hF99 hq100 => ?_)
                    have hF101 : Fr [90, 91, 92, 93, 94, 95, 96] [(81, 13), (81, 14), (81, 15), (81, 22), (81, 23), (81, 24), (81, 25), (81, 26), (81, 27), (81, 28), (81, 29), (81, 32), (81, 33), (81, 34), (81, 35), (81, 36), (81, 37)] M M96 := fr_call hF94 hF99 (by decide) (by decide)
                    have hx102 : M89 81 32 = M55 81 32 := hF92 81 32 (by decide) (by decide)
                    have hx103 : M23 81 32 = M8 81 32 := hF26 81 32 (by decide) (by decide)
                    have hx104 : M8 81 32 = M 81 32 := hF11 81 32 (by decide) (by decide)
                    have hr105 := iv_81_32 hI98
                    have hx106 : M89 81 34 = M55 81 34 := hF92 81 34 (by decide) (by decide)
                    have hr107 := iv_81_36 hI98
                    exact hp _ _ hI98 hF101 (by lia)
                · skip
                  unfold wX11_readLine_150
                  refine sf_X11_next hI57  (fun M109 t110 hI111 hF112 hq113 => ?_)
                  have hF114 : Fr [90, 91, 92, 93, 94, 95, 96] [(81, 13), (81, 14), (81, 15), (81, 22), (81, 23), (81, 24), (81, 25), (81, 26), (81, 27), (81, 28), (81, 29), (81, 32), (81, 33), (81, 34), (81, 35), (81, 36), (81, 37)] M M109 := fr_call hF60 hF112 (by decide) (by decide)
                  have hx115 : M23 81 32 = M8 81 32 := hF26 81 32 (by decide) (by decide)
                  have hx116 : M8 81 32 = M 81 32 := hF11 81 32 (by decide) (by decide)
                  have hr117 := iv_81_32 hI111
                  have hx118 : M23 81 34 = M8 81 34 := hF26 81 34 (by decide) (by decide)
                  have hx119 : M8 81 34 = M 81 34 := hF11 81 34 (by decide) (by decide)
                  have hr120 := iv_81_36 hI111
                  exact hp _ _ hI111 hF114 (by lia)
              · skip
                have hx121 : M23 81 32 = M8 81 32 := hF26 81 32 (by decide) (by decide)
                have hx122 : M8 81 32 = M 81 32 := hF11 81 32 (by decide) (by decide)
                have hr123 := iv_81_32 hI37
                have hx124 : M23 81 34 = M8 81 34 := hF26 81 34 (by decide) (by decide)
                have hx125 : M8 81 34 = M 81 34 := hF11 81 34 (by decide) (by decide)
                exact hp _ _ hI37 hF40 (by lia)
            · skip
              have hm126 : (0 : Int32) ≤ (((M23 81 23) >>> (r3 &&& (31 : Int32))) &&& (1 : Int32)) ∧ (((M23 81 23) >>> (r3 &&& (31 : Int32))) &&& (1 : Int32)) ≤ (1 : Int32) := andc ((M23 81 23) >>> (r3 &&& (31 : Int32))) 1 (by decide)
              have hx127 : M23 81 23 = M8 81 23 := hF26 81 23 (by decide) (by decide)
              have hx128 : M8 81 23 = M 81 23 := hF11 81 23 (by decide) (by decide)
              have hm129 : (0 : Int32) ≤ (r3 &&& (31 : Int32)) ∧ (r3 &&& (31 : Int32)) ≤ (31 : Int32) := andc r3 31 (by decide)
              refine ifs (fun hc130 => ?_) (fun hc131 => ?_)
              · skip
                unfold wX11_readLine_92
                refine sf_X11_needs hI25 (by lia) (fun M133 t134 hI135 hF136 hq137 => ?_)
                have hF138 : Fr [90, 91, 92, 93, 94, 95, 96] [(81, 13), (81, 14), (81, 15), (81, 22), (81, 23), (81, 24), (81, 25), (81, 26), (81, 27), (81, 28), (81, 29), (81, 32), (81, 33), (81, 34), (81, 35), (81, 36), (81, 37)] M M133 := fr_call hF28 hF136 (by decide) (by decide)
                have hx141 : M133 81 23 = M23 81 23 := hF136 81 23 (by decide) (by decide)
                have hx142 : M23 81 23 = M8 81 23 := hF26 81 23 (by decide) (by decide)
                have hx143 : M8 81 23 = M 81 23 := hF11 81 23 (by decide) (by decide)
                intro W139 hW140
                have hI144 : Inv W139 := by rw [hW140]; exact inv_set hI135 (i_any _)
                have hF145 : Fr [90, 91, 92, 93, 94, 95, 96] [(81, 13), (81, 14), (81, 15), (81, 22), (81, 23), (81, 24), (81, 25), (81, 26), (81, 27), (81, 28), (81, 29), (81, 32), (81, 33), (81, 34), (81, 35), (81, 36), (81, 37)] M W139 := by rw [hW140]; exact fr_fld hF138 (by decide)
                have hv146 : W139 81 23 = ((M133 81 23) ||| ((1 : Int32) <<< (r3 &&& (31 : Int32)))) := by rw [hW140]; exact mset_at _ _ _ _
                unfold wX11_readLine_108
                refine sf_X11_next hI144  (fun M148 t149 hI150 hF151 hq152 => ?_)
                have hF153 : Fr [90, 91, 92, 93, 94, 95, 96] [(81, 13), (81, 14), (81, 15), (81, 22), (81, 23), (81, 24), (81, 25), (81, 26), (81, 27), (81, 28), (81, 29), (81, 32), (81, 33), (81, 34), (81, 35), (81, 36), (81, 37)] M M148 := fr_call hF145 hF151 (by decide) (by decide)
                have hx154 : W139 81 36 = M133 81 36 := by rw [hW140, mset_nk (by decide)]
                have hr155 := iv_81_36 hI150
                refine ifs (fun hc156 => ?_) (fun hc157 => ?_)
                · skip
                  have hx158 : M148 90 16 = W139 90 16 := hF151 90 16 (by decide) (by decide)
                  have hx159 : W139 90 16 = M133 90 16 := by rw [hW140, mset_ne (by decide)]
                  have hx160 : M133 90 16 = M23 90 16 := hF136 90 16 (by decide) (by decide)
                  have hx161 : M23 90 16 = M8 90 16 := hF26 90 16 (by decide) (by decide)
                  have hx162 : M8 90 16 = M 90 16 := hF11 90 16 (by decide) (by decide)
                  have hx163 : M148 90 ((16 : Int32)).toNatClampNeg = W139 90 ((16 : Int32)).toNatClampNeg := hF151 90 _ (by decide) (by decide)
                  have hr164 := r90_16 hI144
                  have hx165 : W139 90 ((16 : Int32)).toNatClampNeg = M133 90 ((16 : Int32)).toNatClampNeg := by rw [hW140, mset_ne (by decide)]
                  have hr166 := r90_16 hI135
                  have hx167 : M133 90 ((16 : Int32)).toNatClampNeg = M23 90 ((16 : Int32)).toNatClampNeg := hF136 90 _ (by decide) (by decide)
                  have hr168 := r90_16 hI25
                  have hx169 : M23 90 ((16 : Int32)).toNatClampNeg = M8 90 ((16 : Int32)).toNatClampNeg := hF26 90 _ (by decide) (by decide)
                  have hr170 := r90_16 hI10
                  have hx171 : M8 90 ((16 : Int32)).toNatClampNeg = M 90 ((16 : Int32)).toNatClampNeg := hF11 90 _ (by decide) (by decide)
                  have hr172 := r90_16 hI
                  have hr173 := r90_16 hI150
                  refine sf_X11_readLineOf hI150 (by lia) (fun M175 t176 hI177 hF178 hq179 => ?_)
                  have hF180 : Fr [90, 91, 92, 93, 94, 95, 96] [(81, 13), (81, 14), (81, 15), (81, 22), (81, 23), (81, 24), (81, 25), (81, 26), (81, 27), (81, 28), (81, 29), (81, 32), (81, 33), (81, 34), (81, 35), (81, 36), (81, 37)] M M175 := fr_call hF153 hF178 (by decide) (by decide)
                  have hr181 := iv_81_36 hI177
                  refine ifs (fun hc182 => ?_) (fun hc183 => ?_)
                  · skip
                    have hx184 : W139 81 34 = M133 81 34 := by rw [hW140, mset_nk (by decide)]
                    have hx185 : M133 81 34 = M23 81 34 := hF136 81 34 (by decide) (by decide)
                    have hx186 : M23 81 34 = M8 81 34 := hF26 81 34 (by decide) (by decide)
                    have hx187 : M8 81 34 = M 81 34 := hF11 81 34 (by decide) (by decide)
                    refine ifs (fun hc188 => ?_) (fun hc189 => ?_)
                    · skip
                      unfold wX11_readLine_146
                      refine sf_X11_needs hI177 (by lia) (fun M191 t192 hI193 hF194 hq195 => ?_)
                      have hF196 : Fr [90, 91, 92, 93, 94, 95, 96] [(81, 13), (81, 14), (81, 15), (81, 22), (81, 23), (81, 24), (81, 25), (81, 26), (81, 27), (81, 28), (81, 29), (81, 32), (81, 33), (81, 34), (81, 35), (81, 36), (81, 37)] M M191 := fr_call hF180 hF194 (by decide) (by decide)
                      unfold wX11_readLine_150
                      refine sf_X11_next hI193  (fun M198 t199 hI200 hF201 hq202 => ?_)
                      have hF203 : Fr [90, 91, 92, 93, 94, 95, 96] [(81, 13), (81, 14), (81, 15), (81, 22), (81, 23), (81, 24), (81, 25), (81, 26), (81, 27), (81, 28), (81, 29), (81, 32), (81, 33), (81, 34), (81, 35), (81, 36), (81, 37)] M M198 := fr_call hF196 hF201 (by decide) (by decide)
                      have hx204 : M191 81 32 = M175 81 32 := hF194 81 32 (by decide) (by decide)
                      have hx205 : W139 81 32 = M133 81 32 := by rw [hW140, mset_nk (by decide)]
                      have hx206 : M133 81 32 = M23 81 32 := hF136 81 32 (by decide) (by decide)
                      have hx207 : M23 81 32 = M8 81 32 := hF26 81 32 (by decide) (by decide)
                      have hx208 : M8 81 32 = M 81 32 := hF11 81 32 (by decide) (by decide)
                      have hr209 := iv_81_32 hI200
                      have hx210 : M191 81 34 = M175 81 34 := hF194 81 34 (by decide) (by decide)
                      have hr211 := iv_81_36 hI200
                      exact hp _ _ hI200 hF203 (by lia)
                    · skip
                      unfold wX11_readLine_146
                      refine sf_X11_needs hI177 (by lia) (fun M213 t214 hI215 hF216 hq217 => ?_)
                      have hF218 : Fr [90, 91, 92, 93, 94, 95, 96] [(81, 13), (81, 14), (81, 15), (81, 22), (81, 23), (81, 24), (81, 25), (81, 26), (81, 27), (81, 28), (81, 29), (81, 32), (81, 33), (81, 34), (81, 35), (81, 36), (81, 37)] M M213 := fr_call hF180 hF216 (by decide) (by decide)
                      unfold wX11_readLine_150
                      refine sf_X11_next hI215  (fun M220 t221 hI222 hF223 hq224 => ?_)
                      have hF225 : Fr [90, 91, 92, 93, 94, 95, 96] [(81, 13), (81, 14), (81, 15), (81, 22), (81, 23), (81, 24), (81, 25), (81, 26), (81, 27), (81, 28), (81, 29), (81, 32), (81, 33), (81, 34), (81, 35), (81, 36), (81, 37)] M M220 := fr_call hF218 hF223 (by decide) (by decide)
                      have hx226 : M213 81 32 = M175 81 32 := hF216 81 32 (by decide) (by decide)
                      have hx227 : W139 81 32 = M133 81 32 := by rw [hW140, mset_nk (by decide)]
                      have hx228 : M133 81 32 = M23 81 32 := hF136 81 32 (by decide) (by decide)
                      have hx229 : M23 81 32 = M8 81 32 := hF26 81 32 (by decide) (by decide)
                      have hx230 : M8 81 32 = M 81 32 := hF11 81 32 (by decide) (by decide)
                      have hr231 := iv_81_32 hI222
                      have hx232 : M213 81 34 = M175 81 34 := hF216 81 34 (by decide) (by decide)
                      have hr233 := iv_81_36 hI222
                      exact hp _ _ hI222 hF225 (by lia)
                  · skip
                    unfold wX11_readLine_150
                    refine sf_X11_next hI177  (fun M235 t236 hI237 hF238 hq239 => ?_)
                    have hF240 : Fr [90, 91, 92, 93, 94, 95, 96] [(81, 13), (81, 14), (81, 15), (81, 22), (81, 23), (81, 24), (81, 25), (81, 26), (81, 27), (81, 28), (81, 29), (81, 32), (81, 33), (81, 34), (81, 35), (81, 36), (81, 37)] M M235 := fr_call hF180 hF238 (by decide) (by decide)
                    have hx241 : W139 81 32 = M133 81 32 := by rw [hW140, mset_nk (by decide)]
                    have hx242 : M133 81 32 = M23 81 32 := hF136 81 32 (by decide) (by decide)
                    have hx243 : M23 81 32 = M8 81 32 := hF26 81 32 (by decide) (by decide)
                    have hx244 : M8 81 32 = M 81 32 := hF11 81 32 (by decide) (by decide)
                    have hr245 := iv_81_32 hI237
                    have hx246 : W139 81 34 = M133 81 34 := by rw [hW140, mset_nk (by decide)]
                    have hx247 : M133 81 34 = M23 81 34 := hF136 81 34 (by decide) (by decide)
                    have hx248 : M23 81 34 = M8 81 34 := hF26 81 34 (by decide) (by decide)
                    have hx249 : M8 81 34 = M 81 34 := hF11 81 34 (by decide) (by decide)
                    have hr250 := iv_81_36 hI237
                    exact hp _ _ hI237 hF240 (by lia)
                · skip
                  have hx251 : W139 81 32 = M133 81 32 := by rw [hW140, mset_nk (by decide)]
                  have hx252 : M133 81 32 = M23 81 32 := hF136 81 32 (by decide) (by decide)
                  have hx253 : M23 81 32 = M8 81 32 := hF26 81 32 (by decide) (by decide)
                  have hx254 : M8 81 32 = M 81 32 := hF11 81 32 (by decide) (by decide)
                  have hr255 := iv_81_32 hI150
                  have hx256 : W139 81 34 = M133 81 34 := by rw [hW140, mset_nk (by decide)]
                  have hx257 : M133 81 34 = M23 81 34 := hF136 81 34 (by decide) (by decide)
                  have hx258 : M23 81 34 = M8 81 34 := hF26 81 34 (by decide) (by decide)
                  have hx259 : M8 81 34 = M 81 34 := hF11 81 34 (by decide) (by decide)
                  exact hp _ _ hI150 hF153 (by lia)
              · skip
                unfold wX11_readLine_92
                refine sf_X11_needs hI25 (by lia) (fun M261 t262 hI263 hF264 hq265 => ?_)
                have hF266 : Fr [90, 91, 92, 93, 94, 95, 96] [(81, 13), (81, 14), (81, 15), (81, 22), (81, 23), (81, 24), (81, 25), (81, 26), (81, 27), (81, 28), (81, 29), (81, 32), (81, 33), (81, 34), (81, 35), (81, 36), (81, 37)] M M261 := fr_call hF28 hF264 (by decide) (by decide)
                have hx269 : M261 81 23 = M23 81 23 := hF264 81 23 (by decide) (by decide)
                have hx270 : M23 81 23 = M8 81 23 := hF26 81 23 (by decide) (by decide)
                have hx271 : M8 81 23 = M 81 23 := hF11 81 23 (by decide) (by decide)
                intro W267 hW268
                have hI272 : Inv W267 := by rw [hW268]; exact inv_set hI263 (i_any _)
                have hF273 : Fr [90, 91, 92, 93, 94, 95, 96] [(81, 13), (81, 14), (81, 15), (81, 22), (81, 23), (81, 24), (81, 25), (81, 26), (81, 27), (81, 28), (81, 29), (81, 32), (81, 33), (81, 34), (81, 35), (81, 36), (81, 37)] M W267 := by rw [hW268]; exact fr_fld hF266 (by decide)
                have hv274 : W267 81 23 = ((M261 81 23) ||| ((1 : Int32) <<< (r3 &&& (31 : Int32)))) := by rw [hW268]; exact mset_at _ _ _ _
                unfold wX11_readLine_108
                refine sf_X11_next hI272  (fun M276 t277 hI278 hF279 hq280 => ?_)
                have hF281 : Fr [90, 91, 92, 93, 94, 95, 96] [(81, 13), (81, 14), (81, 15), (81, 22), (81, 23), (81, 24), (81, 25), (81, 26), (81, 27), (81, 28), (81, 29), (81, 32), (81, 33), (81, 34), (81, 35), (81, 36), (81, 37)] M M276 := fr_call hF273 hF279 (by decide) (by decide)
                have hx282 : W267 81 36 = M261 81 36 := by rw [hW268, mset_nk (by decide)]
                have hr283 := iv_81_36 hI278
                refine ifs (fun hc284 => ?_) (fun hc285 => ?_)
                · skip
                  have hx286 : M276 90 16 = W267 90 16 := hF279 90 16 (by decide) (by decide)
                  have hx287 : W267 90 16 = M261 90 16 := by rw [hW268, mset_ne (by decide)]
                  have hx288 : M261 90 16 = M23 90 16 := hF264 90 16 (by decide) (by decide)
                  have hx289 : M23 90 16 = M8 90 16 := hF26 90 16 (by decide) (by decide)
                  have hx290 : M8 90 16 = M 90 16 := hF11 90 16 (by decide) (by decide)
                  have hx291 : M276 90 ((16 : Int32)).toNatClampNeg = W267 90 ((16 : Int32)).toNatClampNeg := hF279 90 _ (by decide) (by decide)
                  have hr292 := r90_16 hI272
                  have hx293 : W267 90 ((16 : Int32)).toNatClampNeg = M261 90 ((16 : Int32)).toNatClampNeg := by rw [hW268, mset_ne (by decide)]
                  have hr294 := r90_16 hI263
                  have hx295 : M261 90 ((16 : Int32)).toNatClampNeg = M23 90 ((16 : Int32)).toNatClampNeg := hF264 90 _ (by decide) (by decide)
                  have hr296 := r90_16 hI25
                  have hx297 : M23 90 ((16 : Int32)).toNatClampNeg = M8 90 ((16 : Int32)).toNatClampNeg := hF26 90 _ (by decide) (by decide)
                  have hr298 := r90_16 hI10
                  have hx299 : M8 90 ((16 : Int32)).toNatClampNeg = M 90 ((16 : Int32)).toNatClampNeg := hF11 90 _ (by decide) (by decide)
                  have hr300 := r90_16 hI
                  have hr301 := r90_16 hI278
                  refine sf_X11_readLineOf hI278 (by lia) (fun M303 t304 hI305 hF306 hq307 => ?_)
                  have hF308 : Fr [90, 91, 92, 93, 94, 95, 96] [(81, 13), (81, 14), (81, 15), (81, 22), (81, 23), (81, 24), (81, 25), (81, 26), (81, 27), (81, 28), (81, 29), (81, 32), (81, 33), (81, 34), (81, 35), (81, 36), (81, 37)] M M303 := fr_call hF281 hF306 (by decide) (by decide)
                  have hr309 := iv_81_36 hI305
                  refine ifs (fun hc310 => ?_) (fun hc311 => ?_)
                  · skip
                    have hx312 : W267 81 34 = M261 81 34 := by rw [hW268, mset_nk (by decide)]
                    have hx313 : M261 81 34 = M23 81 34 := hF264 81 34 (by decide) (by decide)
                    have hx314 : M23 81 34 = M8 81 34 := hF26 81 34 (by decide) (by decide)
                    have hx315 : M8 81 34 = M 81 34 := hF11 81 34 (by decide) (by decide)
                    refine ifs (fun hc316 => ?_) (fun hc317 => ?_)
                    · skip
                      unfold wX11_readLine_146
                      refine sf_X11_needs hI305 (by lia) (fun M319 t320 hI321 hF322 hq323 => ?_)
                      have hF324 : Fr [90, 91, 92, 93, 94, 95, 96] [(81, 13), (81, 14), (81, 15), (81, 22), (81, 23), (81, 24), (81, 25), (81, 26), (81, 27), (81, 28), (81, 29), (81, 32), (81, 33), (81, 34), (81, 35), (81, 36), (81, 37)] M M319 := fr_call hF308 hF322 (by decide) (by decide)
                      unfold wX11_readLine_150
                      refine sf_X11_next hI321  (fun M326 t327 hI328 hF329 hq330 => ?_)
                      have hF331 : Fr [90, 91, 92, 93, 94, 95, 96] [(81, 13), (81, 14), (81, 15), (81, 22), (81, 23), (81, 24), (81, 25), (81, 26), (81, 27), (81, 28), (81, 29), (81, 32), (81, 33), (81, 34), (81, 35), (81, 36), (81, 37)] M M326 := fr_call hF324 hF329 (by decide) (by decide)
                      have hx332 : M319 81 32 = M303 81 32 := hF322 81 32 (by decide) (by decide)
                      have hx333 : W267 81 32 = M261 81 32 := by rw [hW268, mset_nk (by decide)]
                      have hx334 : M261 81 32 = M23 81 32 := hF264 81 32 (by decide) (by decide)
                      have hx335 : M23 81 32 = M8 81 32 := hF26 81 32 (by decide) (by decide)
                      have hx336 : M8 81 32 = M 81 32 := hF11 81 32 (by decide) (by decide)
                      have hr337 := iv_81_32 hI328
                      have hx338 : M319 81 34 = M303 81 34 := hF322 81 34 (by decide) (by decide)
                      have hr339 := iv_81_36 hI328
                      exact hp _ _ hI328 hF331 (by lia)
                    · skip
                      unfold wX11_readLine_146
                      refine sf_X11_needs hI305 (by lia) (fun M341 t342 hI343 hF344 hq345 => ?_)
                      have hF346 : Fr [90, 91, 92, 93, 94, 95, 96] [(81, 13), (81, 14), (81, 15), (81, 22), (81, 23), (81, 24), (81, 25), (81, 26), (81, 27), (81, 28), (81, 29), (81, 32), (81, 33), (81, 34), (81, 35), (81, 36), (81, 37)] M M341 := fr_call hF308 hF344 (by decide) (by decide)
                      unfold wX11_readLine_150
                      refine sf_X11_next hI343  (fun M348 t349 hI350 hF351 hq352 => ?_)
                      have hF353 : Fr [90, 91, 92, 93, 94, 95, 96] [(81, 13), (81, 14), (81, 15), (81, 22), (81, 23), (81, 24), (81, 25), (81, 26), (81, 27), (81, 28), (81, 29), (81, 32), (81, 33), (81, 34), (81, 35), (81, 36), (81, 37)] M M348 := fr_call hF346 hF351 (by decide) (by decide)
                      have hx354 : M341 81 32 = M303 81 32 := hF344 81 32 (by decide) (by decide)
                      have hx355 : W267 81 32 = M261 81 32 := by rw [hW268, mset_nk (by decide)]
                      have hx356 : M261 81 32 = M23 81 32 := hF264 81 32 (by decide) (by decide)
                      have hx357 : M23 81 32 = M8 81 32 := hF26 81 32 (by decide) (by decide)
                      have hx358 : M8 81 32 = M 81 32 := hF11 81 32 (by decide) (by decide)
                      have hr359 := iv_81_32 hI350
                      have hx360 : M341 81 34 = M303 81 34 := hF344 81 34 (by decide) (by decide)
                      have hr361 := iv_81_36 hI350
                      exact hp _ _ hI350 hF353 (by lia)
                  · skip
                    unfold wX11_readLine_150
                    refine sf_X11_next hI305  (fun M363 t364 hI365 hF366 hq367 => ?_)
                    have hF368 : Fr [90, 91, 92, 93, 94, 95, 96] [(81, 13), (81, 14), (81, 15), (81, 22), (81, 23), (81, 24), (81, 25), (81, 26), (81, 27), (81, 28), (81, 29), (81, 32), (81, 33), (81, 34), (81, 35), (81, 36), (81, 37)] M M363 := fr_call hF308 hF366 (by decide) (by decide)
                    have hx369 : W267 81 32 = M261 81 32 := by rw [hW268, mset_nk (by decide)]
                    have hx370 : M261 81 32 = M23 81 32 := hF264 81 32 (by decide) (by decide)
                    have hx371 : M23 81 32 = M8 81 32 := hF26 81 32 (by decide) (by decide)
                    have hx372 : M8 81 32 = M 81 32 := hF11 81 32 (by decide) (by decide)
                    have hr373 := iv_81_32 hI365
                    have hx374 : W267 81 34 = M261 81 34 := by rw [hW268, mset_nk (by decide)]
                    have hx375 : M261 81 34 = M23 81 34 := hF264 81 34 (by decide) (by decide)
                    have hx376 : M23 81 34 = M8 81 34 := hF26 81 34 (by decide) (by decide)
                    have hx377 : M8 81 34 = M 81 34 := hF11 81 34 (by decide) (by decide)
                    have hr378 := iv_81_36 hI365
                    exact hp _ _ hI365 hF368 (by lia)
                · skip
                  have hx379 : W267 81 32 = M261 81 32 := by rw [hW268, mset_nk (by decide)]
                  have hx380 : M261 81 32 = M23 81 32 := hF264 81 32 (by decide) (by decide)
                  have hx381 : M23 81 32 = M8 81 32 := hF26 81 32 (by decide) (by decide)
                  have hx382 : M8 81 32 = M 81 32 := hF11 81 32 (by decide) (by decide)
                  have hr383 := iv_81_32 hI278
                  have hx384 : W267 81 34 = M261 81 34 := by rw [hW268, mset_nk (by decide)]
                  have hx385 : M261 81 34 = M23 81 34 := hF264 81 34 (by decide) (by decide)
                  have hx386 : M23 81 34 = M8 81 34 := hF26 81 34 (by decide) (by decide)
                  have hx387 : M8 81 34 = M 81 34 := hF11 81 34 (by decide) (by decide)
                  exact hp _ _ hI278 hF281 (by lia)
          · skip
            unfold wX11_readLine_108
            refine sf_X11_next hI25  (fun M389 t390 hI391 hF392 hq393 => ?_)
            have hF394 : Fr [90, 91, 92, 93, 94, 95, 96] [(81, 13), (81, 14), (81, 15), (81, 22), (81, 23), (81, 24), (81, 25), (81, 26), (81, 27), (81, 28), (81, 29), (81, 32), (81, 33), (81, 34), (81, 35), (81, 36), (81, 37)] M M389 := fr_call hF28 hF392 (by decide) (by decide)
            have hr395 := iv_81_36 hI391
            refine ifs (fun hc396 => ?_) (fun hc397 => ?_)
            · skip
              have hx398 : M389 90 16 = M23 90 16 := hF392 90 16 (by decide) (by decide)
              have hx399 : M23 90 16 = M8 90 16 := hF26 90 16 (by decide) (by decide)
              have hx400 : M8 90 16 = M 90 16 := hF11 90 16 (by decide) (by decide)
              have hx401 : M389 90 ((16 : Int32)).toNatClampNeg = M23 90 ((16 : Int32)).toNatClampNeg := hF392 90 _ (by decide) (by decide)
              have hr402 := r90_16 hI25
              have hx403 : M23 90 ((16 : Int32)).toNatClampNeg = M8 90 ((16 : Int32)).toNatClampNeg := hF26 90 _ (by decide) (by decide)
              have hr404 := r90_16 hI10
              have hx405 : M8 90 ((16 : Int32)).toNatClampNeg = M 90 ((16 : Int32)).toNatClampNeg := hF11 90 _ (by decide) (by decide)
              have hr406 := r90_16 hI
              have hr407 := r90_16 hI391
              refine sf_X11_readLineOf hI391 (by lia) (fun M409 t410 hI411 hF412 hq413 => ?_)
              have hF414 : Fr [90, 91, 92, 93, 94, 95, 96] [(81, 13), (81, 14), (81, 15), (81, 22), (81, 23), (81, 24), (81, 25), (81, 26), (81, 27), (81, 28), (81, 29), (81, 32), (81, 33), (81, 34), (81, 35), (81, 36), (81, 37)] M M409 := fr_call hF394 hF412 (by decide) (by decide)
              have hr415 := iv_81_36 hI411
              refine ifs (fun hc416 => ?_) (fun hc417 => ?_)
              · skip
                have hx418 : M23 81 34 = M8 81 34 := hF26 81 34 (by decide) (by decide)
                have hx419 : M8 81 34 = M 81 34 := hF11 81 34 (by decide) (by decide)
                refine ifs (fun hc420 => ?_) (fun hc421 => ?_)
                · skip
                  unfold wX11_readLine_146
                  refine sf_X11_needs hI411 (by lia) (fun M423 t424 hI425 hF426 hq427 => ?_)
                  have hF428 : Fr [90, 91, 92, 93, 94, 95, 96] [(81, 13), (81, 14), (81, 15), (81, 22), (81, 23), (81, 24), (81, 25), (81, 26), (81, 27), (81, 28), (81, 29), (81, 32), (81, 33), (81, 34), (81, 35), (81, 36), (81, 37)] M M423 := fr_call hF414 hF426 (by decide) (by decide)
                  unfold wX11_readLine_150
                  refine sf_X11_next hI425  (fun M430 t431 hI432 hF433 hq434 => ?_)
                  have hF435 : Fr [90, 91, 92, 93, 94, 95, 96] [(81, 13), (81, 14), (81, 15), (81, 22), (81, 23), (81, 24), (81, 25), (81, 26), (81, 27), (81, 28), (81, 29), (81, 32), (81, 33), (81, 34), (81, 35), (81, 36), (81, 37)] M M430 := fr_call hF428 hF433 (by decide) (by decide)
                  have hx436 : M423 81 32 = M409 81 32 := hF426 81 32 (by decide) (by decide)
                  have hx437 : M23 81 32 = M8 81 32 := hF26 81 32 (by decide) (by decide)
                  have hx438 : M8 81 32 = M 81 32 := hF11 81 32 (by decide) (by decide)
                  have hr439 := iv_81_32 hI432
                  have hx440 : M423 81 34 = M409 81 34 := hF426 81 34 (by decide) (by decide)
                  have hr441 := iv_81_36 hI432
                  exact hp _ _ hI432 hF435 (by lia)
                · skip
                  unfold wX11_readLine_146
                  refine sf_X11_needs hI411 (by lia) (fun M443 t444 hI445 hF446 hq447 => ?_)
                  have hF448 : Fr [90, 91, 92, 93, 94, 95, 96] [(81, 13), (81, 14), (81, 15), (81, 22), (81, 23), (81, 24), (81, 25), (81, 26), (81, 27), (81, 28), (81, 29), (81, 32), (81, 33), (81, 34), (81, 35), (81, 36), (81, 37)] M M443 := fr_call hF414 hF446 (by decide) (by decide)
                  unfold wX11_readLine_150
                  refine sf_X11_next hI445  (fun M450 t451 hI452 hF453 hq454 => ?_)
                  have hF455 : Fr [90, 91, 92, 93, 94, 95, 96] [(81, 13), (81, 14), (81, 15), (81, 22), (81, 23), (81, 24), (81, 25), (81, 26), (81, 27), (81, 28), (81, 29), (81, 32), (81, 33), (81, 34), (81, 35), (81, 36), (81, 37)] M M450 := fr_call hF448 hF453 (by decide) (by decide)
                  have hx456 : M443 81 32 = M409 81 32 := hF446 81 32 (by decide) (by decide)
                  have hx457 : M23 81 32 = M8 81 32 := hF26 81 32 (by decide) (by decide)
                  have hx458 : M8 81 32 = M 81 32 := hF11 81 32 (by decide) (by decide)
                  have hr459 := iv_81_32 hI452
                  have hx460 : M443 81 34 = M409 81 34 := hF446 81 34 (by decide) (by decide)
                  have hr461 := iv_81_36 hI452
                  exact hp _ _ hI452 hF455 (by lia)
              · skip
                unfold wX11_readLine_150
                refine sf_X11_next hI411  (fun M463 t464 hI465 hF466 hq467 => ?_)
                have hF468 : Fr [90, 91, 92, 93, 94, 95, 96] [(81, 13), (81, 14), (81, 15), (81, 22), (81, 23), (81, 24), (81, 25), (81, 26), (81, 27), (81, 28), (81, 29), (81, 32), (81, 33), (81, 34), (81, 35), (81, 36), (81, 37)] M M463 := fr_call hF414 hF466 (by decide) (by decide)
                have hx469 : M23 81 32 = M8 81 32 := hF26 81 32 (by decide) (by decide)
                have hx470 : M8 81 32 = M 81 32 := hF11 81 32 (by decide) (by decide)
                have hr471 := iv_81_32 hI465
                have hx472 : M23 81 34 = M8 81 34 := hF26 81 34 (by decide) (by decide)
                have hx473 : M8 81 34 = M 81 34 := hF11 81 34 (by decide) (by decide)
                have hr474 := iv_81_36 hI465
                exact hp _ _ hI465 hF468 (by lia)
            · skip
              have hx475 : M23 81 32 = M8 81 32 := hF26 81 32 (by decide) (by decide)
              have hx476 : M8 81 32 = M 81 32 := hF11 81 32 (by decide) (by decide)
              have hr477 := iv_81_32 hI391
              have hx478 : M23 81 34 = M8 81 34 := hF26 81 34 (by decide) (by decide)
              have hx479 : M8 81 34 = M 81 34 := hF11 81 34 (by decide) (by decide)
              exact hp _ _ hI391 hF394 (by lia)
        · skip
          unfold wX11_readLine_53
          unfold wX11_readLine_58
          refine sf_X11_needs hI10 (by lia) (fun M481 t482 hI483 hF484 hq485 => ?_)
          have hF486 : Fr [90, 91, 92, 93, 94, 95, 96] [(81, 13), (81, 14), (81, 15), (81, 22), (81, 23), (81, 24), (81, 25), (81, 26), (81, 27), (81, 28), (81, 29), (81, 32), (81, 33), (81, 34), (81, 35), (81, 36), (81, 37)] M M481 := fr_call hF13 hF484 (by decide) (by decide)
          have hr487 := iv_81_36 hI483
          refine ifs (fun hc488 => ?_) (fun hc489 => ?_)
          · skip
            refine ifs (fun hc490 => ?_) (fun hc491 => ?_)
            · skip
              unfold wX11_readLine_108
              refine sf_X11_next hI483  (fun M493 t494 hI495 hF496 hq497 => ?_)
              have hF498 : Fr [90, 91, 92, 93, 94, 95, 96] [(81, 13), (81, 14), (81, 15), (81, 22), (81, 23), (81, 24), (81, 25), (81, 26), (81, 27), (81, 28), (81, 29), (81, 32), (81, 33), (81, 34), (81, 35), (81, 36), (81, 37)] M M493 := fr_call hF486 hF496 (by decide) (by decide)
              have hr499 := iv_81_36 hI495
              refine ifs (fun hc500 => ?_) (fun hc501 => ?_)
              · skip
                have hx502 : M493 90 16 = M481 90 16 := hF496 90 16 (by decide) (by decide)
                have hx503 : M481 90 16 = M8 90 16 := hF484 90 16 (by decide) (by decide)
                have hx504 : M8 90 16 = M 90 16 := hF11 90 16 (by decide) (by decide)
                have hx505 : M493 90 ((16 : Int32)).toNatClampNeg = M481 90 ((16 : Int32)).toNatClampNeg := hF496 90 _ (by decide) (by decide)
                have hr506 := r90_16 hI483
                have hx507 : M481 90 ((16 : Int32)).toNatClampNeg = M8 90 ((16 : Int32)).toNatClampNeg := hF484 90 _ (by decide) (by decide)
                have hr508 := r90_16 hI10
                have hx509 : M8 90 ((16 : Int32)).toNatClampNeg = M 90 ((16 : Int32)).toNatClampNeg := hF11 90 _ (by decide) (by decide)
                have hr510 := r90_16 hI
                have hr511 := r90_16 hI495
                refine sf_X11_readLineOf hI495 (by lia) (fun M513 t514 hI515 hF516 hq517 => ?_)
                have hF518 : Fr [90, 91, 92, 93, 94, 95, 96] [(81, 13), (81, 14), (81, 15), (81, 22), (81, 23), (81, 24), (81, 25), (81, 26), (81, 27), (81, 28), (81, 29), (81, 32), (81, 33), (81, 34), (81, 35), (81, 36), (81, 37)] M M513 := fr_call hF498 hF516 (by decide) (by decide)
                have hr519 := iv_81_36 hI515
                refine ifs (fun hc520 => ?_) (fun hc521 => ?_)
                · skip
                  have hx522 : M481 81 34 = M8 81 34 := hF484 81 34 (by decide) (by decide)
                  have hx523 : M8 81 34 = M 81 34 := hF11 81 34 (by decide) (by decide)
                  refine ifs (fun hc524 => ?_) (fun hc525 => ?_)
                  · skip
                    unfold wX11_readLine_146
                    refine sf_X11_needs hI515 (by lia) (fun M527 t528 hI529 hF530 hq531 => ?_)
                    have hF532 : Fr [90, 91, 92, 93, 94, 95, 96] [(81, 13), (81, 14), (81, 15), (81, 22), (81, 23), (81, 24), (81, 25), (81, 26), (81, 27), (81, 28), (81, 29), (81, 32), (81, 33), (81, 34), (81, 35), (81, 36), (81, 37)] M M527 := fr_call hF518 hF530 (by decide) (by decide)
                    unfold wX11_readLine_150
                    refine sf_X11_next hI529  (fun M534 t535 hI536 hF537 hq538 => ?_)
                    have hF539 : Fr [90, 91, 92, 93, 94, 95, 96] [(81, 13), (81, 14), (81, 15), (81, 22), (81, 23), (81, 24), (81, 25), (81, 26), (81, 27), (81, 28), (81, 29), (81, 32), (81, 33), (81, 34), (81, 35), (81, 36), (81, 37)] M M534 := fr_call hF532 hF537 (by decide) (by decide)
                    have hx540 : M527 81 32 = M513 81 32 := hF530 81 32 (by decide) (by decide)
                    have hx541 : M481 81 32 = M8 81 32 := hF484 81 32 (by decide) (by decide)
                    have hx542 : M8 81 32 = M 81 32 := hF11 81 32 (by decide) (by decide)
                    have hr543 := iv_81_32 hI536
                    have hx544 : M527 81 34 = M513 81 34 := hF530 81 34 (by decide) (by decide)
                    have hr545 := iv_81_36 hI536
                    exact hp _ _ hI536 hF539 (by lia)
                  · skip
                    unfold wX11_readLine_146
                    refine sf_X11_needs hI515 (by lia) (fun M547 t548 hI549 hF550 hq551 => ?_)
                    have hF552 : Fr [90, 91, 92, 93, 94, 95, 96] [(81, 13), (81, 14), (81, 15), (81, 22), (81, 23), (81, 24), (81, 25), (81, 26), (81, 27), (81, 28), (81, 29), (81, 32), (81, 33), (81, 34), (81, 35), (81, 36), (81, 37)] M M547 := fr_call hF518 hF550 (by decide) (by decide)
                    unfold wX11_readLine_150
                    refine sf_X11_next hI549  (fun M554 t555 hI556 hF557 hq558 => ?_)
                    have hF559 : Fr [90, 91, 92, 93, 94, 95, 96] [(81, 13), (81, 14), (81, 15), (81, 22), (81, 23), (81, 24), (81, 25), (81, 26), (81, 27), (81, 28), (81, 29), (81, 32), (81, 33), (81, 34), (81, 35), (81, 36), (81, 37)] M M554 := fr_call hF552 hF557 (by decide) (by decide)
                    have hx560 : M547 81 32 = M513 81 32 := hF550 81 32 (by decide) (by decide)
                    have hx561 : M481 81 32 = M8 81 32 := hF484 81 32 (by decide) (by decide)
                    have hx562 : M8 81 32 = M 81 32 := hF11 81 32 (by decide) (by decide)
                    have hr563 := iv_81_32 hI556
                    have hx564 : M547 81 34 = M513 81 34 := hF550 81 34 (by decide) (by decide)
                    have hr565 := iv_81_36 hI556
                    exact hp _ _ hI556 hF559 (by lia)
                · skip
                  unfold wX11_readLine_150
                  refine sf_X11_next hI515  (fun M567 t568 hI569 hF570 hq571 => ?_)
                  have hF572 : Fr [90, 91, 92, 93, 94, 95, 96] [(81, 13), (81, 14), (81, 15), (81, 22), (81, 23), (81, 24), (81, 25), (81, 26), (81, 27), (81, 28), (81, 29), (81, 32), (81, 33), (81, 34), (81, 35), (81, 36), (81, 37)] M M567 := fr_call hF518 hF570 (by decide) (by decide)
                  have hx573 : M481 81 32 = M8 81 32 := hF484 81 32 (by decide) (by decide)
                  have hx574 : M8 81 32 = M 81 32 := hF11 81 32 (by decide) (by decide)
                  have hr575 := iv_81_32 hI569
                  have hx576 : M481 81 34 = M8 81 34 := hF484 81 34 (by decide) (by decide)
                  have hx577 : M8 81 34 = M 81 34 := hF11 81 34 (by decide) (by decide)
                  have hr578 := iv_81_36 hI569
                  exact hp _ _ hI569 hF572 (by lia)
              · skip
                have hx579 : M481 81 32 = M8 81 32 := hF484 81 32 (by decide) (by decide)
                have hx580 : M8 81 32 = M 81 32 := hF11 81 32 (by decide) (by decide)
                have hr581 := iv_81_32 hI495
                have hx582 : M481 81 34 = M8 81 34 := hF484 81 34 (by decide) (by decide)
                have hx583 : M8 81 34 = M 81 34 := hF11 81 34 (by decide) (by decide)
                exact hp _ _ hI495 hF498 (by lia)
            · skip
              have hm584 : (0 : Int32) ≤ (((M481 81 23) >>> (r3 &&& (31 : Int32))) &&& (1 : Int32)) ∧ (((M481 81 23) >>> (r3 &&& (31 : Int32))) &&& (1 : Int32)) ≤ (1 : Int32) := andc ((M481 81 23) >>> (r3 &&& (31 : Int32))) 1 (by decide)
              have hx585 : M481 81 23 = M8 81 23 := hF484 81 23 (by decide) (by decide)
              have hx586 : M8 81 23 = M 81 23 := hF11 81 23 (by decide) (by decide)
              have hm587 : (0 : Int32) ≤ (r3 &&& (31 : Int32)) ∧ (r3 &&& (31 : Int32)) ≤ (31 : Int32) := andc r3 31 (by decide)
              refine ifs (fun hc588 => ?_) (fun hc589 => ?_)
              · skip
                unfold wX11_readLine_92
                refine sf_X11_needs hI483 (by lia) (fun M591 t592 hI593 hF594 hq595 => ?_)
                have hF596 : Fr [90, 91, 92, 93, 94, 95, 96] [(81, 13), (81, 14), (81, 15), (81, 22), (81, 23), (81, 24), (81, 25), (81, 26), (81, 27), (81, 28), (81, 29), (81, 32), (81, 33), (81, 34), (81, 35), (81, 36), (81, 37)] M M591 := fr_call hF486 hF594 (by decide) (by decide)
                have hx599 : M591 81 23 = M481 81 23 := hF594 81 23 (by decide) (by decide)
                have hx600 : M481 81 23 = M8 81 23 := hF484 81 23 (by decide) (by decide)
                have hx601 : M8 81 23 = M 81 23 := hF11 81 23 (by decide) (by decide)
                intro W597 hW598
                have hI602 : Inv W597 := by rw [hW598]; exact inv_set hI593 (i_any _)
                have hF603 : Fr [90, 91, 92, 93, 94, 95, 96] [(81, 13), (81, 14), (81, 15), (81, 22), (81, 23), (81, 24), (81, 25), (81, 26), (81, 27), (81, 28), (81, 29), (81, 32), (81, 33), (81, 34), (81, 35), (81, 36), (81, 37)] M W597 := by rw [hW598]; exact fr_fld hF596 (by decide)
                have hv604 : W597 81 23 = ((M591 81 23) ||| ((1 : Int32) <<< (r3 &&& (31 : Int32)))) := by rw [hW598]; exact mset_at _ _ _ _
                unfold wX11_readLine_108
                refine sf_X11_next hI602  (fun M606 t607 hI608 hF609 hq610 => ?_)
                have hF611 : Fr [90, 91, 92, 93, 94, 95, 96] [(81, 13), (81, 14), (81, 15), (81, 22), (81, 23), (81, 24), (81, 25), (81, 26), (81, 27), (81, 28), (81, 29), (81, 32), (81, 33), (81, 34), (81, 35), (81, 36), (81, 37)] M M606 := fr_call hF603 hF609 (by decide) (by decide)
                have hx612 : W597 81 36 = M591 81 36 := by rw [hW598, mset_nk (by decide)]
                have hr613 := iv_81_36 hI608
                refine ifs (fun hc614 => ?_) (fun hc615 => ?_)
                · skip
                  have hx616 : M606 90 16 = W597 90 16 := hF609 90 16 (by decide) (by decide)
                  have hx617 : W597 90 16 = M591 90 16 := by rw [hW598, mset_ne (by decide)]
                  have hx618 : M591 90 16 = M481 90 16 := hF594 90 16 (by decide) (by decide)
                  have hx619 : M481 90 16 = M8 90 16 := hF484 90 16 (by decide) (by decide)
                  have hx620 : M8 90 16 = M 90 16 := hF11 90 16 (by decide) (by decide)
                  have hx621 : M606 90 ((16 : Int32)).toNatClampNeg = W597 90 ((16 : Int32)).toNatClampNeg := hF609 90 _ (by decide) (by decide)
                  have hr622 := r90_16 hI602
                  have hx623 : W597 90 ((16 : Int32)).toNatClampNeg = M591 90 ((16 : Int32)).toNatClampNeg := by rw [hW598, mset_ne (by decide)]
                  have hr624 := r90_16 hI593
                  have hx625 : M591 90 ((16 : Int32)).toNatClampNeg = M481 90 ((16 : Int32)).toNatClampNeg := hF594 90 _ (by decide) (by decide)
                  have hr626 := r90_16 hI483
                  have hx627 : M481 90 ((16 : Int32)).toNatClampNeg = M8 90 ((16 : Int32)).toNatClampNeg := hF484 90 _ (by decide) (by decide)
                  have hr628 := r90_16 hI10
                  have hx629 : M8 90 ((16 : Int32)).toNatClampNeg = M 90 ((16 : Int32)).toNatClampNeg := hF11 90 _ (by decide) (by decide)
                  have hr630 := r90_16 hI
                  have hr631 := r90_16 hI608
                  refine sf_X11_readLineOf hI608 (by lia) (fun M633 t634 hI635 hF636 hq637 => ?_)
                  have hF638 : Fr [90, 91, 92, 93, 94, 95, 96] [(81, 13), (81, 14), (81, 15), (81, 22), (81, 23), (81, 24), (81, 25), (81, 26), (81, 27), (81, 28), (81, 29), (81, 32), (81, 33), (81, 34), (81, 35), (81, 36), (81, 37)] M M633 := fr_call hF611 hF636 (by decide) (by decide)
                  have hr639 := iv_81_36 hI635
                  refine ifs (fun hc640 => ?_) (fun hc641 => ?_)
                  · skip
                    have hx642 : W597 81 34 = M591 81 34 := by rw [hW598, mset_nk (by decide)]
                    have hx643 : M591 81 34 = M481 81 34 := hF594 81 34 (by decide) (by decide)
                    have hx644 : M481 81 34 = M8 81 34 := hF484 81 34 (by decide) (by decide)
                    have hx645 : M8 81 34 = M 81 34 := hF11 81 34 (by decide) (by decide)
                    refine ifs (fun hc646 => ?_) (fun hc647 => ?_)
                    · skip
                      unfold wX11_readLine_146
                      refine sf_X11_needs hI635 (by lia) (fun M649 t650 hI651 hF652 hq653 => ?_)
                      have hF654 : Fr [90, 91, 92, 93, 94, 95, 96] [(81, 13), (81, 14), (81, 15), (81, 22), (81, 23), (81, 24), (81, 25), (81, 26), (81, 27), (81, 28), (81, 29), (81, 32), (81, 33), (81, 34), (81, 35), (81, 36), (81, 37)] M M649 := fr_call hF638 hF652 (by decide) (by decide)
                      unfold wX11_readLine_150
                      refine sf_X11_next hI651  (fun M656 t657 hI658 hF659 hq660 => ?_)
                      have hF661 : Fr [90, 91, 92, 93, 94, 95, 96] [(81, 13), (81, 14), (81, 15), (81, 22), (81, 23), (81, 24), (81, 25), (81, 26), (81, 27), (81, 28), (81, 29), (81, 32), (81, 33), (81, 34), (81, 35), (81, 36), (81, 37)] M M656 := fr_call hF654 hF659 (by decide) (by decide)
                      have hx662 : M649 81 32 = M633 81 32 := hF652 81 32 (by decide) (by decide)
                      have hx663 : W597 81 32 = M591 81 32 := by rw [hW598, mset_nk (by decide)]
                      have hx664 : M591 81 32 = M481 81 32 := hF594 81 32 (by decide) (by decide)
                      have hx665 : M481 81 32 = M8 81 32 := hF484 81 32 (by decide) (by decide)
                      have hx666 : M8 81 32 = M 81 32 := hF11 81 32 (by decide) (by decide)
                      have hr667 := iv_81_32 hI658
                      have hx668 : M649 81 34 = M633 81 34 := hF652 81 34 (by decide) (by decide)
                      have hr669 := iv_81_36 hI658
                      exact hp _ _ hI658 hF661 (by lia)
                    · skip
                      unfold wX11_readLine_146
                      refine sf_X11_needs hI635 (by lia) (fun M671 t672 hI673 hF674 hq675 => ?_)
                      have hF676 : Fr [90, 91, 92, 93, 94, 95, 96] [(81, 13), (81, 14), (81, 15), (81, 22), (81, 23), (81, 24), (81, 25), (81, 26), (81, 27), (81, 28), (81, 29), (81, 32), (81, 33), (81, 34), (81, 35), (81, 36), (81, 37)] M M671 := fr_call hF638 hF674 (by decide) (by decide)
                      unfold wX11_readLine_150
                      refine sf_X11_next hI673  (fun M678 t679 hI680 hF681 hq682 => ?_)
                      have hF683 : Fr [90, 91, 92, 93, 94, 95, 96] [(81, 13), (81, 14), (81, 15), (81, 22), (81, 23), (81, 24), (81, 25), (81, 26), (81, 27), (81, 28), (81, 29), (81, 32), (81, 33), (81, 34), (81, 35), (81, 36), (81, 37)] M M678 := fr_call hF676 hF681 (by decide) (by decide)
                      have hx684 : M671 81 32 = M633 81 32 := hF674 81 32 (by decide) (by decide)
                      have hx685 : W597 81 32 = M591 81 32 := by rw [hW598, mset_nk (by decide)]
                      have hx686 : M591 81 32 = M481 81 32 := hF594 81 32 (by decide) (by decide)
                      have hx687 : M481 81 32 = M8 81 32 := hF484 81 32 (by decide) (by decide)
                      have hx688 : M8 81 32 = M 81 32 := hF11 81 32 (by decide) (by decide)
                      have hr689 := iv_81_32 hI680
                      have hx690 : M671 81 34 = M633 81 34 := hF674 81 34 (by decide) (by decide)
                      have hr691 := iv_81_36 hI680
                      exact hp _ _ hI680 hF683 (by lia)
                  · skip
                    unfold wX11_readLine_150
                    refine sf_X11_next hI635  (fun M693 t694 hI695 hF696 hq697 => ?_)
                    have hF698 : Fr [90, 91, 92, 93, 94, 95, 96] [(81, 13), (81, 14), (81, 15), (81, 22), (81, 23), (81, 24), (81, 25), (81, 26), (81, 27), (81, 28), (81, 29), (81, 32), (81, 33), (81, 34), (81, 35), (81, 36), (81, 37)] M M693 := fr_call hF638 hF696 (by decide) (by decide)
                    have hx699 : W597 81 32 = M591 81 32 := by rw [hW598, mset_nk (by decide)]
                    have hx700 : M591 81 32 = M481 81 32 := hF594 81 32 (by decide) (by decide)
                    have hx701 : M481 81 32 = M8 81 32 := hF484 81 32 (by decide) (by decide)
                    have hx702 : M8 81 32 = M 81 32 := hF11 81 32 (by decide) (by decide)
                    have hr703 := iv_81_32 hI695
                    have hx704 : W597 81 34 = M591 81 34 := by rw [hW598, mset_nk (by decide)]
                    have hx705 : M591 81 34 = M481 81 34 := hF594 81 34 (by decide) (by decide)
                    have hx706 : M481 81 34 = M8 81 34 := hF484 81 34 (by decide) (by decide)
                    have hx707 : M8 81 34 = M 81 34 := hF11 81 34 (by decide) (by decide)
                    have hr708 := iv_81_36 hI695
                    exact hp _ _ hI695 hF698 (by lia)
                · skip
                  have hx709 : W597 81 32 = M591 81 32 := by rw [hW598, mset_nk (by decide)]
                  have hx710 : M591 81 32 = M481 81 32 := hF594 81 32 (by decide) (by decide)
                  have hx711 : M481 81 32 = M8 81 32 := hF484 81 32 (by decide) (by decide)
                  have hx712 : M8 81 32 = M 81 32 := hF11 81 32 (by decide) (by decide)
                  have hr713 := iv_81_32 hI608
                  have hx714 : W597 81 34 = M591 81 34 := by rw [hW598, mset_nk (by decide)]
                  have hx715 : M591 81 34 = M481 81 34 := hF594 81 34 (by decide) (by decide)
                  have hx716 : M481 81 34 = M8 81 34 := hF484 81 34 (by decide) (by decide)
                  have hx717 : M8 81 34 = M 81 34 := hF11 81 34 (by decide) (by decide)
                  exact hp _ _ hI608 hF611 (by lia)
              · skip
                unfold wX11_readLine_92
                refine sf_X11_needs hI483 (by lia) (fun M719 t720 hI721 hF722 hq723 => ?_)
                have hF724 : Fr [90, 91, 92, 93, 94, 95, 96] [(81, 13), (81, 14), (81, 15), (81, 22), (81, 23), (81, 24), (81, 25), (81, 26), (81, 27), (81, 28), (81, 29), (81, 32), (81, 33), (81, 34), (81, 35), (81, 36), (81, 37)] M M719 := fr_call hF486 hF722 (by decide) (by decide)
                have hx727 : M719 81 23 = M481 81 23 := hF722 81 23 (by decide) (by decide)
                have hx728 : M481 81 23 = M8 81 23 := hF484 81 23 (by decide) (by decide)
                have hx729 : M8 81 23 = M 81 23 := hF11 81 23 (by decide) (by decide)
                intro W725 hW726
                have hI730 : Inv W725 := by rw [hW726]; exact inv_set hI721 (i_any _)
                have hF731 : Fr [90, 91, 92, 93, 94, 95, 96] [(81, 13), (81, 14), (81, 15), (81, 22), (81, 23), (81, 24), (81, 25), (81, 26), (81, 27), (81, 28), (81, 29), (81, 32), (81, 33), (81, 34), (81, 35), (81, 36), (81, 37)] M W725 := by rw [hW726]; exact fr_fld hF724 (by decide)
                have hv732 : W725 81 23 = ((M719 81 23) ||| ((1 : Int32) <<< (r3 &&& (31 : Int32)))) := by rw [hW726]; exact mset_at _ _ _ _
                unfold wX11_readLine_108
                refine sf_X11_next hI730  (fun M734 t735 hI736 hF737 hq738 => ?_)
                have hF739 : Fr [90, 91, 92, 93, 94, 95, 96] [(81, 13), (81, 14), (81, 15), (81, 22), (81, 23), (81, 24), (81, 25), (81, 26), (81, 27), (81, 28), (81, 29), (81, 32), (81, 33), (81, 34), (81, 35), (81, 36), (81, 37)] M M734 := fr_call hF731 hF737 (by decide) (by decide)
                have hx740 : W725 81 36 = M719 81 36 := by rw [hW726, mset_nk (by decide)]
                have hr741 := iv_81_36 hI736
                refine ifs (fun hc742 => ?_) (fun hc743 => ?_)
                · skip
                  have hx744 : M734 90 16 = W725 90 16 := hF737 90 16 (by decide) (by decide)
                  have hx745 : W725 90 16 = M719 90 16 := by rw [hW726, mset_ne (by decide)]
                  have hx746 : M719 90 16 = M481 90 16 := hF722 90 16 (by decide) (by decide)
                  have hx747 : M481 90 16 = M8 90 16 := hF484 90 16 (by decide) (by decide)
                  have hx748 : M8 90 16 = M 90 16 := hF11 90 16 (by decide) (by decide)
                  have hx749 : M734 90 ((16 : Int32)).toNatClampNeg = W725 90 ((16 : Int32)).toNatClampNeg := hF737 90 _ (by decide) (by decide)
                  have hr750 := r90_16 hI730
                  have hx751 : W725 90 ((16 : Int32)).toNatClampNeg = M719 90 ((16 : Int32)).toNatClampNeg := by rw [hW726, mset_ne (by decide)]
                  have hr752 := r90_16 hI721
                  have hx753 : M719 90 ((16 : Int32)).toNatClampNeg = M481 90 ((16 : Int32)).toNatClampNeg := hF722 90 _ (by decide) (by decide)
                  have hr754 := r90_16 hI483
                  have hx755 : M481 90 ((16 : Int32)).toNatClampNeg = M8 90 ((16 : Int32)).toNatClampNeg := hF484 90 _ (by decide) (by decide)
                  have hr756 := r90_16 hI10
                  have hx757 : M8 90 ((16 : Int32)).toNatClampNeg = M 90 ((16 : Int32)).toNatClampNeg := hF11 90 _ (by decide) (by decide)
                  have hr758 := r90_16 hI
                  have hr759 := r90_16 hI736
                  refine sf_X11_readLineOf hI736 (by lia) (fun M761 t762 hI763 hF764 hq765 => ?_)
                  have hF766 : Fr [90, 91, 92, 93, 94, 95, 96] [(81, 13), (81, 14), (81, 15), (81, 22), (81, 23), (81, 24), (81, 25), (81, 26), (81, 27), (81, 28), (81, 29), (81, 32), (81, 33), (81, 34), (81, 35), (81, 36), (81, 37)] M M761 := fr_call hF739 hF764 (by decide) (by decide)
                  have hr767 := iv_81_36 hI763
                  refine ifs (fun hc768 => ?_) (fun hc769 => ?_)
                  · skip
                    have hx770 : W725 81 34 = M719 81 34 := by rw [hW726, mset_nk (by decide)]
                    have hx771 : M719 81 34 = M481 81 34 := hF722 81 34 (by decide) (by decide)
                    have hx772 : M481 81 34 = M8 81 34 := hF484 81 34 (by decide) (by decide)
                    have hx773 : M8 81 34 = M 81 34 := hF11 81 34 (by decide) (by decide)
                    refine ifs (fun hc774 => ?_) (fun hc775 => ?_)
                    · skip
                      unfold wX11_readLine_146
                      refine sf_X11_needs hI763 (by lia) (fun M777 t778 hI779 hF780 hq781 => ?_)
                      have hF782 : Fr [90, 91, 92, 93, 94, 95, 96] [(81, 13), (81, 14), (81, 15), (81, 22), (81, 23), (81, 24), (81, 25), (81, 26), (81, 27), (81, 28), (81, 29), (81, 32), (81, 33), (81, 34), (81, 35), (81, 36), (81, 37)] M M777 := fr_call hF766 hF780 (by decide) (by decide)
                      unfold wX11_readLine_150
                      refine sf_X11_next hI779  (fun M784 t785 hI786 hF787 hq788 => ?_)
                      have hF789 : Fr [90, 91, 92, 93, 94, 95, 96] [(81, 13), (81, 14), (81, 15), (81, 22), (81, 23), (81, 24), (81, 25), (81, 26), (81, 27), (81, 28), (81, 29), (81, 32), (81, 33), (81, 34), (81, 35), (81, 36), (81, 37)] M M784 := fr_call hF782 hF787 (by decide) (by decide)
                      have hx790 : M777 81 32 = M761 81 32 := hF780 81 32 (by decide) (by decide)
                      have hx791 : W725 81 32 = M719 81 32 := by rw [hW726, mset_nk (by decide)]
                      have hx792 : M719 81 32 = M481 81 32 := hF722 81 32 (by decide) (by decide)
                      have hx793 : M481 81 32 = M8 81 32 := hF484 81 32 (by decide) (by decide)
                      have hx794 : M8 81 32 = M 81 32 := hF11 81 32 (by decide) (by decide)
                      have hr795 := iv_81_32 hI786
                      have hx796 : M777 81 34 = M761 81 34 := hF780 81 34 (by decide) (by decide)
                      have hr797 := iv_81_36 hI786
                      exact hp _ _ hI786 hF789 (by lia)
                    · skip
                      unfold wX11_readLine_146
                      refine sf_X11_needs hI763 (by lia) (fun M799 t800 hI801 hF802 hq803 => ?_)
                      have hF804 : Fr [90, 91, 92, 93, 94, 95, 96] [(81, 13), (81, 14), (81, 15), (81, 22), (81, 23), (81, 24), (81, 25), (81, 26), (81, 27), (81, 28), (81, 29), (81, 32), (81, 33), (81, 34), (81, 35), (81, 36), (81, 37)] M M799 := fr_call hF766 hF802 (by decide) (by decide)
                      unfold wX11_readLine_150
                      refine sf_X11_next hI801  (fun M806 t807 hI808 hF809 hq810 => ?_)
                      have hF811 : Fr [90, 91, 92, 93, 94, 95, 96] [(81, 13), (81, 14), (81, 15), (81, 22), (81, 23), (81, 24), (81, 25), (81, 26), (81, 27), (81, 28), (81, 29), (81, 32), (81, 33), (81, 34), (81, 35), (81, 36), (81, 37)] M M806 := fr_call hF804 hF809 (by decide) (by decide)
                      have hx812 : M799 81 32 = M761 81 32 := hF802 81 32 (by decide) (by decide)
                      have hx813 : W725 81 32 = M719 81 32 := by rw [hW726, mset_nk (by decide)]
                      have hx814 : M719 81 32 = M481 81 32 := hF722 81 32 (by decide) (by decide)
                      have hx815 : M481 81 32 = M8 81 32 := hF484 81 32 (by decide) (by decide)
                      have hx816 : M8 81 32 = M 81 32 := hF11 81 32 (by decide) (by decide)
                      have hr817 := iv_81_32 hI808
                      have hx818 : M799 81 34 = M761 81 34 := hF802 81 34 (by decide) (by decide)
                      have hr819 := iv_81_36 hI808
                      exact hp _ _ hI808 hF811 (by lia)
                  · skip
                    unfold wX11_readLine_150
                    refine sf_X11_next hI763  (fun M821 t822 hI823 hF824 hq825 => ?_)
                    have hF826 : Fr [90, 91, 92, 93, 94, 95, 96] [(81, 13), (81, 14), (81, 15), (81, 22), (81, 23), (81, 24), (81, 25), (81, 26), (81, 27), (81, 28), (81, 29), (81, 32), (81, 33), (81, 34), (81, 35), (81, 36), (81, 37)] M M821 := fr_call hF766 hF824 (by decide) (by decide)
                    have hx827 : W725 81 32 = M719 81 32 := by rw [hW726, mset_nk (by decide)]
                    have hx828 : M719 81 32 = M481 81 32 := hF722 81 32 (by decide) (by decide)
                    have hx829 : M481 81 32 = M8 81 32 := hF484 81 32 (by decide) (by decide)
                    have hx830 : M8 81 32 = M 81 32 := hF11 81 32 (by decide) (by decide)
                    have hr831 := iv_81_32 hI823
                    have hx832 : W725 81 34 = M719 81 34 := by rw [hW726, mset_nk (by decide)]
                    have hx833 : M719 81 34 = M481 81 34 := hF722 81 34 (by decide) (by decide)
                    have hx834 : M481 81 34 = M8 81 34 := hF484 81 34 (by decide) (by decide)
                    have hx835 : M8 81 34 = M 81 34 := hF11 81 34 (by decide) (by decide)
                    have hr836 := iv_81_36 hI823
                    exact hp _ _ hI823 hF826 (by lia)
                · skip
                  have hx837 : W725 81 32 = M719 81 32 := by rw [hW726, mset_nk (by decide)]
                  have hx838 : M719 81 32 = M481 81 32 := hF722 81 32 (by decide) (by decide)
                  have hx839 : M481 81 32 = M8 81 32 := hF484 81 32 (by decide) (by decide)
                  have hx840 : M8 81 32 = M 81 32 := hF11 81 32 (by decide) (by decide)
                  have hr841 := iv_81_32 hI736
                  have hx842 : W725 81 34 = M719 81 34 := by rw [hW726, mset_nk (by decide)]
                  have hx843 : M719 81 34 = M481 81 34 := hF722 81 34 (by decide) (by decide)
                  have hx844 : M481 81 34 = M8 81 34 := hF484 81 34 (by decide) (by decide)
                  have hx845 : M8 81 34 = M 81 34 := hF11 81 34 (by decide) (by decide)
                  exact hp _ _ hI736 hF739 (by lia)
          · skip
            unfold wX11_readLine_108
            refine sf_X11_next hI483  (fun M847 t848 hI849 hF850 hq851 => ?_)
            have hF852 : Fr [90, 91, 92, 93, 94, 95, 96] [(81, 13), (81, 14), (81, 15), (81, 22), (81, 23), (81, 24), (81, 25), (81, 26), (81, 27), (81, 28), (81, 29), (81, 32), (81, 33), (81, 34), (81, 35), (81, 36), (81, 37)] M M847 := fr_call hF486 hF850 (by decide) (by decide)
            have hr853 := iv_81_36 hI849
            refine ifs (fun hc854 => ?_) (fun hc855 => ?_)
            · skip
              have hx856 : M847 90 16 = M481 90 16 := hF850 90 16 (by decide) (by decide)
              have hx857 : M481 90 16 = M8 90 16 := hF484 90 16 (by decide) (by decide)
              have hx858 : M8 90 16 = M 90 16 := hF11 90 16 (by decide) (by decide)
              have hx859 : M847 90 ((16 : Int32)).toNatClampNeg = M481 90 ((16 : Int32)).toNatClampNeg := hF850 90 _ (by decide) (by decide)
              have hr860 := r90_16 hI483
              have hx861 : M481 90 ((16 : Int32)).toNatClampNeg = M8 90 ((16 : Int32)).toNatClampNeg := hF484 90 _ (by decide) (by decide)
              have hr862 := r90_16 hI10
              have hx863 : M8 90 ((16 : Int32)).toNatClampNeg = M 90 ((16 : Int32)).toNatClampNeg := hF11 90 _ (by decide) (by decide)
              have hr864 := r90_16 hI
              have hr865 := r90_16 hI849
              refine sf_X11_readLineOf hI849 (by lia) (fun M867 t868 hI869 hF870 hq871 => ?_)
              have hF872 : Fr [90, 91, 92, 93, 94, 95, 96] [(81, 13), (81, 14), (81, 15), (81, 22), (81, 23), (81, 24), (81, 25), (81, 26), (81, 27), (81, 28), (81, 29), (81, 32), (81, 33), (81, 34), (81, 35), (81, 36), (81, 37)] M M867 := fr_call hF852 hF870 (by decide) (by decide)
              have hr873 := iv_81_36 hI869
              refine ifs (fun hc874 => ?_) (fun hc875 => ?_)
              · skip
                have hx876 : M481 81 34 = M8 81 34 := hF484 81 34 (by decide) (by decide)
                have hx877 : M8 81 34 = M 81 34 := hF11 81 34 (by decide) (by decide)
                refine ifs (fun hc878 => ?_) (fun hc879 => ?_)
                · skip
                  unfold wX11_readLine_146
                  refine sf_X11_needs hI869 (by lia) (fun M881 t882 hI883 hF884 hq885 => ?_)
                  have hF886 : Fr [90, 91, 92, 93, 94, 95, 96] [(81, 13), (81, 14), (81, 15), (81, 22), (81, 23), (81, 24), (81, 25), (81, 26), (81, 27), (81, 28), (81, 29), (81, 32), (81, 33), (81, 34), (81, 35), (81, 36), (81, 37)] M M881 := fr_call hF872 hF884 (by decide) (by decide)
                  unfold wX11_readLine_150
                  refine sf_X11_next hI883  (fun M888 t889 hI890 hF891 hq892 => ?_)
                  have hF893 : Fr [90, 91, 92, 93, 94, 95, 96] [(81, 13), (81, 14), (81, 15), (81, 22), (81, 23), (81, 24), (81, 25), (81, 26), (81, 27), (81, 28), (81, 29), (81, 32), (81, 33), (81, 34), (81, 35), (81, 36), (81, 37)] M M888 := fr_call hF886 hF891 (by decide) (by decide)
                  have hx894 : M881 81 32 = M867 81 32 := hF884 81 32 (by decide) (by decide)
                  have hx895 : M481 81 32 = M8 81 32 := hF484 81 32 (by decide) (by decide)
                  have hx896 : M8 81 32 = M 81 32 := hF11 81 32 (by decide) (by decide)
                  have hr897 := iv_81_32 hI890
                  have hx898 : M881 81 34 = M867 81 34 := hF884 81 34 (by decide) (by decide)
                  have hr899 := iv_81_36 hI890
                  exact hp _ _ hI890 hF893 (by lia)
                · skip
                  unfold wX11_readLine_146
                  refine sf_X11_needs hI869 (by lia) (fun M901 t902 hI903 hF904 hq905 => ?_)
                  have hF906 : Fr [90, 91, 92, 93, 94, 95, 96] [(81, 13), (81, 14), (81, 15), (81, 22), (81, 23), (81, 24), (81, 25), (81, 26), (81, 27), (81, 28), (81, 29), (81, 32), (81, 33), (81, 34), (81, 35), (81, 36), (81, 37)] M M901 := fr_call hF872 hF904 (by decide) (by decide)
                  unfold wX11_readLine_150
                  refine sf_X11_next hI903  (fun M908 t909 hI910 hF911 hq912 => ?_)
                  have hF913 : Fr [90, 91, 92, 93, 94, 95, 96] [(81, 13), (81, 14), (81, 15), (81, 22), (81, 23), (81, 24), (81, 25), (81, 26), (81, 27), (81, 28), (81, 29), (81, 32), (81, 33), (81, 34), (81, 35), (81, 36), (81, 37)] M M908 := fr_call hF906 hF911 (by decide) (by decide)
                  have hx914 : M901 81 32 = M867 81 32 := hF904 81 32 (by decide) (by decide)
                  have hx915 : M481 81 32 = M8 81 32 := hF484 81 32 (by decide) (by decide)
                  have hx916 : M8 81 32 = M 81 32 := hF11 81 32 (by decide) (by decide)
                  have hr917 := iv_81_32 hI910
                  have hx918 : M901 81 34 = M867 81 34 := hF904 81 34 (by decide) (by decide)
                  have hr919 := iv_81_36 hI910
                  exact hp _ _ hI910 hF913 (by lia)
              · skip
                unfold wX11_readLine_150
                refine sf_X11_next hI869  (fun M921 t922 hI923 hF924 hq925 => ?_)
                have hF926 : Fr [90, 91, 92, 93, 94, 95, 96] [(81, 13), (81, 14), (81, 15), (81, 22), (81, 23), (81, 24), (81, 25), (81, 26), (81, 27), (81, 28), (81, 29), (81, 32), (81, 33), (81, 34), (81, 35), (81, 36), (81, 37)] M M921 := fr_call hF872 hF924 (by decide) (by decide)
                have hx927 : M481 81 32 = M8 81 32 := hF484 81 32 (by decide) (by decide)
                have hx928 : M8 81 32 = M 81 32 := hF11 81 32 (by decide) (by decide)
                have hr929 := iv_81_32 hI923
                have hx930 : M481 81 34 = M8 81 34 := hF484 81 34 (by decide) (by decide)
                have hx931 : M8 81 34 = M 81 34 := hF11 81 34 (by decide) (by decide)
                have hr932 := iv_81_36 hI923
                exact hp _ _ hI923 hF926 (by lia)
            · skip
              have hx933 : M481 81 32 = M8 81 32 := hF484 81 32 (by decide) (by decide)
              have hx934 : M8 81 32 = M 81 32 := hF11 81 32 (by decide) (by decide)
              have hr935 := iv_81_32 hI849
              have hx936 : M481 81 34 = M8 81 34 := hF484 81 34 (by decide) (by decide)
              have hx937 : M8 81 34 = M 81 34 := hF11 81 34 (by decide) (by decide)
              exact hp _ _ hI849 hF852 (by lia)
      · skip
        unfold wX11_readLine_53
        unfold wX11_readLine_58
        refine sf_X11_needs hI10 (by lia) (fun M939 t940 hI941 hF942 hq943 => ?_)
        have hF944 : Fr [90, 91, 92, 93, 94, 95, 96] [(81, 13), (81, 14), (81, 15), (81, 22), (81, 23), (81, 24), (81, 25), (81, 26), (81, 27), (81, 28), (81, 29), (81, 32), (81, 33), (81, 34), (81, 35), (81, 36), (81, 37)] M M939 := fr_call hF13 hF942 (by decide) (by decide)
        have hr945 := iv_81_36 hI941
        refine ifs (fun hc946 => ?_) (fun hc947 => ?_)
        · skip
          refine ifs (fun hc948 => ?_) (fun hc949 => ?_)
          · skip
            unfold wX11_readLine_108
            refine sf_X11_next hI941  (fun M951 t952 hI953 hF954 hq955 => ?_)
            have hF956 : Fr [90, 91, 92, 93, 94, 95, 96] [(81, 13), (81, 14), (81, 15), (81, 22), (81, 23), (81, 24), (81, 25), (81, 26), (81, 27), (81, 28), (81, 29), (81, 32), (81, 33), (81, 34), (81, 35), (81, 36), (81, 37)] M M951 := fr_call hF944 hF954 (by decide) (by decide)
            have hr957 := iv_81_36 hI953
            refine ifs (fun hc958 => ?_) (fun hc959 => ?_)
            · skip
              have hx960 : M951 90 16 = M939 90 16 := hF954 90 16 (by decide) (by decide)
              have hx961 : M939 90 16 = M8 90 16 := hF942 90 16 (by decide) (by decide)
              have hx962 : M8 90 16 = M 90 16 := hF11 90 16 (by decide) (by decide)
              have hx963 : M951 90 ((16 : Int32)).toNatClampNeg = M939 90 ((16 : Int32)).toNatClampNeg := hF954 90 _ (by decide) (by decide)
              have hr964 := r90_16 hI941
              have hx965 : M939 90 ((16 : Int32)).toNatClampNeg = M8 90 ((16 : Int32)).toNatClampNeg := hF942 90 _ (by decide) (by decide)
              have hr966 := r90_16 hI10
              have hx967 : M8 90 ((16 : Int32)).toNatClampNeg = M 90 ((16 : Int32)).toNatClampNeg := hF11 90 _ (by decide) (by decide)
              have hr968 := r90_16 hI
              have hr969 := r90_16 hI953
              refine sf_X11_readLineOf hI953 (by lia) (fun M971 t972 hI973 hF974 hq975 => ?_)
              have hF976 : Fr [90, 91, 92, 93, 94, 95, 96] [(81, 13), (81, 14), (81, 15), (81, 22), (81, 23), (81, 24), (81, 25), (81, 26), (81, 27), (81, 28), (81, 29), (81, 32), (81, 33), (81, 34), (81, 35), (81, 36), (81, 37)] M M971 := fr_call hF956 hF974 (by decide) (by decide)
              have hr977 := iv_81_36 hI973
              refine ifs (fun hc978 => ?_) (fun hc979 => ?_)
              · skip
                have hx980 : M939 81 34 = M8 81 34 := hF942 81 34 (by decide) (by decide)
                have hx981 : M8 81 34 = M 81 34 := hF11 81 34 (by decide) (by decide)
                refine ifs (fun hc982 => ?_) (fun hc983 => ?_)
                · skip
                  unfold wX11_readLine_146
                  refine sf_X11_needs hI973 (by lia) (fun M985 t986 hI987 hF988 hq989 => ?_)
                  have hF990 : Fr [90, 91, 92, 93, 94, 95, 96] [(81, 13), (81, 14), (81, 15), (81, 22), (81, 23), (81, 24), (81, 25), (81, 26), (81, 27), (81, 28), (81, 29), (81, 32), (81, 33), (81, 34), (81, 35), (81, 36), (81, 37)] M M985 := fr_call hF976 hF988 (by decide) (by decide)
                  unfold wX11_readLine_150
                  refine sf_X11_next hI987  (fun M992 t993 hI994 hF995 hq996 => ?_)
                  have hF997 : Fr [90, 91, 92, 93, 94, 95, 96] [(81, 13), (81, 14), (81, 15), (81, 22), (81, 23), (81, 24), (81, 25), (81, 26), (81, 27), (81, 28), (81, 29), (81, 32), (81, 33), (81, 34), (81, 35), (81, 36), (81, 37)] M M992 := fr_call hF990 hF995 (by decide) (by decide)
                  have hx998 : M985 81 32 = M971 81 32 := hF988 81 32 (by decide) (by decide)
                  have hx999 : M939 81 32 = M8 81 32 := hF942 81 32 (by decide) (by decide)
                  have hx1000 : M8 81 32 = M 81 32 := hF11 81 32 (by decide) (by decide)
                  have hr1001 := iv_81_32 hI994
                  have hx1002 : M985 81 34 = M971 81 34 := hF988 81 34 (by decide) (by decide)
                  have hr1003 := iv_81_36 hI994
                  exact hp _ _ hI994 hF997 (by lia)
                · skip
                  unfold wX11_readLine_146
                  refine sf_X11_needs hI973 (by lia) (fun M1005 t1006 hI1007 hF1008 hq1009 => ?_)
                  have hF1010 : Fr [90, 91, 92, 93, 94, 95, 96] [(81, 13), (81, 14), (81, 15), (81, 22), (81, 23), (81, 24), (81, 25), (81, 26), (81, 27), (81, 28), (81, 29), (81, 32), (81, 33), (81, 34), (81, 35), (81, 36), (81, 37)] M M1005 := fr_call hF976 hF1008 (by decide) (by decide)
                  unfold wX11_readLine_150
                  refine sf_X11_next hI1007  (fun M1012 t1013 hI1014 hF1015 hq1016 => ?_)
                  have hF1017 : Fr [90, 91, 92, 93, 94, 95, 96] [(81, 13), (81, 14), (81, 15), (81, 22), (81, 23), (81, 24), (81, 25), (81, 26), (81, 27), (81, 28), (81, 29), (81, 32), (81, 33), (81, 34), (81, 35), (81, 36), (81, 37)] M M1012 := fr_call hF1010 hF1015 (by decide) (by decide)
                  have hx1018 : M1005 81 32 = M971 81 32 := hF1008 81 32 (by decide) (by decide)
                  have hx1019 : M939 81 32 = M8 81 32 := hF942 81 32 (by decide) (by decide)
                  have hx1020 : M8 81 32 = M 81 32 := hF11 81 32 (by decide) (by decide)
                  have hr1021 := iv_81_32 hI1014
                  have hx1022 : M1005 81 34 = M971 81 34 := hF1008 81 34 (by decide) (by decide)
                  have hr1023 := iv_81_36 hI1014
                  exact hp _ _ hI1014 hF1017 (by lia)
              · skip
                unfold wX11_readLine_150
                refine sf_X11_next hI973  (fun M1025 t1026 hI1027 hF1028 hq1029 => ?_)
                have hF1030 : Fr [90, 91, 92, 93, 94, 95, 96] [(81, 13), (81, 14), (81, 15), (81, 22), (81, 23), (81, 24), (81, 25), (81, 26), (81, 27), (81, 28), (81, 29), (81, 32), (81, 33), (81, 34), (81, 35), (81, 36), (81, 37)] M M1025 := fr_call hF976 hF1028 (by decide) (by decide)
                have hx1031 : M939 81 32 = M8 81 32 := hF942 81 32 (by decide) (by decide)
                have hx1032 : M8 81 32 = M 81 32 := hF11 81 32 (by decide) (by decide)
                have hr1033 := iv_81_32 hI1027
                have hx1034 : M939 81 34 = M8 81 34 := hF942 81 34 (by decide) (by decide)
                have hx1035 : M8 81 34 = M 81 34 := hF11 81 34 (by decide) (by decide)
                have hr1036 := iv_81_36 hI1027
                exact hp _ _ hI1027 hF1030 (by lia)
            · skip
              have hx1037 : M939 81 32 = M8 81 32 := hF942 81 32 (by decide) (by decide)
              have hx1038 : M8 81 32 = M 81 32 := hF11 81 32 (by decide) (by decide)
              have hr1039 := iv_81_32 hI953
              have hx1040 : M939 81 34 = M8 81 34 := hF942 81 34 (by decide) (by decide)
              have hx1041 : M8 81 34 = M 81 34 := hF11 81 34 (by decide) (by decide)
              exact hp _ _ hI953 hF956 (by lia)
          · skip
            have hm1042 : (0 : Int32) ≤ (((M939 81 23) >>> (r3 &&& (31 : Int32))) &&& (1 : Int32)) ∧ (((M939 81 23) >>> (r3 &&& (31 : Int32))) &&& (1 : Int32)) ≤ (1 : Int32) := andc ((M939 81 23) >>> (r3 &&& (31 : Int32))) 1 (by decide)
            have hx1043 : M939 81 23 = M8 81 23 := hF942 81 23 (by decide) (by decide)
            have hx1044 : M8 81 23 = M 81 23 := hF11 81 23 (by decide) (by decide)
            have hm1045 : (0 : Int32) ≤ (r3 &&& (31 : Int32)) ∧ (r3 &&& (31 : Int32)) ≤ (31 : Int32) := andc r3 31 (by decide)
            refine ifs (fun hc1046 => ?_) (fun hc1047 => ?_)
            · skip
              unfold wX11_readLine_92
              refine sf_X11_needs hI941 (by lia) (fun M1049 t1050 hI1051 hF1052 hq1053 => ?_)
              have hF1054 : Fr [90, 91, 92, 93, 94, 95, 96] [(81, 13), (81, 14), (81, 15), (81, 22), (81, 23), (81, 24), (81, 25), (81, 26), (81, 27), (81, 28), (81, 29), (81, 32), (81, 33), (81, 34), (81, 35), (81, 36), (81, 37)] M M1049 := fr_call hF944 hF1052 (by decide) (by decide)
              have hx1057 : M1049 81 23 = M939 81 23 := hF1052 81 23 (by decide) (by decide)
              have hx1058 : M939 81 23 = M8 81 23 := hF942 81 23 (by decide) (by decide)
              have hx1059 : M8 81 23 = M 81 23 := hF11 81 23 (by decide) (by decide)
              intro W1055 hW1056
              have hI1060 : Inv W1055 := by rw [hW1056]; exact inv_set hI1051 (i_any _)
              have hF1061 : Fr [90, 91, 92, 93, 94, 95, 96] [(81, 13), (81, 14), (81, 15), (81, 22), (81, 23), (81, 24), (81, 25), (81, 26), (81, 27), (81, 28), (81, 29), (81, 32), (81, 33), (81, 34), (81, 35), (81, 36), (81, 37)] M W1055 := by rw [hW1056]; exact fr_fld hF1054 (by decide)
              have hv1062 : W1055 81 23 = ((M1049 81 23) ||| ((1 : Int32) <<< (r3 &&& (31 : Int32)))) := by rw [hW1056]; exact mset_at _ _ _ _
              unfold wX11_readLine_108
              refine sf_X11_next hI1060  (fun M1064 t1065 hI1066 hF1067 hq1068 => ?_)
              have hF1069 : Fr [90, 91, 92, 93, 94, 95, 96] [(81, 13), (81, 14), (81, 15), (81, 22), (81, 23), (81, 24), (81, 25), (81, 26), (81, 27), (81, 28), (81, 29), (81, 32), (81, 33), (81, 34), (81, 35), (81, 36), (81, 37)] M M1064 := fr_call hF1061 hF1067 (by decide) (by decide)
              have hx1070 : W1055 81 36 = M1049 81 36 := by rw [hW1056, mset_nk (by decide)]
              have hr1071 := iv_81_36 hI1066
              refine ifs (fun hc1072 => ?_) (fun hc1073 => ?_)
              · skip
                have hx1074 : M1064 90 16 = W1055 90 16 := hF1067 90 16 (by decide) (by decide)
                have hx1075 : W1055 90 16 = M1049 90 16 := by rw [hW1056, mset_ne (by decide)]
                have hx1076 : M1049 90 16 = M939 90 16 := hF1052 90 16 (by decide) (by decide)
                have hx1077 : M939 90 16 = M8 90 16 := hF942 90 16 (by decide) (by decide)
                have hx1078 : M8 90 16 = M 90 16 := hF11 90 16 (by decide) (by decide)
                have hx1079 : M1064 90 ((16 : Int32)).toNatClampNeg = W1055 90 ((16 : Int32)).toNatClampNeg := hF1067 90 _ (by decide) (by decide)
                have hr1080 := r90_16 hI1060
                have hx1081 : W1055 90 ((16 : Int32)).toNatClampNeg = M1049 90 ((16 : Int32)).toNatClampNeg := by rw [hW1056, mset_ne (by decide)]
                have hr1082 := r90_16 hI1051
                have hx1083 : M1049 90 ((16 : Int32)).toNatClampNeg = M939 90 ((16 : Int32)).toNatClampNeg := hF1052 90 _ (by decide) (by decide)
                have hr1084 := r90_16 hI941
                have hx1085 : M939 90 ((16 : Int32)).toNatClampNeg = M8 90 ((16 : Int32)).toNatClampNeg := hF942 90 _ (by decide) (by decide)
                have hr1086 := r90_16 hI10
                have hx1087 : M8 90 ((16 : Int32)).toNatClampNeg = M 90 ((16 : Int32)).toNatClampNeg := hF11 90 _ (by decide) (by decide)
                have hr1088 := r90_16 hI
                have hr1089 := r90_16 hI1066
                refine sf_X11_readLineOf hI1066 (by lia) (fun M1091 t1092 hI1093 hF1094 hq1095 => ?_)
                have hF1096 : Fr [90, 91, 92, 93, 94, 95, 96] [(81, 13), (81, 14), (81, 15), (81, 22), (81, 23), (81, 24), (81, 25), (81, 26), (81, 27), (81, 28), (81, 29), (81, 32), (81, 33), (81, 34), (81, 35), (81, 36), (81, 37)] M M1091 := fr_call hF1069 hF1094 (by decide) (by decide)
                have hr1097 := iv_81_36 hI1093
                refine ifs (fun hc1098 => ?_) (fun hc1099 => ?_)
                · skip
                  have hx1100 : W1055 81 34 = M1049 81 34 := by rw [hW1056, mset_nk (by decide)]
                  have hx1101 : M1049 81 34 = M939 81 34 := hF1052 81 34 (by decide) (by decide)
                  have hx1102 : M939 81 34 = M8 81 34 := hF942 81 34 (by decide) (by decide)
                  have hx1103 : M8 81 34 = M 81 34 := hF11 81 34 (by decide) (by decide)
                  refine ifs (fun hc1104 => ?_) (fun hc1105 => ?_)
                  · skip
                    unfold wX11_readLine_146
                    refine sf_X11_needs hI1093 (by lia) (fun M1107 t1108 hI1109 hF1110 hq1111 => ?_)
                    have hF1112 : Fr [90, 91, 92, 93, 94, 95, 96] [(81, 13), (81, 14), (81, 15), (81, 22), (81, 23), (81, 24), (81, 25), (81, 26), (81, 27), (81, 28), (81, 29), (81, 32), (81, 33), (81, 34), (81, 35), (81, 36), (81, 37)] M M1107 := fr_call hF1096 hF1110 (by decide) (by decide)
                    unfold wX11_readLine_150
                    refine sf_X11_next hI1109  (fun M1114 t1115 hI1116 hF1117 hq1118 => ?_)
                    have hF1119 : Fr [90, 91, 92, 93, 94, 95, 96] [(81, 13), (81, 14), (81, 15), (81, 22), (81, 23), (81, 24), (81, 25), (81, 26), (81, 27), (81, 28), (81, 29), (81, 32), (81, 33), (81, 34), (81, 35), (81, 36), (81, 37)] M M1114 := fr_call hF1112 hF1117 (by decide) (by decide)
                    have hx1120 : M1107 81 32 = M1091 81 32 := hF1110 81 32 (by decide) (by decide)
                    have hx1121 : W1055 81 32 = M1049 81 32 := by rw [hW1056, mset_nk (by decide)]
                    have hx1122 : M1049 81 32 = M939 81 32 := hF1052 81 32 (by decide) (by decide)
                    have hx1123 : M939 81 32 = M8 81 32 := hF942 81 32 (by decide) (by decide)
                    have hx1124 : M8 81 32 = M 81 32 := hF11 81 32 (by decide) (by decide)
                    have hr1125 := iv_81_32 hI1116
                    have hx1126 : M1107 81 34 = M1091 81 34 := hF1110 81 34 (by decide) (by decide)
                    have hr1127 := iv_81_36 hI1116
                    exact hp _ _ hI1116 hF1119 (by lia)
                  · skip
                    unfold wX11_readLine_146
                    refine sf_X11_needs hI1093 (by lia) (fun M1129 t1130 hI1131 hF1132 hq1133 => ?_)
                    have hF1134 : Fr [90, 91, 92, 93, 94, 95, 96] [(81, 13), (81, 14), (81, 15), (81, 22), (81, 23), (81, 24), (81, 25), (81, 26), (81, 27), (81, 28), (81, 29), (81, 32), (81, 33), (81, 34), (81, 35), (81, 36), (81, 37)] M M1129 := fr_call hF1096 hF1132 (by decide) (by decide)
                    unfold wX11_readLine_150
                    refine sf_X11_next hI1131  (fun M1136 t1137 hI1138 hF1139 hq1140 => ?_)
                    have hF1141 : Fr [90, 91, 92, 93, 94, 95, 96] [(81, 13), (81, 14), (81, 15), (81, 22), (81, 23), (81, 24), (81, 25), (81, 26), (81, 27), (81, 28), (81, 29), (81, 32), (81, 33), (81, 34), (81, 35), (81, 36), (81, 37)] M M1136 := fr_call hF1134 hF1139 (by decide) (by decide)
                    have hx1142 : M1129 81 32 = M1091 81 32 := hF1132 81 32 (by decide) (by decide)
                    have hx1143 : W1055 81 32 = M1049 81 32 := by rw [hW1056, mset_nk (by decide)]
                    have hx1144 : M1049 81 32 = M939 81 32 := hF1052 81 32 (by decide) (by decide)
                    have hx1145 : M939 81 32 = M8 81 32 := hF942 81 32 (by decide) (by decide)
                    have hx1146 : M8 81 32 = M 81 32 := hF11 81 32 (by decide) (by decide)
                    have hr1147 := iv_81_32 hI1138
                    have hx1148 : M1129 81 34 = M1091 81 34 := hF1132 81 34 (by decide) (by decide)
                    have hr1149 := iv_81_36 hI1138
                    exact hp _ _ hI1138 hF1141 (by lia)
                · skip
                  unfold wX11_readLine_150
                  refine sf_X11_next hI1093  (fun M1151 t1152 hI1153 hF1154 hq1155 => ?_)
                  have hF1156 : Fr [90, 91, 92, 93, 94, 95, 96] [(81, 13), (81, 14), (81, 15), (81, 22), (81, 23), (81, 24), (81, 25), (81, 26), (81, 27), (81, 28), (81, 29), (81, 32), (81, 33), (81, 34), (81, 35), (81, 36), (81, 37)] M M1151 := fr_call hF1096 hF1154 (by decide) (by decide)
                  have hx1157 : W1055 81 32 = M1049 81 32 := by rw [hW1056, mset_nk (by decide)]
                  have hx1158 : M1049 81 32 = M939 81 32 := hF1052 81 32 (by decide) (by decide)
                  have hx1159 : M939 81 32 = M8 81 32 := hF942 81 32 (by decide) (by decide)
                  have hx1160 : M8 81 32 = M 81 32 := hF11 81 32 (by decide) (by decide)
                  have hr1161 := iv_81_32 hI1153
                  have hx1162 : W1055 81 34 = M1049 81 34 := by rw [hW1056, mset_nk (by decide)]
                  have hx1163 : M1049 81 34 = M939 81 34 := hF1052 81 34 (by decide) (by decide)
                  have hx1164 : M939 81 34 = M8 81 34 := hF942 81 34 (by decide) (by decide)
                  have hx1165 : M8 81 34 = M 81 34 := hF11 81 34 (by decide) (by decide)
                  have hr1166 := iv_81_36 hI1153
                  exact hp _ _ hI1153 hF1156 (by lia)
              · skip
                have hx1167 : W1055 81 32 = M1049 81 32 := by rw [hW1056, mset_nk (by decide)]
                have hx1168 : M1049 81 32 = M939 81 32 := hF1052 81 32 (by decide) (by decide)
                have hx1169 : M939 81 32 = M8 81 32 := hF942 81 32 (by decide) (by decide)
                have hx1170 : M8 81 32 = M 81 32 := hF11 81 32 (by decide) (by decide)
                have hr1171 := iv_81_32 hI1066
                have hx1172 : W1055 81 34 = M1049 81 34 := by rw [hW1056, mset_nk (by decide)]
                have hx1173 : M1049 81 34 = M939 81 34 := hF1052 81 34 (by decide) (by decide)
                have hx1174 : M939 81 34 = M8 81 34 := hF942 81 34 (by decide) (by decide)
                have hx1175 : M8 81 34 = M 81 34 := hF11 81 34 (by decide) (by decide)
                exact hp _ _ hI1066 hF1069 (by lia)
            · skip
              unfold wX11_readLine_92
              refine sf_X11_needs hI941 (by lia) (fun M1177 t1178 hI1179 hF1180 hq1181 => ?_)
              have hF1182 : Fr [90, 91, 92, 93, 94, 95, 96] [(81, 13), (81, 14), (81, 15), (81, 22), (81, 23), (81, 24), (81, 25), (81, 26), (81, 27), (81, 28), (81, 29), (81, 32), (81, 33), (81, 34), (81, 35), (81, 36), (81, 37)] M M1177 := fr_call hF944 hF1180 (by decide) (by decide)
              have hx1185 : M1177 81 23 = M939 81 23 := hF1180 81 23 (by decide) (by decide)
              have hx1186 : M939 81 23 = M8 81 23 := hF942 81 23 (by decide) (by decide)
              have hx1187 : M8 81 23 = M 81 23 := hF11 81 23 (by decide) (by decide)
              intro W1183 hW1184
              have hI1188 : Inv W1183 := by rw [hW1184]; exact inv_set hI1179 (i_any _)
              have hF1189 : Fr [90, 91, 92, 93, 94, 95, 96] [(81, 13), (81, 14), (81, 15), (81, 22), (81, 23), (81, 24), (81, 25), (81, 26), (81, 27), (81, 28), (81, 29), (81, 32), (81, 33), (81, 34), (81, 35), (81, 36), (81, 37)] M W1183 := by rw [hW1184]; exact fr_fld hF1182 (by decide)
              have hv1190 : W1183 81 23 = ((M1177 81 23) ||| ((1 : Int32) <<< (r3 &&& (31 : Int32)))) := by rw [hW1184]; exact mset_at _ _ _ _
              unfold wX11_readLine_108
              refine sf_X11_next hI1188  (fun M1192 t1193 hI1194 hF1195 hq1196 => ?_)
              have hF1197 : Fr [90, 91, 92, 93, 94, 95, 96] [(81, 13), (81, 14), (81, 15), (81, 22), (81, 23), (81, 24), (81, 25), (81, 26), (81, 27), (81, 28), (81, 29), (81, 32), (81, 33), (81, 34), (81, 35), (81, 36), (81, 37)] M M1192 := fr_call hF1189 hF1195 (by decide) (by decide)
              have hx1198 : W1183 81 36 = M1177 81 36 := by rw [hW1184, mset_nk (by decide)]
              have hr1199 := iv_81_36 hI1194
              refine ifs (fun hc1200 => ?_) (fun hc1201 => ?_)
              · skip
                have hx1202 : M1192 90 16 = W1183 90 16 := hF1195 90 16 (by decide) (by decide)
                have hx1203 : W1183 90 16 = M1177 90 16 := by rw [hW1184, mset_ne (by decide)]
                have hx1204 : M1177 90 16 = M939 90 16 := hF1180 90 16 (by decide) (by decide)
                have hx1205 : M939 90 16 = M8 90 16 := hF942 90 16 (by decide) (by decide)
                have hx1206 : M8 90 16 = M 90 16 := hF11 90 16 (by decide) (by decide)
                have hx1207 : M1192 90 ((16 : Int32)).toNatClampNeg = W1183 90 ((16 : Int32)).toNatClampNeg := hF1195 90 _ (by decide) (by decide)
                have hr1208 := r90_16 hI1188
                have hx1209 : W1183 90 ((16 : Int32)).toNatClampNeg = M1177 90 ((16 : Int32)).toNatClampNeg := by rw [hW1184, mset_ne (by decide)]
                have hr1210 := r90_16 hI1179
                have hx1211 : M1177 90 ((16 : Int32)).toNatClampNeg = M939 90 ((16 : Int32)).toNatClampNeg := hF1180 90 _ (by decide) (by decide)
                have hr1212 := r90_16 hI941
                have hx1213 : M939 90 ((16 : Int32)).toNatClampNeg = M8 90 ((16 : Int32)).toNatClampNeg := hF942 90 _ (by decide) (by decide)
                have hr1214 := r90_16 hI10
                have hx1215 : M8 90 ((16 : Int32)).toNatClampNeg = M 90 ((16 : Int32)).toNatClampNeg := hF11 90 _ (by decide) (by decide)
                have hr1216 := r90_16 hI
                have hr1217 := r90_16 hI1194
                refine sf_X11_readLineOf hI1194 (by lia) (fun M1219 t1220 hI1221 hF1222 hq1223 => ?_)
                have hF1224 : Fr [90, 91, 92, 93, 94, 95, 96] [(81, 13), (81, 14), (81, 15), (81, 22), (81, 23), (81, 24), (81, 25), (81, 26), (81, 27), (81, 28), (81, 29), (81, 32), (81, 33), (81, 34), (81, 35), (81, 36), (81, 37)] M M1219 := fr_call hF1197 hF1222 (by decide) (by decide)
                have hr1225 := iv_81_36 hI1221
                refine ifs (fun hc1226 => ?_) (fun hc1227 => ?_)
                · skip
                  have hx1228 : W1183 81 34 = M1177 81 34 := by rw [hW1184, mset_nk (by decide)]
                  have hx1229 : M1177 81 34 = M939 81 34 := hF1180 81 34 (by decide) (by decide)
                  have hx1230 : M939 81 34 = M8 81 34 := hF942 81 34 (by decide) (by decide)
                  have hx1231 : M8 81 34 = M 81 34 := hF11 81 34 (by decide) (by decide)
                  refine ifs (fun hc1232 => ?_) (fun hc1233 => ?_)
                  · skip
                    unfold wX11_readLine_146
                    refine sf_X11_needs hI1221 (by lia) (fun M1235 t1236 hI1237 hF1238 hq1239 => ?_)
                    have hF1240 : Fr [90, 91, 92, 93, 94, 95, 96] [(81, 13), (81, 14), (81, 15), (81, 22), (81, 23), (81, 24), (81, 25), (81, 26), (81, 27), (81, 28), (81, 29), (81, 32), (81, 33), (81, 34), (81, 35), (81, 36), (81, 37)] M M1235 := fr_call hF1224 hF1238 (by decide) (by decide)
                    unfold wX11_readLine_150
                    refine sf_X11_next hI1237  (fun M1242 t1243 hI1244 hF1245 hq1246 => ?_)
                    have hF1247 : Fr [90, 91, 92, 93, 94, 95, 96] [(81, 13), (81, 14), (81, 15), (81, 22), (81, 23), (81, 24), (81, 25), (81, 26), (81, 27), (81, 28), (81, 29), (81, 32), (81, 33), (81, 34), (81, 35), (81, 36), (81, 37)] M M1242 := fr_call hF1240 hF1245 (by decide) (by decide)
                    have hx1248 : M1235 81 32 = M1219 81 32 := hF1238 81 32 (by decide) (by decide)
                    have hx1249 : W1183 81 32 = M1177 81 32 := by rw [hW1184, mset_nk (by decide)]
                    have hx1250 : M1177 81 32 = M939 81 32 := hF1180 81 32 (by decide) (by decide)
                    have hx1251 : M939 81 32 = M8 81 32 := hF942 81 32 (by decide) (by decide)
                    have hx1252 : M8 81 32 = M 81 32 := hF11 81 32 (by decide) (by decide)
                    have hr1253 := iv_81_32 hI1244
                    have hx1254 : M1235 81 34 = M1219 81 34 := hF1238 81 34 (by decide) (by decide)
                    have hr1255 := iv_81_36 hI1244
                    exact hp _ _ hI1244 hF1247 (by lia)
                  · skip
                    unfold wX11_readLine_146
                    refine sf_X11_needs hI1221 (by lia) (fun M1257 t1258 hI1259 hF1260 hq1261 => ?_)
                    have hF1262 : Fr [90, 91, 92, 93, 94, 95, 96] [(81, 13), (81, 14), (81, 15), (81, 22), (81, 23), (81, 24), (81, 25), (81, 26), (81, 27), (81, 28), (81, 29), (81, 32), (81, 33), (81, 34), (81, 35), (81, 36), (81, 37)] M M1257 := fr_call hF1224 hF1260 (by decide) (by decide)
                    unfold wX11_readLine_150
                    refine sf_X11_next hI1259  (fun M1264 t1265 hI1266 hF1267 hq1268 => ?_)
                    have hF1269 : Fr [90, 91, 92, 93, 94, 95, 96] [(81, 13), (81, 14), (81, 15), (81, 22), (81, 23), (81, 24), (81, 25), (81, 26), (81, 27), (81, 28), (81, 29), (81, 32), (81, 33), (81, 34), (81, 35), (81, 36), (81, 37)] M M1264 := fr_call hF1262 hF1267 (by decide) (by decide)
                    have hx1270 : M1257 81 32 = M1219 81 32 := hF1260 81 32 (by decide) (by decide)
                    have hx1271 : W1183 81 32 = M1177 81 32 := by rw [hW1184, mset_nk (by decide)]
                    have hx1272 : M1177 81 32 = M939 81 32 := hF1180 81 32 (by decide) (by decide)
                    have hx1273 : M939 81 32 = M8 81 32 := hF942 81 32 (by decide) (by decide)
                    have hx1274 : M8 81 32 = M 81 32 := hF11 81 32 (by decide) (by decide)
                    have hr1275 := iv_81_32 hI1266
                    have hx1276 : M1257 81 34 = M1219 81 34 := hF1260 81 34 (by decide) (by decide)
                    have hr1277 := iv_81_36 hI1266
                    exact hp _ _ hI1266 hF1269 (by lia)
                · skip
                  unfold wX11_readLine_150
                  refine sf_X11_next hI1221  (fun M1279 t1280 hI1281 hF1282 hq1283 => ?_)
                  have hF1284 : Fr [90, 91, 92, 93, 94, 95, 96] [(81, 13), (81, 14), (81, 15), (81, 22), (81, 23), (81, 24), (81, 25), (81, 26), (81, 27), (81, 28), (81, 29), (81, 32), (81, 33), (81, 34), (81, 35), (81, 36), (81, 37)] M M1279 := fr_call hF1224 hF1282 (by decide) (by decide)
                  have hx1285 : W1183 81 32 = M1177 81 32 := by rw [hW1184, mset_nk (by decide)]
                  have hx1286 : M1177 81 32 = M939 81 32 := hF1180 81 32 (by decide) (by decide)
                  have hx1287 : M939 81 32 = M8 81 32 := hF942 81 32 (by decide) (by decide)
                  have hx1288 : M8 81 32 = M 81 32 := hF11 81 32 (by decide) (by decide)
                  have hr1289 := iv_81_32 hI1281
                  have hx1290 : W1183 81 34 = M1177 81 34 := by rw [hW1184, mset_nk (by decide)]
                  have hx1291 : M1177 81 34 = M939 81 34 := hF1180 81 34 (by decide) (by decide)
                  have hx1292 : M939 81 34 = M8 81 34 := hF942 81 34 (by decide) (by decide)
                  have hx1293 : M8 81 34 = M 81 34 := hF11 81 34 (by decide) (by decide)
                  have hr1294 := iv_81_36 hI1281
                  exact hp _ _ hI1281 hF1284 (by lia)
              · skip
                have hx1295 : W1183 81 32 = M1177 81 32 := by rw [hW1184, mset_nk (by decide)]
                have hx1296 : M1177 81 32 = M939 81 32 := hF1180 81 32 (by decide) (by decide)
                have hx1297 : M939 81 32 = M8 81 32 := hF942 81 32 (by decide) (by decide)
                have hx1298 : M8 81 32 = M 81 32 := hF11 81 32 (by decide) (by decide)
                have hr1299 := iv_81_32 hI1194
                have hx1300 : W1183 81 34 = M1177 81 34 := by rw [hW1184, mset_nk (by decide)]
                have hx1301 : M1177 81 34 = M939 81 34 := hF1180 81 34 (by decide) (by decide)
                have hx1302 : M939 81 34 = M8 81 34 := hF942 81 34 (by decide) (by decide)
                have hx1303 : M8 81 34 = M 81 34 := hF11 81 34 (by decide) (by decide)
                exact hp _ _ hI1194 hF1197 (by lia)
        · skip
          unfold wX11_readLine_108
          refine sf_X11_next hI941  (fun M1305 t1306 hI1307 hF1308 hq1309 => ?_)
          have hF1310 : Fr [90, 91, 92, 93, 94, 95, 96] [(81, 13), (81, 14), (81, 15), (81, 22), (81, 23), (81, 24), (81, 25), (81, 26), (81, 27), (81, 28), (81, 29), (81, 32), (81, 33), (81, 34), (81, 35), (81, 36), (81, 37)] M M1305 := fr_call hF944 hF1308 (by decide) (by decide)
          have hr1311 := iv_81_36 hI1307
          refine ifs (fun hc1312 => ?_) (fun hc1313 => ?_)
          · skip
            have hx1314 : M1305 90 16 = M939 90 16 := hF1308 90 16 (by decide) (by decide)
            have hx1315 : M939 90 16 = M8 90 16 := hF942 90 16 (by decide) (by decide)
            have hx1316 : M8 90 16 = M 90 16 := hF11 90 16 (by decide) (by decide)
            have hx1317 : M1305 90 ((16 : Int32)).toNatClampNeg = M939 90 ((16 : Int32)).toNatClampNeg := hF1308 90 _ (by decide) (by decide)
            have hr1318 := r90_16 hI941
            have hx1319 : M939 90 ((16 : Int32)).toNatClampNeg = M8 90 ((16 : Int32)).toNatClampNeg := hF942 90 _ (by decide) (by decide)
            have hr1320 := r90_16 hI10
            have hx1321 : M8 90 ((16 : Int32)).toNatClampNeg = M 90 ((16 : Int32)).toNatClampNeg := hF11 90 _ (by decide) (by decide)
            have hr1322 := r90_16 hI
            have hr1323 := r90_16 hI1307
            refine sf_X11_readLineOf hI1307 (by lia) (fun M1325 t1326 hI1327 hF1328 hq1329 => ?_)
            have hF1330 : Fr [90, 91, 92, 93, 94, 95, 96] [(81, 13), (81, 14), (81, 15), (81, 22), (81, 23), (81, 24), (81, 25), (81, 26), (81, 27), (81, 28), (81, 29), (81, 32), (81, 33), (81, 34), (81, 35), (81, 36), (81, 37)] M M1325 := fr_call hF1310 hF1328 (by decide) (by decide)
            have hr1331 := iv_81_36 hI1327
            refine ifs (fun hc1332 => ?_) (fun hc1333 => ?_)
            · skip
              have hx1334 : M939 81 34 = M8 81 34 := hF942 81 34 (by decide) (by decide)
              have hx1335 : M8 81 34 = M 81 34 := hF11 81 34 (by decide) (by decide)
              refine ifs (fun hc1336 => ?_) (fun hc1337 => ?_)
              · skip
                unfold wX11_readLine_146
                refine sf_X11_needs hI1327 (by lia) (fun M1339 t1340 hI1341 hF1342 hq1343 => ?_)
                have hF1344 : Fr [90, 91, 92, 93, 94, 95, 96] [(81, 13), (81, 14), (81, 15), (81, 22), (81, 23), (81, 24), (81, 25), (81, 26), (81, 27), (81, 28), (81, 29), (81, 32), (81, 33), (81, 34), (81, 35), (81, 36), (81, 37)] M M1339 := fr_call hF1330 hF1342 (by decide) (by decide)
                unfold wX11_readLine_150
                refine sf_X11_next hI1341  (fun M1346 t1347 hI1348 hF1349 hq1350 => ?_)
                have hF1351 : Fr [90, 91, 92, 93, 94, 95, 96] [(81, 13), (81, 14), (81, 15), (81, 22), (81, 23), (81, 24), (81, 25), (81, 26), (81, 27), (81, 28), (81, 29), (81, 32), (81, 33), (81, 34), (81, 35), (81, 36), (81, 37)] M M1346 := fr_call hF1344 hF1349 (by decide) (by decide)
                have hx1352 : M1339 81 32 = M1325 81 32 := hF1342 81 32 (by decide) (by decide)
                have hx1353 : M939 81 32 = M8 81 32 := hF942 81 32 (by decide) (by decide)
                have hx1354 : M8 81 32 = M 81 32 := hF11 81 32 (by decide) (by decide)
                have hr1355 := iv_81_32 hI1348
                have hx1356 : M1339 81 34 = M1325 81 34 := hF1342 81 34 (by decide) (by decide)
                have hr1357 := iv_81_36 hI1348
                exact hp _ _ hI1348 hF1351 (by lia)
              · skip
                unfold wX11_readLine_146
                refine sf_X11_needs hI1327 (by lia) (fun M1359 t1360 hI1361 hF1362 hq1363 => ?_)
                have hF1364 : Fr [90, 91, 92, 93, 94, 95, 96] [(81, 13), (81, 14), (81, 15), (81, 22), (81, 23), (81, 24), (81, 25), (81, 26), (81, 27), (81, 28), (81, 29), (81, 32), (81, 33), (81, 34), (81, 35), (81, 36), (81, 37)] M M1359 := fr_call hF1330 hF1362 (by decide) (by decide)
                unfold wX11_readLine_150
                refine sf_X11_next hI1361  (fun M1366 t1367 hI1368 hF1369 hq1370 => ?_)
                have hF1371 : Fr [90, 91, 92, 93, 94, 95, 96] [(81, 13), (81, 14), (81, 15), (81, 22), (81, 23), (81, 24), (81, 25), (81, 26), (81, 27), (81, 28), (81, 29), (81, 32), (81, 33), (81, 34), (81, 35), (81, 36), (81, 37)] M M1366 := fr_call hF1364 hF1369 (by decide) (by decide)
                have hx1372 : M1359 81 32 = M1325 81 32 := hF1362 81 32 (by decide) (by decide)
                have hx1373 : M939 81 32 = M8 81 32 := hF942 81 32 (by decide) (by decide)
                have hx1374 : M8 81 32 = M 81 32 := hF11 81 32 (by decide) (by decide)
                have hr1375 := iv_81_32 hI1368
                have hx1376 : M1359 81 34 = M1325 81 34 := hF1362 81 34 (by decide) (by decide)
                have hr1377 := iv_81_36 hI1368
                exact hp _ _ hI1368 hF1371 (by lia)
            · skip
              unfold wX11_readLine_150
              refine sf_X11_next hI1327  (fun M1379 t1380 hI1381 hF1382 hq1383 => ?_)
              have hF1384 : Fr [90, 91, 92, 93, 94, 95, 96] [(81, 13), (81, 14), (81, 15), (81, 22), (81, 23), (81, 24), (81, 25), (81, 26), (81, 27), (81, 28), (81, 29), (81, 32), (81, 33), (81, 34), (81, 35), (81, 36), (81, 37)] M M1379 := fr_call hF1330 hF1382 (by decide) (by decide)
              have hx1385 : M939 81 32 = M8 81 32 := hF942 81 32 (by decide) (by decide)
              have hx1386 : M8 81 32 = M 81 32 := hF11 81 32 (by decide) (by decide)
              have hr1387 := iv_81_32 hI1381
              have hx1388 : M939 81 34 = M8 81 34 := hF942 81 34 (by decide) (by decide)
              have hx1389 : M8 81 34 = M 81 34 := hF11 81 34 (by decide) (by decide)
              have hr1390 := iv_81_36 hI1381
              exact hp _ _ hI1381 hF1384 (by lia)
          · skip
            have hx1391 : M939 81 32 = M8 81 32 := hF942 81 32 (by decide) (by decide)
            have hx1392 : M8 81 32 = M 81 32 := hF11 81 32 (by decide) (by decide)
            have hr1393 := iv_81_32 hI1307
            have hx1394 : M939 81 34 = M8 81 34 := hF942 81 34 (by decide) (by decide)
            have hx1395 : M8 81 34 = M 81 34 := hF11 81 34 (by decide) (by decide)
            exact hp _ _ hI1307 hF1310 (by lia)
    · skip
      unfold wX11_readLine_30
      refine sf_X11_needs hI (by lia) (fun M1397 t1398 hI1399 hF1400 hq1401 => ?_)
      have hF1402 : Fr [90, 91, 92, 93, 94, 95, 96] [(81, 13), (81, 14), (81, 15), (81, 22), (81, 23), (81, 24), (81, 25), (81, 26), (81, 27), (81, 28), (81, 29), (81, 32), (81, 33), (81, 34), (81, 35), (81, 36), (81, 37)] M M1397 := fr_call fr_rfl hF1400 (by decide) (by decide)
      refine ifs (fun hc1403 => ?_) (fun hc1404 => ?_)
      · skip
        refine And.intro (vpI (c := 127) (by decide) (by lia) (by lia)) ?_
        have hx1405 : M1397 90 16 = M 90 16 := hF1400 90 16 (by decide) (by decide)
        have hx1406 : M1397 90 ((16 : Int32)).toNatClampNeg = M 90 ((16 : Int32)).toNatClampNeg := hF1400 90 _ (by decide) (by decide)
        have hr1407 := r90_16 hI
        have hr1408 := r90_16 hI1399
        refine ifs (fun hc1409 => ?_) (fun hc1410 => ?_)
        · skip
          unfold wX11_readLine_58
          refine sf_X11_needs hI1399 (by lia) (fun M1412 t1413 hI1414 hF1415 hq1416 => ?_)
          have hF1417 : Fr [90, 91, 92, 93, 94, 95, 96] [(81, 13), (81, 14), (81, 15), (81, 22), (81, 23), (81, 24), (81, 25), (81, 26), (81, 27), (81, 28), (81, 29), (81, 32), (81, 33), (81, 34), (81, 35), (81, 36), (81, 37)] M M1412 := fr_call hF1402 hF1415 (by decide) (by decide)
          have hr1418 := iv_81_36 hI1414
          refine ifs (fun hc1419 => ?_) (fun hc1420 => ?_)
          · skip
            refine ifs (fun hc1421 => ?_) (fun hc1422 => ?_)
            · skip
              unfold wX11_readLine_108
              refine sf_X11_next hI1414  (fun M1424 t1425 hI1426 hF1427 hq1428 => ?_)
              have hF1429 : Fr [90, 91, 92, 93, 94, 95, 96] [(81, 13), (81, 14), (81, 15), (81, 22), (81, 23), (81, 24), (81, 25), (81, 26), (81, 27), (81, 28), (81, 29), (81, 32), (81, 33), (81, 34), (81, 35), (81, 36), (81, 37)] M M1424 := fr_call hF1417 hF1427 (by decide) (by decide)
              have hr1430 := iv_81_36 hI1426
              refine ifs (fun hc1431 => ?_) (fun hc1432 => ?_)
              · skip
                have hx1433 : M1424 90 16 = M1412 90 16 := hF1427 90 16 (by decide) (by decide)
                have hx1434 : M1412 90 16 = M1397 90 16 := hF1415 90 16 (by decide) (by decide)
                have hx1435 : M1397 90 16 = M 90 16 := hF1400 90 16 (by decide) (by decide)
                have hx1436 : M1424 90 ((16 : Int32)).toNatClampNeg = M1412 90 ((16 : Int32)).toNatClampNeg := hF1427 90 _ (by decide) (by decide)
                have hr1437 := r90_16 hI1414
                have hx1438 : M1412 90 ((16 : Int32)).toNatClampNeg = M1397 90 ((16 : Int32)).toNatClampNeg := hF1415 90 _ (by decide) (by decide)
                have hr1439 := r90_16 hI1399
                have hx1440 : M1397 90 ((16 : Int32)).toNatClampNeg = M 90 ((16 : Int32)).toNatClampNeg := hF1400 90 _ (by decide) (by decide)
                have hr1441 := r90_16 hI
                have hr1442 := r90_16 hI1426
                refine sf_X11_readLineOf hI1426 (by lia) (fun M1444 t1445 hI1446 hF1447 hq1448 => ?_)
                have hF1449 : Fr [90, 91, 92, 93, 94, 95, 96] [(81, 13), (81, 14), (81, 15), (81, 22), (81, 23), (81, 24), (81, 25), (81, 26), (81, 27), (81, 28), (81, 29), (81, 32), (81, 33), (81, 34), (81, 35), (81, 36), (81, 37)] M M1444 := fr_call hF1429 hF1447 (by decide) (by decide)
                have hr1450 := iv_81_36 hI1446
                refine ifs (fun hc1451 => ?_) (fun hc1452 => ?_)
                · skip
                  have hx1453 : M1412 81 34 = M1397 81 34 := hF1415 81 34 (by decide) (by decide)
                  have hx1454 : M1397 81 34 = M 81 34 := hF1400 81 34 (by decide) (by decide)
                  refine ifs (fun hc1455 => ?_) (fun hc1456 => ?_)
                  · skip
                    unfold wX11_readLine_146
                    refine sf_X11_needs hI1446 (by lia) (fun M1458 t1459 hI1460 hF1461 hq1462 => ?_)
                    have hF1463 : Fr [90, 91, 92, 93, 94, 95, 96] [(81, 13), (81, 14), (81, 15), (81, 22), (81, 23), (81, 24), (81, 25), (81, 26), (81, 27), (81, 28), (81, 29), (81, 32), (81, 33), (81, 34), (81, 35), (81, 36), (81, 37)] M M1458 := fr_call hF1449 hF1461 (by decide) (by decide)
                    unfold wX11_readLine_150
                    refine sf_X11_next hI1460  (fun M1465 t1466 hI1467 hF1468 hq1469 => ?_)
                    have hF1470 : Fr [90, 91, 92, 93, 94, 95, 96] [(81, 13), (81, 14), (81, 15), (81, 22), (81, 23), (81, 24), (81, 25), (81, 26), (81, 27), (81, 28), (81, 29), (81, 32), (81, 33), (81, 34), (81, 35), (81, 36), (81, 37)] M M1465 := fr_call hF1463 hF1468 (by decide) (by decide)
                    have hx1471 : M1458 81 32 = M1444 81 32 := hF1461 81 32 (by decide) (by decide)
                    have hx1472 : M1412 81 32 = M1397 81 32 := hF1415 81 32 (by decide) (by decide)
                    have hx1473 : M1397 81 32 = M 81 32 := hF1400 81 32 (by decide) (by decide)
                    have hr1474 := iv_81_32 hI1467
                    have hx1475 : M1458 81 34 = M1444 81 34 := hF1461 81 34 (by decide) (by decide)
                    have hr1476 := iv_81_36 hI1467
                    exact hp _ _ hI1467 hF1470 (by lia)
                  · skip
                    unfold wX11_readLine_146
                    refine sf_X11_needs hI1446 (by lia) (fun M1478 t1479 hI1480 hF1481 hq1482 => ?_)
                    have hF1483 : Fr [90, 91, 92, 93, 94, 95, 96] [(81, 13), (81, 14), (81, 15), (81, 22), (81, 23), (81, 24), (81, 25), (81, 26), (81, 27), (81, 28), (81, 29), (81, 32), (81, 33), (81, 34), (81, 35), (81, 36), (81, 37)] M M1478 := fr_call hF1449 hF1481 (by decide) (by decide)
                    unfold wX11_readLine_150
                    refine sf_X11_next hI1480  (fun M1485 t1486 hI1487 hF1488 hq1489 => ?_)
                    have hF1490 : Fr [90, 91, 92, 93, 94, 95, 96] [(81, 13), (81, 14), (81, 15), (81, 22), (81, 23), (81, 24), (81, 25), (81, 26), (81, 27), (81, 28), (81, 29), (81, 32), (81, 33), (81, 34), (81, 35), (81, 36), (81, 37)] M M1485 := fr_call hF1483 hF1488 (by decide) (by decide)
                    have hx1491 : M1478 81 32 = M1444 81 32 := hF1481 81 32 (by decide) (by decide)
                    have hx1492 : M1412 81 32 = M1397 81 32 := hF1415 81 32 (by decide) (by decide)
                    have hx1493 : M1397 81 32 = M 81 32 := hF1400 81 32 (by decide) (by decide)
                    have hr1494 := iv_81_32 hI1487
                    have hx1495 : M1478 81 34 = M1444 81 34 := hF1481 81 34 (by decide) (by decide)
                    have hr1496 := iv_81_36 hI1487
                    exact hp _ _ hI1487 hF1490 (by lia)
                · skip
                  unfold wX11_readLine_150
                  refine sf_X11_next hI1446  (fun M1498 t1499 hI1500 hF1501 hq1502 => ?_)
                  have hF1503 : Fr [90, 91, 92, 93, 94, 95, 96] [(81, 13), (81, 14), (81, 15), (81, 22), (81, 23), (81, 24), (81, 25), (81, 26), (81, 27), (81, 28), (81, 29), (81, 32), (81, 33), (81, 34), (81, 35), (81, 36), (81, 37)] M M1498 := fr_call hF1449 hF1501 (by decide) (by decide)
                  have hx1504 : M1412 81 32 = M1397 81 32 := hF1415 81 32 (by decide) (by decide)
                  have hx1505 : M1397 81 32 = M 81 32 := hF1400 81 32 (by decide) (by decide)
                  have hr1506 := iv_81_32 hI1500
                  have hx1507 : M1412 81 34 = M1397 81 34 := hF1415 81 34 (by decide) (by decide)
                  have hx1508 : M1397 81 34 = M 81 34 := hF1400 81 34 (by decide) (by decide)
                  have hr1509 := iv_81_36 hI1500
                  exact hp _ _ hI1500 hF1503 (by lia)
              · skip
                have hx1510 : M1412 81 32 = M1397 81 32 := hF1415 81 32 (by decide) (by decide)
                have hx1511 : M1397 81 32 = M 81 32 := hF1400 81 32 (by decide) (by decide)
                have hr1512 := iv_81_32 hI1426
                have hx1513 : M1412 81 34 = M1397 81 34 := hF1415 81 34 (by decide) (by decide)
                have hx1514 : M1397 81 34 = M 81 34 := hF1400 81 34 (by decide) (by decide)
                exact hp _ _ hI1426 hF1429 (by lia)
            · skip
              have hm1515 : (0 : Int32) ≤ (((M1412 81 23) >>> (r3 &&& (31 : Int32))) &&& (1 : Int32)) ∧ (((M1412 81 23) >>> (r3 &&& (31 : Int32))) &&& (1 : Int32)) ≤ (1 : Int32) := andc ((M1412 81 23) >>> (r3 &&& (31 : Int32))) 1 (by decide)
              have hx1516 : M1412 81 23 = M1397 81 23 := hF1415 81 23 (by decide) (by decide)
              have hx1517 : M1397 81 23 = M 81 23 := hF1400 81 23 (by decide) (by decide)
              have hm1518 : (0 : Int32) ≤ (r3 &&& (31 : Int32)) ∧ (r3 &&& (31 : Int32)) ≤ (31 : Int32) := andc r3 31 (by decide)
              refine ifs (fun hc1519 => ?_) (fun hc1520 => ?_)
              · skip
                unfold wX11_readLine_92
                refine sf_X11_needs hI1414 (by lia) (fun M1522 t1523 hI1524 hF1525 hq1526 => ?_)
                have hF1527 : Fr [90, 91, 92, 93, 94, 95, 96] [(81, 13), (81, 14), (81, 15), (81, 22), (81, 23), (81, 24), (81, 25), (81, 26), (81, 27), (81, 28), (81, 29), (81, 32), (81, 33), (81, 34), (81, 35), (81, 36), (81, 37)] M M1522 := fr_call hF1417 hF1525 (by decide) (by decide)
                have hx1530 : M1522 81 23 = M1412 81 23 := hF1525 81 23 (by decide) (by decide)
                have hx1531 : M1412 81 23 = M1397 81 23 := hF1415 81 23 (by decide) (by decide)
                have hx1532 : M1397 81 23 = M 81 23 := hF1400 81 23 (by decide) (by decide)
                intro W1528 hW1529
                have hI1533 : Inv W1528 := by rw [hW1529]; exact inv_set hI1524 (i_any _)
                have hF1534 : Fr [90, 91, 92, 93, 94, 95, 96] [(81, 13), (81, 14), (81, 15), (81, 22), (81, 23), (81, 24), (81, 25), (81, 26), (81, 27), (81, 28), (81, 29), (81, 32), (81, 33), (81, 34), (81, 35), (81, 36), (81, 37)] M W1528 := by rw [hW1529]; exact fr_fld hF1527 (by decide)
                have hv1535 : W1528 81 23 = ((M1522 81 23) ||| ((1 : Int32) <<< (r3 &&& (31 : Int32)))) := by rw [hW1529]; exact mset_at _ _ _ _
                unfold wX11_readLine_108
                refine sf_X11_next hI1533  (fun M1537 t1538 hI1539 hF1540 hq1541 => ?_)
                have hF1542 : Fr [90, 91, 92, 93, 94, 95, 96] [(81, 13), (81, 14), (81, 15), (81, 22), (81, 23), (81, 24), (81, 25), (81, 26), (81, 27), (81, 28), (81, 29), (81, 32), (81, 33), (81, 34), (81, 35), (81, 36), (81, 37)] M M1537 := fr_call hF1534 hF1540 (by decide) (by decide)
                have hx1543 : W1528 81 36 = M1522 81 36 := by rw [hW1529, mset_nk (by decide)]
                have hr1544 := iv_81_36 hI1539
                refine ifs (fun hc1545 => ?_) (fun hc1546 => ?_)
                · skip
                  have hx1547 : M1537 90 16 = W1528 90 16 := hF1540 90 16 (by decide) (by decide)
                  have hx1548 : W1528 90 16 = M1522 90 16 := by rw [hW1529, mset_ne (by decide)]
                  have hx1549 : M1522 90 16 = M1412 90 16 := hF1525 90 16 (by decide) (by decide)
                  have hx1550 : M1412 90 16 = M1397 90 16 := hF1415 90 16 (by decide) (by decide)
                  have hx1551 : M1397 90 16 = M 90 16 := hF1400 90 16 (by decide) (by decide)
                  have hx1552 : M1537 90 ((16 : Int32)).toNatClampNeg = W1528 90 ((16 : Int32)).toNatClampNeg := hF1540 90 _ (by decide) (by decide)
                  have hr1553 := r90_16 hI1533
                  have hx1554 : W1528 90 ((16 : Int32)).toNatClampNeg = M1522 90 ((16 : Int32)).toNatClampNeg := by rw [hW1529, mset_ne (by decide)]
                  have hr1555 := r90_16 hI1524
                  have hx1556 : M1522 90 ((16 : Int32)).toNatClampNeg = M1412 90 ((16 : Int32)).toNatClampNeg := hF1525 90 _ (by decide) (by decide)
                  have hr1557 := r90_16 hI1414
                  have hx1558 : M1412 90 ((16 : Int32)).toNatClampNeg = M1397 90 ((16 : Int32)).toNatClampNeg := hF1415 90 _ (by decide) (by decide)
                  have hr1559 := r90_16 hI1399
                  have hx1560 : M1397 90 ((16 : Int32)).toNatClampNeg = M 90 ((16 : Int32)).toNatClampNeg := hF1400 90 _ (by decide) (by decide)
                  have hr1561 := r90_16 hI
                  have hr1562 := r90_16 hI1539
                  refine sf_X11_readLineOf hI1539 (by lia) (fun M1564 t1565 hI1566 hF1567 hq1568 => ?_)
                  have hF1569 : Fr [90, 91, 92, 93, 94, 95, 96] [(81, 13), (81, 14), (81, 15), (81, 22), (81, 23), (81, 24), (81, 25), (81, 26), (81, 27), (81, 28), (81, 29), (81, 32), (81, 33), (81, 34), (81, 35), (81, 36), (81, 37)] M M1564 := fr_call hF1542 hF1567 (by decide) (by decide)
                  have hr1570 := iv_81_36 hI1566
                  refine ifs (fun hc1571 => ?_) (fun hc1572 => ?_)
                  · skip
                    have hx1573 : W1528 81 34 = M1522 81 34 := by rw [hW1529, mset_nk (by decide)]
                    have hx1574 : M1522 81 34 = M1412 81 34 := hF1525 81 34 (by decide) (by decide)
                    have hx1575 : M1412 81 34 = M1397 81 34 := hF1415 81 34 (by decide) (by decide)
                    have hx1576 : M1397 81 34 = M 81 34 := hF1400 81 34 (by decide) (by decide)
                    refine ifs (fun hc1577 => ?_) (fun hc1578 => ?_)
                    · skip
                      unfold wX11_readLine_146
                      refine sf_X11_needs hI1566 (by lia) (fun M1580 t1581 hI1582 hF1583 hq1584 => ?_)
                      have hF1585 : Fr [90, 91, 92, 93, 94, 95, 96] [(81, 13), (81, 14), (81, 15), (81, 22), (81, 23), (81, 24), (81, 25), (81, 26), (81, 27), (81, 28), (81, 29), (81, 32), (81, 33), (81, 34), (81, 35), (81, 36), (81, 37)] M M1580 := fr_call hF1569 hF1583 (by decide) (by decide)
                      unfold wX11_readLine_150
                      refine sf_X11_next hI1582  (fun M1587 t1588 hI1589 hF1590 hq1591 => ?_)
                      have hF1592 : Fr [90, 91, 92, 93, 94, 95, 96] [(81, 13), (81, 14), (81, 15), (81, 22), (81, 23), (81, 24), (81, 25), (81, 26), (81, 27), (81, 28), (81, 29), (81, 32), (81, 33), (81, 34), (81, 35), (81, 36), (81, 37)] M M1587 := fr_call hF1585 hF1590 (by decide) (by decide)
                      have hx1593 : M1580 81 32 = M1564 81 32 := hF1583 81 32 (by decide) (by decide)
                      have hx1594 : W1528 81 32 = M1522 81 32 := by rw [hW1529, mset_nk (by decide)]
                      have hx1595 : M1522 81 32 = M1412 81 32 := hF1525 81 32 (by decide) (by decide)
                      have hx1596 : M1412 81 32 = M1397 81 32 := hF1415 81 32 (by decide) (by decide)
                      have hx1597 : M1397 81 32 = M 81 32 := hF1400 81 32 (by decide) (by decide)
                      have hr1598 := iv_81_32 hI1589
                      have hx1599 : M1580 81 34 = M1564 81 34 := hF1583 81 34 (by decide) (by decide)
                      have hr1600 := iv_81_36 hI1589
                      exact hp _ _ hI1589 hF1592 (by lia)
                    · skip
                      unfold wX11_readLine_146
                      refine sf_X11_needs hI1566 (by lia) (fun M1602 t1603 hI1604 hF1605 hq1606 => ?_)
                      have hF1607 : Fr [90, 91, 92, 93, 94, 95, 96] [(81, 13), (81, 14), (81, 15), (81, 22), (81, 23), (81, 24), (81, 25), (81, 26), (81, 27), (81, 28), (81, 29), (81, 32), (81, 33), (81, 34), (81, 35), (81, 36), (81, 37)] M M1602 := fr_call hF1569 hF1605 (by decide) (by decide)
                      unfold wX11_readLine_150
                      refine sf_X11_next hI1604  (fun M1609 t1610 hI1611 hF1612 hq1613 => ?_)
                      have hF1614 : Fr [90, 91, 92, 93, 94, 95, 96] [(81, 13), (81, 14), (81, 15), (81, 22), (81, 23), (81, 24), (81, 25), (81, 26), (81, 27), (81, 28), (81, 29), (81, 32), (81, 33), (81, 34), (81, 35), (81, 36), (81, 37)] M M1609 := fr_call hF1607 hF1612 (by decide) (by decide)
                      have hx1615 : M1602 81 32 = M1564 81 32 := hF1605 81 32 (by decide) (by decide)
                      have hx1616 : W1528 81 32 = M1522 81 32 := by rw [hW1529, mset_nk (by decide)]
                      have hx1617 : M1522 81 32 = M1412 81 32 := hF1525 81 32 (by decide) (by decide)
                      have hx1618 : M1412 81 32 = M1397 81 32 := hF1415 81 32 (by decide) (by decide)
                      have hx1619 : M1397 81 32 = M 81 32 := hF1400 81 32 (by decide) (by decide)
                      have hr1620 := iv_81_32 hI1611
                      have hx1621 : M1602 81 34 = M1564 81 34 := hF1605 81 34 (by decide) (by decide)
                      have hr1622 := iv_81_36 hI1611
                      exact hp _ _ hI1611 hF1614 (by lia)
                  · skip
                    unfold wX11_readLine_150
                    refine sf_X11_next hI1566  (fun M1624 t1625 hI1626 hF1627 hq1628 => ?_)
                    have hF1629 : Fr [90, 91, 92, 93, 94, 95, 96] [(81, 13), (81, 14), (81, 15), (81, 22), (81, 23), (81, 24), (81, 25), (81, 26), (81, 27), (81, 28), (81, 29), (81, 32), (81, 33), (81, 34), (81, 35), (81, 36), (81, 37)] M M1624 := fr_call hF1569 hF1627 (by decide) (by decide)
                    have hx1630 : W1528 81 32 = M1522 81 32 := by rw [hW1529, mset_nk (by decide)]
                    have hx1631 : M1522 81 32 = M1412 81 32 := hF1525 81 32 (by decide) (by decide)
                    have hx1632 : M1412 81 32 = M1397 81 32 := hF1415 81 32 (by decide) (by decide)
                    have hx1633 : M1397 81 32 = M 81 32 := hF1400 81 32 (by decide) (by decide)
                    have hr1634 := iv_81_32 hI1626
                    have hx1635 : W1528 81 34 = M1522 81 34 := by rw [hW1529, mset_nk (by decide)]
                    have hx1636 : M1522 81 34 = M1412 81 34 := hF1525 81 34 (by decide) (by decide)
                    have hx1637 : M1412 81 34 = M1397 81 34 := hF1415 81 34 (by decide) (by decide)
                    have hx1638 : M1397 81 34 = M 81 34 := hF1400 81 34 (by decide) (by decide)
                    have hr1639 := iv_81_36 hI1626
                    exact hp _ _ hI1626 hF1629 (by lia)
                · skip
                  have hx1640 : W1528 81 32 = M1522 81 32 := by rw [hW1529, mset_nk (by decide)]
                  have hx1641 : M1522 81 32 = M1412 81 32 := hF1525 81 32 (by decide) (by decide)
                  have hx1642 : M1412 81 32 = M1397 81 32 := hF1415 81 32 (by decide) (by decide)
                  have hx1643 : M1397 81 32 = M 81 32 := hF1400 81 32 (by decide) (by decide)
                  have hr1644 := iv_81_32 hI1539
                  have hx1645 : W1528 81 34 = M1522 81 34 := by rw [hW1529, mset_nk (by decide)]
                  have hx1646 : M1522 81 34 = M1412 81 34 := hF1525 81 34 (by decide) (by decide)
                  have hx1647 : M1412 81 34 = M1397 81 34 := hF1415 81 34 (by decide) (by decide)
                  have hx1648 : M1397 81 34 = M 81 34 := hF1400 81 34 (by decide) (by decide)
                  exact hp _ _ hI1539 hF1542 (by lia)
              · skip
                unfold wX11_readLine_92
                refine sf_X11_needs hI1414 (by lia) (fun M1650 t1651 hI1652 hF1653 hq1654 => ?_)
                have hF1655 : Fr [90, 91, 92, 93, 94, 95, 96] [(81, 13), (81, 14), (81, 15), (81, 22), (81, 23), (81, 24), (81, 25), (81, 26), (81, 27), (81, 28), (81, 29), (81, 32), (81, 33), (81, 34), (81, 35), (81, 36), (81, 37)] M M1650 := fr_call hF1417 hF1653 (by decide) (by decide)
                have hx1658 : M1650 81 23 = M1412 81 23 := hF1653 81 23 (by decide) (by decide)
                have hx1659 : M1412 81 23 = M1397 81 23 := hF1415 81 23 (by decide) (by decide)
                have hx1660 : M1397 81 23 = M 81 23 := hF1400 81 23 (by decide) (by decide)
                intro W1656 hW1657
                have hI1661 : Inv W1656 := by rw [hW1657]; exact inv_set hI1652 (i_any _)
                have hF1662 : Fr [90, 91, 92, 93, 94, 95, 96] [(81, 13), (81, 14), (81, 15), (81, 22), (81, 23), (81, 24), (81, 25), (81, 26), (81, 27), (81, 28), (81, 29), (81, 32), (81, 33), (81, 34), (81, 35), (81, 36), (81, 37)] M W1656 := by rw [hW1657]; exact fr_fld hF1655 (by decide)
                have hv1663 : W1656 81 23 = ((M1650 81 23) ||| ((1 : Int32) <<< (r3 &&& (31 : Int32)))) := by rw [hW1657]; exact mset_at _ _ _ _
                unfold wX11_readLine_108
                refine sf_X11_next hI1661  (fun M1665 t1666 hI1667 hF1668 hq1669 => ?_)
                have hF1670 : Fr [90, 91, 92, 93, 94, 95, 96] [(81, 13), (81, 14), (81, 15), (81, 22), (81, 23), (81, 24), (81, 25), (81, 26), (81, 27), (81, 28), (81, 29), (81, 32), (81, 33), (81, 34), (81, 35), (81, 36), (81, 37)] M M1665 := fr_call hF1662 hF1668 (by decide) (by decide)
                have hx1671 : W1656 81 36 = M1650 81 36 := by rw [hW1657, mset_nk (by decide)]
                have hr1672 := iv_81_36 hI1667
                refine ifs (fun hc1673 => ?_) (fun hc1674 => ?_)
                · skip
                  have hx1675 : M1665 90 16 = W1656 90 16 := hF1668 90 16 (by decide) (by decide)
                  have hx1676 : W1656 90 16 = M1650 90 16 := by rw [hW1657, mset_ne (by decide)]
                  have hx1677 : M1650 90 16 = M1412 90 16 := hF1653 90 16 (by decide) (by decide)
                  have hx1678 : M1412 90 16 = M1397 90 16 := hF1415 90 16 (by decide) (by decide)
                  have hx1679 : M1397 90 16 = M 90 16 := hF1400 90 16 (by decide) (by decide)
                  have hx1680 : M1665 90 ((16 : Int32)).toNatClampNeg = W1656 90 ((16 : Int32)).toNatClampNeg := hF1668 90 _ (by decide) (by decide)
                  have hr1681 := r90_16 hI1661
                  have hx1682 : W1656 90 ((16 : Int32)).toNatClampNeg = M1650 90 ((16 : Int32)).toNatClampNeg := by rw [hW1657, mset_ne (by decide)]
                  have hr1683 := r90_16 hI1652
                  have hx1684 : M1650 90 ((16 : Int32)).toNatClampNeg = M1412 90 ((16 : Int32)).toNatClampNeg := hF1653 90 _ (by decide) (by decide)
                  have hr1685 := r90_16 hI1414
                  have hx1686 : M1412 90 ((16 : Int32)).toNatClampNeg = M1397 90 ((16 : Int32)).toNatClampNeg := hF1415 90 _ (by decide) (by decide)
                  have hr1687 := r90_16 hI1399
                  have hx1688 : M1397 90 ((16 : Int32)).toNatClampNeg = M 90 ((16 : Int32)).toNatClampNeg := hF1400 90 _ (by decide) (by decide)
                  have hr1689 := r90_16 hI
                  have hr1690 := r90_16 hI1667
                  refine sf_X11_readLineOf hI1667 (by lia) (fun M1692 t1693 hI1694 hF1695 hq1696 => ?_)
                  have hF1697 : Fr [90, 91, 92, 93, 94, 95, 96] [(81, 13), (81, 14), (81, 15), (81, 22), (81, 23), (81, 24), (81, 25), (81, 26), (81, 27), (81, 28), (81, 29), (81, 32), (81, 33), (81, 34), (81, 35), (81, 36), (81, 37)] M M1692 := fr_call hF1670 hF1695 (by decide) (by decide)
                  have hr1698 := iv_81_36 hI1694
                  refine ifs (fun hc1699 => ?_) (fun hc1700 => ?_)
                  · skip
                    have hx1701 : W1656 81 34 = M1650 81 34 := by rw [hW1657, mset_nk (by decide)]
                    have hx1702 : M1650 81 34 = M1412 81 34 := hF1653 81 34 (by decide) (by decide)
                    have hx1703 : M1412 81 34 = M1397 81 34 := hF1415 81 34 (by decide) (by decide)
                    have hx1704 : M1397 81 34 = M 81 34 := hF1400 81 34 (by decide) (by decide)
                    refine ifs (fun hc1705 => ?_) (fun hc1706 => ?_)
                    · skip
                      unfold wX11_readLine_146
                      refine sf_X11_needs hI1694 (by lia) (fun M1708 t1709 hI1710 hF1711 hq1712 => ?_)
                      have hF1713 : Fr [90, 91, 92, 93, 94, 95, 96] [(81, 13), (81, 14), (81, 15), (81, 22), (81, 23), (81, 24), (81, 25), (81, 26), (81, 27), (81, 28), (81, 29), (81, 32), (81, 33), (81, 34), (81, 35), (81, 36), (81, 37)] M M1708 := fr_call hF1697 hF1711 (by decide) (by decide)
                      unfold wX11_readLine_150
                      refine sf_X11_next hI1710  (fun M1715 t1716 hI1717 hF1718 hq1719 => ?_)
                      have hF1720 : Fr [90, 91, 92, 93, 94, 95, 96] [(81, 13), (81, 14), (81, 15), (81, 22), (81, 23), (81, 24), (81, 25), (81, 26), (81, 27), (81, 28), (81, 29), (81, 32), (81, 33), (81, 34), (81, 35), (81, 36), (81, 37)] M M1715 := fr_call hF1713 hF1718 (by decide) (by decide)
                      have hx1721 : M1708 81 32 = M1692 81 32 := hF1711 81 32 (by decide) (by decide)
                      have hx1722 : W1656 81 32 = M1650 81 32 := by rw [hW1657, mset_nk (by decide)]
                      have hx1723 : M1650 81 32 = M1412 81 32 := hF1653 81 32 (by decide) (by decide)
                      have hx1724 : M1412 81 32 = M1397 81 32 := hF1415 81 32 (by decide) (by decide)
                      have hx1725 : M1397 81 32 = M 81 32 := hF1400 81 32 (by decide) (by decide)
                      have hr1726 := iv_81_32 hI1717
                      have hx1727 : M1708 81 34 = M1692 81 34 := hF1711 81 34 (by decide) (by decide)
                      have hr1728 := iv_81_36 hI1717
                      exact hp _ _ hI1717 hF1720 (by lia)
                    · skip
                      unfold wX11_readLine_146
                      refine sf_X11_needs hI1694 (by lia) (fun M1730 t1731 hI1732 hF1733 hq1734 => ?_)
                      have hF1735 : Fr [90, 91, 92, 93, 94, 95, 96] [(81, 13), (81, 14), (81, 15), (81, 22), (81, 23), (81, 24), (81, 25), (81, 26), (81, 27), (81, 28), (81, 29), (81, 32), (81, 33), (81, 34), (81, 35), (81, 36), (81, 37)] M M1730 := fr_call hF1697 hF1733 (by decide) (by decide)
                      unfold wX11_readLine_150
                      refine sf_X11_next hI1732  (fun M1737 t1738 hI1739 hF1740 hq1741 => ?_)
                      have hF1742 : Fr [90, 91, 92, 93, 94, 95, 96] [(81, 13), (81, 14), (81, 15), (81, 22), (81, 23), (81, 24), (81, 25), (81, 26), (81, 27), (81, 28), (81, 29), (81, 32), (81, 33), (81, 34), (81, 35), (81, 36), (81, 37)] M M1737 := fr_call hF1735 hF1740 (by decide) (by decide)
                      have hx1743 : M1730 81 32 = M1692 81 32 := hF1733 81 32 (by decide) (by decide)
                      have hx1744 : W1656 81 32 = M1650 81 32 := by rw [hW1657, mset_nk (by decide)]
                      have hx1745 : M1650 81 32 = M1412 81 32 := hF1653 81 32 (by decide) (by decide)
                      have hx1746 : M1412 81 32 = M1397 81 32 := hF1415 81 32 (by decide) (by decide)
                      have hx1747 : M1397 81 32 = M 81 32 := hF1400 81 32 (by decide) (by decide)
                      have hr1748 := iv_81_32 hI1739
                      have hx1749 : M1730 81 34 = M1692 81 34 := hF1733 81 34 (by decide) (by decide)
                      have hr1750 := iv_81_36 hI1739
                      exact hp _ _ hI1739 hF1742 (by lia)
                  · skip
                    unfold wX11_readLine_150
                    refine sf_X11_next hI1694  (fun M1752 t1753 hI1754 hF1755 hq1756 => ?_)
                    have hF1757 : Fr [90, 91, 92, 93, 94, 95, 96] [(81, 13), (81, 14), (81, 15), (81, 22), (81, 23), (81, 24), (81, 25), (81, 26), (81, 27), (81, 28), (81, 29), (81, 32), (81, 33), (81, 34), (81, 35), (81, 36), (81, 37)] M M1752 := fr_call hF1697 hF1755 (by decide) (by decide)
                    have hx1758 : W1656 81 32 = M1650 81 32 := by rw [hW1657, mset_nk (by decide)]
                    have hx1759 : M1650 81 32 = M1412 81 32 := hF1653 81 32 (by decide) (by decide)
                    have hx1760 : M1412 81 32 = M1397 81 32 := hF1415 81 32 (by decide) (by decide)
                    have hx1761 : M1397 81 32 = M 81 32 := hF1400 81 32 (by decide) (by decide)
                    have hr1762 := iv_81_32 hI1754
                    have hx1763 : W1656 81 34 = M1650 81 34 := by rw [hW1657, mset_nk (by decide)]
                    have hx1764 : M1650 81 34 = M1412 81 34 := hF1653 81 34 (by decide) (by decide)
                    have hx1765 : M1412 81 34 = M1397 81 34 := hF1415 81 34 (by decide) (by decide)
                    have hx1766 : M1397 81 34 = M 81 34 := hF1400 81 34 (by decide) (by decide)
                    have hr1767 := iv_81_36 hI1754
                    exact hp _ _ hI1754 hF1757 (by lia)
                · skip
                  have hx1768 : W1656 81 32 = M1650 81 32 := by rw [hW1657, mset_nk (by decide)]
                  have hx1769 : M1650 81 32 = M1412 81 32 := hF1653 81 32 (by decide) (by decide)
                  have hx1770 : M1412 81 32 = M1397 81 32 := hF1415 81 32 (by decide) (by decide)
                  have hx1771 : M1397 81 32 = M 81 32 := hF1400 81 32 (by decide) (by decide)
                  have hr1772 := iv_81_32 hI1667
                  have hx1773 : W1656 81 34 = M1650 81 34 := by rw [hW1657, mset_nk (by decide)]
                  have hx1774 : M1650 81 34 = M1412 81 34 := hF1653 81 34 (by decide) (by decide)
                  have hx1775 : M1412 81 34 = M1397 81 34 := hF1415 81 34 (by decide) (by decide)
                  have hx1776 : M1397 81 34 = M 81 34 := hF1400 81 34 (by decide) (by decide)
                  exact hp _ _ hI1667 hF1670 (by lia)
          · skip
            unfold wX11_readLine_108
            refine sf_X11_next hI1414  (fun M1778 t1779 hI1780 hF1781 hq1782 => ?_)
            have hF1783 : Fr [90, 91, 92, 93, 94, 95, 96] [(81, 13), (81, 14), (81, 15), (81, 22), (81, 23), (81, 24), (81, 25), (81, 26), (81, 27), (81, 28), (81, 29), (81, 32), (81, 33), (81, 34), (81, 35), (81, 36), (81, 37)] M M1778 := fr_call hF1417 hF1781 (by decide) (by decide)
            have hr1784 := iv_81_36 hI1780
            refine ifs (fun hc1785 => ?_) (fun hc1786 => ?_)
            · skip
              have hx1787 : M1778 90 16 = M1412 90 16 := hF1781 90 16 (by decide) (by decide)
              have hx1788 : M1412 90 16 = M1397 90 16 := hF1415 90 16 (by decide) (by decide)
              have hx1789 : M1397 90 16 = M 90 16 := hF1400 90 16 (by decide) (by decide)
              have hx1790 : M1778 90 ((16 : Int32)).toNatClampNeg = M1412 90 ((16 : Int32)).toNatClampNeg := hF1781 90 _ (by decide) (by decide)
              have hr1791 := r90_16 hI1414
              have hx1792 : M1412 90 ((16 : Int32)).toNatClampNeg = M1397 90 ((16 : Int32)).toNatClampNeg := hF1415 90 _ (by decide) (by decide)
              have hr1793 := r90_16 hI1399
              have hx1794 : M1397 90 ((16 : Int32)).toNatClampNeg = M 90 ((16 : Int32)).toNatClampNeg := hF1400 90 _ (by decide) (by decide)
              have hr1795 := r90_16 hI
              have hr1796 := r90_16 hI1780
              refine sf_X11_readLineOf hI1780 (by lia) (fun M1798 t1799 hI1800 hF1801 hq1802 => ?_)
              have hF1803 : Fr [90, 91, 92, 93, 94, 95, 96] [(81, 13), (81, 14), (81, 15), (81, 22), (81, 23), (81, 24), (81, 25), (81, 26), (81, 27), (81, 28), (81, 29), (81, 32), (81, 33), (81, 34), (81, 35), (81, 36), (81, 37)] M M1798 := fr_call hF1783 hF1801 (by decide) (by decide)
              have hr1804 := iv_81_36 hI1800
              refine ifs (fun hc1805 => ?_) (fun hc1806 => ?_)
              · skip
                have hx1807 : M1412 81 34 = M1397 81 34 := hF1415 81 34 (by decide) (by decide)
                have hx1808 : M1397 81 34 = M 81 34 := hF1400 81 34 (by decide) (by decide)
                refine ifs (fun hc1809 => ?_) (fun hc1810 => ?_)
                · skip
                  unfold wX11_readLine_146
                  refine sf_X11_needs hI1800 (by lia) (fun M1812 t1813 hI1814 hF1815 hq1816 => ?_)
                  have hF1817 : Fr [90, 91, 92, 93, 94, 95, 96] [(81, 13), (81, 14), (81, 15), (81, 22), (81, 23), (81, 24), (81, 25), (81, 26), (81, 27), (81, 28), (81, 29), (81, 32), (81, 33), (81, 34), (81, 35), (81, 36), (81, 37)] M M1812 := fr_call hF1803 hF1815 (by decide) (by decide)
                  unfold wX11_readLine_150
                  refine sf_X11_next hI1814  (fun M1819 t1820 hI1821 hF1822 hq1823 => ?_)
                  have hF1824 : Fr [90, 91, 92, 93, 94, 95, 96] [(81, 13), (81, 14), (81, 15), (81, 22), (81, 23), (81, 24), (81, 25), (81, 26), (81, 27), (81, 28), (81, 29), (81, 32), (81, 33), (81, 34), (81, 35), (81, 36), (81, 37)] M M1819 := fr_call hF1817 hF1822 (by decide) (by decide)
                  have hx1825 : M1812 81 32 = M1798 81 32 := hF1815 81 32 (by decide) (by decide)
                  have hx1826 : M1412 81 32 = M1397 81 32 := hF1415 81 32 (by decide) (by decide)
                  have hx1827 : M1397 81 32 = M 81 32 := hF1400 81 32 (by decide) (by decide)
                  have hr1828 := iv_81_32 hI1821
                  have hx1829 : M1812 81 34 = M1798 81 34 := hF1815 81 34 (by decide) (by decide)
                  have hr1830 := iv_81_36 hI1821
                  exact hp _ _ hI1821 hF1824 (by lia)
                · skip
                  unfold wX11_readLine_146
                  refine sf_X11_needs hI1800 (by lia) (fun M1832 t1833 hI1834 hF1835 hq1836 => ?_)
                  have hF1837 : Fr [90, 91, 92, 93, 94, 95, 96] [(81, 13), (81, 14), (81, 15), (81, 22), (81, 23), (81, 24), (81, 25), (81, 26), (81, 27), (81, 28), (81, 29), (81, 32), (81, 33), (81, 34), (81, 35), (81, 36), (81, 37)] M M1832 := fr_call hF1803 hF1835 (by decide) (by decide)
                  unfold wX11_readLine_150
                  refine sf_X11_next hI1834  (fun M1839 t1840 hI1841 hF1842 hq1843 => ?_)
                  have hF1844 : Fr [90, 91, 92, 93, 94, 95, 96] [(81, 13), (81, 14), (81, 15), (81, 22), (81, 23), (81, 24), (81, 25), (81, 26), (81, 27), (81, 28), (81, 29), (81, 32), (81, 33), (81, 34), (81, 35), (81, 36), (81, 37)] M M1839 := fr_call hF1837 hF1842 (by decide) (by decide)
                  have hx1845 : M1832 81 32 = M1798 81 32 := hF1835 81 32 (by decide) (by decide)
                  have hx1846 : M1412 81 32 = M1397 81 32 := hF1415 81 32 (by decide) (by decide)
                  have hx1847 : M1397 81 32 = M 81 32 := hF1400 81 32 (by decide) (by decide)
                  have hr1848 := iv_81_32 hI1841
                  have hx1849 : M1832 81 34 = M1798 81 34 := hF1835 81 34 (by decide) (by decide)
                  have hr1850 := iv_81_36 hI1841
                  exact hp _ _ hI1841 hF1844 (by lia)
              · skip
                unfold wX11_readLine_150
                refine sf_X11_next hI1800  (fun M1852 t1853 hI1854 hF1855 hq1856 => ?_)
                have hF1857 : Fr [90, 91, 92, 93, 94, 95, 96] [(81, 13), (81, 14), (81, 15), (81, 22), (81, 23), (81, 24), (81, 25), (81, 26), (81, 27), (81, 28), (81, 29), (81, 32), (81, 33), (81, 34), (81, 35), (81, 36), (81, 37)] M M1852 := fr_call hF1803 hF1855 (by decide) (by decide)
                have hx1858 : M1412 81 32 = M1397 81 32 := hF1415 81 32 (by decide) (by decide)
                have hx1859 : M1397 81 32 = M 81 32 := hF1400 81 32 (by decide) (by decide)
                have hr1860 := iv_81_32 hI1854
                have hx1861 : M1412 81 34 = M1397 81 34 := hF1415 81 34 (by decide) (by decide)
                have hx1862 : M1397 81 34 = M 81 34 := hF1400 81 34 (by decide) (by decide)
                have hr1863 := iv_81_36 hI1854
                exact hp _ _ hI1854 hF1857 (by lia)
            · skip
              have hx1864 : M1412 81 32 = M1397 81 32 := hF1415 81 32 (by decide) (by decide)
              have hx1865 : M1397 81 32 = M 81 32 := hF1400 81 32 (by decide) (by decide)
              have hr1866 := iv_81_32 hI1780
              have hx1867 : M1412 81 34 = M1397 81 34 := hF1415 81 34 (by decide) (by decide)
              have hx1868 : M1397 81 34 = M 81 34 := hF1400 81 34 (by decide) (by decide)
              exact hp _ _ hI1780 hF1783 (by lia)
        · skip
          unfold wX11_readLine_53
          unfold wX11_readLine_58
          refine sf_X11_needs hI1399 (by lia) (fun M1870 t1871 hI1872 hF1873 hq1874 => ?_)
          have hF1875 : Fr [90, 91, 92, 93, 94, 95, 96] [(81, 13), (81, 14), (81, 15), (81, 22), (81, 23), (81, 24), (81, 25), (81, 26), (81, 27), (81, 28), (81, 29), (81, 32), (81, 33), (81, 34), (81, 35), (81, 36), (81, 37)] M M1870 := fr_call hF1402 hF1873 (by decide) (by decide)
          have hr1876 := iv_81_36 hI1872
          refine ifs (fun hc1877 => ?_) (fun hc1878 => ?_)
          · skip
            refine ifs (fun hc1879 => ?_) (fun hc1880 => ?_)
            · skip
              unfold wX11_readLine_108
              refine sf_X11_next hI1872  (fun M1882 t1883 hI1884 hF1885 hq1886 => ?_)
              have hF1887 : Fr [90, 91, 92, 93, 94, 95, 96] [(81, 13), (81, 14), (81, 15), (81, 22), (81, 23), (81, 24), (81, 25), (81, 26), (81, 27), (81, 28), (81, 29), (81, 32), (81, 33), (81, 34), (81, 35), (81, 36), (81, 37)] M M1882 := fr_call hF1875 hF1885 (by decide) (by decide)
              have hr1888 := iv_81_36 hI1884
              refine ifs (fun hc1889 => ?_) (fun hc1890 => ?_)
              · skip
                have hx1891 : M1882 90 16 = M1870 90 16 := hF1885 90 16 (by decide) (by decide)
                have hx1892 : M1870 90 16 = M1397 90 16 := hF1873 90 16 (by decide) (by decide)
                have hx1893 : M1397 90 16 = M 90 16 := hF1400 90 16 (by decide) (by decide)
                have hx1894 : M1882 90 ((16 : Int32)).toNatClampNeg = M1870 90 ((16 : Int32)).toNatClampNeg := hF1885 90 _ (by decide) (by decide)
                have hr1895 := r90_16 hI1872
                have hx1896 : M1870 90 ((16 : Int32)).toNatClampNeg = M1397 90 ((16 : Int32)).toNatClampNeg := hF1873 90 _ (by decide) (by decide)
                have hr1897 := r90_16 hI1399
                have hx1898 : M1397 90 ((16 : Int32)).toNatClampNeg = M 90 ((16 : Int32)).toNatClampNeg := hF1400 90 _ (by decide) (by decide)
                have hr1899 := r90_16 hI
                have hr1900 := r90_16 hI1884
                refine sf_X11_readLineOf hI1884 (by lia) (fun M1902 t1903 hI1904 hF1905 hq1906 => ?_)
                have hF1907 : Fr [90, 91, 92, 93, 94, 95, 96] [(81, 13), (81, 14), (81, 15), (81, 22), (81, 23), (81, 24), (81, 25), (81, 26), (81, 27), (81, 28), (81, 29), (81, 32), (81, 33), (81, 34), (81, 35), (81, 36), (81, 37)] M M1902 := fr_call hF1887 hF1905 (by decide) (by decide)
                have hr1908 := iv_81_36 hI1904
                refine ifs (fun hc1909 => ?_) (fun hc1910 => ?_)
                · skip
                  have hx1911 : M1870 81 34 = M1397 81 34 := hF1873 81 34 (by decide) (by decide)
                  have hx1912 : M1397 81 34 = M 81 34 := hF1400 81 34 (by decide) (by decide)
                  refine ifs (fun hc1913 => ?_) (fun hc1914 => ?_)
                  · skip
                    unfold wX11_readLine_146
                    refine sf_X11_needs hI1904 (by lia) (fun M1916 t1917 hI1918 hF1919 hq1920 => ?_)
                    have hF1921 : Fr [90, 91, 92, 93, 94, 95, 96] [(81, 13), (81, 14), (81, 15), (81, 22), (81, 23), (81, 24), (81, 25), (81, 26), (81, 27), (81, 28), (81, 29), (81, 32), (81, 33), (81, 34), (81, 35), (81, 36), (81, 37)] M M1916 := fr_call hF1907 hF1919 (by decide) (by decide)
                    unfold wX11_readLine_150
                    refine sf_X11_next hI1918  (fun M1923 t1924 hI1925 hF1926 hq1927 => ?_)
                    have hF1928 : Fr [90, 91, 92, 93, 94, 95, 96] [(81, 13), (81, 14), (81, 15), (81, 22), (81, 23), (81, 24), (81, 25), (81, 26), (81, 27), (81, 28), (81, 29), (81, 32), (81, 33), (81, 34), (81, 35), (81, 36), (81, 37)] M M1923 := fr_call hF1921 hF1926 (by decide) (by decide)
                    have hx1929 : M1916 81 32 = M1902 81 32 := hF1919 81 32 (by decide) (by decide)
                    have hx1930 : M1870 81 32 = M1397 81 32 := hF1873 81 32 (by decide) (by decide)
                    have hx1931 : M1397 81 32 = M 81 32 := hF1400 81 32 (by decide) (by decide)
                    have hr1932 := iv_81_32 hI1925
                    have hx1933 : M1916 81 34 = M1902 81 34 := hF1919 81 34 (by decide) (by decide)
                    have hr1934 := iv_81_36 hI1925
                    exact hp _ _ hI1925 hF1928 (by lia)
                  · skip
                    unfold wX11_readLine_146
                    refine sf_X11_needs hI1904 (by lia) (fun M1936 t1937 hI1938 hF1939 hq1940 => ?_)
                    have hF1941 : Fr [90, 91, 92, 93, 94, 95, 96] [(81, 13), (81, 14), (81, 15), (81, 22), (81, 23), (81, 24), (81, 25), (81, 26), (81, 27), (81, 28), (81, 29), (81, 32), (81, 33), (81, 34), (81, 35), (81, 36), (81, 37)] M M1936 := fr_call hF1907 hF1939 (by decide) (by decide)
                    unfold wX11_readLine_150
                    refine sf_X11_next hI1938  (fun M1943 t1944 hI1945 hF1946 hq1947 => ?_)
                    have hF1948 : Fr [90, 91, 92, 93, 94, 95, 96] [(81, 13), (81, 14), (81, 15), (81, 22), (81, 23), (81, 24), (81, 25), (81, 26), (81, 27), (81, 28), (81, 29), (81, 32), (81, 33), (81, 34), (81, 35), (81, 36), (81, 37)] M M1943 := fr_call hF1941 hF1946 (by decide) (by decide)
                    have hx1949 : M1936 81 32 = M1902 81 32 := hF1939 81 32 (by decide) (by decide)
                    have hx1950 : M1870 81 32 = M1397 81 32 := hF1873 81 32 (by decide) (by decide)
                    have hx1951 : M1397 81 32 = M 81 32 := hF1400 81 32 (by decide) (by decide)
                    have hr1952 := iv_81_32 hI1945
                    have hx1953 : M1936 81 34 = M1902 81 34 := hF1939 81 34 (by decide) (by decide)
                    have hr1954 := iv_81_36 hI1945
                    exact hp _ _ hI1945 hF1948 (by lia)
                · skip
                  unfold wX11_readLine_150
                  refine sf_X11_next hI1904  (fun M1956 t1957 hI1958 hF1959 hq1960 => ?_)
                  have hF1961 : Fr [90, 91, 92, 93, 94, 95, 96] [(81, 13), (81, 14), (81, 15), (81, 22), (81, 23), (81, 24), (81, 25), (81, 26), (81, 27), (81, 28), (81, 29), (81, 32), (81, 33), (81, 34), (81, 35), (81, 36), (81, 37)] M M1956 := fr_call hF1907 hF1959 (by decide) (by decide)
                  have hx1962 : M1870 81 32 = M1397 81 32 := hF1873 81 32 (by decide) (by decide)
                  have hx1963 : M1397 81 32 = M 81 32 := hF1400 81 32 (by decide) (by decide)
                  have hr1964 := iv_81_32 hI1958
                  have hx1965 : M1870 81 34 = M1397 81 34 := hF1873 81 34 (by decide) (by decide)
                  have hx1966 : M1397 81 34 = M 81 34 := hF1400 81 34 (by decide) (by decide)
                  have hr1967 := iv_81_36 hI1958
                  exact hp _ _ hI1958 hF1961 (by lia)
              · skip
                have hx1968 : M1870 81 32 = M1397 81 32 := hF1873 81 32 (by decide) (by decide)
                have hx1969 : M1397 81 32 = M 81 32 := hF1400 81 32 (by decide) (by decide)
                have hr1970 := iv_81_32 hI1884
                have hx1971 : M1870 81 34 = M1397 81 34 := hF1873 81 34 (by decide) (by decide)
                have hx1972 : M1397 81 34 = M 81 34 := hF1400 81 34 (by decide) (by decide)
                exact hp _ _ hI1884 hF1887 (by lia)
            · skip
              have hm1973 : (0 : Int32) ≤ (((M1870 81 23) >>> (r3 &&& (31 : Int32))) &&& (1 : Int32)) ∧ (((M1870 81 23) >>> (r3 &&& (31 : Int32))) &&& (1 : Int32)) ≤ (1 : Int32) := andc ((M1870 81 23) >>> (r3 &&& (31 : Int32))) 1 (by decide)
              have hx1974 : M1870 81 23 = M1397 81 23 := hF1873 81 23 (by decide) (by decide)
              have hx1975 : M1397 81 23 = M 81 23 := hF1400 81 23 (by decide) (by decide)
              have hm1976 : (0 : Int32) ≤ (r3 &&& (31 : Int32)) ∧ (r3 &&& (31 : Int32)) ≤ (31 : Int32) := andc r3 31 (by decide)
              refine ifs (fun hc1977 => ?_) (fun hc1978 => ?_)
              · skip
                unfold wX11_readLine_92
                refine sf_X11_needs hI1872 (by lia) (fun M1980 t1981 hI1982 hF1983 hq1984 => ?_)
                have hF1985 : Fr [90, 91, 92, 93, 94, 95, 96] [(81, 13), (81, 14), (81, 15), (81, 22), (81, 23), (81, 24), (81, 25), (81, 26), (81, 27), (81, 28), (81, 29), (81, 32), (81, 33), (81, 34), (81, 35), (81, 36), (81, 37)] M M1980 := fr_call hF1875 hF1983 (by decide) (by decide)
                have hx1988 : M1980 81 23 = M1870 81 23 := hF1983 81 23 (by decide) (by decide)
                have hx1989 : M1870 81 23 = M1397 81 23 := hF1873 81 23 (by decide) (by decide)
                have hx1990 : M1397 81 23 = M 81 23 := hF1400 81 23 (by decide) (by decide)
                intro W1986 hW1987
                have hI1991 : Inv W1986 := by rw [hW1987]; exact inv_set hI1982 (i_any _)
                have hF1992 : Fr [90, 91, 92, 93, 94, 95, 96] [(81, 13), (81, 14), (81, 15), (81, 22), (81, 23), (81, 24), (81, 25), (81, 26), (81, 27), (81, 28), (81, 29), (81, 32), (81, 33), (81, 34), (81, 35), (81, 36), (81, 37)] M W1986 := by rw [hW1987]; exact fr_fld hF1985 (by decide)
                have hv1993 : W1986 81 23 = ((M1980 81 23) ||| ((1 : Int32) <<< (r3 &&& (31 : Int32)))) := by rw [hW1987]; exact mset_at _ _ _ _
                unfold wX11_readLine_108
                refine sf_X11_next hI1991  (fun M1995 t1996 hI1997 hF1998 hq1999 => ?_)
                have hF2000 : Fr [90, 91, 92, 93, 94, 95, 96] [(81, 13), (81, 14), (81, 15), (81, 22), (81, 23), (81, 24), (81, 25), (81, 26), (81, 27), (81, 28), (81, 29), (81, 32), (81, 33), (81, 34), (81, 35), (81, 36), (81, 37)] M M1995 := fr_call hF1992 hF1998 (by decide) (by decide)
                have hx2001 : W1986 81 36 = M1980 81 36 := by rw [hW1987, mset_nk (by decide)]
                have hr2002 := iv_81_36 hI1997
                refine ifs (fun hc2003 => ?_) (fun hc2004 => ?_)
                · skip
                  have hx2005 : M1995 90 16 = W1986 90 16 := hF1998 90 16 (by decide) (by decide)
                  have hx2006 : W1986 90 16 = M1980 90 16 := by rw [hW1987, mset_ne (by decide)]
                  have hx2007 : M1980 90 16 = M1870 90 16 := hF1983 90 16 (by decide) (by decide)
                  have hx2008 : M1870 90 16 = M1397 90 16 := hF1873 90 16 (by decide) (by decide)
                  have hx2009 : M1397 90 16 = M 90 16 := hF1400 90 16 (by decide) (by decide)
                  have hx2010 : M1995 90 ((16 : Int32)).toNatClampNeg = W1986 90 ((16 : Int32)).toNatClampNeg := hF1998 90 _ (by decide) (by decide)
                  have hr2011 := r90_16 hI1991
                  have hx2012 : W1986 90 ((16 : Int32)).toNatClampNeg = M1980 90 ((16 : Int32)).toNatClampNeg := by rw [hW1987, mset_ne (by decide)]
                  have hr2013 := r90_16 hI1982
                  have hx2014 : M1980 90 ((16 : Int32)).toNatClampNeg = M1870 90 ((16 : Int32)).toNatClampNeg := hF1983 90 _ (by decide) (by decide)
                  have hr2015 := r90_16 hI1872
                  have hx2016 : M1870 90 ((16 : Int32)).toNatClampNeg = M1397 90 ((16 : Int32)).toNatClampNeg := hF1873 90 _ (by decide) (by decide)
                  have hr2017 := r90_16 hI1399
                  have hx2018 : M1397 90 ((16 : Int32)).toNatClampNeg = M 90 ((16 : Int32)).toNatClampNeg := hF1400 90 _ (by decide) (by decide)
                  have hr2019 := r90_16 hI
                  have hr2020 := r90_16 hI1997
                  refine sf_X11_readLineOf hI1997 (by lia) (fun M2022 t2023 hI2024 hF2025 hq2026 => ?_)
                  have hF2027 : Fr [90, 91, 92, 93, 94, 95, 96] [(81, 13), (81, 14), (81, 15), (81, 22), (81, 23), (81, 24), (81, 25), (81, 26), (81, 27), (81, 28), (81, 29), (81, 32), (81, 33), (81, 34), (81, 35), (81, 36), (81, 37)] M M2022 := fr_call hF2000 hF2025 (by decide) (by decide)
                  have hr2028 := iv_81_36 hI2024
                  refine ifs (fun hc2029 => ?_) (fun hc2030 => ?_)
                  · skip
                    have hx2031 : W1986 81 34 = M1980 81 34 := by rw [hW1987, mset_nk (by decide)]
                    have hx2032 : M1980 81 34 = M1870 81 34 := hF1983 81 34 (by decide) (by decide)
                    have hx2033 : M1870 81 34 = M1397 81 34 := hF1873 81 34 (by decide) (by decide)
                    have hx2034 : M1397 81 34 = M 81 34 := hF1400 81 34 (by decide) (by decide)
                    refine ifs (fun hc2035 => ?_) (fun hc2036 => ?_)
                    · skip
                      unfold wX11_readLine_146
                      refine sf_X11_needs hI2024 (by lia) (fun M2038 t2039 hI2040 hF2041 hq2042 => ?_)
                      have hF2043 : Fr [90, 91, 92, 93, 94, 95, 96] [(81, 13), (81, 14), (81, 15), (81, 22), (81, 23), (81, 24), (81, 25), (81, 26), (81, 27), (81, 28), (81, 29), (81, 32), (81, 33), (81, 34), (81, 35), (81, 36), (81, 37)] M M2038 := fr_call hF2027 hF2041 (by decide) (by decide)
                      unfold wX11_readLine_150
                      refine sf_X11_next hI2040  (fun M2045 t2046 hI2047 hF2048 hq2049 => ?_)
                      have hF2050 : Fr [90, 91, 92, 93, 94, 95, 96] [(81, 13), (81, 14), (81, 15), (81, 22), (81, 23), (81, 24), (81, 25), (81, 26), (81, 27), (81, 28), (81, 29), (81, 32), (81, 33), (81, 34), (81, 35), (81, 36), (81, 37)] M M2045 := fr_call hF2043 hF2048 (by decide) (by decide)
                      have hx2051 : M2038 81 32 = M2022 81 32 := hF2041 81 32 (by decide) (by decide)
                      have hx2052 : W1986 81 32 = M1980 81 32 := by rw [hW1987, mset_nk (by decide)]
                      have hx2053 : M1980 81 32 = M1870 81 32 := hF1983 81 32 (by decide) (by decide)
                      have hx2054 : M1870 81 32 = M1397 81 32 := hF1873 81 32 (by decide) (by decide)
                      have hx2055 : M1397 81 32 = M 81 32 := hF1400 81 32 (by decide) (by decide)
                      have hr2056 := iv_81_32 hI2047
                      have hx2057 : M2038 81 34 = M2022 81 34 := hF2041 81 34 (by decide) (by decide)
                      have hr2058 := iv_81_36 hI2047
                      exact hp _ _ hI2047 hF2050 (by lia)
                    · skip
                      unfold wX11_readLine_146
                      refine sf_X11_needs hI2024 (by lia) (fun M2060 t2061 hI2062 hF2063 hq2064 => ?_)
                      have hF2065 : Fr [90, 91, 92, 93, 94, 95, 96] [(81, 13), (81, 14), (81, 15), (81, 22), (81, 23), (81, 24), (81, 25), (81, 26), (81, 27), (81, 28), (81, 29), (81, 32), (81, 33), (81, 34), (81, 35), (81, 36), (81, 37)] M M2060 := fr_call hF2027 hF2063 (by decide) (by decide)
                      unfold wX11_readLine_150
                      refine sf_X11_next hI2062  (fun M2067 t2068 hI2069 hF2070 hq2071 => ?_)
                      have hF2072 : Fr [90, 91, 92, 93, 94, 95, 96] [(81, 13), (81, 14), (81, 15), (81, 22), (81, 23), (81, 24), (81, 25), (81, 26), (81, 27), (81, 28), (81, 29), (81, 32), (81, 33), (81, 34), (81, 35), (81, 36), (81, 37)] M M2067 := fr_call hF2065 hF2070 (by decide) (by decide)
                      have hx2073 : M2060 81 32 = M2022 81 32 := hF2063 81 32 (by decide) (by decide)
                      have hx2074 : W1986 81 32 = M1980 81 32 := by rw [hW1987, mset_nk (by decide)]
                      have hx2075 : M1980 81 32 = M1870 81 32 := hF1983 81 32 (by decide) (by decide)
                      have hx2076 : M1870 81 32 = M1397 81 32 := hF1873 81 32 (by decide) (by decide)
                      have hx2077 : M1397 81 32 = M 81 32 := hF1400 81 32 (by decide) (by decide)
                      have hr2078 := iv_81_32 hI2069
                      have hx2079 : M2060 81 34 = M2022 81 34 := hF2063 81 34 (by decide) (by decide)
                      have hr2080 := iv_81_36 hI2069
                      exact hp _ _ hI2069 hF2072 (by lia)
                  · skip
                    unfold wX11_readLine_150
                    refine sf_X11_next hI2024  (fun M2082 t2083 hI2084 hF2085 hq2086 => ?_)
                    have hF2087 : Fr [90, 91, 92, 93, 94, 95, 96] [(81, 13), (81, 14), (81, 15), (81, 22), (81, 23), (81, 24), (81, 25), (81, 26), (81, 27), (81, 28), (81, 29), (81, 32), (81, 33), (81, 34), (81, 35), (81, 36), (81, 37)] M M2082 := fr_call hF2027 hF2085 (by decide) (by decide)
                    have hx2088 : W1986 81 32 = M1980 81 32 := by rw [hW1987, mset_nk (by decide)]
                    have hx2089 : M1980 81 32 = M1870 81 32 := hF1983 81 32 (by decide) (by decide)
                    have hx2090 : M1870 81 32 = M1397 81 32 := hF1873 81 32 (by decide) (by decide)
                    have hx2091 : M1397 81 32 = M 81 32 := hF1400 81 32 (by decide) (by decide)
                    have hr2092 := iv_81_32 hI2084
                    have hx2093 : W1986 81 34 = M1980 81 34 := by rw [hW1987, mset_nk (by decide)]
                    have hx2094 : M1980 81 34 = M1870 81 34 := hF1983 81 34 (by decide) (by decide)
                    have hx2095 : M1870 81 34 = M1397 81 34 := hF1873 81 34 (by decide) (by decide)
                    have hx2096 : M1397 81 34 = M 81 34 := hF1400 81 34 (by decide) (by decide)
                    have hr2097 := iv_81_36 hI2084
                    exact hp _ _ hI2084 hF2087 (by lia)
                · skip
                  have hx2098 : W1986 81 32 = M1980 81 32 := by rw [hW1987, mset_nk (by decide)]
                  have hx2099 : M1980 81 32 = M1870 81 32 := hF1983 81 32 (by decide) (by decide)
                  have hx2100 : M1870 81 32 = M1397 81 32 := hF1873 81 32 (by decide) (by decide)
                  have hx2101 : M1397 81 32 = M 81 32 := hF1400 81 32 (by decide) (by decide)
                  have hr2102 := iv_81_32 hI1997
                  have hx2103 : W1986 81 34 = M1980 81 34 := by rw [hW1987, mset_nk (by decide)]
                  have hx2104 : M1980 81 34 = M1870 81 34 := hF1983 81 34 (by decide) (by decide)
                  have hx2105 : M1870 81 34 = M1397 81 34 := hF1873 81 34 (by decide) (by decide)
                  have hx2106 : M1397 81 34 = M 81 34 := hF1400 81 34 (by decide) (by decide)
                  exact hp _ _ hI1997 hF2000 (by lia)
              · skip
                unfold wX11_readLine_92
                refine sf_X11_needs hI1872 (by lia) (fun M2108 t2109 hI2110 hF2111 hq2112 => ?_)
                have hF2113 : Fr [90, 91, 92, 93, 94, 95, 96] [(81, 13), (81, 14), (81, 15), (81, 22), (81, 23), (81, 24), (81, 25), (81, 26), (81, 27), (81, 28), (81, 29), (81, 32), (81, 33), (81, 34), (81, 35), (81, 36), (81, 37)] M M2108 := fr_call hF1875 hF2111 (by decide) (by decide)
                have hx2116 : M2108 81 23 = M1870 81 23 := hF2111 81 23 (by decide) (by decide)
                have hx2117 : M1870 81 23 = M1397 81 23 := hF1873 81 23 (by decide) (by decide)
                have hx2118 : M1397 81 23 = M 81 23 := hF1400 81 23 (by decide) (by decide)
                intro W2114 hW2115
                have hI2119 : Inv W2114 := by rw [hW2115]; exact inv_set hI2110 (i_any _)
                have hF2120 : Fr [90, 91, 92, 93, 94, 95, 96] [(81, 13), (81, 14), (81, 15), (81, 22), (81, 23), (81, 24), (81, 25), (81, 26), (81, 27), (81, 28), (81, 29), (81, 32), (81, 33), (81, 34), (81, 35), (81, 36), (81, 37)] M W2114 := by rw [hW2115]; exact fr_fld hF2113 (by decide)
                have hv2121 : W2114 81 23 = ((M2108 81 23) ||| ((1 : Int32) <<< (r3 &&& (31 : Int32)))) := by rw [hW2115]; exact mset_at _ _ _ _
                unfold wX11_readLine_108
                refine sf_X11_next hI2119  (fun M2123 t2124 hI2125 hF2126 hq2127 => ?_)
                have hF2128 : Fr [90, 91, 92, 93, 94, 95, 96] [(81, 13), (81, 14), (81, 15), (81, 22), (81, 23), (81, 24), (81, 25), (81, 26), (81, 27), (81, 28), (81, 29), (81, 32), (81, 33), (81, 34), (81, 35), (81, 36), (81, 37)] M M2123 := fr_call hF2120 hF2126 (by decide) (by decide)
                have hx2129 : W2114 81 36 = M2108 81 36 := by rw [hW2115, mset_nk (by decide)]
                have hr2130 := iv_81_36 hI2125
                refine ifs (fun hc2131 => ?_) (fun hc2132 => ?_)
                · skip
                  have hx2133 : M2123 90 16 = W2114 90 16 := hF2126 90 16 (by decide) (by decide)
                  have hx2134 : W2114 90 16 = M2108 90 16 := by rw [hW2115, mset_ne (by decide)]
                  have hx2135 : M2108 90 16 = M1870 90 16 := hF2111 90 16 (by decide) (by decide)
                  have hx2136 : M1870 90 16 = M1397 90 16 := hF1873 90 16 (by decide) (by decide)
                  have hx2137 : M1397 90 16 = M 90 16 := hF1400 90 16 (by decide) (by decide)
                  have hx2138 : M2123 90 ((16 : Int32)).toNatClampNeg = W2114 90 ((16 : Int32)).toNatClampNeg := hF2126 90 _ (by decide) (by decide)
                  have hr2139 := r90_16 hI2119
                  have hx2140 : W2114 90 ((16 : Int32)).toNatClampNeg = M2108 90 ((16 : Int32)).toNatClampNeg := by rw [hW2115, mset_ne (by decide)]
                  have hr2141 := r90_16 hI2110
                  have hx2142 : M2108 90 ((16 : Int32)).toNatClampNeg = M1870 90 ((16 : Int32)).toNatClampNeg := hF2111 90 _ (by decide) (by decide)
                  have hr2143 := r90_16 hI1872
                  have hx2144 : M1870 90 ((16 : Int32)).toNatClampNeg = M1397 90 ((16 : Int32)).toNatClampNeg := hF1873 90 _ (by decide) (by decide)
                  have hr2145 := r90_16 hI1399
                  have hx2146 : M1397 90 ((16 : Int32)).toNatClampNeg = M 90 ((16 : Int32)).toNatClampNeg := hF1400 90 _ (by decide) (by decide)
                  have hr2147 := r90_16 hI
                  have hr2148 := r90_16 hI2125
                  refine sf_X11_readLineOf hI2125 (by lia) (fun M2150 t2151 hI2152 hF2153 hq2154 => ?_)
                  have hF2155 : Fr [90, 91, 92, 93, 94, 95, 96] [(81, 13), (81, 14), (81, 15), (81, 22), (81, 23), (81, 24), (81, 25), (81, 26), (81, 27), (81, 28), (81, 29), (81, 32), (81, 33), (81, 34), (81, 35), (81, 36), (81, 37)] M M2150 := fr_call hF2128 hF2153 (by decide) (by decide)
                  have hr2156 := iv_81_36 hI2152
                  refine ifs (fun hc2157 => ?_) (fun hc2158 => ?_)
                  · skip
                    have hx2159 : W2114 81 34 = M2108 81 34 := by rw [hW2115, mset_nk (by decide)]
                    have hx2160 : M2108 81 34 = M1870 81 34 := hF2111 81 34 (by decide) (by decide)
                    have hx2161 : M1870 81 34 = M1397 81 34 := hF1873 81 34 (by decide) (by decide)
                    have hx2162 : M1397 81 34 = M 81 34 := hF1400 81 34 (by decide) (by decide)
                    refine ifs (fun hc2163 => ?_) (fun hc2164 => ?_)
                    · skip
                      unfold wX11_readLine_146
                      refine sf_X11_needs hI2152 (by lia) (fun M2166 t2167 hI2168 hF2169 hq2170 => ?_)
                      have hF2171 : Fr [90, 91, 92, 93, 94, 95, 96] [(81, 13), (81, 14), (81, 15), (81, 22), (81, 23), (81, 24), (81, 25), (81, 26), (81, 27), (81, 28), (81, 29), (81, 32), (81, 33), (81, 34), (81, 35), (81, 36), (81, 37)] M M2166 := fr_call hF2155 hF2169 (by decide) (by decide)
                      unfold wX11_readLine_150
                      refine sf_X11_next hI2168  (fun M2173 t2174 hI2175 hF2176 hq2177 => ?_)
                      have hF2178 : Fr [90, 91, 92, 93, 94, 95, 96] [(81, 13), (81, 14), (81, 15), (81, 22), (81, 23), (81, 24), (81, 25), (81, 26), (81, 27), (81, 28), (81, 29), (81, 32), (81, 33), (81, 34), (81, 35), (81, 36), (81, 37)] M M2173 := fr_call hF2171 hF2176 (by decide) (by decide)
                      have hx2179 : M2166 81 32 = M2150 81 32 := hF2169 81 32 (by decide) (by decide)
                      have hx2180 : W2114 81 32 = M2108 81 32 := by rw [hW2115, mset_nk (by decide)]
                      have hx2181 : M2108 81 32 = M1870 81 32 := hF2111 81 32 (by decide) (by decide)
                      have hx2182 : M1870 81 32 = M1397 81 32 := hF1873 81 32 (by decide) (by decide)
                      have hx2183 : M1397 81 32 = M 81 32 := hF1400 81 32 (by decide) (by decide)
                      have hr2184 := iv_81_32 hI2175
                      have hx2185 : M2166 81 34 = M2150 81 34 := hF2169 81 34 (by decide) (by decide)
                      have hr2186 := iv_81_36 hI2175
                      exact hp _ _ hI2175 hF2178 (by lia)
                    · skip
                      unfold wX11_readLine_146
                      refine sf_X11_needs hI2152 (by lia) (fun M2188 t2189 hI2190 hF2191 hq2192 => ?_)
                      have hF2193 : Fr [90, 91, 92, 93, 94, 95, 96] [(81, 13), (81, 14), (81, 15), (81, 22), (81, 23), (81, 24), (81, 25), (81, 26), (81, 27), (81, 28), (81, 29), (81, 32), (81, 33), (81, 34), (81, 35), (81, 36), (81, 37)] M M2188 := fr_call hF2155 hF2191 (by decide) (by decide)
                      unfold wX11_readLine_150
                      refine sf_X11_next hI2190  (fun M2195 t2196 hI2197 hF2198 hq2199 => ?_)
                      have hF2200 : Fr [90, 91, 92, 93, 94, 95, 96] [(81, 13), (81, 14), (81, 15), (81, 22), (81, 23), (81, 24), (81, 25), (81, 26), (81, 27), (81, 28), (81, 29), (81, 32), (81, 33), (81, 34), (81, 35), (81, 36), (81, 37)] M M2195 := fr_call hF2193 hF2198 (by decide) (by decide)
                      have hx2201 : M2188 81 32 = M2150 81 32 := hF2191 81 32 (by decide) (by decide)
                      have hx2202 : W2114 81 32 = M2108 81 32 := by rw [hW2115, mset_nk (by decide)]
                      have hx2203 : M2108 81 32 = M1870 81 32 := hF2111 81 32 (by decide) (by decide)
                      have hx2204 : M1870 81 32 = M1397 81 32 := hF1873 81 32 (by decide) (by decide)
                      have hx2205 : M1397 81 32 = M 81 32 := hF1400 81 32 (by decide) (by decide)
                      have hr2206 := iv_81_32 hI2197
                      have hx2207 : M2188 81 34 = M2150 81 34 := hF2191 81 34 (by decide) (by decide)
                      have hr2208 := iv_81_36 hI2197
                      exact hp _ _ hI2197 hF2200 (by lia)
                  · skip
                    unfold wX11_readLine_150
                    refine sf_X11_next hI2152  (fun M2210 t2211 hI2212 hF2213 hq2214 => ?_)
                    have hF2215 : Fr [90, 91, 92, 93, 94, 95, 96] [(81, 13), (81, 14), (81, 15), (81, 22), (81, 23), (81, 24), (81, 25), (81, 26), (81, 27), (81, 28), (81, 29), (81, 32), (81, 33), (81, 34), (81, 35), (81, 36), (81, 37)] M M2210 := fr_call hF2155 hF2213 (by decide) (by decide)
                    have hx2216 : W2114 81 32 = M2108 81 32 := by rw [hW2115, mset_nk (by decide)]
                    have hx2217 : M2108 81 32 = M1870 81 32 := hF2111 81 32 (by decide) (by decide)
                    have hx2218 : M1870 81 32 = M1397 81 32 := hF1873 81 32 (by decide) (by decide)
                    have hx2219 : M1397 81 32 = M 81 32 := hF1400 81 32 (by decide) (by decide)
                    have hr2220 := iv_81_32 hI2212
                    have hx2221 : W2114 81 34 = M2108 81 34 := by rw [hW2115, mset_nk (by decide)]
                    have hx2222 : M2108 81 34 = M1870 81 34 := hF2111 81 34 (by decide) (by decide)
                    have hx2223 : M1870 81 34 = M1397 81 34 := hF1873 81 34 (by decide) (by decide)
                    have hx2224 : M1397 81 34 = M 81 34 := hF1400 81 34 (by decide) (by decide)
                    have hr2225 := iv_81_36 hI2212
                    exact hp _ _ hI2212 hF2215 (by lia)
                · skip
                  have hx2226 : W2114 81 32 = M2108 81 32 := by rw [hW2115, mset_nk (by decide)]
                  have hx2227 : M2108 81 32 = M1870 81 32 := hF2111 81 32 (by decide) (by decide)
                  have hx2228 : M1870 81 32 = M1397 81 32 := hF1873 81 32 (by decide) (by decide)
                  have hx2229 : M1397 81 32 = M 81 32 := hF1400 81 32 (by decide) (by decide)
                  have hr2230 := iv_81_32 hI2125
                  have hx2231 : W2114 81 34 = M2108 81 34 := by rw [hW2115, mset_nk (by decide)]
                  have hx2232 : M2108 81 34 = M1870 81 34 := hF2111 81 34 (by decide) (by decide)
                  have hx2233 : M1870 81 34 = M1397 81 34 := hF1873 81 34 (by decide) (by decide)
                  have hx2234 : M1397 81 34 = M 81 34 := hF1400 81 34 (by decide) (by decide)
                  exact hp _ _ hI2125 hF2128 (by lia)
          · skip
            unfold wX11_readLine_108
            refine sf_X11_next hI1872  (fun M2236 t2237 hI2238 hF2239 hq2240 => ?_)
            have hF2241 : Fr [90, 91, 92, 93, 94, 95, 96] [(81, 13), (81, 14), (81, 15), (81, 22), (81, 23), (81, 24), (81, 25), (81, 26), (81, 27), (81, 28), (81, 29), (81, 32), (81, 33), (81, 34), (81, 35), (81, 36), (81, 37)] M M2236 := fr_call hF1875 hF2239 (by decide) (by decide)
            have hr2242 := iv_81_36 hI2238
            refine ifs (fun hc2243 => ?_) (fun hc2244 => ?_)
            · skip
              have hx2245 : M2236 90 16 = M1870 90 16 := hF2239 90 16 (by decide) (by decide)
              have hx2246 : M1870 90 16 = M1397 90 16 := hF1873 90 16 (by decide) (by decide)
              have hx2247 : M1397 90 16 = M 90 16 := hF1400 90 16 (by decide) (by decide)
              have hx2248 : M2236 90 ((16 : Int32)).toNatClampNeg = M1870 90 ((16 : Int32)).toNatClampNeg := hF2239 90 _ (by decide) (by decide)
              have hr2249 := r90_16 hI1872
              have hx2250 : M1870 90 ((16 : Int32)).toNatClampNeg = M1397 90 ((16 : Int32)).toNatClampNeg := hF1873 90 _ (by decide) (by decide)
              have hr2251 := r90_16 hI1399
              have hx2252 : M1397 90 ((16 : Int32)).toNatClampNeg = M 90 ((16 : Int32)).toNatClampNeg := hF1400 90 _ (by decide) (by decide)
              have hr2253 := r90_16 hI
              have hr2254 := r90_16 hI2238
              refine sf_X11_readLineOf hI2238 (by lia) (fun M2256 t2257 hI2258 hF2259 hq2260 => ?_)
              have hF2261 : Fr [90, 91, 92, 93, 94, 95, 96] [(81, 13), (81, 14), (81, 15), (81, 22), (81, 23), (81, 24), (81, 25), (81, 26), (81, 27), (81, 28), (81, 29), (81, 32), (81, 33), (81, 34), (81, 35), (81, 36), (81, 37)] M M2256 := fr_call hF2241 hF2259 (by decide) (by decide)
              have hr2262 := iv_81_36 hI2258
              refine ifs (fun hc2263 => ?_) (fun hc2264 => ?_)
              · skip
                have hx2265 : M1870 81 34 = M1397 81 34 := hF1873 81 34 (by decide) (by decide)
                have hx2266 : M1397 81 34 = M 81 34 := hF1400 81 34 (by decide) (by decide)
                refine ifs (fun hc2267 => ?_) (fun hc2268 => ?_)
                · skip
                  unfold wX11_readLine_146
                  refine sf_X11_needs hI2258 (by lia) (fun M2270 t2271 hI2272 hF2273 hq2274 => ?_)
                  have hF2275 : Fr [90, 91, 92, 93, 94, 95, 96] [(81, 13), (81, 14), (81, 15), (81, 22), (81, 23), (81, 24), (81, 25), (81, 26), (81, 27), (81, 28), (81, 29), (81, 32), (81, 33), (81, 34), (81, 35), (81, 36), (81, 37)] M M2270 := fr_call hF2261 hF2273 (by decide) (by decide)
                  unfold wX11_readLine_150
                  refine sf_X11_next hI2272  (fun M2277 t2278 hI2279 hF2280 hq2281 => ?_)
                  have hF2282 : Fr [90, 91, 92, 93, 94, 95, 96] [(81, 13), (81, 14), (81, 15), (81, 22), (81, 23), (81, 24), (81, 25), (81, 26), (81, 27), (81, 28), (81, 29), (81, 32), (81, 33), (81, 34), (81, 35), (81, 36), (81, 37)] M M2277 := fr_call hF2275 hF2280 (by decide) (by decide)
                  have hx2283 : M2270 81 32 = M2256 81 32 := hF2273 81 32 (by decide) (by decide)
                  have hx2284 : M1870 81 32 = M1397 81 32 := hF1873 81 32 (by decide) (by decide)
                  have hx2285 : M1397 81 32 = M 81 32 := hF1400 81 32 (by decide) (by decide)
                  have hr2286 := iv_81_32 hI2279
                  have hx2287 : M2270 81 34 = M2256 81 34 := hF2273 81 34 (by decide) (by decide)
                  have hr2288 := iv_81_36 hI2279
                  exact hp _ _ hI2279 hF2282 (by lia)
                · skip
                  unfold wX11_readLine_146
                  refine sf_X11_needs hI2258 (by lia) (fun M2290 t2291 hI2292 hF2293 hq2294 => ?_)
                  have hF2295 : Fr [90, 91, 92, 93, 94, 95, 96] [(81, 13), (81, 14), (81, 15), (81, 22), (81, 23), (81, 24), (81, 25), (81, 26), (81, 27), (81, 28), (81, 29), (81, 32), (81, 33), (81, 34), (81, 35), (81, 36), (81, 37)] M M2290 := fr_call hF2261 hF2293 (by decide) (by decide)
                  unfold wX11_readLine_150
                  refine sf_X11_next hI2292  (fun M2297 t2298 hI2299 hF2300 hq2301 => ?_)
                  have hF2302 : Fr [90, 91, 92, 93, 94, 95, 96] [(81, 13), (81, 14), (81, 15), (81, 22), (81, 23), (81, 24), (81, 25), (81, 26), (81, 27), (81, 28), (81, 29), (81, 32), (81, 33), (81, 34), (81, 35), (81, 36), (81, 37)] M M2297 := fr_call hF2295 hF2300 (by decide) (by decide)
                  have hx2303 : M2290 81 32 = M2256 81 32 := hF2293 81 32 (by decide) (by decide)
                  have hx2304 : M1870 81 32 = M1397 81 32 := hF1873 81 32 (by decide) (by decide)
                  have hx2305 : M1397 81 32 = M 81 32 := hF1400 81 32 (by decide) (by decide)
                  have hr2306 := iv_81_32 hI2299
                  have hx2307 : M2290 81 34 = M2256 81 34 := hF2293 81 34 (by decide) (by decide)
                  have hr2308 := iv_81_36 hI2299
                  exact hp _ _ hI2299 hF2302 (by lia)
              · skip
                unfold wX11_readLine_150
                refine sf_X11_next hI2258  (fun M2310 t2311 hI2312 hF2313 hq2314 => ?_)
                have hF2315 : Fr [90, 91, 92, 93, 94, 95, 96] [(81, 13), (81, 14), (81, 15), (81, 22), (81, 23), (81, 24), (81, 25), (81, 26), (81, 27), (81, 28), (81, 29), (81, 32), (81, 33), (81, 34), (81, 35), (81, 36), (81, 37)] M M2310 := fr_call hF2261 hF2313 (by decide) (by decide)
                have hx2316 : M1870 81 32 = M1397 81 32 := hF1873 81 32 (by decide) (by decide)
                have hx2317 : M1397 81 32 = M 81 32 := hF1400 81 32 (by decide) (by decide)
                have hr2318 := iv_81_32 hI2312
                have hx2319 : M1870 81 34 = M1397 81 34 := hF1873 81 34 (by decide) (by decide)
                have hx2320 : M1397 81 34 = M 81 34 := hF1400 81 34 (by decide) (by decide)
                have hr2321 := iv_81_36 hI2312
                exact hp _ _ hI2312 hF2315 (by lia)
            · skip
              have hx2322 : M1870 81 32 = M1397 81 32 := hF1873 81 32 (by decide) (by decide)
              have hx2323 : M1397 81 32 = M 81 32 := hF1400 81 32 (by decide) (by decide)
              have hr2324 := iv_81_32 hI2238
              have hx2325 : M1870 81 34 = M1397 81 34 := hF1873 81 34 (by decide) (by decide)
              have hx2326 : M1397 81 34 = M 81 34 := hF1400 81 34 (by decide) (by decide)
              exact hp _ _ hI2238 hF2241 (by lia)
      · skip
        unfold wX11_readLine_53
        unfold wX11_readLine_58
        refine sf_X11_needs hI1399 (by lia) (fun M2328 t2329 hI2330 hF2331 hq2332 => ?_)
        have hF2333 : Fr [90, 91, 92, 93, 94, 95, 96] [(81, 13), (81, 14), (81, 15), (81, 22), (81, 23), (81, 24), (81, 25), (81, 26), (81, 27), (81, 28), (81, 29), (81, 32), (81, 33), (81, 34), (81, 35), (81, 36), (81, 37)] M M2328 := fr_call hF1402 hF2331 (by decide) (by decide)
        have hr2334 := iv_81_36 hI2330
        refine ifs (fun hc2335 => ?_) (fun hc2336 => ?_)
        · skip
          refine ifs (fun hc2337 => ?_) (fun hc2338 => ?_)
          · skip
            unfold wX11_readLine_108
            refine sf_X11_next hI2330  (fun M2340 t2341 hI2342 hF2343 hq2344 => ?_)
            have hF2345 : Fr [90, 91, 92, 93, 94, 95, 96] [(81, 13), (81, 14), (81, 15), (81, 22), (81, 23), (81, 24), (81, 25), (81, 26), (81, 27), (81, 28), (81, 29), (81, 32), (81, 33), (81, 34), (81, 35), (81, 36), (81, 37)] M M2340 := fr_call hF2333 hF2343 (by decide) (by decide)
            have hr2346 := iv_81_36 hI2342
            refine ifs (fun hc2347 => ?_) (fun hc2348 => ?_)
            · skip
              have hx2349 : M2340 90 16 = M2328 90 16 := hF2343 90 16 (by decide) (by decide)
              have hx2350 : M2328 90 16 = M1397 90 16 := hF2331 90 16 (by decide) (by decide)
              have hx2351 : M1397 90 16 = M 90 16 := hF1400 90 16 (by decide) (by decide)
              have hx2352 : M2340 90 ((16 : Int32)).toNatClampNeg = M2328 90 ((16 : Int32)).toNatClampNeg := hF2343 90 _ (by decide) (by decide)
              have hr2353 := r90_16 hI2330
              have hx2354 : M2328 90 ((16 : Int32)).toNatClampNeg = M1397 90 ((16 : Int32)).toNatClampNeg := hF2331 90 _ (by decide) (by decide)
              have hr2355 := r90_16 hI1399
              have hx2356 : M1397 90 ((16 : Int32)).toNatClampNeg = M 90 ((16 : Int32)).toNatClampNeg := hF1400 90 _ (by decide) (by decide)
              have hr2357 := r90_16 hI
              have hr2358 := r90_16 hI2342
              refine sf_X11_readLineOf hI2342 (by lia) (fun M2360 t2361 hI2362 hF2363 hq2364 => ?_)
              have hF2365 : Fr [90, 91, 92, 93, 94, 95, 96] [(81, 13), (81, 14), (81, 15), (81, 22), (81, 23), (81, 24), (81, 25), (81, 26), (81, 27), (81, 28), (81, 29), (81, 32), (81, 33), (81, 34), (81, 35), (81, 36), (81, 37)] M M2360 := fr_call hF2345 hF2363 (by decide) (by decide)
              have hr2366 := iv_81_36 hI2362
              refine ifs (fun hc2367 => ?_) (fun hc2368 => ?_)
              · skip
                have hx2369 : M2328 81 34 = M1397 81 34 := hF2331 81 34 (by decide) (by decide)
                have hx2370 : M1397 81 34 = M 81 34 := hF1400 81 34 (by decide) (by decide)
                refine ifs (fun hc2371 => ?_) (fun hc2372 => ?_)
                · skip
                  unfold wX11_readLine_146
                  refine sf_X11_needs hI2362 (by lia) (fun M2374 t2375 hI2376 hF2377 hq2378 => ?_)
                  have hF2379 : Fr [90, 91, 92, 93, 94, 95, 96] [(81, 13), (81, 14), (81, 15), (81, 22), (81, 23), (81, 24), (81, 25), (81, 26), (81, 27), (81, 28), (81, 29), (81, 32), (81, 33), (81, 34), (81, 35), (81, 36), (81, 37)] M M2374 := fr_call hF2365 hF2377 (by decide) (by decide)
                  unfold wX11_readLine_150
                  refine sf_X11_next hI2376  (fun M2381 t2382 hI2383 hF2384 hq2385 => ?_)
                  have hF2386 : Fr [90, 91, 92, 93, 94, 95, 96] [(81, 13), (81, 14), (81, 15), (81, 22), (81, 23), (81, 24), (81, 25), (81, 26), (81, 27), (81, 28), (81, 29), (81, 32), (81, 33), (81, 34), (81, 35), (81, 36), (81, 37)] M M2381 := fr_call hF2379 hF2384 (by decide) (by decide)
                  have hx2387 : M2374 81 32 = M2360 81 32 := hF2377 81 32 (by decide) (by decide)
                  have hx2388 : M2328 81 32 = M1397 81 32 := hF2331 81 32 (by decide) (by decide)
                  have hx2389 : M1397 81 32 = M 81 32 := hF1400 81 32 (by decide) (by decide)
                  have hr2390 := iv_81_32 hI2383
                  have hx2391 : M2374 81 34 = M2360 81 34 := hF2377 81 34 (by decide) (by decide)
                  have hr2392 := iv_81_36 hI2383
                  exact hp _ _ hI2383 hF2386 (by lia)
                · skip
                  unfold wX11_readLine_146
                  refine sf_X11_needs hI2362 (by lia) (fun M2394 t2395 hI2396 hF2397 hq2398 => ?_)
                  have hF2399 : Fr [90, 91, 92, 93, 94, 95, 96] [(81, 13), (81, 14), (81, 15), (81, 22), (81, 23), (81, 24), (81, 25), (81, 26), (81, 27), (81, 28), (81, 29), (81, 32), (81, 33), (81, 34), (81, 35), (81, 36), (81, 37)] M M2394 := fr_call hF2365 hF2397 (by decide) (by decide)
                  unfold wX11_readLine_150
                  refine sf_X11_next hI2396  (fun M2401 t2402 hI2403 hF2404 hq2405 => ?_)
                  have hF2406 : Fr [90, 91, 92, 93, 94, 95, 96] [(81, 13), (81, 14), (81, 15), (81, 22), (81, 23), (81, 24), (81, 25), (81, 26), (81, 27), (81, 28), (81, 29), (81, 32), (81, 33), (81, 34), (81, 35), (81, 36), (81, 37)] M M2401 := fr_call hF2399 hF2404 (by decide) (by decide)
                  have hx2407 : M2394 81 32 = M2360 81 32 := hF2397 81 32 (by decide) (by decide)
                  have hx2408 : M2328 81 32 = M1397 81 32 := hF2331 81 32 (by decide) (by decide)
                  have hx2409 : M1397 81 32 = M 81 32 := hF1400 81 32 (by decide) (by decide)
                  have hr2410 := iv_81_32 hI2403
                  have hx2411 : M2394 81 34 = M2360 81 34 := hF2397 81 34 (by decide) (by decide)
                  have hr2412 := iv_81_36 hI2403
                  exact hp _ _ hI2403 hF2406 (by lia)
              · skip
                unfold wX11_readLine_150
                refine sf_X11_next hI2362  (fun M2414 t2415 hI2416 hF2417 hq2418 => ?_)
                have hF2419 : Fr [90, 91, 92, 93, 94, 95, 96] [(81, 13), (81, 14), (81, 15), (81, 22), (81, 23), (81, 24), (81, 25), (81, 26), (81, 27), (81, 28), (81, 29), (81, 32), (81, 33), (81, 34), (81, 35), (81, 36), (81, 37)] M M2414 := fr_call hF2365 hF2417 (by decide) (by decide)
                have hx2420 : M2328 81 32 = M1397 81 32 := hF2331 81 32 (by decide) (by decide)
                have hx2421 : M1397 81 32 = M 81 32 := hF1400 81 32 (by decide) (by decide)
                have hr2422 := iv_81_32 hI2416
                have hx2423 : M2328 81 34 = M1397 81 34 := hF2331 81 34 (by decide) (by decide)
                have hx2424 : M1397 81 34 = M 81 34 := hF1400 81 34 (by decide) (by decide)
                have hr2425 := iv_81_36 hI2416
                exact hp _ _ hI2416 hF2419 (by lia)
            · skip
              have hx2426 : M2328 81 32 = M1397 81 32 := hF2331 81 32 (by decide) (by decide)
              have hx2427 : M1397 81 32 = M 81 32 := hF1400 81 32 (by decide) (by decide)
              have hr2428 := iv_81_32 hI2342
              have hx2429 : M2328 81 34 = M1397 81 34 := hF2331 81 34 (by decide) (by decide)
              have hx2430 : M1397 81 34 = M 81 34 := hF1400 81 34 (by decide) (by decide)
              exact hp _ _ hI2342 hF2345 (by lia)
          · skip
            have hm2431 : (0 : Int32) ≤ (((M2328 81 23) >>> (r3 &&& (31 : Int32))) &&& (1 : Int32)) ∧ (((M2328 81 23) >>> (r3 &&& (31 : Int32))) &&& (1 : Int32)) ≤ (1 : Int32) := andc ((M2328 81 23) >>> (r3 &&& (31 : Int32))) 1 (by decide)
            have hx2432 : M2328 81 23 = M1397 81 23 := hF2331 81 23 (by decide) (by decide)
            have hx2433 : M1397 81 23 = M 81 23 := hF1400 81 23 (by decide) (by decide)
            have hm2434 : (0 : Int32) ≤ (r3 &&& (31 : Int32)) ∧ (r3 &&& (31 : Int32)) ≤ (31 : Int32) := andc r3 31 (by decide)
            refine ifs (fun hc2435 => ?_) (fun hc2436 => ?_)
            · skip
              unfold wX11_readLine_92
              refine sf_X11_needs hI2330 (by lia) (fun M2438 t2439 hI2440 hF2441 hq2442 => ?_)
              have hF2443 : Fr [90, 91, 92, 93, 94, 95, 96] [(81, 13), (81, 14), (81, 15), (81, 22), (81, 23), (81, 24), (81, 25), (81, 26), (81, 27), (81, 28), (81, 29), (81, 32), (81, 33), (81, 34), (81, 35), (81, 36), (81, 37)] M M2438 := fr_call hF2333 hF2441 (by decide) (by decide)
              have hx2446 : M2438 81 23 = M2328 81 23 := hF2441 81 23 (by decide) (by decide)
              have hx2447 : M2328 81 23 = M1397 81 23 := hF2331 81 23 (by decide) (by decide)
              have hx2448 : M1397 81 23 = M 81 23 := hF1400 81 23 (by decide) (by decide)
              intro W2444 hW2445
              have hI2449 : Inv W2444 := by rw [hW2445]; exact inv_set hI2440 (i_any _)
              have hF2450 : Fr [90, 91, 92, 93, 94, 95, 96] [(81, 13), (81, 14), (81, 15), (81, 22), (81, 23), (81, 24), (81, 25), (81, 26), (81, 27), (81, 28), (81, 29), (81, 32), (81, 33), (81, 34), (81, 35), (81, 36), (81, 37)] M W2444 := by rw [hW2445]; exact fr_fld hF2443 (by decide)
              have hv2451 : W2444 81 23 = ((M2438 81 23) ||| ((1 : Int32) <<< (r3 &&& (31 : Int32)))) := by rw [hW2445]; exact mset_at _ _ _ _
              unfold wX11_readLine_108
              refine sf_X11_next hI2449  (fun M2453 t2454 hI2455 hF2456 hq2457 => ?_)
              have hF2458 : Fr [90, 91, 92, 93, 94, 95, 96] [(81, 13), (81, 14), (81, 15), (81, 22), (81, 23), (81, 24), (81, 25), (81, 26), (81, 27), (81, 28), (81, 29), (81, 32), (81, 33), (81, 34), (81, 35), (81, 36), (81, 37)] M M2453 := fr_call hF2450 hF2456 (by decide) (by decide)
              have hx2459 : W2444 81 36 = M2438 81 36 := by rw [hW2445, mset_nk (by decide)]
              have hr2460 := iv_81_36 hI2455
              refine ifs (fun hc2461 => ?_) (fun hc2462 => ?_)
              · skip
                have hx2463 : M2453 90 16 = W2444 90 16 := hF2456 90 16 (by decide) (by decide)
                have hx2464 : W2444 90 16 = M2438 90 16 := by rw [hW2445, mset_ne (by decide)]
                have hx2465 : M2438 90 16 = M2328 90 16 := hF2441 90 16 (by decide) (by decide)
                have hx2466 : M2328 90 16 = M1397 90 16 := hF2331 90 16 (by decide) (by decide)
                have hx2467 : M1397 90 16 = M 90 16 := hF1400 90 16 (by decide) (by decide)
                have hx2468 : M2453 90 ((16 : Int32)).toNatClampNeg = W2444 90 ((16 : Int32)).toNatClampNeg := hF2456 90 _ (by decide) (by decide)
                have hr2469 := r90_16 hI2449
                have hx2470 : W2444 90 ((16 : Int32)).toNatClampNeg = M2438 90 ((16 : Int32)).toNatClampNeg := by rw [hW2445, mset_ne (by decide)]
                have hr2471 := r90_16 hI2440
                have hx2472 : M2438 90 ((16 : Int32)).toNatClampNeg = M2328 90 ((16 : Int32)).toNatClampNeg := hF2441 90 _ (by decide) (by decide)
                have hr2473 := r90_16 hI2330
                have hx2474 : M2328 90 ((16 : Int32)).toNatClampNeg = M1397 90 ((16 : Int32)).toNatClampNeg := hF2331 90 _ (by decide) (by decide)
                have hr2475 := r90_16 hI1399
                have hx2476 : M1397 90 ((16 : Int32)).toNatClampNeg = M 90 ((16 : Int32)).toNatClampNeg := hF1400 90 _ (by decide) (by decide)
                have hr2477 := r90_16 hI
                have hr2478 := r90_16 hI2455
                refine sf_X11_readLineOf hI2455 (by lia) (fun M2480 t2481 hI2482 hF2483 hq2484 => ?_)
                have hF2485 : Fr [90, 91, 92, 93, 94, 95, 96] [(81, 13), (81, 14), (81, 15), (81, 22), (81, 23), (81, 24), (81, 25), (81, 26), (81, 27), (81, 28), (81, 29), (81, 32), (81, 33), (81, 34), (81, 35), (81, 36), (81, 37)] M M2480 := fr_call hF2458 hF2483 (by decide) (by decide)
                have hr2486 := iv_81_36 hI2482
                refine ifs (fun hc2487 => ?_) (fun hc2488 => ?_)
                · skip
                  have hx2489 : W2444 81 34 = M2438 81 34 := by rw [hW2445, mset_nk (by decide)]
                  have hx2490 : M2438 81 34 = M2328 81 34 := hF2441 81 34 (by decide) (by decide)
                  have hx2491 : M2328 81 34 = M1397 81 34 := hF2331 81 34 (by decide) (by decide)
                  have hx2492 : M1397 81 34 = M 81 34 := hF1400 81 34 (by decide) (by decide)
                  refine ifs (fun hc2493 => ?_) (fun hc2494 => ?_)
                  · skip
                    unfold wX11_readLine_146
                    refine sf_X11_needs hI2482 (by lia) (fun M2496 t2497 hI2498 hF2499 hq2500 => ?_)
                    have hF2501 : Fr [90, 91, 92, 93, 94, 95, 96] [(81, 13), (81, 14), (81, 15), (81, 22), (81, 23), (81, 24), (81, 25), (81, 26), (81, 27), (81, 28), (81, 29), (81, 32), (81, 33), (81, 34), (81, 35), (81, 36), (81, 37)] M M2496 := fr_call hF2485 hF2499 (by decide) (by decide)
                    unfold wX11_readLine_150
                    refine sf_X11_next hI2498  (fun M2503 t2504 hI2505 hF2506 hq2507 => ?_)
                    have hF2508 : Fr [90, 91, 92, 93, 94, 95, 96] [(81, 13), (81, 14), (81, 15), (81, 22), (81, 23), (81, 24), (81, 25), (81, 26), (81, 27), (81, 28), (81, 29), (81, 32), (81, 33), (81, 34), (81, 35), (81, 36), (81, 37)] M M2503 := fr_call hF2501 hF2506 (by decide) (by decide)
                    have hx2509 : M2496 81 32 = M2480 81 32 := hF2499 81 32 (by decide) (by decide)
                    have hx2510 : W2444 81 32 = M2438 81 32 := by rw [hW2445, mset_nk (by decide)]
                    have hx2511 : M2438 81 32 = M2328 81 32 := hF2441 81 32 (by decide) (by decide)
                    have hx2512 : M2328 81 32 = M1397 81 32 := hF2331 81 32 (by decide) (by decide)
                    have hx2513 : M1397 81 32 = M 81 32 := hF1400 81 32 (by decide) (by decide)
                    have hr2514 := iv_81_32 hI2505
                    have hx2515 : M2496 81 34 = M2480 81 34 := hF2499 81 34 (by decide) (by decide)
                    have hr2516 := iv_81_36 hI2505
                    exact hp _ _ hI2505 hF2508 (by lia)
                  · skip
                    unfold wX11_readLine_146
                    refine sf_X11_needs hI2482 (by lia) (fun M2518 t2519 hI2520 hF2521 hq2522 => ?_)
                    have hF2523 : Fr [90, 91, 92, 93, 94, 95, 96] [(81, 13), (81, 14), (81, 15), (81, 22), (81, 23), (81, 24), (81, 25), (81, 26), (81, 27), (81, 28), (81, 29), (81, 32), (81, 33), (81, 34), (81, 35), (81, 36), (81, 37)] M M2518 := fr_call hF2485 hF2521 (by decide) (by decide)
                    unfold wX11_readLine_150
                    refine sf_X11_next hI2520  (fun M2525 t2526 hI2527 hF2528 hq2529 => ?_)
                    have hF2530 : Fr [90, 91, 92, 93, 94, 95, 96] [(81, 13), (81, 14), (81, 15), (81, 22), (81, 23), (81, 24), (81, 25), (81, 26), (81, 27), (81, 28), (81, 29), (81, 32), (81, 33), (81, 34), (81, 35), (81, 36), (81, 37)] M M2525 := fr_call hF2523 hF2528 (by decide) (by decide)
                    have hx2531 : M2518 81 32 = M2480 81 32 := hF2521 81 32 (by decide) (by decide)
                    have hx2532 : W2444 81 32 = M2438 81 32 := by rw [hW2445, mset_nk (by decide)]
                    have hx2533 : M2438 81 32 = M2328 81 32 := hF2441 81 32 (by decide) (by decide)
                    have hx2534 : M2328 81 32 = M1397 81 32 := hF2331 81 32 (by decide) (by decide)
                    have hx2535 : M1397 81 32 = M 81 32 := hF1400 81 32 (by decide) (by decide)
                    have hr2536 := iv_81_32 hI2527
                    have hx2537 : M2518 81 34 = M2480 81 34 := hF2521 81 34 (by decide) (by decide)
                    have hr2538 := iv_81_36 hI2527
                    exact hp _ _ hI2527 hF2530 (by lia)
                · skip
                  unfold wX11_readLine_150
                  refine sf_X11_next hI2482  (fun M2540 t2541 hI2542 hF2543 hq2544 => ?_)
                  have hF2545 : Fr [90, 91, 92, 93, 94, 95, 96] [(81, 13), (81, 14), (81, 15), (81, 22), (81, 23), (81, 24), (81, 25), (81, 26), (81, 27), (81, 28), (81, 29), (81, 32), (81, 33), (81, 34), (81, 35), (81, 36), (81, 37)] M M2540 := fr_call hF2485 hF2543 (by decide) (by decide)
                  have hx2546 : W2444 81 32 = M2438 81 32 := by rw [hW2445, mset_nk (by decide)]
                  have hx2547 : M2438 81 32 = M2328 81 32 := hF2441 81 32 (by decide) (by decide)
                  have hx2548 : M2328 81 32 = M1397 81 32 := hF2331 81 32 (by decide) (by decide)
                  have hx2549 : M1397 81 32 = M 81 32 := hF1400 81 32 (by decide) (by decide)
                  have hr2550 := iv_81_32 hI2542
                  have hx2551 : W2444 81 34 = M2438 81 34 := by rw [hW2445, mset_nk (by decide)]
                  have hx2552 : M2438 81 34 = M2328 81 34 := hF2441 81 34 (by decide) (by decide)
                  have hx2553 : M2328 81 34 = M1397 81 34 := hF2331 81 34 (by decide) (by decide)
                  have hx2554 : M1397 81 34 = M 81 34 := hF1400 81 34 (by decide) (by decide)
                  have hr2555 := iv_81_36 hI2542
                  exact hp _ _ hI2542 hF2545 (by lia)
              · skip
                have hx2556 : W2444 81 32 = M2438 81 32 := by rw [hW2445, mset_nk (by decide)]
                have hx2557 : M2438 81 32 = M2328 81 32 := hF2441 81 32 (by decide) (by decide)
                have hx2558 : M2328 81 32 = M1397 81 32 := hF2331 81 32 (by decide) (by decide)
                have hx2559 : M1397 81 32 = M 81 32 := hF1400 81 32 (by decide) (by decide)
                have hr2560 := iv_81_32 hI2455
                have hx2561 : W2444 81 34 = M2438 81 34 := by rw [hW2445, mset_nk (by decide)]
                have hx2562 : M2438 81 34 = M2328 81 34 := hF2441 81 34 (by decide) (by decide)
                have hx2563 : M2328 81 34 = M1397 81 34 := hF2331 81 34 (by decide) (by decide)
                have hx2564 : M1397 81 34 = M 81 34 := hF1400 81 34 (by decide) (by decide)
                exact hp _ _ hI2455 hF2458 (by lia)
            · skip
              unfold wX11_readLine_92
              refine sf_X11_needs hI2330 (by lia) (fun M2566 t2567 hI2568 hF2569 hq2570 => ?_)
              have hF2571 : Fr [90, 91, 92, 93, 94, 95, 96] [(81, 13), (81, 14), (81, 15), (81, 22), (81, 23), (81, 24), (81, 25), (81, 26), (81, 27), (81, 28), (81, 29), (81, 32), (81, 33), (81, 34), (81, 35), (81, 36), (81, 37)] M M2566 := fr_call hF2333 hF2569 (by decide) (by decide)
              have hx2574 : M2566 81 23 = M2328 81 23 := hF2569 81 23 (by decide) (by decide)
              have hx2575 : M2328 81 23 = M1397 81 23 := hF2331 81 23 (by decide) (by decide)
              have hx2576 : M1397 81 23 = M 81 23 := hF1400 81 23 (by decide) (by decide)
              intro W2572 hW2573
              have hI2577 : Inv W2572 := by rw [hW2573]; exact inv_set hI2568 (i_any _)
              have hF2578 : Fr [90, 91, 92, 93, 94, 95, 96] [(81, 13), (81, 14), (81, 15), (81, 22), (81, 23), (81, 24), (81, 25), (81, 26), (81, 27), (81, 28), (81, 29), (81, 32), (81, 33), (81, 34), (81, 35), (81, 36), (81, 37)] M W2572 := by rw [hW2573]; exact fr_fld hF2571 (by decide)
              have hv2579 : W2572 81 23 = ((M2566 81 23) ||| ((1 : Int32) <<< (r3 &&& (31 : Int32)))) := by rw [hW2573]; exact mset_at _ _ _ _
              unfold wX11_readLine_108
              refine sf_X11_next hI2577  (fun M2581 t2582 hI2583 hF2584 hq2585 => ?_)
              have hF2586 : Fr [90, 91, 92, 93, 94, 95, 96] [(81, 13), (81, 14), (81, 15), (81, 22), (81, 23), (81, 24), (81, 25), (81, 26), (81, 27), (81, 28), (81, 29), (81, 32), (81, 33), (81, 34), (81, 35), (81, 36), (81, 37)] M M2581 := fr_call hF2578 hF2584 (by decide) (by decide)
              have hx2587 : W2572 81 36 = M2566 81 36 := by rw [hW2573, mset_nk (by decide)]
              have hr2588 := iv_81_36 hI2583
              refine ifs (fun hc2589 => ?_) (fun hc2590 => ?_)
              · skip
                have hx2591 : M2581 90 16 = W2572 90 16 := hF2584 90 16 (by decide) (by decide)
                have hx2592 : W2572 90 16 = M2566 90 16 := by rw [hW2573, mset_ne (by decide)]
                have hx2593 : M2566 90 16 = M2328 90 16 := hF2569 90 16 (by decide) (by decide)
                have hx2594 : M2328 90 16 = M1397 90 16 := hF2331 90 16 (by decide) (by decide)
                have hx2595 : M1397 90 16 = M 90 16 := hF1400 90 16 (by decide) (by decide)
                have hx2596 : M2581 90 ((16 : Int32)).toNatClampNeg = W2572 90 ((16 : Int32)).toNatClampNeg := hF2584 90 _ (by decide) (by decide)
                have hr2597 := r90_16 hI2577
                have hx2598 : W2572 90 ((16 : Int32)).toNatClampNeg = M2566 90 ((16 : Int32)).toNatClampNeg := by rw [hW2573, mset_ne (by decide)]
                have hr2599 := r90_16 hI2568
                have hx2600 : M2566 90 ((16 : Int32)).toNatClampNeg = M2328 90 ((16 : Int32)).toNatClampNeg := hF2569 90 _ (by decide) (by decide)
                have hr2601 := r90_16 hI2330
                have hx2602 : M2328 90 ((16 : Int32)).toNatClampNeg = M1397 90 ((16 : Int32)).toNatClampNeg := hF2331 90 _ (by decide) (by decide)
                have hr2603 := r90_16 hI1399
                have hx2604 : M1397 90 ((16 : Int32)).toNatClampNeg = M 90 ((16 : Int32)).toNatClampNeg := hF1400 90 _ (by decide) (by decide)
                have hr2605 := r90_16 hI
                have hr2606 := r90_16 hI2583
                refine sf_X11_readLineOf hI2583 (by lia) (fun M2608 t2609 hI2610 hF2611 hq2612 => ?_)
                have hF2613 : Fr [90, 91, 92, 93, 94, 95, 96] [(81, 13), (81, 14), (81, 15), (81, 22), (81, 23), (81, 24), (81, 25), (81, 26), (81, 27), (81, 28), (81, 29), (81, 32), (81, 33), (81, 34), (81, 35), (81, 36), (81, 37)] M M2608 := fr_call hF2586 hF2611 (by decide) (by decide)
                have hr2614 := iv_81_36 hI2610
                refine ifs (fun hc2615 => ?_) (fun hc2616 => ?_)
                · skip
                  have hx2617 : W2572 81 34 = M2566 81 34 := by rw [hW2573, mset_nk (by decide)]
                  have hx2618 : M2566 81 34 = M2328 81 34 := hF2569 81 34 (by decide) (by decide)
                  have hx2619 : M2328 81 34 = M1397 81 34 := hF2331 81 34 (by decide) (by decide)
                  have hx2620 : M1397 81 34 = M 81 34 := hF1400 81 34 (by decide) (by decide)
                  refine ifs (fun hc2621 => ?_) (fun hc2622 => ?_)
                  · skip
                    unfold wX11_readLine_146
                    refine sf_X11_needs hI2610 (by lia) (fun M2624 t2625 hI2626 hF2627 hq2628 => ?_)
                    have hF2629 : Fr [90, 91, 92, 93, 94, 95, 96] [(81, 13), (81, 14), (81, 15), (81, 22), (81, 23), (81, 24), (81, 25), (81, 26), (81, 27), (81, 28), (81, 29), (81, 32), (81, 33), (81, 34), (81, 35), (81, 36), (81, 37)] M M2624 := fr_call hF2613 hF2627 (by decide) (by decide)
                    unfold wX11_readLine_150
                    refine sf_X11_next hI2626  (fun M2631 t2632 hI2633 hF2634 hq2635 => ?_)
                    have hF2636 : Fr [90, 91, 92, 93, 94, 95, 96] [(81, 13), (81, 14), (81, 15), (81, 22), (81, 23), (81, 24), (81, 25), (81, 26), (81, 27), (81, 28), (81, 29), (81, 32), (81, 33), (81, 34), (81, 35), (81, 36), (81, 37)] M M2631 := fr_call hF2629 hF2634 (by decide) (by decide)
                    have hx2637 : M2624 81 32 = M2608 81 32 := hF2627 81 32 (by decide) (by decide)
                    have hx2638 : W2572 81 32 = M2566 81 32 := by rw [hW2573, mset_nk (by decide)]
                    have hx2639 : M2566 81 32 = M2328 81 32 := hF2569 81 32 (by decide) (by decide)
                    have hx2640 : M2328 81 32 = M1397 81 32 := hF2331 81 32 (by decide) (by decide)
                    have hx2641 : M1397 81 32 = M 81 32 := hF1400 81 32 (by decide) (by decide)
                    have hr2642 := iv_81_32 hI2633
                    have hx2643 : M2624 81 34 = M2608 81 34 := hF2627 81 34 (by decide) (by decide)
                    have hr2644 := iv_81_36 hI2633
                    exact hp _ _ hI2633 hF2636 (by lia)
                  · skip
                    unfold wX11_readLine_146
                    refine sf_X11_needs hI2610 (by lia) (fun M2646 t2647 hI2648 hF2649 hq2650 => ?_)
                    have hF2651 : Fr [90, 91, 92, 93, 94, 95, 96] [(81, 13), (81, 14), (81, 15), (81, 22), (81, 23), (81, 24), (81, 25), (81, 26), (81, 27), (81, 28), (81, 29), (81, 32), (81, 33), (81, 34), (81, 35), (81, 36), (81, 37)] M M2646 := fr_call hF2613 hF2649 (by decide) (by decide)
                    unfold wX11_readLine_150
                    refine sf_X11_next hI2648  (fun M2653 t2654 hI2655 hF2656 hq2657 => ?_)
                    have hF2658 : Fr [90, 91, 92, 93, 94, 95, 96] [(81, 13), (81, 14), (81, 15), (81, 22), (81, 23), (81, 24), (81, 25), (81, 26), (81, 27), (81, 28), (81, 29), (81, 32), (81, 33), (81, 34), (81, 35), (81, 36), (81, 37)] M M2653 := fr_call hF2651 hF2656 (by decide) (by decide)
                    have hx2659 : M2646 81 32 = M2608 81 32 := hF2649 81 32 (by decide) (by decide)
                    have hx2660 : W2572 81 32 = M2566 81 32 := by rw [hW2573, mset_nk (by decide)]
                    have hx2661 : M2566 81 32 = M2328 81 32 := hF2569 81 32 (by decide) (by decide)
                    have hx2662 : M2328 81 32 = M1397 81 32 := hF2331 81 32 (by decide) (by decide)
                    have hx2663 : M1397 81 32 = M 81 32 := hF1400 81 32 (by decide) (by decide)
                    have hr2664 := iv_81_32 hI2655
                    have hx2665 : M2646 81 34 = M2608 81 34 := hF2649 81 34 (by decide) (by decide)
                    have hr2666 := iv_81_36 hI2655
                    exact hp _ _ hI2655 hF2658 (by lia)
                · skip
                  unfold wX11_readLine_150
                  refine sf_X11_next hI2610  (fun M2668 t2669 hI2670 hF2671 hq2672 => ?_)
                  have hF2673 : Fr [90, 91, 92, 93, 94, 95, 96] [(81, 13), (81, 14), (81, 15), (81, 22), (81, 23), (81, 24), (81, 25), (81, 26), (81, 27), (81, 28), (81, 29), (81, 32), (81, 33), (81, 34), (81, 35), (81, 36), (81, 37)] M M2668 := fr_call hF2613 hF2671 (by decide) (by decide)
                  have hx2674 : W2572 81 32 = M2566 81 32 := by rw [hW2573, mset_nk (by decide)]
                  have hx2675 : M2566 81 32 = M2328 81 32 := hF2569 81 32 (by decide) (by decide)
                  have hx2676 : M2328 81 32 = M1397 81 32 := hF2331 81 32 (by decide) (by decide)
                  have hx2677 : M1397 81 32 = M 81 32 := hF1400 81 32 (by decide) (by decide)
                  have hr2678 := iv_81_32 hI2670
                  have hx2679 : W2572 81 34 = M2566 81 34 := by rw [hW2573, mset_nk (by decide)]
                  have hx2680 : M2566 81 34 = M2328 81 34 := hF2569 81 34 (by decide) (by decide)
                  have hx2681 : M2328 81 34 = M1397 81 34 := hF2331 81 34 (by decide) (by decide)
                  have hx2682 : M1397 81 34 = M 81 34 := hF1400 81 34 (by decide) (by decide)
                  have hr2683 := iv_81_36 hI2670
                  exact hp _ _ hI2670 hF2673 (by lia)
              · skip
                have hx2684 : W2572 81 32 = M2566 81 32 := by rw [hW2573, mset_nk (by decide)]
                have hx2685 : M2566 81 32 = M2328 81 32 := hF2569 81 32 (by decide) (by decide)
                have hx2686 : M2328 81 32 = M1397 81 32 := hF2331 81 32 (by decide) (by decide)
                have hx2687 : M1397 81 32 = M 81 32 := hF1400 81 32 (by decide) (by decide)
                have hr2688 := iv_81_32 hI2583
                have hx2689 : W2572 81 34 = M2566 81 34 := by rw [hW2573, mset_nk (by decide)]
                have hx2690 : M2566 81 34 = M2328 81 34 := hF2569 81 34 (by decide) (by decide)
                have hx2691 : M2328 81 34 = M1397 81 34 := hF2331 81 34 (by decide) (by decide)
                have hx2692 : M1397 81 34 = M 81 34 := hF1400 81 34 (by decide) (by decide)
                exact hp _ _ hI2583 hF2586 (by lia)
        · skip
          unfold wX11_readLine_108
          refine sf_X11_next hI2330  (fun M2694 t2695 hI2696 hF2697 hq2698 => ?_)
          have hF2699 : Fr [90, 91, 92, 93, 94, 95, 96] [(81, 13), (81, 14), (81, 15), (81, 22), (81, 23), (81, 24), (81, 25), (81, 26), (81, 27), (81, 28), (81, 29), (81, 32), (81, 33), (81, 34), (81, 35), (81, 36), (81, 37)] M M2694 := fr_call hF2333 hF2697 (by decide) (by decide)
          have hr2700 := iv_81_36 hI2696
          refine ifs (fun hc2701 => ?_) (fun hc2702 => ?_)
          · skip
            have hx2703 : M2694 90 16 = M2328 90 16 := hF2697 90 16 (by decide) (by decide)
            have hx2704 : M2328 90 16 = M1397 90 16 := hF2331 90 16 (by decide) (by decide)
            have hx2705 : M1397 90 16 = M 90 16 := hF1400 90 16 (by decide) (by decide)
            have hx2706 : M2694 90 ((16 : Int32)).toNatClampNeg = M2328 90 ((16 : Int32)).toNatClampNeg := hF2697 90 _ (by decide) (by decide)
            have hr2707 := r90_16 hI2330
            have hx2708 : M2328 90 ((16 : Int32)).toNatClampNeg = M1397 90 ((16 : Int32)).toNatClampNeg := hF2331 90 _ (by decide) (by decide)
            have hr2709 := r90_16 hI1399
            have hx2710 : M1397 90 ((16 : Int32)).toNatClampNeg = M 90 ((16 : Int32)).toNatClampNeg := hF1400 90 _ (by decide) (by decide)
            have hr2711 := r90_16 hI
            have hr2712 := r90_16 hI2696
            refine sf_X11_readLineOf hI2696 (by lia) (fun M2714 t2715 hI2716 hF2717 hq2718 => ?_)
            have hF2719 : Fr [90, 91, 92, 93, 94, 95, 96] [(81, 13), (81, 14), (81, 15), (81, 22), (81, 23), (81, 24), (81, 25), (81, 26), (81, 27), (81, 28), (81, 29), (81, 32), (81, 33), (81, 34), (81, 35), (81, 36), (81, 37)] M M2714 := fr_call hF2699 hF2717 (by decide) (by decide)
            have hr2720 := iv_81_36 hI2716
            refine ifs (fun hc2721 => ?_) (fun hc2722 => ?_)
            · skip
              have hx2723 : M2328 81 34 = M1397 81 34 := hF2331 81 34 (by decide) (by decide)
              have hx2724 : M1397 81 34 = M 81 34 := hF1400 81 34 (by decide) (by decide)
              refine ifs (fun hc2725 => ?_) (fun hc2726 => ?_)
              · skip
                unfold wX11_readLine_146
                refine sf_X11_needs hI2716 (by lia) (fun M2728 t2729 hI2730 hF2731 hq2732 => ?_)
                have hF2733 : Fr [90, 91, 92, 93, 94, 95, 96] [(81, 13), (81, 14), (81, 15), (81, 22), (81, 23), (81, 24), (81, 25), (81, 26), (81, 27), (81, 28), (81, 29), (81, 32), (81, 33), (81, 34), (81, 35), (81, 36), (81, 37)] M M2728 := fr_call hF2719 hF2731 (by decide) (by decide)
                unfold wX11_readLine_150
                refine sf_X11_next hI2730  (fun M2735 t2736 hI2737 hF2738 hq2739 => ?_)
                have hF2740 : Fr [90, 91, 92, 93, 94, 95, 96] [(81, 13), (81, 14), (81, 15), (81, 22), (81, 23), (81, 24), (81, 25), (81, 26), (81, 27), (81, 28), (81, 29), (81, 32), (81, 33), (81, 34), (81, 35), (81, 36), (81, 37)] M M2735 := fr_call hF2733 hF2738 (by decide) (by decide)
                have hx2741 : M2728 81 32 = M2714 81 32 := hF2731 81 32 (by decide) (by decide)
                have hx2742 : M2328 81 32 = M1397 81 32 := hF2331 81 32 (by decide) (by decide)
                have hx2743 : M1397 81 32 = M 81 32 := hF1400 81 32 (by decide) (by decide)
                have hr2744 := iv_81_32 hI2737
                have hx2745 : M2728 81 34 = M2714 81 34 := hF2731 81 34 (by decide) (by decide)
                have hr2746 := iv_81_36 hI2737
                exact hp _ _ hI2737 hF2740 (by lia)
              · skip
                unfold wX11_readLine_146
                refine sf_X11_needs hI2716 (by lia) (fun M2748 t2749 hI2750 hF2751 hq2752 => ?_)
                have hF2753 : Fr [90, 91, 92, 93, 94, 95, 96] [(81, 13), (81, 14), (81, 15), (81, 22), (81, 23), (81, 24), (81, 25), (81, 26), (81, 27), (81, 28), (81, 29), (81, 32), (81, 33), (81, 34), (81, 35), (81, 36), (81, 37)] M M2748 := fr_call hF2719 hF2751 (by decide) (by decide)
                unfold wX11_readLine_150
                refine sf_X11_next hI2750  (fun M2755 t2756 hI2757 hF2758 hq2759 => ?_)
                have hF2760 : Fr [90, 91, 92, 93, 94, 95, 96] [(81, 13), (81, 14), (81, 15), (81, 22), (81, 23), (81, 24), (81, 25), (81, 26), (81, 27), (81, 28), (81, 29), (81, 32), (81, 33), (81, 34), (81, 35), (81, 36), (81, 37)] M M2755 := fr_call hF2753 hF2758 (by decide) (by decide)
                have hx2761 : M2748 81 32 = M2714 81 32 := hF2751 81 32 (by decide) (by decide)
                have hx2762 : M2328 81 32 = M1397 81 32 := hF2331 81 32 (by decide) (by decide)
                have hx2763 : M1397 81 32 = M 81 32 := hF1400 81 32 (by decide) (by decide)
                have hr2764 := iv_81_32 hI2757
                have hx2765 : M2748 81 34 = M2714 81 34 := hF2751 81 34 (by decide) (by decide)
                have hr2766 := iv_81_36 hI2757
                exact hp _ _ hI2757 hF2760 (by lia)
            · skip
              unfold wX11_readLine_150
              refine sf_X11_next hI2716  (fun M2768 t2769 hI2770 hF2771 hq2772 => ?_)
              have hF2773 : Fr [90, 91, 92, 93, 94, 95, 96] [(81, 13), (81, 14), (81, 15), (81, 22), (81, 23), (81, 24), (81, 25), (81, 26), (81, 27), (81, 28), (81, 29), (81, 32), (81, 33), (81, 34), (81, 35), (81, 36), (81, 37)] M M2768 := fr_call hF2719 hF2771 (by decide) (by decide)
              have hx2774 : M2328 81 32 = M1397 81 32 := hF2331 81 32 (by decide) (by decide)
              have hx2775 : M1397 81 32 = M 81 32 := hF1400 81 32 (by decide) (by decide)
              have hr2776 := iv_81_32 hI2770
              have hx2777 : M2328 81 34 = M1397 81 34 := hF2331 81 34 (by decide) (by decide)
              have hx2778 : M1397 81 34 = M 81 34 := hF1400 81 34 (by decide) (by decide)
              have hr2779 := iv_81_36 hI2770
              exact hp _ _ hI2770 hF2773 (by lia)
          · skip
            have hx2780 : M2328 81 32 = M1397 81 32 := hF2331 81 32 (by decide) (by decide)
            have hx2781 : M1397 81 32 = M 81 32 := hF1400 81 32 (by decide) (by decide)
            have hr2782 := iv_81_32 hI2696
            have hx2783 : M2328 81 34 = M1397 81 34 := hF2331 81 34 (by decide) (by decide)
            have hx2784 : M1397 81 34 = M 81 34 := hF1400 81 34 (by decide) (by decide)
            exact hp _ _ hI2696 hF2699 (by lia)
  · skip
    unfold wX11_readLine_17
    refine ifp (by decide) ?_
    unfold wX11_readLine_30
    refine sf_X11_needs hI (by lia) (fun M2786 t2787 hI2788 hF2789 hq2790 => ?_)
    have hF2791 : Fr [90, 91, 92, 93, 94, 95, 96] [(81, 13), (81, 14), (81, 15), (81, 22), (81, 23), (81, 24), (81, 25), (81, 26), (81, 27), (81, 28), (81, 29), (81, 32), (81, 33), (81, 34), (81, 35), (81, 36), (81, 37)] M M2786 := fr_call fr_rfl hF2789 (by decide) (by decide)
    refine ifn (by decide) ?_
    unfold wX11_readLine_53
    unfold wX11_readLine_58
    refine sf_X11_needs hI2788 (by lia) (fun M2793 t2794 hI2795 hF2796 hq2797 => ?_)
    have hF2798 : Fr [90, 91, 92, 93, 94, 95, 96] [(81, 13), (81, 14), (81, 15), (81, 22), (81, 23), (81, 24), (81, 25), (81, 26), (81, 27), (81, 28), (81, 29), (81, 32), (81, 33), (81, 34), (81, 35), (81, 36), (81, 37)] M M2793 := fr_call hF2791 hF2796 (by decide) (by decide)
    have hr2799 := iv_81_36 hI2795
    refine ifs (fun hc2800 => ?_) (fun hc2801 => ?_)
    · skip
      refine ifn (by decide) ?_
      have hm2802 : (0 : Int32) ≤ (((M2793 81 23) >>> ((-4 : Int32) &&& (31 : Int32))) &&& (1 : Int32)) ∧ (((M2793 81 23) >>> ((-4 : Int32) &&& (31 : Int32))) &&& (1 : Int32)) ≤ (1 : Int32) := andc ((M2793 81 23) >>> ((-4 : Int32) &&& (31 : Int32))) 1 (by decide)
      have hx2803 : M2793 81 23 = M2786 81 23 := hF2796 81 23 (by decide) (by decide)
      have hx2804 : M2786 81 23 = M 81 23 := hF2789 81 23 (by decide) (by decide)
      have hm2805 : (0 : Int32) ≤ ((-4 : Int32) &&& (31 : Int32)) ∧ ((-4 : Int32) &&& (31 : Int32)) ≤ (31 : Int32) := andc (-4 : Int32) 31 (by decide)
      refine ifs (fun hc2806 => ?_) (fun hc2807 => ?_)
      · skip
        unfold wX11_readLine_92
        refine sf_X11_needs hI2795 (by lia) (fun M2809 t2810 hI2811 hF2812 hq2813 => ?_)
        have hF2814 : Fr [90, 91, 92, 93, 94, 95, 96] [(81, 13), (81, 14), (81, 15), (81, 22), (81, 23), (81, 24), (81, 25), (81, 26), (81, 27), (81, 28), (81, 29), (81, 32), (81, 33), (81, 34), (81, 35), (81, 36), (81, 37)] M M2809 := fr_call hF2798 hF2812 (by decide) (by decide)
        have hx2817 : M2809 81 23 = M2793 81 23 := hF2812 81 23 (by decide) (by decide)
        have hx2818 : M2793 81 23 = M2786 81 23 := hF2796 81 23 (by decide) (by decide)
        have hx2819 : M2786 81 23 = M 81 23 := hF2789 81 23 (by decide) (by decide)
        intro W2815 hW2816
        have hI2820 : Inv W2815 := by rw [hW2816]; exact inv_set hI2811 (i_any _)
        have hF2821 : Fr [90, 91, 92, 93, 94, 95, 96] [(81, 13), (81, 14), (81, 15), (81, 22), (81, 23), (81, 24), (81, 25), (81, 26), (81, 27), (81, 28), (81, 29), (81, 32), (81, 33), (81, 34), (81, 35), (81, 36), (81, 37)] M W2815 := by rw [hW2816]; exact fr_fld hF2814 (by decide)
        have hv2822 : W2815 81 23 = ((M2809 81 23) ||| ((1 : Int32) <<< ((-4 : Int32) &&& (31 : Int32)))) := by rw [hW2816]; exact mset_at _ _ _ _
        unfold wX11_readLine_108
        refine sf_X11_next hI2820  (fun M2824 t2825 hI2826 hF2827 hq2828 => ?_)
        have hF2829 : Fr [90, 91, 92, 93, 94, 95, 96] [(81, 13), (81, 14), (81, 15), (81, 22), (81, 23), (81, 24), (81, 25), (81, 26), (81, 27), (81, 28), (81, 29), (81, 32), (81, 33), (81, 34), (81, 35), (81, 36), (81, 37)] M M2824 := fr_call hF2821 hF2827 (by decide) (by decide)
        have hx2830 : W2815 81 36 = M2809 81 36 := by rw [hW2816, mset_nk (by decide)]
        have hr2831 := iv_81_36 hI2826
        refine ifs (fun hc2832 => ?_) (fun hc2833 => ?_)
        · skip
          have hx2834 : M2824 90 16 = W2815 90 16 := hF2827 90 16 (by decide) (by decide)
          have hx2835 : W2815 90 16 = M2809 90 16 := by rw [hW2816, mset_ne (by decide)]
          have hx2836 : M2809 90 16 = M2793 90 16 := hF2812 90 16 (by decide) (by decide)
          have hx2837 : M2793 90 16 = M2786 90 16 := hF2796 90 16 (by decide) (by decide)
          have hx2838 : M2786 90 16 = M 90 16 := hF2789 90 16 (by decide) (by decide)
          have hx2839 : M2824 90 ((16 : Int32)).toNatClampNeg = W2815 90 ((16 : Int32)).toNatClampNeg := hF2827 90 _ (by decide) (by decide)
          have hr2840 := r90_16 hI2820
          have hx2841 : W2815 90 ((16 : Int32)).toNatClampNeg = M2809 90 ((16 : Int32)).toNatClampNeg := by rw [hW2816, mset_ne (by decide)]
          have hr2842 := r90_16 hI2811
          have hx2843 : M2809 90 ((16 : Int32)).toNatClampNeg = M2793 90 ((16 : Int32)).toNatClampNeg := hF2812 90 _ (by decide) (by decide)
          have hr2844 := r90_16 hI2795
          have hx2845 : M2793 90 ((16 : Int32)).toNatClampNeg = M2786 90 ((16 : Int32)).toNatClampNeg := hF2796 90 _ (by decide) (by decide)
          have hr2846 := r90_16 hI2788
          have hx2847 : M2786 90 ((16 : Int32)).toNatClampNeg = M 90 ((16 : Int32)).toNatClampNeg := hF2789 90 _ (by decide) (by decide)
          have hr2848 := r90_16 hI
          have hr2849 := r90_16 hI2826
          refine sf_X11_readLineOf hI2826 (by lia) (fun M2851 t2852 hI2853 hF2854 hq2855 => ?_)
          have hF2856 : Fr [90, 91, 92, 93, 94, 95, 96] [(81, 13), (81, 14), (81, 15), (81, 22), (81, 23), (81, 24), (81, 25), (81, 26), (81, 27), (81, 28), (81, 29), (81, 32), (81, 33), (81, 34), (81, 35), (81, 36), (81, 37)] M M2851 := fr_call hF2829 hF2854 (by decide) (by decide)
          have hr2857 := iv_81_36 hI2853
          refine ifs (fun hc2858 => ?_) (fun hc2859 => ?_)
          · skip
            have hx2860 : W2815 81 34 = M2809 81 34 := by rw [hW2816, mset_nk (by decide)]
            have hx2861 : M2809 81 34 = M2793 81 34 := hF2812 81 34 (by decide) (by decide)
            have hx2862 : M2793 81 34 = M2786 81 34 := hF2796 81 34 (by decide) (by decide)
            have hx2863 : M2786 81 34 = M 81 34 := hF2789 81 34 (by decide) (by decide)
            refine ifs (fun hc2864 => ?_) (fun hc2865 => ?_)
            · skip
              unfold wX11_readLine_146
              refine sf_X11_needs hI2853 (by lia) (fun M2867 t2868 hI2869 hF2870 hq2871 => ?_)
              have hF2872 : Fr [90, 91, 92, 93, 94, 95, 96] [(81, 13), (81, 14), (81, 15), (81, 22), (81, 23), (81, 24), (81, 25), (81, 26), (81, 27), (81, 28), (81, 29), (81, 32), (81, 33), (81, 34), (81, 35), (81, 36), (81, 37)] M M2867 := fr_call hF2856 hF2870 (by decide) (by decide)
              unfold wX11_readLine_150
              refine sf_X11_next hI2869  (fun M2874 t2875 hI2876 hF2877 hq2878 => ?_)
              have hF2879 : Fr [90, 91, 92, 93, 94, 95, 96] [(81, 13), (81, 14), (81, 15), (81, 22), (81, 23), (81, 24), (81, 25), (81, 26), (81, 27), (81, 28), (81, 29), (81, 32), (81, 33), (81, 34), (81, 35), (81, 36), (81, 37)] M M2874 := fr_call hF2872 hF2877 (by decide) (by decide)
              have hx2880 : M2867 81 32 = M2851 81 32 := hF2870 81 32 (by decide) (by decide)
              have hx2881 : W2815 81 32 = M2809 81 32 := by rw [hW2816, mset_nk (by decide)]
              have hx2882 : M2809 81 32 = M2793 81 32 := hF2812 81 32 (by decide) (by decide)
              have hx2883 : M2793 81 32 = M2786 81 32 := hF2796 81 32 (by decide) (by decide)
              have hx2884 : M2786 81 32 = M 81 32 := hF2789 81 32 (by decide) (by decide)
              have hr2885 := iv_81_32 hI2876
              have hx2886 : M2867 81 34 = M2851 81 34 := hF2870 81 34 (by decide) (by decide)
              have hr2887 := iv_81_36 hI2876
              exact hp _ _ hI2876 hF2879 (by lia)
            · skip
              unfold wX11_readLine_146
              refine sf_X11_needs hI2853 (by lia) (fun M2889 t2890 hI2891 hF2892 hq2893 => ?_)
              have hF2894 : Fr [90, 91, 92, 93, 94, 95, 96] [(81, 13), (81, 14), (81, 15), (81, 22), (81, 23), (81, 24), (81, 25), (81, 26), (81, 27), (81, 28), (81, 29), (81, 32), (81, 33), (81, 34), (81, 35), (81, 36), (81, 37)] M M2889 := fr_call hF2856 hF2892 (by decide) (by decide)
              unfold wX11_readLine_150
              refine sf_X11_next hI2891  (fun M2896 t2897 hI2898 hF2899 hq2900 => ?_)
              have hF2901 : Fr [90, 91, 92, 93, 94, 95, 96] [(81, 13), (81, 14), (81, 15), (81, 22), (81, 23), (81, 24), (81, 25), (81, 26), (81, 27), (81, 28), (81, 29), (81, 32), (81, 33), (81, 34), (81, 35), (81, 36), (81, 37)] M M2896 := fr_call hF2894 hF2899 (by decide) (by decide)
              have hx2902 : M2889 81 32 = M2851 81 32 := hF2892 81 32 (by decide) (by decide)
              have hx2903 : W2815 81 32 = M2809 81 32 := by rw [hW2816, mset_nk (by decide)]
              have hx2904 : M2809 81 32 = M2793 81 32 := hF2812 81 32 (by decide) (by decide)
              have hx2905 : M2793 81 32 = M2786 81 32 := hF2796 81 32 (by decide) (by decide)
              have hx2906 : M2786 81 32 = M 81 32 := hF2789 81 32 (by decide) (by decide)
              have hr2907 := iv_81_32 hI2898
              have hx2908 : M2889 81 34 = M2851 81 34 := hF2892 81 34 (by decide) (by decide)
              have hr2909 := iv_81_36 hI2898
              exact hp _ _ hI2898 hF2901 (by lia)
          · skip
            unfold wX11_readLine_150
            refine sf_X11_next hI2853  (fun M2911 t2912 hI2913 hF2914 hq2915 => ?_)
            have hF2916 : Fr [90, 91, 92, 93, 94, 95, 96] [(81, 13), (81, 14), (81, 15), (81, 22), (81, 23), (81, 24), (81, 25), (81, 26), (81, 27), (81, 28), (81, 29), (81, 32), (81, 33), (81, 34), (81, 35), (81, 36), (81, 37)] M M2911 := fr_call hF2856 hF2914 (by decide) (by decide)
            have hx2917 : W2815 81 32 = M2809 81 32 := by rw [hW2816, mset_nk (by decide)]
            have hx2918 : M2809 81 32 = M2793 81 32 := hF2812 81 32 (by decide) (by decide)
            have hx2919 : M2793 81 32 = M2786 81 32 := hF2796 81 32 (by decide) (by decide)
            have hx2920 : M2786 81 32 = M 81 32 := hF2789 81 32 (by decide) (by decide)
            have hr2921 := iv_81_32 hI2913
            have hx2922 : W2815 81 34 = M2809 81 34 := by rw [hW2816, mset_nk (by decide)]
            have hx2923 : M2809 81 34 = M2793 81 34 := hF2812 81 34 (by decide) (by decide)
            have hx2924 : M2793 81 34 = M2786 81 34 := hF2796 81 34 (by decide) (by decide)
            have hx2925 : M2786 81 34 = M 81 34 := hF2789 81 34 (by decide) (by decide)
            have hr2926 := iv_81_36 hI2913
            exact hp _ _ hI2913 hF2916 (by lia)
        · skip
          have hx2927 : W2815 81 32 = M2809 81 32 := by rw [hW2816, mset_nk (by decide)]
          have hx2928 : M2809 81 32 = M2793 81 32 := hF2812 81 32 (by decide) (by decide)
          have hx2929 : M2793 81 32 = M2786 81 32 := hF2796 81 32 (by decide) (by decide)
          have hx2930 : M2786 81 32 = M 81 32 := hF2789 81 32 (by decide) (by decide)
          have hr2931 := iv_81_32 hI2826
          have hx2932 : W2815 81 34 = M2809 81 34 := by rw [hW2816, mset_nk (by decide)]
          have hx2933 : M2809 81 34 = M2793 81 34 := hF2812 81 34 (by decide) (by decide)
          have hx2934 : M2793 81 34 = M2786 81 34 := hF2796 81 34 (by decide) (by decide)
          have hx2935 : M2786 81 34 = M 81 34 := hF2789 81 34 (by decide) (by decide)
          exact hp _ _ hI2826 hF2829 (by lia)
      · skip
        unfold wX11_readLine_92
        refine sf_X11_needs hI2795 (by lia) (fun M2937 t2938 hI2939 hF2940 hq2941 => ?_)
        have hF2942 : Fr [90, 91, 92, 93, 94, 95, 96] [(81, 13), (81, 14), (81, 15), (81, 22), (81, 23), (81, 24), (81, 25), (81, 26), (81, 27), (81, 28), (81, 29), (81, 32), (81, 33), (81, 34), (81, 35), (81, 36), (81, 37)] M M2937 := fr_call hF2798 hF2940 (by decide) (by decide)
        have hx2945 : M2937 81 23 = M2793 81 23 := hF2940 81 23 (by decide) (by decide)
        have hx2946 : M2793 81 23 = M2786 81 23 := hF2796 81 23 (by decide) (by decide)
        have hx2947 : M2786 81 23 = M 81 23 := hF2789 81 23 (by decide) (by decide)
        intro W2943 hW2944
        have hI2948 : Inv W2943 := by rw [hW2944]; exact inv_set hI2939 (i_any _)
        have hF2949 : Fr [90, 91, 92, 93, 94, 95, 96] [(81, 13), (81, 14), (81, 15), (81, 22), (81, 23), (81, 24), (81, 25), (81, 26), (81, 27), (81, 28), (81, 29), (81, 32), (81, 33), (81, 34), (81, 35), (81, 36), (81, 37)] M W2943 := by rw [hW2944]; exact fr_fld hF2942 (by decide)
        have hv2950 : W2943 81 23 = ((M2937 81 23) ||| ((1 : Int32) <<< ((-4 : Int32) &&& (31 : Int32)))) := by rw [hW2944]; exact mset_at _ _ _ _
        unfold wX11_readLine_108
        refine sf_X11_next hI2948  (fun M2952 t2953 hI2954 hF2955 hq2956 => ?_)
        have hF2957 : Fr [90, 91, 92, 93, 94, 95, 96] [(81, 13), (81, 14), (81, 15), (81, 22), (81, 23), (81, 24), (81, 25), (81, 26), (81, 27), (81, 28), (81, 29), (81, 32), (81, 33), (81, 34), (81, 35), (81, 36), (81, 37)] M M2952 := fr_call hF2949 hF2955 (by decide) (by decide)
        have hx2958 : W2943 81 36 = M2937 81 36 := by rw [hW2944, mset_nk (by decide)]
        have hr2959 := iv_81_36 hI2954
        refine ifs (fun hc2960 => ?_) (fun hc2961 => ?_)
        · skip
          have hx2962 : M2952 90 16 = W2943 90 16 := hF2955 90 16 (by decide) (by decide)
          have hx2963 : W2943 90 16 = M2937 90 16 := by rw [hW2944, mset_ne (by decide)]
          have hx2964 : M2937 90 16 = M2793 90 16 := hF2940 90 16 (by decide) (by decide)
          have hx2965 : M2793 90 16 = M2786 90 16 := hF2796 90 16 (by decide) (by decide)
          have hx2966 : M2786 90 16 = M 90 16 := hF2789 90 16 (by decide) (by decide)
          have hx2967 : M2952 90 ((16 : Int32)).toNatClampNeg = W2943 90 ((16 : Int32)).toNatClampNeg := hF2955 90 _ (by decide) (by decide)
          have hr2968 := r90_16 hI2948
          have hx2969 : W2943 90 ((16 : Int32)).toNatClampNeg = M2937 90 ((16 : Int32)).toNatClampNeg := by rw [hW2944, mset_ne (by decide)]
          have hr2970 := r90_16 hI2939
          have hx2971 : M2937 90 ((16 : Int32)).toNatClampNeg = M2793 90 ((16 : Int32)).toNatClampNeg := hF2940 90 _ (by decide) (by decide)
          have hr2972 := r90_16 hI2795
          have hx2973 : M2793 90 ((16 : Int32)).toNatClampNeg = M2786 90 ((16 : Int32)).toNatClampNeg := hF2796 90 _ (by decide) (by decide)
          have hr2974 := r90_16 hI2788
          have hx2975 : M2786 90 ((16 : Int32)).toNatClampNeg = M 90 ((16 : Int32)).toNatClampNeg := hF2789 90 _ (by decide) (by decide)
          have hr2976 := r90_16 hI
          have hr2977 := r90_16 hI2954
          refine sf_X11_readLineOf hI2954 (by lia) (fun M2979 t2980 hI2981 hF2982 hq2983 => ?_)
          have hF2984 : Fr [90, 91, 92, 93, 94, 95, 96] [(81, 13), (81, 14), (81, 15), (81, 22), (81, 23), (81, 24), (81, 25), (81, 26), (81, 27), (81, 28), (81, 29), (81, 32), (81, 33), (81, 34), (81, 35), (81, 36), (81, 37)] M M2979 := fr_call hF2957 hF2982 (by decide) (by decide)
          have hr2985 := iv_81_36 hI2981
          refine ifs (fun hc2986 => ?_) (fun hc2987 => ?_)
          · skip
            have hx2988 : W2943 81 34 = M2937 81 34 := by rw [hW2944, mset_nk (by decide)]
            have hx2989 : M2937 81 34 = M2793 81 34 := hF2940 81 34 (by decide) (by decide)
            have hx2990 : M2793 81 34 = M2786 81 34 := hF2796 81 34 (by decide) (by decide)
            have hx2991 : M2786 81 34 = M 81 34 := hF2789 81 34 (by decide) (by decide)
            refine ifs (fun hc2992 => ?_) (fun hc2993 => ?_)
            · skip
              unfold wX11_readLine_146
              refine sf_X11_needs hI2981 (by lia) (fun M2995 t2996 hI2997 hF2998 hq2999 => ?_)
              have hF3000 : Fr [90, 91, 92, 93, 94, 95, 96] [(81, 13), (81, 14), (81, 15), (81, 22), (81, 23), (81, 24), (81, 25), (81, 26), (81, 27), (81, 28), (81, 29), (81, 32), (81, 33), (81, 34), (81, 35), (81, 36), (81, 37)] M M2995 := fr_call hF2984 hF2998 (by decide) (by decide)
              unfold wX11_readLine_150
              refine sf_X11_next hI2997  (fun M3002 t3003 hI3004 hF3005 hq3006 => ?_)
              have hF3007 : Fr [90, 91, 92, 93, 94, 95, 96] [(81, 13), (81, 14), (81, 15), (81, 22), (81, 23), (81, 24), (81, 25), (81, 26), (81, 27), (81, 28), (81, 29), (81, 32), (81, 33), (81, 34), (81, 35), (81, 36), (81, 37)] M M3002 := fr_call hF3000 hF3005 (by decide) (by decide)
              have hx3008 : M2995 81 32 = M2979 81 32 := hF2998 81 32 (by decide) (by decide)
              have hx3009 : W2943 81 32 = M2937 81 32 := by rw [hW2944, mset_nk (by decide)]
              have hx3010 : M2937 81 32 = M2793 81 32 := hF2940 81 32 (by decide) (by decide)
              have hx3011 : M2793 81 32 = M2786 81 32 := hF2796 81 32 (by decide) (by decide)
              have hx3012 : M2786 81 32 = M 81 32 := hF2789 81 32 (by decide) (by decide)
              have hr3013 := iv_81_32 hI3004
              have hx3014 : M2995 81 34 = M2979 81 34 := hF2998 81 34 (by decide) (by decide)
              have hr3015 := iv_81_36 hI3004
              exact hp _ _ hI3004 hF3007 (by lia)
            · skip
              unfold wX11_readLine_146
              refine sf_X11_needs hI2981 (by lia) (fun M3017 t3018 hI3019 hF3020 hq3021 => ?_)
              have hF3022 : Fr [90, 91, 92, 93, 94, 95, 96] [(81, 13), (81, 14), (81, 15), (81, 22), (81, 23), (81, 24), (81, 25), (81, 26), (81, 27), (81, 28), (81, 29), (81, 32), (81, 33), (81, 34), (81, 35), (81, 36), (81, 37)] M M3017 := fr_call hF2984 hF3020 (by decide) (by decide)
              unfold wX11_readLine_150
              refine sf_X11_next hI3019  (fun M3024 t3025 hI3026 hF3027 hq3028 => ?_)
              have hF3029 : Fr [90, 91, 92, 93, 94, 95, 96] [(81, 13), (81, 14), (81, 15), (81, 22), (81, 23), (81, 24), (81, 25), (81, 26), (81, 27), (81, 28), (81, 29), (81, 32), (81, 33), (81, 34), (81, 35), (81, 36), (81, 37)] M M3024 := fr_call hF3022 hF3027 (by decide) (by decide)
              have hx3030 : M3017 81 32 = M2979 81 32 := hF3020 81 32 (by decide) (by decide)
              have hx3031 : W2943 81 32 = M2937 81 32 := by rw [hW2944, mset_nk (by decide)]
              have hx3032 : M2937 81 32 = M2793 81 32 := hF2940 81 32 (by decide) (by decide)
              have hx3033 : M2793 81 32 = M2786 81 32 := hF2796 81 32 (by decide) (by decide)
              have hx3034 : M2786 81 32 = M 81 32 := hF2789 81 32 (by decide) (by decide)
              have hr3035 := iv_81_32 hI3026
              have hx3036 : M3017 81 34 = M2979 81 34 := hF3020 81 34 (by decide) (by decide)
              have hr3037 := iv_81_36 hI3026
              exact hp _ _ hI3026 hF3029 (by lia)
          · skip
            unfold wX11_readLine_150
            refine sf_X11_next hI2981  (fun M3039 t3040 hI3041 hF3042 hq3043 => ?_)
            have hF3044 : Fr [90, 91, 92, 93, 94, 95, 96] [(81, 13), (81, 14), (81, 15), (81, 22), (81, 23), (81, 24), (81, 25), (81, 26), (81, 27), (81, 28), (81, 29), (81, 32), (81, 33), (81, 34), (81, 35), (81, 36), (81, 37)] M M3039 := fr_call hF2984 hF3042 (by decide) (by decide)
            have hx3045 : W2943 81 32 = M2937 81 32 := by rw [hW2944, mset_nk (by decide)]
            have hx3046 : M2937 81 32 = M2793 81 32 := hF2940 81 32 (by decide) (by decide)
            have hx3047 : M2793 81 32 = M2786 81 32 := hF2796 81 32 (by decide) (by decide)
            have hx3048 : M2786 81 32 = M 81 32 := hF2789 81 32 (by decide) (by decide)
            have hr3049 := iv_81_32 hI3041
            have hx3050 : W2943 81 34 = M2937 81 34 := by rw [hW2944, mset_nk (by decide)]
            have hx3051 : M2937 81 34 = M2793 81 34 := hF2940 81 34 (by decide) (by decide)
            have hx3052 : M2793 81 34 = M2786 81 34 := hF2796 81 34 (by decide) (by decide)
            have hx3053 : M2786 81 34 = M 81 34 := hF2789 81 34 (by decide) (by decide)
            have hr3054 := iv_81_36 hI3041
            exact hp _ _ hI3041 hF3044 (by lia)
        · skip
          have hx3055 : W2943 81 32 = M2937 81 32 := by rw [hW2944, mset_nk (by decide)]
          have hx3056 : M2937 81 32 = M2793 81 32 := hF2940 81 32 (by decide) (by decide)
          have hx3057 : M2793 81 32 = M2786 81 32 := hF2796 81 32 (by decide) (by decide)
          have hx3058 : M2786 81 32 = M 81 32 := hF2789 81 32 (by decide) (by decide)
          have hr3059 := iv_81_32 hI2954
          have hx3060 : W2943 81 34 = M2937 81 34 := by rw [hW2944, mset_nk (by decide)]
          have hx3061 : M2937 81 34 = M2793 81 34 := hF2940 81 34 (by decide) (by decide)
          have hx3062 : M2793 81 34 = M2786 81 34 := hF2796 81 34 (by decide) (by decide)
          have hx3063 : M2786 81 34 = M 81 34 := hF2789 81 34 (by decide) (by decide)
          exact hp _ _ hI2954 hF2957 (by lia)
    · skip
      unfold wX11_readLine_108
      refine sf_X11_next hI2795  (fun M3065 t3066 hI3067 hF3068 hq3069 => ?_)
      have hF3070 : Fr [90, 91, 92, 93, 94, 95, 96] [(81, 13), (81, 14), (81, 15), (81, 22), (81, 23), (81, 24), (81, 25), (81, 26), (81, 27), (81, 28), (81, 29), (81, 32), (81, 33), (81, 34), (81, 35), (81, 36), (81, 37)] M M3065 := fr_call hF2798 hF3068 (by decide) (by decide)
      have hr3071 := iv_81_36 hI3067
      refine ifs (fun hc3072 => ?_) (fun hc3073 => ?_)
      · skip
        have hx3074 : M3065 90 16 = M2793 90 16 := hF3068 90 16 (by decide) (by decide)
        have hx3075 : M2793 90 16 = M2786 90 16 := hF2796 90 16 (by decide) (by decide)
        have hx3076 : M2786 90 16 = M 90 16 := hF2789 90 16 (by decide) (by decide)
        have hx3077 : M3065 90 ((16 : Int32)).toNatClampNeg = M2793 90 ((16 : Int32)).toNatClampNeg := hF3068 90 _ (by decide) (by decide)
        have hr3078 := r90_16 hI2795
        have hx3079 : M2793 90 ((16 : Int32)).toNatClampNeg = M2786 90 ((16 : Int32)).toNatClampNeg := hF2796 90 _ (by decide) (by decide)
        have hr3080 := r90_16 hI2788
        have hx3081 : M2786 90 ((16 : Int32)).toNatClampNeg = M 90 ((16 : Int32)).toNatClampNeg := hF2789 90 _ (by decide) (by decide)
        have hr3082 := r90_16 hI
        have hr3083 := r90_16 hI3067
        refine sf_X11_readLineOf hI3067 (by lia) (fun M3085 t3086 hI3087 hF3088 hq3089 => ?_)
        have hF3090 : Fr [90, 91, 92, 93, 94, 95, 96] [(81, 13), (81, 14), (81, 15), (81, 22), (81, 23), (81, 24), (81, 25), (81, 26), (81, 27), (81, 28), (81, 29), (81, 32), (81, 33), (81, 34), (81, 35), (81, 36), (81, 37)] M M3085 := fr_call hF3070 hF3088 (by decide) (by decide)
        have hr3091 := iv_81_36 hI3087
        refine ifs (fun hc3092 => ?_) (fun hc3093 => ?_)
        · skip
          have hx3094 : M2793 81 34 = M2786 81 34 := hF2796 81 34 (by decide) (by decide)
          have hx3095 : M2786 81 34 = M 81 34 := hF2789 81 34 (by decide) (by decide)
          refine ifs (fun hc3096 => ?_) (fun hc3097 => ?_)
          · skip
            unfold wX11_readLine_146
            refine sf_X11_needs hI3087 (by lia) (fun M3099 t3100 hI3101 hF3102 hq3103 => ?_)
            have hF3104 : Fr [90, 91, 92, 93, 94, 95, 96] [(81, 13), (81, 14), (81, 15), (81, 22), (81, 23), (81, 24), (81, 25), (81, 26), (81, 27), (81, 28), (81, 29), (81, 32), (81, 33), (81, 34), (81, 35), (81, 36), (81, 37)] M M3099 := fr_call hF3090 hF3102 (by decide) (by decide)
            unfold wX11_readLine_150
            refine sf_X11_next hI3101  (fun M3106 t3107 hI3108 hF3109 hq3110 => ?_)
            have hF3111 : Fr [90, 91, 92, 93, 94, 95, 96] [(81, 13), (81, 14), (81, 15), (81, 22), (81, 23), (81, 24), (81, 25), (81, 26), (81, 27), (81, 28), (81, 29), (81, 32), (81, 33), (81, 34), (81, 35), (81, 36), (81, 37)] M M3106 := fr_call hF3104 hF3109 (by decide) (by decide)
            have hx3112 : M3099 81 32 = M3085 81 32 := hF3102 81 32 (by decide) (by decide)
            have hx3113 : M2793 81 32 = M2786 81 32 := hF2796 81 32 (by decide) (by decide)
            have hx3114 : M2786 81 32 = M 81 32 := hF2789 81 32 (by decide) (by decide)
            have hr3115 := iv_81_32 hI3108
            have hx3116 : M3099 81 34 = M3085 81 34 := hF3102 81 34 (by decide) (by decide)
            have hr3117 := iv_81_36 hI3108
            exact hp _ _ hI3108 hF3111 (by lia)
          · skip
            unfold wX11_readLine_146
            refine sf_X11_needs hI3087 (by lia) (fun M3119 t3120 hI3121 hF3122 hq3123 => ?_)
            have hF3124 : Fr [90, 91, 92, 93, 94, 95, 96] [(81, 13), (81, 14), (81, 15), (81, 22), (81, 23), (81, 24), (81, 25), (81, 26), (81, 27), (81, 28), (81, 29), (81, 32), (81, 33), (81, 34), (81, 35), (81, 36), (81, 37)] M M3119 := fr_call hF3090 hF3122 (by decide) (by decide)
            unfold wX11_readLine_150
            refine sf_X11_next hI3121  (fun M3126 t3127 hI3128 hF3129 hq3130 => ?_)
            have hF3131 : Fr [90, 91, 92, 93, 94, 95, 96] [(81, 13), (81, 14), (81, 15), (81, 22), (81, 23), (81, 24), (81, 25), (81, 26), (81, 27), (81, 28), (81, 29), (81, 32), (81, 33), (81, 34), (81, 35), (81, 36), (81, 37)] M M3126 := fr_call hF3124 hF3129 (by decide) (by decide)
            have hx3132 : M3119 81 32 = M3085 81 32 := hF3122 81 32 (by decide) (by decide)
            have hx3133 : M2793 81 32 = M2786 81 32 := hF2796 81 32 (by decide) (by decide)
            have hx3134 : M2786 81 32 = M 81 32 := hF2789 81 32 (by decide) (by decide)
            have hr3135 := iv_81_32 hI3128
            have hx3136 : M3119 81 34 = M3085 81 34 := hF3122 81 34 (by decide) (by decide)
            have hr3137 := iv_81_36 hI3128
            exact hp _ _ hI3128 hF3131 (by lia)
        · skip
          unfold wX11_readLine_150
          refine sf_X11_next hI3087  (fun M3139 t3140 hI3141 hF3142 hq3143 => ?_)
          have hF3144 : Fr [90, 91, 92, 93, 94, 95, 96] [(81, 13), (81, 14), (81, 15), (81, 22), (81, 23), (81, 24), (81, 25), (81, 26), (81, 27), (81, 28), (81, 29), (81, 32), (81, 33), (81, 34), (81, 35), (81, 36), (81, 37)] M M3139 := fr_call hF3090 hF3142 (by decide) (by decide)
          have hx3145 : M2793 81 32 = M2786 81 32 := hF2796 81 32 (by decide) (by decide)
          have hx3146 : M2786 81 32 = M 81 32 := hF2789 81 32 (by decide) (by decide)
          have hr3147 := iv_81_32 hI3141
          have hx3148 : M2793 81 34 = M2786 81 34 := hF2796 81 34 (by decide) (by decide)
          have hx3149 : M2786 81 34 = M 81 34 := hF2789 81 34 (by decide) (by decide)
          have hr3150 := iv_81_36 hI3141
          exact hp _ _ hI3141 hF3144 (by lia)
      · skip
        have hx3151 : M2793 81 32 = M2786 81 32 := hF2796 81 32 (by decide) (by decide)
        have hx3152 : M2786 81 32 = M 81 32 := hF2789 81 32 (by decide) (by decide)
        have hr3153 := iv_81_32 hI3067
        have hx3154 : M2793 81 34 = M2786 81 34 := hF2796 81 34 (by decide) (by decide)
        have hx3155 : M2786 81 34 = M 81 34 := hF2789 81 34 (by decide) (by decide)
        exact hp _ _ hI3067 hF3070 (by lia)
