set_option maxHeartbeats 4000000 in
theorem sf_X11_isBank {post : Int32 → MM → Int64 → Prop} {M : MM} {tl : Int64} {v0 : Int32} (hI : Inv M) (hp : ∀ (r : Int32), ((r = 0 ∨ r = 1) ∧ (r ≠ 0 → 0 ≤ v0 ∧ v0 < 2)) → post r M tl) : wpX11_isBank post M tl v0 := by
  unfold wpX11_isBank
  refine m_in (v := v0) (lo := 0) (hi := 1) rfl rfl rfl (fun hn1 hn2 => ?_) (fun hn3 => ?_)
  · skip
    refine And.intro (nar_b (by lia)) ?_
    exact hp _ (by lia)
  · skip
    refine And.intro (nar_b (by lia)) ?_
    exact hp _ (by lia)
set_option maxHeartbeats 4000000 in
theorem sf_X11_isLot {post : Int32 → MM → Int64 → Prop} {M : MM} {tl : Int64} {v1 : Int32} {v2 : Int32} (hI : Inv M) (hp : ∀ (r : Int32), ((r = 0 ∨ r = 1) ∧ (r ≠ 0 → 0 ≤ v1 ∧ v1 < 2 ∧ 0 ≤ v2 ∧ v2 < 8)) → post r M tl) : wpX11_isLot post M tl v1 v2 := by
  unfold wpX11_isLot
  refine sf_X11_isBank hI  (fun r1 hq2 => ?_)
  refine ifs (fun hc3 => ?_) (fun hc4 => ?_)
  · skip
    exact hp _ (by lia)
  · skip
    have hr5 := iv_81_2 hI
    refine m_in (v := v2) (lo := 0) (hi := ((M 81 2) - (1 : Int32))) rfl rfl rfl (fun hn6 hn7 => ?_) (fun hn8 => ?_)
    · skip
      refine ifs (fun hc9 => ?_) (fun hc10 => ?_)
      · skip
        exact hp _ (by lia)
      · skip
        exact hp _ (by lia)
    · skip
      refine ifs (fun hc11 => ?_) (fun hc12 => ?_)
      · skip
        exact hp _ (by lia)
      · skip
        exact hp _ (by lia)
set_option maxHeartbeats 4000000 in
theorem sf_X11_isThing {post : Int32 → MM → Int64 → Prop} {M : MM} {tl : Int64} {v0 : Int32} (hI : Inv M) (hp : ∀ (r : Int32), ((r = 0 ∨ r = 1) ∧ (r ≠ 0 → ((0 ≤ v0 ∧ v0 ≤ 63) ∧ 0 ≤ v0 - v0 / 8 * 8 ∧ v0 - v0 / 8 * 8 ≤ 5))) → post r M tl) : wpX11_isThing post M tl v0 := by
  unfold wpX11_isThing
  have hz := th_z v0
  refine ifs (fun hc1 => ?_) (fun hc2 => ?_)
  · skip
    exact hp _ (by lia)
  · skip
    refine m_in (v := v0) (lo := 0) (hi := 63) rfl rfl rfl (fun hn3 hn4 => ?_) (fun hn5 => ?_)
    · skip
      refine ifs (fun hc6 => ?_) (fun hc7 => ?_)
      · skip
        exact hp _ (by lia)
      · skip
        refine m_in (v := (v0 - ((v0 / (8 : Int32)) * (8 : Int32)))) (lo := 1) (hi := 5) rfl rfl rfl (fun hn8 hn9 => ?_) (fun hn10 => ?_)
        · skip
          refine ifs (fun hc11 => ?_) (fun hc12 => ?_)
          · skip
            exact hp _ (by lia)
          · skip
            exact hp _ (by lia)
        · skip
          refine ifs (fun hc13 => ?_) (fun hc14 => ?_)
          · skip
            exact hp _ (by lia)
          · skip
            exact hp _ (by lia)
    · skip
      refine ifs (fun hc15 => ?_) (fun hc16 => ?_)
      · skip
        exact hp _ (by lia)
      · skip
        refine m_in (v := (v0 - ((v0 / (8 : Int32)) * (8 : Int32)))) (lo := 1) (hi := 5) rfl rfl rfl (fun hn17 hn18 => ?_) (fun hn19 => ?_)
        · skip
          refine ifs (fun hc20 => ?_) (fun hc21 => ?_)
          · skip
            exact hp _ (by lia)
          · skip
            exact hp _ (by lia)
        · skip
          refine ifs (fun hc22 => ?_) (fun hc23 => ?_)
          · skip
            exact hp _ (by lia)
          · skip
            exact hp _ (by lia)
set_option maxHeartbeats 4000000 in
theorem sf_X11_plot {post : Int32 → MM → Int64 → Prop} {M : MM} {tl : Int64} {v1 : Int32} {v2 : Int32} {v3 : Int32} {v4 : Int32} (hI : Inv M) (hp : ∀ (r : Int32) (M1 : MM) (t1 : Int64), Inv M1 → Fr [82] [] M M1 → True → post r M1 t1) : wpX11_plot post M tl v1 v2 v3 v4 := by
  unfold wpX11_plot
  refine And.intro (vpI (c := 381) (by decide) (by lia) (by lia)) ?_
  have hr1 := r82_16 hI
  refine ifs (fun hc2 => ?_) (fun hc3 => ?_)
  · skip
    unfold wX11_plot_39
    refine m_in (v := v1) (lo := 0) (hi := 23) rfl rfl rfl (fun hn4 hn5 => ?_) (fun hn6 => ?_)
    · skip
      refine ifs (fun hc7 => ?_) (fun hc8 => ?_)
      · skip
        exact hp _ _ _ hI fr_rfl trivial
      · skip
        refine sf_X11_isLot hI  (fun r9 hq10 => ?_)
        refine ifs (fun hc11 => ?_) (fun hc12 => ?_)
        · skip
          exact hp _ _ _ hI fr_rfl trivial
        · skip
          refine sf_X11_isThing hI  (fun r13 hq14 => ?_)
          refine ifs (fun hc15 => ?_) (fun hc16 => ?_)
          · skip
            exact hp _ _ _ hI fr_rfl trivial
          · skip
            refine ifs (fun hc17 => ?_) (fun hc18 => ?_)
            · skip
              exact hp _ _ _ hI fr_rfl trivial
            · skip
              refine And.intro (vpI (c := 381) (by decide) (by lia) (by lia)) ?_
              intro W19 hW20
              have hI21 : Inv W19 := by rw [hW20]; exact w82_17_0 hI _ _ (by lia) (by lia) (by first | lia | (unfold Th; lia))
              have hF22 : Fr [82] [] M W19 := by rw [hW20]; exact fr_arr fr_rfl (by decide)
              refine And.intro (vpI (c := 381) (by decide) (by lia) (by lia)) ?_
              intro W23 hW24
              have hI25 : Inv W23 := by rw [hW24]; exact w82_17_1 hI21 _ _ (by lia) (by lia) (by first | lia | (unfold Th; lia))
              have hF26 : Fr [82] [] M W23 := by rw [hW24]; exact fr_arr hF22 (by decide)
              refine And.intro (vpI (c := 381) (by decide) (by lia) (by lia)) ?_
              intro W27 hW28
              have hI29 : Inv W27 := by rw [hW28]; exact w82_17_2 hI25 _ _ (by lia) (by lia) (by first | lia | (unfold Th; lia))
              have hF30 : Fr [82] [] M W27 := by rw [hW28]; exact fr_arr hF26 (by decide)
              refine And.intro (vpI (c := 381) (by decide) (by lia) (by lia)) ?_
              intro W31 hW32
              have hI33 : Inv W31 := by rw [hW32]; exact w82_17_3 hI29 _ _ (by lia) (by lia) (by first | lia | (unfold Th; lia))
              have hF34 : Fr [82] [] M W31 := by rw [hW32]; exact fr_arr hF30 (by decide)
              refine And.intro (vpI (c := 381) (by decide) (by lia) (by lia)) ?_
              intro W35 hW36
              have hI37 : Inv W35 := by rw [hW36]; exact w82_16 hI33 _ ⟨by lia, by lia⟩
              have hF38 : Fr [82] [] M W35 := by rw [hW36]; exact fr_arr hF34 (by decide)
              exact hp _ _ _ hI37 hF38 trivial
    · skip
      refine ifs (fun hc39 => ?_) (fun hc40 => ?_)
      · skip
        exact hp _ _ _ hI fr_rfl trivial
      · skip
        refine sf_X11_isLot hI  (fun r41 hq42 => ?_)
        refine ifs (fun hc43 => ?_) (fun hc44 => ?_)
        · skip
          exact hp _ _ _ hI fr_rfl trivial
        · skip
          refine sf_X11_isThing hI  (fun r45 hq46 => ?_)
          refine ifs (fun hc47 => ?_) (fun hc48 => ?_)
          · skip
            exact hp _ _ _ hI fr_rfl trivial
          · skip
            refine ifs (fun hc49 => ?_) (fun hc50 => ?_)
            · skip
              exact hp _ _ _ hI fr_rfl trivial
            · skip
              refine And.intro (vpI (c := 381) (by decide) (by lia) (by lia)) ?_
              intro W51 hW52
              have hI53 : Inv W51 := by rw [hW52]; exact w82_17_0 hI _ _ (by lia) (by lia) (by first | lia | (unfold Th; lia))
              have hF54 : Fr [82] [] M W51 := by rw [hW52]; exact fr_arr fr_rfl (by decide)
              refine And.intro (vpI (c := 381) (by decide) (by lia) (by lia)) ?_
              intro W55 hW56
              have hI57 : Inv W55 := by rw [hW56]; exact w82_17_1 hI53 _ _ (by lia) (by lia) (by first | lia | (unfold Th; lia))
              have hF58 : Fr [82] [] M W55 := by rw [hW56]; exact fr_arr hF54 (by decide)
              refine And.intro (vpI (c := 381) (by decide) (by lia) (by lia)) ?_
              intro W59 hW60
              have hI61 : Inv W59 := by rw [hW60]; exact w82_17_2 hI57 _ _ (by lia) (by lia) (by first | lia | (unfold Th; lia))
              have hF62 : Fr [82] [] M W59 := by rw [hW60]; exact fr_arr hF58 (by decide)
              refine And.intro (vpI (c := 381) (by decide) (by lia) (by lia)) ?_
              intro W63 hW64
              have hI65 : Inv W63 := by rw [hW64]; exact w82_17_3 hI61 _ _ (by lia) (by lia) (by first | lia | (unfold Th; lia))
              have hF66 : Fr [82] [] M W63 := by rw [hW64]; exact fr_arr hF62 (by decide)
              refine And.intro (vpI (c := 381) (by decide) (by lia) (by lia)) ?_
              intro W67 hW68
              have hI69 : Inv W67 := by rw [hW68]; exact w82_16 hI65 _ ⟨by lia, by lia⟩
              have hF70 : Fr [82] [] M W67 := by rw [hW68]; exact fr_arr hF66 (by decide)
              exact hp _ _ _ hI69 hF70 trivial
  · skip
    refine And.intro (vpI (c := 381) (by decide) (by lia) (by lia)) ?_
    have hr71 := r82_prev hI (M 82 ((16 : Int32)).toNatClampNeg) (by lia) (by lia)
    unfold wX11_plot_39
    refine m_in (v := v1) (lo := (M 82 ((((17 : Int32) + ((4 : Int32) * (M 82 ((16 : Int32)).toNatClampNeg))) - (4 : Int32))).toNatClampNeg)) (hi := 23) rfl rfl rfl (fun hn72 hn73 => ?_) (fun hn74 => ?_)
    · skip
      refine ifs (fun hc75 => ?_) (fun hc76 => ?_)
      · skip
        exact hp _ _ _ hI fr_rfl trivial
      · skip
        refine sf_X11_isLot hI  (fun r77 hq78 => ?_)
        refine ifs (fun hc79 => ?_) (fun hc80 => ?_)
        · skip
          exact hp _ _ _ hI fr_rfl trivial
        · skip
          refine sf_X11_isThing hI  (fun r81 hq82 => ?_)
          refine ifs (fun hc83 => ?_) (fun hc84 => ?_)
          · skip
            exact hp _ _ _ hI fr_rfl trivial
          · skip
            refine ifs (fun hc85 => ?_) (fun hc86 => ?_)
            · skip
              exact hp _ _ _ hI fr_rfl trivial
            · skip
              refine And.intro (vpI (c := 381) (by decide) (by lia) (by lia)) ?_
              intro W87 hW88
              have hI89 : Inv W87 := by rw [hW88]; exact w82_17_0 hI _ _ (by lia) (by lia) (by first | lia | (unfold Th; lia))
              have hF90 : Fr [82] [] M W87 := by rw [hW88]; exact fr_arr fr_rfl (by decide)
              refine And.intro (vpI (c := 381) (by decide) (by lia) (by lia)) ?_
              intro W91 hW92
              have hI93 : Inv W91 := by rw [hW92]; exact w82_17_1 hI89 _ _ (by lia) (by lia) (by first | lia | (unfold Th; lia))
              have hF94 : Fr [82] [] M W91 := by rw [hW92]; exact fr_arr hF90 (by decide)
              refine And.intro (vpI (c := 381) (by decide) (by lia) (by lia)) ?_
              intro W95 hW96
              have hI97 : Inv W95 := by rw [hW96]; exact w82_17_2 hI93 _ _ (by lia) (by lia) (by first | lia | (unfold Th; lia))
              have hF98 : Fr [82] [] M W95 := by rw [hW96]; exact fr_arr hF94 (by decide)
              refine And.intro (vpI (c := 381) (by decide) (by lia) (by lia)) ?_
              intro W99 hW100
              have hI101 : Inv W99 := by rw [hW100]; exact w82_17_3 hI97 _ _ (by lia) (by lia) (by first | lia | (unfold Th; lia))
              have hF102 : Fr [82] [] M W99 := by rw [hW100]; exact fr_arr hF98 (by decide)
              refine And.intro (vpI (c := 381) (by decide) (by lia) (by lia)) ?_
              intro W103 hW104
              have hI105 : Inv W103 := by rw [hW104]; exact w82_16 hI101 _ ⟨by lia, by lia⟩
              have hF106 : Fr [82] [] M W103 := by rw [hW104]; exact fr_arr hF102 (by decide)
              exact hp _ _ _ hI105 hF106 trivial
    · skip
      refine ifs (fun hc107 => ?_) (fun hc108 => ?_)
      · skip
        exact hp _ _ _ hI fr_rfl trivial
      · skip
        refine sf_X11_isLot hI  (fun r109 hq110 => ?_)
        refine ifs (fun hc111 => ?_) (fun hc112 => ?_)
        · skip
          exact hp _ _ _ hI fr_rfl trivial
        · skip
          refine sf_X11_isThing hI  (fun r113 hq114 => ?_)
          refine ifs (fun hc115 => ?_) (fun hc116 => ?_)
          · skip
            exact hp _ _ _ hI fr_rfl trivial
          · skip
            refine ifs (fun hc117 => ?_) (fun hc118 => ?_)
            · skip
              exact hp _ _ _ hI fr_rfl trivial
            · skip
              refine And.intro (vpI (c := 381) (by decide) (by lia) (by lia)) ?_
              intro W119 hW120
              have hI121 : Inv W119 := by rw [hW120]; exact w82_17_0 hI _ _ (by lia) (by lia) (by first | lia | (unfold Th; lia))
              have hF122 : Fr [82] [] M W119 := by rw [hW120]; exact fr_arr fr_rfl (by decide)
              refine And.intro (vpI (c := 381) (by decide) (by lia) (by lia)) ?_
              intro W123 hW124
              have hI125 : Inv W123 := by rw [hW124]; exact w82_17_1 hI121 _ _ (by lia) (by lia) (by first | lia | (unfold Th; lia))
              have hF126 : Fr [82] [] M W123 := by rw [hW124]; exact fr_arr hF122 (by decide)
              refine And.intro (vpI (c := 381) (by decide) (by lia) (by lia)) ?_
              intro W127 hW128
              have hI129 : Inv W127 := by rw [hW128]; exact w82_17_2 hI125 _ _ (by lia) (by lia) (by first | lia | (unfold Th; lia))
              have hF130 : Fr [82] [] M W127 := by rw [hW128]; exact fr_arr hF126 (by decide)
              refine And.intro (vpI (c := 381) (by decide) (by lia) (by lia)) ?_
              intro W131 hW132
              have hI133 : Inv W131 := by rw [hW132]; exact w82_17_3 hI129 _ _ (by lia) (by lia) (by first | lia | (unfold Th; lia))
              have hF134 : Fr [82] [] M W131 := by rw [hW132]; exact fr_arr hF130 (by decide)
              refine And.intro (vpI (c := 381) (by decide) (by lia) (by lia)) ?_
              intro W135 hW136
              have hI137 : Inv W135 := by rw [hW136]; exact w82_16 hI133 _ ⟨by lia, by lia⟩
              have hF138 : Fr [82] [] M W135 := by rw [hW136]; exact fr_arr hF134 (by decide)
              exact hp _ _ _ hI137 hF138 trivial
