/-! THE FIRST VALUES (printed by wip/gen/first.py) -/
theorem fk_23 : kd 23 = 1 := by decide
theorem fk_24 : kd 24 = 12 := by decide
theorem fk_25 : kd 25 = 16 := by decide
theorem fk_26 : kd 26 = 12 := by decide
theorem fk_27 : kd 27 = 12 := by decide
theorem fk_28 : kd 28 = 16 := by decide
theorem fk_29 : kd 29 = 12 := by decide
theorem fk_30 : kd 30 = 12 := by decide
theorem fk_31 : kd 31 = 12 := by decide
theorem fk_32 : kd 32 = 12 := by decide
theorem fk_33 : kd 33 = 12 := by decide
theorem fk_34 : kd 34 = 7 := by decide
theorem fk_35 : kd 35 = 12 := by decide
theorem fk_36 : kd 36 = 5 := by decide
theorem fk_38 : kd 38 = 5 := by decide
theorem fk_40 : kd 40 = 5 := by decide
theorem fa_24 : al 24 = 4 := by decide
theorem fa_26 : al 26 = 6 := by decide
theorem fa_27 : al 27 = 6 := by decide
theorem fa_29 : al 29 = 6 := by decide
theorem fa_30 : al 30 = 6 := by decide
theorem fa_31 : al 31 = 2 := by decide
theorem fa_32 : al 32 = 6 := by decide
theorem fa_33 : al 33 = 4 := by decide
theorem fa_35 : al 35 = 16 := by decide
theorem fa_90 : al 90 = 127 := by decide
theorem fa_91 : al 91 = 4 := by decide
theorem fa_92 : al 92 = 12 := by decide
theorem fa_93 : al 93 = 12 := by decide
theorem fa_94 : al 94 = 2 := by decide
theorem fa_95 : al 95 = 6 := by decide
theorem fa_96 : al 96 = 4 := by decide
theorem f_115 {post : MM → Int64 → Prop} {M : MM} {tl : Int64} (h : post (mset (mset (mset (mset M 33 0 0) 33 1 1) 33 2 2) 33 3 3) tl) : wX1_setFirst_115 post 5 M tl 23 0 := by
  simp [wX1_setFirst_115, vp_in, fk_23, fk_24, fk_25, fk_26, fk_27, fk_28, fk_29, fk_30, fk_31, fk_32, fk_33, fk_34, fk_35, fk_36, fk_38, fk_40, fa_24, fa_26, fa_27, fa_29, fa_30, fa_31, fa_32, fa_33, fa_35, fa_90, fa_91, fa_92, fa_93, fa_94, fa_95, fa_96]
  exact h
theorem f_94 {post : MM → Int64 → Prop} {M : MM} {tl : Int64} (h : post (mset (mset (mset (mset (mset (mset (mset (mset (mset (mset M 32 0 0) 32 1 1) 32 2 2) 32 3 3) 32 4 4) 32 5 5) 33 0 0) 33 1 1) 33 2 2) 33 3 3) tl) : wX1_setFirst_94 post 7 M tl 23 0 := by
  have k := f_115 h
  simp [wX1_setFirst_94, vp_in, fk_23, fk_24, fk_25, fk_26, fk_27, fk_28, fk_29, fk_30, fk_31, fk_32, fk_33, fk_34, fk_35, fk_36, fk_38, fk_40, fa_24, fa_26, fa_27, fa_29, fa_30, fa_31, fa_32, fa_33, fa_35, fa_90, fa_91, fa_92, fa_93, fa_94, fa_95, fa_96]
  exact ⟨5, k⟩
theorem f_56_0 {post : MM → Int64 → Prop} {bk : MM → Int64 → Nat → Int32 → Prop} {M : MM} {tl : Int64} (h : bk (mset (mset (mset (mset (mset (mset (mset (mset (mset (mset M 26 1 5) 29 1 3) 26 2 5) 29 2 3) 26 3 5) 29 3 3) 26 4 5) 29 4 3) 26 5 5) 29 5 3) tl 23 1) : wX1_setFirst_56 post bk 6 M tl 23 0 1 := by
  simp [wX1_setFirst_56, vp_in, fk_23, fk_24, fk_25, fk_26, fk_27, fk_28, fk_29, fk_30, fk_31, fk_32, fk_33, fk_34, fk_35, fk_36, fk_38, fk_40, fa_24, fa_26, fa_27, fa_29, fa_30, fa_31, fa_32, fa_33, fa_35, fa_90, fa_91, fa_92, fa_93, fa_94, fa_95, fa_96]
  exact h
theorem f_56_1 {post : MM → Int64 → Prop} {bk : MM → Int64 → Nat → Int32 → Prop} {M : MM} {tl : Int64} (h : bk (mset (mset (mset (mset (mset (mset (mset (mset (mset (mset M 27 1 5) 30 1 3) 27 2 5) 30 2 3) 27 3 5) 30 3 3) 27 4 5) 30 4 3) 27 5 5) 30 5 3) tl 23 2) : wX1_setFirst_56 post bk 6 M tl 23 1 1 := by
  simp [wX1_setFirst_56, vp_in, fk_23, fk_24, fk_25, fk_26, fk_27, fk_28, fk_29, fk_30, fk_31, fk_32, fk_33, fk_34, fk_35, fk_36, fk_38, fk_40, fa_24, fa_26, fa_27, fa_29, fa_30, fa_31, fa_32, fa_33, fa_35, fa_90, fa_91, fa_92, fa_93, fa_94, fa_95, fa_96]
  exact h
theorem f_42_2 {post : MM → Int64 → Prop} {M : MM} {tl : Int64} (h : wX1_setFirst_94 post 7 M tl 23 0) : wX1_setFirst_42 post 1 M tl 23 2 := by
  simp [wX1_setFirst_42]
  exact ⟨7, h⟩
theorem f_42_1 {post : MM → Int64 → Prop} {M : MM} {tl : Int64} (h : wX1_setFirst_42 post 1 (mset (mset (mset (mset (mset (mset (mset (mset (mset (mset (mset M 31 1 0) 27 1 5) 30 1 3) 27 2 5) 30 2 3) 27 3 5) 30 3 3) 27 4 5) 30 4 3) 27 5 5) 30 5 3) tl 23 2) : wX1_setFirst_42 post 2 M tl 23 1 := by
  have k := f_56_1 (post := post) (bk := wX1_setFirst_42 post 1) h
  unfold wX1_setFirst_42
  simp [vp_in, fk_23, fk_24, fk_25, fk_26, fk_27, fk_28, fk_29, fk_30, fk_31, fk_32, fk_33, fk_34, fk_35, fk_36, fk_38, fk_40, fa_24, fa_26, fa_27, fa_29, fa_30, fa_31, fa_32, fa_33, fa_35, fa_90, fa_91, fa_92, fa_93, fa_94, fa_95, fa_96]
  exact ⟨6, k⟩
theorem f_42_0 {post : MM → Int64 → Prop} {M : MM} {tl : Int64} (h : wX1_setFirst_42 post 2 (mset (mset (mset (mset (mset (mset (mset (mset (mset (mset (mset M 31 0 0) 26 1 5) 29 1 3) 26 2 5) 29 2 3) 26 3 5) 29 3 3) 26 4 5) 29 4 3) 26 5 5) 29 5 3) tl 23 1) : wX1_setFirst_42 post 3 M tl 23 0 := by
  have k := f_56_0 (post := post) (bk := wX1_setFirst_42 post 2) h
  unfold wX1_setFirst_42
  simp [vp_in, fk_23, fk_24, fk_25, fk_26, fk_27, fk_28, fk_29, fk_30, fk_31, fk_32, fk_33, fk_34, fk_35, fk_36, fk_38, fk_40, fa_24, fa_26, fa_27, fa_29, fa_30, fa_31, fa_32, fa_33, fa_35, fa_90, fa_91, fa_92, fa_93, fa_94, fa_95, fa_96]
  exact ⟨6, k⟩
theorem f_22 {post : MM → Int64 → Prop} {M : MM} {tl : Int64} (h : wX1_setFirst_42 post 3 (mset (mset (mset (mset M 24 0 1) 24 1 1) 24 2 1) 24 3 1) tl 23 0) : wX1_setFirst_22 post 5 M tl 23 0 := by
  simp [wX1_setFirst_22, vp_in, fk_23, fk_24, fk_25, fk_26, fk_27, fk_28, fk_29, fk_30, fk_31, fk_32, fk_33, fk_34, fk_35, fk_36, fk_38, fk_40, fa_24, fa_26, fa_27, fa_29, fa_30, fa_31, fa_32, fa_33, fa_35, fa_90, fa_91, fa_92, fa_93, fa_94, fa_95, fa_96]
  exact ⟨3, h⟩
theorem f_setFirst {post : MM → Int64 → Prop} {M : MM} {tl : Int64} (h : post (mset (mset (mset (mset (mset (mset (mset (mset (mset (mset (mset (mset (mset (mset (mset (mset (mset (mset (mset (mset (mset (mset (mset (mset (mset (mset (mset (mset (mset (mset (mset (mset (mset (mset (mset (mset (mset (mset (mset (mset M 23 0 5) 23 1 3) 23 2 1) 23 3 0) 24 0 1) 24 1 1) 24 2 1) 24 3 1) 31 0 0) 26 1 5) 29 1 3) 26 2 5) 29 2 3) 26 3 5) 29 3 3) 26 4 5) 29 4 3) 26 5 5) 29 5 3) 31 1 0) 27 1 5) 30 1 3) 27 2 5) 30 2 3) 27 3 5) 30 3 3) 27 4 5) 30 4 3) 27 5 5) 30 5 3) 32 0 0) 32 1 1) 32 2 2) 32 3 3) 32 4 4) 32 5 5) 33 0 0) 33 1 1) 33 2 2) 33 3 3) tl) : wpX1_setFirst post M tl 23 := by
  have k := f_22 (f_42_0 (f_42_1 (f_42_2 (f_94 h))))
  simp [wpX1_setFirst, fk_23, fk_24, fk_25, fk_26, fk_27, fk_28, fk_29, fk_30, fk_31, fk_32, fk_33, fk_34, fk_35, fk_36, fk_38, fk_40, fa_24, fa_26, fa_27, fa_29, fa_30, fa_31, fa_32, fa_33, fa_35, fa_90, fa_91, fa_92, fa_93, fa_94, fa_95, fa_96]
  exact ⟨5, k⟩
theorem f_clear {post : MM → Int64 → Prop} {M : MM} {tl : Int64} (h : post (mset (mset (mset (mset (mset (mset (mset (mset (mset (mset (mset (mset (mset (mset (mset (mset (mset (mset (mset M 35 0 0) 35 1 0) 35 2 0) 35 3 0) 35 4 0) 35 5 0) 35 6 0) 35 7 0) 35 8 0) 35 9 0) 35 10 0) 35 11 0) 35 12 0) 35 13 0) 35 14 0) 35 15 0) 36 3 0) 38 3 0) 40 3 0) tl) : wpX7_clear post M tl 34 := by
  unfold wpX7_clear
  refine ⟨17, ?_⟩
  simp [wX7_clear_2, wpX5_empty, vp_in, fk_23, fk_24, fk_25, fk_26, fk_27, fk_28, fk_29, fk_30, fk_31, fk_32, fk_33, fk_34, fk_35, fk_36, fk_38, fk_40, fa_24, fa_26, fa_27, fa_29, fa_30, fa_31, fa_32, fa_33, fa_35, fa_90, fa_91, fa_92, fa_93, fa_94, fa_95, fa_96]
  exact h
theorem f_restart {post : MM → Int64 → Prop} {M : MM} {tl : Int64} (h : post (mset (mset (mset (mset (mset (mset (mset (mset (mset (mset (mset (mset (mset (mset (mset (mset (mset (mset (mset (mset (mset (mset (mset (mset (mset (mset (mset (mset (mset (mset (mset (mset (mset (mset (mset (mset (mset (mset (mset (mset (mset (mset (mset (mset (mset (mset (mset (mset (mset (mset (mset (mset (mset (mset (mset (mset (mset (mset (mset (mset (mset (mset (mset M 23 0 5) 23 1 3) 23 2 1) 23 3 0) 24 0 1) 24 1 1) 24 2 1) 24 3 1) 31 0 0) 26 1 5) 29 1 3) 26 2 5) 29 2 3) 26 3 5) 29 3 3) 26 4 5) 29 4 3) 26 5 5) 29 5 3) 31 1 0) 27 1 5) 30 1 3) 27 2 5) 30 2 3) 27 3 5) 30 3 3) 27 4 5) 30 4 3) 27 5 5) 30 5 3) 32 0 0) 32 1 1) 32 2 2) 32 3 3) 32 4 4) 32 5 5) 33 0 0) 33 1 1) 33 2 2) 33 3 3) 35 0 0) 35 1 0) 35 2 0) 35 3 0) 35 4 0) 35 5 0) 35 6 0) 35 7 0) 35 8 0) 35 9 0) 35 10 0) 35 11 0) 35 12 0) 35 13 0) 35 14 0) 35 15 0) 36 3 0) 38 3 0) 40 3 0) 22 2 0) 22 3 0) 22 4 0) 22 6 0) 0) : wpX4_restart post M tl := by
  unfold wpX4_restart
  refine f_setFirst (f_clear ?_)
  intro M5 e5 M6 e6 M7 e7 M8 e8
  subst e5 e6 e7 e8
  exact h
def FC (M : MM) : Prop := (M 23 0 = 5 ∧ M 23 1 = 3 ∧ M 23 2 = 1 ∧ M 23 3 = 0) ∧ (∀ q, q < 4 → M 24 q = 1) ∧ (∀ k, k < 6 → 1 ≤ k → M 26 k = 5 ∧ M 27 k = 5) ∧ (∀ k, k < 6 → 1 ≤ k → M 29 k = 3 ∧ M 30 k = 3) ∧ (M 31 0 = 0 ∧ M 31 1 = 0) ∧ (∀ k, k < 6 → M 32 k = nI k) ∧ (∀ c, c < 4 → M 33 c = nI c) ∧ (∀ s, s < 16 → M 35 s = 0) ∧ M 36 3 = 0
theorem fc_sets (M : MM) : FC (mset (mset (mset (mset (mset (mset (mset (mset (mset (mset (mset (mset (mset (mset (mset (mset (mset (mset (mset (mset (mset (mset (mset (mset (mset (mset (mset (mset (mset (mset (mset (mset (mset (mset (mset (mset (mset (mset (mset (mset (mset (mset (mset (mset (mset (mset (mset (mset (mset (mset (mset (mset (mset (mset (mset (mset (mset (mset (mset (mset (mset (mset (mset M 23 0 5) 23 1 3) 23 2 1) 23 3 0) 24 0 1) 24 1 1) 24 2 1) 24 3 1) 31 0 0) 26 1 5) 29 1 3) 26 2 5) 29 2 3) 26 3 5) 29 3 3) 26 4 5) 29 4 3) 26 5 5) 29 5 3) 31 1 0) 27 1 5) 30 1 3) 27 2 5) 30 2 3) 27 3 5) 30 3 3) 27 4 5) 30 4 3) 27 5 5) 30 5 3) 32 0 0) 32 1 1) 32 2 2) 32 3 3) 32 4 4) 32 5 5) 33 0 0) 33 1 1) 33 2 2) 33 3 3) 35 0 0) 35 1 0) 35 2 0) 35 3 0) 35 4 0) 35 5 0) 35 6 0) 35 7 0) 35 8 0) 35 9 0) 35 10 0) 35 11 0) 35 12 0) 35 13 0) 35 14 0) 35 15 0) 36 3 0) 38 3 0) 40 3 0) 22 2 0) 22 3 0) 22 4 0) 22 6 0) := by
  refine ⟨⟨rfl, rfl, rfl, rfl⟩, ?_, ?_, ?_, ⟨rfl, rfl⟩, ?_, ?_, ?_, rfl⟩
  · intro k hk
    have : k = 0 ∨ k = 1 ∨ k = 2 ∨ k = 3 := by omega
    rcases this with rfl | rfl | rfl | rfl <;> rfl
  · intro k hk h1
    have : k = 1 ∨ k = 2 ∨ k = 3 ∨ k = 4 ∨ k = 5 := by omega
    rcases this with rfl | rfl | rfl | rfl | rfl <;> exact ⟨rfl, rfl⟩
  · intro k hk h1
    have : k = 1 ∨ k = 2 ∨ k = 3 ∨ k = 4 ∨ k = 5 := by omega
    rcases this with rfl | rfl | rfl | rfl | rfl <;> exact ⟨rfl, rfl⟩
  · intro k hk
    have : k = 0 ∨ k = 1 ∨ k = 2 ∨ k = 3 ∨ k = 4 ∨ k = 5 := by omega
    rcases this with rfl | rfl | rfl | rfl | rfl | rfl <;> rfl
  · intro k hk
    have : k = 0 ∨ k = 1 ∨ k = 2 ∨ k = 3 := by omega
    rcases this with rfl | rfl | rfl | rfl <;> rfl
  · intro k hk
    have : k = 0 ∨ k = 1 ∨ k = 2 ∨ k = 3 ∨ k = 4 ∨ k = 5 ∨ k = 6 ∨ k = 7 ∨ k = 8 ∨ k = 9 ∨ k = 10 ∨ k = 11 ∨ k = 12 ∨ k = 13 ∨ k = 14 ∨ k = 15 := by omega
    rcases this with rfl | rfl | rfl | rfl | rfl | rfl | rfl | rfl | rfl | rfl | rfl | rfl | rfl | rfl | rfl | rfl <;> rfl
theorem u_restart {post : MM → Int64 → Prop} {M : MM} {tl : Int64} (hI : Inv M) (hp : ∀ M1 : MM, Inv M1 → Fr [24, 26, 27, 29, 30, 31, 32, 33, 35] [(22, 2), (22, 3), (22, 4), (22, 6), (23, 0), (23, 1), (23, 2), (23, 3), (36, 3), (38, 3), (40, 3)] M M1 → FC M1 → (M1 22 2 = 0 ∧ M1 22 3 = 0 ∧ M1 22 4 = 0 ∧ M1 22 6 = 0) → post M1 0) : wpX4_restart post M tl := by
  have a : wpX4_restart (fun M1 _ => Inv M1 ∧ Fr [24, 26, 27, 29, 30, 31, 32, 33, 35] [(22, 2), (22, 3), (22, 4), (22, 6), (23, 0), (23, 1), (23, 2), (23, 3), (36, 3), (38, 3), (40, 3)] M M1) M tl := sf_X4_restart hI (fun M1 t1 i f _ => ⟨i, f⟩)
  have b : wpX4_restart (fun M1 t1 => (FC M1 ∧ (M1 22 2 = 0 ∧ M1 22 3 = 0 ∧ M1 22 4 = 0 ∧ M1 22 6 = 0)) ∧ t1 = 0) M tl := f_restart ⟨⟨fc_sets M, rfl, rfl, rfl, rfl⟩, rfl⟩
  refine cj_wpX4_restart (fun M1 t1 x y => ?_) a b
  obtain ⟨⟨y1, y2⟩, y3⟩ := y
  subst y3
  exact hp M1 x.1 x.2 y1 y2
theorem g_118 {post : MM → Int64 → Prop} {M : MM} {tl : Int64} (h : post (mset (mset (mset (mset (mset (mset (mset (mset (mset (mset (mset (mset (mset (mset M 95 0 0) 95 1 1) 95 2 2) 95 3 3) 95 4 4) 95 5 5) 81 22 0) 81 23 0) 81 24 0) 81 25 0) 81 26 0) 81 27 0) 81 28 0) 81 29 (-4)) tl) : wX11_firstDraft_118 post 7 M tl 0 := by
  simp [wX11_firstDraft_118, vp_in, fk_23, fk_24, fk_25, fk_26, fk_27, fk_28, fk_29, fk_30, fk_31, fk_32, fk_33, fk_34, fk_35, fk_36, fk_38, fk_40, fa_24, fa_26, fa_27, fa_29, fa_30, fa_31, fa_32, fa_33, fa_35, fa_90, fa_91, fa_92, fa_93, fa_94, fa_95, fa_96]
  exact h
theorem g_65 {post : MM → Int64 → Prop} {M : MM} {tl : Int64} (h : post (mset (mset (mset (mset (mset (mset (mset (mset (mset (mset (mset (mset (mset (mset (mset (mset (mset (mset (mset (mset (mset (mset (mset (mset (mset (mset (mset (mset (mset (mset (mset (mset (mset (mset (mset (mset (mset (mset (mset (mset M 92 0 5) 93 0 0) 92 1 5) 93 1 3) 92 2 5) 93 2 3) 92 3 5) 93 3 3) 92 4 5) 93 4 3) 92 5 5) 93 5 3) 92 6 5) 93 6 0) 92 7 5) 93 7 3) 92 8 5) 93 8 3) 92 9 5) 93 9 3) 92 10 5) 93 10 3) 92 11 5) 93 11 3) 94 0 0) 94 1 0) 95 0 0) 95 1 1) 95 2 2) 95 3 3) 95 4 4) 95 5 5) 81 22 0) 81 23 0) 81 24 0) 81 25 0) 81 26 0) 81 27 0) 81 28 0) 81 29 (-4)) tl) : wX11_firstDraft_65 post 13 M tl 0 := by
  have k := g_118 h
  simp [wX11_firstDraft_65, wX11_firstDraft_95, vp_in, fk_23, fk_24, fk_25, fk_26, fk_27, fk_28, fk_29, fk_30, fk_31, fk_32, fk_33, fk_34, fk_35, fk_36, fk_38, fk_40, fa_24, fa_26, fa_27, fa_29, fa_30, fa_31, fa_32, fa_33, fa_35, fa_90, fa_91, fa_92, fa_93, fa_94, fa_95, fa_96]
  exact ⟨7, k⟩
theorem g_38 {post : MM → Int64 → Prop} {M : MM} {tl : Int64} (h : post (mset (mset (mset (mset (mset (mset (mset (mset (mset (mset (mset (mset (mset (mset (mset (mset (mset (mset (mset (mset (mset (mset (mset (mset (mset (mset (mset (mset (mset (mset (mset (mset (mset (mset (mset (mset (mset (mset (mset (mset (mset (mset (mset (mset (mset (mset (mset (mset M 91 0 1) 96 0 0) 91 1 1) 96 1 1) 91 2 1) 96 2 2) 91 3 1) 96 3 3) 92 0 5) 93 0 0) 92 1 5) 93 1 3) 92 2 5) 93 2 3) 92 3 5) 93 3 3) 92 4 5) 93 4 3) 92 5 5) 93 5 3) 92 6 5) 93 6 0) 92 7 5) 93 7 3) 92 8 5) 93 8 3) 92 9 5) 93 9 3) 92 10 5) 93 10 3) 92 11 5) 93 11 3) 94 0 0) 94 1 0) 95 0 0) 95 1 1) 95 2 2) 95 3 3) 95 4 4) 95 5 5) 81 22 0) 81 23 0) 81 24 0) 81 25 0) 81 26 0) 81 27 0) 81 28 0) 81 29 (-4)) tl) : wX11_firstDraft_38 post 5 M tl 0 := by
  have k := g_65 h
  simp [wX11_firstDraft_38, vp_in, fk_23, fk_24, fk_25, fk_26, fk_27, fk_28, fk_29, fk_30, fk_31, fk_32, fk_33, fk_34, fk_35, fk_36, fk_38, fk_40, fa_24, fa_26, fa_27, fa_29, fa_30, fa_31, fa_32, fa_33, fa_35, fa_90, fa_91, fa_92, fa_93, fa_94, fa_95, fa_96]
  exact ⟨13, k⟩
def FN (M : MM) : Prop := (M 81 13 = 5 ∧ M 81 14 = 3 ∧ M 81 15 = 1 ∧ M 81 22 = 0) ∧ (∀ q, q < 4 → M 91 q = 1) ∧ (∀ k, k < 6 → 1 ≤ k → M 92 k = 5 ∧ M 92 (6 + k) = 5) ∧ (∀ k, k < 6 → 1 ≤ k → M 93 k = 3 ∧ M 93 (6 + k) = 3) ∧ (M 93 0 = 0 ∧ M 93 6 = 0) ∧ (M 94 0 = 0 ∧ M 94 1 = 0) ∧ (∀ k, k < 6 → M 95 k = nI k) ∧ (∀ c, c < 4 → M 96 c = nI c) ∧ (∀ s, s < 17 → M 90 s = 0) ∧ (M 81 23 = 0 ∧ M 81 24 = 0 ∧ M 81 25 = 0 ∧ M 81 26 = 0 ∧ M 81 27 = 0 ∧ M 81 28 = 0 ∧ M 81 29 = -4)
theorem fn_sets (M : MM) (h : ∀ s, s < 17 → M 90 s = 0) : FN (mset (mset (mset (mset (mset (mset (mset (mset (mset (mset (mset (mset (mset (mset (mset (mset (mset (mset (mset (mset (mset (mset (mset (mset (mset (mset (mset (mset (mset (mset (mset (mset (mset (mset (mset (mset (mset (mset (mset (mset (mset (mset (mset (mset (mset (mset (mset (mset (mset (mset (mset M 81 13 5) 81 14 3) 81 15 1) 91 0 1) 96 0 0) 91 1 1) 96 1 1) 91 2 1) 96 2 2) 91 3 1) 96 3 3) 92 0 5) 93 0 0) 92 1 5) 93 1 3) 92 2 5) 93 2 3) 92 3 5) 93 3 3) 92 4 5) 93 4 3) 92 5 5) 93 5 3) 92 6 5) 93 6 0) 92 7 5) 93 7 3) 92 8 5) 93 8 3) 92 9 5) 93 9 3) 92 10 5) 93 10 3) 92 11 5) 93 11 3) 94 0 0) 94 1 0) 95 0 0) 95 1 1) 95 2 2) 95 3 3) 95 4 4) 95 5 5) 81 22 0) 81 23 0) 81 24 0) 81 25 0) 81 26 0) 81 27 0) 81 28 0) 81 29 (-4)) := by
  refine ⟨⟨rfl, rfl, rfl, rfl⟩, ?_, ?_, ?_, ⟨rfl, rfl⟩, ⟨rfl, rfl⟩, ?_, ?_, fun s hs => h s hs, ⟨rfl, rfl, rfl, rfl, rfl, rfl, rfl⟩⟩
  · intro k hk
    have : k = 0 ∨ k = 1 ∨ k = 2 ∨ k = 3 := by omega
    rcases this with rfl | rfl | rfl | rfl <;> rfl
  · intro k hk h1
    have : k = 1 ∨ k = 2 ∨ k = 3 ∨ k = 4 ∨ k = 5 := by omega
    rcases this with rfl | rfl | rfl | rfl | rfl <;> exact ⟨rfl, rfl⟩
  · intro k hk h1
    have : k = 1 ∨ k = 2 ∨ k = 3 ∨ k = 4 ∨ k = 5 := by omega
    rcases this with rfl | rfl | rfl | rfl | rfl <;> exact ⟨rfl, rfl⟩
  · intro k hk
    have : k = 0 ∨ k = 1 ∨ k = 2 ∨ k = 3 ∨ k = 4 ∨ k = 5 := by omega
    rcases this with rfl | rfl | rfl | rfl | rfl | rfl <;> rfl
  · intro k hk
    have : k = 0 ∨ k = 1 ∨ k = 2 ∨ k = 3 := by omega
    rcases this with rfl | rfl | rfl | rfl <;> rfl
