/-! the reference's sheet, its answer exactly (by hand) -/
theorem sr_sheet40 {post : Int32 → MM → Int64 → Prop} {M0 : MM} {v1 : Int32} (h1 : 0 ≤ v1 ∧ v1 < 4) (hp : ∀ (M1 : MM) (t1 : Int64), Inv M1 → Fr [107] [] M0 M1 → post 1 M1 t1) : ∀ v4 : Int32, 0 ≤ v4 → v4 ≤ 40 → ∃ n, ∀ (M : MM) (tl : Int64), Inv M → Fr [107] [] M0 M → wX11_sheet_40 post n M tl v1 v4 := by
  refine up_ex (P := fun d v4 => ∀ (M : MM) (tl : Int64), Inv M → Fr [107] [] M0 M → wX11_sheet_40 post d M tl v1 v4) 0 40 ?_
  intro d v4 hlo hhi rc M tl hI hF
  unfold wX11_sheet_40
  refine ifs (fun c => hp _ _ hI hF) (fun c => ?_)
  refine And.intro (vpI (c := 160) (by decide) (by lia) (by lia)) ?_
  intro W e
  exact rc (by lia) _ _ (by rw [e]; exact inv_set hI (i_any _)) (by rw [e]; exact fr_arr hF (by decide))
def SH (r k l n : Int32) : Prop := (r = -1 ∧ ¬ (0 ≤ k ∧ k < 4 ∧ 0 ≤ l ∧ l < 3 ∧ n ≤ 40)) ∨ (r = -14 ∧ (0 ≤ k ∧ k < 4 ∧ 0 ≤ l ∧ l < 3) ∧ n < 0) ∨ (r = 1 ∧ (0 ≤ k ∧ k < 4 ∧ 0 ≤ l ∧ l < 3) ∧ 0 ≤ n ∧ n ≤ 40)
theorem sh_eq {r s k l n : Int32} (h : SH r k l n) (g : SH s k l n) : r = s := by
  unfold SH at h g
  lia
theorem sf_X11_sheet {post : Int32 → MM → Int64 → Prop} {M : MM} {tl : Int64} {v1 v2 v3 : Int32} (hI : Inv M) (hp : ∀ (r : Int32) (M1 : MM) (t1 : Int64), Inv M1 → Fr [105, 106, 107] [] M M1 → SH r v1 v2 v3 → post r M1 t1) : wpX11_sheet post M tl v1 v2 v3 := by
  unfold wpX11_sheet
  refine sf_X11_isSheet hI (fun r hr => ?_)
  refine ifs (fun c => ?_) (fun c => ?_)
  · exact hp _ _ _ hI fr_rfl (Or.inl ⟨rfl, by lia⟩)
  have k : 0 ≤ v1 ∧ v1 < 4 ∧ 0 ≤ v2 ∧ v2 < 3 := by lia
  refine ifs (fun c2 => ?_) (fun c2 => hp _ _ _ hI fr_rfl (Or.inl ⟨rfl, by lia⟩))
  refine ifs (fun c3 => ?_) (fun c3 => hp _ _ _ hI fr_rfl (Or.inr (Or.inl ⟨rfl, k, by lia⟩)))
  refine And.intro (vpI (c := 4) (by decide) (by lia) (by lia)) ?_
  intro W e
  refine And.intro (vpI (c := 4) (by decide) (by lia) (by lia)) ?_
  intro W2 e2
  subst e
  have i2 : Inv W2 := by rw [e2]; exact inv_set (inv_set hI (i_any _)) (show 0 ≤ v3 ∧ v3 ≤ 40 from ⟨c3, c2⟩)
  have f2 : Fr [105, 106, 107] [] M W2 := by rw [e2]; exact fr_arr (fr_arr fr_rfl (by decide)) (by decide)
  obtain ⟨n, hn⟩ := sr_sheet40 (post := post) (M0 := W2) (v1 := v1) (by lia) (fun M1 t1 i1 f1 => hp _ _ _ i1 (fr_call f2 f1 (by decide) (by decide)) (Or.inr (Or.inr ⟨rfl, k, c3, c2⟩))) 0 (by decide) (by decide)
  exact ⟨n, hn _ _ i2 fr_rfl⟩
