/-! the reference's vex (by hand) -/
theorem ix12 {o t : Int32} (ho : o = 0 ∨ o = 6) (ht : 0 ≤ t ∧ t ≤ 5) : 0 ≤ o + t ∧ o + t < 12 := by lia
section VEX
variable {post : Int32 → MM → Int64 → Prop} {M : MM} {tl : Int64} {v1 o : Int32}
theorem sr_vex66 {bk : MM → Int64 → Int32 → Int32 → Int32 → Int32 → Int32 → Int32 → Int32 → Int32 → Prop} {v8 v9 : Int32} (hI : Inv M) (h1 : 0 ≤ v1 ∧ v1 < 2) (h1' : 0 ≤ 1 - v1 ∧ 1 - v1 < 2) (ho : o = 0 ∨ o = 6) (ho' : (6 : Int32) * v1 = 0 ∨ (6 : Int32) * v1 = 6) (h8 : 0 ≤ v8 ∧ v8 < 8) (h9 : v9 = -4 ∨ (0 ≤ v9 ∧ v9 < 8)) (hb : ∀ v2 v3 v4 v5 v6 : Int32, bk M tl v1 v2 v3 v4 v5 v6 o (v8 + 1)) : ∀ v10 : Int32, 0 ≤ v10 → v10 ≤ 6 → ∃ n, ∀ v2 v3 v4 v5 v6 : Int32, wX11_vex_66 post bk n M tl v1 v2 v3 v4 v5 v6 o v8 v9 v10 := by
  refine up_ex (P := fun d v10 => ∀ v2 v3 v4 v5 v6 : Int32, wX11_vex_66 post bk d M tl v1 v2 v3 v4 v5 v6 o v8 v9 v10) 0 6 ?_
  intro d v10 hlo hhi rc v2 v3 v4 v5 v6
  unfold wX11_vex_66
  have out : ∀ v2 v3 v4 v5 v6 : Int32, wX11_vex_228 post bk M tl v1 v2 v3 v4 v5 v6 o v8 := fun v2 v3 v4 v5 v6 => by unfold wX11_vex_228; exact hb v2 v3 v4 v5 v6
  refine ifs (fun c => out _ _ _ _ _) (fun c => ifs (fun c2 => out _ _ _ _ _) (fun c2 => ?_))
  have rc := rc (by lia)
  have h10 : 0 ≤ v10 ∧ v10 < 6 := ⟨hlo, by lia⟩
  have h10' : 0 ≤ v10 ∧ v10 ≤ 5 := ⟨hlo, by lia⟩
  have h9' : 0 ≤ v9 ∧ v9 < 8 := h9.resolve_left c2
  have ht := iv_88 hI v10.toNatClampNeg
  have k174 : ∀ a b e : Int32, wX11_vex_174 post bk (wX11_vex_66 post bk d) M tl v1 v2 v3 v4 v5 v6 o v8 v9 v10 a b e := by
    intro a b e
    unfold wX11_vex_174 wX11_vex_207 wX11_vex_222
    exact ifs (fun _ => rc _ _ _ _ _) (fun _ => ifs (fun _ => rc _ _ _ _ _) (fun _ => ifs (fun _ => rc _ _ _ _ _) (fun _ => ifs (fun _ => ifs (fun _ => rc _ _ _ _ _) (fun _ => rc _ _ _ _ _)) (fun _ => rc _ _ _ _ _))))
  have k173 : ∀ a b : Int32, wX11_vex_173 post bk (wX11_vex_66 post bk d) M tl v1 v2 v3 v4 v5 v6 o v8 v9 v10 a b := by
    intro a b
    unfold wX11_vex_173
    exact k174 _ _ _
  refine And.intro (vpI (c := 6) (by decide) h10.1 h10.2) ?_
  refine And.intro (vpI (c := 12) (by decide) (ix12 ho ht).1 (ix12 ho ht).2) ?_
  refine sf_X11_kindThere hI h1' h9' (fun r hr => ?_)
  refine And.intro (vpI (c := 12) (by decide) (ix12 ho hr).1 (ix12 ho hr).2) ?_
  refine And.intro (vpI (c := 6) (by decide) h10.1 h10.2) ?_
  refine And.intro (vpI (c := 12) (by decide) (ix12 ho ht).1 (ix12 ho ht).2) ?_
  refine And.intro (vpI (c := 12) (by decide) (ix12 ho' h10').1 (ix12 ho' h10').2) ?_
  refine sf_X11_mayBe hI h1 h10 (fun r2 _ => ?_)
  refine ifs (fun _ => k173 _ _) (fun _ => ?_)
  refine sf_X11_kindThere hI h1 h8 (fun r3 _ => ?_)
  exact ifs (fun _ => k173 _ _) (fun _ => k174 _ _ _)
theorem sr_vex45 (hI : Inv M) (h1 : 0 ≤ v1 ∧ v1 < 2) (h1' : 0 ≤ 1 - v1 ∧ 1 - v1 < 2) (ho : o = 0 ∨ o = 6) (ho' : (6 : Int32) * v1 = 0 ∨ (6 : Int32) * v1 = 6) (hp : ∀ r : Int32, post r M tl) : ∀ v8 : Int32, 0 ≤ v8 → v8 ≤ 8 → ∃ n, ∀ v2 v3 v4 v5 v6 : Int32, wX11_vex_45 post n M tl v1 v2 v3 v4 v5 v6 o v8 := by
  refine up_ex (P := fun d v8 => ∀ v2 v3 v4 v5 v6 : Int32, wX11_vex_45 post d M tl v1 v2 v3 v4 v5 v6 o v8) 0 8 ?_
  intro d v8 hlo hhi rc v2 v3 v4 v5 v6
  unfold wX11_vex_45
  have hl := iv_81_2 hI
  refine ifs (fun c => ifs (fun _ => hp _) (fun _ => ifs (fun _ => hp _) (fun _ => ifs (fun _ => hp _) (fun _ => hp _)))) (fun c => ?_)
  refine sf_X11_matchOf hI (fun r hr => ?_)
  obtain ⟨n, hn⟩ := sr_vex66 (post := post) (bk := wX11_vex_45 post d) (tl := tl) (v8 := v8) (v9 := r) hI h1 h1' ho ho' ⟨hlo, by lia⟩ hr (fun v2 v3 v4 v5 v6 => rc (by lia) v2 v3 v4 v5 v6) 1 (by decide) (by decide)
  exact ⟨n, hn _ _ _ _ _⟩
end VEX
theorem sf_X11_vex {post : Int32 → MM → Int64 → Prop} {M : MM} {tl : Int64} {v1 v2 : Int32} (hI : Inv M) (hp : ∀ r : Int32, True → post r M tl) : wpX11_vex post M tl v1 v2 := by
  unfold wpX11_vex
  refine sf_X11_isBank hI (fun r hr => ?_)
  refine ifs (fun _ => hp _ trivial) (fun c => ?_)
  have h1 := hr.2 c
  refine m_in (v := v2) (lo := 0) (hi := 2) rfl rfl rfl (fun a b => ?_) (fun a => ?_)
  · refine ifn (by decide) ?_
    obtain ⟨n, hn⟩ := sr_vex45 (post := post) (tl := tl) (o := 6 * (1 - v1)) hI h1 (by lia) (by lia) (by lia) (fun r => hp r trivial) 0 (by decide) (by decide)
    exact ⟨n, hn _ _ _ _ _⟩
  · exact ifp rfl (hp _ trivial)
