/-! the reference's read (by hand) -/
/-- the t-th thing of the sheet: its first cell's place -/
abbrev rp (k f t : Int32) : Int32 := (((40 : Int32) * k) + f) + ((3 : Int32) * t)
def RD (M : MM) (k f t : Int32) : Prop := (0 ≤ rp k f t ∧ rp k f t < 158) ∧ (0 ≤ M 107 (rp k f t).toNatClampNeg ∧ M 107 (rp k f t).toNatClampNeg < 2) ∧ (0 ≤ M 107 (rp k f t + 1).toNatClampNeg ∧ M 107 (rp k f t + 1).toNatClampNeg < 8) ∧ Th (M 107 (rp k f t + 2).toNatClampNeg)
theorem rd_82 {M : MM} {a : Nat} {v : Int32} {k f t : Int32} (h : RD M k f t) : RD (mset M 82 a v) k f t := by
  unfold RD at h ⊢
  rw [mset_ne (i := 107) (by decide)]
  exact h
theorem sr_read214 {post : Int32 → MM → Int64 → Prop} {M0 : MM} {k f whole : Int32} (hw : whole ≤ 13) (hp : ∀ (r : Int32) (M1 : MM) (t1 : Int64), Inv M1 → Fr [82] [(81, 48)] M0 M1 → True → post r M1 t1) : ∀ v7 : Int32, 0 ≤ v7 → v7 ≤ 13 → ∃ n, ∀ (M : MM) (tl : Int64), Inv M → Fr [82] [(81, 48)] M0 M → (∀ t : Int32, 0 ≤ t → t < whole → RD M k f t) → wX11_read_214 post n M tl k f whole v7 := by
  refine up_ex (P := fun d v7 => ∀ (M : MM) (tl : Int64), Inv M → Fr [82] [(81, 48)] M0 M → (∀ t : Int32, 0 ≤ t → t < whole → RD M k f t) → wX11_read_214 post d M tl k f whole v7) 0 13 ?_
  intro d v7 hlo hhi rc M tl hI hF hr
  unfold wX11_read_214
  refine ifs (fun c => hp _ _ _ hI hF trivial) (fun c => ?_)
  have rc := rc (by lia)
  obtain ⟨r1, r2, r3, r4⟩ := hr v7 hlo (by lia)
  refine And.intro (vpI (c := 160) (by decide) (by lia) (by lia)) ?_
  refine And.intro (vpI (c := 160) (by decide) (by lia) (by lia)) ?_
  refine And.intro (vpI (c := 160) (by decide) (by lia) (by lia)) ?_
  refine And.intro (vpI (c := 381) (by decide) (by lia) (by lia)) ?_
  intro W e
  refine rc _ _ (by rw [e]; exact w82_th hI _ _ (by lia) (by lia) r4) (by rw [e]; exact fr_arr hF (by decide)) ?_
  intro t t0 t1
  rw [e]
  exact rd_82 (hr t t0 t1)
theorem i64_sum {a b c : Int32} (hb : 0 ≤ b ∧ b < 1000) (hc : 0 ≤ c ∧ c < 1000) : (((a : Int32).toInt64) + (b.toInt64) + (c.toInt64)).toInt = a.toInt + b.toInt + c.toInt := by
  have h1 := Int32.le_toInt a
  have h2 := Int32.toInt_lt a
  have b0 := i_ge_to (k := 0) (by decide) hb.1
  have b1 := i_lt_to (k := 1000) (by decide) hb.2
  have c0 := i_ge_to (k := 0) (by decide) hc.1
  have c1 := i_lt_to (k := 1000) (by decide) hc.2
  rw [Int64.toInt_add, Int64.toInt_add, Int32.toInt_toInt64, Int32.toInt_toInt64, Int32.toInt_toInt64]
  simp only [Int.bmod_def]
  repeat' split
  all_goals omega
/-- what the check of one cell says: within the sheet -/
theorem sr_cell {a b c s : Int32} (hb : 0 ≤ b ∧ b < 1000) (hc : 0 ≤ c ∧ c < 1000) (hs : 0 ≤ s ∧ s ≤ 40) (h0 : ¬ (lg_cmp (((a : Int32).toInt64) + (b.toInt64) + (c.toInt64)) 0) < 0) (h1 : (lg_cmp (((a : Int32).toInt64) + (b.toInt64) + (c.toInt64)) s.toInt64) < 0) : 0 ≤ a + b + c ∧ a + b + c < s ∧ -2000 ≤ a ∧ a ≤ 40 := by
  have e := i64_sum (a := a) hb hc
  have b0 := i_ge_to (k := 0) (by decide) hb.1
  have b1 := i_lt_to (k := 1000) (by decide) hb.2
  have c0 := i_ge_to (k := 0) (by decide) hc.1
  have c1 := i_lt_to (k := 1000) (by decide) hc.2
  have s0 := i_ge_to (k := 0) (by decide) hs.1
  have s1 := i_le_to (k := 40) (by decide) hs.2
  have k0 : 0 ≤ a.toInt + b.toInt + c.toInt := by
    rw [← e]
    exact Int.not_lt.mp (fun q => h0 (lc_lt (k := 0) rfl q))
  have k1 : a.toInt + b.toInt + c.toInt < s.toInt := by
    rw [← e]
    exact Int.not_le.mp (fun q => lc_nlt (k := s.toInt) (Int32.toInt_toInt64 s) q h1)
  have a0 : -2000 ≤ a := i_ge (k := -2000) (by decide) (by omega)
  have a1 : a ≤ 40 := i_le (k := 40) (by decide) (by omega)
  have ea : (a + b + c).toInt = a.toInt + b.toInt + c.toInt := by
    rw [Int32.toInt_add, Int32.toInt_add]
    simp only [Int.bmod_def]
    repeat' split
    all_goals omega
  exact ⟨i_ge (k := 0) (by decide) (by rw [ea]; exact k0), Int32.lt_iff_toInt_lt.mpr (by rw [ea]; exact k1), a0, a1⟩
section READ
variable {post : Int32 → MM → Int64 → Prop} {M : MM} {tl : Int64} {k lane f n : Int32}
theorem sr_read134 {bk : MM → Int64 → Int32 → Int32 → Int32 → Int32 → Int32 → Int32 → Int32 → Prop} {v5 v6 v7 : Int32} (hI : Inv M) (hk : 0 ≤ k ∧ k < 4) (h7 : 0 ≤ v7 ∧ v7 < 13) (hc : v5 = 0 → 0 ≤ f + 3 * v7 ∧ f + 3 * v7 + 2 < 40 ∧ -2000 ≤ f ∧ f ≤ 40) (hp : ∀ r : Int32, post r M tl) (hb1 : v5 = 0 → RD M k f v7 → bk M tl k lane f n v5 (v6 + 1) (v7 + 1)) (hb2 : v5 ≠ 0 → bk M tl k lane f n v5 v6 (v7 + 1)) : wX11_read_134 post bk M tl k lane f n v5 v6 v7 := by
  unfold wX11_read_134
  refine ifs (fun c => ?_) (fun c => ?_)
  · have hc := hc c
    refine And.intro (vpI (c := 160) (by decide) (by lia) (by lia)) ?_
    refine And.intro (vpI (c := 160) (by decide) (by lia) (by lia)) ?_
    refine sf_X11_isLot hI (fun r hr => ?_)
    refine ifs (fun c2 => hp _) (fun c2 => ?_)
    refine And.intro (vpI (c := 160) (by decide) (by lia) (by lia)) ?_
    refine sf_X11_isThing hI (fun r9 h9 => ?_)
    refine ifs (fun c3 => hp _) (fun c3 => ?_)
    unfold wX11_read_199
    have hr := hr.2 c2
    refine hb1 c ⟨⟨by lia, by lia⟩, ⟨hr.1, hr.2.1⟩, ⟨hr.2.2.1, hr.2.2.2⟩, h9.2 c3⟩
  · unfold wX11_read_199
    exact hb2 c
theorem sr_read47 {bk : MM → Int64 → Int32 → Int32 → Int32 → Int32 → Int32 → Int32 → Int32 → Prop} {v6 v7 : Int32} (hI : Inv M) (hk : 0 ≤ k ∧ k < 4) (h7 : 0 ≤ v7 ∧ v7 < 13) (hp : ∀ r : Int32, post r M tl) (hb1 : RD M k f v7 → bk M tl k lane f n 0 (v6 + 1) (v7 + 1)) (hb2 : ∀ v5 : Int32, v5 ≠ 0 → bk M tl k lane f n v5 v6 (v7 + 1)) : ∀ v8 : Int32, 0 ≤ v8 → v8 ≤ 3 → ∃ d, ∀ v5 : Int32, (v5 = 0 → 1 ≤ v8 → 0 ≤ f + 3 * v7 ∧ -2000 ≤ f ∧ f ≤ 40) → (v5 = 0 → v8 = 3 → f + 3 * v7 + 2 < 40) → wX11_read_47 post bk d M tl k lane f n v5 v6 v7 v8 := by
  refine up_ex (P := fun d v8 => ∀ v5 : Int32, (v5 = 0 → 1 ≤ v8 → 0 ≤ f + 3 * v7 ∧ -2000 ≤ f ∧ f ≤ 40) → (v5 = 0 → v8 = 3 → f + 3 * v7 + 2 < 40) → wX11_read_47 post bk d M tl k lane f n v5 v6 v7 v8) 0 3 ?_
  intro d v8 hlo hhi rc v5 g1 g2
  unfold wX11_read_47
  have hs := iv_106 hI k.toNatClampNeg
  have k134 : (v5 = 0 → 0 ≤ f + 3 * v7 ∧ f + 3 * v7 + 2 < 40 ∧ -2000 ≤ f ∧ f ≤ 40) → wX11_read_134 post bk M tl k lane f n v5 v6 v7 := fun q => sr_read134 hI hk h7 q hp (fun e r => by rw [e]; exact hb1 r) (hb2 v5)
  refine ifs (fun c => k134 (fun e => ?_)) (fun c => ?_)
  · have a := g1 e (by lia)
    have b := g2 e (by lia)
    exact ⟨a.1, b, a.2⟩
  · have rc := rc (by lia)
    have bad : ∀ s : Int32, s ≠ 0 → wX11_read_126 post bk (wX11_read_47 post bk d) M tl k lane f n v6 v7 v8 s := by
      intro s hs
      unfold wX11_read_126
      exact rc s (fun e => absurd e hs) (fun e => absurd e hs)
    refine ifs (fun c2 => ?_) (fun c2 => k134 (fun e => absurd e c2))
    refine And.intro (vpI (c := 4) (by decide) (by lia) (by lia)) ?_
    refine ifs (fun c3 => bad 1 (by decide)) (fun c3 => ?_)
    refine And.intro (vpI (c := 4) (by decide) (by lia) (by lia)) ?_
    refine ifs (fun c4 => ?_) (fun c4 => bad 3 (by decide))
    refine ifs (fun c5 => by unfold wX11_read_121; exact bad 2 (by decide)) (fun c5 => ?_)
    refine And.intro (vpI (c := 4) (by decide) (by lia) (by lia)) ?_
    refine ifs (fun c6 => ?_) (fun c6 => by unfold wX11_read_121; exact bad 2 (by decide))
    have q := sr_cell (a := f) (b := 3 * v7) (c := v8) (by lia) (by lia) hs c5 c6
    unfold wX11_read_126
    refine rc 0 (fun _ _ => ?_) (fun _ e => ?_)
    · by_cases z : v8 = 0
      · subst z
        exact ⟨by lia, by lia, by lia⟩
      · exact g1 c2 (by lia)
    · have : v8 = 2 := by lia
      subst this
      lia
end READ
theorem sr_read205 {post : Int32 → MM → Int64 → Prop} {M : MM} {tl : Int64} {k f v5 v6 : Int32} (hI : Inv M) (h6 : v6 ≤ 13) (hr : ∀ t : Int32, 0 ≤ t → t < v6 → RD M k f t) (hp : ∀ (r : Int32) (M1 : MM) (t1 : Int64), Inv M1 → Fr [82] [(81, 48)] M M1 → True → post r M1 t1) : wX11_read_205 post M tl k f v5 v6 := by
  unfold wX11_read_205
  intro W e
  have iW : Inv W := by rw [e]; exact inv_set hI (i_any _)
  have fW : Fr [82] [(81, 48)] M W := by rw [e]; exact fr_fld fr_rfl (by decide)
  have rW : ∀ t : Int32, 0 ≤ t → t < v6 → RD W k f t := fun t t0 t1 => by
    have q := hr t t0 t1
    unfold RD at q ⊢
    rw [e, mset_ne (i := 107) (by decide)]
    exact q
  obtain ⟨n, hn⟩ := sr_read214 (post := post) (M0 := M) (k := k) (f := f) (whole := v6) h6 hp 0 (by decide) (by decide)
  exact ⟨n, hn _ _ iW fW rW⟩
theorem sr_read32 {post : Int32 → MM → Int64 → Prop} {M : MM} {tl : Int64} {k lane f n : Int32} (hI : Inv M) (hk : 0 ≤ k ∧ k < 4) (hn : n ≤ 13) (hp : ∀ (r : Int32) (M1 : MM) (t1 : Int64), Inv M1 → Fr [82] [(81, 48)] M M1 → True → post r M1 t1) : ∀ v7 : Int32, 0 ≤ v7 → v7 ≤ 13 → ∃ d, ∀ v5 v6 : Int32, 0 ≤ v6 → v6 ≤ v7 → (v5 = 0 → v6 = v7) → (∀ t : Int32, 0 ≤ t → t < v6 → RD M k f t) → wX11_read_32 post d M tl k lane f n v5 v6 v7 := by
  refine up_ex (P := fun d v7 => ∀ v5 v6 : Int32, 0 ≤ v6 → v6 ≤ v7 → (v5 = 0 → v6 = v7) → (∀ t : Int32, 0 ≤ t → t < v6 → RD M k f t) → wX11_read_32 post d M tl k lane f n v5 v6 v7) 0 13 ?_
  intro d v7 hlo hhi rc v5 v6 g0 g1 g2 hr
  unfold wX11_read_32
  have fin : wX11_read_205 post M tl k f v5 v6 := sr_read205 hI (by lia) hr hp
  refine ifs (fun _ => fin) (fun c => ifs (fun c2 => ?_) (fun _ => fin))
  have rc := rc (by lia)
  have e6 := g2 c2
  obtain ⟨m, hm⟩ := sr_read47 (post := post) (bk := wX11_read_32 post d) (tl := tl) (lane := lane) (f := f) (n := n) (v6 := v6) (v7 := v7) hI hk ⟨hlo, by lia⟩ (fun r => hp r _ _ hI fr_rfl trivial) (fun q => rc 0 (v6 + 1) (by lia) (by lia) (fun _ => by lia) (fun t t0 t1 => by
      by_cases z : t = v7
      · rw [z]; exact q
      · exact hr t t0 (by lia))) (fun v5 h5 => rc v5 v6 g0 (by lia) (fun e => absurd e h5) hr) 0 (by decide) (by decide)
  exact ⟨m, hm v5 (fun _ q => absurd q (by decide)) (fun _ q => absurd q (by decide))⟩
theorem sf_X11_read {post : Int32 → MM → Int64 → Prop} {M : MM} {tl : Int64} {v1 v2 v3 v4 : Int32} (hI : Inv M) (hp : ∀ (r : Int32) (M1 : MM) (t1 : Int64), Inv M1 → Fr [82] [(81, 48)] M M1 → True → post r M1 t1) : wpX11_read post M tl v1 v2 v3 v4 := by
  unfold wpX11_read
  refine sf_X11_isSheet hI (fun r hr => ?_)
  refine ifs (fun _ => hp _ _ _ hI fr_rfl trivial) (fun c => ?_)
  have hr : 0 ≤ v1 ∧ v1 < 4 := by lia
  refine m_in (v := v4) (lo := 0) (hi := 13) rfl rfl rfl (fun a b => ?_) (fun a => ?_)
  · refine ifn (by decide) ?_
    obtain ⟨n, hn⟩ := sr_read32 (post := post) (tl := tl) (k := v1) (lane := v2) (f := v3) (n := v4) hI hr b hp 0 (by decide) (by decide)
    exact ⟨n, hn 0 0 (by decide) (by decide) (fun _ => rfl) (fun t t0 t1 => absurd t1 (by lia))⟩
  · exact ifp rfl (hp _ _ _ hI fr_rfl trivial)
