/-! the reference's text (by hand): every line takes a byte at least -/
abbrev XF (M M1 : MM) : Prop := Fr [82, 83, 84, 85, 86, 87, 88, 89, 90, 91, 92, 93, 94, 95, 96] [(81, 2), (81, 3), (81, 4), (81, 11), (81, 13), (81, 14), (81, 15), (81, 22), (81, 23), (81, 24), (81, 25), (81, 26), (81, 27), (81, 28), (81, 29), (81, 31), (81, 32), (81, 33), (81, 34), (81, 35), (81, 36), (81, 37)] M M1
section TEXT
variable {post : Int32 → MM → Int64 → Prop} {M0 : MM}
theorem sr_text73 {M : MM} {tl : Int64} {v1 : Int32} (hI : Inv M) (hF : XF M0 M) (hp : ∀ (r : Int32) (M1 : MM) (t1 : Int64), Inv M1 → XF M0 M1 → M1 81 31 = 0 → post r M1 t1) : wX11_text_73 post M tl v1 := by
  unfold wX11_text_73
  intro W e
  have iW : Inv W := by rw [e]; exact inv_set hI (show 0 ≤ (0 : Int32) ∧ (0 : Int32) ≤ 400 by decide)
  have fW : XF M0 W := by rw [e]; exact fr_fld hF (by decide)
  have zW : W 81 31 = 0 := by rw [e]; exact mset_at _ _ _ _
  refine ifs (fun c => ?_) (fun c => hp _ _ _ iW fW zW)
  refine sf_X11_keepDraft iW (fun M2 t2 i2 f2 _ => ?_)
  refine hp _ _ _ i2 (fr_call fW f2 (by decide) (by decide)) ?_
  rw [f2 81 31 (by decide) (by decide)]
  exact zW
theorem sr_text44 {M : MM} {tl : Int64} {v1 : Int32} (hI : Inv M) (hF : XF M0 M) (hp : ∀ (r : Int32) (M1 : MM) (t1 : Int64), Inv M1 → XF M0 M1 → M1 81 31 = 0 → post r M1 t1) : wX11_text_44 post M tl v1 := by
  unfold wX11_text_44
  have k : ∀ s, wX11_text_68 post M tl v1 s := by
    intro s
    unfold wX11_text_68
    refine sf_X11_needs hI (by decide) (fun M2 t2 i2 f2 _ => ?_)
    exact sr_text73 i2 (fr_call hF f2 (by decide) (by decide)) hp
  exact ifs (fun _ => ifs (fun _ => k _) (fun _ => k _)) (fun _ => sr_text73 hI hF hp)
theorem sr_text20 (hp : ∀ (r : Int32) (M1 : MM) (t1 : Int64), Inv M1 → XF M0 M1 → M1 81 31 = 0 → post r M1 t1) : ∀ (d : Nat) (M : MM) (tl : Int64) (v1 : Int32), Inv M → XF M0 M → (M 81 36 = 0 → (401 : Int) - (M 81 32).toInt ≤ d) → wX11_text_20 post (d + 1) M tl v1 := by
  intro d
  induction d with
  | zero =>
    intro M tl v1 hI hF hd
    unfold wX11_text_20
    refine ifs (fun c => ?_) (fun c => sr_text44 hI hF hp)
    have := hd c
    have := i_le_to (k := 400) (by decide) (iv_81_32 hI).2
    omega
  | succ d ih =>
    intro M tl v1 hI hF hd
    unfold wX11_text_20
    refine ifs (fun c => ifs (fun c2 => sr_text44 hI hF hp) (fun c2 => ?_)) (fun c => sr_text44 hI hF hp)
    refine sf_X11_readLine hI (fun M2 t2 i2 f2 q2 => ?_)
    refine ih M2 t2 _ i2 (fr_call hF f2 (by decide) (by decide)) (fun z => ?_)
    have q := q2.resolve_left (fun y => y z)
    have := Int32.lt_iff_toInt_lt.mp q
    have := hd c
    omega
end TEXT
theorem sf_X11_text {post : Int32 → MM → Int64 → Prop} {M : MM} {tl : Int64} (hI : Inv M) (hp : ∀ (r : Int32) (M1 : MM) (t1 : Int64), Inv M1 → Fr [82, 83, 84, 85, 86, 87, 88, 89, 90, 91, 92, 93, 94, 95, 96] [(81, 2), (81, 3), (81, 4), (81, 11), (81, 13), (81, 14), (81, 15), (81, 22), (81, 23), (81, 24), (81, 25), (81, 26), (81, 27), (81, 28), (81, 29), (81, 31), (81, 32), (81, 33), (81, 34), (81, 35), (81, 36), (81, 37)] M M1 → M1 81 31 = 0 → post r M1 t1) : wpX11_text post M tl := by
  unfold wpX11_text
  intro W e
  have iW : Inv W := by rw [e]; exact inv_set hI (show 0 ≤ (0 : Int32) ∧ (0 : Int32) ≤ 6 by decide)
  have fW : XF M W := by rw [e]; exact fr_fld fr_rfl (by decide)
  intro W2 e2
  have iW2 : Inv W2 := by rw [e2]; exact inv_set iW (show 0 ≤ (0 : Int32) ∧ (0 : Int32) ≤ 400 by decide)
  have fW2 : XF M W2 := by rw [e2]; exact fr_fld fW (by decide)
  refine sf_X11_firstDraft iW2 (fun M3 t3 i3 f3 _ => ?_)
  have g3 : XF M M3 := fr_call fW2 f3 (by decide) (by decide)
  refine sf_X11_next i3 (fun M4 t4 i4 f4 _ => ?_)
  have g4 : XF M M4 := fr_call g3 f4 (by decide) (by decide)
  exact ⟨401 + 1, sr_text20 hp 401 M4 t4 0 i4 g4 (fun _ => by have := i_ge_to (k := 0) (by decide) (iv_81_32 i4).1; omega)⟩
