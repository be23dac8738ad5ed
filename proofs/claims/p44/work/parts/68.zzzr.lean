/-! THE REFERENCE'S DRAFT HAS NO WANTS, NOTHING SEEN; WHAT IT KEEPS -/
def ZD (N : MM) : Prop := N 90 65 = 0 ∧ N 90 78 = 0
theorem zd_set {N : MM} {j : Nat} {v : Int32} (h : ZD N) (hj : j ≠ 65 ∧ j ≠ 78) : ZD (mset N 90 j v) := by
  unfold ZD
  rw [mset_nk (fun z => hj.1 z.symm), mset_nk (fun z => hj.2 z.symm)]
  exact h
theorem zd_eq {N N1 : MM} (h : ZD N) (e : N1 90 = N 90) : ZD N1 := by
  unfold ZD
  rw [e]
  exact h
theorem zd_fr {I : List Nat} {J : List (Nat × Nat)} {N N1 : MM} (h : ZD N) (f : Fr I J N N1) (d : 90 ∉ I ∧ ∀ q ∈ J, q.1 ≠ 90) : ZD N1 := zd_eq h (keep_row0 f d.1 d.2)
theorem ix17 : ∀ m, m < 12 → (17 : Int32) + 4 * nI m = nI (17 + 4 * m) ∧ (17 : Int32) + 4 * nI m + 1 = nI (18 + 4 * m) ∧ (17 : Int32) + 4 * nI m + 2 = nI (19 + 4 * m) ∧ (17 : Int32) + 4 * nI m + 3 = nI (20 + 4 * m) := by decide +kernel
section ZR
variable {N : MM} {u : Int64}
theorem zr_48 {post : MM → Int64 → Prop} {v1 v2 : Int32} (hI : Inv N) (hz : ZD N) (h1 : 0 ≤ v1 ∧ v1 < 2) (hp : ∀ (N1 : MM) (t : Int64), ZD N1 → post N1 t) : wX11_readThing_48 post N u v1 v2 := by
  unfold wX11_readThing_48
  intro W e
  have iW : Inv W := by rw [e]; exact inv_set hI (i_any _)
  have zW : ZD W := zd_eq hz (by rw [e, mset_ne (by decide)])
  refine sf_X11_readLot iW (fun r M1 t1 i1 f1 q1 => ?_)
  refine sf_X11_readWhat i1 (fun r2 M2 t2 i2 f2 q2 => ?_)
  obtain ⟨b, hb, eb⟩ := cdN 2 (by omega) h1.1 h1.2
  obtain ⟨i, hi, ei⟩ := cdN 8 (by omega) q1.1.1 (show r < (8 : Int32) by lia)
  have e8 : (8 : Int32) * v1 + r = nI (8 * b + i) := by rw [eb, ei]; exact sl_r b hb i hi
  rw [e8]
  refine ⟨vp_nM (by decide) (by show _ < 127; omega), fun W2 e2 => hp _ _ ?_⟩
  rw [e2, tn_nI (by omega)]
  exact zd_set (zd_fr (zd_fr zW f1 (by decide)) f2 (by decide)) (by omega)
theorem zr_readThing {post : MM → Int64 → Prop} (hI : Inv N) (hz : ZD N) (hp : ∀ (N1 : MM) (t : Int64), ZD N1 → post N1 t) : wpX11_readThing post N u := by
  unfold wpX11_readThing
  refine sf_X11_readNumber hI (fun r M1 t1 i1 f1 q1 => ?_)
  have a1 : 0 ≤ r ∧ r < 2 := by
    rcases q1.1 with z | z
    · rw [z]; decide
    · exact ⟨z.1, by lia⟩
  refine sf_X11_looked i1 (fun r2 M2 t2 i2 f2 q2 => ?_)
  have z2 := zd_fr (zd_fr hz f1 (by decide)) f2 (by decide)
  refine ifs (fun _ => ifs (fun _ => ?_) (fun _ => ?_)) (fun _ => zr_48 i2 z2 a1 hp)
  · unfold wX11_readThing_44
    exact sf_X11_needs i2 (by decide) (fun M3 t3 i3 f3 _ => zr_48 i3 (zd_fr z2 f3 (by decide)) a1 hp)
  · unfold wX11_readThing_44
    exact sf_X11_needs i2 (by decide) (fun M3 t3 i3 f3 _ => zr_48 i3 (zd_fr z2 f3 (by decide)) a1 hp)
theorem zr_37 {post : MM → Int64 → Prop} {m : Nat} {s3 : Int32} (hI : Inv N) (hz : ZD N) (hm : m < 12) (h3 : 0 ≤ s3 ∧ s3 ≤ 23) (hp : ∀ (N1 : MM) (t : Int64), ZD N1 → post N1 t) : wX11_readWork_37 post N u (nI m) ((17 : Int32) + 4 * nI m) ((17 : Int32) + 4 * nI m) s3 := by
  unfold wX11_readWork_37
  have x := ix17 m hm
  have m0 := nJ_ge0 (i := m) (by omega)
  have m1 : nI m < 12 := (kI_lt (b := 12) (by omega) (by omega)).mpr hm
  refine sf_X11_readNumber hI (fun r M1 t1 i1 f1 q1 => ⟨?_, fun W1 e1 => ?_⟩)
  · rw [x.1]; exact vp_nM (by decide) (by show _ < 127; omega)
  have iW1 : Inv W1 := by rw [e1]; exact w90_17_0 i1 _ _ m0 m1 (by lia)
  have zW1 : ZD W1 := by rw [e1, x.1, tn_nI (by omega)]; exact zd_set (zd_fr hz f1 (by decide)) (by omega)
  refine sf_X11_readNumber iW1 (fun r2 M2 t2 i2 f2 q2 => ⟨?_, fun W2 e2 => ?_⟩)
  · rw [x.2.1]; exact vp_nM (by decide) (by show _ < 127; omega)
  have iW2 : Inv W2 := by rw [e2]; exact w90_17_1 i2 _ _ m0 m1 (by lia)
  have zW2 : ZD W2 := by rw [e2, x.2.1, tn_nI (by omega)]; exact zd_set (zd_fr zW1 f2 (by decide)) (by omega)
  refine sf_X11_readLot iW2 (fun r3 M3 t3 i3 f3 q3 => ⟨?_, fun W3 e3 => ?_⟩)
  · rw [x.2.2.1]; exact vp_nM (by decide) (by show _ < 127; omega)
  have iW3 : Inv W3 := by rw [e3]; exact w90_17_2 i3 _ _ m0 m1 (by lia)
  have zW3 : ZD W3 := by rw [e3, x.2.2.1, tn_nI (by omega)]; exact zd_set (zd_fr zW2 f3 (by decide)) (by omega)
  refine sf_X11_readWhat iW3 (fun r4 M4 t4 i4 f4 q4 => ⟨?_, fun W4 e4 => ?_⟩)
  · rw [x.2.2.2]; exact vp_nM (by decide) (by show _ < 127; omega)
  have zW4 : ZD W4 := by rw [e4, x.2.2.2, tn_nI (by omega)]; exact zd_set (zd_fr zW3 f4 (by decide)) (by omega)
  refine ⟨vp_nM (a := 16) (by decide) (by decide), fun W5 e5 => hp _ _ ?_⟩
  rw [e5]
  exact zd_set zW4 (by decide)
theorem zr_readWork {post : MM → Int64 → Prop} (hI : Inv N) (hz : ZD N) (h12 : N 90 (16 : Int32).toNatClampNeg < 12) (hp : ∀ (N1 : MM) (t : Int64), ZD N1 → post N1 t) : wpX11_readWork post N u := by
  unfold wpX11_readWork
  have r := r90_16 hI
  obtain ⟨m, hm, em⟩ := cdN 12 (by omega) r.1 h12
  rw [em]
  refine ⟨vp_nM (a := 16) (by decide) (by decide), ifs (fun _ => zr_37 hI hz hm (by decide) hp) (fun c => ?_)⟩
  have m1 : 1 ≤ m := by
    rcases Nat.eq_zero_or_pos m with z | z
    · subst z; exact absurd rfl c
    · exact z
  have e : (17 : Int32) + 4 * nI m - 4 = nI (17 + 4 * (m - 1)) := by
    have : ∀ m, m < 12 → 1 ≤ m → (17 : Int32) + 4 * nI m - 4 = nI (17 + 4 * (m - 1)) := by decide +kernel
    exact this m hm m1
  refine ⟨by rw [e]; exact vp_nM (by decide) (by show _ < 127; omega), zr_37 hI hz hm ?_ hp⟩
  have := hI.2.2.1 (17 + 4 * (m - 1))
  rw [e, tn_nI (by omega)]
  have e2 : (17 + 4 * (m - 1)) % 127 = 17 + 4 * (m - 1) := Nat.mod_eq_of_lt (by omega)
  rw [e2] at this
  unfold sdom at this
  rw [if_neg (by omega), if_neg (by omega), if_pos (by omega), if_pos (by omega)] at this
  exact this
theorem zr_108 {post : MM → Int64 → Prop} (hp : ∀ (N1 : MM) (t : Int64), ZD N1 → post N1 t) : ∀ (d i : Nat), i + d = 4 → ∀ (N : MM) (u : Int64), Inv N → ZD N → wX11_readLineOf_108 post (d + 1) N u (nI i) := by
  intro d
  induction d with
  | zero =>
    intro i hi N u hI hz
    have : i = 4 := by omega
    subst this
    unfold wX11_readLineOf_108
    exact ifp (by decide) (hp _ _ hz)
  | succ d ih =>
    intro i hi N u hI hz
    unfold wX11_readLineOf_108
    refine ifn (fun z => absurd ((kI_le (a := 4) (by omega) (by omega)).mp z) (by omega)) ?_
    refine sf_X11_readNumber hI (fun r M1 t1 i1 f1 q1 => ⟨vp_nM (by decide) (by show _ < 4; omega), fun W e => ?_⟩)
    rw [nI_s1]
    refine ih (i + 1) (by omega) W t1 ?_ ?_
    · rw [e]
      exact inv_set i1 (show 0 ≤ r ∧ r ≤ 9 by lia)
    · rw [e]
      exact zd_eq (zd_fr hz f1 (by decide)) (mset_ne (by decide))
theorem zr_readLineOf {post : MM → Int64 → Prop} {v : Int32} (hI : Inv N) (hz : ZD N) (h12 : v = 21 → N 90 (16 : Int32).toNatClampNeg < 12) (hp : ∀ (N1 : MM) (t : Int64), ZD N1 → post N1 t) : wpX11_readLineOf post N u v := by
  unfold wpX11_readLineOf
  have L : wpX11_readLaw (fun a b => post a b) N u v := sf_X11_readLaw hI (fun M1 t1 i1 f1 _ => hp _ _ (zd_fr hz f1 (by decide)))
  have C : ∀ s, wX11_readLineOf_147 post N u s := fun s => by
    unfold wX11_readLineOf_147
    exact sf_X11_readCosts hI (fun M1 t1 i1 f1 _ => hp _ _ (zd_fr hz f1 (by decide)))
  have Q : ∀ (k : Nat) (lo hi : Int32), wpX11_readNumber (fun r4 M2 t3 => (∀ M5 : MM, M5 = mset M2 81 k r4 → post M5 t3)) N u lo hi := fun k lo hi =>
    sf_X11_readNumber hI (fun r M1 t1 i1 f1 q1 W e => hp _ _ (zd_eq (zd_fr hz f1 (by decide)) (by rw [e, mset_ne (by decide)])))
  refine ifs (fun _ => Q 13 1 8) (fun _ => ifs (fun _ => Q 14 0 6) (fun _ => ifs (fun _ => Q 15 0 20) (fun _ => ifs (fun _ => ⟨4 + 1, zr_108 hp 4 0 rfl N u hI hz⟩) (fun _ => ifs (fun _ => ifs (fun _ => C _) (fun _ => C _)) (fun _ => ifs (fun _ => ifs (fun _ => C _) (fun _ => C _)) (fun _ => ifs (fun _ => L) (fun _ => ifs (fun _ => L) (fun _ => ifs (fun _ => L) (fun _ => ifs (fun _ => L) (fun _ => ifs (fun _ => zr_readThing hI hz hp) (fun _ => ifs (fun c => zr_readWork hI hz (h12 c) hp) (fun _ => L))))))))))))
theorem zr_150 {post : MM → Int64 → Prop} (hI : Inv N) (hz : ZD N) (hp : ∀ (N1 : MM) (t : Int64), ZD N1 → post N1 t) : wX11_readLine_150 post N u := by
  unfold wX11_readLine_150
  exact sf_X11_next hI (fun M1 t1 i1 f1 _ => hp _ _ (zd_fr hz f1 (by decide)))
theorem zr_108b {post : MM → Int64 → Prop} {v : Int32} (hI : Inv N) (hz : ZD N) (h12 : v = 21 → N 81 36 ≠ 0 ∨ N 90 (16 : Int32).toNatClampNeg < 12) (hp : ∀ (N1 : MM) (t : Int64), ZD N1 → post N1 t) : wX11_readLine_108 post N u v := by
  unfold wX11_readLine_108
  refine sf_X11_next hI (fun M1 t1 i1 f1 q1 => ?_)
  have z1 := zd_fr hz f1 (by decide)
  have b1 := iv_81_36 i1
  refine ifs (fun c => ?_) (fun _ => hp _ _ z1)
  have k12 : v = 21 → M1 90 (16 : Int32).toNatClampNeg < 12 := fun hv => by
    rw [keep_row0 f1 (by decide) (by decide)]
    rcases h12 hv with z | z
    · rcases q1.2.1 with y | y
      · exact absurd y z
      · exact absurd (show M1 81 36 = 0 by lia) y
    · exact z
  have A := sf_X11_readLineOf (tl := t1) (post := fun N1 _ => Inv N1) i1 k12 (fun M2 t2 i2 _ _ => i2)
  have B := zr_readLineOf (u := t1) (post := fun N1 _ => ZD N1) i1 z1 k12 (fun _ _ z => z)
  refine cj_wpX11_readLineOf (fun M2 t2 i2 z2 => ?_) A B
  refine ifs (fun _ => ifs (fun _ => ?_) (fun _ => ?_)) (fun _ => zr_150 i2 z2 hp)
  · unfold wX11_readLine_146
    exact sf_X11_needs i2 (by decide) (fun M3 t3 i3 f3 _ => zr_150 i3 (zd_fr z2 f3 (by decide)) hp)
  · unfold wX11_readLine_146
    exact sf_X11_needs i2 (by decide) (fun M3 t3 i3 f3 _ => zr_150 i3 (zd_fr z2 f3 (by decide)) hp)
theorem zr_58 {post : MM → Int64 → Prop} {v s : Int32} (hI : Inv N) (hz : ZD N) (h12 : v = 21 → s = 0 ∨ N 90 (16 : Int32).toNatClampNeg < 12) (hp : ∀ (N1 : MM) (t : Int64), ZD N1 → post N1 t) : wX11_readLine_58 post N u v s := by
  unfold wX11_readLine_58
  refine sf_X11_needs hI (by decide) (fun M1 t1 i1 f1 q1 => ?_)
  have z1 := zd_fr hz f1 (by decide)
  have k12 : v = 21 → M1 81 36 ≠ 0 ∨ M1 90 (16 : Int32).toNatClampNeg < 12 := fun hv => by
    rw [keep_row0 (a := 90) f1 (by decide) (by decide)]
    rcases h12 hv with z | z
    · rcases q1.1 with y | y
      · exact absurd z y
      · exact Or.inl y
    · exact Or.inr z
  refine ifs (fun _ => ifs (fun _ => zr_108b i1 z1 k12 hp) (fun _ => ifs (fun _ => ?_) (fun _ => ?_))) (fun _ => zr_108b i1 z1 k12 hp)
  all_goals
    unfold wX11_readLine_92
    refine sf_X11_needs i1 (by decide) (fun M2 t2 i2 f2 q2 W e => ?_)
    refine zr_108b (by rw [e]; exact inv_set i2 (i_any _)) (zd_eq (zd_fr z1 f2 (by decide)) (by rw [e, mset_ne (by decide)])) (fun hv => ?_) hp
    rw [e, mset_ne (i := 90) (by decide), keep_row0 (a := 90) f2 (by decide) (by decide), mset_nk (by decide)]
    rcases k12 hv with z | z
    · rcases q2.2.1 with y | y
      · exact absurd y z
      · exact Or.inl y
    · exact Or.inr z
theorem zr_17 {post : MM → Int64 → Prop} {v : Int32} (hI : Inv N) (hz : ZD N) (hp : ∀ (N1 : MM) (t : Int64), ZD N1 → post N1 t) : wX11_readLine_17 post N u v := by
  unfold wX11_readLine_17
  refine ifs (fun _ => ?_) (fun _ => ?_)
  all_goals
    unfold wX11_readLine_30
    refine sf_X11_needs hI (by decide) (fun M1 t1 i1 f1 q1 => ?_)
    have z1 := zd_fr hz f1 (by decide)
    refine ifs (fun c => ⟨vp_nM (a := 16) (by decide) (by decide), ifs (fun _ => zr_58 i1 z1 (fun _ => Or.inl rfl) hp) (fun c2 => ?_)⟩) (fun c => ?_)
    · unfold wX11_readLine_53
      exact zr_58 i1 z1 (fun _ => Or.inr (by lia)) hp
    · unfold wX11_readLine_53
      exact zr_58 i1 z1 (fun z => absurd z c) hp
theorem zr_readLine {post : MM → Int64 → Prop} (hI : Inv N) (hz : ZD N) (hp : ∀ (N1 : MM) (t : Int64), ZD N1 → post N1 t) : wpX11_readLine post N u := by
  unfold wpX11_readLine
  exact ifs (fun _ => sf_X11_lineNow hI (fun r _ => zr_17 hI hz hp)) (fun _ => zr_17 hI hz hp)
end ZR
