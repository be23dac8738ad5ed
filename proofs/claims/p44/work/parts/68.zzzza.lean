/-! READ on both sides -/
theorem i64z : (0 : Int64).toInt = 0 := by decide
theorem i64s {f : Int32} {t c : Nat} (ht : t < 14) (hc : c < 4) : (((f : Int32).toInt64) + (((3 : Int32) * nI t : Int32).toInt64) + ((nI c : Int32).toInt64)).toInt = f.toInt + 3 * t + c := by
  have e3 : ((3 : Int32) * nI t).toInt = 3 * t := by
    have : ∀ t, t < 14 → (3 : Int32) * nI t = nI (3 * t) := by decide +kernel
    rw [this t ht, nI_sm (by omega)]
    omega
  have b1 := Int32.le_toInt f
  have b2 := Int32.toInt_lt f
  rw [Int64.toInt_add, Int64.toInt_add, Int32.toInt_toInt64, Int32.toInt_toInt64, Int32.toInt_toInt64, e3, nI_sm (by omega)]
  rw [Int.bmod_def, Int.bmod_def]
  split <;> split <;> omega
/-! THING t of a SHEET is whole, or not -/
section RD
variable {p q : Int32 → MM → Int64 → Prop} {M N : MM} {tl u : Int64}
theorem lp_47 {bk : MM → Int64 → Int32 → Int32 → Int32 → Int32 → Int32 → Int32 → Int32 → Prop} {k t : Nat} {l f v4 v6 : Int32} (hk : k < 4) (ht : t < 14) (n1 : N 105 k ≠ -4) (n2 : N 105 k = l) : ∀ (n c : Nat), c ≤ 3 → wX11_read_47 q bk n N u (nI k) l f v4 0 v6 (nI t) (nI c) → ((∀ x, x < 3 → c ≤ x → 0 ≤ f.toInt + 3 * t + x ∧ f.toInt + 3 * t + x < (N 106 k).toInt) → wX11_read_134 q bk N u (nI k) l f v4 0 v6 (nI t)) ∧ ((∃ x : Nat, x < 3 ∧ c ≤ x ∧ ¬ (0 ≤ f.toInt + 3 * t + x ∧ f.toInt + 3 * t + x < (N 106 k).toInt)) → wX11_read_134 q bk N u (nI k) l f v4 2 v6 (nI t)) := by
  intro n
  induction n with
  | zero => intro c _ h; exact h.elim
  | succ n ih =>
    intro c hc h
    unfold wX11_read_47 at h
    by_cases cc : (3 : Int32) ≤ nI c
    · have e : c = 3 := by
        have := (kI_le (a := 3) (by omega) (by omega)).mp cc
        omega
      subst e
      refine ⟨fun _ => ip cc h, fun ⟨x, h1, h2, _⟩ => absurd h1 (by omega)⟩
    · have c3 : c < 3 := by
        rcases Nat.lt_or_ge c 3 with z | z
        · exact z
        · exact absurd ((kI_le (a := 3) (by omega) (by omega)).mpr z) cc
      have h := (ip rfl (iq cc h)).2
      rw [tn_nI (by omega)] at h
      have h := (ip n2 (iq n1 h).2)
      have e64 := i64s (f := f) ht (show c < 4 by omega)
      have bad : wX11_read_121 q bk (wX11_read_47 q bk n) N u (nI k) l f v4 v6 (nI t) (nI c) → wX11_read_134 q bk N u (nI k) l f v4 2 v6 (nI t) := fun h => by
        unfold wX11_read_121 wX11_read_126 at h
        cases n with
        | zero => exact h.elim
        | succ n =>
        unfold wX11_read_47 at h
        split at h <;> first | exact iq (show ¬ (2 : Int32) = 0 by decide) h | exact h
      by_cases q1 : f.toInt + 3 * t + c < 0
      · have h := ip (lc_lt (k := 0) i64z (by rw [e64]; exact q1)) h
        exact ⟨fun z => absurd (z c c3 (by omega)).1 (by omega), fun _ => bad h⟩
      · have h := (iq (lc_nlt (k := 0) i64z (by rw [e64]; omega)) h).2
        by_cases q2 : f.toInt + 3 * t + c < (N 106 k).toInt
        · have h := ip (lc_lt (k := (N 106 k).toInt) (Int32.toInt_toInt64 _) (by rw [e64]; exact q2)) h
          unfold wX11_read_126 at h
          rw [nI_s1] at h
          have g := ih (c + 1) (by omega) h
          refine ⟨fun z => g.1 (fun x h1 h2 => z x h1 (by omega)), fun ⟨x, h1, h2, h3⟩ => g.2 ⟨x, h1, ?_, h3⟩⟩
          rcases Nat.lt_or_ge c x with y | y
          · exact y
          · have e : x = c := by omega
            subst e
            exact absurd ⟨by omega, q2⟩ h3
        · have h := iq (lc_nlt (k := (N 106 k).toInt) (Int32.toInt_toInt64 _) (by rw [e64]; omega)) h
          exact ⟨fun z => absurd (z c c3 (by omega)).2 q2, fun _ => bad h⟩
theorem lp_47n {bk : MM → Int64 → Int32 → Int32 → Int32 → Int32 → Int32 → Int32 → Int32 → Prop} {k n : Nat} {l f v4 v6 v7 : Int32} (hk : k < 4) (h : wX11_read_47 q bk n N u (nI k) l f v4 0 v6 v7 0) : (N 105 k = -4 → wX11_read_134 q bk N u (nI k) l f v4 1 v6 v7) ∧ (N 105 k ≠ -4 → N 105 k ≠ l → wX11_read_134 q bk N u (nI k) l f v4 3 v6 v7) := by
  cases n with
  | zero => exact h.elim
  | succ n =>
  unfold wX11_read_47 at h
  have h := (ip rfl (iq (by decide) h)).2
  rw [tn_nI (by omega)] at h
  have bad : ∀ s : Int32, s ≠ 0 → wX11_read_126 q bk (wX11_read_47 q bk n) N u (nI k) l f v4 v6 v7 0 s → wX11_read_134 q bk N u (nI k) l f v4 s v6 v7 := fun s hs h => by
    unfold wX11_read_126 at h
    cases n with
    | zero => exact h.elim
    | succ n =>
    unfold wX11_read_47 at h
    split at h <;> first | exact iq hs h | exact h
  exact ⟨fun c => bad 1 (by decide) (ip c h), fun c1 c2 => bad 3 (by decide) (iq c2 (iq c1 h).2)⟩
theorem el_sheetCell {a x : Nat} (hx : x < 40) (h0 : 0 ≤ M a 0) (h1 : nI x < M a 0) (h : wpX8_cell p M tl a (nI x)) : p (M (a + 1) x) M tl := by
  unfold wpX8_cell wpX8_faultAt at h
  have x0 := nJ_ge0 (i := x) (by omega)
  have h := (i00 (ip h1 (iq (show ¬ nI x < 0 by lia) (ip h0 h.2.2)).2)).2.2.2
  rw [tn_nI (by omega)] at h
  exact h
/-- how many are whole -/
def whF (M : MM) (a : Nat) (l f n : Int32) : Int32 := if M a 0 < 0 then 0 else if M a 1 = l then (if f < 0 then 0 else if f < M a 0 then (if (M a 0 - f) / 3 < n then (M a 0 - f) / 3 else n) else 0) else 0
theorem el_whole {a : Nat} {l f n : Int32} (h : wpX8_wholeThings p M tl a l f n) : p (whF M a l f n) M tl := by
  unfold wpX8_wholeThings at h
  unfold whF
  have h := h.2
  by_cases c1 : M a 0 < 0
  · rw [if_pos c1]; exact ip c1 h
  · rw [if_neg c1]
    have h := (iq c1 h).2
    by_cases c2 : M a 1 = l
    · rw [if_pos c2]
      have h := ip c2 h
      by_cases c3 : f < 0
      · rw [if_pos c3]; exact ip c3 h
      · rw [if_neg c3]
        have h := (iq c3 h).2
        by_cases c4 : f < M a 0
        · rw [if_pos c4]; exact (ip c4 h).2
        · rw [if_neg c4]; exact iq c4 h
    · rw [if_neg c2]; exact iq c2 h
def ffF (M : MM) (a : Nat) (l f n : Int32) : Int32 := if whF M a l f n < n then (if 0 ≤ M a 0 then (if M a 1 = l then 2 else 3) else 1) else 0
theorem el_faultOf {a : Nat} {l f n : Int32} (h : wpX8_faultOfReading p M tl a l f n) : p (ffF M a l f n) M tl := by
  unfold wpX8_faultOfReading at h
  have h := el_whole h.2
  unfold ffF
  by_cases c1 : whF M a l f n < n
  · rw [if_pos c1]
    have h := (ip c1 h).2
    by_cases c2 : 0 ≤ M a 0
    · rw [if_pos c2]
      have h := (ip c2 h).2
      by_cases c3 : M a 1 = l
      · rw [if_pos c3]; exact ip c3 h
      · rw [if_neg c3]; exact iq c3 h
    · rw [if_neg c2]; exact iq c2 h
  · rw [if_neg c1]; exact iq c1 h
/-- what the number of whole THINGS says -/
theorem wh_facts {a m : Nat} {l f : Int32} (hm : m < 14) (hs : M a 0 ≤ 40) : ∃ W, W ≤ m ∧ whF M a l f (nI m) = nI W ∧ (1 ≤ W → 0 ≤ M a 0 ∧ M a 1 = l ∧ ∃ f0 s0, f = nI f0 ∧ M a 0 = nI s0 ∧ s0 ≤ 40 ∧ f0 + 3 * W ≤ s0) ∧ (W < m → 0 ≤ M a 0 → M a 1 = l → ∃ x : Nat, x < 3 ∧ ¬ (0 ≤ f.toInt + 3 * W + x ∧ f.toInt + 3 * W + x < (M a 0).toInt)) := by
  unfold whF
  by_cases c1 : M a 0 < 0
  · rw [if_pos c1]
    exact ⟨0, by omega, rfl, fun z => absurd z (by omega), fun _ z => by exfalso; lia⟩
  · rw [if_neg c1]
    by_cases c2 : M a 1 = l
    · rw [if_pos c2]
      by_cases c3 : f < 0
      · rw [if_pos c3]
        refine ⟨0, by omega, rfl, fun z => absurd z (by omega), fun _ _ _ => ⟨0, by omega, fun z => ?_⟩⟩
        have := i_lt_to (k := 0) (by decide) c3
        omega
      · rw [if_neg c3]
        by_cases c4 : f < M a 0
        · rw [if_pos c4]
          obtain ⟨f0, hf0, ef⟩ := cdN (v := f) 40 (by omega) (by lia) (show _ < (40 : Int32) by lia)
          obtain ⟨s0, hs0, es⟩ := cdN (v := M a 0) 41 (by omega) (by lia) (show _ < (41 : Int32) by lia)
          have fs : f0 < s0 := (kI_lt (by omega) (by omega)).mp (by rw [← ef, ← es]; exact c4)
          have e3 : (M a 0 - f) / 3 = nI ((s0 - f0) / 3) := by
            have sub : M a 0 - f = nI (s0 - f0) := Int32.toInt_inj.mp (by
              rw [es, ef, Int32.toInt_sub, nI_sm (by omega), nI_sm (by omega), nI_sm (by omega), Int.bmod_def]
              split <;> omega)
            rw [sub]
            have : ∀ d, d < 41 → nI d / 3 = nI (d / 3) := by decide +kernel
            exact this _ (by omega)
          rw [e3]
          have ft : f.toInt = f0 := by rw [ef, nI_sm (by omega)]
          have st : (M a 0).toInt = s0 := by rw [es, nI_sm (by omega)]
          by_cases c5 : nI ((s0 - f0) / 3) < nI m
          · rw [if_pos c5]
            have c5 := (kI_lt (by omega) (by omega)).mp c5
            refine ⟨(s0 - f0) / 3, by omega, rfl, fun _ => ⟨by lia, c2, f0, s0, ef, es, by omega, by omega⟩, fun _ _ _ => ⟨2, by omega, fun z => ?_⟩⟩
            rw [ft, st] at z
            omega
          · rw [if_neg c5]
            have c5 : ¬ (s0 - f0) / 3 < m := fun z => c5 ((kI_lt (by omega) (by omega)).mpr z)
            exact ⟨m, by omega, rfl, fun _ => ⟨by lia, c2, f0, s0, ef, es, by omega, by omega⟩, fun z => absurd z (by omega)⟩
        · rw [if_neg c4]
          refine ⟨0, by omega, rfl, fun z => absurd z (by omega), fun _ _ _ => ⟨0, by omega, fun z => ?_⟩⟩
          have : (M a 0).toInt ≤ f.toInt := Int32.le_iff_toInt_le.mp (by lia)
          omega
    · rw [if_neg c2]
      exact ⟨0, by omega, rfl, fun z => absurd z (by omega), fun _ _ z => absurd z c2⟩
theorem nx3 : ∀ t, t < 14 → (3 : Int32) * nI t = nI (3 * t) := by decide +kernel
theorem n40 : ∀ k, k < 4 → (40 : Int32) * nI k = nI (40 * k) := by decide +kernel
/-- THING t, as it lies on the SHEET -/
abbrev okT (N : MM) (k f0 t : Nat) : Prop := lotP N (N 107 (40 * k + (f0 + 3 * t))) (N 107 (40 * k + (f0 + 3 * t + 1))) ∧ TT (N 107 (40 * k + (f0 + 3 * t + 2)))
theorem el_134 {bk : MM → Int64 → Int32 → Int32 → Int32 → Int32 → Int32 → Int32 → Int32 → Prop} {k f0 t : Nat} {l v4 v6 : Int32} (R : RLw M N) (hk : k < 4) (ht : t < 13) (hf : f0 + 3 * t + 2 < 40) (h : wX11_read_134 q bk N u (nI k) l (nI f0) v4 0 v6 (nI t)) : (okT N k f0 t → bk N u (nI k) l (nI f0) v4 0 (v6 + 1) (nI (t + 1))) ∧ (¬ okT N k f0 t → q ((-20) - nI t) N u) := by
  unfold wX11_read_134 at h
  have h := (ip rfl h).2.2
  have e0 : (40 : Int32) * nI k + nI f0 + (3 : Int32) * nI t = nI (40 * k + (f0 + 3 * t)) := by rw [n40 k hk, nx3 t (by omega), kI_add, kI_add]; congr 1; omega
  have e1 : (40 : Int32) * nI k + nI f0 + (3 : Int32) * nI t + 1 = nI (40 * k + (f0 + 3 * t + 1)) := by rw [e0, nI_s1]; congr 1
  have e2 : (40 : Int32) * nI k + nI f0 + (3 : Int32) * nI t + 2 = nI (40 * k + (f0 + 3 * t + 2)) := by rw [e0]; exact (kI_add _ 2).trans (by congr 1)
  rw [e1, e2, e0, tn_nI (by omega), tn_nI (by omega), tn_nI (by omega)] at h
  have h := el_r_isLot (rl_lots R) h
  by_cases c : lotP N (N 107 (40 * k + (f0 + 3 * t))) (N 107 (40 * k + (f0 + 3 * t + 1)))
  · have h := (i10 (h.1 c)).2
    have h := el_r_isThing h
    by_cases c2 : TT (N 107 (40 * k + (f0 + 3 * t + 2)))
    · have h := i10 (h.1 c2)
      unfold wX11_read_199 at h
      rw [nI_s1] at h
      exact ⟨fun _ => h, fun z => absurd ⟨c, c2⟩ z⟩
    · exact ⟨fun z => absurd z.2 c2, fun _ => i00 (h.2 c2)⟩
  · exact ⟨fun z => absurd z.1 c, fun _ => i00 (h.2 c)⟩
/-- the SHEET on both sides -/
def ShK (M N : MM) (k : Nat) : Prop := ((M (73 + 2 * k) 0 = -1 ∧ N 105 k = -4) ∨ (0 ≤ M (73 + 2 * k) 0 ∧ N 105 k ≠ -4 ∧ N 106 k = M (73 + 2 * k) 0 ∧ N 105 k = M (73 + 2 * k) 1)) ∧ ∀ i, i < 40 → M (74 + 2 * k) i = N 107 (40 * k + i)
theorem lp_read {k m W : Nat} {l f fd : Int32} (R : RLw M N) (hk : k < 4) (hm : m < 14) (hW : W ≤ m) (Z : ShK M N k) (hs : M (73 + 2 * k) 0 ≤ 40) (w1 : 1 ≤ W → 0 ≤ M (73 + 2 * k) 0 ∧ M (73 + 2 * k) 1 = l ∧ ∃ f0 s0, f = nI f0 ∧ M (73 + 2 * k) 0 = nI s0 ∧ s0 ≤ 40 ∧ f0 + 3 * W ≤ s0) (w2 : W < m → 0 ≤ M (73 + 2 * k) 0 → M (73 + 2 * k) 1 = l → ∃ x : Nat, x < 3 ∧ ¬ (0 ≤ f.toInt + 3 * W + x ∧ f.toInt + 3 * W + x < (M (73 + 2 * k) 0).toInt)) (ef : fd = if nI W < nI m then (if 0 ≤ M (73 + 2 * k) 0 then (if M (73 + 2 * k) 1 = l then 2 else 3) else 1) else 0) : ∀ (n n' t : Nat), t ≤ W → wX10_read_71 p n M tl f (73 + 2 * k) fd (nI W) (nI t) → wX11_read_32 q n' N u (nI k) l f (nI m) 0 (nI t) (nI t) → (∀ f0, f0 < 40 → f = nI f0 → ∀ x, x < t → okT N k f0 x) → (∃ r, p r M tl ∧ q r N u) ∨ ((∃ j, wX10_read_142 p j M tl f (73 + 2 * k) fd (nI W) 0) ∧ wX11_read_205 q N u (nI k) f fd (nI W) ∧ ∀ f0, f0 < 40 → f = nI f0 → ∀ x, x < W → okT N k f0 x) := by
  intro n
  induction n with
  | zero => intro n' t _ h; exact h.elim
  | succ n ih =>
    intro n' t ht hA hB ok
    cases n' with
    | zero => exact hB.elim
    | succ n' =>
    unfold wX10_read_71 at hA
    unfold wX11_read_32 at hB
    by_cases cW : W = t
    · subst cW
      have hA := ip (kI_le (by omega) (by omega) |>.mpr (by omega)) hA
      refine Or.inr ⟨hA, ?_, ok⟩
      by_cases cm : W = m
      · subst cm
        rw [if_neg (fun z => absurd ((kI_lt (by omega) (by omega)).mp z) (by omega))] at ef
        subst ef
        exact ip (kI_le (by omega) (by omega) |>.mpr (by omega)) hB
      · have wm : W < m := by omega
        rw [if_pos ((kI_lt (by omega) (by omega)).mpr wm)] at ef
        have hB := ip rfl (iq (fun z => absurd ((kI_le (by omega) (by omega)).mp z) (by omega)) hB)
        obtain ⟨n2, hB⟩ := hB
        have fin : ∀ s : Int32, s ≠ 0 → fd = s → wX11_read_134 q (wX11_read_32 q n') N u (nI k) l f (nI m) s (nI W) (nI W) → wX11_read_205 q N u (nI k) f fd (nI W) := by
          intro s hs0 e h
          subst e
          unfold wX11_read_134 at h
          have h := iq hs0 h
          unfold wX11_read_199 at h
          cases n' with
          | zero => exact h.elim
          | succ n' =>
          unfold wX11_read_32 at h
          split at h <;> first | exact iq hs0 h | exact h
        rcases Z.1 with ⟨z1, z2⟩ | ⟨z1, z2, z3, z4⟩
        · rw [if_neg (by rw [z1]; decide)] at ef
          exact fin 1 (by decide) ef ((lp_47n hk hB).1 z2)
        · rw [if_pos z1] at ef
          by_cases c2 : M (73 + 2 * k) 1 = l
          · rw [if_pos c2] at ef
            obtain ⟨x, x1, x2⟩ := w2 wm z1 c2
            exact fin 2 (by decide) ef ((lp_47 hk (by omega) z2 (z4.trans c2) n2 0 (by omega) hB).2 ⟨x, x1, by omega, by rw [z3]; exact x2⟩)
          · rw [if_neg c2] at ef
            exact fin 3 (by decide) ef ((lp_47n hk hB).2 z2 (fun z => c2 (z4.symm.trans z)))
    · have tW : t < W := by omega
      obtain ⟨p0, pl, f0, s0, e1, e2, e3, e4⟩ := w1 (by omega)
      subst e1
      rcases Z.1 with ⟨z1, z2⟩ | ⟨z1, z2, z3, z4⟩
      · rw [z1] at p0; exact absurd p0 (by decide)
      have hA := (iq (fun z => absurd ((kI_le (by omega) (by omega)).mp z) (by omega)) hA).2
      obtain ⟨n2, hB⟩ := ip rfl (iq (fun z => absurd ((kI_le (by omega) (by omega)).mp z) (by omega)) hB)
      have hB := (lp_47 hk (by omega) z2 (z4.trans pl) n2 0 (by omega) hB).1 (fun x h1 _ => by
        rw [z3, e2, nI_sm (by omega), nI_sm (by omega)]
        omega)
      have hB := el_134 R hk (by omega) (by omega) hB
      have ex0 : nI f0 + (3 : Int32) * nI t = nI (f0 + 3 * t) := by rw [nx3 t (by omega), kI_add]
      have ex1 : nI f0 + (3 : Int32) * nI t + 1 = nI (f0 + 3 * t + 1) := by rw [ex0, nI_s1]
      have ex2 : nI f0 + (3 : Int32) * nI t + 2 = nI (f0 + 3 * t + 2) := by rw [ex0]; exact kI_add _ 2
      rw [ex1, ex2, ex0] at hA
      have cell : ∀ {pp : Int32 → MM → Int64 → Prop} (x : Nat), x < s0 → wpX8_cell pp M tl (73 + 2 * k) (nI x) → pp (N 107 (40 * k + x)) M tl := fun x hx h => by
        have h := el_sheetCell (by omega) p0 (by rw [e2]; exact (kI_lt (by omega) (by omega)).mpr hx) h
        rw [show 73 + 2 * k + 1 = 74 + 2 * k by omega, Z.2 x (by omega)] at h
        exact h
      have hA := (cell _ (by omega) hA).2
      have hA := el_c_isLot R (cell _ (by omega) hA)
      by_cases c : lotP N (N 107 (40 * k + (f0 + 3 * t))) (N 107 (40 * k + (f0 + 3 * t + 1)))
      · have hA := el_c_isThing (cell _ (by omega) (i10 (hA.1 c)).2)
        by_cases c2 : TT (N 107 (40 * k + (f0 + 3 * t + 2)))
        · have hA := i10 (hA.1 c2)
          have hB := hB.1 ⟨c, c2⟩
          rw [nI_s1] at hA hB
          refine ih n' (t + 1) (by omega) hA hB (fun f1 h40 e x hx => ?_)
          by_cases y : x = t
          · subst y
            have := kI_inj (by omega) (by omega) e
            subst this
            exact ⟨c, c2⟩
          · exact ok f1 h40 e x (by omega)
        · exact Or.inl ⟨_, i00 (hA.2 c2), hB.2 (fun z => c2 z.2)⟩
      · exact Or.inl ⟨_, i00 (hA.2 c), hB.2 (fun z => c z.1)⟩
theorem lp_put {k W : Nat} {f fd : Int32} {A0 A1 B : Nat → Int32} {Lt : Int32} (hk : k < 4) (hW : W < 14) (hc : ∀ x, x < 40 → A1 x = B (40 * k + x)) (w1 : 1 ≤ W → ∃ f0 s0, f = nI f0 ∧ A0 0 = nI s0 ∧ s0 ≤ 40 ∧ f0 + 3 * W ≤ s0 ∧ ∀ x, x < W → (((0 ≤ B (40 * k + (f0 + 3 * x)) ∧ B (40 * k + (f0 + 3 * x)) < 2) ∧ 0 ≤ B (40 * k + (f0 + 3 * x + 1)) ∧ B (40 * k + (f0 + 3 * x + 1)) < Lt) ∧ TT (B (40 * k + (f0 + 3 * x + 2))))) (hL : Lt ≤ 8) : ∀ (n n' t : Nat) (M N : MM), t ≤ W → RA (mset M 0 12 fd) N → M (73 + 2 * k) = A0 → M (74 + 2 * k) = A1 → N 107 = B → wX10_read_142 p n M tl f (73 + 2 * k) fd (nI W) (nI t) → wX11_read_214 q n' N u (nI k) f (nI W) (nI t) → PO p q := by
  intro n
  induction n with
  | zero => intro n' t M N _ _ _ _ _ h; exact h.elim
  | succ n ih =>
    intro n' t M N ht R a0 a1 b hA hB
    cases n' with
    | zero => exact hB.elim
    | succ n' =>
    unfold wX10_read_142 at hA
    unfold wX11_read_214 at hB
    by_cases cW : W = t
    · subst cW
      have hA := ip (kI_le (by omega) (by omega) |>.mpr (by omega)) hA
      have hB := ip (kI_le (by omega) (by omega) |>.mpr (by omega)) hB
      exact po1 (hA _ rfl) hB rfl R
    · have tW : t < W := by omega
      obtain ⟨f0, s0, e1, e2, e3, e4, e5⟩ := w1 (by omega)
      subst e1
      have e5 := e5 t tW
      have hA := (iq (fun z => absurd ((kI_le (by omega) (by omega)).mp z) (by omega)) hA).2
      have hB := (iq (fun z => absurd ((kI_le (by omega) (by omega)).mp z) (by omega)) hB).2.2.2.2 _ rfl
      have ex0 : nI f0 + (3 : Int32) * nI t = nI (f0 + 3 * t) := by rw [nx3 t (by omega), kI_add]
      have ex1 : nI f0 + (3 : Int32) * nI t + 1 = nI (f0 + 3 * t + 1) := by rw [ex0, nI_s1]
      have ex2 : nI f0 + (3 : Int32) * nI t + 2 = nI (f0 + 3 * t + 2) := by rw [ex0]; exact kI_add _ 2
      have y0 : (40 : Int32) * nI k + nI f0 + (3 : Int32) * nI t = nI (40 * k + (f0 + 3 * t)) := by rw [n40 k hk, nx3 t (by omega), kI_add, kI_add]; congr 1; omega
      have y1 : (40 : Int32) * nI k + nI f0 + (3 : Int32) * nI t + 1 = nI (40 * k + (f0 + 3 * t + 1)) := by rw [y0, nI_s1]; congr 1
      have y2 : (40 : Int32) * nI k + nI f0 + (3 : Int32) * nI t + 2 = nI (40 * k + (f0 + 3 * t + 2)) := by rw [y0]; exact (kI_add _ 2).trans (by congr 1)
      rw [ex1, ex2, ex0] at hA
      rw [y1, y2, y0, tn_nI (by omega), tn_nI (by omega), tn_nI (by omega), b] at hB
      have z0 : M (73 + 2 * k) 0 = nI s0 := by rw [a0]; exact e2
      have cell : ∀ {pp : Int32 → MM → Int64 → Prop} (x : Nat), x < s0 → wpX8_cell pp M tl (73 + 2 * k) (nI x) → pp (B (40 * k + x)) M tl := fun x hx h => by
        have h := el_sheetCell (by omega) (by rw [z0]; exact nJ_ge0 (by omega)) (by rw [z0]; exact (kI_lt (by omega) (by omega)).mpr hx) h
        rw [show 73 + 2 * k + 1 = 74 + 2 * k by omega, a1, hc x (by omega)] at h
        exact h
      have hA := (cell _ (by omega) hA).2
      have hA := (cell _ (by omega) hA).2
      have hA := cell _ (by omega) hA
      obtain ⟨⟨⟨l1, l2⟩, l3, l4⟩, tt⟩ := e5
      obtain ⟨c, hc2, ec⟩ := cdN 2 (by omega) l1 l2
      obtain ⟨j, hj, ej⟩ := cdN 8 (by omega) l3 (show _ < (8 : Int32) by clear hc ih R; lia)
      have hA := (el_setThing hA).2 c j hc2 hj ec ej
      rw [ec, ej, sl_r c hc2 j hj, tn_nI (by omega)] at hB
      rw [nI_s1] at hA hB
      refine ih n' (t + 1) _ _ (by omega) (ra_scene R (fun a ha => ?_) (fun a ha => mset_ne (by omega)) (fun x hx => mset_nk (by omega)) ?_) (by rw [mset_ne (by omega)]; exact a0) (by rw [mset_ne (by omega)]; exact a1) (by rw [mset_ne (by decide)]; exact b) hA hB
      · funext x
        rw [mset_if (a := 0), mset_if (a := 0), mset_ne (a := 14 + 1) (by omega)]
      · rw [mset_ne (a := 82) (i := 81) (by decide)]
        refine rsg_thing (s := 8 * c + j) R.2.1 (by omega) tt (fun x => ?_) (fun a h1 h2 => ?_) (fun x => m82 x)
        · rw [mset_ne (by decide), mset_ne (a := 0) (by decide), mset_if]
          simp
        · rw [mset_ne (by omega), mset_ne (by omega), mset_ne (by omega)]
theorem pl_read {v1 v2 v3 v4 : Int32} (R : RA M N) (iM : Inv M) (Z : ∀ k, k < 4 → ShK M N k) (hA : wpX10_read p M tl v1 v2 v3 v4) (hB : wpX11_read q N u v1 v2 v3 v4) : PO p q := by
  unfold wpX10_read wpX10_isSheet at hA
  unfold wpX11_read wpX11_isSheet at hB
  have hB := el_in 0 3 rfl rfl rfl hB
  by_cases c1 : 0 ≤ v1 ∧ v1 ≤ 3
  · have hA := i10 (iq (show ¬ 4 ≤ v1 by lia) (iq (show ¬ v1 < 0 by lia) hA))
    have hB := el_in 0 2 rfl rfl rfl (i10 (hB.1 c1))
    unfold wpX10_isLane at hA
    by_cases c2 : 0 ≤ v2 ∧ v2 ≤ 2
    · have hA := i10 (iq (show ¬ 3 ≤ v2 by lia) (iq (show ¬ v2 < 0 by lia) hA))
      have hB := el_in 0 13 rfl rfl rfl (i10 (i10 (hB.1 c2)))
      by_cases c3 : 0 ≤ v4 ∧ v4 ≤ 13
      · have hA := (ip c3.2 (iq (show ¬ v4 < 0 by lia) hA)).2.2
        obtain ⟨n', hB⟩ := i10 (hB.1 c3)
        obtain ⟨k, hk, ek⟩ := cdN (v := v1) 4 (by omega) c1.1 (show _ < (4 : Int32) by lia)
        obtain ⟨m, hm, em⟩ := cdN (v := v4) 14 (by omega) c3.1 (show _ < (14 : Int32) by lia)
        subst ek em
        rw [tn_nI (by omega)] at hA
        have hs : M (73 + 2 * k) 0 ≤ 40 := by
          rcases (by omega : k = 0 ∨ k = 1 ∨ k = 2 ∨ k = 3) with e | e | e | e <;> subst e
          · exact (iv_73_0 iM).2
          · exact (iv_75_0 iM).2
          · exact (iv_77_0 iM).2
          · exact (iv_79_0 iM).2
        have hA := el_faultOf hA
        obtain ⟨W, hW, eW, w1, w2⟩ := wh_facts (M := M) (a := 73 + 2 * k) (l := v2) (f := v3) hm hs
        have ef : ffF M (73 + 2 * k) v2 v3 (nI m) = if nI W < nI m then (if 0 ≤ M (73 + 2 * k) 0 then (if M (73 + 2 * k) 1 = v2 then 2 else 3) else 1) else 0 := by
          unfold ffF
          rw [eW]
        generalize efd : ffF M (73 + 2 * k) v2 v3 (nI m) = fd at hA ef
        have hA : wX10_read_66 p M tl v3 (73 + 2 * k) fd (nI W) := by
          by_cases c : fd = 0
          · have hA := ip c hA
            have e : W = m := by
              rcases Nat.lt_or_ge W m with z | z
              · rw [if_pos ((kI_lt (by omega) (by omega)).mpr z)] at ef
                rw [c] at ef
                exfalso
                revert ef
                split <;> (try split) <;> decide
              · omega
            rw [e]; exact hA
          · have hA := el_whole (iq c hA).2
            rw [eW] at hA
            exact hA
        unfold wX10_read_66 at hA
        obtain ⟨n, hA⟩ := hA
        rcases lp_read R.1 hk hm hW (Z k hk) hs w1 w2 ef n n' 0 (by omega) hA hB (fun _ _ _ x hx => absurd hx (by omega)) with ⟨r, a, b⟩ | ⟨⟨j, a⟩, b, ok⟩
        · exact po0 R a b rfl
        · unfold wX11_read_205 at b
          obtain ⟨j', b⟩ := b _ rfl
          refine lp_put (A0 := M (73 + 2 * k)) (A1 := M (74 + 2 * k)) (B := N 107) (Lt := N 81 2) hk (by omega) (Z k hk).2 (fun h1 => ?_) (rl_lots R.1).2 j j' 0 M _ (by omega) ?_ rfl rfl (by rw [mset_ne (by decide)]) a b
          · obtain ⟨_, _, f0, s0, x1, x2, x3, x4⟩ := w1 h1
            exact ⟨f0, s0, x1, x2, x3, x4, ok f0 (by omega) x1⟩
          · refine ⟨rl_eq R.1 (fun a ha => mset_ne (by intro z; subst z; exact absurd ha (by decide))) (fun a ha => mset_ne (by intro z; subst z; exact absurd ha (by decide))) (fun j hj => mset_nk (by intro z; subst z; exact absurd hj (by decide))), ?_, fun x hx => ?_, ?_⟩
            · rw [mset_ne (a := 81) (i := 82) (by decide), mset_nk (by decide)]
              exact rsg_m R.2.1 (mset_ne (by decide)) (by rw [mset_ne (by decide)]) (mset_ne (by decide)) (by rw [mset_ne (by decide)]) (mset_ne (by decide)) (by rw [mset_ne (by decide)]) (mset_ne (by decide))
            · rw [mset_ne (a := 81) (i := 82) (by decide), mset_nk (i := 81) (by decide), mset_ne (a := 0) (by decide), mset_ne (a := 81) (i := 83) (by decide)]
              have y := R.2.2.1 x hx
              exact ⟨y.1, fun h => rsg_m (y.2 h) (mset_ne (by omega)) (by rw [mset_ne (by omega)]) (mset_ne (by omega)) (by rw [mset_ne (by omega)]) (mset_ne (by omega)) (by rw [mset_ne (by omega)]) (mset_ne (by omega))⟩
            · rw [mset_at, mset_at]
      · have hB := i00 (hB.2 c3)
        by_cases c4 : v4 < 0
        · exact po0 R (ip c4 hA) hB rfl
        · exact po0 R (iq (show ¬ v4 ≤ 13 by lia) (iq c4 hA)) hB rfl
    · have hB := i00 (i00 (hB.2 c2))
      have hA : p (-1) M tl := by
        by_cases c4 : v2 < 0
        · exact i00 (ip c4 hA)
        · exact i00 (ip (show 3 ≤ v2 by lia) (iq c4 hA))
      exact po0 R hA hB rfl
  · have hB := i00 (i00 (hB.2 c1))
    have hA : p (-1) M tl := by
      by_cases c4 : v1 < 0
      · exact i00 (ip c4 hA)
      · exact i00 (ip (show 4 ≤ v1 by lia) (iq c4 hA))
    exact po0 R hA hB rfl
end RD
