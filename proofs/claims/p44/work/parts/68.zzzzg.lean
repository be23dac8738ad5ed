/-! CALLS on both sides: shops -/
def shP (N : MM) (b x : Nat) : Prop := nI x < N 81 2 ∧ kdN N b x = 3
theorem tb_or : ∀ a, a < 16 → ∀ b, b < 16 → ∀ i, i < 8 → ∀ x, x < 9 → Nat.testBit ((16 * a + b) ||| (1 <<< i)) x = (Nat.testBit (16 * a + b) x || decide (x = i)) := by decide +kernel
def rsS (m : Nat) : Nat → Nat
  | 0 => 0
  | i + 1 => rsS m i ||| (if m.testBit i && ((decide (0 < i) && m.testBit (i - 1)) || m.testBit (i + 1)) then 1 <<< i else 0)
def rsR (m : Nat) : Nat → Nat
  | 0 => 0
  | i + 1 => if m.testBit i then rsR m i + 1 else 0
def rsG (m : Nat) : Nat → Nat
  | 0 => 0
  | i + 1 => rsG m i + (if 0 < rsR m (i + 1) ∧ rsR m (i + 1) % 2 = 0 then 1 else 0)
def fwI : Nat → Nat → Int32 → Int32 → Int32
  | 0, _, _, g => g
  | d + 1, i, l, g => if ((l >>> ((nI i - 1) &&& 31)) &&& 3) = 3 then fwI d (i + 1) (l &&& (((1 : Int32) <<< (nI i &&& 31)) ^^^ (-1))) (g + 1) else fwI d (i + 1) l g
theorem sh_dec : ∀ a, a < 16 → ∀ b, b < 16 → ∀ L, L < 9 → 2 ^ L ≤ 16 * a + b ∨ (nI (16 * a + b) &&& ((nI (16 * a + b) <<< (1 &&& 31)) ||| (nI (16 * a + b) >>> (1 &&& 31))) = nI (rsS (16 * a + b) L) ∧ fwI 7 1 (nI (16 * a + b)) 0 = nI (rsG (16 * a + b) L)) := by decide +kernel
theorem sh_lt : ∀ a, a < 16 → ∀ b, b < 16 → ∀ L, L < 9 → 16 * a + b < 2 ^ L ∨ ∃ x, x < 8 ∧ L ≤ x ∧ Nat.testBit (16 * a + b) x = true := by decide +kernel
theorem md2 : ∀ r, r < 10 → ((nI r - nI r / 2 * 2 = 0) ↔ r % 2 = 0) := by decide +kernel
section SHP
variable {p q : Int32 → MM → Int64 → Prop} {M N : MM} {tl u : Int64}
theorem el_fewest : ∀ (n d i : Nat) (l g : Int32), i + d = 8 → 1 ≤ i → wX10_fewestToGo_6 p n M tl l g (nI i) → p (fwI d i l g) M tl := by
  intro n
  induction n with
  | zero => intro d i l g _ _ h; exact h.elim
  | succ n ih =>
    intro d i l g hd h1 h
    unfold wX10_fewestToGo_6 at h
    cases d with
    | zero =>
      have e : i = 8 := by omega
      subst e
      exact ip (by decide) h
    | succ d =>
    have h := iq (fun z => absurd ((kI_le (a := 8) (by omega) (by omega)).mp z) (by omega)) h
    unfold fwI
    by_cases c : ((l >>> ((nI i - 1) &&& 31)) &&& 3) = 3
    · rw [if_pos c]
      have h := ip c h
      unfold wX10_fewestToGo_34 at h
      rw [nI_s1] at h
      exact ih d (i + 1) _ _ (by omega) (by omega) h
    · rw [if_neg c]
      have h := iq c h
      unfold wX10_fewestToGo_34 at h
      rw [nI_s1] at h
      exact ih d (i + 1) _ _ (by omega) (by omega) h
theorem el_c_shops {b : Nat} {v2 : Int32} (hb : b < 2) (R : RA M N) : ∀ (n i m : Nat), i ≤ 8 → m < 256 → (∀ x, x < 9 → (m.testBit x = true ↔ (x < i ∧ shP N b x))) → wX10_shops_23 p n M tl (nI b) v2 (nI m) (nI i) → ∃ m', m' < 256 ∧ (∀ x, x < 9 → (m'.testBit x = true ↔ shP N b x)) ∧ (if v2 = 0 then p (nI m' &&& ((nI m' <<< (1 &&& 31)) ||| (nI m' >>> (1 &&& 31)))) M tl else wpX10_fewestToGo (fun r3 M1 t2 => p r3 M1 t2) M tl (nI m')) := by
  have l := rl_lots R.1
  intro n
  induction n with
  | zero => intro i m _ _ _ h; exact h.elim
  | succ n ih =>
    intro i m hi hm hx h
    unfold wX10_shops_23 at h
    rw [rl_0 R.1] at h
    by_cases cc : N 81 2 ≤ nI i
    · refine ⟨m, hm, fun x x9 => ?_, ip cc h⟩
      rw [hx x x9]
      refine ⟨fun z => z.2, fun z => ⟨?_, z⟩⟩
      exact (kI_lt (by omega) (by omega)).mp (by have := z.1; clear R ih hx; lia)
    · have i8 : i < 8 := (kI_lt (b := 8) (by omega) (by omega)).mp (show nI i < (8 : Int32) by clear R ih hx; lia)
      have h := el_c_kindN hb i8 R (iq cc h)
      have k6 := (kd_n R hb i8).1
      have dm : 16 * (m / 16) + m % 16 = m := by omega
      by_cases c : nI (kdN N b i) = 3
      · have h := ip c h
        have k3 : kdN N b i = 3 := kI_inj (b := 3) (by omega) (by omega) c
        unfold wX10_shops_56 at h
        have b1 := bts (m / 16) (by omega) (m % 16) (by omega) i i8
        rw [dm] at b1
        rw [nI_s1, b1.1] at h
        refine ih (i + 1) _ (by omega) b1.2 (fun x x9 => ?_) h
        have t := tb_or (m / 16) (by omega) (m % 16) (by omega) i i8 x x9
        rw [dm] at t
        rw [t]
        have hx := hx x x9
        constructor
        · intro z
          rcases Bool.or_eq_true _ _ |>.mp z with z | z
          · exact ⟨by have := (hx.mp z).1; omega, (hx.mp z).2⟩
          · have e : x = i := by simpa using z
            subst e
            exact ⟨by omega, by clear ih R hx t; lia, k3⟩
        · rintro ⟨z1, z2⟩
          by_cases e : x = i
          · simp [e]
          · have := hx.mpr ⟨by omega, z2⟩
            rw [this]; rfl
      · have h := iq c h
        have k3 : kdN N b i ≠ 3 := fun z => c (by rw [z]; rfl)
        unfold wX10_shops_56 at h
        rw [nI_s1] at h
        refine ih (i + 1) m (by omega) hm (fun x x9 => ?_) h
        rw [hx x x9]
        constructor
        · rintro ⟨z1, z2⟩; exact ⟨by omega, z2⟩
        · rintro ⟨z1, z2⟩
          refine ⟨?_, z2⟩
          have : x ≠ i := fun e => k3 (by rw [← e]; exact z2.2)
          omega
theorem el_r_isShop {b x : Nat} (hb : b < 2) (hx : x < 9) (R : RA M N) (h : wpX11_isShop q N u (nI b) (nI x)) : (shP N b x → q 1 N u) ∧ (¬ shP N b x → q 0 N u) := by
  unfold wpX11_isShop at h
  have l := rl_lots R.1
  have x0 := nJ_ge0 (i := x) (by omega)
  have h := el_in 0 (N 81 2 - 1) rfl rfl rfl h
  by_cases c : nI x < N 81 2
  · have x8 : x < 8 := (kI_lt (b := 8) (by omega) (by omega)).mp (show nI x < (8 : Int32) by clear R; lia)
    have h := el_r_kindN hb x8 R (i10 (h.1 (by clear R; lia)))
    have k6 := (kd_n R hb x8).1
    by_cases c2 : nI (kdN N b x) = 3
    · exact ⟨fun _ => ip c2 h, fun z => absurd ⟨c, kI_inj (b := 3) (by omega) (by omega) c2⟩ z⟩
    · exact ⟨fun z => absurd (show nI (kdN N b x) = 3 by rw [z.2]; rfl) c2, fun _ => iq c2 h⟩
  · exact ⟨fun z => absurd z.1 c, fun _ => i00 (h.2 (by clear R; lia))⟩
theorem el_r_shops {b m L : Nat} {v2 : Int32} (hb : b < 2) (R : RA M N) (eL : N 81 2 = nI L) (hL : L < 9) (hm : m < 256) (hx : ∀ x, x < 9 → (m.testBit x = true ↔ shP N b x)) : ∀ (n i : Nat), i ≤ L → rsS m i < 256 → rsR m i ≤ i → rsG m i ≤ i → wX11_shops_30 q n N u (nI b) v2 (nI (rsS m i)) (nI (rsG m i)) (nI (rsR m i)) (nI i) → (if v2 = 0 then q (nI (rsS m L)) N u else q (nI (rsG m L)) N u) := by
  intro n
  induction n with
  | zero => intro i _ _ _ _ h; exact h.elim
  | succ n ih =>
    intro i hi hS hR hG h
    unfold wX11_shops_30 at h
    rw [eL] at h
    by_cases cc : nI L ≤ nI i
    · have e : i = L := by
        have := (kI_le (by omega) (by omega)).mp cc
        omega
      subst e
      exact ip cc h
    · have iL : i < L := by
        rcases Nat.lt_or_ge i L with z | z
        · exact z
        · exact absurd ((kI_le (by omega) (by omega)).mpr z) cc
      have h := el_r_isShop hb (by omega) R (iq cc h)
      have ds : 16 * (rsS m i / 16) + rsS m i % 16 = rsS m i := by omega
      -- the row of shops behind LOT i
      have row : ∀ (s1 : Int32) (S2 : Nat), (∀ r3 : Int32, (s1 = 0 → r3 = 0) → (s1 ≠ 0 → r3 = 1) → nI (rsS m i) ||| (r3 <<< (nI i &&& 31)) = nI S2) → rsS m (i + 1) = S2 → S2 < 256 → wX11_shops_79 q (wX11_shops_30 q n) N u (nI b) v2 (nI (rsG m i)) (nI (rsR m i)) (nI i) (nI (rsS m i)) s1 → (if v2 = 0 then q (nI (rsS m L)) N u else q (nI (rsG m L)) N u) := by
        intro s1 S2 e1 e2 e3 h
        unfold wX11_shops_79 at h
        have h := el_flag h
        obtain ⟨r3, er, h⟩ : ∃ r3 : Int32, nI (rsS m i) ||| (r3 <<< (nI i &&& 31)) = nI S2 ∧ wpX11_isShop (fun r6 M4 t5 => (if r6 = 0 then wX11_shops_105 q (wX11_shops_30 q n) M4 t5 (nI b) v2 (nI (rsS m i) ||| (r3 <<< (nI i &&& 31))) (nI (rsG m i)) (nI i) 0 else wX11_shops_105 q (wX11_shops_30 q n) M4 t5 (nI b) v2 (nI (rsS m i) ||| (r3 <<< (nI i &&& 31))) (nI (rsG m i)) (nI i) (nI (rsR m i) + 1))) N u (nI b) (nI i) := by
          by_cases z : s1 = 0
          · exact ⟨0, e1 0 (fun _ => rfl) (fun y => absurd z y), h.1 z⟩
          · exact ⟨1, e1 1 (fun y => absurd y z) (fun _ => rfl), h.2 z⟩
        rw [er] at h
        have h := el_r_isShop hb (by omega) R h
        have z0 : ∀ x : Int32, x + 0 = x := fun x => by simp
        by_cases c : shP N b i
        · have tb := (hx i (by omega)).mpr c
          have h := iq (by decide) (h.1 c)
          have r1 : rsR m (i + 1) = rsR m i + 1 := by
            show (if m.testBit i then rsR m i + 1 else 0) = _
            rw [if_pos tb]
          unfold wX11_shops_105 at h
          rw [nI_s1] at h
          have h := iq (fun z => absurd ((kI_le (b := 0) (by omega) (by omega)).mp z) (by omega)) h
          have m2 := md2 (rsR m i + 1) (by omega)
          by_cases c2 : (rsR m i + 1) % 2 = 0
          · have h := ip (m2.mpr c2) h
            unfold wX11_shops_126 at h
            have g1 : rsG m (i + 1) = rsG m i + 1 := by
              show rsG m i + (if 0 < rsR m (i + 1) ∧ rsR m (i + 1) % 2 = 0 then 1 else 0) = _
              rw [r1, if_pos ⟨by omega, c2⟩]
            rw [nI_s1, nI_s1] at h
            refine ih (i + 1) (by omega) (by rw [e2]; exact e3) (by omega) (by omega) ?_
            rw [e2, g1, r1]
            exact h
          · have h := iq (fun z => c2 (m2.mp z)) h
            unfold wX11_shops_125 wX11_shops_126 at h
            have g1 : rsG m (i + 1) = rsG m i := by
              show rsG m i + (if 0 < rsR m (i + 1) ∧ rsR m (i + 1) % 2 = 0 then 1 else 0) = _
              rw [r1, if_neg (fun z => c2 z.2), Nat.add_zero]
            rw [nI_s1, z0] at h
            refine ih (i + 1) (by omega) (by rw [e2]; exact e3) (by omega) (by omega) ?_
            rw [e2, g1, r1]
            exact h
        · have h := i00 (h.2 c)
          have tb : ¬ m.testBit i = true := fun z => c ((hx i (by omega)).mp z)
          have r1 : rsR m (i + 1) = 0 := by
            show (if m.testBit i then rsR m i + 1 else 0) = _
            rw [if_neg tb]
          have g1 : rsG m (i + 1) = rsG m i := by
            show rsG m i + (if 0 < rsR m (i + 1) ∧ rsR m (i + 1) % 2 = 0 then 1 else 0) = _
            rw [r1, if_neg (fun z => absurd z.1 (by omega)), Nat.add_zero]
          unfold wX11_shops_105 at h
          have h := ip (by decide) h
          unfold wX11_shops_125 wX11_shops_126 at h
          rw [nI_s1, z0] at h
          refine ih (i + 1) (by omega) (by rw [e2]; exact e3) (by omega) (by omega) ?_
          rw [e2, g1, r1]
          exact h
      have no : ¬ (m.testBit i && ((decide (0 < i) && m.testBit (i - 1)) || m.testBit (i + 1))) = true → wX11_shops_78 q (wX11_shops_30 q n) N u (nI b) v2 (nI (rsG m i)) (nI (rsR m i)) (nI i) (nI (rsS m i)) → (if v2 = 0 then q (nI (rsS m L)) N u else q (nI (rsG m L)) N u) := fun z h => by
        unfold wX11_shops_78 at h
        refine row 0 (rsS m i) (fun r3 e _ => ?_) ?_ hS h
        · rw [e rfl, shl8 i (by omega)]
          simp
        · show rsS m i ||| _ = _
          rw [if_neg z, Nat.or_zero]
      have yes : (m.testBit i && ((decide (0 < i) && m.testBit (i - 1)) || m.testBit (i + 1))) = true → wX11_shops_74 q (wX11_shops_30 q n) N u (nI b) v2 (nI (rsG m i)) (nI (rsR m i)) (nI i) (nI (rsS m i)) → (if v2 = 0 then q (nI (rsS m L)) N u else q (nI (rsG m L)) N u) := fun z h => by
        unfold wX11_shops_74 at h
        have b1 := bts (rsS m i / 16) (by omega) (rsS m i % 16) (by omega) i (by omega)
        rw [ds] at b1
        refine row 1 (rsS m i ||| (1 <<< i)) (fun r3 _ e => ?_) ?_ b1.2 h
        · rw [e (by decide)]; exact b1.1
        · show rsS m i ||| _ = _
          rw [if_pos z]
      by_cases c : shP N b i
      · have ti := (hx i (by omega)).mpr c
        have h := i10 (h.1 c)
        have s1 : nI i + 1 = nI (i + 1) := nI_s1 i
        have up : wpX11_isShop (fun r9 M7 t8 => (if r9 = 0 then wX11_shops_78 q (wX11_shops_30 q n) M7 t8 (nI b) v2 (nI (rsG m i)) (nI (rsR m i)) (nI i) (nI (rsS m i)) else wX11_shops_74 q (wX11_shops_30 q n) M7 t8 (nI b) v2 (nI (rsG m i)) (nI (rsR m i)) (nI i) (nI (rsS m i)))) N u (nI b) (nI i + 1) → ¬ (decide (0 < i) && m.testBit (i - 1)) = true → (if v2 = 0 then q (nI (rsS m L)) N u else q (nI (rsG m L)) N u) := fun h z => by
          rw [s1] at h
          have h := el_r_isShop hb (by omega) R h
          by_cases c2 : shP N b (i + 1)
          · have t2 := (hx (i + 1) (by omega)).mpr c2
            exact yes (by rw [ti, t2]; simp) (iq (by decide) (h.1 c2))
          · have t2 : m.testBit (i + 1) = false := by
              cases y : m.testBit (i + 1)
              · rfl
              · exact absurd ((hx (i + 1) (by omega)).mp y) c2
            refine no ?_ (i00 (h.2 c2))
            rw [ti, t2]
            simpa using z
        by_cases i0 : i = 0
        · subst i0
          have em : nI 0 - 1 = (-1 : Int32) := by decide
          rw [em] at h
          unfold wpX11_isShop at h
          have h := i00 ((el_in 0 (N 81 2 - 1) rfl rfl rfl h).2 (fun z => absurd z.1 (by decide)))
          exact up (i00 h) (by simp)
        · have em : nI i - 1 = nI (i - 1) := by
            have : ∀ i, i < 9 → i = 0 ∨ nI i - 1 = nI (i - 1) := by decide +kernel
            exact (this i (by omega)).resolve_left i0
          rw [em] at h
          have h := el_r_isShop hb (by omega) R h
          by_cases c2 : shP N b (i - 1)
          · have t2 := (hx (i - 1) (by omega)).mpr c2
            refine yes ?_ (iq (by decide) (h.1 c2))
            rw [ti, t2]
            have : decide (0 < i) = true := by simp; omega
            rw [this]
            rfl
          · refine up (i00 (h.2 c2)) (fun z => c2 ((hx (i - 1) (by omega)).mp ?_))
            exact (Bool.and_eq_true _ _ |>.mp z).2
      · have ti : m.testBit i = false := by
          cases y : m.testBit i
          · rfl
          · exact absurd ((hx i (by omega)).mp y) c
        refine no ?_ (i00 (h.2 c))
        rw [ti]
        simp
theorem pe_shops {v1 v2 : Int32} (R : RA M N) (hA : wpX10_shops p M tl v1 v2) (hB : wpX11_shops q N u v1 v2) : PE p q := by
  unfold wpX10_shops at hA
  unfold wpX11_shops at hB
  have l := rl_lots R.1
  have hA := el_isBank hA
  have hB := el_r_isBank hB
  by_cases c : 0 ≤ v1 ∧ v1 < 2
  · have hA := i10 (hA.1 c)
    have hB := el_in 0 1 rfl rfl rfl (i10 (hB.1 c))
    by_cases c2 : 0 ≤ v2 ∧ v2 ≤ 1
    · obtain ⟨n, hA⟩ := ip c2.2 (iq (show ¬ v2 < 0 by lia) hA)
      obtain ⟨n', hB⟩ := i10 (hB.1 c2)
      obtain ⟨b, hb, eb⟩ := cdN (v := v1) 2 (by omega) c.1 c.2
      subst eb
      obtain ⟨m, hm, hx, hA⟩ := el_c_shops hb R n 0 0 (by omega) (by omega) (fun x x9 => by simp) hA
      obtain ⟨L, hL, eL⟩ := cdN (v := N 81 2) 9 (by omega) l.1 (show _ < (9 : Int32) by clear R; lia)
      have hB := el_r_shops hb R eL hL hm hx n' 0 (by omega) (show (0 : Nat) < 256 by decide) (Nat.le_refl _) (Nat.le_refl _) hB
      have lt : m < 2 ^ L := by
        have := sh_lt (m / 16) (by omega) (m % 16) (by omega) L hL
        rw [show 16 * (m / 16) + m % 16 = m by omega] at this
        rcases this with z | ⟨x, x1, x2, x3⟩
        · exact z
        · have y := ((hx x (by omega)).mp x3).1
          rw [eL] at y
          exact absurd ((kI_lt (by omega) (by omega)).mp y) (by omega)
      have d := sh_dec (m / 16) (by omega) (m % 16) (by omega) L hL
      rw [show 16 * (m / 16) + m % 16 = m by omega] at d
      have d := d.resolve_left (by omega)
      by_cases c0 : v2 = 0
      · exact pe0 (ip c0 hA) (ip c0 hB) d.1
      · have hA := iq c0 hA
        unfold wpX10_fewestToGo at hA
        obtain ⟨x, hA⟩ := hA
        exact pe0 (el_fewest x 7 1 _ _ (by omega) (by omega) hA) (iq c0 hB) d.2
    · have hB := i00 (hB.2 c2)
      by_cases c3 : v2 < 0
      · exact pe0 (ip c3 hA) hB rfl
      · exact pe0 (iq (show ¬ v2 ≤ 1 by lia) (iq c3 hA)) hB rfl
  · exact pe0 (i00 (hA.2 c)) (i00 (hB.2 c)) rfl
end SHP
