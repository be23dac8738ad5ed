/-! CALLS on both sides: histories, began (their months) -/
def B1n (P : Prop) (x : Nat) : Prop := (P ∧ x = 1) ∨ (¬ P ∧ x = 0)
theorem b1_le {P : Prop} {x : Nat} (h : B1n P x) : x ≤ 1 := by rcases h with h | h <;> omega
theorem b1_un {P Q : Prop} {x y : Nat} (h : B1n P x) (g : B1n Q y) (e : P ↔ Q) : x = y := by
  rcases h with ⟨h1, h2⟩ | ⟨h1, h2⟩ <;> rcases g with ⟨g1, g2⟩ | ⟨g1, g2⟩
  · omega
  · exact absurd (e.mp h1) g1
  · exact absurd (e.mpr g1) h1
  · omega
/-- HISTORIES found so far -/
def HS (M : MM) (o t : Nat) (fi la : Int32) : Prop := M 53 0 = nI (o + t) ∧ M 53 3 = nI ((if o = 0 then 0 else 1) + (if t = 0 then 0 else 2)) ∧ (0 < o + t → M 53 1 = fi ∧ M 53 2 = la ∧ 0 ≤ fi ∧ 0 ≤ la) ∧ (o + t = 0 → fi = -4 ∧ la = -4)
theorem hs_len {M : MM} {o t : Nat} {fi la : Int32} (h : HS M o t fi la) : (o + t = 0 ↔ fi = -4) := by
  constructor
  · intro z; exact (h.2.2.2 z).1
  · intro z
    rcases Nat.eq_zero_or_pos (o + t) with y | y
    · exact y
    · have := (h.2.2.1 y).2.2.1
      rw [z] at this
      exact absurd this (by decide)
theorem el_note0 {p : MM → Int64 → Prop} {M : MM} {tl : Int64} {o t : Nat} {fi la mo : Int32} (H : HS M o t fi la) (hb : o + t < 1000) (hm : 0 ≤ mo) (h : wpX2_note p M tl 0 mo) : ∃ M', p M' tl ∧ (∀ a, a ≠ 53 → M' a = M a) ∧ HS M' (o + 1) t (if o + t = 0 then mo else fi) mo := by
  obtain ⟨h0, h3, h1, h2⟩ := H
  have b3 : nI ((if o = 0 then 0 else 1) + (if t = 0 then 0 else 2)) ||| ((1 : Int32) <<< ((0 : Int32) &&& 31)) = nI ((if (o + 1) = 0 then 0 else 1) + (if t = 0 then 0 else 2)) := by
    by_cases c1 : o = 0 <;> by_cases c2 : t = 0 <;> simp [c1, c2] <;> decide
  have s1 : nI (o + t) + 1 = nI ((o + 1) + t) := by rw [nI_s1]; exact congrArg nI (by omega)
  unfold wpX2_note wX2_note_12 at h
  by_cases c : M 53 0 = 0
  · have z : o + t = 0 := kI_inj (b := 0) (by omega) (by omega) (h0.symm.trans c)
    have h := ip c h _ rfl _ rfl _ rfl _ rfl
    refine ⟨_, h, fun a ha => by rw [mset_ne ha, mset_ne ha, mset_ne ha, mset_ne ha], ?_, ?_, fun _ => ?_, fun y => absurd y (by omega)⟩
    · rw [mset_at, mset_nk (by decide), mset_nk (by decide), mset_nk (by decide), h0, s1]
    · rw [mset_nk (by decide), mset_at, mset_nk (by decide), mset_nk (by decide), h3, b3]
    · rw [if_pos z, mset_nk (by decide), mset_nk (by decide), mset_nk (by decide), mset_at, mset_nk (by decide), mset_nk (by decide), mset_at]
      exact ⟨rfl, rfl, hm, hm⟩
  · have z : ¬ o + t = 0 := fun z => c (by rw [h0, z]; rfl)
    have h := iq c h _ rfl _ rfl _ rfl
    have x := h1 (by omega)
    refine ⟨_, h, fun a ha => by rw [mset_ne ha, mset_ne ha, mset_ne ha], ?_, ?_, fun _ => ?_, fun y => absurd y (by omega)⟩
    · rw [mset_at, mset_nk (by decide), mset_nk (by decide), h0, s1]
    · rw [mset_nk (by decide), mset_at, mset_nk (by decide), h3, b3]
    · rw [if_neg z, mset_nk (by decide), mset_nk (by decide), mset_nk (by decide), mset_nk (by decide), mset_nk (by decide), mset_at]
      exact ⟨x.1, rfl, x.2.2.1, hm⟩
theorem el_note1 {p : MM → Int64 → Prop} {M : MM} {tl : Int64} {o t : Nat} {fi la mo : Int32} (H : HS M o t fi la) (hb : o + t < 1000) (hm : 0 ≤ mo) (h : wpX2_note p M tl 1 mo) : ∃ M', p M' tl ∧ (∀ a, a ≠ 53 → M' a = M a) ∧ HS M' o (t + 1) (if o + t = 0 then mo else fi) mo := by
  obtain ⟨h0, h3, h1, h2⟩ := H
  have b3 : nI ((if o = 0 then 0 else 1) + (if t = 0 then 0 else 2)) ||| ((1 : Int32) <<< ((1 : Int32) &&& 31)) = nI ((if o = 0 then 0 else 1) + (if (t + 1) = 0 then 0 else 2)) := by
    by_cases c1 : o = 0 <;> by_cases c2 : t = 0 <;> simp [c1, c2] <;> decide
  have s1 : nI (o + t) + 1 = nI (o + (t + 1)) := by rw [nI_s1]; exact congrArg nI (by omega)
  unfold wpX2_note wX2_note_12 at h
  by_cases c : M 53 0 = 0
  · have z : o + t = 0 := kI_inj (b := 0) (by omega) (by omega) (h0.symm.trans c)
    have h := ip c h _ rfl _ rfl _ rfl _ rfl
    refine ⟨_, h, fun a ha => by rw [mset_ne ha, mset_ne ha, mset_ne ha, mset_ne ha], ?_, ?_, fun _ => ?_, fun y => absurd y (by omega)⟩
    · rw [mset_at, mset_nk (by decide), mset_nk (by decide), mset_nk (by decide), h0, s1]
    · rw [mset_nk (by decide), mset_at, mset_nk (by decide), mset_nk (by decide), h3, b3]
    · rw [if_pos z, mset_nk (by decide), mset_nk (by decide), mset_nk (by decide), mset_at, mset_nk (by decide), mset_nk (by decide), mset_at]
      exact ⟨rfl, rfl, hm, hm⟩
  · have z : ¬ o + t = 0 := fun z => c (by rw [h0, z]; rfl)
    have h := iq c h _ rfl _ rfl _ rfl
    have x := h1 (by omega)
    refine ⟨_, h, fun a ha => by rw [mset_ne ha, mset_ne ha, mset_ne ha], ?_, ?_, fun _ => ?_, fun y => absurd y (by omega)⟩
    · rw [mset_at, mset_nk (by decide), mset_nk (by decide), h0, s1]
    · rw [mset_nk (by decide), mset_at, mset_nk (by decide), h3, b3]
    · rw [if_neg z, mset_nk (by decide), mset_nk (by decide), mset_nk (by decide), mset_nk (by decide), mset_nk (by decide), mset_at]
      exact ⟨x.1, rfl, x.2.2.1, hm⟩
section HM
variable {M N : MM} {tl u : Int64}
/-- one LATER month, of the one and of the other -/
theorem el_later {p : MM → Int64 → Prop} {bk : MM → Int64 → Int32 → Int32 → Int32 → Prop} {n o t i m mo lt : Nat} {fi la : Int32} (R : RA M N) (iN : Inv N) (hb : o + t < 900) (hm : m < 24) (hmo : mo ≤ m) (hl : lt ≤ m) (hl2 : lt ≤ mo + 1) (H : HS M o t fi la) (h : wX2_findHistories_20 p bk (n + 1) M tl (nI i) (nI m) (nI mo) (nI lt)) : ∃ M' x y, B1n (FTs N 0 (nI i) (nI mo) ∧ FTs N 1 (mat N 0 (nI i)) (nI lt)) x ∧ B1n (FTs N 0 (nI i) (nI lt) ∧ FTs N 1 (mat N 0 (nI i)) (nI mo)) y ∧ (∀ a, a ≠ 53 → M' a = M a) ∧ HS M' (o + x) (t + y) (if o + t = 0 ∧ 0 < x + y then nI mo else fi) (if 0 < x + y then nI mo else la) ∧ wX2_findHistories_20 p bk n M' tl (nI i) (nI m) (nI mo) (nI (lt + 1)) := by
  have m0 := nJ_ge0 (i := mo) (by omega)
  unfold wX2_findHistories_20 at h
  have e1 : nI mo + 1 = nI (mo + 1) := nI_s1 mo
  rw [e1] at h
  have h := iq (fun z => absurd ((kI_lt (by omega) (by omega)).mp z) (by omega)) (iq (fun z => absurd ((kI_lt (by omega) (by omega)).mp z) (by omega)) h)
  have h := el_c_seen R iN h
  have second : ∀ (M1 : MM) (x : Nat) (f1 l1 : Int32), B1n (FTs N 0 (nI i) (nI mo) ∧ FTs N 1 (mat N 0 (nI i)) (nI lt)) x → (∀ a, a ≠ 53 → M1 a = M a) → HS M1 (o + x) t f1 l1 → f1 = (if o + t = 0 ∧ 0 < x then nI mo else fi) → l1 = (if 0 < x then nI mo else la) → wX2_findHistories_51 p bk (wX2_findHistories_20 p bk n) M1 tl (nI i) (nI m) (nI mo) (nI lt) → ∃ M' x y, B1n (FTs N 0 (nI i) (nI mo) ∧ FTs N 1 (mat N 0 (nI i)) (nI lt)) x ∧ B1n (FTs N 0 (nI i) (nI lt) ∧ FTs N 1 (mat N 0 (nI i)) (nI mo)) y ∧ (∀ a, a ≠ 53 → M' a = M a) ∧ HS M' (o + x) (t + y) (if o + t = 0 ∧ 0 < x + y then nI mo else fi) (if 0 < x + y then nI mo else la) ∧ wX2_findHistories_20 p bk n M' tl (nI i) (nI m) (nI mo) (nI (lt + 1)) := by
    intro M1 x f1 l1 bx fr H1 ef el h
    have x1 := b1_le bx
    have R1 : RA M1 N := ra_48 R (c := 53) (by omega) fr
    unfold wX2_findHistories_51 at h
    have h := el_c_seen R1 iN h
    by_cases c : FTs N 0 (nI i) (nI lt) ∧ FTs N 1 (mat N 0 (nI i)) (nI mo)
    · obtain ⟨M2, h, f2, H2⟩ := el_note1 H1 (by omega) m0 (i10 (h.1 c))
      unfold wX2_findHistories_68 at h
      rw [nI_s1] at h
      refine ⟨M2, x, 1, bx, Or.inl ⟨c, rfl⟩, fun a ha => by rw [f2 a ha, fr a ha], ?_, h⟩
      have e2 : (if 0 < x + 1 then nI mo else la) = nI mo := if_pos (by omega)
      rw [e2]
      have e : (if o + x + t = 0 then nI mo else f1) = (if o + t = 0 ∧ 0 < x + 1 then nI mo else fi) := by
        rw [ef]
        by_cases z : o + t = 0
        · by_cases z2 : x = 0
          · rw [if_pos (by omega), if_pos ⟨z, by omega⟩]
          · rw [if_neg (by omega), if_pos ⟨z, by omega⟩, if_pos ⟨z, by omega⟩]
        · rw [if_neg (by omega), if_neg (fun y => z y.1), if_neg (fun y => z y.1)]
      rw [← e]
      exact H2
    · have h := i00 (h.2 c)
      unfold wX2_findHistories_68 at h
      rw [nI_s1] at h
      refine ⟨M1, x, 0, bx, Or.inr ⟨c, rfl⟩, fr, ?_, h⟩
      show HS M1 (o + x) t (if o + t = 0 ∧ 0 < x then nI mo else fi) (if 0 < x then nI mo else la)
      rw [← ef, ← el]
      exact H1
  by_cases c : FTs N 0 (nI i) (nI mo) ∧ FTs N 1 (mat N 0 (nI i)) (nI lt)
  · obtain ⟨M1, h, f1, H1⟩ := el_note0 H (by omega) m0 (i10 (h.1 c))
    refine second M1 1 _ _ (Or.inl ⟨c, rfl⟩) f1 H1 ?_ (by rw [if_pos (by omega)]) h
    by_cases z : o + t = 0
    · rw [if_pos z, if_pos ⟨z, by omega⟩]
    · rw [if_neg z, if_neg (fun y => z y.1)]
  · exact second M 0 fi la (Or.inr ⟨c, rfl⟩) (fun _ _ => rfl) H (by rw [if_neg (fun y => absurd y.2 (by omega))]) (by rw [if_neg (by omega)]) (i00 (h.2 c))
def WY (P Q : Prop) (a : Nat) : Prop := ∃ y z, B1n P y ∧ B1n Q z ∧ a = y + z
theorem wy_un {P Q P2 Q2 : Prop} {a b : Nat} (h : WY P Q a) (g : WY P2 Q2 b) (e1 : P ↔ P2) (e2 : Q ↔ Q2) : a = b := by
  obtain ⟨y, z, h1, h2, h3⟩ := h
  obtain ⟨y2, z2, g1, g2, g3⟩ := g
  have := b1_un h1 g1 e1
  have := b1_un h2 g2 e2
  omega
theorem wy_le {P Q : Prop} {a : Nat} (h : WY P Q a) : a ≤ 2 := by
  obtain ⟨y, z, h1, h2, h3⟩ := h
  have := b1_le h1
  have := b1_le h2
  omega
/-- a month, in the class -/
theorem el_cmonth {p : MM → Int64 → Prop} {n o t i m mo : Nat} {fi la : Int32} (R : RA M N) (iN : Inv N) (hb : o + t < 800) (hm : m < 24) (hmo : mo ≤ m) (H : HS M o t fi la) (h : wX2_findHistories_12 p (n + 1) M tl (nI i) (nI m) (nI mo)) : ∃ M' a b, WY (FTs N 0 (nI i) (nI mo) ∧ FTs N 1 (mat N 0 (nI i)) (nI mo)) (mo < m ∧ FTs N 0 (nI i) (nI mo) ∧ FTs N 1 (mat N 0 (nI i)) (nI (mo + 1))) a ∧ WY (FTs N 1 (mat N 0 (nI i)) (nI mo) ∧ FTs N 0 (nI i) (nI mo)) (mo < m ∧ FTs N 1 (mat N 0 (nI i)) (nI mo) ∧ FTs N 0 (nI i) (nI (mo + 1))) b ∧ (∀ c, c ≠ 53 → M' c = M c) ∧ HS M' (o + a) (t + b) (if o + t = 0 ∧ 0 < a + b then nI mo else fi) (if 0 < a + b then nI mo else la) ∧ wX2_findHistories_12 p n M' tl (nI i) (nI m) (nI (mo + 1)) := by
  unfold wX2_findHistories_12 at h
  obtain ⟨x, h⟩ := iq (fun z => absurd ((kI_lt (by omega) (by omega)).mp z) (by omega)) h
  cases x with
  | zero => exact h.elim
  | succ x =>
  obtain ⟨M1, a0, b0, ba, bb, f1, H1, h⟩ := el_later R iN (by omega) hm hmo hmo (by omega) H h
  have a1 := b1_le ba
  have b1 := b1_le bb
  have cm : ∀ P Q : Prop, (P ∧ Q) ↔ (Q ∧ P) := fun P Q => ⟨fun z => ⟨z.2, z.1⟩, fun z => ⟨z.2, z.1⟩⟩
  have bb2 : B1n (FTs N 1 (mat N 0 (nI i)) (nI mo) ∧ FTs N 0 (nI i) (nI mo)) b0 := by
    rcases bb with ⟨z, e⟩ | ⟨z, e⟩
    · exact Or.inl ⟨⟨z.2, z.1⟩, e⟩
    · exact Or.inr ⟨fun y => z ⟨y.2, y.1⟩, e⟩
  by_cases c : mo < m
  · cases x with
    | zero => exact h.elim
    | succ x =>
    obtain ⟨M2, a2, b2, ca, cb, f2, H2, h⟩ := el_later (ra_48 R (c := 53) (by omega) f1) iN (by omega) hm hmo (by omega) (by omega) H1 h
    have a3 := b1_le ca
    have b3 := b1_le cb
    have ca2 : B1n (mo < m ∧ FTs N 0 (nI i) (nI mo) ∧ FTs N 1 (mat N 0 (nI i)) (nI (mo + 1))) a2 := by
      rcases ca with ⟨z, e⟩ | ⟨z, e⟩
      · exact Or.inl ⟨⟨c, z⟩, e⟩
      · exact Or.inr ⟨fun y => z y.2, e⟩
    have cb2 : B1n (mo < m ∧ FTs N 1 (mat N 0 (nI i)) (nI mo) ∧ FTs N 0 (nI i) (nI (mo + 1))) b2 := by
      rcases cb with ⟨z, e⟩ | ⟨z, e⟩
      · exact Or.inl ⟨⟨c, z.2, z.1⟩, e⟩
      · exact Or.inr ⟨fun y => z ⟨y.2.2, y.2.1⟩, e⟩
    cases x with
    | zero => exact h.elim
    | succ x =>
    unfold wX2_findHistories_20 at h
    rw [nI_s1] at h
    have h := ip ((kI_lt (by omega) (by omega)).mpr (by omega)) h
    unfold wX2_findHistories_74 at h
    rw [nI_s1] at h
    refine ⟨M2, a0 + a2, b0 + b2, ⟨a0, a2, ba, ca2, rfl⟩, ⟨b0, b2, bb2, cb2, rfl⟩, fun a ha => by rw [f2 a ha, f1 a ha], ?_, h⟩
    have e1 : (if o + a0 + (t + b0) = 0 ∧ 0 < a2 + b2 then nI mo else (if o + t = 0 ∧ 0 < a0 + b0 then nI mo else fi)) = (if o + t = 0 ∧ 0 < a0 + a2 + (b0 + b2) then nI mo else fi) := by
      by_cases z : o + t = 0
      · by_cases z2 : a0 + b0 = 0
        · by_cases z3 : a2 + b2 = 0
          · rw [if_neg (by omega), if_neg (by omega), if_neg (by omega)]
          · rw [if_pos (by omega), if_pos (by omega)]
        · rw [if_neg (by omega), if_pos (by omega), if_pos (by omega)]
      · rw [if_neg (by omega), if_neg (fun y => z y.1), if_neg (fun y => z y.1)]
    have e2 : (if 0 < a2 + b2 then nI mo else (if 0 < a0 + b0 then nI mo else la)) = (if 0 < a0 + a2 + (b0 + b2) then nI mo else la) := by
      by_cases z2 : a0 + b0 = 0
      · by_cases z3 : a2 + b2 = 0
        · rw [if_neg (by omega), if_neg (by omega), if_neg (by omega)]
        · rw [if_pos (by omega), if_pos (by omega)]
      · by_cases z3 : a2 + b2 = 0
        · rw [if_neg (by omega), if_pos (by omega), if_pos (by omega)]
        · rw [if_pos (by omega), if_pos (by omega)]
    rw [← e1, ← e2, ← Nat.add_assoc, ← Nat.add_assoc]
    exact H2
  · cases x with
    | zero => exact h.elim
    | succ x =>
    unfold wX2_findHistories_20 at h
    have h : wX2_findHistories_74 p (wX2_findHistories_12 p n) M1 tl (nI i) (nI m) (nI mo) := by
      rw [nI_s1] at h
      exact ip ((kI_lt (by omega) (by omega)).mpr (by omega)) (iq (fun z => absurd ((kI_lt (by omega) (by omega)).mp z) (by omega)) h)
    unfold wX2_findHistories_74 at h
    rw [nI_s1] at h
    exact ⟨M1, a0, b0, ⟨a0, 0, ba, Or.inr ⟨fun y => c y.1, rfl⟩, rfl⟩, ⟨b0, 0, bb2, Or.inr ⟨fun y => c y.1, rfl⟩, rfl⟩, f1, H1, h⟩
theorem el_30 {q : Int32 → MM → Int64 → Prop} {w own other : Int32} {mo m : Nat} (iN : Inv N) (hm : m < 24) (hmo : mo ≤ m) (h : wX11_waysOf_30 q N u w (nI mo) (nI m) own other) : ∃ a, WY (FTs N w own (nI mo) ∧ FTs N (1 - w) other (nI mo)) (mo < m ∧ FTs N w own (nI mo) ∧ FTs N (1 - w) other (nI (mo + 1))) a ∧ q (nI a) N u := by
  unfold wX11_waysOf_30 at h
  have h := el_r_fits iN h
  by_cases c : FTs N w own (nI mo)
  · have h := el_r_fits iN (iq (by decide) (h.1 c))
    have tail : ∀ y : Nat, B1n (FTs N w own (nI mo) ∧ FTs N (1 - w) other (nI mo)) y → (if nI m ≤ nI mo then wX11_waysOf_83 q N u (nI y) else wpX11_fits (fun r12 M10 t11 => (if r12 = 0 then wX11_waysOf_83 q M10 t11 (nI y) else wX11_waysOf_84 q M10 t11 (nI y) 1)) N u ((1 : Int32) - w) other (nI mo + 1)) → ∃ a, WY (FTs N w own (nI mo) ∧ FTs N (1 - w) other (nI mo)) (mo < m ∧ FTs N w own (nI mo) ∧ FTs N (1 - w) other (nI (mo + 1))) a ∧ q (nI a) N u := by
      intro y hy h
      have zero : wX11_waysOf_83 q N u (nI y) → q (nI y) N u := fun h => by
        unfold wX11_waysOf_83 wX11_waysOf_84 at h
        have h := (el_flag h).1 rfl
        have z : nI y + 0 = nI y := by simp
        rw [z] at h
        exact h
      by_cases c2 : mo < m
      · have h := iq (fun z => absurd ((kI_le (by omega) (by omega)).mp z) (by omega)) h
        rw [nI_s1] at h
        have h := el_r_fits iN h
        by_cases c3 : FTs N (1 - w) other (nI (mo + 1))
        · have h := iq (by decide) (h.1 c3)
          unfold wX11_waysOf_84 at h
          have h := (el_flag h).2 (by decide)
          rw [nI_s1] at h
          exact ⟨y + 1, ⟨y, 1, hy, Or.inl ⟨⟨c2, c, c3⟩, rfl⟩, rfl⟩, h⟩
        · exact ⟨y, ⟨y, 0, hy, Or.inr ⟨fun z => c3 z.2.2, rfl⟩, rfl⟩, zero (i00 (h.2 c3))⟩
      · exact ⟨y, ⟨y, 0, hy, Or.inr ⟨fun z => c2 z.1, rfl⟩, rfl⟩, zero (ip ((kI_le (by omega) (by omega)).mpr (by omega)) h)⟩
    by_cases c1 : FTs N (1 - w) other (nI mo)
    · exact tail 1 (Or.inl ⟨⟨c, c1⟩, rfl⟩) ((el_flag (h.1 c1)).2 (by decide))
    · exact tail 0 (Or.inr ⟨fun z => c1 z.2, rfl⟩) ((el_flag (h.2 c1)).1 rfl)
  · exact ⟨0, ⟨0, 0, Or.inr ⟨fun z => c z.1, rfl⟩, Or.inr ⟨fun z => c z.2.1, rfl⟩, rfl⟩, i00 (h.2 c)⟩
theorem el_ways0 {q : Int32 → MM → Int64 → Prop} {i mo m : Nat} (R : RA M N) (iN : Inv N) (hm : m < 24) (hmo : mo ≤ m) (h : wpX11_waysOf q N u (nI i) 0 (nI mo) (nI m)) : ∃ a, WY (FTs N 0 (nI i) (nI mo) ∧ FTs N 1 (mat N 0 (nI i)) (nI mo)) (mo < m ∧ FTs N 0 (nI i) (nI mo) ∧ FTs N 1 (mat N 0 (nI i)) (nI (mo + 1))) a ∧ q (nI a) N u := by
  unfold wpX11_waysOf at h
  have h := ip rfl (el_r_matchOf (rl_lots R.1) h)
  unfold wX11_waysOf_18 at h
  exact el_30 iN hm hmo (ip rfl h)
theorem el_ways1 {q : Int32 → MM → Int64 → Prop} {i mo m : Nat} (R : RA M N) (iN : Inv N) (hm : m < 24) (hmo : mo ≤ m) (h : wpX11_waysOf q N u (nI i) 1 (nI mo) (nI m)) : ∃ a, WY (FTs N 1 (mat N 0 (nI i)) (nI mo) ∧ FTs N 0 (nI i) (nI mo)) (mo < m ∧ FTs N 1 (mat N 0 (nI i)) (nI mo) ∧ FTs N 0 (nI i) (nI (mo + 1))) a ∧ q (nI a) N u := by
  unfold wpX11_waysOf at h
  have h := iq (by decide) (el_r_matchOf (rl_lots R.1) h)
  unfold wX11_waysOf_18 at h
  have h := el_30 iN hm hmo (iq (by decide) h)
  have e : (1 : Int32) - 1 = 0 := by decide
  rw [e] at h
  exact h
theorem i64_add {x y : Nat} (hx : x < 10000) (hy : y < 10000) : (nI x).toInt64 + (nI y).toInt64 = (nI (x + y)).toInt64 := by
  apply Int64.toInt_inj.mp
  rw [Int64.toInt_add, Int32.toInt_toInt64, Int32.toInt_toInt64, Int32.toInt_toInt64, nI_sm (by omega), nI_sm (by omega), nI_sm (by omega), Int.bmod_def]
  split <;> omega
theorem lp_hist {p : MM → Int64 → Prop} {q : Int64 → MM → Int64 → Prop} {bk : MM → Int64 → Int32 → Int64 → Int32 → Prop} {i m : Nat} {v2 : Int64} (iN : Inv N) (hm : m < 24) : ∀ (n n' mo : Nat) (M : MM) (o t : Nat) (fi la : Int32) (v5 : Int64), mo ≤ m + 1 → RA M N → HS M o t fi la → o + t ≤ 4 * mo → v5 = (nI (o + t)).toInt64 → wX2_findHistories_12 p n M tl (nI i) (nI m) (nI mo) → wX11_histories_45 q bk n' N u (nI m) v2 (nI i) v5 (nI mo) → ∃ M', RA M' N ∧ p M' tl ∧ bk N u (nI m) (v2 * (M' 53 0).toInt64) (nI (i + 1)) := by
  intro n
  induction n with
  | zero => intro n' mo M o t fi la v5 _ _ _ _ _ h; exact h.elim
  | succ n ih =>
    intro n' mo M o t fi la v5 h1 R H hb e5 hA hB
    cases n' with
    | zero => exact hB.elim
    | succ n' =>
    by_cases c : mo = m + 1
    · unfold wX2_findHistories_12 at hA
      unfold wX11_histories_45 at hB
      have lt : nI m < nI mo := (kI_lt (by omega) (by omega)).mpr (by omega)
      have hA := ip lt hA
      have hB := ip lt hB
      unfold wX11_histories_89 at hB
      rw [nI_s1] at hB
      refine ⟨M, R, hA, ?_⟩
      rw [H.1, ← e5]
      exact hB
    · obtain ⟨M1, a, b, wa, wb, f1, H1, hA⟩ := el_cmonth R iN (by omega) hm (by omega) H hA
      unfold wX11_histories_45 at hB
      have hB := iq (fun z => absurd ((kI_lt (by omega) (by omega)).mp z) (by omega)) hB
      obtain ⟨a2, wa2, hB⟩ := el_ways0 R iN hm (by omega) hB
      obtain ⟨b2, wb2, hB⟩ := el_ways1 R iN hm (by omega) hB
      have ea := wy_un wa wa2 Iff.rfl Iff.rfl
      have eb := wy_un wb wb2 Iff.rfl Iff.rfl
      subst ea eb
      have la := wy_le wa
      have lb := wy_le wb
      rw [kI_add, nI_s1, e5, i64_add (by omega) (by omega)] at hB
      refine ih n' (mo + 1) M1 (o + a) (t + b) _ _ _ (by omega) (ra_48 R (c := 53) (by omega) f1) H1 (by omega) ?_ hA hB
      congr 2
      omega
theorem hs_0 {M : MM} : HS (mset (mset M 53 0 0) 53 3 0) 0 0 (-4) (-4) := by
  refine ⟨?_, ?_, fun z => absurd z (by omega), fun _ => ⟨rfl, rfl⟩⟩
  · rw [mset_nk (by decide), mset_at]; rfl
  · rw [mset_at]; rfl
theorem lp_hlots {p q : Int64 → MM → Int64 → Prop} {m : Nat} (iN : Inv N) (hm : m < 24) : ∀ (n n' i : Nat) (M : MM) (v2 : Int64), i ≤ 8 → RA M N → wX10_histories_19 p n M tl (nI m) v2 (nI i) → wX11_histories_21 q n' N u (nI m) v2 (nI i) → PE p q := by
  intro n
  induction n with
  | zero => intro n' i M v2 _ _ h; exact h.elim
  | succ n ih =>
    intro n' i M v2 hi R hA hB
    cases n' with
    | zero => exact hB.elim
    | succ n' =>
    have l := rl_lots R.1
    unfold wX10_histories_19 at hA
    unfold wX11_histories_21 at hB
    rw [rl_0 R.1] at hA
    by_cases cc : N 81 2 ≤ nI i
    · exact pe0 (ip cc hA) (ip cc hB) rfl
    · have i8 : i < 8 := (kI_lt (b := 8) (by omega) (by omega)).mp (show nI i < (8 : Int32) by clear R ih; lia)
      have hA := el_c_hasH i8 R (iq cc hA)
      have hB := el_r_told i8 R (iq cc hB)
      by_cases c : mat N 0 (nI i) ≠ -4 ∧ N 82 i ≠ 0 ∧ mirF N (N 82 i) = N 82 (8 + (mat N 0 (nI i)).toNatClampNeg)
      · have hA := i10 (hA.1 c)
        obtain ⟨y, hB⟩ := i10 (hB.1 c)
        unfold wpX2_findHistories at hA
        obtain ⟨x, hA⟩ := hA _ rfl _ rfl
        obtain ⟨M1, R1, hA, hB⟩ := lp_hist iN hm x y 0 _ 0 0 (-4) (-4) 0 (by omega) (ra_48 R (c := 53) (by omega) (fun a ha => by rw [mset_ne ha, mset_ne ha])) hs_0 (by omega) (by decide) hA hB
        unfold wX10_histories_64 at hA
        rw [nI_s1] at hA
        exact ih n' (i + 1) M1 _ (by omega) R1 hA hB
      · have hA := i00 (hA.2 c)
        have hB := i00 (hB.2 c)
        unfold wX10_histories_64 at hA
        unfold wX11_histories_89 at hB
        rw [nI_s1] at hA hB
        exact ih n' (i + 1) M _ (by omega) R hA hB
theorem pe_histories {p q : Int64 → MM → Int64 → Prop} {v : Int32} (R : RA M N) (i : Inv N) (hA : wpX10_histories p M tl v) (hB : wpX11_histories q N u v) : PE p q := by
  unfold wpX10_histories at hA
  unfold wpX11_histories at hB
  have hB := el_in (p := fun r3 M1 t2 => (if r3 = 0 then q (-1) M1 t2 else (∃ n9, wX11_histories_21 q n9 M1 t2 v 1 0))) 0 23 rfl rfl rfl hB
  by_cases c : 0 ≤ v ∧ v ≤ 23
  · obtain ⟨n, hA⟩ := ip (show v < 24 by lia) (iq (show ¬ v < 0 by lia) hA)
    obtain ⟨n', hB⟩ := i10 (hB.1 c)
    obtain ⟨m, hm, em⟩ := cdN (v := v) 24 (by omega) c.1 (show _ < (24 : Int32) by lia)
    subst em
    exact lp_hlots i hm n n' 0 M 1 (by omega) R hA hB
  · have hB := i00 (hB.2 c)
    by_cases c3 : v < 0
    · exact pe0 (ip c3 hA) hB rfl
    · exact pe0 (iq (show ¬ v < 24 by lia) (iq c3 hA)) hB rfl
theorem lp_beg {p : MM → Int64 → Prop} {q : Int32 → MM → Int64 → Prop} {i m : Nat} {v3 : Int32} (iN : Inv N) (hm : m < 24) : ∀ (n n' mo : Nat) (M : MM) (o t : Nat) (fi la : Int32), mo ≤ m + 1 → RA M N → HS M o t fi la → o + t ≤ 4 * mo → wX2_findHistories_12 p n M tl (nI i) (nI m) (nI mo) → wX11_began_63 q n' N u (nI i) (nI m) v3 (nI o) (nI t) fi la (nI mo) → ∃ M' o2 t2 f2 l2, HS M' o2 t2 f2 l2 ∧ o2 + t2 < 1000 ∧ p M' tl ∧ (if v3 = 1 then q f2 N u else (if v3 = 2 then q l2 N u else (if nI o2 ≤ 0 then wX11_began_186 q N u (nI o2) (nI t2) else (if nI t2 = 0 then q 0 N u else wX11_began_186 q N u (nI o2) (nI t2))))) := by
  intro n
  induction n with
  | zero => intro n' mo M o t fi la _ _ _ _ h; exact h.elim
  | succ n ih =>
    intro n' mo M o t fi la h1 R H hb hA hB
    cases n' with
    | zero => exact hB.elim
    | succ n' =>
    by_cases c : mo = m + 1
    · unfold wX2_findHistories_12 at hA
      unfold wX11_began_63 at hB
      have lt : nI m < nI mo := (kI_lt (by omega) (by omega)).mpr (by omega)
      exact ⟨M, o, t, fi, la, H, by omega, ip lt hA, ip lt hB⟩
    · obtain ⟨M1, a, b, wa, wb, f1, H1, hA⟩ := el_cmonth R iN (by omega) hm (by omega) H hA
      unfold wX11_began_63 at hB
      have hB := iq (fun z => absurd ((kI_lt (by omega) (by omega)).mp z) (by omega)) hB
      obtain ⟨a2, wa2, hB⟩ := el_ways0 R iN hm (by omega) hB
      obtain ⟨b2, wb2, hB⟩ := el_ways1 R iN hm (by omega) hB
      have ea := wy_un wa wa2 Iff.rfl Iff.rfl
      have eb := wy_un wb wb2 Iff.rfl Iff.rfl
      subst ea eb
      have la' := wy_le wa
      have lb' := wy_le wb
      rw [kI_add, kI_add, kI_add] at hB
      have hl := hs_len H
      have le0 : (nI (a + b) ≤ 0) ↔ a + b = 0 := by
        have := kI_le (a := a + b) (b := 0) (by omega) (by omega)
        constructor
        · intro z; have := this.mp z; omega
        · intro z; exact this.mpr (by omega)
      have fin : ∀ fi2 : Int32, fi2 = (if o + t = 0 ∧ 0 < a + b then nI mo else fi) → wX11_began_127 q (wX11_began_63 q n') N u (nI i) (nI m) v3 (nI (o + a)) (nI (t + b)) la (nI mo) (nI a) (nI b) fi2 → ∃ M' o2 t2 f2 l2, HS M' o2 t2 f2 l2 ∧ o2 + t2 < 1000 ∧ p M' tl ∧ (if v3 = 1 then q f2 N u else (if v3 = 2 then q l2 N u else (if nI o2 ≤ 0 then wX11_began_186 q N u (nI o2) (nI t2) else (if nI t2 = 0 then q 0 N u else wX11_began_186 q N u (nI o2) (nI t2))))) := by
        intro fi2 e h
        unfold wX11_began_127 at h
        rw [kI_add] at h
        have go : ∀ la2 : Int32, la2 = (if 0 < a + b then nI mo else la) → wX11_began_144 q (wX11_began_63 q n') N u (nI i) (nI m) v3 (nI (o + a)) (nI (t + b)) fi2 (nI mo) la2 → ∃ M' o2 t2 f2 l2, HS M' o2 t2 f2 l2 ∧ o2 + t2 < 1000 ∧ p M' tl ∧ (if v3 = 1 then q f2 N u else (if v3 = 2 then q l2 N u else (if nI o2 ≤ 0 then wX11_began_186 q N u (nI o2) (nI t2) else (if nI t2 = 0 then q 0 N u else wX11_began_186 q N u (nI o2) (nI t2))))) := by
          intro la2 e2 h
          unfold wX11_began_144 at h
          rw [nI_s1] at h
          rw [← e, ← e2] at H1
          exact ih n' (mo + 1) M1 (o + a) (t + b) fi2 la2 (by omega) (ra_48 R (c := 53) (by omega) f1) H1 (by omega) hA h
        by_cases z : a + b = 0
        · exact go la (by rw [if_neg (by omega)]) (ip (le0.mpr z) h)
        · exact go (nI mo) (by rw [if_pos (by omega)]) (iq (fun y => z (le0.mp y)) h)
      by_cases c6 : fi = -4
      · have hB := ip c6 hB
        by_cases z : a + b = 0
        · have hB := ip (le0.mpr z) hB
          unfold wX11_began_125 at hB
          exact fin fi (by rw [if_neg (by omega)]) hB
        · have hB := iq (fun y => z (le0.mp y)) hB
          exact fin (nI mo) (by rw [if_pos ⟨hl.mpr c6, by omega⟩]) hB
      · have hB := iq c6 hB
        unfold wX11_began_125 at hB
        exact fin fi (by rw [if_neg (fun y => c6 (hl.mp y.1))]) hB
theorem pe_began {p q : Int32 → MM → Int64 → Prop} {v1 v2 v3 : Int32} (R : RA M N) (i : Inv N) (hA : wpX10_began p M tl v1 v2 v3) (hB : wpX11_began q N u v1 v2 v3) : PE p q := by
  unfold wpX10_began at hA
  unfold wpX11_began at hB
  have l := rl_lots R.1
  have hA := el_c_isLot R.1 hA
  have hB := el_r_isLot l hB
  by_cases c : lotP N 0 v1
  · have hA := i10 (hA.1 c)
    have hB := el_in 0 23 rfl rfl rfl (i10 (hB.1 c))
    by_cases c2 : 0 ≤ v2 ∧ v2 ≤ 23
    · have hA := iq (show ¬ 24 ≤ v2 by lia) (iq (show ¬ v2 < 0 by lia) hA)
      have hB := el_in 0 2 rfl rfl rfl (i10 (hB.1 c2))
      by_cases c3 : 0 ≤ v3 ∧ v3 ≤ 2
      · have hA := ip c3.2 (iq (show ¬ v3 < 0 by lia) hA)
        have hB := i10 (hB.1 c3)
        obtain ⟨x, hx, ex⟩ := cdN (v := v1) 8 (by omega) c.2.1 (show _ < (8 : Int32) by have := c.2.2; clear R; lia)
        obtain ⟨m, hm, em⟩ := cdN (v := v2) 24 (by omega) c2.1 (show _ < (24 : Int32) by lia)
        subst ex em
        have hA := el_c_hasH hx R hA
        have hB := el_r_told hx R hB
        by_cases ch : mat N 0 (nI x) ≠ -4 ∧ N 82 x ≠ 0 ∧ mirF N (N 82 x) = N 82 (8 + (mat N 0 (nI x)).toNatClampNeg)
        · have hA := i10 (hA.1 ch)
          obtain ⟨n', hB⟩ := i10 (hB.1 ch)
          unfold wpX2_findHistories at hA
          obtain ⟨n, hA⟩ := hA _ rfl _ rfl
          obtain ⟨M1, o, t, fi, la, H, hb, hA, hB⟩ := lp_beg i hm n n' 0 _ 0 0 (-4) (-4) (by omega) (ra_48 R (c := 53) (by omega) (fun a ha => by rw [mset_ne ha, mset_ne ha])) hs_0 (by omega) hA hB
          obtain ⟨g0, g3, g1, g2⟩ := H
          have o0 : (nI o ≤ 0) ↔ o = 0 := by
            have := kI_le (a := o) (b := 0) (by omega) (by omega)
            constructor
            · intro z; have := this.mp z; omega
            · intro z; exact this.mpr (by omega)
          have t0 : (nI t ≤ 0) ↔ t = 0 := by
            have := kI_le (a := t) (b := 0) (by omega) (by omega)
            constructor
            · intro z; have := this.mp z; omega
            · intro z; exact this.mpr (by omega)
          have oe : (nI o = 0) ↔ o = 0 := ⟨fun z => kI_inj (b := 0) (by omega) (by omega) z, fun z => by rw [z]; rfl⟩
          have te : (nI t = 0) ↔ t = 0 := ⟨fun z => kI_inj (b := 0) (by omega) (by omega) z, fun z => by rw [z]; rfl⟩
          by_cases z : o + t = 0
          · have hA := ip (show M1 53 0 = 0 by rw [g0, z]; rfl) hA
            have y := g2 z
            by_cases d1 : v3 = 1
            · exact pe0 hA (ip d1 hB) y.1.symm
            · have hB := iq d1 hB
              by_cases d2 : v3 = 2
              · exact pe0 hA (ip d2 hB) y.2.symm
              · have hB := ip (o0.mpr (by omega)) (iq d2 hB)
                unfold wX11_began_186 at hB
                exact pe0 hA (ip (t0.mpr (by omega)) hB) rfl
          · have hA := iq (show ¬ M1 53 0 = 0 from fun y => z (kI_inj (b := 0) (by omega) (by omega) (g0.symm.trans y))) hA
            have y := g1 (by omega)
            by_cases d1 : v3 = 1
            · have hA := ip d1 (iq (show ¬ v3 = 0 by rw [d1]; decide) hA)
              exact pe0 hA (ip d1 hB) y.1
            · have hB := iq d1 hB
              by_cases d2 : v3 = 2
              · have hA := iq d1 (iq (show ¬ v3 = 0 by rw [d2]; decide) hA)
                exact pe0 hA (ip d2 hB) y.2.1
              · have hA := ip (show v3 = 0 by lia) hA
                have hB := iq d2 hB
                unfold wpX2_onlyBeginner at hA
                rw [g3] at hA
                by_cases zo : o = 0
                · have zt : ¬ t = 0 := by omega
                  rw [if_pos zo, if_neg zt] at hA
                  have hB := ip (o0.mpr zo) hB
                  unfold wX11_began_186 at hB
                  exact pe0 (iq (by decide) hA) (ip (oe.mpr zo) (iq (fun q => zt (t0.mp q)) hB)) (by decide)
                · have hB := iq (fun q => zo (o0.mp q)) hB
                  by_cases zt : t = 0
                  · rw [if_neg zo, if_pos zt] at hA
                    exact pe0 (iq (by decide) hA) (ip (te.mpr zt) hB) (by decide)
                  · rw [if_neg zo, if_neg zt] at hA
                    have hB := iq (fun q => zt (te.mp q)) hB
                    unfold wX11_began_186 at hB
                    exact pe0 (ip (by decide) hA) (iq (fun q => zo (oe.mp q)) (iq (fun q => zt (t0.mp q)) hB)) rfl
        · exact pe0 (i00 (hA.2 ch)) (i00 (hB.2 ch)) rfl
      · have hB := i00 (hB.2 c3)
        by_cases c4 : v3 < 0
        · exact pe0 (ip c4 hA) hB rfl
        · exact pe0 (iq (show ¬ v3 ≤ 2 by lia) (iq c4 hA)) hB rfl
    · have hB := i00 (hB.2 c2)
      by_cases c4 : v2 < 0
      · exact pe0 (ip c4 hA) hB rfl
      · exact pe0 (ip (show 24 ≤ v2 by lia) (iq c4 hA)) hB rfl
  · exact pe0 (i00 (hA.2 c)) (i00 (hB.2 c)) rfl
end HM
