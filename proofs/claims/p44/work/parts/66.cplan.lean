/-! the reference's plan (by hand): rests is the least sum that is left, by the months used -/
def bS (v : Int32) : Nat → Int32
  | 0 => 0
  | k + 1 => bS v k + ((v >>> (nI k &&& 31)) &&& 1)
/-- month m is free in u -/
abbrev fre (u m : Int32) : Prop := ((u >>> (m &&& 31)) &&& 1) = 0
abbrev tak (u m : Int32) : Int32 := u ||| ((1 : Int32) <<< (m &&& 31))
theorem bit_all : ∀ a, a < 64 → ∀ b, b < 64 → ∀ m, m < 12 → (nI (64 * a + b) >>> (nI m &&& 31)) &&& 1 = nI (Nat.testBit (64 * a + b) m).toNat := by decide +kernel
theorem bit_nI {u m : Nat} (hu : u < 4096) (hm : m < 12) : (nI u >>> (nI m &&& 31)) &&& 1 = nI (u.testBit m).toNat := by
  have e : u = 64 * (u / 64) + u % 64 := by omega
  rw [e]
  exact bit_all (u / 64) (by omega) (u % 64) (by omega) m hm
theorem fre_nI {u m : Nat} (hu : u < 4096) (hm : m < 12) : fre (nI u) (nI m) ↔ u.testBit m = false := by
  unfold fre
  rw [bit_nI hu hm]
  cases u.testBit m
  · exact ⟨fun _ => rfl, fun _ => rfl⟩
  · exact ⟨fun q => absurd q (by decide), fun q => absurd q (by decide)⟩
theorem shl_all : ∀ m, m < 12 → (1 : Int32) <<< (nI m &&& 31) = nI (2 ^ m) := by decide +kernel
theorem tak_nI {u m : Nat} (hm : m < 12) : tak (nI u) (nI m) = nI (u ||| 2 ^ m) := r_or rfl (shl_all m hm)
theorem lor_lt {u m : Nat} (hu : u < 4096) (hm : m < 12) : u ||| 2 ^ m < 4096 := Nat.or_lt_two_pow (n := 12) hu (Nat.pow_lt_pow_right (by decide) hm)
theorem tb_lor {u m k : Nat} : (u ||| 2 ^ m).testBit k = (u.testBit k || decide (m = k)) := by rw [Nat.testBit_or, Nat.testBit_two_pow]
theorem bS_tak {u m : Nat} (hu : u < 4096) (hm : m < 12) (hf : u.testBit m = false) : ∀ k, k ≤ 12 → bS (nI (u ||| 2 ^ m)) k = bS (nI u) k + (if m < k then 1 else 0) := by
  intro k
  induction k with
  | zero => intro _; rw [if_neg (by omega)]; rfl
  | succ k ih =>
    intro hk
    show bS (nI (u ||| 2 ^ m)) k + (((nI (u ||| 2 ^ m)) >>> (nI k &&& 31)) &&& 1) = bS (nI u) k + (((nI u) >>> (nI k &&& 31)) &&& 1) + (if m < k + 1 then 1 else 0)
    rw [bit_nI (lor_lt hu hm) (by omega), bit_nI hu (by omega), ih (by omega), tb_lor]
    by_cases e : m = k
    · subst e
      rw [hf, if_neg (by omega), if_pos (by omega), decide_eq_true rfl]
      show bS (nI u) m + 0 + 1 = bS (nI u) m + 0 + 1
      rfl
    · rw [decide_eq_false e, Bool.or_false]
      by_cases l : m < k
      · rw [if_pos l, if_pos (by omega)]; grind
      · rw [if_neg l, if_neg (by omega)]; grind
theorem tak_all (u : Nat) (hu : u < 4096) (m : Nat) (hm : m < 12) (hf : fre (nI u) (nI m)) : nI u < tak (nI u) (nI m) ∧ tak (nI u) (nI m) ≤ 4095 ∧ bS (tak (nI u) (nI m)) 12 = bS (nI u) 12 + 1 := by
  have hf := (fre_nI hu hm).mp hf
  have h1 := lor_lt hu hm
  have h2 : u ≤ u ||| 2 ^ m := Nat.left_le_or
  have h3 : u ≠ u ||| 2 ^ m := fun e => by
    have q := tb_lor (u := u) (m := m) (k := m)
    rw [← e, hf, decide_eq_true rfl] at q
    exact Bool.noConfusion q
  rw [tak_nI hm]
  refine ⟨Int32.lt_iff_toInt_lt.mpr (by rw [nI_sm (by omega), nI_sm (by omega)]; omega), i_le (k := 4095) (by decide) (by rw [nI_sm (by omega)]; omega), ?_⟩
  rw [bS_tak hu hm hf 12 (by omega), if_pos hm]
theorem bS_b (v : Int32) : ∀ k, k ≤ 12 → (0 ≤ bS v k ∧ bS v k ≤ nI k) := by
  intro k
  induction k with
  | zero => intro _; exact (show (0 : Int32) ≤ 0 ∧ (0 : Int32) ≤ nI 0 by decide)
  | succ k ih =>
    intro hk
    have q := ih (by omega)
    have w := andc (v >>> (nI k &&& 31)) 1 (by decide)
    have w2 : (nI 1 : Int32) = 1 := rfl
    rw [w2] at w
    have z : nI k ≤ 11 := i_le (k := 11) (by decide) (by rw [nI_sm (by omega)]; omega)
    have z0 : 0 ≤ nI k := nJ_ge0 (by omega)
    rw [← nI_s1]
    show 0 ≤ bS v k + ((v >>> (nI k &&& 31)) &&& 1) ∧ bS v k + ((v >>> (nI k &&& 31)) &&& 1) ≤ nI k + 1
    generalize (v >>> (nI k &&& 31)) &&& 1 = t at w ⊢
    generalize bS v k = s at q ⊢
    generalize nI k = n at z z0 q ⊢
    exact ⟨by lia, by lia⟩
theorem bS_full {v : Int32} (h : ∀ k, k < 12 → ¬ fre v (nI k)) : ∀ k, k ≤ 12 → bS v k = nI k := by
  intro k
  induction k with
  | zero => intro _; rfl
  | succ k ih =>
    intro hk
    have q := h k (by omega)
    have w := andc (v >>> (nI k &&& 31)) 1 (by decide)
    have w2 : (nI 1 : Int32) = 1 := rfl
    rw [w2] at w
    show bS v k + ((v >>> (nI k &&& 31)) &&& 1) = nI (k + 1)
    rw [ih (by omega), ← nI_s1]
    have e : ((v >>> (nI k &&& 31)) &&& 1) = 1 := by
      unfold fre at q
      generalize (v >>> (nI k &&& 31)) &&& 1 = t at q w ⊢
      lia
    rw [e]
theorem bS_all (u : Nat) (hu : u < 4096) : 0 ≤ bS (nI u) 12 ∧ bS (nI u) 12 ≤ 12 ∧ (bS (nI u) 12 ≤ 6 → ∃ m, m < 12 ∧ fre (nI u) (nI m)) := by
  refine ⟨(bS_b (nI u) 12 (by omega)).1, (bS_b (nI u) 12 (by omega)).2, fun h => ?_⟩
  by_cases q : ∃ m, m < 12 ∧ fre (nI u) (nI m)
  · exact q
  · have e := bS_full (v := nI u) (fun k hk z => q ⟨k, hk, z⟩) 12 (by omega)
    rw [e] at h
    exact absurd h (by decide)
theorem m4_all : ∀ c, c < 100 → 0 ≤ nI c - nI c / 4 * 4 ∧ nI c - nI c / 4 * 4 < 4 := by decide +kernel
theorem m4 {v : Int32} (h : 0 ≤ v ∧ v < 100) : 0 ≤ v - v / 4 * 4 ∧ v - v / 4 * 4 < 4 := by
  obtain ⟨c, e, hc⟩ := code_of (hi := 99) ⟨i_ge_to (k := 0) (by decide) h.1, i_le_to (c := 99) (k := 99) (by decide) (by lia)⟩ (by decide)
  subst e
  exact m4_all c hc
theorem cd12 {m : Int32} (h : 0 ≤ m ∧ m < 12) : ∃ c, m = nI c ∧ c < 12 := code_of (hi := 11) ⟨i_ge_to (k := 0) (by decide) h.1, i_le_to (c := 11) (k := 11) (by decide) (by lia)⟩ (by decide)
theorem cd4095 {u : Int32} (h : 0 ≤ u ∧ u ≤ 4095) : ∃ c, u = nI c ∧ c < 4096 := code_of (hi := 4095) ⟨i_ge_to (k := 0) (by decide) h.1, i_le_to (k := 4095) (by decide) h.2⟩ (by decide)
theorem tak_ok {u m : Int32} (hu : 0 ≤ u ∧ u ≤ 4095) (hm : 0 ≤ m ∧ m < 12) (hf : fre u m) : u < tak u m ∧ tak u m ≤ 4095 ∧ bS (tak u m) 12 = bS u 12 + 1 := by
  obtain ⟨x, ex, hx⟩ := cd4095 hu
  obtain ⟨y, ey, hy⟩ := cd12 hm
  subst ex; subst ey
  exact tak_all x hx y hy hf
theorem bS_ok {u : Int32} (hu : 0 ≤ u ∧ u ≤ 4095) : 0 ≤ bS u 12 ∧ bS u 12 ≤ 12 := by
  obtain ⟨x, ex, hx⟩ := cd4095 hu
  subst ex
  exact ⟨(bS_all x hx).1, (bS_all x hx).2.1⟩
theorem bS_free {u : Int32} (hu : 0 ≤ u ∧ u ≤ 4095) (h : bS u 12 ≤ 6) : ∃ m : Int32, 0 ≤ m ∧ m < 12 ∧ fre u m := by
  obtain ⟨x, ex, hx⟩ := cd4095 hu
  subst ex
  obtain ⟨m, m1, m2⟩ := (bS_all x hx).2.2 h
  exact ⟨nI m, nJ_ge0 (by omega), Int32.lt_iff_toInt_lt.mpr (by rw [nI_sm (by omega)]; show (m : Int) < 12; omega), m2⟩
/-- what want j costs in a month -/
def wk (M : MM) (j : Int32) : Int32 := M 82 (((66 : Int32) + ((2 : Int32) * j)) + 1).toNatClampNeg
def wc (M : MM) (j m : Int32) : Int32 := (M 84 (m - m / 4 * 4).toNatClampNeg) * ((M 85 (wk M j).toNatClampNeg) + (M 85 ((6 : Int32) + (M 88 (wk M j).toNatClampNeg)).toNatClampNeg))
theorem wc_fr {M M1 : MM} (h : Fr [104] [] M M1) (j m : Int32) : wc M1 j m = wc M j m := by
  have e : ∀ a, a ≠ 104 → M1 a = M a := fun a q => funext (fun k => h a k (by simpa using q) (by simp))
  unfold wc wk
  rw [e 82 (by decide), e 84 (by decide), e 85 (by decide), e 88 (by decide)]
theorem mul_b {p c : Int32} (hp : 0 ≤ p ∧ p ≤ 9) (hc : 0 ≤ c ∧ c ≤ 40) : 0 ≤ p * c ∧ p * c ≤ 360 := by
  have p0 := i_ge_to (k := 0) (by decide) hp.1
  have p1 := i_le_to (k := 9) (by decide) hp.2
  have c0 := i_ge_to (k := 0) (by decide) hc.1
  have c1 := i_le_to (k := 40) (by decide) hc.2
  have k0 : 0 ≤ p.toInt * c.toInt := Int.mul_nonneg p0 c0
  have k1 : p.toInt * c.toInt ≤ 9 * 40 := Int.mul_le_mul p1 c1 c0 (by omega)
  have e : (p * c).toInt = p.toInt * c.toInt := by
    rw [Int32.toInt_mul, Int.bmod_def]
    generalize p.toInt * c.toInt = z at k0 k1 ⊢
    split <;> omega
  exact ⟨i_ge (k := 0) (by decide) (by rw [e]; exact k0), i_le (k := 360) (by decide) (by rw [e]; omega)⟩
theorem wc_b {M : MM} (h : Inv M) (j m : Int32) : 0 ≤ wc M j m ∧ wc M j m ≤ 360 := by
  unfold wc
  have a := iv_85 h (wk M j).toNatClampNeg
  have b := iv_85 h ((6 : Int32) + (M 88 (wk M j).toNatClampNeg)).toNatClampNeg
  exact mul_b (iv_84 h _) (by lia)
/-- m is a month that leads on from u -/
def led (M : MM) (f u m : Int32) : Prop := 0 ≤ m ∧ m < 12 ∧ fre u m ∧ wc M (bS u 12) (f + m) + M 104 (tak u m).toNatClampNeg = M 104 u.toNatClampNeg
def RO (M : MM) (W f u : Int32) : Prop := (bS u 12 = W → M 104 u.toNatClampNeg = 0) ∧ (bS u 12 < W → (0 ≤ M 104 u.toNatClampNeg ∧ M 104 u.toNatClampNeg ≤ 360 * (W - bS u 12)) ∧ (∃ m, led M f u m) ∧ ∀ m : Int32, 0 ≤ m → m < 12 → fre u m → M 104 u.toNatClampNeg ≤ wc M (bS u 12) (f + m) + M 104 (tak u m).toNatClampNeg)
/-- the same cells of the rest at u and above it, the same costs -/
theorem ro_eq {M M1 : MM} {W f u : Int32} (hu : 0 ≤ u ∧ u ≤ 4095) (hw : ∀ j m, wc M1 j m = wc M j m) (he : ∀ x : Int32, u ≤ x → M1 104 x.toNatClampNeg = M 104 x.toNatClampNeg) (h : RO M W f u) : RO M1 W f u := by
  have e0 := he u (by lia)
  refine ⟨fun q => by rw [e0]; exact h.1 q, fun q => ?_⟩
  obtain ⟨a, ⟨m, m0, m1, m2, m3⟩, c⟩ := h.2 q
  refine ⟨by rw [e0]; exact a, ⟨m, m0, m1, m2, ?_⟩, fun m m0 m1 m2 => ?_⟩
  · have t := tak_ok hu ⟨m0, m1⟩ m2
    rw [e0, hw, he _ (by lia)]; exact m3
  · have t := tak_ok hu ⟨m0, m1⟩ m2
    rw [e0, hw, he _ (by lia)]; exact c m m0 m1 m2
theorem sx_wantCost {post : Int32 → MM → Int64 → Prop} {M : MM} {tl : Int64} {v1 v2 : Int32} (hI : Inv M) (h1 : 0 ≤ v1 ∧ v1 < 6) (h2 : 0 ≤ v2 ∧ v2 < 100) (hp : post (wc M v1 v2) M tl) : wpX11_wantCost post M tl v1 v2 := by
  unfold wpX11_wantCost
  have hk := r82_66_1 hI v1 (by lia) (by lia)
  have ht := iv_88 hI (wk M v1).toNatClampNeg
  refine And.intro (vpI (c := 381) (by decide) (by lia) (by lia)) ?_
  refine And.intro (vpI (c := 4) (by decide) (m4 h2).1 (m4 h2).2) ?_
  refine And.intro (vpI (c := 12) (by decide) (by lia) (by lia)) ?_
  refine And.intro (vpI (c := 6) (by decide) (by lia) (by lia)) ?_
  unfold wk at ht
  refine And.intro (vpI (c := 12) (by decide) (by lia) (by lia)) ?_
  exact hp
theorem sx_bits4 {post : Int32 → MM → Int64 → Prop} {M : MM} {tl : Int64} {v0 : Int32} (hp : post (bS v0 12) M tl) : ∀ d k, k + d = 12 → wX11_bitsOf_4 post (d + 1) M tl v0 (bS v0 k) (nI k) := by
  intro d
  induction d with
  | zero =>
    intro k e
    have e : k = 12 := by omega
    subst e
    unfold wX11_bitsOf_4
    exact ifp (by decide) hp
  | succ d ih =>
    intro k e
    unfold wX11_bitsOf_4
    refine ifs (fun c => ?_) (fun c => ?_)
    · have := Int32.le_iff_toInt_le.mp c
      rw [nI_sm (by omega)] at this
      have : (12 : Int) ≤ k := this
      omega
    · rw [nI_s1]
      exact ih (k + 1) (by omega)
theorem sx_bitsOf {post : Int32 → MM → Int64 → Prop} {M : MM} {tl : Int64} {v0 : Int32} (hp : post (bS v0 12) M tl) : wpX11_bitsOf post M tl v0 := by
  unfold wpX11_bitsOf
  exact ⟨12 + 1, sx_bits4 hp 12 0 rfl⟩
abbrev QF (M M1 : MM) : Prop := Fr [104] [] M M1
theorem qf_82 {M0 M : MM} (h : QF M0 M) (k : Nat) : M 82 k = M0 82 k := h 82 k (by decide) (by simp)
theorem inv_104 {M : MM} {k : Nat} {v : Int32} (h : Inv M) : Inv (mset M 104 k v) := inv_set h (i_any _)
theorem ne104 {M : MM} {x y v : Int32} (hx : 0 ≤ x) (hy : 0 ≤ y) (h : x ≠ y) : mset M 104 y.toNatClampNeg v 104 x.toNatClampNeg = M 104 x.toNatClampNeg := mset_nk (tn_ne hx hy h)
/-- the least so far, months below v4 tried -/
def PM (M : MM) (f u v4 : Int32) : Prop := (∀ m : Int32, 0 ≤ m → m < v4 → fre u m → M 104 u.toNatClampNeg ≤ wc M (bS u 12) (f + m) + M 104 (tak u m).toNatClampNeg) ∧ (M 104 u.toNatClampNeg = 99999 ∨ ∃ m, m < v4 ∧ led M f u m)
theorem fr104 {M0 M : MM} {k : Nat} {v : Int32} (h : QF M0 M) : QF M0 (mset M 104 k v) := fr_arr h (by decide)
theorem wc_set {M : MM} {k : Nat} {v : Int32} (j m : Int32) : wc (mset M 104 k v) j m = wc M j m := wc_fr (fr_arr fr_rfl (by decide)) j m
theorem ro_top {M : MM} {W f u m : Int32} (hu : 0 ≤ u ∧ u ≤ 4095) (hW : W ≤ 6) (hj : bS u 12 < W) (hm : 0 ≤ m ∧ m < 12) (hf : fre u m) (ha : ∀ x : Int32, u < x → x ≤ 4095 → RO M W f x) : 0 ≤ M 104 (tak u m).toNatClampNeg ∧ M 104 (tak u m).toNatClampNeg ≤ 360 * (W - bS u 12 - 1) := by
  have t := tak_ok hu hm hf
  have b := bS_ok hu
  have r := ha (tak u m) t.1 t.2.1
  by_cases q : bS (tak u m) 12 = W
  · rw [r.1 q]; exact ⟨by lia, by lia⟩
  · have r := (r.2 (by lia)).1
    exact ⟨r.1, by lia⟩
section REST
variable {post : MM → Int64 → Prop} {M0 : MM} {W f : Int32}
theorem sr_rest40 {bk : MM → Int64 → Int32 → Int32 → Prop} {u : Int32} (hW0 : M0 82 (65 : Int32).toNatClampNeg = W) (hW : W ≤ 6) (hf0 : 0 ≤ f ∧ f ≤ 3) (hu : 0 ≤ u ∧ u ≤ 4095) (hj : bS u 12 < W) (hb : ∀ (M : MM) (tl : Int64), Inv M → QF M0 M → (∀ x : Int32, u ≤ x → x ≤ 4095 → RO M W f x) → bk M tl f (u + -1)) : ∀ v4 : Int32, 0 ≤ v4 → v4 ≤ 12 → ∃ n, ∀ (M : MM) (tl : Int64), Inv M → QF M0 M → (∀ x : Int32, u < x → x ≤ 4095 → RO M W f x) → PM M f u v4 → wX11_findRests_40 post bk n M tl f u (bS u 12) v4 := by
  have b := bS_ok hu
  refine up_ex (P := fun d v4 => ∀ (M : MM) (tl : Int64), Inv M → QF M0 M → (∀ x : Int32, u < x → x ≤ 4095 → RO M W f x) → PM M f u v4 → wX11_findRests_40 post bk d M tl f u (bS u 12) v4) 0 12 ?_
  intro d v4 hlo hhi rc M tl hI hF ha hm
  unfold wX11_findRests_40
  refine ifs (fun c => ?_) (fun c => ?_)
  · unfold wX11_findRests_124
    refine hb _ _ hI hF (fun x x0 x1 => ?_)
    by_cases q : x = u
    · subst q
      refine ⟨fun q => absurd hj (by lia), fun _ => ?_⟩
      obtain ⟨m, m0, m1, m2⟩ := bS_free hu (by lia)
      have k := hm.1 m m0 (by lia) m2
      have k1 := ro_top hu hW hj ⟨m0, m1⟩ m2 ha
      have k2 := wc_b hI (bS x 12) (f + m)
      obtain ⟨p, p0, p1, p2, p3⟩ : ∃ p, led M f x p := by
        rcases hm.2 with z | ⟨p, _, z⟩
        · exact absurd z (by lia)
        · exact ⟨p, z⟩
      have l1 := ro_top hu hW hj ⟨p0, p1⟩ p2 ha
      have l2 := wc_b hI (bS x 12) (f + p)
      exact ⟨⟨by lia, by lia⟩, ⟨p, p0, p1, p2, p3⟩, fun m m0 m1 m2 => hm.1 m m0 (by lia) m2⟩
    · exact ha x (by lia) x1
  · refine And.intro (vpI (c := 381) (by decide) (by decide) (by decide)) ?_
    rw [qf_82 hF, hW0]
    refine ifn (by lia) ?_
    refine ifs (fun c2 => ?_) (fun c2 => ?_)
    · have t := tak_ok hu ⟨hlo, by lia⟩ c2
      have k1 := ro_top hu hW hj ⟨hlo, by lia⟩ c2 ha
      have k2 := wc_b hI (bS u 12) (f + v4)
      refine sx_wantCost hI (by lia) (by lia) ?_
      refine And.intro (vpI (c := 4096) (by decide) (by lia) (by lia)) ?_
      refine And.intro (vpI (c := 4096) (by decide) (by lia) (by lia)) ?_
      have key : ∀ v : Int32, (v = M 104 u.toNatClampNeg ∧ v ≤ wc M (bS u 12) (f + v4) + M 104 (tak u v4).toNatClampNeg) ∨ (v = wc M (bS u 12) (f + v4) + M 104 (tak u v4).toNatClampNeg ∧ v ≤ M 104 u.toNatClampNeg) → wX11_findRests_117 post bk (wX11_findRests_40 post bk d) M tl f u (bS u 12) v4 u v := by
        intro v hv
        unfold wX11_findRests_117
        refine And.intro (vpI (c := 4096) (by decide) (by lia) (by lia)) ?_
        intro W1 e
        have at_u : W1 104 u.toNatClampNeg = v := by rw [e]; exact mset_at _ _ _ _
        have ab : ∀ x : Int32, u < x → W1 104 x.toNatClampNeg = M 104 x.toNatClampNeg := fun x q => by rw [e]; exact ne104 (by lia) hu.1 (by lia)
        have wce : ∀ j m, wc W1 j m = wc M j m := fun j m => by rw [e]; exact wc_set j m
        unfold wX11_findRests_118
        refine rc (by lia) _ _ (by rw [e]; exact inv_104 hI) (by rw [e]; exact fr104 hF) ?_ ?_
        · intro x x0 x1
          exact ro_eq ⟨by lia, x1⟩ wce (fun y q => ab y (by lia)) (ha x x0 x1)
        · refine ⟨fun m m0 m1 m2 => ?_, ?_⟩
          · have tm := tak_ok hu ⟨m0, by lia⟩ m2
            rw [at_u, wce, ab _ tm.1]
            by_cases q : m = v4
            · subst q
              rcases hv with z | z
              · exact z.2
              · rw [z.1]; lia
            · have o := hm.1 m m0 (by lia) m2
              rcases hv with z | z
              · rw [z.1]; exact o
              · lia
          · rcases hv with z | z
            · rcases hm.2 with y | ⟨p, pl, p0, p1, p2, p3⟩
              · exact Or.inl (by rw [at_u, z.1]; exact y)
              · have tm := tak_ok hu ⟨p0, p1⟩ p2
                exact Or.inr ⟨p, by lia, p0, p1, p2, by rw [at_u, wce, ab _ tm.1, z.1]; exact p3⟩
            · exact Or.inr ⟨v4, by lia, hlo, by lia, c2, by rw [at_u, wce, ab _ t.1]; exact z.1.symm⟩
      refine ifs (fun c3 => ?_) (fun c3 => ?_)
      · refine And.intro (vpI (c := 4096) (by decide) (by lia) (by lia)) ?_
        exact key _ (Or.inl ⟨rfl, c3⟩)
      · exact key _ (Or.inr ⟨rfl, by lia⟩)
    · unfold wX11_findRests_118
      refine rc (by lia) _ _ hI hF ha ⟨fun m m0 m1 m2 => ?_, ?_⟩
      · by_cases q : m = v4
        · subst q; exact absurd m2 c2
        · exact hm.1 m m0 (by lia) m2
      · rcases hm.2 with y | ⟨p, pl, p4⟩
        · exact Or.inl y
        · exact Or.inr ⟨p, by lia, p4⟩
theorem sr_rest4 (hW0 : M0 82 (65 : Int32).toNatClampNeg = W) (hW : 0 ≤ W ∧ W ≤ 6) (hf0 : 0 ≤ f ∧ f ≤ 3) (hp : ∀ (M : MM) (tl : Int64), Inv M → QF M0 M → (∀ x : Int32, 0 ≤ x → x ≤ 4095 → RO M W f x) → post M tl) : ∀ v2 : Int32, -8 ≤ v2 → v2 ≤ 4095 → ∃ n, -1 ≤ v2 → ∀ (M : MM) (tl : Int64), Inv M → QF M0 M → (∀ x : Int32, v2 < x → x ≤ 4095 → RO M W f x) → wX11_findRests_4 post n M tl f v2 := by
  refine dn_ex (P := fun d v2 => -1 ≤ v2 → ∀ (M : MM) (tl : Int64), Inv M → QF M0 M → (∀ x : Int32, v2 < x → x ≤ 4095 → RO M W f x) → wX11_findRests_4 post d M tl f v2) (-1) 4095 (by decide) (by decide) ?_
  intro d v2 hlo hhi rc h1 M tl hI hF ha
  unfold wX11_findRests_4
  refine ifs (fun c => hp _ _ hI hF (fun x x0 x1 => ha x (by lia) x1)) (fun c => ?_)
  have hu : 0 ≤ v2 ∧ v2 ≤ 4095 := ⟨by lia, hhi⟩
  have b := bS_ok hu
  have rc := rc (by lia) (by lia)
  refine sx_bitsOf ?_
  refine And.intro (vpI (c := 381) (by decide) (by decide) (by decide)) ?_
  rw [qf_82 hF, hW0]
  have key : ∀ v : Int32, (bS v2 12 = W → v = 0) → (bS v2 12 ≠ W → v = 99999) → wX11_findRests_36 post (wX11_findRests_4 post d) M tl f v2 (bS v2 12) v2 v := by
    intro v va vb
    unfold wX11_findRests_36
    refine And.intro (vpI (c := 4096) (by decide) (by lia) (by lia)) ?_
    intro W1 e
    have at_u : W1 104 v2.toNatClampNeg = v := by rw [e]; exact mset_at _ _ _ _
    have ab : ∀ x : Int32, v2 < x → W1 104 x.toNatClampNeg = M 104 x.toNatClampNeg := fun x q => by rw [e]; exact ne104 (by lia) hu.1 (by lia)
    have wce : ∀ j m, wc W1 j m = wc M j m := fun j m => by rw [e]; exact wc_set j m
    have iW : Inv W1 := by rw [e]; exact inv_104 hI
    have fW : QF M0 W1 := by rw [e]; exact fr104 hF
    have aW : ∀ x : Int32, v2 < x → x ≤ 4095 → RO W1 W f x := fun x x0 x1 => ro_eq ⟨by lia, x1⟩ wce (fun y q => ab y (by lia)) (ha x x0 x1)
    by_cases q : bS v2 12 < W
    · obtain ⟨n, hn⟩ := sr_rest40 (post := post) (bk := wX11_findRests_4 post d) (u := v2) hW0 hW.2 hf0 hu q (fun M tl i f' a => rc M tl i f' (fun x x0 x1 => a x (by lia) x1)) 0 (by decide) (by decide)
      exact ⟨n, hn _ _ iW fW aW ⟨fun m m0 m1 => absurd m1 (by lia), Or.inl (by rw [at_u]; exact vb (by lia))⟩⟩
    · refine ⟨0 + 1, ?_⟩
      unfold wX11_findRests_40
      have done : wX11_findRests_124 post (wX11_findRests_4 post d) W1 tl f v2 := by
        unfold wX11_findRests_124
        refine rc _ _ iW fW (fun x x0 x1 => ?_)
        by_cases z : x = v2
        · subst z
          exact ⟨fun k => by rw [at_u]; exact va k, fun k => absurd k q⟩
        · exact aW x (by lia) x1
      refine ifs (fun _ => done) (fun _ => ?_)
      refine And.intro (vpI (c := 381) (by decide) (by decide) (by decide)) ?_
      rw [qf_82 fW, hW0]
      exact ifp (by lia) done
  exact ifs (fun c => key _ (fun _ => rfl) (fun z => absurd c z)) (fun c => key _ (fun z => absurd z c) (fun _ => rfl))
end REST
theorem sr_rests {post : MM → Int64 → Prop} {M : MM} {tl : Int64} {f : Int32} (hI : Inv M) (hf0 : 0 ≤ f ∧ f ≤ 3) (hp : ∀ (M1 : MM) (t1 : Int64), Inv M1 → QF M M1 → (∀ x : Int32, 0 ≤ x → x ≤ 4095 → RO M1 (M 82 (65 : Int32).toNatClampNeg) f x) → post M1 t1) : wpX11_findRests post M tl f := by
  unfold wpX11_findRests
  obtain ⟨n, hn⟩ := sr_rest4 (post := post) (M0 := M) rfl (r82_65 hI) hf0 hp 4095 (by decide) (by decide)
  exact ⟨n, hn (by decide) _ _ hI fr_rfl (fun x x0 x1 => absurd x1 (by lia))⟩
/-- the least month that leads on -/
def fst_led (M : MM) (f u m : Int32) : Prop := led M f u m ∧ ∀ k, k < m → ¬ led M f u k
section PLAN
variable {post : Int32 → MM → Int64 → Prop} {M : MM} {tl : Int64} {W f what : Int32}
theorem sr_plan95 {bk : MM → Int64 → Int32 → Int32 → Int32 → Int32 → Int32 → Prop} {u j : Int32} (hI : Inv M) (hf0 : 0 ≤ f ∧ f ≤ 3) (hu : 0 ≤ u ∧ u ≤ 4095) (hj : j = bS u 12) (hj6 : j < 6) (hx : ∃ m, led M f u m) (hb : ∀ m : Int32, fst_led M f u m → bk M tl f what (tak u m) m (j + 1)) : ∀ v6 : Int32, -8 ≤ v6 → v6 ≤ 11 → ∃ n, -1 ≤ v6 → ∀ v4 : Int32, ((v4 = -4 ∧ ∀ k, v6 < k → ¬ led M f u k) ∨ (led M f u v4 ∧ ∀ k, v6 < k → k < v4 → ¬ led M f u k)) → wX11_plan_95 post bk n M tl f what u v4 j v6 := by
  have b := bS_ok hu
  refine dn_ex (P := fun d v6 => -1 ≤ v6 → ∀ v4 : Int32, ((v4 = -4 ∧ ∀ k, v6 < k → ¬ led M f u k) ∨ (led M f u v4 ∧ ∀ k, v6 < k → k < v4 → ¬ led M f u k)) → wX11_plan_95 post bk d M tl f what u v4 j v6) (-1) 11 (by decide) (by decide) ?_
  intro d v6 hlo hhi rc h1 v4 h4
  unfold wX11_plan_95
  refine ifs (fun c => ?_) (fun c => ?_)
  · refine hb v4 ?_
    rcases h4 with ⟨_, z⟩ | ⟨z, y⟩
    · obtain ⟨m, hm⟩ := hx
      exact absurd hm (z m (by have := hm.1; lia))
    · exact ⟨z, fun k q hk => y k (by have := hk.1; lia) q hk⟩
  · have rc := rc (by lia) (by lia)
    have no : ¬ led M f u v6 → wX11_plan_144 post bk (wX11_plan_95 post bk d) M tl f what u v4 j v6 := by
      intro hn
      unfold wX11_plan_144 wX11_plan_145
      refine ifp rfl ?_
      unfold wX11_plan_159
      refine rc _ ?_
      rcases h4 with ⟨e, z⟩ | ⟨e, z⟩
      · refine Or.inl ⟨e, fun k q => ?_⟩
        by_cases y : k = v6
        · subst y; exact hn
        · exact z k (by lia)
      · refine Or.inr ⟨e, fun k q => ?_⟩
        by_cases y : k = v6
        · subst y; exact fun _ => hn
        · exact z k (by lia)
    refine ifs (fun c2 => ?_) (fun c2 => no (fun z => c2 z.2.2.1))
    have t := tak_ok hu ⟨by lia, by lia⟩ c2
    refine sx_wantCost hI (by lia) (by lia) ?_
    refine And.intro (vpI (c := 4096) (by decide) (by lia) (by lia)) ?_
    refine And.intro (vpI (c := 4096) (by decide) (by lia) (by lia)) ?_
    refine ifs (fun c3 => ?_) (fun c3 => no (fun z => c3 (by rw [hj]; exact z.2.2.2)))
    unfold wX11_plan_145
    refine ifn (by decide) ?_
    unfold wX11_plan_159
    exact rc _ (Or.inr ⟨⟨by lia, by lia, c2, by rw [← hj]; exact c3⟩, fun k q z => absurd z (by lia)⟩)
theorem sr_plan78 (hI : Inv M) (hf0 : 0 ≤ f ∧ f ≤ 3) (hW : W ≤ 6) (hw : 10 ≤ what ∧ what ≤ 9 + W) (hr : ∀ x : Int32, 0 ≤ x → x ≤ 4095 → RO M W f x) (hp : ∀ r : Int32, post r M tl) : ∀ v5 : Int32, 0 ≤ v5 → v5 ≤ 6 → ∃ n, ∀ u v4 : Int32, 0 ≤ u → u ≤ 4095 → v5 = bS u 12 → wX11_plan_78 post n M tl f what u v4 v5 := by
  refine up_ex (P := fun d v5 => ∀ u v4 : Int32, 0 ≤ u → u ≤ 4095 → v5 = bS u 12 → wX11_plan_78 post d M tl f what u v4 v5) 0 6 ?_
  intro d v5 hlo hhi rc u v4 u0 u1 e
  unfold wX11_plan_78
  refine ifs (fun c => hp _) (fun c => ?_)
  have r := (hr u u0 u1).2 (by lia)
  obtain ⟨n, hn⟩ := sr_plan95 (post := post) (bk := wX11_plan_78 post d) (tl := tl) (what := what) (j := v5) hI hf0 ⟨u0, u1⟩ e (by lia) r.2.1 (fun m hm => by
    have t := tak_ok ⟨u0, u1⟩ ⟨hm.1.1, hm.1.2.1⟩ hm.1.2.2.1
    exact rc (by lia) _ _ (by lia) t.2.1 (by rw [t.2.2, e])) 11 (by decide) (by decide)
  exact ⟨n, hn (by decide) _ (Or.inl ⟨rfl, fun k q z => by have := z.2.1; lia⟩)⟩
end PLAN
theorem sf_X11_plan {post : Int32 → MM → Int64 → Prop} {M : MM} {tl : Int64} {v1 v2 : Int32} (hI : Inv M) (hp : ∀ (r : Int32) (M1 : MM) (t1 : Int64), Inv M1 → Fr [104] [] M M1 → True → post r M1 t1) : wpX11_plan post M tl v1 v2 := by
  have hW := r82_65 hI
  have key : (0 ≤ v1 ∧ v1 ≤ 3) → (v2 = 0 ∨ (10 ≤ v2 ∧ v2 ≤ 9 + M 82 (65 : Int32).toNatClampNeg)) → wX11_plan_40 post M tl v1 v2 := by
    intro h1 h2
    unfold wX11_plan_40
    refine And.intro (vpI (c := 381) (by decide) (by decide) (by decide)) ?_
    refine ifs (fun _ => hp _ _ _ hI fr_rfl trivial) (fun c => ?_)
    refine sr_rests hI h1 (fun M1 t1 i1 f1 r1 => ?_)
    refine ifs (fun c2 => ?_) (fun c2 => ?_)
    · refine And.intro (vpI (c := 4096) (by decide) (by decide) (by decide)) ?_
      exact hp _ _ _ i1 f1 trivial
    · obtain ⟨n, hn⟩ := sr_plan78 (post := post) (tl := t1) (what := v2) i1 h1 hW.2 (by lia) r1 (fun r => hp r _ _ i1 f1 trivial) 0 (by decide) (by decide)
      exact ⟨n, hn _ _ (by decide) (by decide) (by decide)⟩
  unfold wpX11_plan
  refine m_in (v := v1) (lo := 0) (hi := 3) rfl rfl rfl (fun a b => ?_) (fun a => ?_)
  · refine ifn (by decide) ?_
    refine ifs (fun c => key ⟨a, b⟩ (Or.inl c)) (fun c => ?_)
    refine And.intro (vpI (c := 381) (by decide) (by decide) (by decide)) ?_
    refine m_in (v := v2) (lo := 10) (hi := 9 + M 82 (65 : Int32).toNatClampNeg) rfl rfl rfl (fun a2 b2 => ?_) (fun a2 => ?_)
    · exact ifn (by decide) (key ⟨a, b⟩ (Or.inr ⟨a2, b2⟩))
    · exact ifp rfl (hp _ _ _ hI fr_rfl trivial)
  · exact ifp rfl (hp _ _ _ hI fr_rfl trivial)
