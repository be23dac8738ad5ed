/-! PLANS on both sides: the sums -/
theorem kB_lt {a b : Nat} (ha : a < 2000000) (hb : b < 2000000) : (nI a < nI b) ↔ a < b := by
  rw [Int32.lt_iff_toInt_lt, nI_sm (by omega), nI_sm (by omega)]; omega
theorem kB_le {a b : Nat} (ha : a < 2000000) (hb : b < 2000000) : (nI a ≤ nI b) ↔ a ≤ b := by
  rw [Int32.le_iff_toInt_le, nI_sm (by omega), nI_sm (by omega)]; omega
theorem kB_inj {a b : Nat} (ha : a < 2000000) (hb : b < 2000000) (h : nI a = nI b) : a = b := by
  have := congrArg Int32.toInt h
  rw [nI_sm (by omega), nI_sm (by omega)] at this
  omega
theorem tnB {i : Nat} (h : i < 2000000) : (nI i).toNatClampNeg = i := tn_of (nI_sm (by omega))
theorem mulB : ∀ a, a < 10 → ∀ b, b < 41 → nI a * nI b = nI (a * b) := by decide +kernel
theorem md4 : ∀ t, t < 16 → nI t - nI t / 4 * 4 = nI (t % 4) := by decide +kernel
theorem tkS : ∀ a, a < 16 → ∀ b, b < 16 → ∀ q, q < 4 → (nI (16 * a + b) >>> (((2 : Int32) * nI q) &&& 31)) &&& 3 = nI (dg (16 * a + b) q) ∧ (dg (16 * a + b) q = 3 ∨ (nI (16 * a + b) + ((1 : Int32) <<< (((2 : Int32) * nI q) &&& 31))) &&& 255 = nI (16 * a + b + 4 ^ q)) := by decide +kernel
theorem tk_s {s q : Nat} (hs : s < 256) (hq : q < 4) : (nI s >>> (((2 : Int32) * nI q) &&& 31)) &&& 3 = nI (dg s q) ∧ (dg s q < 3 → (nI s + ((1 : Int32) <<< (((2 : Int32) * nI q) &&& 31))) &&& 255 = nI (s + 4 ^ q)) := by
  have := tkS (s / 16) (by omega) (s % 16) (by omega) q hq
  rw [show 16 * (s / 16) + s % 16 = s by omega] at this
  exact ⟨this.1, fun z => this.2.resolve_left (by omega)⟩
theorem dg_le (s q : Nat) : dg s q ≤ 3 := by unfold dg; omega
/-- PRICES, what WANTS cost, how many there are -/
def PK (P C : Nat → Nat) (W : Nat) (N : MM) : Prop := N 82 65 = nI W ∧ (∀ q, q < 4 → N 84 q = nI (P q)) ∧ (∀ j, j < W → ∃ k t x y, k < 6 ∧ t < 6 ∧ N 82 (66 + (2 * j + 1)) = nI k ∧ N 88 k = nI t ∧ N 85 k = nI x ∧ N 85 (6 + t) = nI y ∧ x + y = C j)
theorem pk_keep {P C : Nat → Nat} {W : Nat} {N N1 : MM} (h : PK P C W N) (e : ∀ a, a ≠ 104 → N1 a = N a) : PK P C W N1 := by
  unfold PK
  rw [e 82 (by decide), e 84 (by decide), e 88 (by decide), e 85 (by decide)]
  exact h
def Rf (P C : Nat → Nat) (W f u : Nat) : Nat := if pcU u = W then 0 else if W < pcU u then 99999 else ob P C W (W - pcU u) (stU f u)
theorem i99 : (99999 : Int32) = nI 99999 := by decide
theorem i1m : (1000000 : Int32) = nI 1000000 := by decide
theorem rf_le {P C : Nat → Nat} {W f u : Nat} : Rf P C W f u ≤ 1000000 := by
  unfold Rf
  split
  · omega
  · split
    · omega
    · exact ob_le
section PLR
variable {P C : Nat → Nat} {W f : Nat} {u : Int64}
theorem el_wantCost {q : Int32 → MM → Int64 → Prop} {N : MM} {j t : Nat} (hP : ∀ q, q < 4 → P q ≤ 9) (hC : ∀ j, C j ≤ 40) (K : PK P C W N) (hW : W ≤ 6) (hj : j < W) (ht : t < 16) (h : wpX11_wantCost q N u (nI j) (nI t)) : q (nI (P (t % 4) * C j)) N u := by
  obtain ⟨_, k2, k3⟩ := K
  obtain ⟨k, tw, x, y, hk, htw, e1, e2, e3, e4, e5⟩ := k3 j hj
  unfold wpX11_wantCost at h
  have h := h.2.2.2.2.2
  have e6 : (6 : Int32) + nI tw = nI (6 + tw) := kI_add 6 tw
  rw [(ix66 j (by omega)).2, tn_nI (by omega), e1, md4 t ht, tn_nI (by omega), tn_nI (by omega), e2, e6, tn_nI (by omega), k2 _ (by omega), e3, e4, kI_add, e5, mulB _ (by have := hP (t % 4) (by omega); omega) _ (by have := hC j; omega)] at h
  exact h
def psm (x : Nat) : Nat → Nat → Nat
  | 0, _ => 0
  | d + 1, k => bt x k + psm x d (k + 1)
theorem el_bits4 {q : Int32 → MM → Int64 → Prop} {N : MM} {x : Nat} (hx : x < 4096) : ∀ (n d k c : Nat), k + d = 12 → wX11_bitsOf_4 q n N u (nI x) (nI c) (nI k) → q (nI (c + psm x d k)) N u := by
  intro n
  induction n with
  | zero => intro d k c _ h; exact h.elim
  | succ n ih =>
    intro d k c hd h
    unfold wX11_bitsOf_4 at h
    cases d with
    | zero =>
      have e : k = 12 := by omega
      subst e
      exact ip (by decide) h
    | succ d =>
    have h := iq (fun z => absurd ((kI_le (a := 12) (by omega) (by omega)).mp z) (by omega)) h
    rw [(bi_u hx (show k < 12 by omega)).1, kI_add, nI_s1] at h
    have := ih d (k + 1) _ (by omega) h
    rw [Nat.add_assoc] at this
    exact this
theorem el_bits {q : Int32 → MM → Int64 → Prop} {N : MM} {x : Nat} (hx : x < 4096) (h : wpX11_bitsOf q N u (nI x)) : q (nI (pcU x)) N u := by
  unfold wpX11_bitsOf at h
  obtain ⟨n, h⟩ := h
  have := el_bits4 hx n 12 0 0 (by omega) h
  have e : 0 + psm x 12 0 = pcU x := by
    simp only [psm, pcU, Nat.reduceAdd]
    omega
  rw [e] at this
  exact this
theorem el_bits2 {q : Int32 → MM → Int64 → Prop} {N : MM} {x : Nat} (hx : x < 4096) (h : wpX11_bitsOf q N u (nI x)) : ∃ j, j = pcU x ∧ q (nI j) N u := ⟨_, rfl, el_bits hx h⟩
/-- the months for one set -/
theorem fr_40 {p : MM → Int64 → Prop} {bk : MM → Int64 → Int32 → Int32 → Prop} {x : Nat} (hP : ∀ q, q < 4 → P q ≤ 9) (hC : ∀ j, C j ≤ 40) (hf : f < 4) (hW : W ≤ 6) (hx : x < 4096) (hj : pcU x < W) : ∀ (n m : Nat) (N : MM) (cur : Nat), m ≤ 12 → PK P C W N → N 104 x = nI cur → cur ≤ 99999 → (∀ y, x < y → y < 4096 → N 104 y = nI (Rf P C W f y)) → wX11_findRests_40 p bk n N u (nI f) (nI x) (nI (pcU x)) (nI m) → ∃ N1 c1, bk N1 u (nI f) (nI x + (-1)) ∧ N1 104 x = nI c1 ∧ (∀ y, y ≠ x → N1 104 y = N 104 y) ∧ (∀ a, a ≠ 104 → N1 a = N a) ∧ c1 ≤ cur ∧ (∀ y, m ≤ y → y < 12 → bt x y = 0 → c1 ≤ P ((f + y) % 4) * C (pcU x) + Rf P C W f (x + 2 ^ y)) ∧ (c1 = cur ∨ ∃ y, m ≤ y ∧ y < 12 ∧ bt x y = 0 ∧ c1 = P ((f + y) % 4) * C (pcU x) + Rf P C W f (x + 2 ^ y)) := by
  intro n
  induction n with
  | zero => intro m N cur _ _ _ _ _ h; exact h.elim
  | succ n ih =>
    intro m N cur hm K e cl su h
    unfold wX11_findRests_40 at h
    by_cases cc : m = 12
    · subst cc
      have h := ip (by decide) h
      unfold wX11_findRests_124 at h
      exact ⟨N, cur, h, e, fun _ _ => rfl, fun _ _ => rfl, Nat.le_refl _, fun y h1 h2 => absurd h2 (by omega), Or.inl rfl⟩
    · have m12 : m < 12 := by omega
      have h := (iq (fun z => absurd ((kI_le (a := 12) (by omega) (by omega)).mp z) (by omega)) h).2
      rw [show (65 : Int32).toNatClampNeg = 65 from by decide, K.1] at h
      have h := iq (fun z => absurd ((kI_le (by omega) (by omega)).mp z) (by omega)) h
      have bu := bi_u hx m12
      have b1 := bt_le x m
      rw [bu.1] at h
      by_cases cb : bt x m = 0
      · have h := ip (show nI (bt x m) = 0 by rw [cb]; rfl) h
        rw [kI_add] at h
        have h := (el_wantCost hP hC K hW hj (by omega) h).2.2
        have xl := bt_lt hx m12 cb
        have p2 : 0 < 2 ^ m := Nat.two_pow_pos m
        rw [bu.2 cb, tnB (by omega), tnB (by omega), e, su _ (by omega) xl, kI_add] at h
        have rl := rf_le (P := P) (C := C) (W := W) (f := f) (u := x + 2 ^ m)
        have pm : P ((f + m) % 4) * C (pcU x) ≤ 9 * 40 := Nat.mul_le_mul (hP _ (by omega)) (hC _)
        -- the number that stays
        have go : ∀ c2 : Nat, c2 ≤ 99999 → c2 ≤ cur → c2 ≤ P ((f + m) % 4) * C (pcU x) + Rf P C W f (x + 2 ^ m) → (c2 = cur ∨ c2 = P ((f + m) % 4) * C (pcU x) + Rf P C W f (x + 2 ^ m)) → wX11_findRests_117 p bk (wX11_findRests_40 p bk n) N u (nI f) (nI x) (nI (pcU x)) (nI m) (nI x) (nI c2) → ∃ N1 c1, bk N1 u (nI f) (nI x + (-1)) ∧ N1 104 x = nI c1 ∧ (∀ y, y ≠ x → N1 104 y = N 104 y) ∧ (∀ a, a ≠ 104 → N1 a = N a) ∧ c1 ≤ cur ∧ (∀ y, m ≤ y → y < 12 → bt x y = 0 → c1 ≤ P ((f + y) % 4) * C (pcU x) + Rf P C W f (x + 2 ^ y)) ∧ (c1 = cur ∨ ∃ y, m ≤ y ∧ y < 12 ∧ bt x y = 0 ∧ c1 = P ((f + y) % 4) * C (pcU x) + Rf P C W f (x + 2 ^ y)) := by
          intro c2 q1 q2 q3 q4 h
          unfold wX11_findRests_117 wX11_findRests_118 at h
          have h := h.2 _ rfl
          rw [tnB (by omega), nI_s1] at h
          obtain ⟨N1, c1, a1, a2, a3, a4, a5, a6, a7⟩ := ih (m + 1) _ c2 (by omega) (pk_keep K (fun a ha => mset_ne ha)) (mset_at _ _ _ _) q1 (fun y h1 h2 => by rw [mset_nk (by omega)]; exact su y h1 h2) h
          refine ⟨N1, c1, a1, a2, fun y hy => by rw [a3 y hy, mset_nk hy], fun a ha => by rw [a4 a ha, mset_ne ha], by omega, fun y h1 h2 h3 => ?_, ?_⟩
          · by_cases z : y = m
            · subst z; omega
            · exact a6 y (by omega) h2 h3
          · rcases a7 with z | ⟨y, y1, y2, y3, y4⟩
            · rcases q4 with w | w
              · exact Or.inl (z.trans w)
              · exact Or.inr ⟨m, by omega, m12, cb, z.trans w⟩
            · exact Or.inr ⟨y, by omega, y2, y3, y4⟩
        by_cases cv : nI cur ≤ nI (P ((f + m) % 4) * C (pcU x) + Rf P C W f (x + 2 ^ m))
        · have h := (ip cv h).2
          exact go cur cl (Nat.le_refl _) ((kB_le (by omega) (by omega)).mp cv) (Or.inl rfl) h
        · have lt : P ((f + m) % 4) * C (pcU x) + Rf P C W f (x + 2 ^ m) < cur := by
            rcases Nat.lt_or_ge (P ((f + m) % 4) * C (pcU x) + Rf P C W f (x + 2 ^ m)) cur with z | z
            · exact z
            · exact absurd ((kB_le (by omega) (by omega)).mpr z) cv
          exact go _ (by omega) (by omega) (Nat.le_refl _) (Or.inr rfl) (iq cv h)
      · have h := iq (show ¬ nI (bt x m) = 0 from fun z => cb (kI_inj (b := 0) (by omega) (by omega) z)) h
        unfold wX11_findRests_118 at h
        rw [nI_s1] at h
        obtain ⟨N1, c1, a1, a2, a3, a4, a5, a6, a7⟩ := ih (m + 1) N cur (by omega) K e cl su h
        refine ⟨N1, c1, a1, a2, a3, a4, a5, fun y h1 h2 h3 => ?_, ?_⟩
        · by_cases z : y = m
          · subst z; exact absurd h3 cb
          · exact a6 y (by omega) h2 h3
        · rcases a7 with z | ⟨y, y1, y2⟩
          · exact Or.inl z
          · exact Or.inr ⟨y, by omega, y2⟩
theorem pc_le (u : Nat) : pcU u ≤ 12 := by
  have l0 := bt_le u 0
  have l1 := bt_le u 1
  have l2 := bt_le u 2
  have l3 := bt_le u 3
  have l4 := bt_le u 4
  have l5 := bt_le u 5
  have l6 := bt_le u 6
  have l7 := bt_le u 7
  have l8 := bt_le u 8
  have l9 := bt_le u 9
  have l10 := bt_le u 10
  have l11 := bt_le u 11
  unfold pcU
  omega
/-- Rf of one more month -/
theorem rf_more {x m : Nat} (hf : f < 4) (hm : m < 12) (hb : bt x m = 0) (hj : pcU x < W) : Rf P C W f (x + 2 ^ m) = ob P C W (W - pcU x - 1) (stU f x + 4 ^ ((f + m) % 4)) := by
  unfold Rf
  rw [pc_add hm hb, st_add hf hm hb]
  by_cases z : pcU x + 1 = W
  · rw [if_pos z, show W - pcU x - 1 = 0 by omega]
    rfl
  · rw [if_neg z, if_neg (by omega), show W - (pcU x + 1) = W - pcU x - 1 by omega]
theorem rf_is {x c1 : Nat} (hP : ∀ q, q < 4 → P q ≤ 9) (hC : ∀ j, C j ≤ 40) (hf : f < 4) (hW : W ≤ 6) (hj : pcU x < W) (h1 : ∀ y, y < 12 → bt x y = 0 → c1 ≤ P ((f + y) % 4) * C (pcU x) + Rf P C W f (x + 2 ^ y)) (h2 : c1 = 99999 ∨ ∃ y, y < 12 ∧ bt x y = 0 ∧ c1 = P ((f + y) % 4) * C (pcU x) + Rf P C W f (x + 2 ^ y)) : c1 = Rf P C W f x := by
  have s := st_lt (f := f) (u := x) hf
  have er : Rf P C W f x = ob P C W (W - pcU x) (stU f x) := by
    unfold Rf
    rw [if_neg (by omega), if_neg (by omega)]
  have sm := ob_small (P := P) (C := C) (W := W) hP hC (W - pcU x) (stU f x) s.1 (by omega)
  obtain ⟨r, hr⟩ : ∃ r, W - pcU x = r + 1 := ⟨W - pcU x - 1, by omega⟩
  have cj : W - (r + 1) = pcU x := by omega
  rw [er]
  rw [hr] at sm ⊢
  obtain ⟨q, hq, hd, ea⟩ := ob_att (P := P) (C := C) (W := W) (r := r) (s := stU f x) (by omega)
  obtain ⟨m, hm, hb, hqm⟩ := st_fr hf hq hd
  have rm := rf_more (P := P) (C := C) (W := W) hf hm hb hj
  have a := h1 m hm hb
  rw [rm, hqm, show W - pcU x - 1 = r by omega] at a
  rw [cj] at ea
  rcases h2 with z | ⟨y, hy, hby, ey⟩
  · omega
  · have rm := rf_more (P := P) (C := C) (W := W) hf hy hby hj
    rw [rm, show W - pcU x - 1 = r by omega] at ey
    have lb := ob_lb (P := P) (C := C) (W := W) (r := r) (s := stU f x) (show (f + y) % 4 < 4 by omega) (st_dg hf hy hby)
    rw [cj] at lb
    omega
theorem nI_pr (x : Nat) : nI (x + 1) + (-1) = nI x := by
  rw [← nI_s1, Int32.add_assoc, show (1 : Int32) + (-1) = 0 from by decide]
  simp
theorem fr_4 {p : MM → Int64 → Prop} (hP : ∀ q, q < 4 → P q ≤ 9) (hC : ∀ j, C j ≤ 40) (hf : f < 4) (hW : W ≤ 6) : ∀ (n k : Nat) (N : MM) (i : Int32), i = nI k + (-1) → k ≤ 4096 → PK P C W N → (∀ y, k ≤ y → y < 4096 → N 104 y = nI (Rf P C W f y)) → wX11_findRests_4 p n N u (nI f) i → ∃ N1, p N1 u ∧ (∀ a, a ≠ 104 → N1 a = N a) ∧ ∀ y, y < 4096 → N1 104 y = nI (Rf P C W f y) := by
  intro n
  induction n with
  | zero => intro k N i _ _ _ _ h; exact h.elim
  | succ n ih =>
    intro k N i ei hk K su h
    unfold wX11_findRests_4 at h
    by_cases k0 : k = 0
    · subst k0; subst ei
      exact ⟨N, ip (by decide) h, fun _ _ => rfl, fun y hy => su y (by omega) hy⟩
    · obtain ⟨z, hz⟩ : ∃ z, k = z + 1 := ⟨k - 1, by omega⟩
      subst hz
      rw [ei, nI_pr] at h
      have x0 := nJ_ge0 (i := z) (by omega)
      obtain ⟨j, ej, h⟩ := el_bits2 (show z < 4096 by omega) (iq (show ¬ nI z < 0 by clear ih su K; lia) h)
      have h := h.2
      have pcl : j ≤ 12 := by rw [ej]; exact pc_le z
      rw [show (65 : Int32).toNatClampNeg = 65 from by decide, K.1] at h
      have fin : ∀ N1 : MM, (∀ y, y ≠ z → N1 104 y = N 104 y) → (∀ a, a ≠ 104 → N1 a = N a) → N1 104 z = nI (Rf P C W f z) → wX11_findRests_4 p n N1 u (nI f) (nI z + (-1)) → ∃ N1, p N1 u ∧ (∀ a, a ≠ 104 → N1 a = N a) ∧ ∀ y, y < 4096 → N1 104 y = nI (Rf P C W f y) := by
        intro N1 a1 a2 a3 h
        obtain ⟨N2, b1, b2, b3⟩ := ih z N1 _ rfl (by omega) (pk_keep K a2) (fun y h1 h2 => by
          by_cases w : y = z
          · subst w; exact a3
          · rw [a1 y w]; exact su y (by omega) h2) h
        exact ⟨N2, b1, fun a ha => by rw [b2 a ha, a2 a ha], b3⟩
      have done : ∀ c : Nat, c = Rf P C W f z → W ≤ j → wX11_findRests_36 p (wX11_findRests_4 p n) N u (nI f) (nI z) (nI j) (nI z) (nI c) → ∃ N1, p N1 u ∧ (∀ a, a ≠ 104 → N1 a = N a) ∧ ∀ y, y < 4096 → N1 104 y = nI (Rf P C W f y) := by
        intro c ec hw h
        unfold wX11_findRests_36 at h
        obtain ⟨x, h⟩ := h.2 _ rfl
        rw [tnB (by omega)] at h
        cases x with
        | zero => exact h.elim
        | succ x =>
        unfold wX11_findRests_40 at h
        have h := (iq (by decide) h).2
        rw [show (65 : Int32).toNatClampNeg = 65 from by decide, mset_ne (a := 104) (by decide), K.1] at h
        have h := ip ((kI_le (by omega) (by omega)).mpr hw) h
        unfold wX11_findRests_124 at h
        exact fin _ (fun y hy => mset_nk hy) (fun a ha => mset_ne ha) (by rw [mset_at, ec]) h
      by_cases c1 : nI j = nI W
      · have e := kI_inj (by omega) (by omega) c1
        refine done 0 ?_ (by omega) (ip c1 h)
        unfold Rf
        rw [← ej, if_pos e]
      · have e : j ≠ W := fun w => c1 (by rw [w])
        have h := iq c1 h
        rw [i99] at h
        by_cases c2 : W < j
        · refine done 99999 ?_ (by omega) h
          unfold Rf
          rw [← ej, if_neg e, if_pos c2]
        · unfold wX11_findRests_36 at h
          obtain ⟨x, h⟩ := h.2 _ rfl
          rw [tnB (by omega), ej] at h
          obtain ⟨N1, v, a1, a2, a3, a4, a5, a6, a7⟩ := fr_40 hP hC hf hW (show z < 4096 by omega) (by omega) x 0 _ 99999 (by omega) (pk_keep K (fun a ha => mset_ne ha)) (mset_at _ _ _ _) (Nat.le_refl _) (fun y h1 h2 => by rw [mset_nk (by omega)]; exact su y (by omega) h2) h
          refine fin N1 (fun y hy => by rw [a3 y hy, mset_nk hy]) (fun a ha => by rw [a4 a ha, mset_ne ha]) ?_ a1
          rw [a2]
          congr 1
          exact rf_is hP hC hf hW (by omega) (fun y h1 h2 => a6 y (by omega) h1 h2) (a7.imp id (fun ⟨y, _, y2, y3, y4⟩ => ⟨y, y2, y3, y4⟩))
theorem el_findRests {p : MM → Int64 → Prop} {N : MM} (hP : ∀ q, q < 4 → P q ≤ 9) (hC : ∀ j, C j ≤ 40) (hf : f < 4) (hW : W ≤ 6) (K : PK P C W N) (h : wpX11_findRests p N u (nI f)) : ∃ N1, p N1 u ∧ (∀ a, a ≠ 104 → N1 a = N a) ∧ ∀ y, y < 4096 → N1 104 y = nI (Rf P C W f y) := by
  unfold wpX11_findRests at h
  obtain ⟨n, h⟩ := h
  exact fr_4 hP hC hf hW n 4096 N _ (by decide) (by omega) K (fun y h1 h2 => absurd h2 (by omega)) h
end PLR
