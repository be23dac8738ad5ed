/-! A MONTH of a RUN on both sides -/
abbrev ftP (g : Nat → Int32) (m w0 w : Nat) : Prop := nI w < g 16 ∧ (g (17 + (4 * w + 0)) < nI m ∨ (g (17 + (4 * w + 0)) = nI m ∧ w < w0))
def RM (m : Nat) (g : Nat → Int32) (w0 : Nat) (M N : MM) : Prop := (RLS M N ∧ N 82 = g) ∧ (∀ s, s < 16 → M 43 s = N 98 s ∧ TT (N 98 s)) ∧ (∀ b, b < 2 → M 44 b = N 102 b) ∧ (∀ w, w < 12 → ftP g m w0 w → M 45 w = N 103 w) ∧ (∀ i, i < 8 → M 46 i = N 99 i ∧ (N 99 i = -4 ∨ N 99 i = 0 ∨ N 99 i = 1)) ∧ (∀ s, s < 16 → M 47 s = -4 ∨ (0 ≤ M 47 s ∧ M 47 s ≤ nI m)) ∧ (∀ s, s < 16 → (M 47 s = nI m ↔ N 100 s ≠ 0)) ∧ (∀ i, i < 8 → nI i < N 81 2 → ∀ j, j < 8 → mat N 0 (nI i) = nI j → (N 99 i ≠ -4 ↔ (N 101 i ≠ 0 ∨ N 100 i ≠ 0 ∨ N 100 (8 + j) ≠ 0)))
theorem mat_sym2 {N : MM} {i j : Nat} (l : 0 ≤ N 81 2 ∧ N 81 2 ≤ 8) (y : 0 ≤ N 81 3 ∧ N 81 3 ≤ 6) (hi : i < 8) (hj : j < 8) (li : nI i < N 81 2) (e : mat N 0 (nI i) = nI j) : mat N 1 (nI j) = nI i := by
  have i0 := nJ_ge0 (i := i) (by omega)
  have j0 := nJ_ge0 (i := j) (by omega)
  unfold mat matB at e ⊢
  rw [if_pos rfl] at e
  rw [if_neg (by decide)]
  split at e
  · rename_i c
    have : (nI j - N 81 3) + 3 = nI i := by rw [← e]; lia
    rw [this, if_pos ⟨i0, li⟩]
  · exfalso; rw [← e] at j0; exact absurd j0 (by decide)
theorem mat_eq {N N1 : MM} (e : N1 81 = N 81) (b i : Int32) : mat N1 b i = mat N b i := by unfold mat matB; rw [e]
theorem n4n {j : Nat} (hj : j < 1000) : nI j ≠ -4 := by
  intro z
  have := nJ_ge0 (i := j) (by omega)
  rw [z] at this
  exact absurd this (by decide)
theorem rm_w {m w : Nat} {g : Nat → Int32} {M N : MM} (h : RM m g w M N) (hm : ¬ (nI w < g 16 ∧ g (17 + (4 * w + 0)) = nI m)) : RM m g (w + 1) M N := by
  obtain ⟨h1, h2, h3, h4, h5⟩ := h
  refine ⟨h1, h2, h3, fun v hv y => h4 v hv ⟨y.1, ?_⟩, h5⟩
  rcases y.2 with z | z
  · exact Or.inl z
  · refine Or.inr ⟨z.1, ?_⟩
    rcases Nat.lt_or_ge v w with q | q
    · exact q
    · have e : v = w := by omega
      subst e
      exact absurd ⟨y.1, z.1⟩ hm
theorem rm_f {m w : Nat} {g : Nat → Int32} {M N : MM} (r : Int32) (h : RM m g w M N) : RM m g (w + 1) (mset M 45 w r) (mset N 103 w r) := by
  obtain ⟨⟨h1, h0⟩, h2, h3, h4, h5, h6, h7, h8⟩ := h
  refine ⟨⟨rls_r (rls_c h1 (by decide)) (by decide), by rw [mset_ne (by decide)]; exact h0⟩, ?_⟩
  rw [mset_ne (i := 43) (by decide), mset_ne (i := 98) (by decide), mset_ne (i := 44) (by decide), mset_ne (i := 102) (by decide), mset_ne (i := 46) (by decide), mset_ne (i := 99) (by decide), mset_ne (i := 47) (by decide), mset_ne (i := 100) (by decide), mset_ne (i := 81) (by decide), mset_ne (i := 101) (by decide)]
  refine ⟨h2, h3, fun v hv y => ?_, h5, h6, h7, fun i hi li j hj e => h8 i hi li j hj (by rw [← e]; exact (mat_eq (mset_ne (by decide)) _ _).symm)⟩
  rw [mset_if, mset_if]
  by_cases z : v = w
  · rw [if_pos ⟨rfl, z⟩, if_pos ⟨rfl, z⟩]
  · rw [if_neg (fun q => z q.2), if_neg (fun q => z q.2)]
    refine h4 v hv ⟨y.1, ?_⟩
    rcases y.2 with q | q
    · exact Or.inl q
    · exact Or.inr ⟨q.1, by omega⟩
section TW
variable {M N : MM} {m t c : Int32} {w b i : Nat}
theorem twC_43 (s : Nat) : twC M m b i t c 43 s = if s = 8 * b + i then t else M 43 s := by
  unfold twC
  rw [mset_ne (by decide), mset_if, mset_ne (by decide)]
  simp
theorem twC_44 (x : Nat) : twC M m b i t c 44 x = if x = b then M 44 b + c else M 44 x := by
  unfold twC
  rw [mset_ne (by decide), mset_ne (by decide), mset_if]
  simp
theorem twC_47 (s : Nat) : twC M m b i t c 47 s = if s = 8 * b + i then m else M 47 s := by
  unfold twC
  rw [mset_if, mset_ne (by decide), mset_ne (by decide)]
  simp
theorem twC_o {a : Nat} (h1 : a ≠ 43) (h2 : a ≠ 44) (h3 : a ≠ 47) : twC M m b i t c a = M a := by
  unfold twC
  rw [mset_ne h3, mset_ne h1, mset_ne h2]
theorem twR_98 (s : Nat) : twR N w b i t c 98 s = if s = 8 * b + i then t else N 98 s := by
  unfold twR
  rw [mset_ne (by decide), mset_if, mset_ne (by decide), mset_ne (by decide)]
  simp
theorem twR_102 (x : Nat) : twR N w b i t c 102 x = if x = b then N 102 b + c else N 102 x := by
  unfold twR
  rw [mset_ne (by decide), mset_ne (by decide), mset_if, mset_ne (by decide)]
  simp
theorem twR_100 (s : Nat) : twR N w b i t c 100 s = if s = 8 * b + i then 1 else N 100 s := by
  unfold twR
  rw [mset_if, mset_ne (by decide), mset_ne (by decide), mset_ne (by decide)]
  simp
theorem twR_103 (x : Nat) : twR N w b i t c 103 x = if x = w then 0 else N 103 x := by
  unfold twR
  rw [mset_ne (by decide), mset_ne (by decide), mset_ne (by decide), mset_if]
  simp
theorem twR_o {a : Nat} (h1 : a ≠ 98) (h2 : a ≠ 100) (h3 : a ≠ 102) (h4 : a ≠ 103) : twR N w b i t c a = N a := by
  unfold twR
  rw [mset_ne h2, mset_ne h1, mset_ne h3, mset_ne h4]
end TW
/-- a WORK done, and where the pair's LATEST stands -/
theorem rm_tw {m w b i : Nat} {t c : Int32} {g : Nat → Int32} {M N M1 N1 : MM} (h : RM m g w M N) (hm : m < 24) (hb : b < 2) (hi : i < 8) (li : nI i < N 81 2) (ht : TT t) (eM : ∀ a, a ≠ 45 → a ≠ 46 → M1 a = twC M (nI m) b i t c a) (e45 : M1 45 = mset M 45 w 0 45) (eN : ∀ a, a ≠ 99 → N1 a = twR N w b i t c a) (hj : (mat N (nI b) (nI i) = -4 ∧ M1 46 = M 46 ∧ N1 99 = N 99) ∨ ∃ j, j < 8 ∧ mat N (nI b) (nI i) = nI j ∧ M1 46 = mset M 46 (pLot b i j) (nI b) 46 ∧ N1 99 = mset N 99 (pLot b i j) (nI b) 99) : RM m g (w + 1) M1 N1 := by
  obtain ⟨⟨h1, h0⟩, h2, h3, h4, h5, h6, h7, h8⟩ := h
  have l := rl_lots h1.1
  have y := rl_bend h1.1
  have n82 : N1 82 = N 82 := by rw [eN 82 (by decide), twR_o (by decide) (by decide) (by decide) (by decide)]
  have n81 : N1 81 = N 81 := by rw [eN 81 (by decide), twR_o (by decide) (by decide) (by decide) (by decide)]
  have n101 : N1 101 = N 101 := by rw [eN 101 (by decide), twR_o (by decide) (by decide) (by decide) (by decide)]
  refine ⟨⟨rls_eq h1 (fun a ha => ?_) (fun a ha => ?_), by rw [n82]; exact h0⟩, fun s hs => ?_, fun x hx => ?_, fun v hv yv => ?_, fun x hx => ?_, fun s hs => ?_, fun s hs => ?_, fun x hx lx z hz ez => ?_⟩
  · rw [eM a (by intro q; subst q; exact absurd ha (by decide)) (by intro q; subst q; exact absurd ha (by decide)), twC_o (by intro q; subst q; exact absurd ha (by decide)) (by intro q; subst q; exact absurd ha (by decide)) (by intro q; subst q; exact absurd ha (by decide))]
  · rw [eN a (by intro q; subst q; exact absurd ha (by decide)), twR_o (by intro q; subst q; exact absurd ha (by decide)) (by intro q; subst q; exact absurd ha (by decide)) (by intro q; subst q; exact absurd ha (by decide)) (by intro q; subst q; exact absurd ha (by decide))]
  · rw [eM 43 (by decide) (by decide), eN 98 (by decide), twC_43, twR_98]
    split
    · exact ⟨rfl, ht⟩
    · exact h2 s hs
  · rw [eM 44 (by decide) (by decide), eN 102 (by decide), twC_44, twR_102, h3 b hb, h3 x hx]
  · rw [e45, eN 103 (by decide), twR_103, mset_if]
    by_cases z : v = w
    · rw [if_pos ⟨rfl, z⟩, if_pos z]
    · rw [if_neg (fun q => z q.2), if_neg z]
      refine h4 v hv ⟨yv.1, ?_⟩
      rcases yv.2 with q | q
      · exact Or.inl q
      · exact Or.inr ⟨q.1, by omega⟩
  · rcases hj with ⟨_, f1, f2⟩ | ⟨j, hj, ej, f1, f2⟩
    · rw [f1, f2]; exact h5 x hx
    · rw [f1, f2, mset_if, mset_if]
      by_cases z : x = pLot b i j
      · rw [if_pos ⟨rfl, z⟩, if_pos ⟨rfl, z⟩]
        refine ⟨rfl, Or.inr ?_⟩
        rcases (by omega : b = 0 ∨ b = 1) with e | e <;> subst e
        · exact Or.inl rfl
        · exact Or.inr rfl
      · rw [if_neg (fun q => z q.2), if_neg (fun q => z q.2)]
        exact h5 x hx
  · rw [eM 47 (by decide) (by decide), twC_47]
    split
    · exact Or.inr ⟨nJ_ge0 (by omega), (kI_le (by omega) (by omega)).mpr (by omega)⟩
    · exact h6 s hs
  · rw [eM 47 (by decide) (by decide), twC_47, eN 100 (by decide), twR_100]
    split
    · simp
    · exact h7 s hs
  · rw [n81] at lx
    rw [mat_eq n81] at ez
    rw [n101, eN 100 (by decide), twR_100, twR_100]
    have h8 := h8 x hx lx z hz ez
    rcases hj with ⟨u4, f1, f2⟩ | ⟨j, hj, ej, f1, f2⟩
    · rw [f2, if_neg, if_neg]
      · exact h8
      · intro q
        rcases (by omega : b = 0 ∨ b = 1) with e | e <;> subst e
        · omega
        · have : z = i := by omega
          subst this
          rw [show (nI 1 : Int32) = 1 from rfl, mat_sym2 l y hx hz lx ez] at u4
          exact n4n (by omega) u4
      · intro q
        rcases (by omega : b = 0 ∨ b = 1) with e | e <;> subst e
        · have : x = i := by omega
          subst this
          rw [show (nI 0 : Int32) = 0 from rfl, ez] at u4
          exact n4n (by omega) u4
        · omega
    · rw [f2, mset_if]
      rcases (by omega : b = 0 ∨ b = 1) with e | e <;> subst e
      · by_cases q : x = i
        · subst q
          rw [if_pos ⟨rfl, rfl⟩, if_pos (by omega)]
          exact ⟨fun _ => Or.inr (Or.inl (by decide)), fun _ => n4n (by omega)⟩
        · rw [if_neg (fun y => q y.2), if_neg (by omega), if_neg (by omega)]
          exact h8
      · have sy := mat_sym l y hi hj li ej
        by_cases q : x = j
        · subst q
          rw [sy] at ez
          have : i = z := kI_inj (by omega) (by omega) ez
          subst this
          rw [if_pos ⟨rfl, rfl⟩, if_pos (c := 8 + i = 8 * 1 + i) (by omega)]
          exact ⟨fun _ => Or.inr (Or.inr (by decide)), fun _ => n4n (by omega)⟩
        · have q2 : z ≠ i := fun q2 => by
            subst q2
            have s2 := mat_sym2 l y hx hz lx ez
            have ej : mat N 1 (nI z) = nI j := ej
            rw [ej] at s2
            exact q (kI_inj (by omega) (by omega) s2).symm
          rw [if_neg (fun y => q y.2), if_neg (by omega), if_neg (by omega)]
          exact h8
/-- a WORK of this month, on both sides -/
theorem st_work {m w : Nat} {g : Nat → Int32} {KA KB : MM → Int64 → Prop} {M N : MM} {tl u : Int64} {c1 : Prop} (hm : m < 24) (hw : w < 12) (h : RM m g w M N) (hs : nI w < g 16) (hA : wpX6_tryWork (fun r M1 t1 => (c1 ∧ (∀ M17 : MM, M17 = mset M1 45 (nI w : Int32).toNatClampNeg r → KA M17 t1))) M tl (nI m) (M 17 (4 * w + 1)) (M 17 (4 * w + 2)) (M 17 (4 * w + 3))) (hB : wpX11_works KB N u (nI w)) : ∃ M1 N1, KA M1 tl ∧ KB N1 u ∧ RM m g (w + 1) M1 N1 := by
  have H := h
  obtain ⟨⟨h1, h0⟩, h2, h3, h4, h5, h6, h7, h8⟩ := h
  obtain ⟨R, S, sd⟩ := h1
  have l := rl_lots R
  rw [← h0] at hs
  obtain ⟨s1, s2, s3⟩ := S.2.1.2 w hw hs
  rw [s1 1 (by omega), s1 2 (by omega), s1 3 (by omega)] at hA
  have db := sd (17 + (4 * w + 1))
  have di := sd (17 + (4 * w + 2))
  rw [Nat.mod_eq_of_lt (by omega)] at db di
  unfold sdom at db di
  rw [if_neg (by omega), if_neg (by omega), if_pos (by omega), if_neg (by omega), if_pos (by omega)] at db
  rw [if_neg (by omega), if_neg (by omega), if_pos (by omega), if_neg (by omega), if_neg (by omega), if_pos (by omega)] at di
  obtain ⟨b, hb, eb⟩ := cdN 2 (by omega) db.1 (show _ < (2 : Int32) by lia)
  obtain ⟨i, hi, ei⟩ := cdN 8 (by omega) di.1 (show _ < (8 : Int32) by lia)
  obtain ⟨k, hk, k1, k2, _⟩ := tt_k s2
  rw [eb, ei] at hA
  rw [ei] at s3
  have A := el_tryWork hb hi s3 s2 hk k2 R hA
  have B := el_works hw hb hi s2 hk k1 eb ei rfl R hB
  by_cases q : mbP N b (nI i) k
  · have A := A.2 q
    have B := B.2 q
    by_cases q2 : mat N (nI b) (nI i) = -4
    · have A := (A.1 q2).2 _ rfl
      rw [tn_nI (by omega)] at A
      refine ⟨_, _, A, B.1 q2, rm_tw H hm hb hi s3 s2 (fun a z1 z2 => mset_ne z1) ?_ (fun a _ => rfl) (Or.inl ⟨q2, ?_, ?_⟩)⟩
      · funext x
        rw [mset_if, mset_if, twC_o (by decide) (by decide) (by decide)]
      · rw [mset_ne (by decide), twC_o (by decide) (by decide) (by decide)]
      · rw [twR_o (by decide) (by decide) (by decide) (by decide)]
    · obtain ⟨j, hj, ej, lj⟩ := mat_n l q2
      have A := A.2 j hj ej
      have B := B.2 j hj ej
      have x1 := h7 (8 * (1 - b) + j) (by omega)
      have x2 := (h2 (8 * (1 - b) + j) (by omega)).1
      rw [x1, x2] at A
      by_cases q3 : N 100 (8 * (1 - b) + j) ≠ 0 ∧ mirF N (N 82 (17 + (4 * w + 3))) ≠ N 98 (8 * (1 - b) + j)
      · have A := (A.1 q3).2 _ rfl
        rw [tn_nI (by omega)] at A
        exact ⟨_, _, A, B.1 q3, rm_f 1 H⟩
      · have A := (A.2 q3).2 _ rfl
        rw [tn_nI (by omega)] at A
        refine ⟨_, _, A, B.2 q3, rm_tw H hm hb hi s3 s2 (fun a z1 z2 => by rw [mset_ne z1, mset_ne z2]) ?_ (fun a z => mset_ne z) (Or.inr ⟨j, hj, ej, ?_, ?_⟩)⟩
        · funext x
          rw [mset_if, mset_if (a := 45), mset_ne (a := 46) (by decide), twC_o (by decide) (by decide) (by decide)]
        · funext x
          rw [mset_ne (by decide), mset_if, mset_if, twC_o (by decide) (by decide) (by decide)]
        · funext x
          rw [mset_if, mset_if, twR_o (by decide) (by decide) (by decide) (by decide)]
  · have A := (A.1 q).2 _ rfl
    rw [tn_nI (by omega)] at A
    exact ⟨_, _, A, B.1 q, rm_f 2 H⟩
/-- the WORKS of a month -/
theorem lp_works {m : Nat} {g : Nat → Int32} {p q : MM → Int64 → Prop} {tl u : Int64} (hm : m < 24) : ∀ (n n' w : Nat) (M N : MM), w ≤ 12 → RM m g w M N → wX6_runMonth_10 p n M tl (nI m) (nI w) → wX11_goMonth_23 q n' N u (nI m) (nI w) → ∃ M1 N1, RM m g 12 M1 N1 ∧ (∃ k, wX6_runMonth_71 p k M1 tl (nI m) 0) ∧ ∃ k, wX11_goMonth_62 q k N1 u 0 := by
  intro n
  induction n with
  | zero => intro n' w M N _ _ h; exact h.elim
  | succ n ih =>
    intro n' w M N hw h hA hB
    cases n' with
    | zero => exact hB.elim
    | succ n' =>
    have H := h
    obtain ⟨⟨h1, h0⟩, _⟩ := h
    obtain ⟨R, S, sd⟩ := h1
    have e16 : M 16 3 = N 82 16 := S.2.1.1
    have d16 : 0 ≤ N 82 16 ∧ N 82 16 ≤ 12 := sd 16
    unfold wX6_runMonth_10 at hA
    unfold wX11_goMonth_23 at hB
    have hB := hB.2
    have tn16 : (16 : Int32).toNatClampNeg = 16 := by decide
    rw [tn16] at hB
    by_cases c : N 82 16 ≤ nI w
    · have hA := ip (show M 16 3 ≤ nI w by rw [e16]; exact c) hA
      have hB := ip c hB
      unfold wX6_runMonth_69 at hA
      refine ⟨M, N, ?_, hA, hB⟩
      obtain ⟨k1, k2, k3, k4, k5⟩ := H
      refine ⟨k1, k2, k3, fun v hv y => k4 v hv ⟨y.1, ?_⟩, k5⟩
      rcases y.2 with z | z
      · exact Or.inl z
      · refine Or.inr ⟨z.1, ?_⟩
        have y1 := y.1
        rw [← h0] at y1
        exact (kI_lt (by omega) (by omega)).mp (by clear k1 k2 k3 k4 k5 R S sd; lia)
    · have w12 : w < 12 := by
        rcases Nat.lt_or_ge w 12 with z | z
        · exact z
        · have e : w = 12 := by omega
          subst e
          exact absurd d16.2 c
      have ws : nI w < N 82 16 := by clear R S sd H ih; lia
      have hA := iq (fun z => absurd ((kI_le (a := 12) (by omega) (by omega)).mp z) (by omega)) (iq (show ¬ M 16 3 ≤ nI w by rw [e16]; exact c) hA)
      have hB := (iq c hB).2
      have x := ix17b w w12
      rw [x.1, tn_nI (by omega)] at hB
      have cell : ∀ {pp : Int32 → MM → Int64 → Prop} (c : Nat), c < 4 → wpX5_cell pp M tl 16 (nI w) (nI c) → pp (M 17 (4 * w + c)) M tl := fun c hc h => (el_cell (by decide) (by omega) hc (by omega) h).1 (by rw [e16]; exact ws)
      have hA := cell 0 (by omega) hA
      obtain ⟨s1, s2, s3⟩ := S.2.1.2 w w12 ws
      have m0 : M 17 (4 * w + 0) = N 82 (17 + (4 * w + 0)) := s1 0 (by omega)
      by_cases cm : N 82 (17 + (4 * w + 0)) = nI m
      · have hA := cell 3 (by omega) (cell 2 (by omega) (cell 1 (by omega) (ip (m0.trans cm) hA)))
        have hB := ip cm hB
        obtain ⟨M1, N1, a, b, r⟩ := st_work hm w12 H (by rw [← h0]; exact ws) hA hB
        unfold wX6_runMonth_63 at a
        unfold wX11_goMonth_54 at b
        rw [nI_s1] at a b
        exact ih n' (w + 1) M1 N1 (by omega) r a b
      · have hA := iq (show ¬ M 17 (4 * w + 0) = nI m by rw [m0]; exact cm) hA
        have hB := iq cm hB
        unfold wX6_runMonth_63 at hA
        unfold wX11_goMonth_54 at hB
        rw [nI_s1] at hA hB
        exact ih n' (w + 1) M N (by omega) (rm_w H (by rw [← h0]; exact fun z => cm z.2)) hA hB
