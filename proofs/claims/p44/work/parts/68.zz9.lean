/-! LINE work -/
theorem btp_wrM {P P' : MM → Prop} {M N V : MM} (h : BtP P M N) (iV : Inv V) (r97 : V 97 = N 97) (r81 : ∀ j, 31 ≤ j → j ≤ 37 → V 81 j = N 81 j) (hd : M 22 2 = 0 → P N → P' V) : BtP P' M V := by
  refine ⟨iV, tp_eq h.2.1 rfl rfl (r81 31 (by decide) (by decide)) r97, ?_⟩
  rcases h.2.2 with ⟨a, b, d⟩ | z
  · refine Or.inl ⟨a, ?_, fun z => ?_⟩
    · rw [r81 33 (by decide) (by decide), r81 32 (by decide) (by decide), r81 34 (by decide) (by decide), r81 35 (by decide) (by decide), r81 36 (by decide) (by decide), r81 37 (by decide) (by decide)]
      exact b
    · rw [r81 36 (by decide) (by decide)] at z
      exact hd a (d z)
  · exact Or.inr ⟨z.1, by rw [r81 36 (by decide) (by decide)]; exact z.2.1, by rw [r81 37 (by decide) (by decide)]; exact z.2.2⟩
/-- the reference within a work: its first cells stand (vs), its lot is counted (hl) or not yet -/
def PW (M : MM) (tl : Int64) (n : Nat) (hl : Int32 → Int32) (vs : List Int32) (N : MM) : Prop := ∃ N0 : MM, D M tl N0 ∧ (∀ a ∈ dRR, a ≠ 90 → N a = N0 a) ∧ (∀ j ∈ dRJ, j ≠ 29 → N 81 j = N0 81 j) ∧ N 81 29 = hl (N0 81 29) ∧ (∀ x, (x < 17 + 4 * n ∨ 21 + 4 * n ≤ x) → N 90 x = N0 90 x) ∧ ∀ c, c < vs.length → N 90 (17 + 4 * n + c) = vs.getD c 0
theorem pw_nx {M : MM} {tl : Int64} {n : Nat} {hl : Int32 → Int32} {vs : List Int32} : NxS (PW M tl n hl vs) := by
  intro N N1 f ⟨N0, d, e1, e2, e3, e4, e5⟩
  have r90 : N1 90 = N 90 := nxf_row f (by decide)
  refine ⟨N0, d, fun a ha hn => ?_, fun j hj h2 => ?_, ?_, fun x hx => by rw [r90]; exact e4 x hx, fun c hc => by rw [r90]; exact e5 c hc⟩
  · rw [nxf_row f (by intro q; subst q; exact absurd ha (by decide))]; exact e1 a ha hn
  · rw [f 81 j (by simp) (drj_nx j hj)]; exact e2 j hj h2
  · rw [f 81 29 (by simp) (drj_nx 29 (by decide))]; exact e3
/-- the next cell -/
theorem pw_set {M : MM} {tl : Int64} {n : Nat} {hl : Int32 → Int32} {vs : List Int32} {N : MM} {v : Int32} (hl4 : vs.length < 4) (h : PW M tl n hl vs N) : PW M tl n hl (vs ++ [v]) (mset N 90 (17 + 4 * n + vs.length) v) := by
  obtain ⟨N0, d, e1, e2, e3, e4, e5⟩ := h
  refine ⟨N0, d, fun a ha hn => by rw [mset_ne hn]; exact e1 a ha hn, fun j hj h2 => by rw [mset_ne (by decide)]; exact e2 j hj h2, by rw [mset_ne (by decide)]; exact e3, fun x hx => by rw [mset_nk (by omega)]; exact e4 x hx, fun c hc => ?_⟩
  rw [List.length_append, List.length_singleton] at hc
  by_cases q : c = vs.length
  · subst q
    rw [mset_at, List.getD_eq_getElem?_getD, List.getElem?_append_right (by omega), Nat.sub_self]
    rfl
  · rw [mset_nk (by omega), e5 c (by omega), List.getD_eq_getElem?_getD, List.getD_eq_getElem?_getD, List.getElem?_append_left (by omega)]
theorem pw_0 {M : MM} {tl : Int64} {n : Nat} {N : MM} (h : D M tl N) : PW M tl n id [] N := ⟨N, h, fun _ _ _ => rfl, fun _ _ _ => rfl, rfl, fun _ _ => rfl, fun c hc => absurd hc (by simp)⟩
theorem pw_29 {M : MM} {tl : Int64} {n : Nat} {vs : List Int32} {N V : MM} {i : Int32} (h : PW M tl n id vs N) (e : V = mset N 81 29 (mx (N 81 29) i)) : PW M tl n (fun h0 => mx h0 i) vs V := by
  obtain ⟨N0, d, e1, e2, e3, e4, e5⟩ := h
  have e3 : N 81 29 = N0 81 29 := e3
  refine ⟨N0, d, fun a ha hn => ?_, fun j hj h2 => by rw [e, mset_nk h2]; exact e2 j hj h2, by rw [e, mset_at, e3], fun x hx => by rw [e, mset_ne (by decide)]; exact e4 x hx, fun c hc => by rw [e, mset_ne (by decide)]; exact e5 c hc⟩
  rw [e, mset_ne (by intro z; subst z; exact absurd ha (by decide))]; exact e1 a ha hn
/-- the class's row -/
def wrow (M : MM) (n : Nat) (m b i t : Int32) : MM := mset (mset (mset (mset (mset M 36 3 (nI (n + 1))) 37 (4 * n) m) 37 (4 * n + 1) b) 37 (4 * n + 2) i) 37 (4 * n + 3) t
theorem wrow_37 (M : MM) (n : Nat) (m b i t : Int32) (x : Nat) : wrow M n m b i t 37 x = if x = 4 * n + 3 then t else if x = 4 * n + 2 then i else if x = 4 * n + 1 then b else if x = 4 * n then m else M 37 x := by
  unfold wrow
  rw [mset_if]
  by_cases e1 : x = 4 * n + 3
  · rw [if_pos ⟨rfl, e1⟩, if_pos e1]
  rw [if_neg (fun z => e1 z.2), if_neg e1, mset_if]
  by_cases e2 : x = 4 * n + 2
  · rw [if_pos ⟨rfl, e2⟩, if_pos e2]
  rw [if_neg (fun z => e2 z.2), if_neg e2, mset_if]
  by_cases e3 : x = 4 * n + 1
  · rw [if_pos ⟨rfl, e3⟩, if_pos e3]
  rw [if_neg (fun z => e3 z.2), if_neg e3, mset_if]
  by_cases e4 : x = 4 * n
  · rw [if_pos ⟨rfl, e4⟩, if_pos e4]
  rw [if_neg (fun z => e4 z.2), if_neg e4, mset_ne (by decide)]
theorem wrow_ne {M : MM} {n : Nat} {m b i t : Int32} {a : Nat} (h1 : a ≠ 36) (h2 : a ≠ 37) : wrow M n m b i t a = M a := by
  unfold wrow
  rw [mset_ne h2, mset_ne h2, mset_ne h2, mset_ne h2, mset_ne h1]
theorem wrow_36 (M : MM) (n : Nat) (m b i t : Int32) : wrow M n m b i t 36 3 = nI (n + 1) := by
  unfold wrow
  rw [mset_ne (by decide), mset_ne (by decide), mset_ne (by decide), mset_ne (by decide), mset_at]
theorem d_work {M N : MM} {tl : Int64} {n : Nat} {m b i t : Int32} (hn : n < 12) (e3 : M 36 3 = nI n) (h : PW M tl n (fun h0 => mx h0 i) [m, b, i, t] N) : D (wrow M n m b i t) tl (mset N 90 16 (nI (n + 1))) := by
  obtain ⟨N0, ⟨hl, hv, hs, ht, hh⟩, y1, y2, y3, y4, y5⟩ := h
  have f81 : ∀ j ∈ dRJ, j ≠ 29 → mset N 90 16 (nI (n + 1)) 81 j = N0 81 j := fun j hj h2 => by rw [mset_ne (by decide)]; exact y2 j hj h2
  have ra : ∀ a ∈ dRR, a ≠ 90 → mset N 90 16 (nI (n + 1)) a = N0 a := fun a ha h90 => by rw [mset_ne h90]; exact y1 a ha h90
  have lt : ∀ w, w < 12 → (nI w < nI (n + 1) ↔ w < n + 1) := fun w hw => by rw [Int32.lt_iff_toInt_lt, nI_sm (by omega), nI_sm (by omega)]; omega
  have lt0 : ∀ w, w < 12 → (nI w < nI n ↔ w < n) := fun w hw => by rw [Int32.lt_iff_toInt_lt, nI_sm (by omega), nI_sm (by omega)]; omega
  refine ⟨?_, ?_, ?_, ?_, ?_⟩
  · unfold Dlaw at hl ⊢
    rw [wrow_ne (a := 23) (by decide) (by decide), wrow_ne (a := 24) (by decide) (by decide), wrow_ne (a := 26) (by decide) (by decide), wrow_ne (a := 27) (by decide) (by decide), wrow_ne (a := 29) (by decide) (by decide), wrow_ne (a := 30) (by decide) (by decide), wrow_ne (a := 31) (by decide) (by decide), wrow_ne (a := 32) (by decide) (by decide), wrow_ne (a := 33) (by decide) (by decide), f81 13 (by decide) (by decide), f81 14 (by decide) (by decide), f81 15 (by decide) (by decide), f81 22 (by decide) (by decide), ra 91 (by decide) (by decide), ra 92 (by decide) (by decide), ra 93 (by decide) (by decide), ra 94 (by decide) (by decide), ra 95 (by decide) (by decide), ra 96 (by decide) (by decide)]
    exact hl
  · exact dinv_eq hv (ra 94 (by decide) (by decide)) (ra 95 (by decide) (by decide)) (f81 27 (by decide) (by decide))
  · obtain ⟨h1, h2, h3⟩ := hs
    rw [e3] at h2 h3
    refine ⟨fun s hs => ?_, ?_, fun w c hw h4 hc => ?_⟩
    · rw [wrow_ne (by decide) (by decide), mset_nk (by omega), y4 s (by omega)]; exact h1 s hs
    · rw [wrow_36, mset_at]
    · rw [wrow_36, lt w hw] at h4
      rw [wrow_37, mset_nk (by omega)]
      by_cases q : w = n
      · subst q
        have g := y5 c (by show c < 4; omega)
        rw [show 17 + 4 * w + c = 17 + 4 * w + c from rfl, g]
        rcases (by omega : c = 0 ∨ c = 1 ∨ c = 2 ∨ c = 3) with z | z | z | z <;> subst z
        · rw [if_neg (by omega), if_neg (by omega), if_neg (by omega), if_pos (by omega)]; rfl
        · rw [if_neg (by omega), if_neg (by omega), if_pos rfl]; rfl
        · rw [if_neg (by omega), if_pos rfl]; rfl
        · rw [if_pos rfl]; rfl
      · rw [if_neg (by omega), if_neg (by omega), if_neg (by omega), if_neg (by omega), y4 _ (by omega)]
        exact h3 w c hw ((lt0 w hw).mpr (by omega)) hc
  · exact dt_eq ht (fun j h1 h2 => f81 j (by rcases (by omega : j = 23 ∨ j = 24 ∨ j = 25 ∨ j = 26 ∨ j = 27 ∨ j = 28) with y | y | y | y | y | y <;> subst y <;> decide) (by omega))
  · obtain ⟨h1, h2, h3⟩ := hh
    rw [e3] at h2 h3
    have mm := mx_l (N0 81 29) i
    have e29 : mset N 90 16 (nI (n + 1)) 81 29 = mx (N0 81 29) i := by rw [mset_ne (by decide)]; exact y3
    unfold DH
    rw [wrow_36, e29]
    refine ⟨fun b' i' hb' hi' q => ?_, fun w hw h4 => ?_, ?_⟩
    · have := h1 b' i' hb' hi' q
      clear h1 h2 h3 lt lt0; lia
    · rw [lt w hw] at h4
      rw [wrow_37]
      by_cases q : w = n
      · subst q
        rw [if_neg (by omega), if_pos rfl]; exact mm.2
      · rw [if_neg (by omega), if_neg (by omega), if_neg (by omega), if_neg (by omega)]
        have := h2 w hw ((lt0 w hw).mpr (by omega))
        clear h1 h2 h3 lt lt0; lia
    · rcases mx_or (N0 81 29) i with z | z
      · rw [z]
        rcases h3 with y | y | ⟨w, hw, h4, y⟩
        · exact Or.inl y
        · exact Or.inr (Or.inl y)
        · rw [lt0 w hw] at h4
          exact Or.inr (Or.inr ⟨w, hw, (lt w hw).mpr (by omega), by rw [wrow_37, if_neg (by omega), if_neg (by omega), if_neg (by omega), if_neg (by omega)]; exact y⟩)
      · exact Or.inr (Or.inr ⟨n, hn, (lt n hn).mpr (by omega), by rw [wrow_37, if_neg (by omega), if_pos rfl]; exact z.symm⟩)
theorem ix_4 {n c : Nat} : nI n * (nI 4) + nI c = nI (4 * n + c) := by rw [nM_mul, nM_add, Nat.mul_comm]
theorem set_cell {post : MM → Int64 → Prop} {M : MM} {tl : Int64} {n c : Nat} {v : Int32} (hn : n < 12) (hc : c < 4) (hp : ∀ W : MM, W = mset M 37 (4 * n + c) v → post W tl) : wpX5_setCell post M tl 36 (nI n) (nI c) v := by
  unfold wpX5_setCell
  have e : (nI (wd 36) : Int32) = nI 4 := by decide
  refine And.intro (by decide) (ifn ?_ (And.intro (by decide) (And.intro (by decide) (And.intro (by decide) ?_))))
  · rw [e]
    have := nI_le4 (i := c) (n := 4) hc (by decide)
    lia
  · rw [e, ix_4]
    refine And.intro (vp_nM (by decide) (by show _ < 48; omega)) ?_
    intro W eW
    rw [tn_nI (by omega)] at eW
    exact hp W eW
theorem add_row {post : MM → Int64 → Prop} {M : MM} {tl : Int64} {n : Nat} {m b i t : Int32} (hn : n < 12) (e3 : M 36 3 = nI n) (hp : post (wrow M n m b i t) tl) : wpX5_addRow post M tl 36 m b i t := by
  unfold wpX5_addRow wpX5_isFull
  have e : (nI (al 36) : Int32) = nI 12 := by decide
  refine And.intro (by decide) (And.intro (by decide) (And.intro (by decide) (ifp ?_ (ifp rfl ?_))))
  · rw [e, e3]; exact nI_ltl hn (by decide)
  · refine And.intro (by decide) (And.intro (by decide) (And.intro (by decide) ?_))
    intro W eW
    rw [e3, nI_s1] at eW
    rw [e3]
    refine And.intro (by decide) (set_cell (c := 0) hn (by decide) (fun W1 e1 => And.intro (by decide) (set_cell (c := 1) hn (by decide) (fun W2 e2 => And.intro (by decide) (set_cell (c := 2) hn (by decide) (fun W3 e3' => And.intro (by decide) (set_cell (c := 3) hn (by decide) (fun W4 e4 => ?_))))))))
    have : W4 = wrow M n m b i t := by rw [e4, e3', e2, e1, eW]; rfl
    rw [this]; exact hp
theorem last_month {post : Int32 → MM → Int64 → Prop} {M : MM} {tl : Int64} {n : Nat} (hn : n < 12) (e3 : M 36 3 = nI n) (hp : post (if n = 0 then 0 else M 37 (4 * (n - 1))) M tl) : wpX7_lastMonth post M tl 34 := by
  unfold wpX7_lastMonth wpX5_cell
  refine And.intro (by decide) (And.intro (by decide) (And.intro (by decide) (And.intro (by decide) ?_)))
  show (if M 36 3 - 1 < 0 then _ else _)
  rw [e3]
  by_cases z : n = 0
  · subst z
    rw [if_pos rfl] at hp
    exact ifp (by decide) hp
  · rw [if_neg z] at hp
    obtain ⟨k, ek⟩ : ∃ k, n = k + 1 := ⟨n - 1, by omega⟩
    subst ek
    have e1 : nI (k + 1) - 1 = nI k := by rw [← nI_s1]; grind
    rw [e1]
    have k0 := nJ_ge0 (i := k) (by omega)
    have kl := nI_ltl (i := k) (k := k + 1) (by omega) (by omega)
    have e : (nI (wd 36) : Int32) = nI 4 := by decide
    refine ifn (by lia) (And.intro (by decide) (ifn ?_ (ifn (by decide) (And.intro (by decide) (ifp (by decide) (And.intro (by decide) (And.intro (by decide) (And.intro (by decide) ?_))))))))
    · lia
    · have e0 : nI k * (nI (wd (34 + 2)) : Int32) + 0 = nI (4 * k + 0) := by
        have : (nI (wd (34 + 2)) : Int32) = nI 4 := by decide
        rw [this]; exact ix_4 (c := 0)
      rw [e0]
      refine And.intro (vp_nM (by decide) (by show _ < 48; omega)) ?_
      rw [tn_nI (by omega)]
      exact hp
theorem i90_w {M : MM} {n c : Nat} {v : Int32} (hI : Inv M) (hn : n < 12) (hc : c < 4) (h0 : c = 0 → 0 ≤ v ∧ v ≤ 23) (h1 : c = 1 → 0 ≤ v ∧ v ≤ 1) (h2 : c = 2 → 0 ≤ v ∧ v ≤ 7) (h3 : c = 3 → Th v) : Inv (mset M 90 (17 + 4 * n + c) v) := by
  refine inv_90 hI ?_
  unfold sdom
  rw [show (17 + 4 * n + c) % 127 = 17 + 4 * n + c by omega, if_neg (by omega), if_neg (by omega), if_pos (by omega)]
  rcases (by omega : c = 0 ∨ c = 1 ∨ c = 2 ∨ c = 3) with z | z | z | z <;> subst z
  · rw [if_pos (by omega)]; exact h0 rfl
  · rw [if_neg (by omega), if_pos (by omega)]; exact h1 rfl
  · rw [if_neg (by omega), if_neg (by omega), if_pos (by omega)]; exact h2 rfl
  · rw [if_neg (by omega), if_neg (by omega), if_neg (by omega)]; exact h3 rfl
theorem i90_16 {M : MM} {v : Int32} (hI : Inv M) (hv : 0 ≤ v ∧ v ≤ 12) : Inv (mset M 90 16 v) := inv_90 hI (show sdom 16 v from hv)
theorem ix_17 {n : Nat} : (17 : Int32) + (4 : Int32) * nI n = nI (17 + 4 * n) := by
  have e : (17 : Int32) = nI 17 := rfl
  have e4 : (4 : Int32) = nI 4 := rfl
  rw [e, e4, nM_mul, nM_add]
theorem ln_work {post : MM → Int64 → Prop} {M : MM} {tl : Int64} {n : Nat} (hI : Inv M) (hn : n < 12) (e3 : M 36 3 = nI n) (hp : ∀ (M1 : MM) (t1 : Int64), LC (fun p N u => wpX11_readLineOf p N u 21) M tl M1 t1 → post M1 t1) : wX4_readWork_23 post M tl := by
  unfold wX4_readWork_23
  have opn : ∀ {post2 : MM → Int64 → Prop} {N : MM} {u : Int64}, wpX11_readWork post2 N u → wpX11_readLineOf post2 N u 21 := by
    intro post2 N u h
    unfold wpX11_readLineOf
    exact ifn (by decide) (ifn (by decide) (ifn (by decide) (ifn (by decide) (ifn (by decide) (ifn (by decide) (ifn (by decide) (ifn (by decide) (ifn (by decide) (ifn (by decide) (ifn (by decide) (ifp rfl h)))))))))))
  refine last_month hn e3 ?_
  generalize eL : (if n = 0 then (0 : Int32) else M 37 (4 * (n - 1))) = lo
  refine u_rnum hI (fun r1 M1 i1 f1 s1 a1 b1 n1 g1 => ?_)
  unfold wpX4_takeBank
  refine u_rnumP (P := PW M tl n id [r1]) pw_nx i1 (fun r2 M2 i2 f2 s2 a2 b2 n2 g2 => ?_)
  refine u_rnumP (P := PW M tl n id [r1, r2]) pw_nx i2 (fun r3 M3 i3 f3 s3 a3 b3 n3 g3 => ?_)
  refine u_what (P := PW M tl n (fun h0 => mx h0 r3) [r1, r2, r3]) pw_nx i3 (fun r4 M4 i4 f4 s4 a4 n4 g4 => ?_)
  have fT : TkF M M4 := fr_call (fr_call (fr_call f1 f2 (by decide) (by decide)) f3 (by decide) (by decide)) f4 (by decide) (by decide)
  have frC : CFr M M4 := cf_tk fr_rfl fT
  have nbM : ∀ (N : MM), Bt M tl N → N 81 36 ≠ 0 → Bt M4 tl N ∧ M4 22 2 ≠ 0 := by
    intro N h z
    have y := n1 N h z
    have y2 := s2 y.2
    have y3 := s3 (by rw [y2]; exact y.2)
    have y4 := s4 (by rw [y3, y2]; exact y.2)
    rw [y4, y3, y2]
    exact y
  have t36 : M4 36 3 = nI n := by rw [tkf_row fT (by decide)]; exact e3
  -- the reference
  have ref : ∀ (N : MM) (u : Int64) (post2 : MM → Int64 → Prop), Bt M tl N → N 81 36 = 0 → (∀ (N9 V : MM), RFr N V → Inv V → BtP (PW M tl n (fun h0 => mx h0 r3) [r1, r2, r3, r4]) M4 N9 → V = mset N9 90 16 (nI (n + 1)) → post2 V u) → wpX11_readWork post2 N u := by
    intro N u post2 h z k
    have m0 : M 22 2 = 0 := by
      by_cases y : M 22 2 = 0
      · exact y
      · exact absurd z (bad_n (bt_f0 h y))
    have dN := (bt_ok h m0).2 z
    have c16 : N 90 16 = nI n := by rw [← dN.2.2.1.2.1]; exact e3
    have t16 : (16 : Int32).toNatClampNeg = 16 := rfl
    unfold wpX11_readWork
    rw [t16, c16, ix_17]
    have body : wX11_readWork_37 post2 N u (nI n) (nI (17 + 4 * n)) (nI (17 + 4 * n)) lo := by
      unfold wX11_readWork_37
      refine g1 N u _ h (fun w1 N1 x1 h1 aa1 bb1 => ?_)
      have lo0 : 0 ≤ lo := by
        rw [← eL]
        by_cases y : n = 0
        · rw [if_pos y]; decide
        · rw [if_neg y]
          obtain ⟨kk, ek⟩ : ∃ kk, n = kk + 1 := ⟨n - 1, by omega⟩
          subst ek
          have g := dN.2.2.1.2.2 kk 0 (by omega) (by rw [e3]; exact nI_ltl (by omega) (by omega)) (by decide)
          have e4 : 4 * (kk + 1 - 1) = 4 * kk + 0 := by omega
          rw [e4, g]
          have iv := h.1.2.2.1 (17 + 4 * kk + 0)
          unfold sdom at iv
          rw [show (17 + 4 * kk + 0) % 127 = 17 + 4 * kk + 0 by omega, if_neg (by omega), if_neg (by omega), if_pos (by omega), if_pos (by omega)] at iv
          exact iv.1
      have w1b : 0 ≤ w1 ∧ w1 ≤ 23 := by
        by_cases y : M1 22 2 = 0
        · rw [aa1 y]; have := (a1 y).2; clear g1 g2 g3 g4 k; lia
        · rw [bb1 y]; decide
      refine And.intro (vp_nM (by decide) (by show _ < 127; omega)) ?_
      intro N2 e2
      rw [tn_nI (by omega)] at e2
      have h2 : BtP (PW M tl n id [r1]) M1 N2 := btp_wrM (P := D M1 tl) h1 (by rw [e2]; exact i90_w (c := 0) h1.1 hn (by decide) (fun _ => w1b) (fun y => absurd y (by decide)) (fun y => absurd y (by decide)) (fun y => absurd y (by decide))) (by rw [e2]; exact mset_ne (by decide)) (fun j y1 y2 => by rw [e2, mset_ne (by decide)]) (fun y d => by
        rw [e2, aa1 y]
        have d0 : D M tl N1 := d_eq d (fun a ha => (tkf_row f1 (by intro w; subst w; exact absurd ha (by decide))).symm) (fun _ _ => rfl) (fun _ _ => rfl)
        exact pw_set (vs := []) (by decide) (pw_0 d0))
      have x2 : RFr N N2 := by rw [e2]; exact fr_arr (rf_nx fr_rfl x1) (by decide)
      refine g2 N2 u _ h2 (fun w2 N3 x3 h3 aa2 bb2 => ?_)
      have w2b : 0 ≤ w2 ∧ w2 ≤ 1 := by
        by_cases y : M2 22 2 = 0
        · rw [aa2 y]; exact (a2 y).2
        · rw [bb2 y]; decide
      have i1' : nI (17 + 4 * n) + 1 = nI (17 + 4 * n + 1) := nI_s1 _
      have i2' : nI (17 + 4 * n) + 2 = nI (17 + 4 * n + 2) := nM_add _ 2
      have i3' : nI (17 + 4 * n) + 3 = nI (17 + 4 * n + 3) := nM_add _ 3
      rw [i1', i2', i3']
      refine And.intro (vp_nM (by decide) (by show _ < 127; omega)) ?_
      intro N4 e4
      rw [tn_nI (by omega)] at e4
      have h4 : BtP (PW M tl n id [r1, r2]) M2 N4 := btp_wrM h3 (by rw [e4]; exact i90_w (c := 1) h3.1 hn (by decide) (fun y => absurd y (by decide)) (fun _ => w2b) (fun y => absurd y (by decide)) (fun y => absurd y (by decide))) (by rw [e4]; exact mset_ne (by decide)) (fun j y1 y2 => by rw [e4, mset_ne (by decide)]) (fun y p => by
        rw [e4, aa2 y]
        exact pw_set (vs := [r1]) (by simp) p)
      have x4 : RFr N N4 := by rw [e4]; exact fr_arr (rf_nx x2 x3) (by decide)
      unfold wpX11_readLot
      refine g3 N4 u _ h4 (fun w3 N5 x5 h5 aa3 bb3 => ?_)
      have w3b : 0 ≤ w3 ∧ w3 ≤ 7 := by
        by_cases y : M3 22 2 = 0
        · rw [aa3 y]; exact (a3 y).2
        · rw [bb3 y]; decide
      have lot : ∀ N6 : MM, N6 = mset N5 81 29 (mx (N5 81 29) w3) → (vp_in (nI (17 + 4 * n + 2)) (al 90) ∧ (∀ M15 : MM, M15 = mset N6 90 (nI (17 + 4 * n + 2)).toNatClampNeg w3 → wpX11_readWhat (fun r18 M16 t17 => (vp_in (nI (17 + 4 * n + 3)) (al 90) ∧ (∀ M20 : MM, M20 = mset M16 90 (nI (17 + 4 * n + 3)).toNatClampNeg r18 → (vp_in 16 (al 90) ∧ (∀ M22 : MM, M22 = mset M20 90 (16 : Int32).toNatClampNeg (nI n + 1) → post2 M22 t17))))) M15 u)) := by
        intro N6 e6
        refine And.intro (vp_nM (by decide) (by show _ < 127; omega)) ?_
        intro N7 e7
        rw [tn_nI (by omega)] at e7
        have i6 : Inv N6 := by rw [e6]; exact inv_set h5.1 (i_any _)
        have h7 : BtP (PW M tl n (fun h0 => mx h0 r3) [r1, r2, r3]) M3 N7 := btp_wrM h5 (by rw [e7]; exact i90_w (c := 2) i6 hn (by decide) (fun y => absurd y (by decide)) (fun y => absurd y (by decide)) (fun _ => w3b) (fun y => absurd y (by decide))) (by rw [e7, mset_ne (by decide), e6]; exact mset_ne (by decide)) (fun j y1 y2 => by rw [e7, mset_ne (by decide), e6]; exact mset_nk (by omega)) (fun y p => by
          have ew := aa3 y
          subst ew
          rw [e7]
          exact pw_set (vs := [r1, r2]) (by simp) (pw_29 p e6))
        have x7 : RFr N N7 := by rw [e7, e6]; exact fr_arr (fr_fld (rf_nx x4 x5) (by decide)) (by decide)
        refine g4 N7 u _ h7 (fun w4 N8 x8 h8 aa4 th => ?_)
        refine And.intro (vp_nM (by decide) (by show _ < 127; omega)) ?_
        intro N9 e9
        rw [tn_nI (by omega)] at e9
        have i9 : Inv N9 := by rw [e9]; exact i90_w (c := 3) h8.1 hn (by decide) (fun y => absurd y (by decide)) (fun y => absurd y (by decide)) (fun y => absurd y (by decide)) (fun _ => th)
        have h9 : BtP (PW M tl n (fun h0 => mx h0 r3) [r1, r2, r3, r4]) M4 N9 := by
          refine ⟨i9, tp_eq h8.2.1 rfl rfl (by rw [e9, mset_ne (by decide)]) (by rw [e9]; exact mset_ne (by decide)), ?_⟩
          rcases h8.2.2 with ⟨a, l, p⟩ | y
          · refine Or.inl ⟨a, by rw [e9, mset_ne (by decide)]; exact l, fun y => ?_⟩
            rw [e9, mset_ne (by decide)] at y
            rw [e9, aa4 a y]
            exact pw_set (vs := [r1, r2, r3]) (by simp) (p y)
          · exact Or.inr (by rw [e9]; exact ⟨y.1, by rw [mset_ne (by decide)]; exact y.2.1, by rw [mset_ne (by decide)]; exact y.2.2⟩)
        have x9 : RFr N N9 := by rw [e9]; exact fr_arr (rf_nx x7 x8) (by decide)
        refine And.intro (vp_nM (a := 16) (by decide) (by decide)) ?_
        intro V eV
        rw [t16, nI_s1] at eV
        refine k N9 V (by rw [eV]; exact fr_arr x9 (by decide)) (by rw [eV]; exact i90_16 i9 ⟨nJ_ge0 (by omega), i_le (k := 12) (by decide) (by rw [nI_sm (by omega)]; omega)⟩) h9 eV
      refine ifs (fun c => ?_) (fun c => ?_)
      · unfold wX11_readLot_25
        intro N6 e6
        exact lot N6 (by rw [e6]; unfold mx; rw [if_pos c])
      · unfold wX11_readLot_25
        intro N6 e6
        exact lot N6 (by rw [e6]; unfold mx; rw [if_neg c])
    refine And.intro (vp_nM (a := 16) (by decide) (by decide)) (ifs (fun c => ?_) (fun c => ?_))
    · have n0 : n = 0 := nI_inj (by omega) (by decide) c
      have : lo = 0 := by rw [← eL, if_pos n0]
      rw [this] at body
      exact body
    · have n0 : n ≠ 0 := fun y => c (by rw [y]; rfl)
      obtain ⟨kk, ek⟩ : ∃ kk, n = kk + 1 := ⟨n - 1, by omega⟩
      have e4 : nI (17 + 4 * n) - 4 = nI (17 + 4 * kk) := by
        have : nI (17 + 4 * n) = nI (17 + 4 * kk) + 4 := by rw [ek]; exact (nM_add (17 + 4 * kk) 4).symm
        rw [this]; grind
      rw [e4]
      refine And.intro (vp_nM (by decide) (by show _ < 127; omega)) ?_
      have g := dN.2.2.1.2.2 kk 0 (by omega) (by rw [e3]; exact nI_ltl (by omega) (by omega)) (by decide)
      have el : lo = N 90 (nI (17 + 4 * kk)).toNatClampNeg := by
        rw [← eL, if_neg n0, tn_nI (by omega), show 4 * (n - 1) = 4 * kk + 0 by omega]
        exact g
      rw [← el]
      exact body
  refine ifs (fun q4 => ?_) (fun q4 => ?_)
  · refine add_row hn t36 (hp _ tl ⟨?_, ?_, fun N h z => absurd q4 (nbM N h z).2, fun N u post2 h z k => opn (ref N u post2 h z (fun N9 V xV iV h9 eV => k V xV ?_))⟩)
    · unfold wrow
      exact inv_set (inv_set (inv_set (inv_set (inv_set i4 (show 0 ≤ nI (n + 1) ∧ nI (n + 1) ≤ 12 from ⟨nJ_ge0 (by omega), i_le (k := 12) (by decide) (by rw [nI_sm (by omega)]; omega)⟩)) (i_any _)) (i_any _)) (i_any _)) (i_any _)
    · unfold wrow
      exact fr_arr (fr_arr (fr_arr (fr_arr (fr_fld frC (by decide)) (by decide)) (by decide)) (by decide)) (by decide)
    · have c22 : wrow M4 n r1 r2 r3 r4 22 = M4 22 := wrow_ne (by decide) (by decide)
      have c1 : wrow M4 n r1 r2 r3 r4 1 = M4 1 := wrow_ne (by decide) (by decide)
      have c2 : wrow M4 n r1 r2 r3 r4 2 = M4 2 := wrow_ne (by decide) (by decide)
      refine ⟨iV, tp_eq h9.2.1 (by rw [c1]) c2 (by rw [eV, mset_ne (by decide)]) (by rw [eV]; exact mset_ne (by decide)), ?_⟩
      rcases h9.2.2 with ⟨a, l, p⟩ | y
      · refine Or.inl ⟨by rw [c22]; exact a, ?_, fun y => ?_⟩
        · rw [c1, c2, c22, eV, mset_ne (by decide)]; exact l
        · rw [eV, mset_ne (by decide)] at y
          rw [eV]
          obtain ⟨N0, d0, w⟩ := p y
          exact d_work hn t36 ⟨N0, d_tk fT d0, w⟩
      · exact absurd q4 y.1
  · refine hp M4 tl ⟨i4, frC, fun N h z => (nbM N h z).1, fun N u post2 h z k => opn (ref N u post2 h z (fun N9 V xV iV h9 eV => k V xV ?_))⟩
    have bd := btp_f0 h9 q4
    exact fin_bad bd h9.2.1 iV (by rw [eV]; exact mset_ne (by decide)) (fun j h1 h2 => by rw [eV, mset_ne (by decide)])
