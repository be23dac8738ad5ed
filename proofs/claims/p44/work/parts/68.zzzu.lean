/-! RUNS on both sides -/
def SD (N : MM) : Prop := ∀ j, sdom (j % 127) (N 82 j)
def RLS (M N : MM) : Prop := RLw M N ∧ RSg M 14 (N 82) (N 81 2) ∧ SD N
def lsC : List Nat := [3, 4, 6, 7, 9, 10, 11, 12, 13, 15, 16, 17, 18, 19, 20, 21]
def lsR : List Nat := [81, 82, 84, 85, 86, 87, 88, 89]
theorem rls_eq {M M1 N N1 : MM} (h : RLS M N) (e1 : ∀ a ∈ lsC, M1 a = M a) (e2 : ∀ a ∈ lsR, N1 a = N a) : RLS M1 N1 := by
  obtain ⟨h1, h2, h3⟩ := h
  refine ⟨rl_eq h1 (fun a ha => e1 a (by revert ha; revert a; decide)) (fun a ha => e2 a (by revert ha; revert a; decide)) (fun j _ => by rw [e2 81 (by decide)]), ?_, ?_⟩
  · rw [e2 82 (by decide), e2 81 (by decide)]
    exact rsg_m h2 (e1 15 (by decide)) (by rw [e1 16 (by decide)]) (e1 17 (by decide)) (by rw [e1 18 (by decide)]) (e1 19 (by decide)) (by rw [e1 20 (by decide)]) (e1 21 (by decide))
  · unfold SD
    rw [e2 82 (by decide)]
    exact h3
theorem rls_c {M N : MM} {a j : Nat} {v : Int32} (h : RLS M N) (ha : a ∉ lsC) : RLS (mset M a j v) N := rls_eq h (fun b hb => mset_ne (fun z => ha (by rw [← z]; exact hb))) (fun _ _ => rfl)
theorem rls_r {M N : MM} {a j : Nat} {v : Int32} (h : RLS M N) (ha : a ∉ lsR) : RLS M (mset N a j v) := rls_eq h (fun _ _ => rfl) (fun b hb => mset_ne (fun z => ha (by rw [← z]; exact hb)))
/-- whether a KIND may be done on a LOT -/
abbrev twN (N : MM) (k : Nat) : Nat := (N 88 k).toNatClampNeg
theorem tw_n {M N : MM} (R : RLw M N) {k : Nat} (hk : k < 6) : twN N k < 6 ∧ N 88 k = nI (twN N k) ∧ (k = 0 ↔ twN N k = 0) := by
  obtain ⟨j, hj, e, e2, _⟩ := rl_tw R k hk
  unfold twN
  rw [e, tn_nI (by omega)]
  exact ⟨hj, rfl, e2⟩
abbrev mbP (N : MM) (b : Nat) (i : Int32) (k : Nat) : Prop := ¬ lkP N b k ∧ (mat N (nI b) i = -4 ∨ ¬ lkP N (1 - b) (twN N k))
section RN
variable {p : Int32 → MM → Int64 → Prop} {M N : MM} {tl u : Int64}
theorem el_c_mayBuild {b k : Nat} {i : Int32} (hb : b < 2) (hk : k < 6) (R : RLw M N) (h : wpX1_mayBuild p M tl 3 (nI b) i (nI k)) : (mbP N b i k → p 1 M tl) ∧ (¬ mbP N b i k → p 0 M tl) := by
  unfold wpX1_mayBuild at h
  have g := el_c_lacks hb hk R h.2
  by_cases q : lkP N b k
  · exact ⟨fun c => absurd q c.1, fun _ => iq (by decide) (g.1 q)⟩
  · have g := el_c_matchOf R (i00 (g.2 q)).2
    by_cases q2 : mat N (nI b) i = -4
    · exact ⟨fun _ => ip q2 g, fun c => absurd ⟨q, Or.inl q2⟩ c⟩
    · have g := el_c_twinOf hk R (iq q2 g).2
      obtain ⟨t1, t2, _⟩ := tw_n R hk
      have g := g.2
      rw [nI_1b hb, t2] at g
      have g := el_c_lacks (by omega) t1 R g
      by_cases q3 : lkP N (1 - b) (twN N k)
      · exact ⟨fun c => by rcases c.2 with z | z; · exact absurd z q2
                           · exact absurd q3 z, fun _ => iq (by decide) (g.1 q3)⟩
      · exact ⟨fun _ => i00 (g.2 q3), fun c => absurd ⟨q, Or.inr q3⟩ c⟩
theorem el_slot {b i : Nat} (hb : b < 2) (hi : i < 8) (h : wpX10_slot p M tl (nI b) (nI i)) : p (nI (8 * b + i)) M tl := by
  unfold wpX10_slot at h
  rw [sl_c b hb i hi] at h
  exact h
theorem el_c_isEven {t v : Int32} (R : RLw M N) (ht : TT t) (h : wpX1_isEven p M tl 3 t v) : (mirF N t = v → p 1 M tl) ∧ (mirF N t ≠ v → p 0 M tl) := by
  unfold wpX1_isEven at h
  have g := el_c_mirrorOf R ht h.2
  exact ⟨fun c => ip c g, fun c => iq c g⟩
theorem mat_n {b i : Int32} (l : 0 ≤ N 81 2 ∧ N 81 2 ≤ 8) (h : mat N b i ≠ -4) : ∃ j, j < 8 ∧ mat N b i = nI j ∧ nI j < N 81 2 := by
  rcases mat_v N b i with z | z
  · exact absurd z h
  · obtain ⟨j, hj, e⟩ := cdN 8 (by omega) z.1 (show _ < (8 : Int32) by lia)
    exact ⟨j, hj, e, by rw [← e]; exact z.2⟩
theorem mat_sym {i j : Nat} (l : 0 ≤ N 81 2 ∧ N 81 2 ≤ 8) (y : 0 ≤ N 81 3 ∧ N 81 3 ≤ 6) (hi : i < 8) (hj : j < 8) (li : nI i < N 81 2) (e : mat N 1 (nI i) = nI j) : mat N 0 (nI j) = nI i := by
  have i0 := nJ_ge0 (i := i) (by omega)
  have j0 := nJ_ge0 (i := j) (by omega)
  unfold mat matB at e ⊢
  rw [if_neg (by decide)] at e
  rw [if_pos rfl]
  split at e
  · rename_i c
    have : (nI j + N 81 3) - 3 = nI i := by rw [← e]; lia
    rw [this, if_pos ⟨i0, li⟩]
  · exfalso; rw [← e] at j0; exact absurd j0 (by decide)
end RN
/-- a WORK done: what the class writes, what the reference does -/
def twC (M : MM) (m : Int32) (b i : Nat) (t c : Int32) : MM := mset (mset (mset M 44 b (M 44 b + c)) 43 (8 * b + i) t) 47 (8 * b + i) m
def twR (N : MM) (w b i : Nat) (t c : Int32) : MM := mset (mset (mset (mset N 103 w 0) 102 b (N 102 b + c)) 98 (8 * b + i) t) 100 (8 * b + i) 1
abbrev pLot (b i j : Nat) : Nat := if b = 0 then i else j
section RN1
variable {p : MM → Int64 → Prop} {M N : MM} {tl u : Int64}
theorem el_build {b i k : Nat} {t : Int32} (hb : b < 2) (hi : i < 8) (hk : k < 6) (ek : t &&& 7 = nI k) (R : RLw M N) (h : wpX6_build p M tl (nI b) (nI i) t) : p (mset (mset M 44 b (M 44 b + N 85 (6 * b + k))) 43 (8 * b + i) t) tl := by
  unfold wpX6_build at h
  rw [ek] at h
  have h := (el_c_costOf hb hk R h.2).2 _ rfl
  have h := (el_slot hb hi h).2 _ rfl
  rw [tn_nI (by omega), tn_nI (by omega)] at h
  exact h
end RN1
section RN2
variable {p : Int32 → MM → Int64 → Prop} {M N : MM} {tl u : Int64}
theorem el_93 {m t v5 : Int32} {b i k : Nat} (hb : b < 2) (hi : i < 8) (hk : k < 6) (ek : t &&& 7 = nI k) (R : RLw M N) (h : wX6_tryWork_93 p M tl m (nI b) (nI i) t v5) : (v5 = -4 → p 0 (twC M m b i t (N 85 (6 * b + k))) tl) ∧ (∀ j, j < 8 → v5 = nI j → p 0 (mset (twC M m b i t (N 85 (6 * b + k))) 46 (pLot b i j) (nI b)) tl) := by
  unfold wX6_tryWork_93 at h
  have h := el_build hb hi hk ek R h
  have h := (el_slot hb hi h).2 _ rfl
  rw [tn_nI (by omega)] at h
  refine ⟨fun c => ip c h, fun j hj e => ?_⟩
  have h := iq (show ¬ v5 = -4 by
    rw [e]
    intro z
    have := nJ_ge0 (i := j) (by omega)
    rw [z] at this
    exact absurd this (by decide)) h
  rcases (by omega : b = 0 ∨ b = 1) with z | z <;> subst z
  · have h := ip (by decide) h
    unfold wX6_tryWork_133 at h
    have h := h.2 _ rfl
    rw [tn_nI (by omega)] at h
    exact h
  · have h := iq (by decide) h
    unfold wX6_tryWork_133 at h
    have h := h.2 _ rfl
    rw [e, tn_nI (by omega)] at h
    exact h
/-- tryWork -/
theorem el_tryWork {m t : Int32} {b i k : Nat} (hb : b < 2) (hi : i < 8) (li : nI i < N 81 2) (ht : TT t) (hk : k < 6) (ek : t &&& 7 = nI k) (R : RLw M N) (h : wpX6_tryWork p M tl m (nI b) (nI i) t) : (¬ mbP N b (nI i) k → p 2 M tl) ∧ (mbP N b (nI i) k → (mat N (nI b) (nI i) = -4 → p 0 (twC M m b i t (N 85 (6 * b + k))) tl) ∧ (∀ j, j < 8 → mat N (nI b) (nI i) = nI j → ((M 47 (8 * (1 - b) + j) = m ∧ mirF N t ≠ M 43 (8 * (1 - b) + j)) → p 1 M tl) ∧ (¬ (M 47 (8 * (1 - b) + j) = m ∧ mirF N t ≠ M 43 (8 * (1 - b) + j)) → p 0 (mset (twC M m b i t (N 85 (6 * b + k))) 46 (pLot b i j) (nI b)) tl))) := by
  unfold wpX6_tryWork at h
  have l := rl_lots R
  have h := i10 ((el_c_isLot R h).1 ⟨bb2 hb, nJ_ge0 (by omega), li⟩)
  rw [ek] at h
  have h := el_c_mayBuild hb hk R h
  refine ⟨fun c => i00 (h.2 c), fun c => ?_⟩
  have h := el_c_matchOf R (i10 (h.1 c))
  refine ⟨fun q => ?_, fun j hj q => ?_⟩
  · have h := ip q h
    rw [q] at h
    exact (el_93 hb hi hk ek R h).1 rfl
  · have n4 : ¬ mat N (nI b) (nI i) = -4 := by
      rw [q]
      intro z
      have := nJ_ge0 (i := j) (by omega)
      rw [z] at this
      exact absurd this (by decide)
    have h := iq n4 h
    rw [q, nI_1b hb] at h
    have h := (el_slot (by omega) hj h).2
    rw [tn_nI (by omega)] at h
    by_cases y : M 47 (8 * (1 - b) + j) = m
    · have h := (el_slot (by omega) hj (ip y h)).2
      rw [tn_nI (by omega)] at h
      have h := el_c_isEven R ht h
      refine ⟨fun c => i00 (h.2 c.2), fun c => ?_⟩
      have y2 : mirF N t = M 43 (8 * (1 - b) + j) := Classical.byContradiction (fun z => c ⟨y, z⟩)
      exact (el_93 hb hi hk ek R (i10 (h.1 y2))).2 j hj rfl
    · have h := iq y h
      exact ⟨fun c => absurd c.1 y, fun _ => (el_93 hb hi hk ek R h).2 j hj rfl⟩
end RN2
section RN3
variable {p : MM → Int64 → Prop} {M N : MM} {tl u : Int64}
theorem el_155 {t v5 : Int32} {w b i k : Nat} (hw : w < 12) (hb : b < 2) (hi : i < 8) (hk : k < 6) (ek : t - t / 8 * 8 = nI k) (h : wX11_works_155 p N u (nI w) (nI b) (nI i) t v5) : (v5 = -4 → p (twR N w b i t (N 85 (6 * b + k))) u) ∧ (∀ j, j < 8 → v5 = nI j → p (mset (twR N w b i t (N 85 (6 * b + k))) 99 (pLot b i j) (nI b)) u) := by
  unfold wX11_works_155 at h
  rw [ek, k6_r b hb k hk, sl_r b hb i hi] at h
  have h := (h.2 _ rfl).2.2.2 _ rfl
  have h := (h.2 _ rfl).2 _ rfl
  rw [tn_nI (by omega), tn_nI (by omega), tn_nI (by omega), tn_nI (by omega), nar1] at h
  have e1 : mset N 103 w 0 102 b = N 102 b := by rw [mset_ne (by decide)]
  have e2 : mset N 103 w 0 85 (6 * b + k) = N 85 (6 * b + k) := by rw [mset_ne (by decide)]
  rw [e1, e2] at h
  refine ⟨fun c => ip c h, fun j hj e => ?_⟩
  have h := iq (show ¬ v5 = -4 by
    rw [e]
    intro z
    have := nJ_ge0 (i := j) (by omega)
    rw [z] at this
    exact absurd this (by decide)) h
  rcases (by omega : b = 0 ∨ b = 1) with z | z <;> subst z
  · have h := ip (by decide) h
    unfold wX11_works_232 at h
    have h := h.2 _ rfl
    rw [tn_nI (by omega)] at h
    exact h
  · have h := iq (by decide) h
    unfold wX11_works_232 at h
    have h := h.2 _ rfl
    rw [e, tn_nI (by omega)] at h
    exact h
theorem el_112 {t v5 v6 : Int32} {w b i k : Nat} (hw : w < 12) (hb : b < 2) (hi : i < 8) (hk : k < 6) (ek : t - t / 8 * 8 = nI k) (h : wX11_works_112 p N u (nI w) (nI b) (nI i) t v5 v6) : (v5 = -4 → p (twR N w b i t (N 85 (6 * b + k))) u) ∧ (∀ j, j < 8 → v5 = nI j → v6 = nI (8 * (1 - b) + j) → ((N 100 (8 * (1 - b) + j) ≠ 0 ∧ mirF N t ≠ N 98 (8 * (1 - b) + j)) → p (mset N 103 w 1) u) ∧ (¬ (N 100 (8 * (1 - b) + j) ≠ 0 ∧ mirF N t ≠ N 98 (8 * (1 - b) + j)) → p (mset (twR N w b i t (N 85 (6 * b + k))) 99 (pLot b i j) (nI b)) u)) := by
  unfold wX11_works_112 at h
  refine ⟨fun c => (el_155 hw hb hi hk ek (ip c h)).1 c, fun j hj e e6 => ?_⟩
  have h := (iq (show ¬ v5 = -4 by
    rw [e]
    intro z
    have := nJ_ge0 (i := j) (by omega)
    rw [z] at this
    exact absurd this (by decide)) h).2
  rw [e6, tn_nI (by omega)] at h
  by_cases y : N 100 (8 * (1 - b) + j) = 0
  · exact ⟨fun c => absurd y c.1, fun _ => (el_155 hw hb hi hk ek (ip y h)).2 j hj e⟩
  · have h := el_r_mirrorOf (iq y h).2
    by_cases y2 : N 98 (8 * (1 - b) + j) = mirF N t
    · exact ⟨fun c => absurd y2.symm c.2, fun _ => (el_155 hw hb hi hk ek (ip y2 h)).2 j hj e⟩
    · have h := (iq y2 h).2 _ rfl
      rw [tn_nI (by omega)] at h
      exact ⟨fun _ => h, fun c => absurd ⟨y, fun z => y2 z.symm⟩ c⟩
theorem ix17b : ∀ m, m < 12 → (17 : Int32) + 4 * nI m = nI (17 + (4 * m + 0)) ∧ (17 : Int32) + 4 * nI m + 1 = nI (17 + (4 * m + 1)) ∧ (17 : Int32) + 4 * nI m + 2 = nI (17 + (4 * m + 2)) ∧ (17 : Int32) + 4 * nI m + 3 = nI (17 + (4 * m + 3)) := by decide +kernel
/-- works -/
theorem el_works {t : Int32} {w b i k : Nat} (hw : w < 12) (hb : b < 2) (hi : i < 8) (ht : TT t) (hk : k < 6) (ek : t - t / 8 * 8 = nI k) (eb : N 82 (17 + (4 * w + 1)) = nI b) (ei : N 82 (17 + (4 * w + 2)) = nI i) (et : N 82 (17 + (4 * w + 3)) = t) (R : RLw M N) (h : wpX11_works p N u (nI w)) : (¬ mbP N b (nI i) k → p (mset N 103 w 2) u) ∧ (mbP N b (nI i) k → (mat N (nI b) (nI i) = -4 → p (twR N w b i t (N 85 (6 * b + k))) u) ∧ (∀ j, j < 8 → mat N (nI b) (nI i) = nI j → ((N 100 (8 * (1 - b) + j) ≠ 0 ∧ mirF N t ≠ N 98 (8 * (1 - b) + j)) → p (mset N 103 w 1) u) ∧ (¬ (N 100 (8 * (1 - b) + j) ≠ 0 ∧ mirF N t ≠ N 98 (8 * (1 - b) + j)) → p (mset (twR N w b i t (N 85 (6 * b + k))) 99 (pLot b i j) (nI b)) u))) := by
  unfold wpX11_works at h
  have x := ix17b w hw
  have l := rl_lots R
  have h := h.2.2.2
  rw [x.2.1, x.2.2.1, x.2.2.2, tn_nI (by omega), tn_nI (by omega), tn_nI (by omega), eb, ei, et, ek, tn_nI (by omega), nI_1b hb] at h
  have h := el_r_matchOf l h
  have h := el_r_doesLack hb hk h
  obtain ⟨t1, t2, _⟩ := tw_n R hk
  have bar : wX11_works_102 p N u (nI w) → p (mset N 103 w 2) u := fun h => by
    unfold wX11_works_102 at h
    have h := h.2 _ rfl
    rw [tn_nI (by omega)] at h
    exact h
  by_cases q : lkP N b k
  · exact ⟨fun _ => bar (iq (by decide) (h.1 q)), fun c => absurd q c.1⟩
  · have h := i00 (h.2 q)
    by_cases q2 : mat N (nI b) (nI i) = -4
    · have h := ip q2 h
      refine ⟨fun c => absurd ⟨q, Or.inl q2⟩ c, fun _ => ⟨fun _ => (el_112 hw hb hi hk ek h).1 q2, fun j hj e => ?_⟩⟩
      rw [q2] at e
      have := nJ_ge0 (i := j) (by omega)
      rw [← e] at this
      exact absurd this (by decide)
    · have h := (iq q2 h).2
      rw [t2] at h
      have h := el_r_doesLack (by omega) t1 h
      by_cases q3 : lkP N (1 - b) (twN N k)
      · exact ⟨fun _ => bar (iq (by decide) (h.1 q3)), fun c => by
          rcases c.2 with z | z
          · exact absurd z q2
          · exact absurd q3 z⟩
      · have h := i00 (h.2 q3)
        refine ⟨fun c => absurd ⟨q, Or.inr q3⟩ c, fun _ => ⟨fun c => absurd c q2, fun j hj e => ?_⟩⟩
        exact (el_112 hw hb hi hk ek h).2 j hj e (by rw [e, sl_r (1 - b) (by omega) j hj])
end RN3
