/-! the law: every call by its pair contract -/
def PT : Int32 → MM → Int64 → Prop := fun r _ _ => r = 1
theorem lgc_self (x : Int64) : lg_cmp x x = 0 := by
  unfold lg_cmp
  rw [if_neg (fun q => by have := Int64.lt_iff_toInt_lt.mp q; omega), if_pos rfl]
set_option maxHeartbeats 4000000 in
set_option maxRecDepth 20000 in
theorem law_body {L : Nat} {xs : Nat → Int32} {d : Nat} {v3 : Int32} (hv0 : vp_in v3 L) (hv1 : vp_in (v3 + 1) L) (hv2 : vp_in (v3 + 2) L) (hv3 : vp_in (v3 + 3) L) (hv4 : vp_in (v3 + 4) L) (hn : ¬ ((Int32.ofNat L) - 5) < v3) (fin : ∀ M t, Rel M → wL_law_1562 L xs PT (wL_law_18 L xs PT d) M t v3) {M : MM} {tl : Int64} (h : Rel M) : wL_law_18 L xs PT (d + 1) M tl v3 := by
  unfold wL_law_18
  refine ifn hn (And.intro hv0 ?_)
  refine ifs (fun hc => ?_) (fun _ => ?_)
  · exact And.intro hv1 (And.intro hv2 (pr_feed h (fun r M1 t1 k => And.intro hv1 (And.intro hv2 (k _ (fun r2 M2 t2 h2 _ => fin M2 t2 h2))))))
  refine ifs (fun hc => ?_) (fun _ => ?_)
  · exact And.intro hv1 (pr_end h (fun r M1 t1 k => And.intro hv1 (k _ (fun r2 M2 t2 h2 _ => fin M2 t2 h2))))
  refine ifs (fun hc => ?_) (fun _ => ?_)
  · exact pr_text h (fun r M1 t1 k => k _ (fun r2 M2 t2 h2 _ => fin M2 t2 h2))
  refine ifs (fun hc => ?_) (fun _ => ?_)
  · exact pr_fault h (fun r M1 t1 k => k _ (fun r2 M2 t2 h2 _ => fin M2 t2 h2))
  refine ifs (fun hc => ?_) (fun _ => ?_)
  · exact And.intro hv1 (pr_rule h (fun r M1 t1 k => And.intro hv1 (k _ (fun r2 M2 t2 h2 _ => fin M2 t2 h2))))
  refine ifs (fun hc => ?_) (fun _ => ?_)
  · exact And.intro hv1 (And.intro hv2 (pr_kind h (fun r M1 t1 k => And.intro hv1 (And.intro hv2 (k _ (fun r2 M2 t2 h2 => fin M2 t2 h2))))))
  refine ifs (fun hc => ?_) (fun _ => ?_)
  · exact And.intro hv1 (pr_colour h (fun r M1 t1 k => And.intro hv1 (k _ (fun r2 M2 t2 h2 _ => fin M2 t2 h2))))
  refine ifs (fun hc => ?_) (fun _ => ?_)
  · exact And.intro hv1 (pr_mirror h (fun r M1 t1 k => And.intro hv1 (k _ (fun r2 M2 t2 h2 _ => fin M2 t2 h2))))
  refine ifs (fun hc => ?_) (fun _ => ?_)
  · exact And.intro hv1 (And.intro hv2 (pr_work h (fun r M1 t1 k => And.intro hv1 (And.intro hv2 (k _ (fun r2 M2 t2 h2 _ => fin M2 t2 h2))))))
  refine ifs (fun hc => ?_) (fun _ => ?_)
  · exact And.intro hv1 (And.intro hv2 (pr_thing h (fun r M1 t1 k => And.intro hv1 (And.intro hv2 (k _ (fun r2 M2 t2 h2 _ => fin M2 t2 h2))))))
  refine ifs (fun hc => ?_) (fun _ => ?_)
  · exact And.intro hv1 (And.intro hv2 (And.intro hv3 (pr_put h (fun r M1 t1 k => And.intro hv1 (And.intro hv2 (And.intro hv3 (k _ (fun r2 M2 t2 h2 _ => fin M2 t2 h2))))))))
  refine ifs (fun hc => ?_) (fun _ => ?_)
  · exact And.intro hv1 (And.intro hv2 (pr_match h (fun r M1 t1 k => And.intro hv1 (And.intro hv2 (k _ (fun r2 M2 t2 h2 _ => fin M2 t2 h2))))))
  refine ifs (fun hc => ?_) (fun _ => ?_)
  · exact pr_odd h (fun r M1 t1 k => k _ (fun r2 M2 t2 h2 _ => fin M2 t2 h2))
  refine ifs (fun hc => ?_) (fun _ => ?_)
  · exact And.intro hv1 (pr_third h (fun r M1 t1 k => And.intro hv1 (k _ (fun r2 M2 t2 h2 _ => fin M2 t2 h2))))
  refine ifs (fun hc => ?_) (fun _ => ?_)
  · exact And.intro hv1 (And.intro hv2 (And.intro hv3 (pr_after h (fun r M1 t1 k => And.intro hv1 (And.intro hv2 (And.intro hv3 (k _ (fun r2 M2 t2 h2 _ => fin M2 t2 h2))))))))
  refine ifs (fun hc => ?_) (fun _ => ?_)
  · exact And.intro hv1 (And.intro hv2 (pr_paid h (fun r M1 t1 k => And.intro hv1 (And.intro hv2 (k _ (fun r2 M2 t2 h2 _ => fin M2 t2 h2))))))
  refine ifs (fun hc => ?_) (fun _ => ?_)
  · exact And.intro hv1 (And.intro hv2 (pr_owes h (fun r M1 t1 k => And.intro hv1 (And.intro hv2 (k _ (fun r2 M2 t2 h2 _ => fin M2 t2 h2))))))
  refine ifs (fun hc => ?_) (fun _ => ?_)
  · exact And.intro hv1 (pr_fate h (fun r M1 t1 k => And.intro hv1 (k _ (fun r2 M2 t2 h2 _ => fin M2 t2 h2))))
  refine ifs (fun hc => ?_) (fun _ => ?_)
  · exact And.intro hv1 (pr_uneven h (fun r M1 t1 k => And.intro hv1 (k _ (fun r2 M2 t2 h2 _ => fin M2 t2 h2))))
  refine ifs (fun hc => ?_) (fun _ => ?_)
  · exact pr_go h (fun r M1 t1 k => k _ (fun r2 M2 t2 h2 _ => fin M2 t2 h2))
  refine ifs (fun hc => ?_) (fun _ => ?_)
  · exact And.intro hv1 (And.intro hv2 (And.intro hv3 (And.intro hv4 (pr_plot h (fun r M1 t1 k => And.intro hv1 (And.intro hv2 (And.intro hv3 (And.intro hv4 (k _ (fun r2 M2 t2 h2 _ => fin M2 t2 h2))))))))))
  refine ifs (fun hc => ?_) (fun _ => ?_)
  · exact And.intro hv1 (And.intro hv2 (And.intro hv3 (pr_gain h (fun r M1 t1 k => And.intro hv1 (And.intro hv2 (And.intro hv3 (k _ (fun r2 M2 t2 h2 _ => fin M2 t2 h2))))))))
  refine ifs (fun hc => ?_) (fun _ => ?_)
  · exact And.intro hv1 (And.intro hv2 (And.intro hv3 (pr_begin h (fun r M1 t1 k => And.intro hv1 (And.intro hv2 (And.intro hv3 (k _ (fun r2 M2 t2 h2 _ => fin M2 t2 h2))))))))
  refine ifs (fun hc => ?_) (fun _ => ?_)
  · exact And.intro hv1 (And.intro hv2 (pr_waits h (fun r M1 t1 k => And.intro hv1 (And.intro hv2 (k _ (fun r2 M2 t2 h2 _ => fin M2 t2 h2))))))
  refine ifs (fun hc => ?_) (fun _ => ?_)
  · exact And.intro hv1 (And.intro hv2 (pr_vex h (fun r M1 t1 k => And.intro hv1 (And.intro hv2 (k _ (fun r2 M2 t2 h2 _ => fin M2 t2 h2))))))
  refine ifs (fun hc => ?_) (fun _ => ?_)
  · exact And.intro hv1 (And.intro hv2 (pr_want h (fun r M1 t1 k => And.intro hv1 (And.intro hv2 (k _ (fun r2 M2 t2 h2 _ => fin M2 t2 h2))))))
  refine ifs (fun hc => ?_) (fun _ => ?_)
  · exact pr_content h (fun r M1 t1 k => k _ (fun r2 M2 t2 h2 _ => fin M2 t2 h2))
  refine ifs (fun hc => ?_) (fun _ => ?_)
  · exact And.intro hv1 (And.intro hv2 (pr_plan h (fun r M1 t1 k => And.intro hv1 (And.intro hv2 (k _ (fun r2 M2 t2 h2 => fin M2 t2 h2))))))
  refine ifs (fun hc => ?_) (fun _ => ?_)
  · exact And.intro hv1 (pr_cannot h (fun r M1 t1 k => And.intro hv1 (k _ (fun r2 M2 t2 h2 _ => fin M2 t2 h2))))
  refine ifs (fun hc => ?_) (fun _ => ?_)
  · exact And.intro hv1 (And.intro hv2 (And.intro hv3 (pr_fire h (fun r M1 t1 k => And.intro hv1 (And.intro hv2 (And.intro hv3 (k _ (fun r2 M2 t2 h2 _ => fin M2 t2 h2))))))))
  refine ifs (fun hc => ?_) (fun _ => ?_)
  · exact And.intro hv1 (pr_quarrel h (fun r M1 t1 k => And.intro hv1 (k _ (fun r2 M2 t2 h2 _ => fin M2 t2 h2))))
  refine ifs (fun hc => ?_) (fun _ => ?_)
  · exact pr_bend h (fun r M1 t1 k => k _ (fun r2 M2 t2 h2 _ => fin M2 t2 h2))
  refine ifs (fun hc => ?_) (fun _ => ?_)
  · exact And.intro hv1 (And.intro hv2 (pr_shops h (fun r M1 t1 k => And.intro hv1 (And.intro hv2 (k _ (fun r2 M2 t2 h2 _ => fin M2 t2 h2))))))
  refine ifs (fun hc => ?_) (fun _ => ?_)
  · refine And.intro hv1 (And.intro hv2 (And.intro hv3 (And.intro hv4 (ifs (fun h0 => ?_) (fun h0 => ?_)))))
    · unfold wL_law_1222; exact pr_saw h (fun r M1 t1 k => And.intro hv1 (And.intro hv2 (And.intro hv3 (And.intro hv4 (ifp h0 (by unfold wL_law_1255; exact k _ (fun r2 M2 t2 h2 _ => fin M2 t2 h2)))))))
    · unfold wL_law_1222; exact pr_saw h (fun r M1 t1 k => And.intro hv1 (And.intro hv2 (And.intro hv3 (And.intro hv4 (ifn h0 (by unfold wL_law_1255; exact k _ (fun r2 M2 t2 h2 _ => fin M2 t2 h2)))))))
  refine ifs (fun hc => ?_) (fun _ => ?_)
  · exact pr_forget h (fun r M1 t1 k => k _ (fun r2 M2 t2 h2 _ => fin M2 t2 h2))
  refine ifs (fun hc => ?_) (fun _ => ?_)
  · exact And.intro hv1 (pr_histories h (fun r M1 t1 k => And.intro hv1 (k _ (fun r2 M2 t2 h2 _ => fin M2 t2 h2))))
  refine ifs (fun hc => ?_) (fun _ => ?_)
  · exact And.intro hv1 (And.intro hv2 (And.intro hv3 (pr_began h (fun r M1 t1 k => And.intro hv1 (And.intro hv2 (And.intro hv3 (k _ (fun r2 M2 t2 h2 _ => fin M2 t2 h2))))))))
  refine ifs (fun hc => ?_) (fun _ => ?_)
  · exact And.intro hv1 (pr_keep h (fun r M1 t1 k => And.intro hv1 (k _ (fun r2 M2 t2 h2 _ => fin M2 t2 h2))))
  refine ifs (fun hc => ?_) (fun _ => ?_)
  · exact And.intro hv1 (pr_back h (fun r M1 t1 k => And.intro hv1 (k _ (fun r2 M2 t2 h2 _ => fin M2 t2 h2))))
  refine ifs (fun hc => ?_) (fun _ => ?_)
  · exact And.intro hv1 (And.intro hv2 (And.intro hv3 (pr_sheet h (fun r M1 t1 k => And.intro hv1 (And.intro hv2 (And.intro hv3 (k _ (fun r2 M2 t2 h2 _ => fin M2 t2 h2))))))))
  refine ifs (fun hc => ?_) (fun _ => ?_)
  · exact And.intro hv1 (And.intro hv2 (And.intro hv3 (pr_lay h (fun r M1 t1 k => And.intro hv1 (And.intro hv2 (And.intro hv3 (k _ (fun r2 M2 t2 h2 _ => fin M2 t2 h2))))))))
  refine ifs (fun hc => ?_) (fun _ => ?_)
  · exact And.intro hv1 (And.intro hv2 (And.intro hv3 (And.intro hv4 (pr_read h (fun r M1 t1 k => And.intro hv1 (And.intro hv2 (And.intro hv3 (And.intro hv4 (k _ (fun r2 M2 t2 h2 _ => fin M2 t2 h2))))))))))
  refine ifs (fun hc => ?_) (fun _ => ?_)
  · exact pr_torn h (fun r M1 t1 k => k _ (fun r2 M2 t2 h2 e => ifp e (fin M2 t2 h2)))
  refine ifs (fun hc => ?_) (fun _ => ?_)
  · exact And.intro hv1 (pr_count h (fun r M1 t1 k => And.intro hv1 (k _ (fun r2 M2 t2 h2 _ => fin M2 t2 h2))))
  exact fin _ _ h
theorem nK_add (a k : Nat) : nI a + nI k = nI (a + k) := (r_add rfl rfl).trans (nI_md (by show (k + a) % 4294967296 % 4294967296 = _; omega))
theorem vp_nI {a L : Nat} (hL : L ≤ 320) (h : a < L) : vp_in (nI a) L := vp_of (by rw [nI_sm (by omega)]; omega) (by rw [nI_sm (by omega)]; omega)
theorem law_end {L i : Nat} (hL : L ≤ 320) (hi : i ≤ 64) : (((Int32.ofNat L) - 5) < nI (5 * i)) ↔ L < 5 * i + 5 := by
  have e1 : (Int32.ofNat L).toInt = L := nI_sm (by omega)
  have e2 : ((Int32.ofNat L) - 5).toInt = (L : Int) - 5 := by
    rw [Int32.toInt_sub, e1, show (5 : Int32).toInt = 5 from rfl, Int.bmod_def]
    split <;> omega
  rw [Int32.lt_iff_toInt_lt, e2, nI_sm (by omega)]
  omega
theorem law_loop {L : Nat} (hL : L ≤ 320) (xs : Nat → Int32) : ∀ (d i : Nat), i ≤ 64 → L < 5 * (i + d) + 5 → ∀ (M : MM) (t : Int64), Rel M → wL_law_18 L xs PT (d + 1) M t (nI (5 * i)) := by
  intro d
  induction d with
  | zero =>
    intro i hi hd M t h
    unfold wL_law_18
    exact ifp ((law_end hL hi).mpr (by omega)) rfl
  | succ d ih =>
    intro i hi hd M t h
    by_cases q : L < 5 * i + 5
    · unfold wL_law_18
      exact ifp ((law_end hL hi).mpr q) rfl
    · have k : ∀ k, k < 5 → vp_in (nI (5 * i) + nI k) L := fun k hk => by rw [nK_add]; exact vp_nI hL (by omega)
      refine law_body (vp_nI hL (by omega)) (k 1 (by omega)) (k 2 (by omega)) (k 3 (by omega)) (k 4 (by omega)) (fun z => q ((law_end hL hi).mp z)) (fun M t h => ?_) h
      unfold wL_law_1562
      have e : nI (5 * i) + 5 = nI (5 * (i + 1)) := (nK_add (5 * i) 5).trans (by congr 1)
      rw [e]
      exact ih (i + 1) (by omega) (by omega) M t h
/-- the new objects -/
theorem bz (a j : Nat) : blo a j ≤ 0 ∧ 0 ≤ bhi a j := by
  refine ⟨?_, ?_⟩
  · unfold blo
    repeat' split
    all_goals decide
  · unfold bhi
    repeat' split
    all_goals decide
theorem tm0_ok : ∀ p ∈ tM0, ∀ j, j < p.2.length → blo p.1 j ≤ nI (p.2.getD j 0) ∧ nI (p.2.getD j 0) ≤ bhi p.1 j := by decide +kernel
theorem lk_mm : ∀ (t : List (Nat × List Nat)) (a : Nat) (l : List Nat), t.lookup a = some l → (a, l) ∈ t
  | [], _, _, h => by simp at h
  | (b, m) :: t, a, l, h => by
    rw [List.lookup_cons] at h
    by_cases e : a = b
    · subst e
      rw [beq_self_eq_true] at h
      have h : some m = some l := h
      rw [Option.some.inj h]
      exact List.mem_cons_self
    · have e2 : (a == b) = false := beq_false_of_ne e
      rw [e2] at h
      exact List.mem_cons_of_mem _ (lk_mm t a l h)
theorem inv_0 : Inv M0 := by
  refine ⟨fun a j => ?_, fun j => sd_zero _, fun j => sd_zero _, fun j => th_0⟩
  show blo a j ≤ nI (((tM0.lookup a).getD []).getD j 0) ∧ nI (((tM0.lookup a).getD []).getD j 0) ≤ bhi a j
  cases e : tM0.lookup a with
  | none => exact bz a j
  | some l =>
    by_cases q : j < l.length
    · exact tm0_ok (a, l) (lk_mm tM0 a l e) j q
    · show blo a j ≤ nI (l.getD j 0) ∧ nI (l.getD j 0) ≤ bhi a j
      have z : l.getD j 0 = 0 := by rw [List.getD_eq_getElem?_getD, List.getElem?_eq_none (by omega)]; rfl
      rw [z]
      exact bz a j
theorem rsh_0 : ∀ k, k < 4 → ((M0 (73 + 2 * k) 0 = -1 ∧ M0 105 k = -4) ∧ ∀ i, i < 40 → M0 (74 + 2 * k) i = M0 107 (40 * k + i)) := by decide +kernel
theorem rt_0 : RT M0 := by
  refine ⟨?_, ?_, by decide +kernel⟩
  · funext j
    rfl
  · intro x
    show (0 : Int32) ≤ nI 0
    decide
theorem rl0_a : (M0 3 0 = M0 81 2 ∧ M0 3 1 = M0 81 3 ∧ M0 3 2 = M0 81 4) ∧ (M0 81 11 = 0 ∧ M0 3 3 = 0) ∧ (0 ≤ M0 81 2 ∧ M0 81 2 ≤ 8) ∧ (0 ≤ M0 81 3 ∧ M0 81 3 ≤ 6) ∧ (M0 87 0 = 0 ∧ M0 87 1 = 0 ∧ M0 11 0 = 0 ∧ M0 11 1 = 0) ∧ (M0 16 3 = 0 ∧ M0 82 16 = 0 ∧ M0 18 3 = 0 ∧ M0 82 65 = 0 ∧ M0 20 3 = 0 ∧ M0 82 78 = 0) ∧ (M0 55 0 = 0 ∧ M0 55 1 = 0 ∧ M0 83 0 = 0 ∧ M0 83 1 = 0) ∧ M0 0 12 = M0 81 48 := by decide +kernel
theorem rl0_b : ∀ q, q < 4 → M0 4 q = M0 84 q ∧ M0 13 q = M0 89 q ∧ M0 89 q = nI q := by decide +kernel
theorem rl0_c : ∀ b, b < 2 → (∀ k, k < 5 → M0 (6 + b) (k + 1) = M0 85 (6 * b + (k + 1)) ∧ M0 (9 + b) (k + 1) = M0 86 (6 * b + (k + 1))) ∧ M0 85 (6 * b) = M0 81 4 ∧ M0 86 (6 * b) = 0 := by decide +kernel
theorem rl0_d : ∀ k, k < 6 → M0 12 k = M0 88 k ∧ M0 88 k = nI k := by decide +kernel
theorem rl0_e : ∀ s, s < 16 → M0 15 s = 0 ∧ M0 82 s = 0 := by decide +kernel
theorem ra_0 : RA M0 M0 := by
  obtain ⟨a1, ⟨a2, a3⟩, a4, a5, ⟨b1, b2, b3, b4⟩, ⟨c1, c2, c3, c4, c5, c6⟩, ⟨d1, d2, d3, d4⟩, a6⟩ := rl0_a
  have no : ∀ w, w < 12 → ¬ nI w < 0 := fun w hw z => by
    have := nJ_ge0 (i := w) (by omega)
    lia
  refine ⟨⟨a1, fun q hq => (rl0_b q hq).1, fun b k hb hk h => ?_, fun b hb => (rl0_c b hb).2.1, fun b k hb hk h => ?_, fun b hb => (rl0_c b hb).2.2, fun b hb => ?_, fun k hk => (rl0_d k hk).1, fun k hk => ⟨k, hk, (rl0_d k hk).2, Iff.rfl, ?_⟩, fun c hc => ⟨(rl0_b c hc).2.1, c, hc, (rl0_b c hc).2.2⟩, a4, a5⟩, ⟨fun s hs => ?_, ⟨?_, fun w hw y => ?_⟩, ⟨?_, fun w hw y => ?_⟩, ?_, fun w hw y => ?_⟩, fun k hk => ?_, a6⟩
  · have := ((rl0_c b hb).1 (k - 1) (by omega)).1
    rw [show k - 1 + 1 = k by omega] at this
    exact this
  · have := ((rl0_c b hb).1 (k - 1) (by omega)).2
    rw [show k - 1 + 1 = k by omega] at this
    exact this
  · rcases (by omega : b = 0 ∨ b = 1) with e | e <;> subst e
    · rw [b1, b3]; exact ⟨rfl, bI_0 _⟩
    · rw [b2, b4]; exact ⟨rfl, bI_0 _⟩
  · rw [a2, a3, bI_0]; rfl
  · show M0 15 s = M0 82 s ∧ TT (M0 82 s)
    rw [(rl0_e s hs).1, (rl0_e s hs).2]
    exact ⟨rfl, Or.inl rfl⟩
  · rw [c2]; exact c1
  · rw [c2] at y; exact absurd y (no w hw)
  · rw [c4]; exact c3
  · rw [c4] at y; exact absurd y (no w (by omega))
  · rw [c6]; exact c5
  · rw [c6] at y; exact absurd y (no w hw)
  · rcases (by omega : k = 0 ∨ k = 1) with e | e <;> subst e
    · exact ⟨by rw [d1, d3], fun z => absurd d1 z⟩
    · exact ⟨by rw [d2, d4], fun z => absurd d2 z⟩
theorem rel_0 : Rel M0 := ⟨⟨inv_0, by decide +kernel, fun k hk => ⟨Or.inl (rsh_0 k hk).1, (rsh_0 k hk).2⟩, rt_0⟩, ra_0⟩
theorem law_in (xs : Nat → Int32) {L : Nat} (hL : L ≤ 320) : wL_law_18 L xs PT (64 + 1) M0 0 0 := law_loop hL xs 64 0 (by omega) (by omega) M0 0 rel_0
