/-! ALL THAT CALLS LEAVE: the law, the scene, the images, on both sides -/
def RIm (M N : MM) : Prop := ∀ k, k < 2 → M 55 k = N 83 k ∧ (M 55 k ≠ 0 → RSg M (56 + 8 * k) (fun j => N 82 (127 * (k + 1) + j)) (N 81 2))
def RA (M N : MM) : Prop := RLw M N ∧ RSg M 14 (N 82) (N 81 2) ∧ RIm M N ∧ M 0 12 = N 81 48
def PO {R : Type} (p q : R → MM → Int64 → Prop) : Prop := ∃ r M1 t1 N1 u1, p r M1 t1 ∧ q r N1 u1 ∧ RA M1 N1
theorem po0 {R : Type} {p q : R → MM → Int64 → Prop} {r r2 : R} {M N : MM} {tl u : Int64} (h : RA M N) (a : p r M tl) (b : q r2 N u) (e : r = r2) : PO p q := ⟨r, M, tl, N, u, a, by rw [e]; exact b, h⟩
theorem po1 {R : Type} {p q : R → MM → Int64 → Prop} {r r2 : R} {M N : MM} {tl u : Int64} (a : p r M tl) (b : q r2 N u) (e : r = r2) (h : RA M N) : PO p q := ⟨r, M, tl, N, u, a, by rw [e]; exact b, h⟩
theorem ra_scene {M N M1 N1 : MM} (h : RA M N) (eC : ∀ a, (a < 14 ∨ (54 ≤ a ∧ a < 72)) → M1 a = M a) (eR : ∀ a, (a = 81 ∨ (83 ≤ a ∧ a < 90)) → N1 a = N a) (e82 : ∀ j, 127 ≤ j → N1 82 j = N 82 j) (s : RSg M1 14 (N1 82) (N1 81 2)) : RA M1 N1 := by
  obtain ⟨h1, _, h3, h4⟩ := h
  refine ⟨rl_eq h1 (fun a ha => eC a (Or.inl (by revert ha; revert a; decide))) (fun a ha => eR a (by revert ha; revert a; decide)) (fun j _ => by rw [eR 81 (by omega)]), s, fun k hk => ?_, by rw [eC 0 (by omega), eR 81 (by omega)]; exact h4⟩
  have x := h3 k hk
  rw [eC 55 (by omega), eR 83 (by omega), eR 81 (by omega)]
  refine ⟨x.1, fun z => ?_⟩
  refine rsg_g (rsg_m (x.2 z) (eC _ (by omega)) (by rw [eC _ (by omega)]) (eC _ (by omega)) (by rw [eC _ (by omega)]) (eC _ (by omega)) (by rw [eC _ (by omega)]) (eC _ (by omega))) (fun j hj => ?_)
  exact e82 _ (by omega)
theorem ra_rls {M N : MM} (h : RA M N) (i : Inv N) : RLS M N := ⟨h.1, h.2.1, i.2.1⟩
/-! changes of the scene -/
theorem rsg_thing {M M1 : MM} {g g1 : Nat → Int32} {L v : Int32} {s : Nat} (h : RSg M 14 g L) (hs : s < 16) (hv : TT v) (e15 : ∀ x, M1 15 x = if x = s then v else M 15 x) (eC : ∀ a, 16 ≤ a → a ≤ 21 → M1 a = M a) (eg : ∀ x, g1 x = if x = s then v else g x) : RSg M1 14 g1 L := by
  have s2 : RSg M1 14 g L → True := fun _ => trivial
  obtain ⟨h1, ⟨h2, h3⟩, ⟨h4, h5⟩, h6, h7⟩ := h
  have ge : ∀ x, 16 ≤ x → g1 x = g x := fun x hx => by rw [eg x, if_neg (by omega)]
  refine ⟨fun x hx => ?_, ⟨?_, fun w hw y => ?_⟩, ⟨?_, fun w hw y => ?_⟩, ?_, fun w hw y c hc => ?_⟩
  · show M1 15 x = g1 x ∧ TT (g1 x)
    rw [e15 x, eg x]
    split
    · exact ⟨rfl, hv⟩
    · exact h1 x hx
  · rw [eC (14 + 2) (by omega) (by omega), ge 16 (by omega)]; exact h2
  · rw [ge 16 (by omega)] at y
    rw [eC (14 + 3) (by omega) (by omega), ge (17 + (4 * w + 3)) (by omega), ge (17 + (4 * w + 2)) (by omega)]
    exact ⟨fun c hc => by rw [ge _ (by omega)]; exact (h3 w hw y).1 c hc, (h3 w hw y).2⟩
  · rw [eC (14 + 4) (by omega) (by omega), ge 65 (by omega)]; exact h4
  · rw [ge 65 (by omega)] at y
    rw [eC (14 + 5) (by omega) (by omega), ge (66 + (2 * w + 1)) (by omega)]
    exact ⟨fun c hc => by rw [ge _ (by omega)]; exact (h5 w hw y).1 c hc, (h5 w hw y).2⟩
  · rw [eC (14 + 6) (by omega) (by omega), ge 78 (by omega)]; exact h6
  · rw [ge 78 (by omega)] at y
    rw [eC (14 + 7) (by omega) (by omega), ge (79 + (4 * w + c)) (by omega)]
    exact h7 w hw y c hc
section R4
variable {M : MM} {a n : Nat} {v1 v2 v3 v4 : Int32}
theorem row4_ne {b : Nat} (h1 : b ≠ a) (h2 : b ≠ a + 1) : row4 M a n v1 v2 v3 v4 b = M b := by
  unfold row4
  rw [mset_ne h2, mset_ne h2, mset_ne h2, mset_ne h2, mset_ne h1]
theorem row4_sz : row4 M a n v1 v2 v3 v4 a 3 = nI (n + 1) := by
  unfold row4
  rw [mset_ne (by omega), mset_ne (by omega), mset_ne (by omega), mset_ne (by omega), mset_at]
theorem row4_o {j : Nat} (h : j < 4 * n ∨ 4 * n + 4 ≤ j) : row4 M a n v1 v2 v3 v4 (a + 1) j = M (a + 1) j := by
  unfold row4
  rw [mset_nk (by omega), mset_nk (by omega), mset_nk (by omega), mset_nk (by omega), mset_ne (by omega)]
theorem row4_c {g : Nat → Int32} {o : Nat} (h0 : g (o + (4 * n + 0)) = v1) (h1 : g (o + (4 * n + 1)) = v2) (h2 : g (o + (4 * n + 2)) = v3) (h3 : g (o + (4 * n + 3)) = v4) : ∀ c, c < 4 → row4 M a n v1 v2 v3 v4 (a + 1) (4 * n + c) = g (o + (4 * n + c)) := by
  intro c hc
  rcases (by omega : c = 0 ∨ c = 1 ∨ c = 2 ∨ c = 3) with e | e | e | e <;> subst e
  · rw [h0]; unfold row4; rw [mset_nk (by omega), mset_nk (by omega), mset_nk (by omega)]; exact mset_at _ _ _ _
  · rw [h1]; unfold row4; rw [mset_nk (by omega), mset_nk (by omega), mset_at]
  · rw [h2]; unfold row4; rw [mset_nk (by omega), mset_at]
  · rw [h3]; unfold row4; rw [mset_at]
end R4
theorem rsg_work {M : MM} {g g1 : Nat → Int32} {L v1 v2 v3 v4 : Int32} {n : Nat} (h : RSg M 14 g L) (hn : n < 12) (en : g 16 = nI n) (hv : TT v4) (hl : v3 < L) (e16 : g1 16 = nI (n + 1)) (h0 : g1 (17 + (4 * n + 0)) = v1) (h1 : g1 (17 + (4 * n + 1)) = v2) (h2 : g1 (17 + (4 * n + 2)) = v3) (h3 : g1 (17 + (4 * n + 3)) = v4) (eg : ∀ x, x ≠ 16 → (x < 17 + 4 * n ∨ 17 + 4 * n + 4 ≤ x) → g1 x = g x) : RSg (row4 M 16 n v1 v2 v3 v4) 14 g1 L := by
  obtain ⟨k1, ⟨k2, k3⟩, ⟨k4, k5⟩, k6, k7⟩ := h
  refine ⟨fun x hx => ?_, ⟨?_, fun w hw y => ?_⟩, ⟨?_, fun w hw y => ?_⟩, ?_, fun w hw y c hc => ?_⟩
  · rw [row4_ne (by omega) (by omega), eg x (by omega) (by omega)]; exact k1 x hx
  · rw [e16]; exact row4_sz
  · rw [e16] at y
    have y := (kI_lt (by omega) (by omega)).mp y
    by_cases z : w = n
    · subst z
      exact ⟨row4_c h0 h1 h2 h3, by rw [h3]; exact hv, by rw [h2]; exact hl⟩
    · have q := k3 w hw (by rw [en]; exact (kI_lt (by omega) (by omega)).mpr (by omega))
      rw [eg (17 + (4 * w + 3)) (by omega) (by omega), eg (17 + (4 * w + 2)) (by omega) (by omega)]
      refine ⟨fun c hc => ?_, q.2⟩
      rw [eg (17 + (4 * w + c)) (by omega) (by omega), ← q.1 c hc]
      exact row4_o (by omega)
  · rw [row4_ne (by omega) (by omega), eg 65 (by omega) (by omega)]; exact k4
  · rw [eg 65 (by omega) (by omega)] at y
    rw [row4_ne (by omega) (by omega), eg (66 + (2 * w + 1)) (by omega) (by omega)]
    exact ⟨fun c hc => by rw [eg _ (by omega) (by omega)]; exact (k5 w hw y).1 c hc, (k5 w hw y).2⟩
  · rw [row4_ne (by omega) (by omega), eg 78 (by omega) (by omega)]; exact k6
  · rw [eg 78 (by omega) (by omega)] at y
    rw [row4_ne (by omega) (by omega), eg (79 + (4 * w + c)) (by omega) (by omega)]
    exact k7 w hw y c hc
theorem rsg_seen {M : MM} {g g1 : Nat → Int32} {L v1 v2 v3 v4 : Int32} {n : Nat} (h : RSg M 14 g L) (hn : n < 12) (en : g 78 = nI n) (e78 : g1 78 = nI (n + 1)) (h0 : g1 (79 + (4 * n + 0)) = v1) (h1 : g1 (79 + (4 * n + 1)) = v2) (h2 : g1 (79 + (4 * n + 2)) = v3) (h3 : g1 (79 + (4 * n + 3)) = v4) (eg : ∀ x, x ≠ 78 → (x < 79 + 4 * n ∨ 79 + 4 * n + 4 ≤ x) → g1 x = g x) : RSg (row4 M 20 n v1 v2 v3 v4) 14 g1 L := by
  obtain ⟨k1, ⟨k2, k3⟩, ⟨k4, k5⟩, k6, k7⟩ := h
  refine ⟨fun x hx => ?_, ⟨?_, fun w hw y => ?_⟩, ⟨?_, fun w hw y => ?_⟩, ?_, fun w hw y c hc => ?_⟩
  · rw [row4_ne (by omega) (by omega), eg x (by omega) (by omega)]; exact k1 x hx
  · rw [row4_ne (by omega) (by omega), eg 16 (by omega) (by omega)]; exact k2
  · rw [eg 16 (by omega) (by omega)] at y
    rw [row4_ne (by omega) (by omega), eg (17 + (4 * w + 3)) (by omega) (by omega), eg (17 + (4 * w + 2)) (by omega) (by omega)]
    exact ⟨fun c hc => by rw [eg _ (by omega) (by omega)]; exact (k3 w hw y).1 c hc, (k3 w hw y).2⟩
  · rw [row4_ne (by omega) (by omega), eg 65 (by omega) (by omega)]; exact k4
  · rw [eg 65 (by omega) (by omega)] at y
    rw [row4_ne (by omega) (by omega), eg (66 + (2 * w + 1)) (by omega) (by omega)]
    exact ⟨fun c hc => by rw [eg _ (by omega) (by omega)]; exact (k5 w hw y).1 c hc, (k5 w hw y).2⟩
  · rw [e78]; exact row4_sz
  · rw [e78] at y
    have y := (kI_lt (by omega) (by omega)).mp y
    by_cases z : w = n
    · subst z
      exact row4_c h0 h1 h2 h3 c hc
    · have q := k7 w hw (by rw [en]; exact (kI_lt (by omega) (by omega)).mpr (by omega)) c hc
      rw [eg (79 + (4 * w + c)) (by omega) (by omega), ← q]
      exact row4_o (by omega)
theorem rsg_want {M : MM} {g g1 : Nat → Int32} {L v1 v2 : Int32} {n : Nat} (h : RSg M 14 g L) (hn : n < 6) (en : g 65 = nI n) (hv : 1 ≤ v2) (e65 : g1 65 = nI (n + 1)) (h0 : g1 (66 + (2 * n + 0)) = v1) (h1 : g1 (66 + (2 * n + 1)) = v2) (eg : ∀ x, x ≠ 65 → (x < 66 + 2 * n ∨ 66 + 2 * n + 2 ≤ x) → g1 x = g x) : RSg (row2 M 18 n v1 v2) 14 g1 L := by
  have ne : ∀ b, b ≠ 18 → b ≠ 19 → row2 M 18 n v1 v2 b = M b := fun b z1 z2 => by
    unfold row2
    rw [mset_ne z2, mset_ne z2, mset_ne z1]
  obtain ⟨k1, ⟨k2, k3⟩, ⟨k4, k5⟩, k6, k7⟩ := h
  refine ⟨fun x hx => ?_, ⟨?_, fun w hw y => ?_⟩, ⟨?_, fun w hw y => ?_⟩, ?_, fun w hw y c hc => ?_⟩
  · rw [ne _ (by omega) (by omega), eg x (by omega) (by omega)]; exact k1 x hx
  · rw [ne _ (by omega) (by omega), eg 16 (by omega) (by omega)]; exact k2
  · rw [eg 16 (by omega) (by omega)] at y
    rw [ne _ (by omega) (by omega), eg (17 + (4 * w + 3)) (by omega) (by omega), eg (17 + (4 * w + 2)) (by omega) (by omega)]
    exact ⟨fun c hc => by rw [eg _ (by omega) (by omega)]; exact (k3 w hw y).1 c hc, (k3 w hw y).2⟩
  · rw [e65]
    show row2 M 18 n v1 v2 18 3 = nI (n + 1)
    unfold row2
    rw [mset_ne (by omega), mset_ne (by omega), mset_at]
  · rw [e65] at y
    have y := (kI_lt (by omega) (by omega)).mp y
    by_cases z : w = n
    · subst z
      rw [h1]
      refine ⟨fun c hc => ?_, hv⟩
      rcases (by omega : c = 0 ∨ c = 1) with e | e <;> subst e
      · rw [h0]
        show row2 M 18 w v1 v2 19 (2 * w + 0) = v1
        unfold row2
        rw [mset_nk (by omega)]
        exact mset_at _ _ _ _
      · rw [h1]
        show row2 M 18 w v1 v2 19 (2 * w + 1) = v2
        unfold row2
        rw [mset_at]
    · have q := k5 w hw (by rw [en]; exact (kI_lt (by omega) (by omega)).mpr (by omega))
      rw [eg (66 + (2 * w + 1)) (by omega) (by omega)]
      refine ⟨fun c hc => ?_, q.2⟩
      rw [eg (66 + (2 * w + c)) (by omega) (by omega), ← q.1 c hc]
      show row2 M 18 n v1 v2 19 (2 * w + c) = M 19 (2 * w + c)
      unfold row2
      rw [mset_nk (by omega), mset_nk (by omega), mset_ne (by omega)]
  · rw [ne _ (by omega) (by omega), eg 78 (by omega) (by omega)]; exact k6
  · rw [eg 78 (by omega) (by omega)] at y
    rw [ne _ (by omega) (by omega), eg (79 + (4 * w + c)) (by omega) (by omega)]
    exact k7 w hw y c hc
/-- WORKS, WANTS or what was SEEN, no more -/
theorem rsg_none {M : MM} {g g1 : Nat → Int32} {L : Int32} {a o : Nat} (h : RSg M 14 g L) (ha : (a = 16 ∧ o = 16) ∨ (a = 18 ∧ o = 65) ∨ (a = 20 ∧ o = 78)) (eg : ∀ x, g1 x = if x = o then 0 else g x) : RSg (mset M a 3 0) 14 g1 L := by
  obtain ⟨k1, ⟨k2, k3⟩, ⟨k4, k5⟩, k6, k7⟩ := h
  have ge : ∀ x, x ≠ o → g1 x = g x := fun x hx => by rw [eg x, if_neg hx]
  have gz : g1 o = 0 := by rw [eg o, if_pos rfl]
  have no : ∀ w, w < 12 → ¬ nI w < 0 := fun w hw z => by
    have := nJ_ge0 (i := w) (by omega)
    lia
  refine ⟨fun x hx => ?_, ⟨?_, fun w hw y => ?_⟩, ⟨?_, fun w hw y => ?_⟩, ?_, fun w hw y c hc => ?_⟩
  · rw [mset_ne (by omega), ge x (by omega)]; exact k1 x hx
  · rcases ha with ⟨e1, e2⟩ | ⟨e1, e2⟩ | ⟨e1, e2⟩ <;> subst e1 e2
    · rw [gz]; exact mset_at _ _ _ _
    · rw [mset_ne (by omega), ge 16 (by omega)]; exact k2
    · rw [mset_ne (by omega), ge 16 (by omega)]; exact k2
  · by_cases z : o = 16
    · subst z; rw [gz] at y; exact absurd y (no w hw)
    · rw [ge 16 (fun q => z q.symm)] at y
      rw [mset_ne (by omega), ge (17 + (4 * w + 3)) (by omega), ge (17 + (4 * w + 2)) (by omega)]
      exact ⟨fun c hc => by rw [ge _ (by omega)]; exact (k3 w hw y).1 c hc, (k3 w hw y).2⟩
  · rcases ha with ⟨e1, e2⟩ | ⟨e1, e2⟩ | ⟨e1, e2⟩ <;> subst e1 e2
    · rw [mset_ne (by omega), ge 65 (by omega)]; exact k4
    · rw [gz]; exact mset_at _ _ _ _
    · rw [mset_ne (by omega), ge 65 (by omega)]; exact k4
  · by_cases z : o = 65
    · subst z; rw [gz] at y; exact absurd y (no w (by omega))
    · rw [ge 65 (fun q => z q.symm)] at y
      rw [mset_ne (by omega), ge (66 + (2 * w + 1)) (by omega)]
      exact ⟨fun c hc => by rw [ge _ (by omega)]; exact (k5 w hw y).1 c hc, (k5 w hw y).2⟩
  · rcases ha with ⟨e1, e2⟩ | ⟨e1, e2⟩ | ⟨e1, e2⟩ <;> subst e1 e2
    · rw [mset_ne (by omega), ge 78 (by omega)]; exact k6
    · rw [mset_ne (by omega), ge 78 (by omega)]; exact k6
    · rw [gz]; exact mset_at _ _ _ _
  · by_cases z : o = 78
    · subst z; rw [gz] at y; exact absurd y (no w hw)
    · rw [ge 78 (fun q => z q.symm)] at y
      rw [mset_ne (by omega), ge (79 + (4 * w + c)) (by omega)]
      exact k7 w hw y c hc
theorem m82 {N : MM} {s : Nat} {v : Int32} (x : Nat) : mset N 82 s v 82 x = if x = s then v else N 82 x := by
  rw [mset_if]
  simp
