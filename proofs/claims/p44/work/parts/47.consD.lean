/-! THE TWO GREAT CONSTRUCTORS (printed by wip/gen/cons2.py) -/
theorem nd_of {ws : va_W} (h : ∀ (i j : Nat) (p q : Nat × va_E), ws[i]? = some p → ws[j]? = some q → p.1 = q.1 → i = j) : List.Pairwise (fun x y : Nat × va_E => x.1 ≠ y.1) ws := by
  rw [List.pairwise_iff_getElem]
  intro i j hi hj hij e
  have := h i j ws[i] ws[j] (List.getElem?_eq_getElem hi) (List.getElem?_eq_getElem hj) e
  omega
theorem nd_to {ws : va_W} (h : List.Pairwise (fun x y : Nat × va_E => x.1 ≠ y.1) ws) : ∀ (i j : Nat) (p q : Nat × va_E), ws[i]? = some p → ws[j]? = some q → p.1 = q.1 → i = j := by
  rw [List.pairwise_iff_getElem] at h
  intro i j p q hi hj e
  obtain ⟨hi', ei⟩ := List.getElem?_eq_some_iff.mp hi
  obtain ⟨hj', ej⟩ := List.getElem?_eq_some_iff.mp hj
  rcases Nat.lt_trichotomy i j with hl | hl | hl
  · exact absurd (by rw [ei, ej]; exact e) (h i j hi' hj' hl)
  · exact hl
  · exact absurd (by rw [ei, ej]; exact e.symm) (h j i hj' hi' hl)
section TPM
variable {E : EV} {k z : MD} {cu su : Nat} {ws ws2 : va_W} {pc : Nat} {l : List (Nat × Value)} {st rest As : List Value} {Φ : Option Value → va_W → Prop}
theorem tj_perm (h : List.Perm ws2 ws) (kk : T E k cu su ws2 pc l st Φ) : T E k cu su ws pc l st Φ := by
  intro p L e s m args below meth c A Q H locs ls hC hE hA hP hD hS hl hF
  have hm : ∀ (i : Nat) (q : Nat × va_E), ws2[i]? = some q → ∃ j, ws[j]? = some q := fun i q hi => List.getElem?_of_mem (h.mem_iff.mp (List.mem_of_getElem? hi))
  refine kk p L e s m args below meth c A Q H locs ls hC hE hA (fun i q hi => ?_) ⟨nd_to ((h.pairwise_iff (fun hh => Ne.symm hh)).mpr (nd_of hD.1)), fun i q hi => ?_⟩ hS hl hF
  · obtain ⟨j, hj⟩ := hm i q hi
    exact hP j q hj
  · obtain ⟨j, hj⟩ := hm i q hi
    exact hD.2 j q hj
theorem tj_in {o x : Nat × va_E} {W0 : va_W} (kk : T E k cu su (o :: x :: W0) pc l st Φ) : T E k cu su ((o :: W0) ++ [x]) pc l st Φ :=
  tj_perm (List.Perm.cons o (List.perm_append_comm (l₁ := [x]) (l₂ := W0))) kk
theorem tj_callIZ {o x : Nat × va_E} {W0 : va_W} {idx n np a : Nat} (hn : pc + 3 = n) (hd : decode k.2.1 pc = .ok (.invokespecial idx, 3)) (hst : st = As.reverse ++ .ref a :: rest) (hlk : Cond.methodLink k.1.cls idx z.1 ∈ TB) (hok : MokI z np) (hnp : As.length = np) (hR : RoomOk k z cu su) (hlen : (lg_sl (.ref a :: As)).length ≤ z.2.2.1) (hcat : (rest.map fun v => v.category).sum ≤ 8)
    (hm : Tm E z [x] (.ref a :: As) (fun r ws' => T E k (cu + z.2.2.2.2.2.2.1) (su + z.2.2.2.2.2.2.2) (o :: (ws' ++ W0)) n l (pushR r rest) Φ)) : T E k cu su (o :: x :: W0) pc l st Φ :=
  tj_perm (List.Perm.cons o (List.perm_append_comm (l₁ := W0) (l₂ := [x]))) (tj_callIX (wr := o :: W0) (wc := [x]) hn hd hst hlk hok hnp hR hlen hcat (tj_mono hm (fun r w h => tj_perm (List.Perm.cons o (List.perm_append_comm (l₁ := w) (l₂ := W0))) h)))
theorem tj_callINZ {o x : Nat × va_E} {W0 : va_W} {idx n np a : Nat} (hn : pc + 3 = n) (hd : decode k.2.1 pc = .ok (.invokespecial idx, 3)) (hst : st = As.reverse ++ .ref a :: rest) (hlk : (k.1.cls, idx, z.1) ∈ nestL) (hok : MokI z np) (hnp : As.length = np) (hR : RoomOk k z cu su) (hlen : (lg_sl (.ref a :: As)).length ≤ z.2.2.1) (hcat : (rest.map fun v => v.category).sum ≤ 8)
    (hm : Tm E z [x] (.ref a :: As) (fun r ws' => T E k (cu + z.2.2.2.2.2.2.1) (su + z.2.2.2.2.2.2.2) (o :: (ws' ++ W0)) n l (pushR r rest) Φ)) : T E k cu su (o :: x :: W0) pc l st Φ :=
  tj_perm (List.Perm.cons o (List.perm_append_comm (l₁ := W0) (l₂ := [x]))) (tj_callINX (wr := o :: W0) (wc := [x]) hn hd hst hlk hok hnp hR hlen hcat (tj_mono hm (fun r w h => tj_perm (List.Perm.cons o (List.perm_append_comm (l₁ := w) (l₂ := W0))) h)))
end TPM
def WSI (is : List Nat) (E : EV) (ad : Nat → Nat) (M : Nat → Nat → Int32) (tl : Int64) : va_W := is.map fun i => (ad i, cellR E.2.1 ad i (M i) tl)
theorem wsi_perm {is js : List Nat} {E : EV} {ad : Nat → Nat} {M : Nat → Nat → Int32} {tl : Int64} (h : List.Perm is js) : List.Perm (WSI is E ad M tl) (WSI js E ad M tl) := h.map _
