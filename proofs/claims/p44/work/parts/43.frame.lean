/-! THE FRAME: a call over a part of the world (the callee's cells last); the same cells told otherwise. -/
theorem fr_l {α : Type} {wr wc : List α} {k : Nat} {q : α} (h : wr[k]? = some q) : (wr ++ wc)[k]? = some q := by
  rw [List.getElem?_append_left (List.getElem?_eq_some_iff.mp h).1]; exact h
theorem fr_r {α : Type} {wr wc : List α} {k : Nat} {q : α} (h : wc[k]? = some q) : (wr ++ wc)[wr.length + k]? = some q := by
  rw [List.getElem?_append_right (Nat.le_add_right _ _), Nat.add_sub_cancel_left]; exact h
theorem fr_Pl {D : va_G} {cl : List vw_C} {wr wc : va_W} {H : Heap} (h : va_P D cl (wr ++ wc) H) : va_P D cl wr H := fun k q hk => h k q (fr_l hk)
theorem fr_Pr {D : va_G} {cl : List vw_C} {wr wc : va_W} {H : Heap} (h : va_P D cl (wr ++ wc) H) : va_P D cl wc H := fun k q hk => h _ q (fr_r hk)
theorem fr_Dl {A : Nat → Prop} {wr wc : va_W} (h : va_D A (wr ++ wc)) : va_D A wr := ⟨fun i j p q hi hj => h.1 i j p q (fr_l hi) (fr_l hj), fun k q hk => h.2 k q (fr_l hk)⟩
theorem fr_Dr {A : Nat → Prop} {wr wc : va_W} (h : va_D A (wr ++ wc)) : va_D A wc := ⟨fun i j p q hi hj hpq => by have := h.1 _ _ p q (fr_r hi) (fr_r hj) hpq; omega, fun k q hk => h.2 _ q (fr_r hk)⟩
theorem fr_join {A0 : Nat → Prop} {D : va_G} {cl : List vw_C} {wc wr w1 : va_W} {H H1 : Heap} (hP : va_P D cl (wr ++ wc) H) (hD : va_D A0 (wr ++ wc))
    (hk : ∀ q : Nat, q < H.size → ¬ va_A wc H.size q → H1[q]? = H[q]?) (hF : ∀ q, va_A wc H.size q → A0 q) (hP1 : va_P D cl w1 H1) (hD1 : va_D (va_A wc H.size) w1) : va_P D cl (wr ++ w1) H1 ∧ va_D A0 (wr ++ w1) := by
  have apart : ∀ (k : Nat) (q : Nat × va_E), wr[k]? = some q → q.1 < H.size ∧ ¬ va_A wc H.size q.1 := by
    intro k q hq
    have h2 := fr_l (wc := wc) hq
    have hl := (hP k q h2).lt
    refine ⟨hl, fun h => ?_⟩
    rcases h with ⟨k2, e, h⟩ | h
    · have hij := hD.1 _ _ q (q.1, e) h2 (fr_r h) rfl
      have := (List.getElem?_eq_some_iff.mp hq).1
      omega
    · omega
  refine ⟨va_P.app (fun k q hq => ?_) hP1, va_D.app (fr_Dl hD) (hD1.weaken (fun k q _ h => hF q.1 h)) (fun i j x y hx hy hxy => ?_)⟩
  · obtain ⟨g1, g2⟩ := apart k q hq
    exact (hP k q (fr_l hq)).kept (hk q.1 g1 g2)
  · exact (apart i x hx).2 (by rw [hxy]; exact hD1.2 j y hy)
section WCX
variable {p : Program} {L : Launch} {e : Env} {R : Room} {s : State} {m : MethodId} {args : Array Value} {below : List Frame} {meth : Method} {c : Code} {H : Heap} {locs : List Loc} {cells slots : Nat} {Q : State → Prop}
variable {pc : Nat} {ls : Array Slot} {rest st0 : List Value} {a : Array Value} {A0 : Nat → Prop} {mc ms : Nat}
theorem w_callX {E : EV} {wr wc : va_W} {Ψ : Option Value → va_W → Prop} (hr : va_Run p L e R s m args below meth c H locs cells slots mc ms (F0 m pc ls st0) rest (Qm E wc H.size Ψ a) (va_A wc H.size)) (hP : va_P E.1 vwCl (wr ++ wc) H) (hD : va_D A0 (wr ++ wc)) (hA : ∀ q, s.heap.size ≤ q → A0 q) (hS : va_S A0 s.heap H locs)
    (kk : ∀ (r : Option Value) (ws' : va_W) (H1 : Heap) (locs1 : List Loc), Ψ r ws' → va_P E.1 vwCl (wr ++ ws') H1 → va_D A0 (wr ++ ws') → va_S A0 s.heap H1 locs1 → W p L e R s m args below meth c H1 locs1 (cells + mc) (slots + ms) Q (F0 m (pc + 3) ls (pushR r rest))) : W p L e R s m args below meth c H locs cells slots Q (F0 m pc ls st0) := by
  have hF := w_free (fr_Dr hD) hA hS
  intro T hT X
  obtain ⟨v, st₀, t, T', L1, h0, X', hL, e1, e2, ⟨⟨r, ws', hv, hp, hP', hD'⟩, hz, hk⟩, st⟩ := hr T hT X
  cases hv
  rw [h0] at hz hk
  have hj := fr_join (H1 := t.heap) hP hD hk hF hP' hD'
  have hkk := kk v ws' T'.heap (locs ++ L1) hp (by rw [e1]; exact hj.1) hj.2
    ⟨Nat.le_trans hS.1 (by rw [e1]; exact hz), fun q h1 h2 => by rw [e1, hk q (Nat.lt_of_lt_of_le h1 hS.1) (fun z => h2 (hF q z))]; exact hS.2.1 q h1 h2, fun q hq => by
      rcases List.mem_append.mp hq with h | h
      · exact hS.2.2 q h
      · exact hF _ (hL q h)⟩
  obtain ⟨t2, a1, b1⟩ := hkk T' rfl X'
  refine ⟨t2, st t2 ?_, b1⟩
  cases v <;> exact a1
end WCX
section TCX
variable {E : EV} {k z : MD} {cu su : Nat} {wr wc : va_W} {pc : Nat} {l : List (Nat × Value)} {st rest As : List Value} {Φ : Option Value → va_W → Prop}
theorem tj_callVX {idx n np a q ci : Nat} {fs : List Value} {r0 : vw_C} (hn : pc + 3 = n) (hd : decode k.2.1 pc = .ok (.invokevirtual idx, 3)) (hst : st = As.reverse ++ .ref a :: rest) (hlk : Cond.methodLink k.1.cls idx z.1 ∈ TB) (hok : MokV z np) (hnp : As.length = np) (hR : RoomOk k z cu su) (hlen : (lg_sl (.ref a :: As)).length ≤ z.2.2.1) (hcat : (rest.map fun v => v.category).sum ≤ 8)
    (he : wc[q]? = some (a, .inr (ci, fs))) (hc : vwCl[ci]? = some r0) (hcn : r0.1 = z.1.cls) (hm : Tm E z wc (.ref a :: As) (fun r ws' => T E k (cu + z.2.2.2.2.2.2.1) (su + z.2.2.2.2.2.2.2) (wr ++ ws') n l (pushR r rest) Φ)) : T E k cu su (wr ++ wc) pc l st Φ := by
  subst hn
  subst hst
  intro p L e s m args below meth c A Q H locs ls hC hE hA hP hD hS hl hF
  have hts := hC.2.2.2.2.1
  refine w_callX (va_runV (As := As) (rest := rest) (C := z.1.cls) (ws := md_ws z) (rm := md_rm z) (bytes := z.2.1) (maxL := z.2.2.1) (ret := z.2.2.2.1) ⟨hC.1, hC.2.1, hC.2.2.1, hC.2.2.2.1, hts⟩ (met_of L H.size hok.1.2.2.1 hlen hm) ⟨callB_of np hts (good_ws hok.1) rfl rfl rfl (hts _ hok.1.2.1) (hts _ hlk) hok.1.2.2.2 hR.1, hts _ hok.2.1, hts _ hok.2.2⟩ ⟨pm_blind, by rw [← hcn]; exact va_recv hE.1 (fr_Pr hP) hc he, fun U hU hW => ⟨rfl, by rw [hU], by rw [hU]; exact fr_Pr hP, (fr_Dr hD).weaken (fun _ _ _ _ => trivial), exs_call hE hS (w_free (fr_Dr hD) hA hS) hU hW⟩⟩ rfl hnp hl.1 rfl (lv_room hcat) hd hR.2) hP hD hA hS
    (fun r ws' H1 locs1 hΨ hP1 hD1 hS1 => hΨ p L e s m args below meth c A Q H1 locs1 ls hC hE hA hP1 hD1 hS1 hl hF)
theorem tj_callIX {idx n np a : Nat} (hn : pc + 3 = n) (hd : decode k.2.1 pc = .ok (.invokespecial idx, 3)) (hst : st = As.reverse ++ .ref a :: rest) (hlk : Cond.methodLink k.1.cls idx z.1 ∈ TB) (hok : MokI z np) (hnp : As.length = np) (hR : RoomOk k z cu su) (hlen : (lg_sl (.ref a :: As)).length ≤ z.2.2.1) (hcat : (rest.map fun v => v.category).sum ≤ 8)
    (hm : Tm E z wc (.ref a :: As) (fun r ws' => T E k (cu + z.2.2.2.2.2.2.1) (su + z.2.2.2.2.2.2.2) (wr ++ ws') n l (pushR r rest) Φ)) : T E k cu su (wr ++ wc) pc l st Φ := by
  subst hn
  subst hst
  intro p L e s m args below meth c A Q H locs ls hC hE hA hP hD hS hl hF
  have hts := hC.2.2.2.2.1
  refine w_callX (va_runI (As := As) (rest := rest) (ws := md_ws z) (rm := md_rm z) (bytes := z.2.1) (maxL := z.2.2.1) ⟨hC.1, hC.2.1, hC.2.2.1, hC.2.2.2.1, hts⟩ (met_of L H.size hok.1.2.2.1 hlen hm) ⟨callB_of np hts (good_ws hok.1) (by unfold md_ws; rw [hok.2.2.2]) rfl rfl (hts _ hok.1.2.1) (hts _ hlk) hok.1.2.2.2 hR.1, hok.2.2.1, hts _ hok.2.1⟩ ⟨pm_blind, fun U hU hW => ⟨rfl, by rw [hU], by rw [hU]; exact fr_Pr hP, (fr_Dr hD).weaken (fun _ _ _ _ => trivial), exs_call hE hS (w_free (fr_Dr hD) hA hS) hU hW⟩⟩ rfl hnp hl.1 rfl (lv_room hcat) hd hR.2) hP hD hA hS
    (fun r ws' H1 locs1 hΨ hP1 hD1 hS1 => hΨ p L e s m args below meth c A Q H1 locs1 ls hC hE hA hP1 hD1 hS1 hl hF)
theorem tj_callINX {idx n np a : Nat} (hn : pc + 3 = n) (hd : decode k.2.1 pc = .ok (.invokespecial idx, 3)) (hst : st = As.reverse ++ .ref a :: rest) (hlk : (k.1.cls, idx, z.1) ∈ nestL) (hok : MokI z np) (hnp : As.length = np) (hR : RoomOk k z cu su) (hlen : (lg_sl (.ref a :: As)).length ≤ z.2.2.1) (hcat : (rest.map fun v => v.category).sum ≤ 8)
    (hm : Tm E z wc (.ref a :: As) (fun r ws' => T E k (cu + z.2.2.2.2.2.2.1) (su + z.2.2.2.2.2.2.2) (wr ++ ws') n l (pushR r rest) Φ)) : T E k cu su (wr ++ wc) pc l st Φ := by
  subst hn
  subst hst
  intro p L e s m args below meth c A Q H locs ls hC hE hA hP hD hS hl hF
  have hts := hC.2.2.2.2.1
  refine w_callX (va_runIN (As := As) (rest := rest) (ws := md_ws z) (rm := md_rm z) (bytes := z.2.1) (maxL := z.2.2.1) (host := "HouseTwins") ⟨hC.1, hC.2.1, hC.2.2.1, hC.2.2.2.1, hts⟩ (met_of L H.size hok.1.2.2.1 hlen hm) ⟨va_cnB np hts (good_ws hok.1) (by unfold md_ws; rw [hok.2.2.2]) rfl rfl (hE.2.2.2.2.2.1.1 _ hlk) (hts _ hok.1.2.1) hok.1.2.2.2 hR.1, hok.2.2.1, hts _ hok.2.1⟩ ⟨pm_blind, fun U hU hW => ⟨rfl, by rw [hU], by rw [hU]; exact fr_Pr hP, (fr_Dr hD).weaken (fun _ _ _ _ => trivial), exs_call hE hS (w_free (fr_Dr hD) hA hS) hU hW⟩⟩ rfl hnp hl.1 rfl (lv_room hcat) hd hR.2) hP hD hA hS
    (fun r ws' H1 locs1 hΨ hP1 hD1 hS1 => hΨ p L e s m args below meth c A Q H1 locs1 ls hC hE hA hP1 hD1 hS1 hl hF)
end TCX
/-! the same cells, told otherwise -/
def ee (e f : va_E) : Prop := e = f ∨ (∃ (c : ClassId) (n : Nat) (g h : Nat → Option Nat), e = .inl (c, n, .inr (.inr (.inr (.inr g)))) ∧ f = .inl (c, n, .inr (.inr (.inr (.inr h)))) ∧ ∀ j, j < n → g j = h j) ∨ ∃ (c : ClassId) (n : Nat) (g h : Nat → Int32), e = .inl (c, n, .inl g) ∧ f = .inl (c, n, .inl h) ∧ ∀ j, j < n → g j = h j
theorem ee_rfl {e : va_E} : ee e e := Or.inl rfl
theorem ee_q {c : ClassId} {n : Nat} {g h : Nat → Option Nat} (hh : ∀ j, j < n → g j = h j) : ee (.inl (c, n, .inr (.inr (.inr (.inr g))))) (.inl (c, n, .inr (.inr (.inr (.inr h))))) := Or.inr (Or.inl ⟨c, n, g, h, rfl, rfl, hh⟩)
theorem ee_i {c : ClassId} {n : Nat} {g h : Nat → Int32} (hh : ∀ j, j < n → g j = h j) : ee (.inl (c, n, .inl g)) (.inl (c, n, .inl h)) := Or.inr (Or.inr ⟨c, n, g, h, rfl, rfl, hh⟩)
theorem ee_at {D : va_G} {cl : List vw_C} {a : Nat} {e f : va_E} {H : Heap} (h : ee e f) (hP : va_at D cl (a, e) H) : va_at D cl (a, f) H := by
  rcases h with h | ⟨c, n, g, g2, h1, h2, h3⟩ | ⟨c, n, g, g2, h1, h2, h3⟩
  · subst h; exact hP
  · subst h1; subst h2
    show H[a]? = some (vp_cell c (n, .inr (.inr (.inr (.inr g2)))))
    rw [vp_cell_q, ← arrV_congr (f := fun j => va_rf (g j)) (fun j hj => by rw [h3 j hj])]
    exact hP
  · subst h1; subst h2
    show H[a]? = some (vp_cell c (n, .inl g2))
    rw [vp_cell_i, ← arrV_congr (f := fun j => .int (g j)) (fun j hj => by rw [h3 j hj])]
    exact hP
def eqv : va_W → va_W → Prop
  | [], [] => True
  | x :: l, y :: m => x.1 = y.1 ∧ ee x.2 y.2 ∧ eqv l m
  | [], _ :: _ => False
  | _ :: _, [] => False
theorem eqv_at : ∀ {w1 w2 : va_W}, eqv w1 w2 → ∀ (k : Nat) (y : Nat × va_E), w2[k]? = some y → ∃ x, w1[k]? = some x ∧ x.1 = y.1 ∧ ee x.2 y.2
  | [], [], _, k, y, h => by cases h
  | [], _ :: _, h, _, _, _ => h.elim
  | _ :: _, [], h, _, _, _ => h.elim
  | x :: l, y0 :: m, h, 0, y, hk => by cases hk; exact ⟨x, rfl, h.1, h.2.1⟩
  | x :: l, y0 :: m, h, k + 1, y, hk => by
    obtain ⟨z, h1, h2⟩ := eqv_at h.2.2 k y hk
    exact ⟨z, h1, h2⟩
theorem eqv_fst : ∀ {w1 w2 : va_W}, eqv w1 w2 → w1.map Prod.fst = w2.map Prod.fst
  | [], [], _ => rfl
  | [], _ :: _, h => h.elim
  | _ :: _, [], h => h.elim
  | x :: l, y0 :: m, h => by rw [List.map_cons, List.map_cons, h.1, eqv_fst h.2.2]
theorem eqv_rfl : ∀ {w : va_W}, eqv w w
  | [] => trivial
  | _ :: _ => ⟨rfl, ee_rfl, eqv_rfl⟩
theorem eqv_app : ∀ {w1 w2 u1 u2 : va_W}, eqv w1 w2 → eqv u1 u2 → eqv (w1 ++ u1) (w2 ++ u2)
  | [], [], _, _, _, h => h
  | [], _ :: _, _, _, h, _ => h.elim
  | _ :: _, [], _, _, h, _ => h.elim
  | _ :: _, _ :: _, _, _, h, g => ⟨h.1, h.2.1, eqv_app h.2.2 g⟩
theorem eqv_P {D : va_G} {cl : List vw_C} {w1 w2 : va_W} {H : Heap} (h : eqv w1 w2) (hP : va_P D cl w1 H) : va_P D cl w2 H := by
  intro k y hk
  obtain ⟨x, h1, h2, h3⟩ := eqv_at h k y hk
  have h4 : va_at D cl (y.1, x.2) H := h2 ▸ hP k x h1
  exact ee_at h3 h4
theorem tj_eqv {E : EV} {k : MD} {cu su : Nat} {ws ws2 : va_W} {pc : Nat} {l : List (Nat × Value)} {st : List Value} {Φ : Option Value → va_W → Prop} (h : eqv ws ws2) (kk : T E k cu su ws2 pc l st Φ) : T E k cu su ws pc l st Φ := by
  intro p L e s m args below meth c A Q H locs ls hC hE hA hP hD hS hl hF
  exact kk p L e s m args below meth c A Q H locs ls hC hE hA (eqv_P h hP) (va_Dmap hD (eqv_fst h)) hS hl hF
