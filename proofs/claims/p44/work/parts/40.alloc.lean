/-! ===== BEGIN new T[n][m]: the outer array a place, the inner ones among the pooled ===== -/
/-- f, but v at every address of l -/
def vr_up {α : Type} (f : Nat → α) (l : List Nat) (v : α) : Nat → α := fun a => if a ∈ l then v else f a
theorem vr_up_in {α : Type} {f : Nat → α} {l : List Nat} {v : α} {a : Nat} (h : a ∈ l) : vr_up f l v a = v := if_pos h
theorem vr_up_ne {α : Type} {f : Nat → α} {l : List Nat} {v : α} {a : Nat} (h : a ∉ l) : vr_up f l v a = f a := if_neg h
theorem vr_rows {L l : List Nat} {f : Nat → va_E} {e : va_E} (h : ∀ a, a ∈ l → a ∉ L) : va_pl L f ++ l.map (fun a => (a, e)) = va_pl (L ++ l) (vr_up f l e) := by
  unfold va_pl
  rw [List.map_append]
  congr 1
  · apply List.map_congr_left
    intro a ha
    rw [vr_up_ne (fun q => h a q ha)]
  · apply List.map_congr_left
    intro a ha
    rw [vr_up_in ha]
theorem vr_lay {X rows : va_W} {x : Nat × va_E} {pl : va_W} {D : va_G} {cl : List vw_C} {H : Heap} (hP : va_P D cl (((X ++ pl) ++ [x]) ++ rows) H) : va_P D cl ((X ++ [x]) ++ (pl ++ rows)) H := by
  rw [List.append_assoc (X ++ pl)] at hP
  have h := va_P.swap hP
  rw [← List.append_assoc X] at h
  have h2 := va_P.swap h
  rw [List.append_assoc (X ++ [x])] at h2
  exact h2
theorem vr_layD {X rows : va_W} {x : Nat × va_E} {pl : va_W} {A : Nat → Prop} (hD : va_D A (((X ++ pl) ++ [x]) ++ rows)) : va_D A ((X ++ [x]) ++ (pl ++ rows)) := by
  rw [List.append_assoc (X ++ pl)] at hD
  have h := va_D.swap hD
  rw [← List.append_assoc X] at h
  have h2 := va_D.swap h
  rw [List.append_assoc (X ++ [x])] at h2
  exact h2
theorem vr_outer (c : ClassId) (N h0 : Nat) : ∀ i : Nat, Jvm.Free.Multi.outerC c N h0 i = arrV c N (fun j => va_rf (if j < i then some (h0 + 1 + j) else none))
  | 0 => by
    show ({ cls := c, slots := Array.replicate N .null, vm := .none } : Cell) = _
    rw [arrV_new]
    refine congrArg (arrV c N) (funext fun j => ?_)
    simp [va_rf]
  | i + 1 => by
    show (Jvm.Free.Multi.outerC c N h0 i).setSlot i (.ref (h0 + 1 + i)) = _
    rw [vr_outer c N h0 i, arrV_store]
    refine congrArg (arrV c N) (funext fun j => ?_)
    by_cases e : j = i
    · subst e
      simp [updV, va_rf]
    · by_cases h : j < i
      · simp [updV, e, h, Nat.lt_succ_of_lt h]
      · simp [updV, e, h, show ¬ j < i + 1 by omega]
section VGM
variable {p : Program} {l : Launch} {e : Env} {R : Room} {s : State} {m : MethodId} {args : Array Value} {below : List Frame} {meth : Method} {c : Code} {H : Heap} {locs : List Loc} {cells slots : Nat} {Q : State → Prop}
variable {cc : ByteArray} {pc : Nat} {ls : Array Slot} {rest : List Value} {D : va_G} {cl : List vw_C} {A : Nat → Prop} {a : Nat} {tys : List (ClassId × FieldType)} {ws : va_W} {H0 : Heap}
theorem va_mna {X : va_W} {L : List Nat} {f : Nat → va_E} {cc : ByteArray} (hexec : p.tables.exec = Jvm.exec) (hb : c.code = cc) {own : String} {index : Nat} {ty : FieldType} {cy : ClassId} (hown : s.vm.findClass own = some m.cls) (hclink : (Cond.classLink own index ("[" ++ (FieldType.array ty).toString)).before args s = true) (hover : (Cond.arrayOver (.array ty)).before args s = true) (harr : (Cond.arrayClass ty).before args s = true) (hcy : s.vm.findClass (FieldType.array ty).toString = some cy)
    (hK : va_K D cl tys s) (hP : va_P D cl (X ++ va_pl L f) H) (hD : va_D A (X ++ va_pl L f)) (hS : va_S A H0 H locs) (hA : ∀ q, H0.size ≤ q → A q) {n k : Int32} {N' K' : Nat} {z : vp_A} (hn : ¬ n < 0) (hk : ¬ k < 0) (hN : n.toNatClampNeg = N') (hM : k.toNatClampNeg = K')
    (hb1 : N' * 4 ≤ 536870912) (hb2 : K' * componentBytes ty ≤ 536870912) (hb3 : K' ≤ 536870912) (hdf : fits ty (defaultValue ty) = true) (hdd : (defaultValue ty).isDefault = true) (hcells : cells + (1 + N') ≤ R.cells) (hslots : slots + (N' + N' * K') ≤ R.slots) (hz : ∀ c : ClassId, Jvm.Free.Multi.innerC c K' (defaultValue ty) = vp_cell c z) (hdg : decode cc pc = .ok (.multianewarray index 2, 4))
    (kk : ∀ (q : Nat) (r : Nat → Nat) (cA : ClassId) (H1 : Heap), (∀ i j : Nat, i < N' → j < N' → r i = r j → i = j) → (∀ i : Nat, i < N' → r i ∉ L) → va_K D cl (tys ++ [(cA, .array ty)]) s →
      va_P D cl ((X ++ [(q, .inl (cA, N', .inr (.inr (.inr (.inr (fun i => if i < N' then some (r i) else none))))))]) ++ va_pl (L ++ (List.range N').map r) (vr_up f ((List.range N').map r) (.inl (cy, z)))) H1 → va_D A ((X ++ [(q, .inl (cA, N', .inr (.inr (.inr (.inr (fun i => if i < N' then some (r i) else none))))))]) ++ va_pl (L ++ (List.range N').map r) (vr_up f ((List.range N').map r) (.inl (cy, z)))) → va_S A H0 H1 locs →
      W p l e R s m args below meth c H1 locs (cells + 1 + N') (slots + N' + N' * K') Q (F0 m (pc + 4) ls (.ref q :: rest))) : W p l e R s m args below meth c H locs cells slots Q (F0 m pc ls (.int k :: .int n :: rest)) := by
  subst hN
  subst hM
  intro T hT Xs
  obtain ⟨vm₁, cA, comp, -, fA, fC, hO, -, X', step⟩ := Xs.multianewarray2F hexec hown hclink hover harr (g := F0 m pc ls (.int k :: .int n :: rest)) rfl (by rw [hb]; exact hdg) rfl hn hk hb1 hb2 hb3 hdf hdd hcells hslots
  have ec : some cy = some comp := hcy.symm.trans fC
  cases ec
  generalize hF : Jvm.Free.Multi.fill (T.setVm vm₁) cA cy n.toNatClampNeg k.toNatClampNeg (defaultValue ty) n.toNatClampNeg = F at X' step
  have hTh : (T.setVm vm₁).heap = H := hT
  obtain ⟨f1, f2, -, -⟩ := Jvm.Free.Multi.fill_facts (T.setVm vm₁) cA cy n.toNatClampNeg k.toNatClampNeg (defaultValue ty) n.toNatClampNeg
  rw [hF, hTh] at f1 f2
  have hold : ∀ x : Nat, x < H.size → F.heap[x]? = H[x]? := fun x hx => by
    have := Jvm.Free.Multi.fill_old (T.setVm vm₁) cA cy n.toNatClampNeg k.toNatClampNeg (defaultValue ty) (a := x) (by rw [hTh]; exact hx) n.toNatClampNeg
    rw [hF, hTh] at this
    exact this
  have hrow : ∀ j : Nat, j < n.toNatClampNeg → F.heap[H.size + 1 + j]? = some (vp_cell cy z) := fun j hj => by
    have := Jvm.Free.Multi.fill_inner (T.setVm vm₁) cA cy n.toNatClampNeg k.toNatClampNeg (defaultValue ty) n.toNatClampNeg j hj
    rw [hF, hTh, hz] at this
    exact this
  have hout : Jvm.Free.Multi.outerC cA n.toNatClampNeg H.size n.toNatClampNeg = vp_cell cA (n.toNatClampNeg, .inr (.inr (.inr (.inr (fun i => if i < n.toNatClampNeg then some (H.size + 1 + i) else none))))) := by
    rw [vp_cell_q]
    exact vr_outer cA n.toNatClampNeg H.size n.toNatClampNeg
  rw [hout] at f2
  have hlt : ∀ a, a ∈ L → a < H.size := fun a ha => by
    obtain ⟨k9, hk9⟩ := va_pl_get (X := X) (f := f) ha
    exact (hP k9 _ hk9).lt
  have hnl : ∀ i : Nat, i < n.toNatClampNeg → H.size + 1 + i ∉ L := fun i _ h => by
    have := hlt _ h
    omega
  have hnm : ∀ a, a ∈ (List.range n.toNatClampNeg).map (fun i => H.size + 1 + i) → a ∉ L := fun a ha h => by
    obtain ⟨i, -, rfl⟩ := List.mem_map.mp ha
    have := hlt _ h
    omega
  have hP0 : va_P D cl (X ++ va_pl L f) F.heap := hP.kept (fun k9 x hx => hold x.1 ((hP k9 x hx).lt))
  have hP1 : va_P D cl ((X ++ va_pl L f) ++ [(H.size, .inl (cA, n.toNatClampNeg, .inr (.inr (.inr (.inr (fun i => if i < n.toNatClampNeg then some (H.size + 1 + i) else none))))))]) F.heap := hP0.app (fun k9 x hx => by
    have h0 : k9 < 1 := (List.getElem?_eq_some_iff.mp hx).1
    rw [show k9 = 0 by omega] at hx
    cases hx
    exact f2)
  have hP2 : va_P D cl (((X ++ va_pl L f) ++ [(H.size, .inl (cA, n.toNatClampNeg, .inr (.inr (.inr (.inr (fun i => if i < n.toNatClampNeg then some (H.size + 1 + i) else none))))))]) ++ ((List.range n.toNatClampNeg).map (fun i => H.size + 1 + i)).map (fun a => (a, .inl (cy, z)))) F.heap := hP1.app (fun k9 x hx => by
    obtain ⟨a, ha, rfl⟩ := List.mem_map.mp (List.mem_of_getElem? hx)
    obtain ⟨i, hi, rfl⟩ := List.mem_map.mp ha
    exact hrow i (List.mem_range.mp hi))
  have hD2 : va_D A (((X ++ va_pl L f) ++ [(H.size, .inl (cA, n.toNatClampNeg, .inr (.inr (.inr (.inr (fun i => if i < n.toNatClampNeg then some (H.size + 1 + i) else none))))))]) ++ ((List.range n.toNatClampNeg).map (fun i => H.size + 1 + i)).map (fun a => (a, .inl (cy, z)))) := by
    have hD1 := hD.push (e := .inl (cA, n.toNatClampNeg, .inr (.inr (.inr (.inr (fun i => if i < n.toNatClampNeg then some (H.size + 1 + i) else none)))))) hP rfl (hA _ hS.1)
    generalize hW1 : (X ++ va_pl L f) ++ [(H.size, .inl (cA, n.toNatClampNeg, .inr (.inr (.inr (.inr (fun i => if i < n.toNatClampNeg then some (H.size + 1 + i) else none))))))] = W1 at hD1 hP1 ⊢
    have hle : ∀ (k9 : Nat) (x : Nat × va_E), W1[k9]? = some x → x.1 ≤ H.size := fun k9 x hx => by
      rw [← hW1] at hx
      by_cases hl : k9 < (X ++ va_pl L f).length
      · rw [List.getElem?_append_left hl] at hx
        exact Nat.le_of_lt ((hP k9 x hx).lt)
      · rw [List.getElem?_append_right (by omega)] at hx
        have h0 : k9 - (X ++ va_pl L f).length < 1 := (List.getElem?_eq_some_iff.mp hx).1
        rw [show k9 - (X ++ va_pl L f).length = 0 by omega] at hx
        cases hx
        exact Nat.le_refl _
    have hr : ∀ (k9 : Nat) (x : Nat × va_E), (((List.range n.toNatClampNeg).map (fun i => H.size + 1 + i)).map (fun a => ((a, .inl (cy, z)) : Nat × va_E)))[k9]? = some x → x.1 = H.size + 1 + k9 := fun k9 x hx => by
      rw [List.getElem?_map, List.getElem?_map] at hx
      by_cases h9 : k9 < n.toNatClampNeg
      · rw [List.getElem?_range h9] at hx
        cases hx
        rfl
      · have hn0 : (List.range n.toNatClampNeg)[k9]? = none := List.getElem?_eq_none (by rw [List.length_range]; omega)
        rw [hn0] at hx
        cases hx
    refine ⟨fun i j x y hi hj hxy => ?_, fun k9 x hx => ?_⟩
    · by_cases h1 : i < W1.length <;> by_cases h2 : j < W1.length
      · rw [List.getElem?_append_left h1] at hi
        rw [List.getElem?_append_left h2] at hj
        exact hD1.1 i j x y hi hj hxy
      · rw [List.getElem?_append_left h1] at hi
        rw [List.getElem?_append_right (by omega)] at hj
        have := hle _ _ hi
        have := hr _ _ hj
        omega
      · rw [List.getElem?_append_right (by omega)] at hi
        rw [List.getElem?_append_left h2] at hj
        have := hle _ _ hj
        have := hr _ _ hi
        omega
      · rw [List.getElem?_append_right (by omega)] at hi hj
        have := hr _ _ hi
        have := hr _ _ hj
        omega
    · by_cases h1 : k9 < W1.length
      · rw [List.getElem?_append_left h1] at hx
        exact hD1.2 k9 x hx
      · rw [List.getElem?_append_right (by omega)] at hx
        have := hr _ _ hx
        exact hA _ (by have := hS.1; omega)
  have hAr : ArrOfT s cA (.array ty) := fun N9 z9 => by
    obtain ⟨-, k9, hk9, cm9, hkk9⟩ := (hO 0 0 0).1
    exact ⟨(fun q hq => by cases hq), k9, hk9, cm9, hkk9⟩
  have hK2 : va_K D cl (tys ++ [(cA, .array ty)]) s := ⟨hK.1, fun k9 x hx => by
    by_cases hl : k9 < tys.length
    · rw [List.getElem?_append_left hl] at hx
      exact hK.2 k9 x hx
    · rw [List.getElem?_append_right (by omega)] at hx
      have h0 : k9 - tys.length < 1 := (List.getElem?_eq_some_iff.mp hx).1
      rw [show k9 - tys.length = 0 by omega] at hx
      cases hx
      exact ⟨hAr, fA⟩⟩
  obtain ⟨t, a1, b1⟩ := kk H.size (fun i => H.size + 1 + i) cA F.heap (fun i j _ _ h => by have h9 : H.size + 1 + i = H.size + 1 + j := h; omega) hnl hK2 (by rw [← vr_rows hnm]; exact vr_lay hP2) (by rw [← vr_rows hnm]; exact vr_layD hD2) ⟨by rw [f1]; have := hS.1; omega, fun x h1 h2 => (hold x (Nat.lt_of_lt_of_le h1 hS.1)).trans (hS.2.1 x h1 h2), hS.2.2⟩ F rfl X'
  refine ⟨t, step t ?_, b1⟩
  have e : T.heap.size = H.size := by rw [hT]
  rw [e]
  exact a1
end VGM
/-! ===== END ===== -/
set_option maxRecDepth 100000 in
theorem arr_int : Cond.arrayClass .int ∈ TB := in_t1 42 rfl rfl
set_option maxRecDepth 100000 in
theorem arr_bool : Cond.arrayClass .boolean ∈ TB := in_t2 93 rfl rfl
set_option maxRecDepth 100000 in
theorem obj_in : Cond.instanceMethod objectInit ∈ TB := in_t1 25 rfl rfl
set_option maxRecDepth 100000 in
theorem obj_co : Cond.code objectInit ⟨#[0xb1]⟩ 1 none ∈ TB := in_t1 26 (by decide +kernel) rfl
set_option maxRecDepth 100000 in
theorem mo_X10_1 : Cond.methodLink RX10 1 objectInit ∈ TB := in_t1 24 rfl rfl
set_option maxRecDepth 100000 in
theorem mo_X9_3 : Cond.methodLink RX9 3 objectInit ∈ TB := in_t1 32 rfl rfl
set_option maxRecDepth 100000 in
theorem mo_X1_3 : Cond.methodLink RX1 3 objectInit ∈ TB := in_t1 48 rfl rfl
set_option maxRecDepth 100000 in
theorem mo_X7_3 : Cond.methodLink RX7 3 objectInit ∈ TB := in_t1 110 rfl rfl
set_option maxRecDepth 100000 in
theorem mo_X5_1 : Cond.methodLink RX5 1 objectInit ∈ TB := in_t1 116 rfl rfl
set_option maxRecDepth 100000 in
theorem mo_X4_3 : Cond.methodLink RX4 3 objectInit ∈ TB := in_t1 164 rfl rfl
set_option maxRecDepth 100000 in
theorem mo_X6_3 : Cond.methodLink RX6 3 objectInit ∈ TB := in_t1 213 rfl rfl
set_option maxRecDepth 100000 in
theorem mo_X0_3 : Cond.methodLink RX0 3 objectInit ∈ TB := in_t2 4 rfl rfl
set_option maxRecDepth 100000 in
theorem mo_X3_3 : Cond.methodLink RX3 3 objectInit ∈ TB := in_t2 29 rfl rfl
set_option maxRecDepth 100000 in
theorem mo_X2_3 : Cond.methodLink RX2 3 objectInit ∈ TB := in_t2 51 rfl rfl
set_option maxRecDepth 100000 in
theorem mo_X8_3 : Cond.methodLink RX8 3 objectInit ∈ TB := in_t2 81 rfl rfl
set_option maxRecDepth 100000 in
theorem mo_X11_1 : Cond.methodLink RX11 1 objectInit ∈ TB := in_t5 82 rfl rfl
set_option maxRecDepth 100000 in
theorem cl_L_7 : Cond.classLink RL 7 RX10 ∈ TB := in_t1 19 rfl rfl
set_option maxRecDepth 100000 in
theorem cl_X10_7 : Cond.classLink RX10 7 RX9 ∈ TB := in_t1 27 rfl rfl
set_option maxRecDepth 100000 in
theorem cl_X10_16 : Cond.classLink RX10 16 RX1 ∈ TB := in_t1 43 rfl rfl
set_option maxRecDepth 100000 in
theorem cl_X1_15 : Cond.classLink RX1 15 ("[" ++ (FieldType.array .int).toString) ∈ TB := in_t1 49 (by decide +kernel) rfl
set_option maxRecDepth 100000 in
theorem cl_X10_23 : Cond.classLink RX10 23 RX7 ∈ TB := in_t1 105 rfl rfl
set_option maxRecDepth 100000 in
theorem cl_X7_15 : Cond.classLink RX7 15 RX5 ∈ TB := in_t1 111 rfl rfl
set_option maxRecDepth 100000 in
theorem cl_X10_30 : Cond.classLink RX10 30 RX4 ∈ TB := in_t1 159 rfl rfl
set_option maxRecDepth 100000 in
theorem cl_X4_9 : Cond.classLink RX4 9 RX1 ∈ TB := in_t1 165 rfl rfl
set_option maxRecDepth 100000 in
theorem cl_X4_18 : Cond.classLink RX4 18 RX7 ∈ TB := in_t1 167 rfl rfl
set_option maxRecDepth 100000 in
theorem cl_X10_39 : Cond.classLink RX10 39 RX6 ∈ TB := in_t1 208 rfl rfl
set_option maxRecDepth 100000 in
theorem cl_X10_48 : Cond.classLink RX10 48 RX0 ∈ TB := in_t1 239 rfl rfl
set_option maxRecDepth 100000 in
theorem cl_X10_55 : Cond.classLink RX10 55 RX3 ∈ TB := in_t2 24 rfl rfl
set_option maxRecDepth 100000 in
theorem cl_X10_62 : Cond.classLink RX10 62 RX2 ∈ TB := in_t2 46 rfl rfl
set_option maxRecDepth 100000 in
theorem cl_X10_77 : Cond.classLink RX10 77 RX8 ∈ TB := in_t2 75 rfl rfl
set_option maxRecDepth 100000 in
theorem cl_L_10 : Cond.classLink RL 10 RX11 ∈ TB := in_t5 77 rfl rfl
set_option maxRecDepth 100000 in
theorem ib_X10 : Cond.instantiable RX10 13 ∈ TB := in_t1 20 rfl rfl
set_option maxRecDepth 100000 in
theorem ic_X10 : Cond.initialized RX10 ∈ TB := in_t1 1 rfl rfl
set_option maxRecDepth 100000 in
theorem ib_X9 : Cond.instantiable RX9 2 ∈ TB := in_t1 28 rfl rfl
set_option maxRecDepth 100000 in
theorem ic_X9 : Cond.initialized RX9 ∈ TB := in_t1 2 rfl rfl
set_option maxRecDepth 100000 in
theorem ib_X1 : Cond.instantiable RX1 10 ∈ TB := in_t1 44 rfl rfl
set_option maxRecDepth 100000 in
theorem ic_X1 : Cond.initialized RX1 ∈ TB := in_t1 3 rfl rfl
set_option maxRecDepth 100000 in
theorem ib_X7 : Cond.instantiable RX7 4 ∈ TB := in_t1 106 rfl rfl
set_option maxRecDepth 100000 in
theorem ic_X7 : Cond.initialized RX7 ∈ TB := in_t1 4 rfl rfl
set_option maxRecDepth 100000 in
theorem ib_X5 : Cond.instantiable RX5 4 ∈ TB := in_t1 112 rfl rfl
set_option maxRecDepth 100000 in
theorem ic_X5 : Cond.initialized RX5 ∈ TB := in_t1 5 rfl rfl
set_option maxRecDepth 100000 in
theorem ib_X4 : Cond.instantiable RX4 11 ∈ TB := in_t1 160 rfl rfl
set_option maxRecDepth 100000 in
theorem ic_X4 : Cond.initialized RX4 ∈ TB := in_t1 6 rfl rfl
set_option maxRecDepth 100000 in
theorem ib_X6 : Cond.instantiable RX6 7 ∈ TB := in_t1 209 rfl rfl
set_option maxRecDepth 100000 in
theorem ic_X6 : Cond.initialized RX6 ∈ TB := in_t1 7 rfl rfl
set_option maxRecDepth 100000 in
theorem ib_X0 : Cond.instantiable RX0 5 ∈ TB := in_t2 0 rfl rfl
set_option maxRecDepth 100000 in
theorem ic_X0 : Cond.initialized RX0 ∈ TB := in_t1 8 rfl rfl
set_option maxRecDepth 100000 in
theorem ib_X3 : Cond.instantiable RX3 5 ∈ TB := in_t2 25 rfl rfl
set_option maxRecDepth 100000 in
theorem ic_X3 : Cond.initialized RX3 ∈ TB := in_t1 9 rfl rfl
set_option maxRecDepth 100000 in
theorem ib_X2 : Cond.instantiable RX2 6 ∈ TB := in_t2 47 rfl rfl
set_option maxRecDepth 100000 in
theorem ic_X2 : Cond.initialized RX2 ∈ TB := in_t1 10 rfl rfl
set_option maxRecDepth 100000 in
theorem ib_X8 : Cond.instantiable RX8 3 ∈ TB := in_t2 77 rfl rfl
set_option maxRecDepth 100000 in
theorem ic_X8 : Cond.initialized RX8 ∈ TB := in_t1 11 rfl rfl
set_option maxRecDepth 100000 in
theorem ib_X11 : Cond.instantiable RX11 49 ∈ TB := in_t5 78 rfl rfl
set_option maxRecDepth 100000 in
theorem ic_X11 : Cond.initialized RX11 ∈ TB := in_t1 12 rfl rfl
theorem va_Dmap {A : Nat → Prop} {w1 w2 : va_W} (h : va_D A w1) (hm : w1.map Prod.fst = w2.map Prod.fst) : va_D A w2 := by
  have key : ∀ (k : Nat) (q : Nat × va_E), w2[k]? = some q → ∃ x, w1[k]? = some x ∧ x.1 = q.1 := by
    intro k q hk
    have h1 : (w1.map Prod.fst)[k]? = some q.1 := by rw [hm, List.getElem?_map, hk]; rfl
    rw [List.getElem?_map] at h1
    cases hx : w1[k]? with
    | none => rw [hx] at h1; cases h1
    | some x => rw [hx] at h1; exact ⟨x, rfl, Option.some.inj h1⟩
  refine ⟨fun i j x y hi hj hxy => ?_, fun k q hk => ?_⟩
  · obtain ⟨x0, h1, h2⟩ := key i x hi
    obtain ⟨y0, h3, h4⟩ := key j y hj
    exact h.1 i j x0 y0 h1 h3 (h2.trans (hxy.trans h4.symm))
  · obtain ⟨x0, h1, h2⟩ := key k q hk
    rw [← h2]; exact h.2 k x0 h1

section TA
variable {E : EV} {k z : MD} {cu su : Nat} {ws : va_W} {pc idx n : Nat} {l : List (Nat × Value)} {st rest As : List Value} {Φ : Option Value → va_W → Prop}
theorem tj_new {ci : Nat} {C : String} {t : u_T} {N : Nat} {ty : Nat → FieldType} {fs : List Value} (hcl : ClsOk ci C t N ty) (hn : pc + 3 = n) (hd : decode k.2.1 pc = .ok (.new idx, 3)) (hlk : Cond.classLink k.1.cls idx C ∈ TB) (hinst : Cond.instantiable C N ∈ TB) (hini : Cond.initialized C ∈ TB) (hfs : ∀ j, j < N → defaultValue (ty j) = vp_V fs j) (hc : cu + 1 ≤ k.2.2.2.2.2.2.1) (hs : su + N ≤ k.2.2.2.2.2.2.2)
    (kk : ∀ q : Nat, T E k (cu + 1) (su + N) (ws ++ [(q, .inr (ci, fs))]) n l (.ref q :: st) Φ) : T E k cu su ws pc l st Φ := by
  subst hn
  intro p L e s m args below meth c A Q H locs ls hC hE hA hP hD hS hl hF
  have hts := hC.2.2.2.2.1
  exact va_new hC.1 hC.2.1 hts hcl.2.1 ty hcl.2.2.1 hC.2.2.2.1 (hts _ hlk) (hts _ hinst) (hts _ hini) hE.1 hP hD hS hA hcl.1 hfs hc hs hd (fun q H1 hP1 hD1 hS1 => kk q p L e s m args below meth c A Q H1 locs ls hC hE hA hP1 hD1 hS1 hl hF)
theorem tj_newI {i : Int32} {N' : Nat} (hn : pc + 2 = n) (hd : decode k.2.1 pc = .ok (.newarray .int, 2)) (h0 : ¬ i < 0) (hN : i.toNatClampNeg = N') (hb : N' * 4 ≤ 536870912) (hc : cu + 1 ≤ k.2.2.2.2.2.2.1) (hs : su + N' ≤ k.2.2.2.2.2.2.2)
    (kk : ∀ q : Nat, T E k (cu + 1) (su + N') (ws ++ [(q, .inl (E.2.1 0, N', .inl (fun _ => 0)))]) n l (.ref q :: st) Φ) : T E k cu su ws pc l (.int i :: st) Φ := by
  subst hn
  intro p L e s m args below meth c A Q H locs ls hC hE hA hP hD hS hl hF
  have hts := hC.2.2.2.2.1
  refine va_newa (atype := .int) (ty := .int) (a0 := (N', .inl (fun _ => 0))) hC.1 hC.2.1 (hts _ arr_int) rfl hE.1 hP hD hS hA (fun _ => rfl) h0 hN hb hc hs hd (fun q cA H1 hK1 hP1 hD1 hS1 => ?_)
  have e1 : s.vm.findClass ("[" ++ FieldType.int.toString) = some cA := (hK1.2 5 (cA, .int) rfl).2
  have e2 : s.vm.findClass ("[" ++ FieldType.int.toString) = some (E.2.1 0) := (hE.1.2 0 (E.2.1 0, .int) rfl).2
  have e3 : cA = E.2.1 0 := Option.some.inj (e1.symm.trans e2)
  subst e3
  exact kk q p L e s m args below meth c A Q H1 locs ls hC hE hA hP1 hD1 hS1 hl hF
theorem tj_newZ {i : Int32} {N' : Nat} (hn : pc + 2 = n) (hd : decode k.2.1 pc = .ok (.newarray .boolean, 2)) (h0 : ¬ i < 0) (hN : i.toNatClampNeg = N') (hb : N' * 1 ≤ 536870912) (hc : cu + 1 ≤ k.2.2.2.2.2.2.1) (hs : su + N' ≤ k.2.2.2.2.2.2.2)
    (kk : ∀ q : Nat, T E k (cu + 1) (su + N') (ws ++ [(q, .inl (E.2.1 1, N', .inl (fun _ => 0)))]) n l (.ref q :: st) Φ) : T E k cu su ws pc l (.int i :: st) Φ := by
  subst hn
  intro p L e s m args below meth c A Q H locs ls hC hE hA hP hD hS hl hF
  have hts := hC.2.2.2.2.1
  refine va_newa (atype := .boolean) (ty := .boolean) (a0 := (N', .inl (fun _ => 0))) hC.1 hC.2.1 (hts _ arr_bool) rfl hE.1 hP hD hS hA (fun _ => rfl) h0 hN hb hc hs hd (fun q cA H1 hK1 hP1 hD1 hS1 => ?_)
  have e1 : s.vm.findClass ("[" ++ FieldType.boolean.toString) = some cA := (hK1.2 5 (cA, .boolean) rfl).2
  have e2 : s.vm.findClass ("[" ++ FieldType.boolean.toString) = some (E.2.1 1) := (hE.1.2 1 (E.2.1 1, .boolean) rfl).2
  have e3 : cA = E.2.1 1 := Option.some.inj (e1.symm.trans e2)
  rw [e3] at hP1 hD1
  exact kk q p L e s m args below meth c A Q H1 locs ls hC hE hA hP1 hD1 hS1 hl hF
theorem tj_newq {C : String} {tg : Nat} {i : Int32} {N' : Nat} (htg : (tyL E.2.1)[tg]? = some (E.2.1 tg, .object C)) (hao : ∀ U, ExT U → va_AO C U) (hlk : Cond.classLink k.1.cls idx C ∈ TB) (hn : pc + 3 = n) (hd : decode k.2.1 pc = .ok (.anewarray idx, 3)) (h0 : ¬ i < 0) (hN : i.toNatClampNeg = N') (hb : N' * 4 ≤ 536870912) (hc : cu + 1 ≤ k.2.2.2.2.2.2.1) (hs : su + N' ≤ k.2.2.2.2.2.2.2)
    (kk : ∀ q : Nat, T E k (cu + 1) (su + N') (ws ++ [(q, .inl (E.2.1 tg, N', .inr (.inr (.inr (.inr (fun _ => none))))))]) n l (.ref q :: st) Φ) : T E k cu su ws pc l (.int i :: st) Φ := by
  subst hn
  intro p L e s m args below meth c A Q H locs ls hC hE hA hP hD hS hl hF
  have hts := hC.2.2.2.2.1
  refine va_newq hC.1 hC.2.1 hC.2.2.2.1 (hts _ hlk) (hao s hE.2.2.2.2.2.1) hE.1 hP hD hS hA h0 hN hb hc hs hd (fun q cA H1 hK1 hP1 hD1 hS1 => ?_)
  obtain ⟨_, _, _, _, _, e1⟩ := (hK1.2 5 (cA, .object C) rfl).2
  obtain ⟨_, _, _, _, _, e2⟩ := (hE.1.2 tg _ htg).2
  have e3 : cA = E.2.1 tg := Option.some.inj (e1.symm.trans e2)
  rw [e3] at hP1 hD1
  exact kk q p L e s m args below meth c A Q H1 locs ls hC hE hA hP1 hD1 hS1 hl hF
theorem tj_aast {tg n0 a q v qk ci : Nat} {r : vw_C} {vs : List Value} {f : Nat → Option Nat} {i : Int32} {ws' : va_W} (hn : pc + 1 = n) (hd : decode k.2.1 pc = .ok (.aastore, 1)) (he : ws[q]? = some (a, .inl (E.2.1 tg, n0, .inr (.inr (.inr (.inr f)))))) (ht : (tyL E.2.1)[tg]? = some (E.2.1 tg, .object r.1)) (hv : ws[qk]? = some (v, .inr (ci, vs))) (hc : vwCl[ci]? = some r) (hin : vp_in i n0) (hw : ws.set q (a, .inl (E.2.1 tg, n0, .inr (.inr (.inr (.inr (va_up f i.toNatClampNeg (some v))))))) = ws')
    (kk : T E k cu su ws' n l st Φ) : T E k cu su ws pc l (.ref v :: .int i :: .ref a :: st) Φ := by
  subst hn
  subst hw
  intro p L e s m args below meth c A Q H locs ls hC hE hA hP hD hS hl hF
  exact va_astq hC.1 hC.2.1 hE.1 hP hD hS q tg qk ci he ht hv hc hin hd (fun H1 locs1 hP1 hD1 hS1 => kk p L e s m args below meth c A Q H1 locs1 ls hC hE hA hP1 hD1 hS1 hl hF)
theorem arrV_congr {c : ClassId} {N : Nat} {f g : Nat → Value} (h : ∀ j, j < N → f j = g j) : arrV c N f = arrV c N g := by
  unfold arrV
  congr 2
  funext j
  exact h j.1 j.2
theorem tj_mna {N' K' : Nat} {i j : Int32} (hlk : Cond.classLink k.1.cls idx ("[" ++ (FieldType.array .int).toString) ∈ TB) (hn : pc + 4 = n) (hd : decode k.2.1 pc = .ok (.multianewarray idx 2, 4)) (hi0 : ¬ i < 0) (hj0 : ¬ j < 0) (hN : i.toNatClampNeg = 2) (hK : j.toNatClampNeg = K') (hb2 : K' ≤ 1000) (hc : cu + 3 ≤ k.2.2.2.2.2.2.1) (hs : su + (2 + 2 * K') ≤ k.2.2.2.2.2.2.2)
    (kk : ∀ (q : Nat) (r : Nat → Nat), T E k (cu + 3) (su + (2 + 2 * K')) (ws ++ [(q, .inl (E.2.1 4, 2, .inr (.inr (.inr (.inr (fun x => some (r x))))))), (r 0, .inl (E.2.1 0, K', .inl (fun _ => 0))), (r 1, .inl (E.2.1 0, K', .inl (fun _ => 0)))]) n l (.ref q :: st) Φ) : T E k cu su ws pc l (.int j :: .int i :: st) Φ := by
  subst hn
  intro p L e s m args below meth c A Q H locs ls hC hE hA hP hD hS hl hF
  have hts := hC.2.2.2.2.1
  have e2 : s.vm.findClass ("[" ++ FieldType.int.toString) = some (E.2.1 0) := (hE.1.2 0 (E.2.1 0, .int) rfl).2
  have hP' : va_P E.1 vwCl (ws ++ va_pl [] (fun _ => .inr (0, []))) H := by show va_P E.1 vwCl (ws ++ []) H; rw [List.append_nil]; exact hP
  have hD' : va_D A (ws ++ va_pl [] (fun _ => .inr (0, []))) := by show va_D A (ws ++ []); rw [List.append_nil]; exact hD
  refine va_mna (ty := .int) (z := (K', .inl (fun _ => 0))) hC.1 hC.2.1 hC.2.2.2.1 (hts _ hlk) (over_moved (Vm.Alike.refl s.vm) hE.2.2.2.2.2.1.2.2.2) (hts _ arr_int) e2 hE.1 hP' hD' hS hA hi0 hj0 hN hK (by decide) (by show K' * 4 ≤ _; omega) (by omega) rfl rfl (by show cu + (1 + 2) ≤ _; exact hc) hs (fun c => by rw [vp_cell_i, ← arrV_new]; rfl) hd (fun q r cA H1 _ _ hK1 hP1 hD1 hS1 => ?_)
  have e1 : s.vm.findClass ("[" ++ (FieldType.array .int).toString) = some cA := (hK1.2 5 (cA, .array .int) rfl).2
  have e4 : s.vm.findClass ("[" ++ (FieldType.array .int).toString) = some (E.2.1 4) := (hE.1.2 4 (E.2.1 4, .array .int) rfl).2
  have e3 : cA = E.2.1 4 := Option.some.inj (e1.symm.trans e4)
  subst e3
  have hlist : ((ws ++ [(q, .inl (E.2.1 4, 2, .inr (.inr (.inr (.inr (fun i => if i < 2 then some (r i) else none))))))]) ++ va_pl ([] ++ (List.range 2).map r) (vr_up (fun _ => .inr (0, [])) ((List.range 2).map r) (.inl (E.2.1 0, (K', .inl (fun _ => 0)))))) = ws ++ [(q, .inl (E.2.1 4, 2, .inr (.inr (.inr (.inr (fun i => if i < 2 then some (r i) else none)))))), (r 0, .inl (E.2.1 0, K', .inl (fun _ => 0))), (r 1, .inl (E.2.1 0, K', .inl (fun _ => 0)))] := by
    have hr : List.range 2 = [0, 1] := rfl
    simp only [va_pl, hr, List.map_cons, List.map_nil, List.nil_append, List.append_assoc, List.cons_append]
    rw [vr_up_in (by simp), vr_up_in (by simp)]
  rw [hlist] at hP1 hD1
  have hP2 : va_P E.1 vwCl (ws ++ [(q, .inl (E.2.1 4, 2, .inr (.inr (.inr (.inr (fun x => some (r x))))))), (r 0, .inl (E.2.1 0, K', .inl (fun _ => 0))), (r 1, .inl (E.2.1 0, K', .inl (fun _ => 0)))]) H1 := by
    have hcell : vp_cell (E.2.1 4) (2, .inr (.inr (.inr (.inr (fun i => if i < 2 then some (r i) else none))))) = vp_cell (E.2.1 4) (2, .inr (.inr (.inr (.inr (fun x => some (r x)))))) := by
      rw [vp_cell_q, vp_cell_q]
      exact arrV_congr (fun j hj => by simp [hj])
    intro k9 x hx
    by_cases h9 : k9 = ws.length
    · subst h9
      rw [List.getElem?_append_right (Nat.le_refl _), Nat.sub_self] at hx
      cases hx
      have h8 := hP1 ws.length (q, .inl (E.2.1 4, 2, .inr (.inr (.inr (.inr (fun i => if i < 2 then some (r i) else none)))))) (by rw [List.getElem?_append_right (Nat.le_refl _), Nat.sub_self]; rfl)
      show H1[q]? = some (vp_cell _ _)
      rw [← hcell]
      exact h8
    · refine hP1 k9 x ?_
      by_cases hl9 : k9 < ws.length
      · rw [List.getElem?_append_left hl9] at hx ⊢; exact hx
      · rw [List.getElem?_append_right (by omega)] at hx ⊢
        obtain ⟨y, hy⟩ : ∃ y, k9 - ws.length = y + 1 := ⟨k9 - ws.length - 1, by omega⟩
        rw [hy] at hx ⊢
        exact hx
  have hD2 : va_D A (ws ++ [(q, .inl (E.2.1 4, 2, .inr (.inr (.inr (.inr (fun x => some (r x))))))), (r 0, .inl (E.2.1 0, K', .inl (fun _ => 0))), (r 1, .inl (E.2.1 0, K', .inl (fun _ => 0)))]) := va_Dmap hD1 (by simp)
  refine W.eq (g2 := F0 m (pc + 4) ls (.ref q :: st)) rfl ?_
  have hk3 := kk q r p L e s m args below meth c A Q H1 locs ls hC hE hA hP2 hD2 hS1 hl hF
  rw [show cu + 1 + 2 = cu + 3 from rfl, show su + 2 + 2 * K' = su + (2 + 2 * K') by omega]
  exact hk3
theorem tj_objI {a : Nat} (hlk : Cond.methodLink k.1.cls idx objectInit ∈ TB) (hn : pc + 3 = n) (hd : decode k.2.1 pc = .ok (.invokespecial idx, 3)) (hfr : 1 ≤ k.2.2.2.2.1) (hlo : (st.map fun v => v.category).sum + 12 ≤ k.2.2.2.2.2.1) (kk : T E k cu su ws n l st Φ) : T E k cu su ws pc l (.ref a :: st) Φ := by
  subst hn
  intro p L e s m args below meth c A Q H locs ls hC hE hA hP hD hS hl hF
  have hts := hC.2.2.2.2.1
  exact W.objInit hC.1 hC.2.1 hC.2.2.2.1 (hts _ hlk) (hts _ obj_in) (hts _ obj_co) rfl (hl.1.trans hC.2.2.1.symm) rfl hd hfr (by have : (F0 m pc ls (.ref a :: st)).monitorRoom = 0 := rfl; rw [this]; simpa [md_rm] using hlo) (kk p L e s m args below meth c A Q H locs ls hC hE hA hP hD hS hl hF)
/-- the same cells told otherwise, or fewer, or in another order -/
theorem tj_conv {ws2 : va_W} (is : List Nat) (hn : va_nd is = true) (ha : is.map (fun i => (ws[i]?).map Prod.fst) = ws2.map (fun q => some q.1)) (hc : ∀ (D : va_G) (H : Heap), va_P D vwCl ws H → va_P D vwCl ws2 H) (kk : T E k cu su ws2 pc l st Φ) : T E k cu su ws pc l st Φ := by
  intro p L e s m args below meth c A Q H locs ls hC hE hA hP hD hS hl hF
  refine kk p L e s m args below meth c A Q H locs ls hC hE hA (hc _ _ hP) ?_ hS hl hF
  have key : ∀ (k : Nat) (q : Nat × va_E), ws2[k]? = some q → ∃ i x, is[k]? = some i ∧ ws[i]? = some x ∧ x.1 = q.1 := by
    intro k q hk
    have h1 : (is.map (fun i => (ws[i]?).map Prod.fst))[k]? = some (some q.1) := by rw [ha, List.getElem?_map, hk]; rfl
    rw [List.getElem?_map] at h1
    cases hi : is[k]? with
    | none => rw [hi] at h1; cases h1
    | some i =>
      rw [hi] at h1
      have h2 : Option.map Prod.fst ws[i]? = some q.1 := Option.some.inj h1
      cases hx : ws[i]? with
      | none => rw [hx] at h2; cases h2
      | some x => rw [hx] at h2; exact ⟨i, x, rfl, hx, Option.some.inj h2⟩
  refine ⟨fun i j x y hi hj hxy => ?_, fun k q hk => ?_⟩
  · obtain ⟨a, x0, h1, h2, h3⟩ := key i x hi
    obtain ⟨b, y0, h4, h5, h6⟩ := key j y hj
    have hab := hD.1 a b x0 y0 h2 h5 (h3.trans (hxy.trans h6.symm))
    subst hab
    exact va_nd_inj is hn i j a h1 h4
  · obtain ⟨a, x0, h1, h2, h3⟩ := key k q hk
    rw [← h3]
    exact hD.2 a x0 h2
end TA
