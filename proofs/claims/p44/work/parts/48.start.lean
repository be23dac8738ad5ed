/-! THE START: what the Statement gives at the law's entry, as ExS (R_law .. lw_At are the skeleton's) -/
def R_law : String := "HouseTwinsLaw"
def lw_P (b : Addr) (xs : List Int32) (args : Array Value) (s : State) : Prop := args = #[.ref b] ∧ s.IntsAt b xs ∧ xs.length ≤ 320 ∧ (Jvm.Cond.and given_1 narrow_1).before args s = true
def lw_Q (_ : Array Value) (s : State) (o : Outcome) (t : State) : Prop := o = .returned (some (.int 1)) ∧ Framed s o t [] 600000 7302250
def lw_Z (below : List Frame) (a : Array Value) (s : State) : State → Prop := fun t => ∃ o, t.status = .running ∧ Ended t below o ∧ lw_Q a s o t
/-- the law's own end, with 1 on the stack, nothing written that was there before, its room as the claim has it -/
theorem lw_ret {p : Program} {l : Launch} {e : Env} {s : State} {m : MethodId} {below : List Frame} {meth : Method} {c : Code} {b : Nat} (hx : p.tables.exec = Jvm.exec) (hb : c.code = code) (hr : meth.sig.returnType = ret) (hlocks : meth.locks = false) {pc : Nat} {H : Heap} {ls : Array Slot} (hdg : decode code pc = .ok (.ireturn, 1)) : W p l e room_1 s m #[Value.ref b] below meth c H [] 600000 7302250 (lw_Z below #[Value.ref b] s) (F0 m pc ls [.int 1]) := by
  intro T hT X
  obtain ⟨fs, hret, hrun, hended, hW, hframe⟩ := X.leave (v := some (.int 1)) (hlocks := hlocks) (fun h => by rw [hr] at h; cases h)
  have hmeth' : T.vm.method? m = some meth := X.method'
  refine ⟨T.setFrames fs, ?_, .returned (some (.int 1)), hrun, hended, rfl, ⟨_, rfl⟩, hW, hframe⟩
  jvm_step X.here [X.here.top, hx, hb, hdg, hmeth', hr, ret, narrow_b1]
  (try refine ⟨rfl, ?_⟩); (try refine ⟨rfl, ?_⟩)
  first | (intro acts; rw [hret _ acts rfl rfl rfl]) | rw [hret _ _ rfl rfl rfl]
  exact Steps.refl _
/-- what holds at the law's entry: the machine, the code, the tables' words (any of lw_tbl by 'hts w (by decide +kernel)'), the script of L ints xs at the cell b, what the Statement gives of the start (any of its parts by flat_of_before) -/
def lw_At (p : Program) (s : State) (m : MethodId) (meth : Method) (c : Code) (b L : Nat) (xs : Nat → Int32) : Prop :=
  p.tables.exec = Jvm.exec ∧ c.code = code ∧ meth.sig.returnType = ret ∧ c.maxLocals = 4 ∧ s.vm.findClass R_law = some m.cls ∧ (∀ w ∈ lw_tbl, w.before #[Value.ref b] s = true) ∧ va_X b L xs s s.heap ∧ b < s.heap.size ∧ meth.locks = false ∧ (Jvm.Cond.and given_1 narrow_1).before #[Value.ref b] s = true
theorem lt_1 {c : Cond} (i : Nat) (h : tables_1_1[i]? = some c) : c ∈ lw_tbl := by
  have h0 := List.mem_of_getElem? h
  have h1 : c ∈ tables_1 := List.mem_append_left _ h0
  exact List.mem_append_right _ h1
theorem lt_2 {c : Cond} (i : Nat) (h : tables_1_2[i]? = some c) : c ∈ lw_tbl := by
  have h0 := List.mem_of_getElem? h
  have h1 : c ∈ tables_1 := List.mem_append_right _ (List.mem_append_left _ h0)
  exact List.mem_append_right _ h1
theorem lt_3 {c : Cond} (i : Nat) (h : tables_1_3[i]? = some c) : c ∈ lw_tbl := by
  have h0 := List.mem_of_getElem? h
  have h1 : c ∈ tables_1 := List.mem_append_right _ (List.mem_append_right _ (List.mem_append_left _ h0))
  exact List.mem_append_right _ h1
theorem lt_4 {c : Cond} (i : Nat) (h : tables_1_4[i]? = some c) : c ∈ lw_tbl := by
  have h0 := List.mem_of_getElem? h
  have h1 : c ∈ tables_1 := List.mem_append_right _ (List.mem_append_right _ (List.mem_append_right _ (List.mem_append_left _ h0)))
  exact List.mem_append_right _ h1
theorem nest_in : ∀ q ∈ nestL, Cond.methodLinkNest q.1 q.2.1 q.2.2 "HouseTwins" ∈ lw_tbl := List.forall_mem_cons.mpr ⟨lt_1 29 rfl, List.forall_mem_cons.mpr ⟨lt_1 107 rfl, List.forall_mem_cons.mpr ⟨lt_1 168 rfl, List.forall_mem_cons.mpr ⟨lt_2 78 rfl, List.forall_mem_cons.mpr ⟨lt_3 44 rfl, List.forall_mem_cons.mpr ⟨lt_3 57 rfl, List.forall_mem_cons.mpr ⟨lt_3 63 rfl, List.forall_mem_cons.mpr ⟨lt_3 138 rfl, List.forall_mem_cons.mpr ⟨lt_3 143 rfl, List.forall_mem_cons.mpr ⟨lt_3 144 rfl, List.forall_mem_cons.mpr ⟨lt_3 188 rfl, List.forall_mem_cons.mpr ⟨lt_3 219 rfl, List.forall_mem_cons.mpr ⟨lt_4 18 rfl, fun _ h => absurd h List.not_mem_nil⟩⟩⟩⟩⟩⟩⟩⟩⟩⟩⟩⟩⟩
def strT (i : Nat) : Term := .string RX4 (ixJS.getD i 0)
def strV (i : Nat) : Term := .field (strT i) "java/lang/String" "value" "[B"
def gvC : List Cond := flatC (Jvm.Cond.and given_1 narrow_1)
def gvB : List Nat := [33, 101, 136, 180]
set_option maxRecDepth 100000 in
theorem gv_ex : ∀ i, i < 4 → gvC[gvB.getD i 0]? = some (Cond.exactly (strT i) "java/lang/String") := by decide +kernel
set_option maxRecDepth 100000 in
theorem gv_co : ∀ i, i < 4 → gvC[gvB.getD i 0 + 1]? = some (Cond.eq (.field (strT i) "java/lang/String" "coder" "B") (.int 0)) := by decide +kernel
set_option maxRecDepth 100000 in
theorem gv_ar : ∀ i, i < 4 → gvC[gvB.getD i 0 + 2]? = some (Cond.arrayOf (strV i) .byte) := by decide +kernel
set_option maxRecDepth 100000 in
theorem gv_le : ∀ i, i < 4 → gvC[gvB.getD i 0 + 3]? = some (Cond.eq (.length (strV i)) (.int (Int32.ofNat (lenJS.getD i 0)))) := by decide +kernel
set_option maxRecDepth 100000 in
theorem gv_el : ∀ i, i < 4 → ∀ j, j < lenJS.getD i 0 → gvC[gvB.getD i 0 + 4 + j]? = some (Cond.eq (.elem (strV i) (.int (Int32.ofNat j))) (.int ((bytJS.getD i []).getD j 0))) := by decide +kernel
theorem va_OFof {args : Array Value} {s : State} {t : Term} {o n d : String} {v : Value} {a : Nat} {A : Nat → Prop} (ht : t.eval args s none [] s = some (.ref a)) (h : (Term.field t o n d).eval args s none [] s = some v) (hA : ∀ a : Nat, a < s.heap.size → ¬ A a) : va_OF o n d v a A s s.heap := by
  cases hf : s.fieldFound? o n d with
  | none => simp [Term.eval, ht, State.fieldOf?, State.fieldNamed?, hf] at h
  | some q =>
    obtain ⟨c, k, i, f⟩ := q
    obtain ⟨h1, cell, h2, h3, h4, h5, h6⟩ := Term.field_spec hf ht h
    exact ⟨c, k, i, f, cell, hf, h1, h2, h3, h6, hA a (Array.getElem?_eq_some_iff.mp h2).1⟩
theorem str_at {args : Array Value} {s : State} {A : Nat → Prop} (hgv : ∀ c ∈ gvC, c.before args s = true) (hA : ∀ a : Nat, a < s.heap.size → ¬ A a) (i : Nat) (hi : i < 4) : ∃ a v : Nat, (strT i).eval args s none [] s = some (.ref a) ∧ va_O "java/lang/String" a A s s.heap ∧ va_OF "java/lang/String" "coder" "B" (.int 0) a A s s.heap ∧ va_OF "java/lang/String" "value" "[B" (.ref v) a A s s.heap ∧ va_T .byte v (lenJS.getD i 0) (fun j => .int ((bytJS.getD i []).getD j 0)) A s s.heap := by
  have hex := hgv _ (List.mem_of_getElem? (gv_ex i hi))
  obtain ⟨a, c, cell, k, h1, -⟩ := Cond.exactly_spec (args := args) (first := s) (o := none) (s := s) (idx := []) hex
  have hlt : ∀ i, i < 4 → lenJS.getD i 0 < 2 ^ 31 := by decide
  obtain ⟨v, hv, hT⟩ := va_Tof (tm := strV i) (N := lenJS.getD i 0) (f := fun j => .int ((bytJS.getD i []).getD j 0)) (hlt i hi) (hgv _ (List.mem_of_getElem? (gv_ar i hi))) (va_eqt (hgv _ (List.mem_of_getElem? (gv_le i hi)))) (fun j hj => va_eqt (hgv _ (List.mem_of_getElem? (gv_el i hi j hj)))) hA
  exact ⟨a, v, h1, va_Oof hex h1 hA, va_OFof h1 (va_eqt (hgv _ (List.mem_of_getElem? (gv_co i hi)))) hA, va_OFof h1 hv hA, hT⟩
theorem ne_at {args : Array Value} {s : State} {t u : Term} {a b : Nat} (h : (Cond.not (.eq t u)).before args s = true) (ht : t.eval args s none [] s = some (.ref a)) (hu : u.eval args s none [] s = some (.ref b)) : a ≠ b := by
  intro e
  subst e
  simp [Cond.before, Cond.holds, Cond.value, ht, hu] at h
set_option maxHeartbeats 4000000 in
set_option maxRecDepth 100000 in
theorem ex_start {p : Program} {s : State} {m : MethodId} {meth : Method} {c : Code} {b L : Nat} {xs : Nat → Int32} (C0 : lw_At p s m meth c b L xs) : ∃ E : EV, E.2.2.2.2 = some (b, L, xs) ∧ ExS E (fun q => s.heap.size ≤ q) s s.heap := by
  obtain ⟨hx, hb, hr, hml, hown, hts, hX, hbl, hlocks, hgv0⟩ := C0
  have hgv : ∀ c ∈ gvC, c.before #[Value.ref b] s = true := flat_of_before _ hgv0
  have hA : ∀ a : Nat, a < s.heap.size → ¬ s.heap.size ≤ a := fun a h => Nat.not_le.mpr h
  obtain ⟨c0, i0, hK0⟩ := u_known (fun w hw => hts w (tb_out hw)) lys0 (hts _ (tb_out ib_X0))
  obtain ⟨c1, i1, hK1⟩ := u_known (fun w hw => hts w (tb_out hw)) lys1 (hts _ (tb_out ib_X1))
  obtain ⟨c2, i2, hK2⟩ := u_known (fun w hw => hts w (tb_out hw)) lys2 (hts _ (tb_out ib_X2))
  obtain ⟨c3, i3, hK3⟩ := u_known (fun w hw => hts w (tb_out hw)) lys3 (hts _ (tb_out ib_X3))
  obtain ⟨c4, i4, hK4⟩ := u_known (fun w hw => hts w (tb_out hw)) lys4 (hts _ (tb_out ib_X4))
  obtain ⟨c5, i5, hK5⟩ := u_known (fun w hw => hts w (tb_out hw)) lys5 (hts _ (tb_out ib_X5))
  obtain ⟨c6, i6, hK6⟩ := u_known (fun w hw => hts w (tb_out hw)) lys6 (hts _ (tb_out ib_X6))
  obtain ⟨c7, i7, hK7⟩ := u_known (fun w hw => hts w (tb_out hw)) lys7 (hts _ (tb_out ib_X7))
  obtain ⟨c8, i8, hK8⟩ := u_known (fun w hw => hts w (tb_out hw)) lys8 (hts _ (tb_out ib_X8))
  obtain ⟨c9, i9, hK9⟩ := u_known (fun w hw => hts w (tb_out hw)) lys9 (hts _ (tb_out ib_X9))
  obtain ⟨c10, i10, hK10⟩ := u_known (fun w hw => hts w (tb_out hw)) lys10 (hts _ (tb_out ib_X10))
  obtain ⟨c11, i11, hK11⟩ := u_known (fun w hw => hts w (tb_out hw)) lys11 (hts _ (tb_out ib_X11))
  obtain ⟨cI, kI, oI, hI1, hI2, hI3⟩ := Cond.arrayClass_spec (hts _ (tb_out arr_int))
  obtain ⟨cZ, kZ, oZ, hZ1, hZ2, hZ3⟩ := Cond.arrayClass_spec (hts _ (tb_out arr_bool))
  have hao1 : (Cond.arrayOver (.object "HouseTwins$Scene")).before #[Value.ref b] s = true := hts _ (lt_2 74 rfl)
  have hao2 : (Cond.arrayOver (.object "HouseTwins$Sheet")).before #[Value.ref b] s = true := hts _ (lt_2 76 rfl)
  have hao3 : (Cond.arrayOver (.array .int)).before #[Value.ref b] s = true := hts _ (lt_1 50 rfl)
  obtain ⟨oS, cS, kS, f1, f2, f3, f4, f5⟩ := Cond.arrayOver_spec hao1
  obtain ⟨oH, cH, kH, g1, g2, g3, g4, g5⟩ := Cond.arrayOver_spec hao2
  obtain ⟨oA, cA, kA, e1, e2, e3, e4, e5⟩ := arrayOverA_spec hao3
  obtain ⟨a0, v0, s0, o0, p0, q0, t0⟩ := str_at hgv hA 0 (by decide)
  obtain ⟨a1, v1, s1, o1, p1, q1, t1⟩ := str_at hgv hA 1 (by decide)
  obtain ⟨a2, v2, s2, o2, p2, q2, t2⟩ := str_at hgv hA 2 (by decide)
  obtain ⟨a3, v3, s3, o3, p3, q3, t3⟩ := str_at hgv hA 3 (by decide)
  have n01 : a0 ≠ a1 := ne_at (t := strT 0) (u := strT 1) (hgv _ (List.mem_of_getElem? (i := 135) (by decide +kernel))) s0 s1
  have n02 : a0 ≠ a2 := ne_at (t := strT 0) (u := strT 2) (hgv _ (List.mem_of_getElem? (i := 178) (by decide +kernel))) s0 s2
  have n12 : a1 ≠ a2 := ne_at (t := strT 1) (u := strT 2) (hgv _ (List.mem_of_getElem? (i := 179) (by decide +kernel))) s1 s2
  have n03 : a0 ≠ a3 := ne_at (t := strT 0) (u := strT 3) (hgv _ (List.mem_of_getElem? (i := 194) (by decide +kernel))) s0 s3
  have n13 : a1 ≠ a3 := ne_at (t := strT 1) (u := strT 3) (hgv _ (List.mem_of_getElem? (i := 195) (by decide +kernel))) s1 s3
  have n23 : a2 ≠ a3 := ne_at (t := strT 2) (u := strT 3) (hgv _ (List.mem_of_getElem? (i := 196) (by decide +kernel))) s2 s3
  refine ⟨((fun k => [c0, c1, c2, c3, c4, c5, c6, c7, c8, c9, c10, c11].getD k c0, fun k => [i0, i1, i2, i3, i4, i5, i6, i7, i8, i9, i10, i11].getD k i0), fun k => [cI, cZ, cS, cH, cA].getD k cI, fun i => [a0, a1, a2, a3].getD i a0, fun i => [v0, v1, v2, v3].getD i v0, some (b, L, xs)), rfl, ?_, ?_, ?_, ?_, ?_, ?_, ?_⟩
  · refine ⟨fun k q hq => ?_, fun k q hq => ?_⟩
    · match k, hq with
      | 0, hq => cases hq; exact hK0
      | 1, hq => cases hq; exact hK1
      | 2, hq => cases hq; exact hK2
      | 3, hq => cases hq; exact hK3
      | 4, hq => cases hq; exact hK4
      | 5, hq => cases hq; exact hK5
      | 6, hq => cases hq; exact hK6
      | 7, hq => cases hq; exact hK7
      | 8, hq => cases hq; exact hK8
      | 9, hq => cases hq; exact hK9
      | 10, hq => cases hq; exact hK10
      | 11, hq => cases hq; exact hK11
      | k + 12, hq => simp [vwCl] at hq
    · match k, hq with
      | 0, hq => cases hq; exact ⟨fun n z => ⟨fun k h => (by cases h), kI, hI2, oI, hI3⟩, hI1⟩
      | 1, hq => cases hq; exact ⟨fun n z => ⟨fun k h => (by cases h), kZ, hZ2, oZ, hZ3⟩, hZ1⟩
      | 2, hq => cases hq; exact ⟨fun n z => ⟨fun k h => (by cases h), kS, f3, oS, f4⟩, kS, oS, f3, f4, f1, f5⟩
      | 3, hq => cases hq; exact ⟨fun n z => ⟨fun k h => (by cases h), kH, g3, oH, g4⟩, kH, oH, g3, g4, g1, g5⟩
      | 4, hq => cases hq; exact ⟨fun n z => ⟨fun k h => (by cases h), kA, e3, oA, e4⟩, e5⟩
      | k + 5, hq => simp [tyL] at hq
  · refine ⟨fun i hi => ?_, fun i j hi hj e => ?_⟩
    · rcases (by omega : i = 0 ∨ i = 1 ∨ i = 2 ∨ i = 3) with h | h | h | h <;> subst h
      · exact ⟨o0, p0, q0, t0⟩
      · exact ⟨o1, p1, q1, t1⟩
      · exact ⟨o2, p2, q2, t2⟩
      · exact ⟨o3, p3, q3, t3⟩
    · rcases (by omega : i = 0 ∨ i = 1 ∨ i = 2 ∨ i = 3) with h | h | h | h <;> subst h <;> rcases (by omega : j = 0 ∨ j = 1 ∨ j = 2 ∨ j = 3) with h | h | h | h <;> subst h <;> first | rfl | exact absurd e n01 | exact absurd e n02 | exact absurd e n03 | exact absurd e n12 | exact absurd e n13 | exact absurd e n23 | exact absurd e n01.symm | exact absurd e n02.symm | exact absurd e n03.symm | exact absurd e n12.symm | exact absurd e n13.symm | exact absurd e n23.symm
  · intro i hi
    rcases (by omega : i = 0 ∨ i = 1 ∨ i = 2 ∨ i = 3) with h | h | h | h <;> subst h
    · exact vk_R.of (hts _ (lt_2 186 rfl)) s0
    · exact vk_R.of (hts _ (lt_3 23 rfl)) s1
    · exact vk_R.of (hts _ (lt_3 51 rfl)) s2
    · exact vk_R.of (hts _ (lt_3 52 rfl)) s3
  · exact va_Zof (hts _ (lt_2 200 rfl)) (hts _ (lt_1 13 rfl)) (va_eqi (hgv _ (List.mem_of_getElem? (i := 4) (by decide +kernel)))) hA
  · exact ⟨hX, hbl, Nat.not_le.mpr hbl⟩
  · exact ⟨fun q hq => va_Nw.of rfl (hts _ (nest_in q hq)), va_AO.of hao1, va_AO.of hao2, hao3⟩
  · exact va_Zqof (hts _ (lt_2 216 rfl)) (hts _ (lt_1 15 rfl)) (hgv _ (List.mem_of_getElem? (i := 5) (by decide +kernel))) hA
