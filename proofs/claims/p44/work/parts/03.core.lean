/-! THE JUDGEMENT T: from a frame of method k (pc, locals l, stack st) with the world ws the machine comes to the method's end, with an answer and a world that Φ allows. The surroundings (machine, tables, heap, frame below) are bound inside: rules speak of pc, locals, stack and world alone. -/
/-- a method: name, bytes, locals' words, answer's type, room: frames, locals, cells, slots -/
abbrev MD : Type := MethodName × ByteArray × Nat × Option FieldType × Nat × Nat × Nat × Nat
def md_rm (k : MD) : Room := { frames := k.2.2.2.2.1, cells := k.2.2.2.2.2.2.1, slots := k.2.2.2.2.2.2.2, locals := k.2.2.2.2.2.1 }
/-- the tables' words that stay true while the machine runs on -/
def TB : List Cond := lw_tbl.filter goodWord
theorem tb_in {w : Cond} (h : w ∈ lw_tbl) (hg : goodWord w = true) : w ∈ TB := List.mem_filter.mpr ⟨h, hg⟩
theorem tb_out {w : Cond} (h : w ∈ TB) : w ∈ lw_tbl := (List.mem_filter.mp h).1
def md_ws (k : MD) : List Cond := .code k.1 k.2.1 k.2.2.1 k.2.2.2.1 :: TB
abbrev tyL (tc : Nat → ClassId) : List (ClassId × FieldType) := [(tc 0, .int), (tc 1, .boolean), (tc 2, .object "HouseTwins$Scene"), (tc 3, .object "HouseTwins$Sheet"), (tc 4, .array .int)]
/-- classes' numbers and slots; array classes' numbers; the String constants' cells; the script -/
abbrev EV : Type := va_G × (Nat → ClassId) × (Nat → Nat) × (Nat → Nat) × Option (Nat × Nat × (Nat → Int32))
def ixJS : List Nat := [117, 171, 110, 115]
def txJS : List String := ["lots bend pull price cost taste lack twin paint right thing work", "house garden shop tower shrine", "nothing house garden shop tower shrine", "left right"]
def lenJS : List Nat := [64, 30, 38, 10]
def bytJS : List (List Int32) := [[108, 111, 116, 115, 32, 98, 101, 110, 100, 32, 112, 117, 108, 108, 32, 112, 114, 105, 99, 101, 32, 99, 111, 115, 116, 32, 116, 97, 115, 116, 101, 32, 108, 97, 99, 107, 32, 116, 119, 105, 110, 32, 112, 97, 105, 110, 116, 32, 114, 105, 103, 104, 116, 32, 116, 104, 105, 110, 103, 32, 119, 111, 114, 107], [104, 111, 117, 115, 101, 32, 103, 97, 114, 100, 101, 110, 32, 115, 104, 111, 112, 32, 116, 111, 119, 101, 114, 32, 115, 104, 114, 105, 110, 101], [110, 111, 116, 104, 105, 110, 103, 32, 104, 111, 117, 115, 101, 32, 103, 97, 114, 100, 101, 110, 32, 115, 104, 111, 112, 32, 116, 111, 119, 101, 114, 32, 115, 104, 114, 105, 110, 101], [108, 101, 102, 116, 32, 114, 105, 103, 104, 116]]
def nestL : List (String × Nat × MethodName) := [("HouseTwins", 9, ⟨"HouseTwins$Tape", "<init>", "()V"⟩), ("HouseTwins", 25, ⟨"HouseTwins$Scene", "<init>", "()V"⟩), ("HouseTwins$Reader", 20, ⟨"HouseTwins$Scene", "<init>", "()V"⟩), ("HouseTwins", 83, ⟨"HouseTwins$Sheet", "<init>", "()V"⟩), ("HouseTwins$Reader", 185, ⟨"HouseTwins", "slot", "(II)I"⟩), ("HouseTwins$Scene", 44, ⟨"HouseTwins", "isSlot", "(II)Z"⟩), ("HouseTwins$Scene", 48, ⟨"HouseTwins", "slot", "(II)I"⟩), ("HouseTwins$Law", 58, ⟨"HouseTwins", "isKind", "(I)Z"⟩), ("HouseTwins$Law", 62, ⟨"HouseTwins", "isBank", "(I)Z"⟩), ("HouseTwins$Law", 65, ⟨"HouseTwins", "isBuilt", "(I)Z"⟩), ("HouseTwins$Law", 54, ⟨"HouseTwins", "isSlot", "(II)Z"⟩), ("HouseTwins$Law", 89, ⟨"HouseTwins", "slot", "(II)I"⟩), ("HouseTwins$Run", 83, ⟨"HouseTwins", "slot", "(II)I"⟩)]
/-- what else the tables say: nest mates' links, arrays over classes -/
def ExT (U : State) : Prop := (∀ q ∈ nestL, va_Nw (.methodLinkNest q.1 q.2.1 q.2.2 "HouseTwins") U) ∧ va_AO "HouseTwins$Scene" U ∧ va_AO "HouseTwins$Sheet" U ∧ (Cond.arrayOver (.array .int)).before #[] U = true
theorem ExT.warm {s U : State} (hW : s.WarmedH U.vm) (h : ExT s) : ExT U := ⟨fun q hq => (h.1 q hq).warmM hW, va_AO.moved hW.alike h.2.1, va_AO.moved hW.alike h.2.2.1, over_moved hW.alike h.2.2.2⟩
theorem ExT.same {u U : State} (hv : u.vm = U.vm) (h : ExT u) : ExT U := by
  have ha : u.vm.Alike U.vm := hv ▸ Vm.Alike.refl u.vm
  exact ⟨fun q hq => (h.1 q hq).same rfl hv, va_AO.moved ha h.2.1, va_AO.moved ha h.2.2.1, over_moved ha h.2.2.2⟩
def sc_ok (x : Option (Nat × Nat × (Nat → Int32))) (A : Nat → Prop) (U : State) (H : Heap) : Prop := match x with
  | none => True
  | some (b, L, xs) => va_X b L xs U H ∧ b < H.size ∧ ¬ A b
/-- what stands outside the world, and is never written -/
def ExS (E : EV) (A : Nat → Prop) (U : State) (H : Heap) : Prop :=
  va_K E.1 vwCl (tyL E.2.1) U ∧ vk_S 4 lenJS bytJS E.2.2.1 E.2.2.2.1 A U H ∧ (∀ i, i < 4 → vk_R RX4 (ixJS.getD i 0) (txJS.getD i "") (E.2.2.1 i) U) ∧ va_Z "java/lang/String" "COMPACT_STRINGS" "Z" (.int 1) A U H ∧ sc_ok E.2.2.2.2 A U H ∧ ExT U ∧ va_Zq "jdk/internal/util/Preconditions" "SIOOBE_FORMATTER" "Ljava/util/function/BiFunction;" A U H
def Cx (k : MD) (p : Program) (s : State) (m : MethodId) (args : Array Value) (meth : Method) (c : Code) : Prop :=
  p.tables.exec = Jvm.exec ∧ c.code = k.2.1 ∧ c.maxLocals = k.2.2.1 ∧ s.vm.findClass k.1.cls = some m.cls ∧ (∀ w ∈ TB, w.before args s = true) ∧ meth.sig.returnType = k.2.2.2.1 ∧ meth.locks = false ∧ (k.1.name = "<init>" → meth.name = "<init>")
abbrev pushR (r : Option Value) (st : List Value) : List Value := match r with
  | none => st
  | some v => v :: st
def rtI (k : MD) (pc : Nat) (r : Option Value) : Prop := match r with
  | none => k.2.2.2.1 = none ∧ decode k.2.1 pc = .ok (.return_, 1)
  | some (.int v) => ∃ ty, k.2.2.2.1 = some ty ∧ narrow ty (.int v) = .int v ∧ decode k.2.1 pc = .ok (.ireturn, 1)
  | some (.long _) => k.2.2.2.1 = some .long ∧ decode k.2.1 pc = .ok (.lreturn, 1)
  | _ => False
def T (E : EV) (k : MD) (cu su : Nat) (ws : va_W) (pc : Nat) (l : List (Nat × Value)) (st : List Value) (Φ : Option Value → va_W → Prop) : Prop :=
  ∀ (p : Program) (L : Launch) (e : Env) (s : State) (m : MethodId) (args : Array Value) (below : List Frame) (meth : Method) (c : Code) (A : Nat → Prop) (Q : State → Prop) (H : Heap) (locs : List Loc) (ls : Array Slot),
    Cx k p s m args meth c → ExS E A s s.heap → (∀ q, s.heap.size ≤ q → A q) → va_P E.1 vwCl ws H → va_D A ws → va_S A s.heap H locs → lv_has ls k.2.2.1 l →
    (∀ (r : Option Value) (ws' : va_W) (H' : Heap) (locs' : List Loc) (ls' : Array Slot) (cu' su' pc' : Nat), Φ r ws' → va_P E.1 vwCl ws' H' → va_D A ws' → va_S A s.heap H' locs' → cu' ≤ k.2.2.2.2.2.2.1 → su' ≤ k.2.2.2.2.2.2.2 → rtI k pc' r → W p L e (md_rm k) s m args below meth c H' locs' cu' su' Q (F0 m pc' ls' (pushR r []))) →
    W p L e (md_rm k) s m args below meth c H locs cu su Q (F0 m pc ls st)
/-- a method's contract: from its entry -/
def Tm (E : EV) (k : MD) (ws : va_W) (av : List Value) (Φ : Option Value → va_W → Prop) : Prop := T E k 0 0 ws 0 (lv_args 0 av) [] Φ
/-- locals, sorted by their places -/
def stI : List (Nat × Value) → Nat → Value → List (Nat × Value)
  | [], i, v => [(i, v)]
  | q :: l, i, v => if Nat.ble i q.1 then (i, v) :: q :: l else q :: stI l i v
theorem stI_mem {i : Nat} {v : Value} {q : Nat × Value} : ∀ {l : List (Nat × Value)}, q ∈ stI l i v → q ∈ (i, v) :: l
  | [], h => h
  | x :: l, h => by
    unfold stI at h
    split at h
    · exact h
    · rcases List.mem_cons.mp h with h | h
      · rw [h]; exact List.mem_cons_of_mem _ List.mem_cons_self
      · rcases List.mem_cons.mp (stI_mem h) with h | h
        · rw [h]; exact List.mem_cons_self
        · exact List.mem_cons_of_mem _ (List.mem_cons_of_mem _ h)
def st1 (l : List (Nat × Value)) (i : Nat) (v : Value) : List (Nat × Value) := stI (l.filter (fun q => !(q.1 == i) && !(q.1 + 1 == i && q.2.category == 2))) i v
def st2 (l : List (Nat × Value)) (i : Nat) (v : Value) : List (Nat × Value) := stI (l.filter (fun q => !(q.1 == i) && (!(q.1 == i + 1) && !(q.1 + 1 == i && q.2.category == 2)))) i v
theorem lv_mem {ls : Array Slot} {n : Nat} {l l' : List (Nat × Value)} (h : lv_has ls n l) (hm : ∀ q ∈ l', q ∈ l) : lv_has ls n l' := ⟨h.1, h.2.1, fun q hq => h.2.2 q (hm q hq)⟩
theorem lk_mem {i : Nat} {v : Value} : ∀ {l : List (Nat × Value)}, l.lookup i = some v → (i, v) ∈ l
  | [], h => by cases h
  | (j, u) :: l, h => by
    rw [List.lookup_cons] at h
    cases hb : i == j with
    | true =>
      rw [hb] at h
      cases h
      have : i = j := by simpa using hb
      rw [this]; exact List.mem_cons_self
    | false =>
      rw [hb] at h
      exact List.mem_cons_of_mem _ (lk_mem h)
theorem lv_lk {ls : Array Slot} {n i : Nat} {l : List (Nat × Value)} {v : Value} (h : lv_has ls n l) (hk : l.lookup i = some v) : ls[i]? = some (.val v) := h.2.2 (i, v) (lk_mem hk)
theorem lk_at {i : Nat} {v : Value} {l : List (Nat × Value)} (h : l.lookup i = some v) : ∃ k : Nat, l[k]? = some (i, v) := List.getElem?_of_mem (lk_mem h)
section TR
variable {E : EV} {k : MD} {cu su : Nat} {ws : va_W} {pc : Nat} {l : List (Nat × Value)} {st : List Value} {Φ : Option Value → va_W → Prop}
/-- fewer locals -/
theorem tj_sub {l' : List (Nat × Value)} (hm : ∀ q ∈ l', q ∈ l) (kk : T E k cu su ws pc l' st Φ) : T E k cu su ws pc l st Φ := by
  intro p L e s m args below meth c A Q H locs ls hC hE hA hP hD hS hl hF
  exact kk p L e s m args below meth c A Q H locs ls hC hE hA hP hD hS (lv_mem hl hm) hF
theorem tj_mono {Ψ : Option Value → va_W → Prop} (h : T E k cu su ws pc l st Ψ) (hi : ∀ r w, Ψ r w → Φ r w) : T E k cu su ws pc l st Φ := by
  intro p L e s m args below meth c A Q H locs ls hC hE hA hP hD hS hl hF
  exact h p L e s m args below meth c A Q H locs ls hC hE hA hP hD hS hl (fun r ws' H' locs' ls' cu' su' pc' hΨ => hF r ws' H' locs' ls' cu' su' pc' (hi r ws' hΨ))
theorem tj_eq {pc' : Nat} {l' : List (Nat × Value)} {st' : List Value} {ws' : va_W} (hw : ws = ws') (hp : pc = pc') (hl : l = l') (hs : st = st') (kk : T E k cu su ws' pc' l' st' Φ) : T E k cu su ws pc l st Φ := by
  subst hw; subst hp; subst hl; subst hs; exact kk
theorem tj_topi {x : Int32} (kk : ∀ y : Int32, y = x → T E k cu su ws pc l (.int y :: st) Φ) : T E k cu su ws pc l (.int x :: st) Φ := kk x rfl

theorem tj_iconst {v : Int32} {z : Int} {n : Nat} (hn : pc + 1 = n) (hd : decode k.2.1 pc = .ok (.iconst z, 1)) (hv : Int32.ofInt z = v) (kk : T E k cu su ws n l (.int v :: st) Φ) : T E k cu su ws pc l (st) Φ := by
  subst hn
  intro p L e s m args below meth c A Q H locs ls hC hE hA hP hD hS hl hF
  exact lv_iconst hC.1 hC.2.1 hd hv (kk p L e s m args below meth c A Q H locs ls hC hE hA hP hD hS hl hF)
theorem tj_bipush {v : Int32} {z : Int} {n : Nat} (hn : pc + 2 = n) (hd : decode k.2.1 pc = .ok (.bipush z, 2)) (hv : (Int8.ofInt z).toInt32 = v) (kk : T E k cu su ws n l (.int v :: st) Φ) : T E k cu su ws pc l (st) Φ := by
  subst hn
  intro p L e s m args below meth c A Q H locs ls hC hE hA hP hD hS hl hF
  exact lv_bipush hC.1 hC.2.1 hd hv (kk p L e s m args below meth c A Q H locs ls hC hE hA hP hD hS hl hF)
theorem tj_sipush {v : Int32} {z : Int} {n : Nat} (hn : pc + 3 = n) (hd : decode k.2.1 pc = .ok (.sipush z, 3)) (hv : (Int16.ofInt z).toInt32 = v) (kk : T E k cu su ws n l (.int v :: st) Φ) : T E k cu su ws pc l (st) Φ := by
  subst hn
  intro p L e s m args below meth c A Q H locs ls hC hE hA hP hD hS hl hF
  exact lv_sipush hC.1 hC.2.1 hd hv (kk p L e s m args below meth c A Q H locs ls hC hE hA hP hD hS hl hF)
theorem tj_lconst {v : Int64} {z : Fin 2} {n : Nat} (hn : pc + 1 = n) (hd : decode k.2.1 pc = .ok (.lconst z, 1)) (hv : Int64.ofNat (z : Nat) = v) (kk : T E k cu su ws n l (.long v :: st) Φ) : T E k cu su ws pc l (st) Φ := by
  subst hn
  intro p L e s m args below meth c A Q H locs ls hC hE hA hP hD hS hl hF
  exact lv_lconst hC.1 hC.2.1 hd hv (kk p L e s m args below meth c A Q H locs ls hC hE hA hP hD hS hl hF)
theorem tj_iload_n {x : Int32} {j : Fin 4} {n : Nat} (hn : pc + 1 = n) (hd : decode k.2.1 pc = .ok (.iload_n j, 1)) (hk : l.lookup (j : Nat) = some (.int x)) (kk : T E k cu su ws n l (.int x :: st) Φ) : T E k cu su ws pc l (st) Φ := by
  subst hn
  intro p L e s m args below meth c A Q H locs ls hC hE hA hP hD hS hl hF
  exact lv_iload_n hC.1 hC.2.1 hd rfl (lv_lk hl hk) (kk p L e s m args below meth c A Q H locs ls hC hE hA hP hD hS hl hF)
theorem tj_iload {x : Int32} {j : Nat} {n : Nat} (hn : pc + 2 = n) (hd : decode k.2.1 pc = .ok (.iload j, 2)) (hk : l.lookup j = some (.int x)) (kk : T E k cu su ws n l (.int x :: st) Φ) : T E k cu su ws pc l (st) Φ := by
  subst hn
  intro p L e s m args below meth c A Q H locs ls hC hE hA hP hD hS hl hF
  exact lv_iload hC.1 hC.2.1 hd (lv_lk hl hk) (kk p L e s m args below meth c A Q H locs ls hC hE hA hP hD hS hl hF)
theorem tj_istore_n {x : Int32} {j : Fin 4} {n : Nat} {l' : List (Nat × Value)} (hn : pc + 1 = n) (hd : decode k.2.1 pc = .ok (.istore_n j, 1)) (hj : (j : Nat) < k.2.2.1) (hl' : st1 l (j : Nat) (.int x) = l') (kk : T E k cu su ws n l' st Φ) : T E k cu su ws pc l (.int x :: st) Φ := by
  subst hn
  subst hl'
  intro p L e s m args below meth c A Q H locs ls hC hE hA hP hD hS hl hF
  exact lv_istore_n hC.1 hC.2.1 hd rfl hl hj rfl (fun ls' h' => kk p L e s m args below meth c A Q H locs ls' hC hE hA hP hD hS (lv_mem h' (fun q hq => stI_mem hq)) hF)
theorem tj_istore {x : Int32} {j : Nat} {n : Nat} {l' : List (Nat × Value)} (hn : pc + 2 = n) (hd : decode k.2.1 pc = .ok (.istore j, 2)) (hj : j < k.2.2.1) (hl' : st1 l j (.int x) = l') (kk : T E k cu su ws n l' st Φ) : T E k cu su ws pc l (.int x :: st) Φ := by
  subst hn
  subst hl'
  intro p L e s m args below meth c A Q H locs ls hC hE hA hP hD hS hl hF
  exact lv_istore hC.1 hC.2.1 hd hl hj rfl (fun ls' h' => kk p L e s m args below meth c A Q H locs ls' hC hE hA hP hD hS (lv_mem h' (fun q hq => stI_mem hq)) hF)
theorem tj_lload_n {x : Int64} {j : Fin 4} {n : Nat} (hn : pc + 1 = n) (hd : decode k.2.1 pc = .ok (.lload_n j, 1)) (hk : l.lookup (j : Nat) = some (.long x)) (kk : T E k cu su ws n l (.long x :: st) Φ) : T E k cu su ws pc l (st) Φ := by
  subst hn
  intro p L e s m args below meth c A Q H locs ls hC hE hA hP hD hS hl hF
  exact lv_lload_n hC.1 hC.2.1 hd rfl (lv_lk hl hk) (kk p L e s m args below meth c A Q H locs ls hC hE hA hP hD hS hl hF)
theorem tj_lload {x : Int64} {j : Nat} {n : Nat} (hn : pc + 2 = n) (hd : decode k.2.1 pc = .ok (.lload j, 2)) (hk : l.lookup j = some (.long x)) (kk : T E k cu su ws n l (.long x :: st) Φ) : T E k cu su ws pc l (st) Φ := by
  subst hn
  intro p L e s m args below meth c A Q H locs ls hC hE hA hP hD hS hl hF
  exact lv_lload hC.1 hC.2.1 hd (lv_lk hl hk) (kk p L e s m args below meth c A Q H locs ls hC hE hA hP hD hS hl hF)
theorem tj_lstore_n {x : Int64} {j : Fin 4} {n : Nat} {l' : List (Nat × Value)} (hn : pc + 1 = n) (hd : decode k.2.1 pc = .ok (.lstore_n j, 1)) (hj : (j : Nat) + 1 < k.2.2.1) (hl' : st2 l (j : Nat) (.long x) = l') (kk : T E k cu su ws n l' st Φ) : T E k cu su ws pc l (.long x :: st) Φ := by
  subst hn
  subst hl'
  intro p L e s m args below meth c A Q H locs ls hC hE hA hP hD hS hl hF
  exact lv_lstore_n hC.1 hC.2.1 hd rfl hl hj rfl (fun ls' h' => kk p L e s m args below meth c A Q H locs ls' hC hE hA hP hD hS (lv_mem h' (fun q hq => stI_mem hq)) hF)
theorem tj_lstore {x : Int64} {j : Nat} {n : Nat} {l' : List (Nat × Value)} (hn : pc + 2 = n) (hd : decode k.2.1 pc = .ok (.lstore j, 2)) (hj : j + 1 < k.2.2.1) (hl' : st2 l j (.long x) = l') (kk : T E k cu su ws n l' st Φ) : T E k cu su ws pc l (.long x :: st) Φ := by
  subst hn
  subst hl'
  intro p L e s m args below meth c A Q H locs ls hC hE hA hP hD hS hl hF
  exact lv_lstore hC.1 hC.2.1 hd hl hj rfl (fun ls' h' => kk p L e s m args below meth c A Q H locs ls' hC hE hA hP hD hS (lv_mem h' (fun q hq => stI_mem hq)) hF)
theorem tj_aload_n {x : Nat} {j : Fin 4} {n : Nat} (hn : pc + 1 = n) (hd : decode k.2.1 pc = .ok (.aload_n j, 1)) (hk : l.lookup (j : Nat) = some (.ref x)) (kk : T E k cu su ws n l (.ref x :: st) Φ) : T E k cu su ws pc l (st) Φ := by
  subst hn
  intro p L e s m args below meth c A Q H locs ls hC hE hA hP hD hS hl hF
  exact lv_aload_n hC.1 hC.2.1 hd rfl (lv_lk hl hk) (kk p L e s m args below meth c A Q H locs ls hC hE hA hP hD hS hl hF)
theorem tj_aload {x : Nat} {j : Nat} {n : Nat} (hn : pc + 2 = n) (hd : decode k.2.1 pc = .ok (.aload j, 2)) (hk : l.lookup j = some (.ref x)) (kk : T E k cu su ws n l (.ref x :: st) Φ) : T E k cu su ws pc l (st) Φ := by
  subst hn
  intro p L e s m args below meth c A Q H locs ls hC hE hA hP hD hS hl hF
  exact lv_aload hC.1 hC.2.1 hd (lv_lk hl hk) (kk p L e s m args below meth c A Q H locs ls hC hE hA hP hD hS hl hF)
theorem tj_astore_n {x : Nat} {j : Fin 4} {n : Nat} {l' : List (Nat × Value)} (hn : pc + 1 = n) (hd : decode k.2.1 pc = .ok (.astore_n j, 1)) (hj : (j : Nat) < k.2.2.1) (hl' : st1 l (j : Nat) (.ref x) = l') (kk : T E k cu su ws n l' st Φ) : T E k cu su ws pc l (.ref x :: st) Φ := by
  subst hn
  subst hl'
  intro p L e s m args below meth c A Q H locs ls hC hE hA hP hD hS hl hF
  exact lv_astore_n hC.1 hC.2.1 hd rfl hl hj rfl (fun ls' h' => kk p L e s m args below meth c A Q H locs ls' hC hE hA hP hD hS (lv_mem h' (fun q hq => stI_mem hq)) hF)
theorem tj_astore {x : Nat} {j : Nat} {n : Nat} {l' : List (Nat × Value)} (hn : pc + 2 = n) (hd : decode k.2.1 pc = .ok (.astore j, 2)) (hj : j < k.2.2.1) (hl' : st1 l j (.ref x) = l') (kk : T E k cu su ws n l' st Φ) : T E k cu su ws pc l (.ref x :: st) Φ := by
  subst hn
  subst hl'
  intro p L e s m args below meth c A Q H locs ls hC hE hA hP hD hS hl hF
  exact lv_astore hC.1 hC.2.1 hd hl hj rfl (fun ls' h' => kk p L e s m args below meth c A Q H locs ls' hC hE hA hP hD hS (lv_mem h' (fun q hq => stI_mem hq)) hF)
theorem tj_iinc {x v : Int32} {j : Nat} {z : Int} {n : Nat} {l' : List (Nat × Value)} (hn : pc + 3 = n) (hd : decode k.2.1 pc = .ok (.iinc j z, 3)) (hk : l.lookup j = some (.int x)) (hj : j < k.2.2.1) (hv : x + Int32.ofInt z = v) (hl' : st1 l j (.int v) = l') (kk : T E k cu su ws n l' st Φ) : T E k cu su ws pc l st Φ := by
  subst hn
  subst hl'
  intro p L e s m args below meth c A Q H locs ls hC hE hA hP hD hS hl hF
  obtain ⟨i0, hi0⟩ := lk_at hk
  exact lv_iinc hC.1 hC.2.1 hd hl hi0 hv hj rfl (fun ls' h' => kk p L e s m args below meth c A Q H locs ls' hC hE hA hP hD hS (lv_mem h' (fun q hq => stI_mem hq)) hF)
theorem tj_iadd {x y : Int32} {n : Nat} (hn : pc + 1 = n) (hd : decode k.2.1 pc = .ok (.iadd, 1))  (kk : T E k cu su ws n l (.int (x + y) :: st) Φ) : T E k cu su ws pc l (.int y :: .int x :: st) Φ := by
  subst hn
  intro p L e s m args below meth c A Q H locs ls hC hE hA hP hD hS hl hF
  exact lv_iadd hC.1 hC.2.1 hd (kk p L e s m args below meth c A Q H locs ls hC hE hA hP hD hS hl hF)
theorem tj_isub {x y : Int32} {n : Nat} (hn : pc + 1 = n) (hd : decode k.2.1 pc = .ok (.isub, 1))  (kk : T E k cu su ws n l (.int (x - y) :: st) Φ) : T E k cu su ws pc l (.int y :: .int x :: st) Φ := by
  subst hn
  intro p L e s m args below meth c A Q H locs ls hC hE hA hP hD hS hl hF
  exact lv_isub hC.1 hC.2.1 hd (kk p L e s m args below meth c A Q H locs ls hC hE hA hP hD hS hl hF)
theorem tj_imul {x y : Int32} {n : Nat} (hn : pc + 1 = n) (hd : decode k.2.1 pc = .ok (.imul, 1))  (kk : T E k cu su ws n l (.int (x * y) :: st) Φ) : T E k cu su ws pc l (.int y :: .int x :: st) Φ := by
  subst hn
  intro p L e s m args below meth c A Q H locs ls hC hE hA hP hD hS hl hF
  exact lv_imul hC.1 hC.2.1 hd (kk p L e s m args below meth c A Q H locs ls hC hE hA hP hD hS hl hF)
theorem tj_iand {x y : Int32} {n : Nat} (hn : pc + 1 = n) (hd : decode k.2.1 pc = .ok (.iand, 1))  (kk : T E k cu su ws n l (.int (x &&& y) :: st) Φ) : T E k cu su ws pc l (.int y :: .int x :: st) Φ := by
  subst hn
  intro p L e s m args below meth c A Q H locs ls hC hE hA hP hD hS hl hF
  exact lv_iand hC.1 hC.2.1 hd (kk p L e s m args below meth c A Q H locs ls hC hE hA hP hD hS hl hF)
theorem tj_ior {x y : Int32} {n : Nat} (hn : pc + 1 = n) (hd : decode k.2.1 pc = .ok (.ior, 1))  (kk : T E k cu su ws n l (.int (x ||| y) :: st) Φ) : T E k cu su ws pc l (.int y :: .int x :: st) Φ := by
  subst hn
  intro p L e s m args below meth c A Q H locs ls hC hE hA hP hD hS hl hF
  exact lv_ior hC.1 hC.2.1 hd (kk p L e s m args below meth c A Q H locs ls hC hE hA hP hD hS hl hF)
theorem tj_ixor {x y : Int32} {n : Nat} (hn : pc + 1 = n) (hd : decode k.2.1 pc = .ok (.ixor, 1))  (kk : T E k cu su ws n l (.int (x ^^^ y) :: st) Φ) : T E k cu su ws pc l (.int y :: .int x :: st) Φ := by
  subst hn
  intro p L e s m args below meth c A Q H locs ls hC hE hA hP hD hS hl hF
  exact lv_ixor hC.1 hC.2.1 hd (kk p L e s m args below meth c A Q H locs ls hC hE hA hP hD hS hl hF)
theorem tj_ishl {x y : Int32} {n : Nat} (hn : pc + 1 = n) (hd : decode k.2.1 pc = .ok (.ishl, 1))  (kk : T E k cu su ws n l (.int (x <<< (y &&& 31)) :: st) Φ) : T E k cu su ws pc l (.int y :: .int x :: st) Φ := by
  subst hn
  intro p L e s m args below meth c A Q H locs ls hC hE hA hP hD hS hl hF
  exact lv_ishl hC.1 hC.2.1 hd (kk p L e s m args below meth c A Q H locs ls hC hE hA hP hD hS hl hF)
theorem tj_ishr {x y : Int32} {n : Nat} (hn : pc + 1 = n) (hd : decode k.2.1 pc = .ok (.ishr, 1))  (kk : T E k cu su ws n l (.int (x >>> (y &&& 31)) :: st) Φ) : T E k cu su ws pc l (.int y :: .int x :: st) Φ := by
  subst hn
  intro p L e s m args below meth c A Q H locs ls hC hE hA hP hD hS hl hF
  exact lv_ishr hC.1 hC.2.1 hd (kk p L e s m args below meth c A Q H locs ls hC hE hA hP hD hS hl hF)
theorem tj_idiv {x y : Int32} {n : Nat} (hn : pc + 1 = n) (hd : decode k.2.1 pc = .ok (.idiv, 1)) (hne : ¬ y = 0) (kk : T E k cu su ws n l (.int (x / y) :: st) Φ) : T E k cu su ws pc l (.int y :: .int x :: st) Φ := by
  subst hn
  intro p L e s m args below meth c A Q H locs ls hC hE hA hP hD hS hl hF
  exact lv_idiv hC.1 hC.2.1 hd hne (kk p L e s m args below meth c A Q H locs ls hC hE hA hP hD hS hl hF)
theorem tj_irem {x y : Int32} {n : Nat} (hn : pc + 1 = n) (hd : decode k.2.1 pc = .ok (.irem, 1)) (hne : ¬ y = 0) (kk : T E k cu su ws n l (.int (x - x / y * y) :: st) Φ) : T E k cu su ws pc l (.int y :: .int x :: st) Φ := by
  subst hn
  intro p L e s m args below meth c A Q H locs ls hC hE hA hP hD hS hl hF
  exact lv_irem hC.1 hC.2.1 hd hne (kk p L e s m args below meth c A Q H locs ls hC hE hA hP hD hS hl hF)
theorem tj_ladd {x y : Int64} {n : Nat} (hn : pc + 1 = n) (hd : decode k.2.1 pc = .ok (.ladd, 1))  (kk : T E k cu su ws n l (.long (x + y) :: st) Φ) : T E k cu su ws pc l (.long y :: .long x :: st) Φ := by
  subst hn
  intro p L e s m args below meth c A Q H locs ls hC hE hA hP hD hS hl hF
  exact lv_ladd hC.1 hC.2.1 hd (kk p L e s m args below meth c A Q H locs ls hC hE hA hP hD hS hl hF)
theorem tj_lsub {x y : Int64} {n : Nat} (hn : pc + 1 = n) (hd : decode k.2.1 pc = .ok (.lsub, 1))  (kk : T E k cu su ws n l (.long (x - y) :: st) Φ) : T E k cu su ws pc l (.long y :: .long x :: st) Φ := by
  subst hn
  intro p L e s m args below meth c A Q H locs ls hC hE hA hP hD hS hl hF
  exact lv_lsub hC.1 hC.2.1 hd (kk p L e s m args below meth c A Q H locs ls hC hE hA hP hD hS hl hF)
theorem tj_lmul {x y : Int64} {n : Nat} (hn : pc + 1 = n) (hd : decode k.2.1 pc = .ok (.lmul, 1))  (kk : T E k cu su ws n l (.long (x * y) :: st) Φ) : T E k cu su ws pc l (.long y :: .long x :: st) Φ := by
  subst hn
  intro p L e s m args below meth c A Q H locs ls hC hE hA hP hD hS hl hF
  exact lv_lmul hC.1 hC.2.1 hd (kk p L e s m args below meth c A Q H locs ls hC hE hA hP hD hS hl hF)
theorem tj_land {x y : Int64} {n : Nat} (hn : pc + 1 = n) (hd : decode k.2.1 pc = .ok (.land, 1))  (kk : T E k cu su ws n l (.long (x &&& y) :: st) Φ) : T E k cu su ws pc l (.long y :: .long x :: st) Φ := by
  subst hn
  intro p L e s m args below meth c A Q H locs ls hC hE hA hP hD hS hl hF
  exact lv_land hC.1 hC.2.1 hd (kk p L e s m args below meth c A Q H locs ls hC hE hA hP hD hS hl hF)
theorem tj_lor {x y : Int64} {n : Nat} (hn : pc + 1 = n) (hd : decode k.2.1 pc = .ok (.lor, 1))  (kk : T E k cu su ws n l (.long (x ||| y) :: st) Φ) : T E k cu su ws pc l (.long y :: .long x :: st) Φ := by
  subst hn
  intro p L e s m args below meth c A Q H locs ls hC hE hA hP hD hS hl hF
  exact lv_lor hC.1 hC.2.1 hd (kk p L e s m args below meth c A Q H locs ls hC hE hA hP hD hS hl hF)
theorem tj_lshl {x : Int64} {y : Int32} {n : Nat} (hn : pc + 1 = n) (hd : decode k.2.1 pc = .ok (.lshl, 1))  (kk : T E k cu su ws n l (.long (x <<< (y.toInt64 &&& 63)) :: st) Φ) : T E k cu su ws pc l (.int y :: .long x :: st) Φ := by
  subst hn
  intro p L e s m args below meth c A Q H locs ls hC hE hA hP hD hS hl hF
  exact lv_lshl hC.1 hC.2.1 hd rfl (kk p L e s m args below meth c A Q H locs ls hC hE hA hP hD hS hl hF)
theorem tj_lshr {x : Int64} {y : Int32} {n : Nat} (hn : pc + 1 = n) (hd : decode k.2.1 pc = .ok (.lshr, 1))  (kk : T E k cu su ws n l (.long (x >>> (y.toInt64 &&& 63)) :: st) Φ) : T E k cu su ws pc l (.int y :: .long x :: st) Φ := by
  subst hn
  intro p L e s m args below meth c A Q H locs ls hC hE hA hP hD hS hl hF
  exact lv_lshr hC.1 hC.2.1 hd rfl (kk p L e s m args below meth c A Q H locs ls hC hE hA hP hD hS hl hF)
theorem tj_lushr {x : Int64} {y : Int32} {n : Nat} (hn : pc + 1 = n) (hd : decode k.2.1 pc = .ok (.lushr, 1))  (kk : T E k cu su ws n l (.long ((x.toUInt64 >>> (y.toInt64.toUInt64 &&& Int64.toUInt64 63)).toInt64) :: st) Φ) : T E k cu su ws pc l (.int y :: .long x :: st) Φ := by
  subst hn
  intro p L e s m args below meth c A Q H locs ls hC hE hA hP hD hS hl hF
  exact lv_lushr hC.1 hC.2.1 hd rfl (kk p L e s m args below meth c A Q H locs ls hC hE hA hP hD hS hl hF)
theorem tj_i2l {x : Int32} {n : Nat} (hn : pc + 1 = n) (hd : decode k.2.1 pc = .ok (.i2l, 1))  (kk : T E k cu su ws n l (.long x.toInt64 :: st) Φ) : T E k cu su ws pc l (.int x :: st) Φ := by
  subst hn
  intro p L e s m args below meth c A Q H locs ls hC hE hA hP hD hS hl hF
  exact lv_i2l hC.1 hC.2.1 hd rfl (kk p L e s m args below meth c A Q H locs ls hC hE hA hP hD hS hl hF)
theorem tj_l2i {x : Int64} {n : Nat} (hn : pc + 1 = n) (hd : decode k.2.1 pc = .ok (.l2i, 1))  (kk : T E k cu su ws n l (.int x.toInt32 :: st) Φ) : T E k cu su ws pc l (.long x :: st) Φ := by
  subst hn
  intro p L e s m args below meth c A Q H locs ls hC hE hA hP hD hS hl hF
  exact lv_l2i hC.1 hC.2.1 hd rfl (kk p L e s m args below meth c A Q H locs ls hC hE hA hP hD hS hl hF)
theorem tj_i2b {x : Int32} {n : Nat} (hn : pc + 1 = n) (hd : decode k.2.1 pc = .ok (.i2b, 1))  (kk : T E k cu su ws n l (.int x.toInt8.toInt32 :: st) Φ) : T E k cu su ws pc l (.int x :: st) Φ := by
  subst hn
  intro p L e s m args below meth c A Q H locs ls hC hE hA hP hD hS hl hF
  exact lv_i2b hC.1 hC.2.1 hd rfl (kk p L e s m args below meth c A Q H locs ls hC hE hA hP hD hS hl hF)
theorem tj_i2s {x : Int32} {n : Nat} (hn : pc + 1 = n) (hd : decode k.2.1 pc = .ok (.i2s, 1))  (kk : T E k cu su ws n l (.int x.toInt16.toInt32 :: st) Φ) : T E k cu su ws pc l (.int x :: st) Φ := by
  subst hn
  intro p L e s m args below meth c A Q H locs ls hC hE hA hP hD hS hl hF
  exact lv_i2s hC.1 hC.2.1 hd rfl (kk p L e s m args below meth c A Q H locs ls hC hE hA hP hD hS hl hF)
theorem tj_i2c {x : Int32} {n : Nat} (hn : pc + 1 = n) (hd : decode k.2.1 pc = .ok (.i2c, 1))  (kk : T E k cu su ws n l (.int (x.toUInt32 % 65536).toInt32 :: st) Φ) : T E k cu su ws pc l (.int x :: st) Φ := by
  subst hn
  intro p L e s m args below meth c A Q H locs ls hC hE hA hP hD hS hl hF
  exact lv_i2c hC.1 hC.2.1 hd rfl (kk p L e s m args below meth c A Q H locs ls hC hE hA hP hD hS hl hF)
theorem tj_lcmp {x y : Int64} {n : Nat} (hn : pc + 1 = n) (hd : decode k.2.1 pc = .ok (.lcmp, 1))  (kk : T E k cu su ws n l (.int (lg_cmp x y) :: st) Φ) : T E k cu su ws pc l (.long y :: .long x :: st) Φ := by
  subst hn
  intro p L e s m args below meth c A Q H locs ls hC hE hA hP hD hS hl hF
  exact W.lcmp hC.1 hC.2.1 hd (kk p L e s m args below meth c A Q H locs ls hC hE hA hP hD hS hl hF)
theorem tj_dup {v : Value} {n : Nat} (hn : pc + 1 = n) (hd : decode k.2.1 pc = .ok (.dup, 1)) (hv : v.category = 1) (kk : T E k cu su ws n l (v :: v :: st) Φ) : T E k cu su ws pc l (v :: st) Φ := by
  subst hn
  intro p L e s m args below meth c A Q H locs ls hC hE hA hP hD hS hl hF
  exact lv_dup hC.1 hC.2.1 hd hv (kk p L e s m args below meth c A Q H locs ls hC hE hA hP hD hS hl hF)
theorem tj_pop {v : Value} {n : Nat} (hn : pc + 1 = n) (hd : decode k.2.1 pc = .ok (.pop, 1)) (hv : v.category = 1) (kk : T E k cu su ws n l (st) Φ) : T E k cu su ws pc l (v :: st) Φ := by
  subst hn
  intro p L e s m args below meth c A Q H locs ls hC hE hA hP hD hS hl hF
  exact lv_pop hC.1 hC.2.1 hd hv (kk p L e s m args below meth c A Q H locs ls hC hE hA hP hD hS hl hF)
theorem tj_dup2 {v u : Value} {n : Nat} (hn : pc + 1 = n) (hd : decode k.2.1 pc = .ok (.dup2, 1)) (hv : v.category = 1) (hu : u.category = 1) (kk : T E k cu su ws n l (v :: u :: v :: u :: st) Φ) : T E k cu su ws pc l (v :: u :: st) Φ := by
  subst hn
  intro p L e s m args below meth c A Q H locs ls hC hE hA hP hD hS hl hF
  exact lv_dup2_11 hC.1 hC.2.1 hd hv hu (kk p L e s m args below meth c A Q H locs ls hC hE hA hP hD hS hl hF)
theorem tj_ldc {v : Int32} {j : Nat} {n : Nat} (hn : pc + 2 = n) (hd : decode k.2.1 pc = .ok (.ldc j, 2)) (hc : Cond.constant k.1.cls j v ∈ TB) (kk : T E k cu su ws n l (.int v :: st) Φ) : T E k cu su ws pc l (st) Φ := by
  subst hn
  intro p L e s m args below meth c A Q H locs ls hC hE hA hP hD hS hl hF
  exact lv_ldc hC.1 hC.2.1 hC.2.2.2.1 (hC.2.2.2.2.1 _ hc) hd (kk p L e s m args below meth c A Q H locs ls hC hE hA hP hD hS hl hF)
theorem tj_ldcw {v : Int32} {j : Nat} {n : Nat} (hn : pc + 3 = n) (hd : decode k.2.1 pc = .ok (.ldc_w j, 3)) (hc : Cond.constant k.1.cls j v ∈ TB) (kk : T E k cu su ws n l (.int v :: st) Φ) : T E k cu su ws pc l (st) Φ := by
  subst hn
  intro p L e s m args below meth c A Q H locs ls hC hE hA hP hD hS hl hF
  exact lv_ldcw hC.1 hC.2.1 hC.2.2.2.1 (hC.2.2.2.2.1 _ hc) hd (kk p L e s m args below meth c A Q H locs ls hC hE hA hP hD hS hl hF)
theorem tj_ldc2 {v : Int64} {j : Nat} {n : Nat} (hn : pc + 3 = n) (hd : decode k.2.1 pc = .ok (.ldc2_w j, 3)) (hc : Cond.constantLong k.1.cls j v ∈ TB) (kk : T E k cu su ws n l (.long v :: st) Φ) : T E k cu su ws pc l (st) Φ := by
  subst hn
  intro p L e s m args below meth c A Q H locs ls hC hE hA hP hD hS hl hF
  exact lv_ldc2 hC.1 hC.2.1 hC.2.2.2.1 (hC.2.2.2.2.1 _ hc) hd (kk p L e s m args below meth c A Q H locs ls hC hE hA hP hD hS hl hF)
theorem tj_ldcS {i j : Nat} {n : Nat} (hn : pc + 2 = n) (hd : decode k.2.1 pc = .ok (.ldc j, 2)) (hi : i < 4) (hj : ixJS.getD i 0 = j) (hk : k.1.cls = RX4) (kk : T E k cu su ws n l (.ref (E.2.2.1 i) :: st) Φ) : T E k cu su ws pc l (st) Φ := by
  subst hn
  intro p L e s m args below meth c A Q H locs ls hC hE hA hP hD hS hl hF
  exact by subst hj; exact va_ldcS hC.1 hC.2.1 (hk ▸ hC.2.2.2.1) (hE.2.2.1 i hi) hd (kk p L e s m args below meth c A Q H locs ls hC hE hA hP hD hS hl hF)
theorem tj_if_eq {x : Int32} {off : Int} {n tgt : Nat} (hn : pc + 3 = n) (ht : (pc : Int) + off = (tgt : Int)) (hd : decode k.2.1 pc = .ok (.ifCond .eq off, 3)) (kt : x = 0 → T E k cu su ws tgt l st Φ) (kf : ¬ (x = 0) → T E k cu su ws n l st Φ) : T E k cu su ws pc l (.int x :: st) Φ := by
  subst hn
  intro p L e s m args below meth c A Q H locs ls hC hE hA hP hD hS hl hF
  exact lv_if_eq hC.1 hC.2.1 hd ht (fun h9 => kt h9 p L e s m args below meth c A Q H locs ls hC hE hA hP hD hS hl hF) (fun h9 => kf h9 p L e s m args below meth c A Q H locs ls hC hE hA hP hD hS hl hF)
theorem tj_icmp_eq {x y : Int32} {off : Int} {n tgt : Nat} (hn : pc + 3 = n) (ht : (pc : Int) + off = (tgt : Int)) (hd : decode k.2.1 pc = .ok (.if_icmp .eq off, 3)) (kt : x = y → T E k cu su ws tgt l st Φ) (kf : ¬ (x = y) → T E k cu su ws n l st Φ) : T E k cu su ws pc l (.int y :: .int x :: st) Φ := by
  subst hn
  intro p L e s m args below meth c A Q H locs ls hC hE hA hP hD hS hl hF
  exact lv_icmp_eq hC.1 hC.2.1 hd ht (fun h9 => kt h9 p L e s m args below meth c A Q H locs ls hC hE hA hP hD hS hl hF) (fun h9 => kf h9 p L e s m args below meth c A Q H locs ls hC hE hA hP hD hS hl hF)
theorem tj_if_ne {x : Int32} {off : Int} {n tgt : Nat} (hn : pc + 3 = n) (ht : (pc : Int) + off = (tgt : Int)) (hd : decode k.2.1 pc = .ok (.ifCond .ne off, 3)) (kt : ¬ x = 0 → T E k cu su ws tgt l st Φ) (kf : x = 0 → T E k cu su ws n l st Φ) : T E k cu su ws pc l (.int x :: st) Φ := by
  subst hn
  intro p L e s m args below meth c A Q H locs ls hC hE hA hP hD hS hl hF
  exact lv_if_ne hC.1 hC.2.1 hd ht (fun h9 => kt h9 p L e s m args below meth c A Q H locs ls hC hE hA hP hD hS hl hF) (fun h9 => kf h9 p L e s m args below meth c A Q H locs ls hC hE hA hP hD hS hl hF)
theorem tj_icmp_ne {x y : Int32} {off : Int} {n tgt : Nat} (hn : pc + 3 = n) (ht : (pc : Int) + off = (tgt : Int)) (hd : decode k.2.1 pc = .ok (.if_icmp .ne off, 3)) (kt : ¬ x = y → T E k cu su ws tgt l st Φ) (kf : x = y → T E k cu su ws n l st Φ) : T E k cu su ws pc l (.int y :: .int x :: st) Φ := by
  subst hn
  intro p L e s m args below meth c A Q H locs ls hC hE hA hP hD hS hl hF
  exact lv_icmp_ne hC.1 hC.2.1 hd ht (fun h9 => kt h9 p L e s m args below meth c A Q H locs ls hC hE hA hP hD hS hl hF) (fun h9 => kf h9 p L e s m args below meth c A Q H locs ls hC hE hA hP hD hS hl hF)
theorem tj_if_lt {x : Int32} {off : Int} {n tgt : Nat} (hn : pc + 3 = n) (ht : (pc : Int) + off = (tgt : Int)) (hd : decode k.2.1 pc = .ok (.ifCond .lt off, 3)) (kt : x < 0 → T E k cu su ws tgt l st Φ) (kf : ¬ (x < 0) → T E k cu su ws n l st Φ) : T E k cu su ws pc l (.int x :: st) Φ := by
  subst hn
  intro p L e s m args below meth c A Q H locs ls hC hE hA hP hD hS hl hF
  exact lv_if_lt hC.1 hC.2.1 hd ht (fun h9 => kt h9 p L e s m args below meth c A Q H locs ls hC hE hA hP hD hS hl hF) (fun h9 => kf h9 p L e s m args below meth c A Q H locs ls hC hE hA hP hD hS hl hF)
theorem tj_icmp_lt {x y : Int32} {off : Int} {n tgt : Nat} (hn : pc + 3 = n) (ht : (pc : Int) + off = (tgt : Int)) (hd : decode k.2.1 pc = .ok (.if_icmp .lt off, 3)) (kt : x < y → T E k cu su ws tgt l st Φ) (kf : ¬ (x < y) → T E k cu su ws n l st Φ) : T E k cu su ws pc l (.int y :: .int x :: st) Φ := by
  subst hn
  intro p L e s m args below meth c A Q H locs ls hC hE hA hP hD hS hl hF
  exact lv_icmp_lt hC.1 hC.2.1 hd ht (fun h9 => kt h9 p L e s m args below meth c A Q H locs ls hC hE hA hP hD hS hl hF) (fun h9 => kf h9 p L e s m args below meth c A Q H locs ls hC hE hA hP hD hS hl hF)
theorem tj_if_ge {x : Int32} {off : Int} {n tgt : Nat} (hn : pc + 3 = n) (ht : (pc : Int) + off = (tgt : Int)) (hd : decode k.2.1 pc = .ok (.ifCond .ge off, 3)) (kt : 0 ≤ x → T E k cu su ws tgt l st Φ) (kf : ¬ (0 ≤ x) → T E k cu su ws n l st Φ) : T E k cu su ws pc l (.int x :: st) Φ := by
  subst hn
  intro p L e s m args below meth c A Q H locs ls hC hE hA hP hD hS hl hF
  exact lv_if_ge hC.1 hC.2.1 hd ht (fun h9 => kt h9 p L e s m args below meth c A Q H locs ls hC hE hA hP hD hS hl hF) (fun h9 => kf h9 p L e s m args below meth c A Q H locs ls hC hE hA hP hD hS hl hF)
theorem tj_icmp_ge {x y : Int32} {off : Int} {n tgt : Nat} (hn : pc + 3 = n) (ht : (pc : Int) + off = (tgt : Int)) (hd : decode k.2.1 pc = .ok (.if_icmp .ge off, 3)) (kt : y ≤ x → T E k cu su ws tgt l st Φ) (kf : ¬ (y ≤ x) → T E k cu su ws n l st Φ) : T E k cu su ws pc l (.int y :: .int x :: st) Φ := by
  subst hn
  intro p L e s m args below meth c A Q H locs ls hC hE hA hP hD hS hl hF
  exact lv_icmp_ge hC.1 hC.2.1 hd ht (fun h9 => kt h9 p L e s m args below meth c A Q H locs ls hC hE hA hP hD hS hl hF) (fun h9 => kf h9 p L e s m args below meth c A Q H locs ls hC hE hA hP hD hS hl hF)
theorem tj_if_gt {x : Int32} {off : Int} {n tgt : Nat} (hn : pc + 3 = n) (ht : (pc : Int) + off = (tgt : Int)) (hd : decode k.2.1 pc = .ok (.ifCond .gt off, 3)) (kt : 0 < x → T E k cu su ws tgt l st Φ) (kf : ¬ (0 < x) → T E k cu su ws n l st Φ) : T E k cu su ws pc l (.int x :: st) Φ := by
  subst hn
  intro p L e s m args below meth c A Q H locs ls hC hE hA hP hD hS hl hF
  exact lv_if_gt hC.1 hC.2.1 hd ht (fun h9 => kt h9 p L e s m args below meth c A Q H locs ls hC hE hA hP hD hS hl hF) (fun h9 => kf h9 p L e s m args below meth c A Q H locs ls hC hE hA hP hD hS hl hF)
theorem tj_icmp_gt {x y : Int32} {off : Int} {n tgt : Nat} (hn : pc + 3 = n) (ht : (pc : Int) + off = (tgt : Int)) (hd : decode k.2.1 pc = .ok (.if_icmp .gt off, 3)) (kt : y < x → T E k cu su ws tgt l st Φ) (kf : ¬ (y < x) → T E k cu su ws n l st Φ) : T E k cu su ws pc l (.int y :: .int x :: st) Φ := by
  subst hn
  intro p L e s m args below meth c A Q H locs ls hC hE hA hP hD hS hl hF
  exact lv_icmp_gt hC.1 hC.2.1 hd ht (fun h9 => kt h9 p L e s m args below meth c A Q H locs ls hC hE hA hP hD hS hl hF) (fun h9 => kf h9 p L e s m args below meth c A Q H locs ls hC hE hA hP hD hS hl hF)
theorem tj_if_le {x : Int32} {off : Int} {n tgt : Nat} (hn : pc + 3 = n) (ht : (pc : Int) + off = (tgt : Int)) (hd : decode k.2.1 pc = .ok (.ifCond .le off, 3)) (kt : x ≤ 0 → T E k cu su ws tgt l st Φ) (kf : ¬ (x ≤ 0) → T E k cu su ws n l st Φ) : T E k cu su ws pc l (.int x :: st) Φ := by
  subst hn
  intro p L e s m args below meth c A Q H locs ls hC hE hA hP hD hS hl hF
  exact lv_if_le hC.1 hC.2.1 hd ht (fun h9 => kt h9 p L e s m args below meth c A Q H locs ls hC hE hA hP hD hS hl hF) (fun h9 => kf h9 p L e s m args below meth c A Q H locs ls hC hE hA hP hD hS hl hF)
theorem tj_icmp_le {x y : Int32} {off : Int} {n tgt : Nat} (hn : pc + 3 = n) (ht : (pc : Int) + off = (tgt : Int)) (hd : decode k.2.1 pc = .ok (.if_icmp .le off, 3)) (kt : x ≤ y → T E k cu su ws tgt l st Φ) (kf : ¬ (x ≤ y) → T E k cu su ws n l st Φ) : T E k cu su ws pc l (.int y :: .int x :: st) Φ := by
  subst hn
  intro p L e s m args below meth c A Q H locs ls hC hE hA hP hD hS hl hF
  exact lv_icmp_le hC.1 hC.2.1 hd ht (fun h9 => kt h9 p L e s m args below meth c A Q H locs ls hC hE hA hP hD hS hl hF) (fun h9 => kf h9 p L e s m args below meth c A Q H locs ls hC hE hA hP hD hS hl hF)
theorem tj_goto {off : Int} {tgt : Nat} (ht : (pc : Int) + off = (tgt : Int)) (hd : decode k.2.1 pc = .ok (.goto off, 3)) (kk : T E k cu su ws tgt l st Φ) : T E k cu su ws pc l st Φ := by
  intro p L e s m args below meth c A Q H locs ls hC hE hA hP hD hS hl hF
  exact lv_goto hC.1 hC.2.1 hd ht (kk p L e s m args below meth c A Q H locs ls hC hE hA hP hD hS hl hF)
theorem tj_lookup {x : Int32} {dflt : Int} {ps : Array (Int × Int)} {len : Nat} {off : Int} {tgt : Nat} (hd : decode k.2.1 pc = .ok (.lookupswitch dflt ps, len)) (hp : (ps.toList.zip (ps.toList.drop 1)).all (fun (a, next) => a.1 < next.1) = true) (ho : Op.lookupswitch.offset ps.toList dflt x.toInt = off) (ht : (pc : Int) + off = (tgt : Int)) (kk : T E k cu su ws tgt l st Φ) : T E k cu su ws pc l (.int x :: st) Φ := by
  intro p L e s m args below meth c A Q H locs ls hC hE hA hP hD hS hl hF
  exact lv_lookup hC.1 hC.2.1 hd hp ho ht (kk p L e s m args below meth c A Q H locs ls hC hE hA hP hD hS hl hF)
theorem tj_tableOut {x : Int32} {dflt lo hi : Int} {offs : Array Int} {len : Nat} {tgt : Nat} (hd : decode k.2.1 pc = .ok (.tableswitch dflt lo hi offs, len)) (h : x.toInt < lo ∨ hi < x.toInt) (ht : (pc : Int) + dflt = (tgt : Int)) (kk : T E k cu su ws tgt l st Φ) : T E k cu su ws pc l (.int x :: st) Φ := by
  intro p L e s m args below meth c A Q H locs ls hC hE hA hP hD hS hl hF
  exact lv_tableOut hC.1 hC.2.1 hd h ht (kk p L e s m args below meth c A Q H locs ls hC hE hA hP hD hS hl hF)
theorem tj_tableIn {x : Int32} {dflt lo hi : Int} {offs : Array Int} {len : Nat} {off : Int} {tgt : Nat} (hd : decode k.2.1 pc = .ok (.tableswitch dflt lo hi offs, len)) (h1 : ¬ x.toInt < lo) (h2 : ¬ hi < x.toInt) (ho : offs[(x.toInt - lo).toNat]? = some off) (ht : (pc : Int) + off = (tgt : Int)) (kk : T E k cu su ws tgt l st Φ) : T E k cu su ws pc l (.int x :: st) Φ := by
  intro p L e s m args below meth c A Q H locs ls hC hE hA hP hD hS hl hF
  exact lv_tableIn hC.1 hC.2.1 hd h1 h2 ho ht (kk p L e s m args below meth c A Q H locs ls hC hE hA hP hD hS hl hF)
theorem tj_ireturn {x : Int32} {ty : FieldType} (hd : decode k.2.1 pc = .ok (.ireturn, 1)) (hr : k.2.2.2.1 = some ty) (hx : narrow ty (.int x) = .int x) (hc : cu ≤ k.2.2.2.2.2.2.1) (hs : su ≤ k.2.2.2.2.2.2.2) (h : Φ (some (.int x)) ws) : T E k cu su ws pc l [.int x] Φ := by
  intro p L e s m args below meth c A Q H locs ls hC hE hA hP hD hS hl hF
  exact hF (some (.int x)) ws H locs ls cu su pc h hP hD hS hc hs ⟨ty, hr, hx, hd⟩
theorem tj_lreturn {x : Int64} (hd : decode k.2.1 pc = .ok (.lreturn, 1)) (hr : k.2.2.2.1 = some .long) (hc : cu ≤ k.2.2.2.2.2.2.1) (hs : su ≤ k.2.2.2.2.2.2.2) (h : Φ (some (.long x)) ws) : T E k cu su ws pc l [.long x] Φ := by
  intro p L e s m args below meth c A Q H locs ls hC hE hA hP hD hS hl hF
  exact hF (some (.long x)) ws H locs ls cu su pc h hP hD hS hc hs ⟨hr, hd⟩
theorem tj_return (hd : decode k.2.1 pc = .ok (.return_, 1)) (hr : k.2.2.2.1 = none) (hc : cu ≤ k.2.2.2.2.2.2.1) (hs : su ≤ k.2.2.2.2.2.2.2) (h : Φ none ws) : T E k cu su ws pc l [] Φ := by
  intro p L e s m args below meth c A Q H locs ls hC hE hA hP hD hS hl hF
  exact hF none ws H locs ls cu su pc h hP hD hS hc hs ⟨hr, hd⟩
/-- a class's table, as the rows of the kit want it -/
def ClsOk (ci : Nat) (C : String) (t : u_T) (N : Nat) (ty : Nat → FieldType) : Prop := vwCl[ci]? = some (C, t, N) ∧ (∀ w ∈ u_ws C t N, w ∈ TB) ∧ (∀ j, j < N → parseFieldDescriptor (t j).2.2.1 = some (ty j)) ∧ ∀ a, a < N → ∀ b, b < N → a ≠ b → (t a).2.1 ≠ (t b).2.1
theorem tj_getf {ci : Nat} {C : String} {t : u_T} {N : Nat} {ty : Nat → FieldType} (hcl : ClsOk ci C t N ty) {idx n a q : Nat} {fs : List Value} {v : Value} (hn : pc + 3 = n) (hd : decode k.2.1 pc = .ok (.getfield idx, 3)) (j : Nat) (hj : j < N) (hlk : Cond.fieldLink k.1.cls idx (t j).1 (t j).2.1 (t j).2.2.1 ∈ TB) (he : ws[q]? = some (a, .inr (ci, fs))) (hv : fs[j]? = some v) (kk : T E k cu su ws n l (v :: st) Φ) : T E k cu su ws pc l (.ref a :: st) Φ := by
  subst hn
  intro p L e s m args below meth c A Q H locs ls hC hE hA hP hD hS hl hF
  exact va_get hC.1 hC.2.1 hC.2.2.2.2.1 hcl.2.1 hC.2.2.2.1 hE.1 hP q he hcl.1 j hj (hC.2.2.2.2.1 _ hlk) (fun _ h => h) hv hd (kk p L e s m args below meth c A Q H locs ls hC hE hA hP hD hS hl hF)
theorem tj_putf {ci : Nat} {C : String} {t : u_T} {N : Nat} {ty : Nat → FieldType} (hcl : ClsOk ci C t N ty) {idx n a q : Nat} {fs : List Value} {v : Value} {ws' : va_W} (hn : pc + 3 = n) (hd : decode k.2.1 pc = .ok (.putfield idx, 3)) (j : Nat) (hj : j < N) (hlk : Cond.fieldLink k.1.cls idx (t j).1 (t j).2.1 (t j).2.2.1 ∈ TB) (hfin : (t j).2.2.2 = false) (hnr : narrow (ty j) v = v) (hft : fits (ty j) v = true) (he : ws[q]? = some (a, .inr (ci, fs))) (hlen : j < fs.length) (hw : ws.set q (a, .inr (ci, fs.set j v)) = ws') (kk : T E k cu su ws' n l st Φ) : T E k cu su ws pc l (v :: .ref a :: st) Φ := by
  subst hn
  subst hw
  intro p L e s m args below meth c A Q H locs ls hC hE hA hP hD hS hl hF
  exact va_put hC.1 hC.2.1 hC.2.2.2.2.1 hcl.2.1 ty hcl.2.2.1 hcl.2.2.2 hC.2.2.2.1 hE.1 hP hD hS q he hcl.1 j hj (hC.2.2.2.2.1 _ hlk) (fun _ h => h) hfin (hcl.2.2.1 j hj) hnr hft hlen hd (fun H1 locs1 hP1 hD1 hS1 => kk p L e s m args below meth c A Q H1 locs1 ls hC hE hA hP1 hD1 hS1 hl hF)
theorem tj_putF {ci : Nat} {C : String} {t : u_T} {N : Nat} {ty : Nat → FieldType} (hcl : ClsOk ci C t N ty) {idx n a q : Nat} {fs : List Value} {v : Value} {ws' : va_W} (hn : pc + 3 = n) (hd : decode k.2.1 pc = .ok (.putfield idx, 3)) (j : Nat) (hj : j < N) (hlk : Cond.fieldLink k.1.cls idx (t j).1 (t j).2.1 (t j).2.2.1 ∈ TB) (hfin : (t j).2.2.2 = true) (hini : k.1.name = "<init>") (hdecl : (t j).1 = k.1.cls) (hnr : narrow (ty j) v = v) (hft : fits (ty j) v = true) (he : ws[q]? = some (a, .inr (ci, fs))) (hlen : j < fs.length) (hw : ws.set q (a, .inr (ci, fs.set j v)) = ws') (kk : T E k cu su ws' n l st Φ) : T E k cu su ws pc l (v :: .ref a :: st) Φ := by
  subst hn
  subst hw
  intro p L e s m args below meth c A Q H locs ls hC hE hA hP hD hS hl hF
  exact va_putF hC.1 hC.2.1 hC.2.2.2.2.1 hcl.2.1 ty hcl.2.2.1 hcl.2.2.2 hC.2.2.2.1 hE.1 hP hD hS q he hcl.1 j hj (hC.2.2.2.2.1 _ hlk) (fun _ h => h) hfin (hC.2.2.2.2.2.2.2 hini) hdecl (hcl.2.2.1 j hj) hnr hft hlen hd (fun H1 locs1 hP1 hD1 hS1 => kk p L e s m args below meth c A Q H1 locs1 ls hC hE hA hP1 hD1 hS1 hl hF)
theorem tj_iald {n0 n a q : Nat} {f : Nat → Int32} {i : Int32} (hn : pc + 1 = n) (hd : decode k.2.1 pc = .ok (.iaload, 1)) (he : ws[q]? = some (a, .inl (E.2.1 0, n0, .inl f))) (hin : vp_in i n0) (kk : T E k cu su ws n l (.int (f i.toNatClampNeg) :: st) Φ) : T E k cu su ws pc l (.int i :: .ref a :: st) Φ := by
  subst hn
  intro p L e s m args below meth c A Q H locs ls hC hE hA hP hD hS hl hF
  exact va_iald hC.1 hC.2.1 hE.1 hP q 0 he rfl hin hd (kk p L e s m args below meth c A Q H locs ls hC hE hA hP hD hS hl hF)
theorem tj_zald {n0 n a q : Nat} {f : Nat → Int32} {i : Int32} (hn : pc + 1 = n) (hd : decode k.2.1 pc = .ok (.baload, 1)) (he : ws[q]? = some (a, .inl (E.2.1 1, n0, .inl f))) (hin : vp_in i n0) (kk : T E k cu su ws n l (.int (f i.toNatClampNeg) :: st) Φ) : T E k cu su ws pc l (.int i :: .ref a :: st) Φ := by
  subst hn
  intro p L e s m args below meth c A Q H locs ls hC hE hA hP hD hS hl hF
  exact va_zald hC.1 hC.2.1 hE.1 hP q 1 he rfl hin hd (kk p L e s m args below meth c A Q H locs ls hC hE hA hP hD hS hl hF)
theorem tj_iast {n0 n a q : Nat} {f : Nat → Int32} {i x : Int32} {ws' : va_W} (hn : pc + 1 = n) (hd : decode k.2.1 pc = .ok (.iastore, 1)) (he : ws[q]? = some (a, .inl (E.2.1 0, n0, .inl f))) (hin : vp_in i n0) (hw : ws.set q (a, .inl (E.2.1 0, n0, .inl (upd f i.toNatClampNeg (x)))) = ws') (kk : T E k cu su ws' n l st Φ) : T E k cu su ws pc l (.int x :: .int i :: .ref a :: st) Φ := by
  subst hn
  subst hw
  intro p L e s m args below meth c A Q H locs ls hC hE hA hP hD hS hl hF
  exact va_iast hC.1 hC.2.1 hE.1 hP hD hS q 0 he rfl hin hd (fun H1 locs1 hP1 hD1 hS1 => kk p L e s m args below meth c A Q H1 locs1 ls hC hE hA hP1 hD1 hS1 hl hF)
theorem tj_zast {n0 n a q : Nat} {f : Nat → Int32} {i x : Int32} {ws' : va_W} (hn : pc + 1 = n) (hd : decode k.2.1 pc = .ok (.bastore, 1)) (he : ws[q]? = some (a, .inl (E.2.1 1, n0, .inl f))) (hin : vp_in i n0) (hw : ws.set q (a, .inl (E.2.1 1, n0, .inl (upd f i.toNatClampNeg (vp_nar .boolean x)))) = ws') (kk : T E k cu su ws' n l st Φ) : T E k cu su ws pc l (.int x :: .int i :: .ref a :: st) Φ := by
  subst hn
  subst hw
  intro p L e s m args below meth c A Q H locs ls hC hE hA hP hD hS hl hF
  exact va_zast hC.1 hC.2.1 hE.1 hP hD hS q 1 he rfl hin hd (fun H1 locs1 hP1 hD1 hS1 => kk p L e s m args below meth c A Q H1 locs1 ls hC hE hA hP1 hD1 hS1 hl hF)
theorem tj_alen {tg n a q : Nat} {x : vp_A} {ty : FieldType} (hn : pc + 1 = n) (hd : decode k.2.1 pc = .ok (.arraylength, 1)) (he : ws[q]? = some (a, .inl (E.2.1 tg, x))) (ht : (tyL E.2.1)[tg]? = some (E.2.1 tg, ty)) (kk : T E k cu su ws n l (.int (Int32.ofNat x.1) :: st) Φ) : T E k cu su ws pc l (.ref a :: st) Φ := by
  subst hn
  intro p L e s m args below meth c A Q H locs ls hC hE hA hP hD hS hl hF
  exact va_alen hC.1 hC.2.1 hE.1 hP q tg he ht rfl hd (kk p L e s m args below meth c A Q H locs ls hC hE hA hP hD hS hl hF)
theorem tj_aald {tg n0 n a q : Nat} {f : Nat → Option Nat} {i : Int32} {ty : FieldType} (hn : pc + 1 = n) (hd : decode k.2.1 pc = .ok (.aaload, 1)) (he : ws[q]? = some (a, .inl (E.2.1 tg, n0, .inr (.inr (.inr (.inr f)))))) (ht : (tyL E.2.1)[tg]? = some (E.2.1 tg, ty)) (hty : ty.isReference = true) (hin : vp_in i n0) (kk : T E k cu su ws n l (va_rf (f i.toNatClampNeg) :: st) Φ) : T E k cu su ws pc l (.int i :: .ref a :: st) Φ := by
  subst hn
  intro p L e s m args below meth c A Q H locs ls hC hE hA hP hD hS hl hF
  have hlt : i.toNatClampNeg < n0 := Nat.not_le.mp fun q => hin (Or.inr q)
  exact W.aald (v := va_rf (f i.toNatClampNeg)) (ty := ty) hC.1 hC.2.1 (hP q _ he) ((hE.1.2 tg _ ht).1 n0 (fun j => va_rf (f j))) hty (fun q => by cases q) (by show ¬ (i < 0 ∨ (arrV _ _ _).slots.size ≤ _); rw [arrV_size]; exact hin) (by show (arrV _ _ _).slots[_]? = _; rw [arrV_read _ _ hlt]) rfl rfl hd (kk p L e s m args below meth c A Q H locs ls hC hE hA hP hD hS hl hF)
/-- the law's own script -/
theorem tj_sld {b L0 n : Nat} {xs : Nat → Int32} {i : Int32} (hsc : E.2.2.2.2 = some (b, L0, xs)) (hn : pc + 1 = n) (hd : decode k.2.1 pc = .ok (.iaload, 1)) (hin : vp_in i L0) (kk : T E k cu su ws n l (.int (xs i.toNatClampNeg) :: st) Φ) : T E k cu su ws pc l (.int i :: .ref b :: st) Φ := by
  subst hn
  intro p L e s m args below meth c A Q H locs ls hC hE hA hP hD hS hl hF
  have hx := hE.2.2.2.2.1
  rw [hsc] at hx
  exact va_sld hC.1 hC.2.1 hx.1 hx.2.1 hx.2.2 hS hin hd (kk p L e s m args below meth c A Q H locs ls hC hE hA hP hD hS hl hF)
theorem tj_slen {b L0 n : Nat} {xs : Nat → Int32} (hsc : E.2.2.2.2 = some (b, L0, xs)) (hn : pc + 1 = n) (hd : decode k.2.1 pc = .ok (.arraylength, 1)) (kk : T E k cu su ws n l (.int (Int32.ofNat L0) :: st) Φ) : T E k cu su ws pc l (.ref b :: st) Φ := by
  subst hn
  intro p L e s m args below meth c A Q H locs ls hC hE hA hP hD hS hl hF
  have hx := hE.2.2.2.2.1
  rw [hsc] at hx
  exact va_slen hC.1 hC.2.1 hx.1 hx.2.1 hx.2.2 hS hd (kk p L e s m args below meth c A Q H locs ls hC hE hA hP hD hS hl hF)
end TR
/-- a callee's end, over the whole world -/
def Qm (E : EV) (ws : va_W) (sz : Nat) (Φ : Option Value → va_W → Prop) : Array Value → State → Outcome → State → Prop := fun _ st oc t =>
  (∃ (r : Option Value) (ws' : va_W), oc = .returned r ∧ Φ r ws' ∧ va_P E.1 vwCl ws' t.heap ∧ va_D (va_A ws sz) ws') ∧ va_F (va_A ws sz) st t
def Pm (E : EV) (ws : va_W) (sz : Nat) (av : List Value) : Array Value → State → Prop := va_Pc av (fun U => U.heap.size = sz ∧ va_P E.1 vwCl ws U.heap ∧ va_D (fun _ => True) ws ∧ ExS E (va_A ws sz) U U.heap)
set_option maxHeartbeats 4000000 in
theorem met_of {E : EV} {k : MD} {ws : va_W} {av : List Value} {Φ : Option Value → va_W → Prop} (L : Launch) (sz : Nat) (hpl : plainName k.1.cls = true) (hlen : (lg_sl av).length ≤ k.2.2.1) (h : Tm E k ws av Φ) :
    Met L k.1 (md_ws k) (md_rm k) (Pm E ws sz av) (Qm E ws sz Φ) k.2.2.2.2.2.2.1 k.2.2.2.2.2.2.2 (va_A ws sz) := by
  refine Met.ofW (cc := k.2.1) (maxL := k.2.2.1) (ret := k.2.2.2.1) hpl rfl ?_
  intro p e s m args below meth c s₁ B hml hv
  obtain ⟨rfl, hsz, hP, hD0, hE⟩ := hv
  subst hsz
  have hts := atoms_spec (ws := md_ws k) B.pre
  have hx := B.exec
  have hb := B.bytes
  have hr := B.returns
  have hlocks := B.notSynchronized
  rw [lg_entry_eq]
  refine h p L e s m av.toArray below meth c (va_A ws s.heap.size) _ s.heap [] _ ⟨hx, hb, hml, findClass_of_methodNamed B.named, fun w hw => hts w (List.mem_cons_of_mem _ hw), hr, hlocks, fun h => (name_of_methodNamed B.named B.method).1.trans h⟩ hE (fun q h => Or.inr h) hP hD0.self va_S.rf (lv_entry av hlen) ?_
  intro r ws' H' locs' ls' cu' su' pc' hΦ hP' hD' hS' hc hs hrt
  refine W.widen hc hs ?_
  match r, hrt with
  | none, hrt => exact W.vret hx hb (hr.trans hrt.1) (fun t ht hW => ⟨⟨none, ws', rfl, hΦ, by rw [ht]; exact hP', hD'⟩, hS'.F ht⟩) hS'.2.2 hrt.2
  | some (.int v), hrt =>
    obtain ⟨ty, h1, h2, h3⟩ := hrt
    exact W.zret (ty := ty) hx hb (hr.trans h1) h2 (fun t ht hW => ⟨⟨some (.int v), ws', rfl, hΦ, by rw [ht]; exact hP', hD'⟩, hS'.F ht⟩) hS'.2.2 h3
  | some (.long v), hrt => exact W.lret hx hb (hr.trans hrt.1) (fun t ht hW => ⟨⟨some (.long v), ws', rfl, hΦ, by rw [ht]; exact hP', hD'⟩, hS'.F ht⟩) hS'.2.2 hrt.2
theorem exs_call {E : EV} {A B : Nat → Prop} {s U : State} {H : Heap} {locs : List Loc} (h : ExS E A s s.heap) (hS : va_S A s.heap H locs) (hB : ∀ q, B q → A q) (hU : U.heap = H) (hW : s.WarmedH U.vm) : ExS E B U U.heap := by
  subst hU
  obtain ⟨h1, h2, h3, h4, h5, h6, h7⟩ := h
  have hq : ∀ a : Nat, a < s.heap.size → ¬ A a → U.heap[a]? = s.heap[a]? := hS.2.1
  refine ⟨va_K.moved hW.alike h1, vk_S.moved hW.alike ((h2.kept hq).narrow hB), fun i hi => (h3 i hi).warm hW, va_Z.moved hW.alike ((h4.kept hq).narrow hB), ?_, h6.warm hW, va_Zq.moved hW.alike ((h7.kept hq).narrow hB)⟩
  revert h5
  cases E.2.2.2.2 with
  | none => exact fun _ => trivial
  | some x =>
    obtain ⟨b, L, xs⟩ := x
    rintro ⟨g1, g2, g3⟩
    exact ⟨va_X.moved hW.alike (g1.kept (hq b g2 g3)), Nat.lt_of_lt_of_le g2 hS.1, fun z => g3 (hB b z)⟩
theorem pm_blind {E : EV} {ws : va_W} {sz : Nat} {av : List Value} : FrameBlind (Pm E ws sz av) := by
  intro a U g mk h
  obtain ⟨h0, h1, h2, h3, h4, h5, h6, h7, h8, h9, h10⟩ := h
  refine ⟨h0, h1, h2, h3, va_K.moved (u := U) (U := U.calling g mk a) (Vm.Alike.refl U.vm) h4, vk_S.moved (u := U) (U := U.calling g mk a) (Vm.Alike.refl U.vm) h5, fun i hi => (h6 i hi).same rfl, va_Z.moved (u := U) (U := U.calling g mk a) (Vm.Alike.refl U.vm) h7, ?_, h9.same rfl, va_Zq.moved (u := U) (U := U.calling g mk a) (Vm.Alike.refl U.vm) h10⟩
  revert h8
  cases E.2.2.2.2 with
  | none => exact fun _ => trivial
  | some x =>
    obtain ⟨b, L, xs⟩ := x
    rintro ⟨g1, g2, g3⟩
    exact ⟨va_X.moved (u := U) (U := U.calling g mk a) (Vm.Alike.refl U.vm) g1, g2, g3⟩
section WC
variable {p : Program} {L : Launch} {e : Env} {R : Room} {s : State} {m : MethodId} {args : Array Value} {below : List Frame} {meth : Method} {c : Code} {H : Heap} {locs : List Loc} {cells slots : Nat} {Q : State → Prop}
variable {pc : Nat} {ls : Array Slot} {rest st0 : List Value} {a : Array Value} {A0 : Nat → Prop} {mc ms : Nat}
theorem w_free {ws : va_W} (hD : va_D A0 ws) (hA : ∀ q, s.heap.size ≤ q → A0 q) (hS : va_S A0 s.heap H locs) : ∀ q, va_A ws H.size q → A0 q := by
  intro q h
  rcases h with ⟨k, x, h⟩ | h
  · exact hD.2 k (q, x) h
  · exact hA q (Nat.le_trans hS.1 h)
theorem w_call {E : EV} {ws : va_W} {Ψ : Option Value → va_W → Prop} (hr : va_Run p L e R s m args below meth c H locs cells slots mc ms (F0 m pc ls st0) rest (Qm E ws H.size Ψ a) (va_A ws H.size)) (hD : va_D A0 ws) (hA : ∀ q, s.heap.size ≤ q → A0 q) (hS : va_S A0 s.heap H locs)
    (kk : ∀ (r : Option Value) (ws' : va_W) (H1 : Heap) (locs1 : List Loc), Ψ r ws' → va_P E.1 vwCl ws' H1 → va_D A0 ws' → va_S A0 s.heap H1 locs1 → W p L e R s m args below meth c H1 locs1 (cells + mc) (slots + ms) Q (F0 m (pc + 3) ls (pushR r rest))) : W p L e R s m args below meth c H locs cells slots Q (F0 m pc ls st0) := by
  have hF := w_free hD hA hS
  intro T hT X
  obtain ⟨v, st₀, t, T', L1, h0, X', hL, e1, e2, ⟨⟨r, ws', hv, hp, hP', hD'⟩, hz, hk⟩, st⟩ := hr T hT X
  cases hv
  rw [h0] at hz hk
  have hkk := kk v ws' T'.heap (locs ++ L1) hp (by rw [e1]; exact hP') (hD'.weaken (fun _ q _ h => hF q.1 h))
    ⟨Nat.le_trans hS.1 (by rw [e1]; exact hz), fun q h1 h2 => by rw [e1, hk q (Nat.lt_of_lt_of_le h1 hS.1) (fun z => h2 (hF q z))]; exact hS.2.1 q h1 h2, fun q hq => by
      rcases List.mem_append.mp hq with h | h
      · exact hS.2.2 q h
      · exact hF _ (hL q h)⟩
  obtain ⟨t2, a1, b1⟩ := hkk T' rfl X'
  refine ⟨t2, st t2 ?_, b1⟩
  cases v <;> exact a1
end WC
/-- a method that may be called: its words are in the tables, its n parameters -/
def MokC (z : MD) (n : Nat) : Prop := Cond.code z.1 z.2.1 z.2.2.1 z.2.2.2.1 ∈ TB ∧ Cond.initialized z.1.cls ∈ TB ∧ plainName z.1.cls = true ∧ z.1.cls ≠ "java/lang/invoke/MethodHandle" ∧ z.1.cls ≠ "java/lang/invoke/VarHandle" ∧ (parseMethodDescriptor z.1.desc).map (fun d => d.parameters.length) = some n
def MokV (z : MD) (n : Nat) : Prop := MokC z n ∧ Cond.instanceMethod z.1 ∈ TB ∧ Cond.selects z.1.cls z.1 z.1 ∈ TB
def MokS (z : MD) (n : Nat) : Prop := MokC z n ∧ Cond.static z.1 ∈ TB
def MokI (z : MD) (n : Nat) : Prop := MokC z n ∧ Cond.instanceMethod z.1 ∈ TB ∧ z.1.name = "<init>" ∧ z.2.2.2.1 = none
/-- the callee's room fits the caller's -/
def RoomOk (k z : MD) (cu su : Nat) : Prop := (z.2.2.2.2.1 + 1 ≤ k.2.2.2.2.1 ∧ 8 + (z.2.2.1 + 11) + z.2.2.2.2.2.1 ≤ k.2.2.2.2.2.1) ∧ cu + z.2.2.2.2.2.2.1 ≤ k.2.2.2.2.2.2.1 ∧ su + z.2.2.2.2.2.2.2 ≤ k.2.2.2.2.2.2.2
theorem lw_good : ∀ w ∈ TB, (w.onTables && w.keeps) = true ∨ ∃ ty, w = .arrayClass ty := fun w hw => good_of_word (List.mem_filter.mp hw).2
theorem good_ws {z : MD} {n : Nat} (h : MokC z n) : GoodIn TB (md_ws z) := by
  intro w hw
  rcases List.mem_cons.mp hw with hw | hw
  · rw [hw]; exact ⟨h.1, lw_good _ h.1⟩
  · exact ⟨hw, lw_good _ hw⟩
section TC
variable {E : EV} {k z : MD} {cu su : Nat} {ws : va_W} {pc : Nat} {l : List (Nat × Value)} {st rest As : List Value} {Φ : Option Value → va_W → Prop}
theorem tj_callS {idx n np : Nat} (hn : pc + 3 = n) (hd : decode k.2.1 pc = .ok (.invokestatic idx, 3)) (hst : st = As.reverse ++ rest) (hlk : Cond.methodLink k.1.cls idx z.1 ∈ TB) (hok : MokS z np) (hnp : As.length = np) (hR : RoomOk k z cu su) (hlen : (lg_sl As).length ≤ z.2.2.1) (hcat : (rest.map fun v => v.category).sum ≤ 8)
    (hm : Tm E z ws As (fun r ws' => T E k (cu + z.2.2.2.2.2.2.1) (su + z.2.2.2.2.2.2.2) ws' n l (pushR r rest) Φ)) : T E k cu su ws pc l st Φ := by
  subst hn
  subst hst
  intro p L e s m args below meth c A Q H locs ls hC hE hA hP hD hS hl hF
  have hts := hC.2.2.2.2.1
  refine w_call (va_runS (As := As) (rest := rest) (ws := md_ws z) (rm := md_rm z) (bytes := z.2.1) (maxL := z.2.2.1) (ret := z.2.2.2.1) ⟨hC.1, hC.2.1, hC.2.2.1, hC.2.2.2.1, hts⟩ (met_of L H.size hok.1.2.2.1 hlen hm) ⟨callB_of np hts (good_ws hok.1) rfl rfl rfl (hts _ hok.1.2.1) (hts _ hlk) hok.1.2.2.2 hR.1, hts _ hok.2⟩ ⟨pm_blind, fun U hU hW => ⟨rfl, by rw [hU], by rw [hU]; exact hP, hD.weaken (fun _ _ _ _ => trivial), exs_call hE hS (w_free hD hA hS) hU hW⟩⟩ rfl hnp hl.1 rfl (lv_room hcat) hd hR.2) hD hA hS
    (fun r ws' H1 locs1 hΨ hP1 hD1 hS1 => hΨ p L e s m args below meth c A Q H1 locs1 ls hC hE hA hP1 hD1 hS1 hl hF)
theorem tj_callV {idx n np a q ci : Nat} {fs : List Value} {r0 : vw_C} (hn : pc + 3 = n) (hd : decode k.2.1 pc = .ok (.invokevirtual idx, 3)) (hst : st = As.reverse ++ .ref a :: rest) (hlk : Cond.methodLink k.1.cls idx z.1 ∈ TB) (hok : MokV z np) (hnp : As.length = np) (hR : RoomOk k z cu su) (hlen : (lg_sl (.ref a :: As)).length ≤ z.2.2.1) (hcat : (rest.map fun v => v.category).sum ≤ 8)
    (he : ws[q]? = some (a, .inr (ci, fs))) (hc : vwCl[ci]? = some r0) (hcn : r0.1 = z.1.cls) (hm : Tm E z ws (.ref a :: As) (fun r ws' => T E k (cu + z.2.2.2.2.2.2.1) (su + z.2.2.2.2.2.2.2) ws' n l (pushR r rest) Φ)) : T E k cu su ws pc l st Φ := by
  subst hn
  subst hst
  intro p L e s m args below meth c A Q H locs ls hC hE hA hP hD hS hl hF
  have hts := hC.2.2.2.2.1
  refine w_call (va_runV (As := As) (rest := rest) (C := z.1.cls) (ws := md_ws z) (rm := md_rm z) (bytes := z.2.1) (maxL := z.2.2.1) (ret := z.2.2.2.1) ⟨hC.1, hC.2.1, hC.2.2.1, hC.2.2.2.1, hts⟩ (met_of L H.size hok.1.2.2.1 hlen hm) ⟨callB_of np hts (good_ws hok.1) rfl rfl rfl (hts _ hok.1.2.1) (hts _ hlk) hok.1.2.2.2 hR.1, hts _ hok.2.1, hts _ hok.2.2⟩ ⟨pm_blind, by rw [← hcn]; exact va_recv hE.1 hP hc he, fun U hU hW => ⟨rfl, by rw [hU], by rw [hU]; exact hP, hD.weaken (fun _ _ _ _ => trivial), exs_call hE hS (w_free hD hA hS) hU hW⟩⟩ rfl hnp hl.1 rfl (lv_room hcat) hd hR.2) hD hA hS
    (fun r ws' H1 locs1 hΨ hP1 hD1 hS1 => hΨ p L e s m args below meth c A Q H1 locs1 ls hC hE hA hP1 hD1 hS1 hl hF)
theorem tj_callI {idx n np a : Nat} (hn : pc + 3 = n) (hd : decode k.2.1 pc = .ok (.invokespecial idx, 3)) (hst : st = As.reverse ++ .ref a :: rest) (hlk : Cond.methodLink k.1.cls idx z.1 ∈ TB) (hok : MokI z np) (hnp : As.length = np) (hR : RoomOk k z cu su) (hlen : (lg_sl (.ref a :: As)).length ≤ z.2.2.1) (hcat : (rest.map fun v => v.category).sum ≤ 8)
    (hm : Tm E z ws (.ref a :: As) (fun r ws' => T E k (cu + z.2.2.2.2.2.2.1) (su + z.2.2.2.2.2.2.2) ws' n l (pushR r rest) Φ)) : T E k cu su ws pc l st Φ := by
  subst hn
  subst hst
  intro p L e s m args below meth c A Q H locs ls hC hE hA hP hD hS hl hF
  have hts := hC.2.2.2.2.1
  refine w_call (va_runI (As := As) (rest := rest) (ws := md_ws z) (rm := md_rm z) (bytes := z.2.1) (maxL := z.2.2.1) ⟨hC.1, hC.2.1, hC.2.2.1, hC.2.2.2.1, hts⟩ (met_of L H.size hok.1.2.2.1 hlen hm) ⟨callB_of np hts (good_ws hok.1) (by unfold md_ws; rw [hok.2.2.2]) rfl rfl (hts _ hok.1.2.1) (hts _ hlk) hok.1.2.2.2 hR.1, hok.2.2.1, hts _ hok.2.1⟩ ⟨pm_blind, fun U hU hW => ⟨rfl, by rw [hU], by rw [hU]; exact hP, hD.weaken (fun _ _ _ _ => trivial), exs_call hE hS (w_free hD hA hS) hU hW⟩⟩ rfl hnp hl.1 rfl (lv_room hcat) hd hR.2) hD hA hS
    (fun r ws' H1 locs1 hΨ hP1 hD1 hS1 => hΨ p L e s m args below meth c A Q H1 locs1 ls hC hE hA hP1 hD1 hS1 hl hF)
theorem tj_callSN {idx n np : Nat} (hn : pc + 3 = n) (hd : decode k.2.1 pc = .ok (.invokestatic idx, 3)) (hst : st = As.reverse ++ rest) (hlk : (k.1.cls, idx, z.1) ∈ nestL) (hok : MokS z np) (hnp : As.length = np) (hR : RoomOk k z cu su) (hlen : (lg_sl As).length ≤ z.2.2.1) (hcat : (rest.map fun v => v.category).sum ≤ 8)
    (hm : Tm E z ws As (fun r ws' => T E k (cu + z.2.2.2.2.2.2.1) (su + z.2.2.2.2.2.2.2) ws' n l (pushR r rest) Φ)) : T E k cu su ws pc l st Φ := by
  subst hn
  subst hst
  intro p L e s m args below meth c A Q H locs ls hC hE hA hP hD hS hl hF
  have hts := hC.2.2.2.2.1
  refine w_call (va_runSN (As := As) (rest := rest) (ws := md_ws z) (rm := md_rm z) (bytes := z.2.1) (maxL := z.2.2.1) (ret := z.2.2.2.1) (host := "HouseTwins") ⟨hC.1, hC.2.1, hC.2.2.1, hC.2.2.2.1, hts⟩ (met_of L H.size hok.1.2.2.1 hlen hm) ⟨va_cnB np hts (good_ws hok.1) rfl rfl rfl (hE.2.2.2.2.2.1.1 _ hlk) (hts _ hok.1.2.1) hok.1.2.2.2 hR.1, hts _ hok.2, trivial⟩ ⟨pm_blind, fun U hU hW => ⟨rfl, by rw [hU], by rw [hU]; exact hP, hD.weaken (fun _ _ _ _ => trivial), exs_call hE hS (w_free hD hA hS) hU hW⟩⟩ rfl hnp hl.1 rfl (lv_room hcat) hd hR.2) hD hA hS
    (fun r ws' H1 locs1 hΨ hP1 hD1 hS1 => hΨ p L e s m args below meth c A Q H1 locs1 ls hC hE hA hP1 hD1 hS1 hl hF)
theorem tj_callIN {idx n np a : Nat} (hn : pc + 3 = n) (hd : decode k.2.1 pc = .ok (.invokespecial idx, 3)) (hst : st = As.reverse ++ .ref a :: rest) (hlk : (k.1.cls, idx, z.1) ∈ nestL) (hok : MokI z np) (hnp : As.length = np) (hR : RoomOk k z cu su) (hlen : (lg_sl (.ref a :: As)).length ≤ z.2.2.1) (hcat : (rest.map fun v => v.category).sum ≤ 8)
    (hm : Tm E z ws (.ref a :: As) (fun r ws' => T E k (cu + z.2.2.2.2.2.2.1) (su + z.2.2.2.2.2.2.2) ws' n l (pushR r rest) Φ)) : T E k cu su ws pc l st Φ := by
  subst hn
  subst hst
  intro p L e s m args below meth c A Q H locs ls hC hE hA hP hD hS hl hF
  have hts := hC.2.2.2.2.1
  refine w_call (va_runIN (As := As) (rest := rest) (ws := md_ws z) (rm := md_rm z) (bytes := z.2.1) (maxL := z.2.2.1) (host := "HouseTwins") ⟨hC.1, hC.2.1, hC.2.2.1, hC.2.2.2.1, hts⟩ (met_of L H.size hok.1.2.2.1 hlen hm) ⟨va_cnB np hts (good_ws hok.1) (by unfold md_ws; rw [hok.2.2.2]) rfl rfl (hE.2.2.2.2.2.1.1 _ hlk) (hts _ hok.1.2.1) hok.1.2.2.2 hR.1, hok.2.2.1, hts _ hok.2.1⟩ ⟨pm_blind, fun U hU hW => ⟨rfl, by rw [hU], by rw [hU]; exact hP, hD.weaken (fun _ _ _ _ => trivial), exs_call hE hS (w_free hD hA hS) hU hW⟩⟩ rfl hnp hl.1 rfl (lv_room hcat) hd hR.2) hD hA hS
    (fun r ws' H1 locs1 hΨ hP1 hD1 hS1 => hΨ p L e s m args below meth c A Q H1 locs1 ls hC hE hA hP1 hD1 hS1 hl hF)
end TC
