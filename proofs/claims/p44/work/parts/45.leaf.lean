/-! THE CONSTRUCTORS, over explicit worlds (printed by wip/gen/cons.py) -/
def tabN (t : List (Nat × List Nat)) (a j : Nat) : Nat := ((t.lookup a).getD []).getD j 0
def tabM (t : List (Nat × List Nat)) : MM := fun a j => nI (tabN t a j)
def adB (b : Nat) (l : List Nat) (i : Nat) : Nat := l.getD (i - b) 0
theorem eqv_cons {x y : Nat × va_E} {l m : va_W} (h1 : x.1 = y.1) (h2 : ee x.2 y.2) (h3 : eqv l m) : eqv (x :: l) (y :: m) := ⟨h1, h2, h3⟩
def tMZ : List (Nat × List Nat) := []
abbrev MZ : MM := tabM tMZ
def tML : List (Nat × List Nat) := [(3, [5, 3, 1, 0]), (4, [1, 1, 1, 1]), (6, [0, 5, 5, 5, 5, 5]), (7, [0, 5, 5, 5, 5, 5]), (9, [0, 3, 3, 3, 3, 3]), (10, [0, 3, 3, 3, 3, 3]), (12, [0, 1, 2, 3, 4, 5]), (13, [0, 1, 2, 3])]
abbrev ML : MM := tabM tML
def tMA : List (Nat × List Nat) := [(105, [4294967292, 4294967292, 4294967292, 4294967292])]
abbrev MA : MM := tabM tMA
def tMK : List (Nat × List Nat) := [(81, [0, 0, 5, 3, 1, 0, 0, 0, 0, 0, 0, 0, 0, 5, 3, 1, 0, 0, 0, 0, 0, 0, 0, 0, 0, 0, 0, 0, 0, 4294967292]), (84, [1, 1, 1, 1]), (85, [1, 5, 5, 5, 5, 5, 1, 5, 5, 5, 5, 5]), (86, [0, 3, 3, 3, 3, 3, 0, 3, 3, 3, 3, 3]), (88, [0, 1, 2, 3, 4, 5]), (89, [0, 1, 2, 3]), (91, [1, 1, 1, 1]), (92, [5, 5, 5, 5, 5, 5, 5, 5, 5, 5, 5, 5]), (93, [0, 3, 3, 3, 3, 3, 0, 3, 3, 3, 3, 3]), (95, [0, 1, 2, 3, 4, 5]), (96, [0, 1, 2, 3]), (105, [4294967292, 4294967292, 4294967292, 4294967292])]
abbrev MK : MM := tabM tMK
def tM0 : List (Nat × List Nat) := [(3, [5, 3, 1, 0]), (4, [1, 1, 1, 1]), (6, [0, 5, 5, 5, 5, 5]), (7, [0, 5, 5, 5, 5, 5]), (9, [0, 3, 3, 3, 3, 3]), (10, [0, 3, 3, 3, 3, 3]), (12, [0, 1, 2, 3, 4, 5]), (13, [0, 1, 2, 3]), (23, [5, 3, 1, 0]), (24, [1, 1, 1, 1]), (26, [0, 5, 5, 5, 5, 5]), (27, [0, 5, 5, 5, 5, 5]), (29, [0, 3, 3, 3, 3, 3]), (30, [0, 3, 3, 3, 3, 3]), (32, [0, 1, 2, 3, 4, 5]), (33, [0, 1, 2, 3]), (73, [4294967295]), (75, [4294967295]), (77, [4294967295]), (79, [4294967295]), (81, [0, 0, 5, 3, 1, 0, 0, 0, 0, 0, 0, 0, 0, 5, 3, 1, 0, 0, 0, 0, 0, 0, 0, 0, 0, 0, 0, 0, 0, 4294967292]), (84, [1, 1, 1, 1]), (85, [1, 5, 5, 5, 5, 5, 1, 5, 5, 5, 5, 5]), (86, [0, 3, 3, 3, 3, 3, 0, 3, 3, 3, 3, 3]), (88, [0, 1, 2, 3, 4, 5]), (89, [0, 1, 2, 3]), (91, [1, 1, 1, 1]), (92, [5, 5, 5, 5, 5, 5, 5, 5, 5, 5, 5, 5]), (93, [0, 3, 3, 3, 3, 3, 0, 3, 3, 3, 3, 3]), (95, [0, 1, 2, 3, 4, 5]), (96, [0, 1, 2, 3]), (105, [4294967292, 4294967292, 4294967292, 4294967292])]
abbrev M0 : MM := tabM tM0
theorem lm_1 : (-1 : Int32) = nI 4294967295 := by decide
theorem ce8_new {q : Nat} : (Sum.inr (8, [.int (-1), .int 0, .ref q]) : va_E) = .inr (8, [.int (nI 4294967295), .int (nI 0), .ref q]) := by rw [lm_1]; rfl
set_option maxHeartbeats 4000000 in
set_option maxRecDepth 20000 in
theorem ciX9 {E : EV} {Φ : Option Value → va_W → Prop} {a : Nat} (hp : ∀ (q1 : Nat), Φ none [(a, .inr (9, [.ref q1, .int 0])), (q1, .inl (E.2.1 0, 400, .inl (fun _ => 0)))]) : Tm E kX9_init [(a, .inr (9, [.null, .int 0]))] [.ref a] Φ := by
  show T E kX9_init 0 0 [(a, .inr (9, [.null, .int 0]))] 0 [(0, .ref a)] [] Φ
  refine tj_aload_n rfl dX9_init_0 rfl ?_
  refine tj_objI mo_X9_3 rfl dX9_init_1 (Nat.le_of_ble_eq_true rfl) (Nat.le_of_ble_eq_true rfl) ?_
  refine tj_aload_n rfl dX9_init_4 rfl ?_
  refine tj_sipush (v := 400) rfl dX9_init_5 (by decide) ?_
  refine tj_newI (N' := 400) rfl dX9_init_8 (by decide) (by decide) (by decide) (Nat.le_of_ble_eq_true rfl) (Nat.le_of_ble_eq_true rfl) (fun q1 => ?_)
  refine tj_putF (q := 0) (ws' := ([(a, .inr (9, [.ref q1, .int 0]))] ++ [(q1, .inl (E.2.1 0, 400, .inl (fun _ => 0)))])) cl9 rfl dX9_init_10 0 (by decide) fl_X9_9 rfl rfl rfl rfl rfl rfl (Nat.le_of_ble_eq_true rfl) rfl ?_
  exact tj_return dX9_init_13 rfl (Nat.le_of_ble_eq_true rfl) (Nat.le_of_ble_eq_true rfl) (hp q1)
set_option maxHeartbeats 4000000 in
set_option maxRecDepth 20000 in
theorem ciX8 {E : EV} {Φ : Option Value → va_W → Prop} {a : Nat} (hp : ∀ (q1 : Nat), Φ none [(a, .inr (8, [.int (-1), .int 0, .ref q1])), (q1, .inl (E.2.1 0, 40, .inl (fun _ => 0)))]) : Tm E kX8_init [(a, .inr (8, [.int 0, .int 0, .null]))] [.ref a] Φ := by
  show T E kX8_init 0 0 [(a, .inr (8, [.int 0, .int 0, .null]))] 0 [(0, .ref a)] [] Φ
  refine tj_aload_n rfl dX8_init_0 rfl ?_
  refine tj_objI mo_X8_3 rfl dX8_init_1 (Nat.le_of_ble_eq_true rfl) (Nat.le_of_ble_eq_true rfl) ?_
  refine tj_aload_n rfl dX8_init_4 rfl ?_
  refine tj_iconst (v := -1) rfl dX8_init_5 (by decide) ?_
  refine tj_putf (q := 0) (ws' := [(a, .inr (8, [.int (-1), .int 0, .null]))]) cl8 rfl dX8_init_6 0 (by decide) fl_X8_9 rfl rfl rfl rfl (Nat.le_of_ble_eq_true rfl) rfl ?_
  refine tj_aload_n rfl dX8_init_9 rfl ?_
  refine tj_bipush (v := 40) rfl dX8_init_10 (by decide) ?_
  refine tj_newI (N' := 40) rfl dX8_init_12 (by decide) (by decide) (by decide) (Nat.le_of_ble_eq_true rfl) (Nat.le_of_ble_eq_true rfl) (fun q1 => ?_)
  refine tj_putF (q := 0) (ws' := ([(a, .inr (8, [.int (-1), .int 0, .ref q1]))] ++ [(q1, .inl (E.2.1 0, 40, .inl (fun _ => 0)))])) cl8 rfl dX8_init_14 2 (by decide) fl_X8_15 rfl rfl rfl rfl rfl rfl (Nat.le_of_ble_eq_true rfl) rfl ?_
  exact tj_return dX8_init_17 rfl (Nat.le_of_ble_eq_true rfl) (Nat.le_of_ble_eq_true rfl) (hp q1)
set_option maxHeartbeats 4000000 in
set_option maxRecDepth 20000 in
theorem ciX5 {E : EV} {Φ : Option Value → va_W → Prop} {a nn : Nat} {m w : Int32} (h0 : ¬ (m * w) < 0) (hn : (m * w).toNatClampNeg = nn) (hb : nn ≤ 48) (hp : ∀ (q1 : Nat), Φ none [(a, .inr (5, [.int m, .int w, .ref q1, .int 0])), (q1, .inl (E.2.1 0, nn, .inl (fun _ => 0)))]) : Tm E kX5_init [(a, .inr (5, [.int 0, .int 0, .null, .int 0]))] [.ref a, .int m, .int w] Φ := by
  show T E kX5_init 0 0 [(a, .inr (5, [.int 0, .int 0, .null, .int 0]))] 0 [(0, .ref a), (1, .int m), (2, .int w)] [] Φ
  refine tj_aload_n rfl dX5_init_0 rfl ?_
  refine tj_objI mo_X5_1 rfl dX5_init_1 (Nat.le_of_ble_eq_true rfl) (Nat.le_of_ble_eq_true rfl) ?_
  refine tj_aload_n rfl dX5_init_4 rfl ?_
  refine tj_iload_n rfl dX5_init_5 rfl ?_
  refine tj_putF (q := 0) (ws' := [(a, .inr (5, [.int m, .int 0, .null, .int 0]))]) cl5 rfl dX5_init_6 0 (by decide) fl_X5_7 rfl rfl rfl rfl rfl rfl (Nat.le_of_ble_eq_true rfl) rfl ?_
  refine tj_aload_n rfl dX5_init_9 rfl ?_
  refine tj_iload_n rfl dX5_init_10 rfl ?_
  refine tj_putF (q := 0) (ws' := [(a, .inr (5, [.int m, .int w, .null, .int 0]))]) cl5 rfl dX5_init_11 1 (by decide) fl_X5_13 rfl rfl rfl rfl rfl rfl (Nat.le_of_ble_eq_true rfl) rfl ?_
  refine tj_aload_n rfl dX5_init_14 rfl ?_
  refine tj_iload_n rfl dX5_init_15 rfl ?_
  refine tj_iload_n rfl dX5_init_16 rfl ?_
  refine tj_imul rfl dX5_init_17 ?_
  refine tj_newI (N' := nn) rfl dX5_init_18 h0 hn (by omega) (Nat.le_of_ble_eq_true rfl) (by show 0 + nn ≤ 48; omega) (fun q1 => ?_)
  refine tj_putF (q := 0) (ws' := ([(a, .inr (5, [.int m, .int w, .ref q1, .int 0]))] ++ [(q1, .inl (E.2.1 0, nn, .inl (fun _ => 0)))])) cl5 rfl dX5_init_20 2 (by decide) fl_X5_16 rfl rfl rfl rfl rfl rfl (Nat.le_of_ble_eq_true rfl) rfl ?_
  exact tj_return dX5_init_23 rfl (Nat.le_of_ble_eq_true rfl) (by show 0 + nn ≤ 48; omega) (hp q1)
set_option maxHeartbeats 4000000 in
set_option maxRecDepth 20000 in
theorem ciX0 {E : EV} {Φ : Option Value → va_W → Prop} {a x y : Nat} (hp : Φ none [(a, .inr (0, [.int 0, .int 0, .int 0, .ref x, .ref y]))]) : Tm E kX0_init [(a, .inr (0, [.int 0, .int 0, .int 0, .null, .null]))] [.ref a, .ref x, .ref y] Φ := by
  show T E kX0_init 0 0 [(a, .inr (0, [.int 0, .int 0, .int 0, .null, .null]))] 0 [(0, .ref a), (1, .ref x), (2, .ref y)] [] Φ
  refine tj_aload_n rfl dX0_init_0 rfl ?_
  refine tj_objI mo_X0_3 rfl dX0_init_1 (Nat.le_of_ble_eq_true rfl) (Nat.le_of_ble_eq_true rfl) ?_
  refine tj_aload_n rfl dX0_init_4 rfl ?_
  refine tj_aload_n rfl dX0_init_5 rfl ?_
  refine tj_putF (q := 0) (ws' := [(a, .inr (0, [.int 0, .int 0, .int 0, .ref x, .null]))]) cl0 rfl dX0_init_6 3 (by decide) fl_X0_9 rfl rfl rfl rfl rfl rfl (Nat.le_of_ble_eq_true rfl) rfl ?_
  refine tj_aload_n rfl dX0_init_9 rfl ?_
  refine tj_aload_n rfl dX0_init_10 rfl ?_
  refine tj_putF (q := 0) (ws' := [(a, .inr (0, [.int 0, .int 0, .int 0, .ref x, .ref y]))]) cl0 rfl dX0_init_11 4 (by decide) fl_X0_15 rfl rfl rfl rfl rfl rfl (Nat.le_of_ble_eq_true rfl) rfl ?_
  exact tj_return dX0_init_14 rfl (Nat.le_of_ble_eq_true rfl) (Nat.le_of_ble_eq_true rfl) (hp)
set_option maxHeartbeats 4000000 in
set_option maxRecDepth 20000 in
theorem ciX2 {E : EV} {Φ : Option Value → va_W → Prop} {a x y : Nat} (hp : Φ none [(a, .inr (2, [.int 0, .int 0, .int 0, .int 0, .ref x, .ref y]))]) : Tm E kX2_init [(a, .inr (2, [.int 0, .int 0, .int 0, .int 0, .null, .null]))] [.ref a, .ref x, .ref y] Φ := by
  show T E kX2_init 0 0 [(a, .inr (2, [.int 0, .int 0, .int 0, .int 0, .null, .null]))] 0 [(0, .ref a), (1, .ref x), (2, .ref y)] [] Φ
  refine tj_aload_n rfl dX2_init_0 rfl ?_
  refine tj_objI mo_X2_3 rfl dX2_init_1 (Nat.le_of_ble_eq_true rfl) (Nat.le_of_ble_eq_true rfl) ?_
  refine tj_aload_n rfl dX2_init_4 rfl ?_
  refine tj_aload_n rfl dX2_init_5 rfl ?_
  refine tj_putF (q := 0) (ws' := [(a, .inr (2, [.int 0, .int 0, .int 0, .int 0, .ref x, .null]))]) cl2 rfl dX2_init_6 4 (by decide) fl_X2_9 rfl rfl rfl rfl rfl rfl (Nat.le_of_ble_eq_true rfl) rfl ?_
  refine tj_aload_n rfl dX2_init_9 rfl ?_
  refine tj_aload_n rfl dX2_init_10 rfl ?_
  refine tj_putF (q := 0) (ws' := [(a, .inr (2, [.int 0, .int 0, .int 0, .int 0, .ref x, .ref y]))]) cl2 rfl dX2_init_11 5 (by decide) fl_X2_15 rfl rfl rfl rfl rfl rfl (Nat.le_of_ble_eq_true rfl) rfl ?_
  exact tj_return dX2_init_14 rfl (Nat.le_of_ble_eq_true rfl) (Nat.le_of_ble_eq_true rfl) (hp)
set_option maxHeartbeats 4000000 in
set_option maxRecDepth 20000 in
theorem ciX3 {E : EV} {Φ : Option Value → va_W → Prop} {a x y : Nat} (hp : ∀ (q1 : Nat) (q2 : Nat) (q3 : Nat), Φ none [(a, .inr (3, [.ref x, .ref y, .ref q1, .ref q2, .ref q3])), (q1, .inl (E.2.1 0, 256, .inl (fun _ => 0))), (q2, .inl (E.2.1 0, 6, .inl (fun _ => 0))), (q3, .inl (E.2.1 0, 6, .inl (fun _ => 0)))]) : Tm E kX3_init [(a, .inr (3, [.null, .null, .null, .null, .null]))] [.ref a, .ref x, .ref y] Φ := by
  show T E kX3_init 0 0 [(a, .inr (3, [.null, .null, .null, .null, .null]))] 0 [(0, .ref a), (1, .ref x), (2, .ref y)] [] Φ
  refine tj_aload_n rfl dX3_init_0 rfl ?_
  refine tj_objI mo_X3_3 rfl dX3_init_1 (Nat.le_of_ble_eq_true rfl) (Nat.le_of_ble_eq_true rfl) ?_
  refine tj_aload_n rfl dX3_init_4 rfl ?_
  refine tj_sipush (v := 256) rfl dX3_init_5 (by decide) ?_
  refine tj_newI (N' := 256) rfl dX3_init_8 (by decide) (by decide) (by decide) (Nat.le_of_ble_eq_true rfl) (Nat.le_of_ble_eq_true rfl) (fun q1 => ?_)
  refine tj_putF (q := 0) (ws' := ([(a, .inr (3, [.null, .null, .ref q1, .null, .null]))] ++ [(q1, .inl (E.2.1 0, 256, .inl (fun _ => 0)))])) cl3 rfl dX3_init_10 2 (by decide) fl_X3_11 rfl rfl rfl rfl rfl rfl (Nat.le_of_ble_eq_true rfl) rfl ?_
  refine tj_aload_n rfl dX3_init_13 rfl ?_
  refine tj_bipush (v := 6) rfl dX3_init_14 (by decide) ?_
  refine tj_newI (N' := 6) rfl dX3_init_16 (by decide) (by decide) (by decide) (Nat.le_of_ble_eq_true rfl) (Nat.le_of_ble_eq_true rfl) (fun q2 => ?_)
  refine tj_putF (q := 0) (ws' := (([(a, .inr (3, [.null, .null, .ref q1, .ref q2, .null]))] ++ [(q1, .inl (E.2.1 0, 256, .inl (fun _ => 0)))]) ++ [(q2, .inl (E.2.1 0, 6, .inl (fun _ => 0)))])) cl3 rfl dX3_init_18 3 (by decide) fl_X3_15 rfl rfl rfl rfl rfl rfl (Nat.le_of_ble_eq_true rfl) rfl ?_
  refine tj_aload_n rfl dX3_init_21 rfl ?_
  refine tj_bipush (v := 6) rfl dX3_init_22 (by decide) ?_
  refine tj_newI (N' := 6) rfl dX3_init_24 (by decide) (by decide) (by decide) (Nat.le_of_ble_eq_true rfl) (Nat.le_of_ble_eq_true rfl) (fun q3 => ?_)
  refine tj_putF (q := 0) (ws' := ((([(a, .inr (3, [.null, .null, .ref q1, .ref q2, .ref q3]))] ++ [(q1, .inl (E.2.1 0, 256, .inl (fun _ => 0)))]) ++ [(q2, .inl (E.2.1 0, 6, .inl (fun _ => 0)))]) ++ [(q3, .inl (E.2.1 0, 6, .inl (fun _ => 0)))])) cl3 rfl dX3_init_26 4 (by decide) fl_X3_18 rfl rfl rfl rfl rfl rfl (Nat.le_of_ble_eq_true rfl) rfl ?_
  refine tj_aload_n rfl dX3_init_29 rfl ?_
  refine tj_aload_n rfl dX3_init_30 rfl ?_
  refine tj_putF (q := 0) (ws' := ((([(a, .inr (3, [.ref x, .null, .ref q1, .ref q2, .ref q3]))] ++ [(q1, .inl (E.2.1 0, 256, .inl (fun _ => 0)))]) ++ [(q2, .inl (E.2.1 0, 6, .inl (fun _ => 0)))]) ++ [(q3, .inl (E.2.1 0, 6, .inl (fun _ => 0)))])) cl3 rfl dX3_init_31 0 (by decide) fl_X3_21 rfl rfl rfl rfl rfl rfl (Nat.le_of_ble_eq_true rfl) rfl ?_
  refine tj_aload_n rfl dX3_init_34 rfl ?_
  refine tj_aload_n rfl dX3_init_35 rfl ?_
  refine tj_putF (q := 0) (ws' := ((([(a, .inr (3, [.ref x, .ref y, .ref q1, .ref q2, .ref q3]))] ++ [(q1, .inl (E.2.1 0, 256, .inl (fun _ => 0)))]) ++ [(q2, .inl (E.2.1 0, 6, .inl (fun _ => 0)))]) ++ [(q3, .inl (E.2.1 0, 6, .inl (fun _ => 0)))])) cl3 rfl dX3_init_36 1 (by decide) fl_X3_25 rfl rfl rfl rfl rfl rfl (Nat.le_of_ble_eq_true rfl) rfl ?_
  exact tj_return dX3_init_39 rfl (Nat.le_of_ble_eq_true rfl) (Nat.le_of_ble_eq_true rfl) (hp q1 q2 q3)
set_option maxHeartbeats 4000000 in
set_option maxRecDepth 20000 in
theorem ciX6 {E : EV} {Φ : Option Value → va_W → Prop} {a x y : Nat} (hp : ∀ (q1 : Nat) (q2 : Nat) (q3 : Nat) (q4 : Nat) (q5 : Nat), Φ none [(a, .inr (6, [.ref q1, .ref q2, .ref q3, .ref x, .ref y, .ref q4, .ref q5])), (q1, .inl (E.2.1 0, 16, .inl (fun _ => 0))), (q2, .inl (E.2.1 0, 2, .inl (fun _ => 0))), (q3, .inl (E.2.1 0, 12, .inl (fun _ => 0))), (q4, .inl (E.2.1 0, 8, .inl (fun _ => 0))), (q5, .inl (E.2.1 0, 16, .inl (fun _ => 0)))]) : Tm E kX6_init [(a, .inr (6, [.null, .null, .null, .null, .null, .null, .null]))] [.ref a, .ref x, .ref y] Φ := by
  show T E kX6_init 0 0 [(a, .inr (6, [.null, .null, .null, .null, .null, .null, .null]))] 0 [(0, .ref a), (1, .ref x), (2, .ref y)] [] Φ
  refine tj_aload_n rfl dX6_init_0 rfl ?_
  refine tj_objI mo_X6_3 rfl dX6_init_1 (Nat.le_of_ble_eq_true rfl) (Nat.le_of_ble_eq_true rfl) ?_
  refine tj_aload_n rfl dX6_init_4 rfl ?_
  refine tj_bipush (v := 16) rfl dX6_init_5 (by decide) ?_
  refine tj_newI (N' := 16) rfl dX6_init_7 (by decide) (by decide) (by decide) (Nat.le_of_ble_eq_true rfl) (Nat.le_of_ble_eq_true rfl) (fun q1 => ?_)
  refine tj_putF (q := 0) (ws' := ([(a, .inr (6, [.ref q1, .null, .null, .null, .null, .null, .null]))] ++ [(q1, .inl (E.2.1 0, 16, .inl (fun _ => 0)))])) cl6 rfl dX6_init_9 0 (by decide) fl_X6_9 rfl rfl rfl rfl rfl rfl (Nat.le_of_ble_eq_true rfl) rfl ?_
  refine tj_aload_n rfl dX6_init_12 rfl ?_
  refine tj_iconst (v := 2) rfl dX6_init_13 (by decide) ?_
  refine tj_newI (N' := 2) rfl dX6_init_14 (by decide) (by decide) (by decide) (Nat.le_of_ble_eq_true rfl) (Nat.le_of_ble_eq_true rfl) (fun q2 => ?_)
  refine tj_putF (q := 0) (ws' := (([(a, .inr (6, [.ref q1, .ref q2, .null, .null, .null, .null, .null]))] ++ [(q1, .inl (E.2.1 0, 16, .inl (fun _ => 0)))]) ++ [(q2, .inl (E.2.1 0, 2, .inl (fun _ => 0)))])) cl6 rfl dX6_init_16 1 (by decide) fl_X6_15 rfl rfl rfl rfl rfl rfl (Nat.le_of_ble_eq_true rfl) rfl ?_
  refine tj_aload_n rfl dX6_init_19 rfl ?_
  refine tj_bipush (v := 12) rfl dX6_init_20 (by decide) ?_
  refine tj_newI (N' := 12) rfl dX6_init_22 (by decide) (by decide) (by decide) (Nat.le_of_ble_eq_true rfl) (Nat.le_of_ble_eq_true rfl) (fun q3 => ?_)
  refine tj_putF (q := 0) (ws' := ((([(a, .inr (6, [.ref q1, .ref q2, .ref q3, .null, .null, .null, .null]))] ++ [(q1, .inl (E.2.1 0, 16, .inl (fun _ => 0)))]) ++ [(q2, .inl (E.2.1 0, 2, .inl (fun _ => 0)))]) ++ [(q3, .inl (E.2.1 0, 12, .inl (fun _ => 0)))])) cl6 rfl dX6_init_24 2 (by decide) fl_X6_18 rfl rfl rfl rfl rfl rfl (Nat.le_of_ble_eq_true rfl) rfl ?_
  refine tj_aload_n rfl dX6_init_27 rfl ?_
  refine tj_bipush (v := 8) rfl dX6_init_28 (by decide) ?_
  refine tj_newI (N' := 8) rfl dX6_init_30 (by decide) (by decide) (by decide) (Nat.le_of_ble_eq_true rfl) (Nat.le_of_ble_eq_true rfl) (fun q4 => ?_)
  refine tj_putF (q := 0) (ws' := (((([(a, .inr (6, [.ref q1, .ref q2, .ref q3, .null, .null, .ref q4, .null]))] ++ [(q1, .inl (E.2.1 0, 16, .inl (fun _ => 0)))]) ++ [(q2, .inl (E.2.1 0, 2, .inl (fun _ => 0)))]) ++ [(q3, .inl (E.2.1 0, 12, .inl (fun _ => 0)))]) ++ [(q4, .inl (E.2.1 0, 8, .inl (fun _ => 0)))])) cl6 rfl dX6_init_32 5 (by decide) fl_X6_21 rfl rfl rfl rfl rfl rfl (Nat.le_of_ble_eq_true rfl) rfl ?_
  refine tj_aload_n rfl dX6_init_35 rfl ?_
  refine tj_bipush (v := 16) rfl dX6_init_36 (by decide) ?_
  refine tj_newI (N' := 16) rfl dX6_init_38 (by decide) (by decide) (by decide) (Nat.le_of_ble_eq_true rfl) (Nat.le_of_ble_eq_true rfl) (fun q5 => ?_)
  refine tj_putF (q := 0) (ws' := ((((([(a, .inr (6, [.ref q1, .ref q2, .ref q3, .null, .null, .ref q4, .ref q5]))] ++ [(q1, .inl (E.2.1 0, 16, .inl (fun _ => 0)))]) ++ [(q2, .inl (E.2.1 0, 2, .inl (fun _ => 0)))]) ++ [(q3, .inl (E.2.1 0, 12, .inl (fun _ => 0)))]) ++ [(q4, .inl (E.2.1 0, 8, .inl (fun _ => 0)))]) ++ [(q5, .inl (E.2.1 0, 16, .inl (fun _ => 0)))])) cl6 rfl dX6_init_40 6 (by decide) fl_X6_24 rfl rfl rfl rfl rfl rfl (Nat.le_of_ble_eq_true rfl) rfl ?_
  refine tj_aload_n rfl dX6_init_43 rfl ?_
  refine tj_aload_n rfl dX6_init_44 rfl ?_
  refine tj_putF (q := 0) (ws' := ((((([(a, .inr (6, [.ref q1, .ref q2, .ref q3, .ref x, .null, .ref q4, .ref q5]))] ++ [(q1, .inl (E.2.1 0, 16, .inl (fun _ => 0)))]) ++ [(q2, .inl (E.2.1 0, 2, .inl (fun _ => 0)))]) ++ [(q3, .inl (E.2.1 0, 12, .inl (fun _ => 0)))]) ++ [(q4, .inl (E.2.1 0, 8, .inl (fun _ => 0)))]) ++ [(q5, .inl (E.2.1 0, 16, .inl (fun _ => 0)))])) cl6 rfl dX6_init_45 3 (by decide) fl_X6_27 rfl rfl rfl rfl rfl rfl (Nat.le_of_ble_eq_true rfl) rfl ?_
  refine tj_aload_n rfl dX6_init_48 rfl ?_
  refine tj_aload_n rfl dX6_init_49 rfl ?_
  refine tj_putF (q := 0) (ws' := ((((([(a, .inr (6, [.ref q1, .ref q2, .ref q3, .ref x, .ref y, .ref q4, .ref q5]))] ++ [(q1, .inl (E.2.1 0, 16, .inl (fun _ => 0)))]) ++ [(q2, .inl (E.2.1 0, 2, .inl (fun _ => 0)))]) ++ [(q3, .inl (E.2.1 0, 12, .inl (fun _ => 0)))]) ++ [(q4, .inl (E.2.1 0, 8, .inl (fun _ => 0)))]) ++ [(q5, .inl (E.2.1 0, 16, .inl (fun _ => 0)))])) cl6 rfl dX6_init_50 4 (by decide) fl_X6_31 rfl rfl rfl rfl rfl rfl (Nat.le_of_ble_eq_true rfl) rfl ?_
  exact tj_return dX6_init_53 rfl (Nat.le_of_ble_eq_true rfl) (Nat.le_of_ble_eq_true rfl) (hp q1 q2 q3 q4 q5)
set_option maxHeartbeats 4000000 in
set_option maxRecDepth 20000 in
theorem ciX7 {E : EV} {Φ : Option Value → va_W → Prop} {a : Nat} (hp : ∀ (q1 : Nat) (q2 : Nat) (q3 : Nat) (q4 : Nat) (q5 : Nat) (q6 : Nat) (q7 : Nat), Φ none [(a, .inr (7, [.ref q1, .ref q2, .ref q4, .ref q6])), (q1, .inl (E.2.1 0, 16, .inl (fun _ => 0))), (q2, .inr (5, [.int 12, .int 4, .ref q3, .int 0])), (q3, .inl (E.2.1 0, 48, .inl (fun _ => 0))), (q4, .inr (5, [.int 6, .int 2, .ref q5, .int 0])), (q5, .inl (E.2.1 0, 12, .inl (fun _ => 0))), (q6, .inr (5, [.int 12, .int 4, .ref q7, .int 0])), (q7, .inl (E.2.1 0, 48, .inl (fun _ => 0)))]) : Tm E kX7_init [(a, .inr (7, [.null, .null, .null, .null]))] [.ref a] Φ := by
  show T E kX7_init 0 0 [(a, .inr (7, [.null, .null, .null, .null]))] 0 [(0, .ref a)] [] Φ
  refine tj_aload_n rfl dX7_init_0 rfl ?_
  refine tj_objI mo_X7_3 rfl dX7_init_1 (Nat.le_of_ble_eq_true rfl) (Nat.le_of_ble_eq_true rfl) ?_
  refine tj_aload_n rfl dX7_init_4 rfl ?_
  refine tj_bipush (v := 16) rfl dX7_init_5 (by decide) ?_
  refine tj_newI (N' := 16) rfl dX7_init_7 (by decide) (by decide) (by decide) (Nat.le_of_ble_eq_true rfl) (Nat.le_of_ble_eq_true rfl) (fun q1 => ?_)
  refine tj_putF (q := 0) (ws' := ([(a, .inr (7, [.ref q1, .null, .null, .null]))] ++ [(q1, .inl (E.2.1 0, 16, .inl (fun _ => 0)))])) cl7 rfl dX7_init_9 0 (by decide) fl_X7_9 rfl rfl rfl rfl rfl rfl (Nat.le_of_ble_eq_true rfl) rfl ?_
  refine tj_aload_n rfl dX7_init_12 rfl ?_
  refine tj_new (fs := [.int 0, .int 0, .null, .int 0]) cl5 rfl dX7_init_13 cl_X7_15 ib_X5 ic_X5 (by decide +kernel) (Nat.le_of_ble_eq_true rfl) (Nat.le_of_ble_eq_true rfl) (fun q2 => ?_)
  refine tj_dup rfl dX7_init_16 rfl ?_
  refine tj_bipush (v := 12) rfl dX7_init_17 (by decide) ?_
  refine tj_iconst (v := 4) rfl dX7_init_19 (by decide) ?_
  refine tj_callIX (z := kX5_init) (As := [_, _]) rfl dX7_init_20 rfl ml_X7_17 okX5_init rfl (rm_ok rfl) (Nat.le_of_ble_eq_true rfl) (Nat.le_of_ble_eq_true rfl) ?_
  refine ciX5 (E := E) (nn := 48) (by decide) (by decide) (by decide) (fun q3 => ?_)
  refine tj_putF (q := 0) (ws' := (([(a, .inr (7, [.ref q1, .ref q2, .null, .null]))] ++ [(q1, .inl (E.2.1 0, 16, .inl (fun _ => 0)))]) ++ [(q2, .inr (5, [.int 12, .int 4, .ref q3, .int 0])), (q3, .inl (E.2.1 0, 48, .inl (fun _ => 0)))])) cl7 rfl dX7_init_23 1 (by decide) fl_X7_20 rfl rfl rfl rfl rfl rfl (Nat.le_of_ble_eq_true rfl) rfl ?_
  refine tj_aload_n rfl dX7_init_26 rfl ?_
  refine tj_new (fs := [.int 0, .int 0, .null, .int 0]) cl5 rfl dX7_init_27 cl_X7_15 ib_X5 ic_X5 (by decide +kernel) (Nat.le_of_ble_eq_true rfl) (Nat.le_of_ble_eq_true rfl) (fun q4 => ?_)
  refine tj_dup rfl dX7_init_30 rfl ?_
  refine tj_bipush (v := 6) rfl dX7_init_31 (by decide) ?_
  refine tj_iconst (v := 2) rfl dX7_init_33 (by decide) ?_
  refine tj_callIX (z := kX5_init) (As := [_, _]) rfl dX7_init_34 rfl ml_X7_17 okX5_init rfl (rm_ok rfl) (Nat.le_of_ble_eq_true rfl) (Nat.le_of_ble_eq_true rfl) ?_
  refine ciX5 (E := E) (nn := 12) (by decide) (by decide) (by decide) (fun q5 => ?_)
  refine tj_putF (q := 0) (ws' := ((([(a, .inr (7, [.ref q1, .ref q2, .ref q4, .null]))] ++ [(q1, .inl (E.2.1 0, 16, .inl (fun _ => 0)))]) ++ [(q2, .inr (5, [.int 12, .int 4, .ref q3, .int 0])), (q3, .inl (E.2.1 0, 48, .inl (fun _ => 0)))]) ++ [(q4, .inr (5, [.int 6, .int 2, .ref q5, .int 0])), (q5, .inl (E.2.1 0, 12, .inl (fun _ => 0)))])) cl7 rfl dX7_init_37 2 (by decide) fl_X7_24 rfl rfl rfl rfl rfl rfl (Nat.le_of_ble_eq_true rfl) rfl ?_
  refine tj_aload_n rfl dX7_init_40 rfl ?_
  refine tj_new (fs := [.int 0, .int 0, .null, .int 0]) cl5 rfl dX7_init_41 cl_X7_15 ib_X5 ic_X5 (by decide +kernel) (Nat.le_of_ble_eq_true rfl) (Nat.le_of_ble_eq_true rfl) (fun q6 => ?_)
  refine tj_dup rfl dX7_init_44 rfl ?_
  refine tj_bipush (v := 12) rfl dX7_init_45 (by decide) ?_
  refine tj_iconst (v := 4) rfl dX7_init_47 (by decide) ?_
  refine tj_callIX (z := kX5_init) (As := [_, _]) rfl dX7_init_48 rfl ml_X7_17 okX5_init rfl (rm_ok rfl) (Nat.le_of_ble_eq_true rfl) (Nat.le_of_ble_eq_true rfl) ?_
  refine ciX5 (E := E) (nn := 48) (by decide) (by decide) (by decide) (fun q7 => ?_)
  refine tj_putF (q := 0) (ws' := (((([(a, .inr (7, [.ref q1, .ref q2, .ref q4, .ref q6]))] ++ [(q1, .inl (E.2.1 0, 16, .inl (fun _ => 0)))]) ++ [(q2, .inr (5, [.int 12, .int 4, .ref q3, .int 0])), (q3, .inl (E.2.1 0, 48, .inl (fun _ => 0)))]) ++ [(q4, .inr (5, [.int 6, .int 2, .ref q5, .int 0])), (q5, .inl (E.2.1 0, 12, .inl (fun _ => 0)))]) ++ [(q6, .inr (5, [.int 12, .int 4, .ref q7, .int 0])), (q7, .inl (E.2.1 0, 48, .inl (fun _ => 0)))])) cl7 rfl dX7_init_51 3 (by decide) fl_X7_27 rfl rfl rfl rfl rfl rfl (Nat.le_of_ble_eq_true rfl) rfl ?_
  exact tj_return dX7_init_54 rfl (Nat.le_of_ble_eq_true rfl) (Nat.le_of_ble_eq_true rfl) (hp q1 q2 q3 q4 q5 q6 q7)
