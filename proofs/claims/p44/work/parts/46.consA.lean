set_option maxHeartbeats 4000000 in
set_option maxRecDepth 20000 in
theorem ciX1 {E : EV} {Φ : Option Value → va_W → Prop} {a : Nat} (hs : upX1_setFirst (fun M t => M = ML ∧ t = 0) MZ 0 3) (hp : ∀ (q1 : Nat) (q2 : Nat) (r2 : Nat → Nat) (q3 : Nat) (r3 : Nat → Nat) (q4 : Nat) (q5 : Nat) (q6 : Nat), Φ none (WS 3 11 E (adB 3 [a, q1, q2, r2 0, r2 1, q3, r3 0, r3 1, q4, q5, q6]) ML 0)) : Tm E kX1_init [(a, .inr (1, [.int 0, .int 0, .int 0, .int 0, .null, .null, .null, .null, .null, .null]))] [.ref a] Φ := by
  show T E kX1_init 0 0 [(a, .inr (1, [.int 0, .int 0, .int 0, .int 0, .null, .null, .null, .null, .null, .null]))] 0 [(0, .ref a)] [] Φ
  refine tj_aload_n rfl dX1_init_0 rfl ?_
  refine tj_objI mo_X1_3 rfl dX1_init_1 (Nat.le_of_ble_eq_true rfl) (Nat.le_of_ble_eq_true rfl) ?_
  refine tj_aload_n rfl dX1_init_4 rfl ?_
  refine tj_iconst (v := 4) rfl dX1_init_5 (by decide) ?_
  refine tj_newI (N' := 4) rfl dX1_init_6 (by decide) (by decide) (by decide) (Nat.le_of_ble_eq_true rfl) (Nat.le_of_ble_eq_true rfl) (fun q1 => ?_)
  refine tj_putF (q := 0) (ws' := ([(a, .inr (1, [.int 0, .int 0, .int 0, .int 0, .ref q1, .null, .null, .null, .null, .null]))] ++ [(q1, .inl (E.2.1 0, 4, .inl (fun _ => 0)))])) cl1 rfl dX1_init_8 4 (by decide) fl_X1_9 rfl rfl rfl rfl rfl rfl (Nat.le_of_ble_eq_true rfl) rfl ?_
  refine tj_aload_n rfl dX1_init_11 rfl ?_
  refine tj_iconst (v := 2) rfl dX1_init_12 (by decide) ?_
  refine tj_bipush (v := 6) rfl dX1_init_13 (by decide) ?_
  refine tj_mna (N' := 0) (K' := 6) cl_X1_15 rfl dX1_init_15 (by decide) (by decide) (by decide) (by decide) (by decide) (Nat.le_of_ble_eq_true rfl) (Nat.le_of_ble_eq_true rfl) (fun q2 r2 => ?_)
  refine tj_putF (q := 0) (ws' := (([(a, .inr (1, [.int 0, .int 0, .int 0, .int 0, .ref q1, .ref q2, .null, .null, .null, .null]))] ++ [(q1, .inl (E.2.1 0, 4, .inl (fun _ => 0)))]) ++ [(q2, .inl (E.2.1 4, 2, .inr (.inr (.inr (.inr (fun x => some (r2 x))))))), (r2 0, .inl (E.2.1 0, 6, .inl (fun _ => 0))), (r2 1, .inl (E.2.1 0, 6, .inl (fun _ => 0)))])) cl1 rfl dX1_init_19 5 (by decide) fl_X1_17 rfl rfl rfl rfl rfl rfl (Nat.le_of_ble_eq_true rfl) rfl ?_
  refine tj_aload_n rfl dX1_init_22 rfl ?_
  refine tj_iconst (v := 2) rfl dX1_init_23 (by decide) ?_
  refine tj_bipush (v := 6) rfl dX1_init_24 (by decide) ?_
  refine tj_mna (N' := 0) (K' := 6) cl_X1_15 rfl dX1_init_26 (by decide) (by decide) (by decide) (by decide) (by decide) (Nat.le_of_ble_eq_true rfl) (Nat.le_of_ble_eq_true rfl) (fun q3 r3 => ?_)
  refine tj_putF (q := 0) (ws' := ((([(a, .inr (1, [.int 0, .int 0, .int 0, .int 0, .ref q1, .ref q2, .ref q3, .null, .null, .null]))] ++ [(q1, .inl (E.2.1 0, 4, .inl (fun _ => 0)))]) ++ [(q2, .inl (E.2.1 4, 2, .inr (.inr (.inr (.inr (fun x => some (r2 x))))))), (r2 0, .inl (E.2.1 0, 6, .inl (fun _ => 0))), (r2 1, .inl (E.2.1 0, 6, .inl (fun _ => 0)))]) ++ [(q3, .inl (E.2.1 4, 2, .inr (.inr (.inr (.inr (fun x => some (r3 x))))))), (r3 0, .inl (E.2.1 0, 6, .inl (fun _ => 0))), (r3 1, .inl (E.2.1 0, 6, .inl (fun _ => 0)))])) cl1 rfl dX1_init_30 6 (by decide) fl_X1_20 rfl rfl rfl rfl rfl rfl (Nat.le_of_ble_eq_true rfl) rfl ?_
  refine tj_aload_n rfl dX1_init_33 rfl ?_
  refine tj_iconst (v := 2) rfl dX1_init_34 (by decide) ?_
  refine tj_newI (N' := 2) rfl dX1_init_35 (by decide) (by decide) (by decide) (Nat.le_of_ble_eq_true rfl) (Nat.le_of_ble_eq_true rfl) (fun q4 => ?_)
  refine tj_putF (q := 0) (ws' := (((([(a, .inr (1, [.int 0, .int 0, .int 0, .int 0, .ref q1, .ref q2, .ref q3, .ref q4, .null, .null]))] ++ [(q1, .inl (E.2.1 0, 4, .inl (fun _ => 0)))]) ++ [(q2, .inl (E.2.1 4, 2, .inr (.inr (.inr (.inr (fun x => some (r2 x))))))), (r2 0, .inl (E.2.1 0, 6, .inl (fun _ => 0))), (r2 1, .inl (E.2.1 0, 6, .inl (fun _ => 0)))]) ++ [(q3, .inl (E.2.1 4, 2, .inr (.inr (.inr (.inr (fun x => some (r3 x))))))), (r3 0, .inl (E.2.1 0, 6, .inl (fun _ => 0))), (r3 1, .inl (E.2.1 0, 6, .inl (fun _ => 0)))]) ++ [(q4, .inl (E.2.1 0, 2, .inl (fun _ => 0)))])) cl1 rfl dX1_init_37 7 (by decide) fl_X1_23 rfl rfl rfl rfl rfl rfl (Nat.le_of_ble_eq_true rfl) rfl ?_
  refine tj_aload_n rfl dX1_init_40 rfl ?_
  refine tj_bipush (v := 6) rfl dX1_init_41 (by decide) ?_
  refine tj_newI (N' := 6) rfl dX1_init_43 (by decide) (by decide) (by decide) (Nat.le_of_ble_eq_true rfl) (Nat.le_of_ble_eq_true rfl) (fun q5 => ?_)
  refine tj_putF (q := 0) (ws' := ((((([(a, .inr (1, [.int 0, .int 0, .int 0, .int 0, .ref q1, .ref q2, .ref q3, .ref q4, .ref q5, .null]))] ++ [(q1, .inl (E.2.1 0, 4, .inl (fun _ => 0)))]) ++ [(q2, .inl (E.2.1 4, 2, .inr (.inr (.inr (.inr (fun x => some (r2 x))))))), (r2 0, .inl (E.2.1 0, 6, .inl (fun _ => 0))), (r2 1, .inl (E.2.1 0, 6, .inl (fun _ => 0)))]) ++ [(q3, .inl (E.2.1 4, 2, .inr (.inr (.inr (.inr (fun x => some (r3 x))))))), (r3 0, .inl (E.2.1 0, 6, .inl (fun _ => 0))), (r3 1, .inl (E.2.1 0, 6, .inl (fun _ => 0)))]) ++ [(q4, .inl (E.2.1 0, 2, .inl (fun _ => 0)))]) ++ [(q5, .inl (E.2.1 0, 6, .inl (fun _ => 0)))])) cl1 rfl dX1_init_45 8 (by decide) fl_X1_26 rfl rfl rfl rfl rfl rfl (Nat.le_of_ble_eq_true rfl) rfl ?_
  refine tj_aload_n rfl dX1_init_48 rfl ?_
  refine tj_iconst (v := 4) rfl dX1_init_49 (by decide) ?_
  refine tj_newI (N' := 4) rfl dX1_init_50 (by decide) (by decide) (by decide) (Nat.le_of_ble_eq_true rfl) (Nat.le_of_ble_eq_true rfl) (fun q6 => ?_)
  refine tj_putF (q := 0) (ws' := (((((([(a, .inr (1, [.int 0, .int 0, .int 0, .int 0, .ref q1, .ref q2, .ref q3, .ref q4, .ref q5, .ref q6]))] ++ [(q1, .inl (E.2.1 0, 4, .inl (fun _ => 0)))]) ++ [(q2, .inl (E.2.1 4, 2, .inr (.inr (.inr (.inr (fun x => some (r2 x))))))), (r2 0, .inl (E.2.1 0, 6, .inl (fun _ => 0))), (r2 1, .inl (E.2.1 0, 6, .inl (fun _ => 0)))]) ++ [(q3, .inl (E.2.1 4, 2, .inr (.inr (.inr (.inr (fun x => some (r3 x))))))), (r3 0, .inl (E.2.1 0, 6, .inl (fun _ => 0))), (r3 1, .inl (E.2.1 0, 6, .inl (fun _ => 0)))]) ++ [(q4, .inl (E.2.1 0, 2, .inl (fun _ => 0)))]) ++ [(q5, .inl (E.2.1 0, 6, .inl (fun _ => 0)))]) ++ [(q6, .inl (E.2.1 0, 4, .inl (fun _ => 0)))])) cl1 rfl dX1_init_52 9 (by decide) fl_X1_29 rfl rfl rfl rfl rfl rfl (Nat.le_of_ble_eq_true rfl) rfl ?_
  refine tj_aload_n rfl dX1_init_55 rfl ?_
  refine tj_eqv (ws2 := WS 3 11 E (adB 3 [a, q1, q2, r2 0, r2 1, q3, r3 0, r3 1, q4, q5, q6]) MZ 0) (eqv_cons rfl ee_rfl (eqv_cons rfl ee_rfl (eqv_cons rfl (ee_q (fun j hj => by rcases (by omega : j = 0 ∨ j = 1) with h | h <;> subst h <;> rfl)) (eqv_cons rfl ee_rfl (eqv_cons rfl ee_rfl (eqv_cons rfl (ee_q (fun j hj => by rcases (by omega : j = 0 ∨ j = 1) with h | h <;> subst h <;> rfl)) (eqv_cons rfl ee_rfl (eqv_cons rfl ee_rfl (eqv_cons rfl ee_rfl (eqv_cons rfl ee_rfl (eqv_cons rfl ee_rfl trivial))))))))))) ?_
  refine tj_callV (q := 0) (ci := 1) (a := a) (z := kX1_setFirst) (As := []) (r0 := (RX1, TX1, 10)) rfl dX1_init_56 rfl ml_X1_32 okX1_setFirst rfl (rm_ok rfl) (Nat.le_of_ble_eq_true rfl) (Nat.le_of_ble_eq_true rfl) (ws_at (bb := 3) (nn := 11) (a := 3) (c := 1) rfl (by decide) (ce1 rfl)) rfl rfl ?_
  refine csX1_setFirst (v0 := 3) hs (fun M tl h => ?_)
  obtain ⟨h1, h2⟩ := h
  subst h1; subst h2
  exact tj_return dX1_init_59 rfl (Nat.le_of_ble_eq_true rfl) (Nat.le_of_ble_eq_true rfl) (hp q1 q2 r2 q3 r3 q4 q5 q6)
