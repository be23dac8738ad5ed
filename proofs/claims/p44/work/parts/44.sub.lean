/-! SMALL WORLDS: the cells bb .. bb + nn - 1 of WM alone; the rules of 22 over them (printed by wip/gen/sub.py) -/
def kdS (b n a : Nat) : Nat := if (Nat.ble b a && Nat.blt a (b + n)) = true then kd a else 99
def WS (b n : Nat) (E : EV) (ad : Nat → Nat) (M : Nat → Nat → Int32) (tl : Int64) : va_W := (List.range' b n).map fun i => (ad i, cellR E.2.1 ad i (M i) tl)
theorem kds {b n a c : Nat} (h : kdS b n a = c) (hc : c < 99) : kd a = c := by
  unfold kdS at h
  split at h
  · exact h
  · omega
theorem kds_in {b n a c : Nat} (h : kdS b n a = c) (hc : c < 99) : b ≤ a ∧ a < b + n := by
  unfold kdS at h
  split at h
  · rename_i hh
    rw [Bool.and_eq_true] at hh
    exact ⟨Nat.le_of_ble_eq_true hh.1, Nat.le_of_ble_eq_true hh.2⟩
  · omega
theorem rg_at {b n i : Nat} (h : i < n) : (List.range' b n)[i]? = some (b + i) := by
  rw [List.getElem?_range' h, Nat.one_mul]
section WSS
variable {E : EV} {ad : Nat → Nat} {M M' : Nat → Nat → Int32} {tl tl' : Int64} {a bb nn : Nat}
theorem ws_at {c : Nat} {e : va_E} (hk : kdS bb nn a = c) (hc : c < 99) (he : cellR E.2.1 ad a (M a) tl = e) : (WS bb nn E ad M tl)[a - bb]? = some (ad a, e) := by
  obtain ⟨h1, h2⟩ := kds_in hk hc
  unfold WS
  rw [List.getElem?_map, rg_at (by omega), ← he, show bb + (a - bb) = a by omega]
  rfl
theorem ws_setI {c : Nat} {e : va_E} {f : Nat → Int32} (hk : kdS bb nn a = c) (hc : c < 99) (he : cellR E.2.1 ad a f tl = e) : (WS bb nn E ad M tl).set (a - bb) (ad a, e) = WS bb nn E ad (mrow M a f) tl := by
  obtain ⟨h1, h2⟩ := kds_in hk hc
  apply List.ext_getElem?
  intro j
  by_cases hj : j = a - bb
  · subst hj
    rw [List.getElem?_set_self (by simp [WS]; omega)]
    unfold WS
    rw [List.getElem?_map, rg_at (by omega), ← he, show bb + (a - bb) = a by omega]
    show _ = some (ad a, cellR E.2.1 ad a (mrow M a f a) tl)
    rw [mrow_same]
  · rw [List.getElem?_set_ne (Ne.symm hj)]
    unfold WS
    rw [List.getElem?_map, List.getElem?_map]
    by_cases hl : j < nn
    · rw [rg_at hl]
      show some (ad (bb + j), cellR E.2.1 ad (bb + j) (M (bb + j)) tl) = some (ad (bb + j), cellR E.2.1 ad (bb + j) (mrow M a f (bb + j)) tl)
      rw [mrow_ne (by omega)]
    · rw [List.getElem?_eq_none (by rw [List.length_range']; omega)]
      rfl
variable {k : MD} {cu su pc idx n : Nat} {l : List (Nat × Value)} {st : List Value} {Φ : Option Value → va_W → Prop}
theorem gs1_lots (hk : kdS bb nn a = 1) (hn : pc + 3 = n) (hd : decode k.2.1 pc = .ok (.getfield idx, 3)) (hlk : Cond.fieldLink k.1.cls idx "HouseTwins$Law" "lots" "I" ∈ TB) (kk : T E k cu su (WS bb nn E ad M tl) n l (.int (M a 0) :: st) Φ) : T E k cu su (WS bb nn E ad M tl) pc l (.ref (ad a) :: st) Φ := tj_getf cl1 hn hd 0 (by decide) hlk (ws_at hk (by decide) (ce1 (kds hk (by decide)))) rfl kk
theorem ps1_lots {v : Int32} (hk : kdS bb nn a = 1) (hn : pc + 3 = n) (hd : decode k.2.1 pc = .ok (.putfield idx, 3)) (hlk : Cond.fieldLink k.1.cls idx "HouseTwins$Law" "lots" "I" ∈ TB) (kk : T E k cu su (WS bb nn E ad (mset M a 0 v) tl) n l st Φ) : T E k cu su (WS bb nn E ad M tl) pc l (.int v :: .ref (ad a) :: st) Φ := tj_putf cl1 hn hd 0 (by decide) hlk rfl rfl rfl (ws_at hk (by decide) (ce1 (kds hk (by decide)))) (Nat.le_of_ble_eq_true rfl) (ws_setI (f := upd (M a) 0 v) hk (by decide) (ce1 (kds hk (by decide)))) kk
theorem gs1_bend (hk : kdS bb nn a = 1) (hn : pc + 3 = n) (hd : decode k.2.1 pc = .ok (.getfield idx, 3)) (hlk : Cond.fieldLink k.1.cls idx "HouseTwins$Law" "bend" "I" ∈ TB) (kk : T E k cu su (WS bb nn E ad M tl) n l (.int (M a 1) :: st) Φ) : T E k cu su (WS bb nn E ad M tl) pc l (.ref (ad a) :: st) Φ := tj_getf cl1 hn hd 1 (by decide) hlk (ws_at hk (by decide) (ce1 (kds hk (by decide)))) rfl kk
theorem ps1_bend {v : Int32} (hk : kdS bb nn a = 1) (hn : pc + 3 = n) (hd : decode k.2.1 pc = .ok (.putfield idx, 3)) (hlk : Cond.fieldLink k.1.cls idx "HouseTwins$Law" "bend" "I" ∈ TB) (kk : T E k cu su (WS bb nn E ad (mset M a 1 v) tl) n l st Φ) : T E k cu su (WS bb nn E ad M tl) pc l (.int v :: .ref (ad a) :: st) Φ := tj_putf cl1 hn hd 1 (by decide) hlk rfl rfl rfl (ws_at hk (by decide) (ce1 (kds hk (by decide)))) (Nat.le_of_ble_eq_true rfl) (ws_setI (f := upd (M a) 1 v) hk (by decide) (ce1 (kds hk (by decide)))) kk
theorem gs1_pull (hk : kdS bb nn a = 1) (hn : pc + 3 = n) (hd : decode k.2.1 pc = .ok (.getfield idx, 3)) (hlk : Cond.fieldLink k.1.cls idx "HouseTwins$Law" "pull" "I" ∈ TB) (kk : T E k cu su (WS bb nn E ad M tl) n l (.int (M a 2) :: st) Φ) : T E k cu su (WS bb nn E ad M tl) pc l (.ref (ad a) :: st) Φ := tj_getf cl1 hn hd 2 (by decide) hlk (ws_at hk (by decide) (ce1 (kds hk (by decide)))) rfl kk
theorem ps1_pull {v : Int32} (hk : kdS bb nn a = 1) (hn : pc + 3 = n) (hd : decode k.2.1 pc = .ok (.putfield idx, 3)) (hlk : Cond.fieldLink k.1.cls idx "HouseTwins$Law" "pull" "I" ∈ TB) (kk : T E k cu su (WS bb nn E ad (mset M a 2 v) tl) n l st Φ) : T E k cu su (WS bb nn E ad M tl) pc l (.int v :: .ref (ad a) :: st) Φ := tj_putf cl1 hn hd 2 (by decide) hlk rfl rfl rfl (ws_at hk (by decide) (ce1 (kds hk (by decide)))) (Nat.le_of_ble_eq_true rfl) (ws_setI (f := upd (M a) 2 v) hk (by decide) (ce1 (kds hk (by decide)))) kk
theorem gs1_rightKinds (hk : kdS bb nn a = 1) (hn : pc + 3 = n) (hd : decode k.2.1 pc = .ok (.getfield idx, 3)) (hlk : Cond.fieldLink k.1.cls idx "HouseTwins$Law" "rightKinds" "I" ∈ TB) (kk : T E k cu su (WS bb nn E ad M tl) n l (.int (M a 3) :: st) Φ) : T E k cu su (WS bb nn E ad M tl) pc l (.ref (ad a) :: st) Φ := tj_getf cl1 hn hd 3 (by decide) hlk (ws_at hk (by decide) (ce1 (kds hk (by decide)))) rfl kk
theorem ps1_rightKinds {v : Int32} (hk : kdS bb nn a = 1) (hn : pc + 3 = n) (hd : decode k.2.1 pc = .ok (.putfield idx, 3)) (hlk : Cond.fieldLink k.1.cls idx "HouseTwins$Law" "rightKinds" "I" ∈ TB) (kk : T E k cu su (WS bb nn E ad (mset M a 3 v) tl) n l st Φ) : T E k cu su (WS bb nn E ad M tl) pc l (.int v :: .ref (ad a) :: st) Φ := tj_putf cl1 hn hd 3 (by decide) hlk rfl rfl rfl (ws_at hk (by decide) (ce1 (kds hk (by decide)))) (Nat.le_of_ble_eq_true rfl) (ws_setI (f := upd (M a) 3 v) hk (by decide) (ce1 (kds hk (by decide)))) kk
theorem gs1_price (hk : kdS bb nn a = 1) (hn : pc + 3 = n) (hd : decode k.2.1 pc = .ok (.getfield idx, 3)) (hlk : Cond.fieldLink k.1.cls idx "HouseTwins$Law" "price" "[I" ∈ TB) (kk : T E k cu su (WS bb nn E ad M tl) n l (.ref (ad (a + 1)) :: st) Φ) : T E k cu su (WS bb nn E ad M tl) pc l (.ref (ad a) :: st) Φ := tj_getf cl1 hn hd 4 (by decide) hlk (ws_at hk (by decide) (ce1 (kds hk (by decide)))) rfl kk
theorem gs1_cost (hk : kdS bb nn a = 1) (hn : pc + 3 = n) (hd : decode k.2.1 pc = .ok (.getfield idx, 3)) (hlk : Cond.fieldLink k.1.cls idx "HouseTwins$Law" "cost" "[[I" ∈ TB) (kk : T E k cu su (WS bb nn E ad M tl) n l (.ref (ad (a + 2)) :: st) Φ) : T E k cu su (WS bb nn E ad M tl) pc l (.ref (ad a) :: st) Φ := tj_getf cl1 hn hd 5 (by decide) hlk (ws_at hk (by decide) (ce1 (kds hk (by decide)))) rfl kk
theorem gs1_taste (hk : kdS bb nn a = 1) (hn : pc + 3 = n) (hd : decode k.2.1 pc = .ok (.getfield idx, 3)) (hlk : Cond.fieldLink k.1.cls idx "HouseTwins$Law" "taste" "[[I" ∈ TB) (kk : T E k cu su (WS bb nn E ad M tl) n l (.ref (ad (a + 5)) :: st) Φ) : T E k cu su (WS bb nn E ad M tl) pc l (.ref (ad a) :: st) Φ := tj_getf cl1 hn hd 6 (by decide) hlk (ws_at hk (by decide) (ce1 (kds hk (by decide)))) rfl kk
theorem gs1_lackedKinds (hk : kdS bb nn a = 1) (hn : pc + 3 = n) (hd : decode k.2.1 pc = .ok (.getfield idx, 3)) (hlk : Cond.fieldLink k.1.cls idx "HouseTwins$Law" "lackedKinds" "[I" ∈ TB) (kk : T E k cu su (WS bb nn E ad M tl) n l (.ref (ad (a + 8)) :: st) Φ) : T E k cu su (WS bb nn E ad M tl) pc l (.ref (ad a) :: st) Φ := tj_getf cl1 hn hd 7 (by decide) hlk (ws_at hk (by decide) (ce1 (kds hk (by decide)))) rfl kk
theorem gs1_twin (hk : kdS bb nn a = 1) (hn : pc + 3 = n) (hd : decode k.2.1 pc = .ok (.getfield idx, 3)) (hlk : Cond.fieldLink k.1.cls idx "HouseTwins$Law" "twin" "[I" ∈ TB) (kk : T E k cu su (WS bb nn E ad M tl) n l (.ref (ad (a + 9)) :: st) Φ) : T E k cu su (WS bb nn E ad M tl) pc l (.ref (ad a) :: st) Φ := tj_getf cl1 hn hd 8 (by decide) hlk (ws_at hk (by decide) (ce1 (kds hk (by decide)))) rfl kk
theorem gs1_paint (hk : kdS bb nn a = 1) (hn : pc + 3 = n) (hd : decode k.2.1 pc = .ok (.getfield idx, 3)) (hlk : Cond.fieldLink k.1.cls idx "HouseTwins$Law" "paint" "[I" ∈ TB) (kk : T E k cu su (WS bb nn E ad M tl) n l (.ref (ad (a + 10)) :: st) Φ) : T E k cu su (WS bb nn E ad M tl) pc l (.ref (ad a) :: st) Φ := tj_getf cl1 hn hd 9 (by decide) hlk (ws_at hk (by decide) (ce1 (kds hk (by decide)))) rfl kk
theorem gs11_st (hk : kdS bb nn a = 11) (hn : pc + 3 = n) (hd : decode k.2.1 pc = .ok (.getfield idx, 3)) (hlk : Cond.fieldLink k.1.cls idx "HouseTwinsModel" "st" "[I" ∈ TB) (kk : T E k cu su (WS bb nn E ad M tl) n l (.ref (ad (82)) :: st) Φ) : T E k cu su (WS bb nn E ad M tl) pc l (.ref (ad a) :: st) Φ := tj_getf cl11 hn hd 0 (by decide) hlk (ws_at hk (by decide) (ce11 (kds hk (by decide)))) rfl kk
theorem gs11_isKept (hk : kdS bb nn a = 11) (hn : pc + 3 = n) (hd : decode k.2.1 pc = .ok (.getfield idx, 3)) (hlk : Cond.fieldLink k.1.cls idx "HouseTwinsModel" "isKept" "[Z" ∈ TB) (kk : T E k cu su (WS bb nn E ad M tl) n l (.ref (ad (83)) :: st) Φ) : T E k cu su (WS bb nn E ad M tl) pc l (.ref (ad a) :: st) Φ := tj_getf cl11 hn hd 1 (by decide) hlk (ws_at hk (by decide) (ce11 (kds hk (by decide)))) rfl kk
theorem gs11_lots (hk : kdS bb nn a = 11) (hn : pc + 3 = n) (hd : decode k.2.1 pc = .ok (.getfield idx, 3)) (hlk : Cond.fieldLink k.1.cls idx "HouseTwinsModel" "lots" "I" ∈ TB) (kk : T E k cu su (WS bb nn E ad M tl) n l (.int (M a 2) :: st) Φ) : T E k cu su (WS bb nn E ad M tl) pc l (.ref (ad a) :: st) Φ := tj_getf cl11 hn hd 2 (by decide) hlk (ws_at hk (by decide) (ce11 (kds hk (by decide)))) rfl kk
theorem ps11_lots {v : Int32} (hk : kdS bb nn a = 11) (hn : pc + 3 = n) (hd : decode k.2.1 pc = .ok (.putfield idx, 3)) (hlk : Cond.fieldLink k.1.cls idx "HouseTwinsModel" "lots" "I" ∈ TB) (kk : T E k cu su (WS bb nn E ad (mset M a 2 v) tl) n l st Φ) : T E k cu su (WS bb nn E ad M tl) pc l (.int v :: .ref (ad a) :: st) Φ := tj_putf cl11 hn hd 2 (by decide) hlk rfl rfl rfl (ws_at hk (by decide) (ce11 (kds hk (by decide)))) (Nat.le_of_ble_eq_true rfl) (ws_setI (f := upd (M a) 2 v) hk (by decide) (ce11 (kds hk (by decide)))) kk
theorem gs11_bend (hk : kdS bb nn a = 11) (hn : pc + 3 = n) (hd : decode k.2.1 pc = .ok (.getfield idx, 3)) (hlk : Cond.fieldLink k.1.cls idx "HouseTwinsModel" "bend" "I" ∈ TB) (kk : T E k cu su (WS bb nn E ad M tl) n l (.int (M a 3) :: st) Φ) : T E k cu su (WS bb nn E ad M tl) pc l (.ref (ad a) :: st) Φ := tj_getf cl11 hn hd 3 (by decide) hlk (ws_at hk (by decide) (ce11 (kds hk (by decide)))) rfl kk
theorem ps11_bend {v : Int32} (hk : kdS bb nn a = 11) (hn : pc + 3 = n) (hd : decode k.2.1 pc = .ok (.putfield idx, 3)) (hlk : Cond.fieldLink k.1.cls idx "HouseTwinsModel" "bend" "I" ∈ TB) (kk : T E k cu su (WS bb nn E ad (mset M a 3 v) tl) n l st Φ) : T E k cu su (WS bb nn E ad M tl) pc l (.int v :: .ref (ad a) :: st) Φ := tj_putf cl11 hn hd 3 (by decide) hlk rfl rfl rfl (ws_at hk (by decide) (ce11 (kds hk (by decide)))) (Nat.le_of_ble_eq_true rfl) (ws_setI (f := upd (M a) 3 v) hk (by decide) (ce11 (kds hk (by decide)))) kk
theorem gs11_pull (hk : kdS bb nn a = 11) (hn : pc + 3 = n) (hd : decode k.2.1 pc = .ok (.getfield idx, 3)) (hlk : Cond.fieldLink k.1.cls idx "HouseTwinsModel" "pull" "I" ∈ TB) (kk : T E k cu su (WS bb nn E ad M tl) n l (.int (M a 4) :: st) Φ) : T E k cu su (WS bb nn E ad M tl) pc l (.ref (ad a) :: st) Φ := tj_getf cl11 hn hd 4 (by decide) hlk (ws_at hk (by decide) (ce11 (kds hk (by decide)))) rfl kk
theorem ps11_pull {v : Int32} (hk : kdS bb nn a = 11) (hn : pc + 3 = n) (hd : decode k.2.1 pc = .ok (.putfield idx, 3)) (hlk : Cond.fieldLink k.1.cls idx "HouseTwinsModel" "pull" "I" ∈ TB) (kk : T E k cu su (WS bb nn E ad (mset M a 4 v) tl) n l st Φ) : T E k cu su (WS bb nn E ad M tl) pc l (.int v :: .ref (ad a) :: st) Φ := tj_putf cl11 hn hd 4 (by decide) hlk rfl rfl rfl (ws_at hk (by decide) (ce11 (kds hk (by decide)))) (Nat.le_of_ble_eq_true rfl) (ws_setI (f := upd (M a) 4 v) hk (by decide) (ce11 (kds hk (by decide)))) kk
theorem gs11_price (hk : kdS bb nn a = 11) (hn : pc + 3 = n) (hd : decode k.2.1 pc = .ok (.getfield idx, 3)) (hlk : Cond.fieldLink k.1.cls idx "HouseTwinsModel" "price" "[I" ∈ TB) (kk : T E k cu su (WS bb nn E ad M tl) n l (.ref (ad (84)) :: st) Φ) : T E k cu su (WS bb nn E ad M tl) pc l (.ref (ad a) :: st) Φ := tj_getf cl11 hn hd 5 (by decide) hlk (ws_at hk (by decide) (ce11 (kds hk (by decide)))) rfl kk
theorem gs11_cost (hk : kdS bb nn a = 11) (hn : pc + 3 = n) (hd : decode k.2.1 pc = .ok (.getfield idx, 3)) (hlk : Cond.fieldLink k.1.cls idx "HouseTwinsModel" "cost" "[I" ∈ TB) (kk : T E k cu su (WS bb nn E ad M tl) n l (.ref (ad (85)) :: st) Φ) : T E k cu su (WS bb nn E ad M tl) pc l (.ref (ad a) :: st) Φ := tj_getf cl11 hn hd 6 (by decide) hlk (ws_at hk (by decide) (ce11 (kds hk (by decide)))) rfl kk
theorem gs11_taste (hk : kdS bb nn a = 11) (hn : pc + 3 = n) (hd : decode k.2.1 pc = .ok (.getfield idx, 3)) (hlk : Cond.fieldLink k.1.cls idx "HouseTwinsModel" "taste" "[I" ∈ TB) (kk : T E k cu su (WS bb nn E ad M tl) n l (.ref (ad (86)) :: st) Φ) : T E k cu su (WS bb nn E ad M tl) pc l (.ref (ad a) :: st) Φ := tj_getf cl11 hn hd 7 (by decide) hlk (ws_at hk (by decide) (ce11 (kds hk (by decide)))) rfl kk
theorem gs11_lacks (hk : kdS bb nn a = 11) (hn : pc + 3 = n) (hd : decode k.2.1 pc = .ok (.getfield idx, 3)) (hlk : Cond.fieldLink k.1.cls idx "HouseTwinsModel" "lacks" "[I" ∈ TB) (kk : T E k cu su (WS bb nn E ad M tl) n l (.ref (ad (87)) :: st) Φ) : T E k cu su (WS bb nn E ad M tl) pc l (.ref (ad a) :: st) Φ := tj_getf cl11 hn hd 8 (by decide) hlk (ws_at hk (by decide) (ce11 (kds hk (by decide)))) rfl kk
theorem gs11_twin (hk : kdS bb nn a = 11) (hn : pc + 3 = n) (hd : decode k.2.1 pc = .ok (.getfield idx, 3)) (hlk : Cond.fieldLink k.1.cls idx "HouseTwinsModel" "twin" "[I" ∈ TB) (kk : T E k cu su (WS bb nn E ad M tl) n l (.ref (ad (88)) :: st) Φ) : T E k cu su (WS bb nn E ad M tl) pc l (.ref (ad a) :: st) Φ := tj_getf cl11 hn hd 9 (by decide) hlk (ws_at hk (by decide) (ce11 (kds hk (by decide)))) rfl kk
theorem gs11_paint (hk : kdS bb nn a = 11) (hn : pc + 3 = n) (hd : decode k.2.1 pc = .ok (.getfield idx, 3)) (hlk : Cond.fieldLink k.1.cls idx "HouseTwinsModel" "paint" "[I" ∈ TB) (kk : T E k cu su (WS bb nn E ad M tl) n l (.ref (ad (89)) :: st) Φ) : T E k cu su (WS bb nn E ad M tl) pc l (.ref (ad a) :: st) Φ := tj_getf cl11 hn hd 10 (by decide) hlk (ws_at hk (by decide) (ce11 (kds hk (by decide)))) rfl kk
theorem gs11_rights (hk : kdS bb nn a = 11) (hn : pc + 3 = n) (hd : decode k.2.1 pc = .ok (.getfield idx, 3)) (hlk : Cond.fieldLink k.1.cls idx "HouseTwinsModel" "rights" "I" ∈ TB) (kk : T E k cu su (WS bb nn E ad M tl) n l (.int (M a 11) :: st) Φ) : T E k cu su (WS bb nn E ad M tl) pc l (.ref (ad a) :: st) Φ := tj_getf cl11 hn hd 11 (by decide) hlk (ws_at hk (by decide) (ce11 (kds hk (by decide)))) rfl kk
theorem ps11_rights {v : Int32} (hk : kdS bb nn a = 11) (hn : pc + 3 = n) (hd : decode k.2.1 pc = .ok (.putfield idx, 3)) (hlk : Cond.fieldLink k.1.cls idx "HouseTwinsModel" "rights" "I" ∈ TB) (kk : T E k cu su (WS bb nn E ad (mset M a 11 v) tl) n l st Φ) : T E k cu su (WS bb nn E ad M tl) pc l (.int v :: .ref (ad a) :: st) Φ := tj_putf cl11 hn hd 11 (by decide) hlk rfl rfl rfl (ws_at hk (by decide) (ce11 (kds hk (by decide)))) (Nat.le_of_ble_eq_true rfl) (ws_setI (f := upd (M a) 11 v) hk (by decide) (ce11 (kds hk (by decide)))) kk
theorem gs11_draft (hk : kdS bb nn a = 11) (hn : pc + 3 = n) (hd : decode k.2.1 pc = .ok (.getfield idx, 3)) (hlk : Cond.fieldLink k.1.cls idx "HouseTwinsModel" "draft" "[I" ∈ TB) (kk : T E k cu su (WS bb nn E ad M tl) n l (.ref (ad (90)) :: st) Φ) : T E k cu su (WS bb nn E ad M tl) pc l (.ref (ad a) :: st) Φ := tj_getf cl11 hn hd 12 (by decide) hlk (ws_at hk (by decide) (ce11 (kds hk (by decide)))) rfl kk
theorem gs11_dLots (hk : kdS bb nn a = 11) (hn : pc + 3 = n) (hd : decode k.2.1 pc = .ok (.getfield idx, 3)) (hlk : Cond.fieldLink k.1.cls idx "HouseTwinsModel" "dLots" "I" ∈ TB) (kk : T E k cu su (WS bb nn E ad M tl) n l (.int (M a 13) :: st) Φ) : T E k cu su (WS bb nn E ad M tl) pc l (.ref (ad a) :: st) Φ := tj_getf cl11 hn hd 13 (by decide) hlk (ws_at hk (by decide) (ce11 (kds hk (by decide)))) rfl kk
theorem ps11_dLots {v : Int32} (hk : kdS bb nn a = 11) (hn : pc + 3 = n) (hd : decode k.2.1 pc = .ok (.putfield idx, 3)) (hlk : Cond.fieldLink k.1.cls idx "HouseTwinsModel" "dLots" "I" ∈ TB) (kk : T E k cu su (WS bb nn E ad (mset M a 13 v) tl) n l st Φ) : T E k cu su (WS bb nn E ad M tl) pc l (.int v :: .ref (ad a) :: st) Φ := tj_putf cl11 hn hd 13 (by decide) hlk rfl rfl rfl (ws_at hk (by decide) (ce11 (kds hk (by decide)))) (Nat.le_of_ble_eq_true rfl) (ws_setI (f := upd (M a) 13 v) hk (by decide) (ce11 (kds hk (by decide)))) kk
theorem gs11_dBend (hk : kdS bb nn a = 11) (hn : pc + 3 = n) (hd : decode k.2.1 pc = .ok (.getfield idx, 3)) (hlk : Cond.fieldLink k.1.cls idx "HouseTwinsModel" "dBend" "I" ∈ TB) (kk : T E k cu su (WS bb nn E ad M tl) n l (.int (M a 14) :: st) Φ) : T E k cu su (WS bb nn E ad M tl) pc l (.ref (ad a) :: st) Φ := tj_getf cl11 hn hd 14 (by decide) hlk (ws_at hk (by decide) (ce11 (kds hk (by decide)))) rfl kk
theorem ps11_dBend {v : Int32} (hk : kdS bb nn a = 11) (hn : pc + 3 = n) (hd : decode k.2.1 pc = .ok (.putfield idx, 3)) (hlk : Cond.fieldLink k.1.cls idx "HouseTwinsModel" "dBend" "I" ∈ TB) (kk : T E k cu su (WS bb nn E ad (mset M a 14 v) tl) n l st Φ) : T E k cu su (WS bb nn E ad M tl) pc l (.int v :: .ref (ad a) :: st) Φ := tj_putf cl11 hn hd 14 (by decide) hlk rfl rfl rfl (ws_at hk (by decide) (ce11 (kds hk (by decide)))) (Nat.le_of_ble_eq_true rfl) (ws_setI (f := upd (M a) 14 v) hk (by decide) (ce11 (kds hk (by decide)))) kk
theorem gs11_dPull (hk : kdS bb nn a = 11) (hn : pc + 3 = n) (hd : decode k.2.1 pc = .ok (.getfield idx, 3)) (hlk : Cond.fieldLink k.1.cls idx "HouseTwinsModel" "dPull" "I" ∈ TB) (kk : T E k cu su (WS bb nn E ad M tl) n l (.int (M a 15) :: st) Φ) : T E k cu su (WS bb nn E ad M tl) pc l (.ref (ad a) :: st) Φ := tj_getf cl11 hn hd 15 (by decide) hlk (ws_at hk (by decide) (ce11 (kds hk (by decide)))) rfl kk
theorem ps11_dPull {v : Int32} (hk : kdS bb nn a = 11) (hn : pc + 3 = n) (hd : decode k.2.1 pc = .ok (.putfield idx, 3)) (hlk : Cond.fieldLink k.1.cls idx "HouseTwinsModel" "dPull" "I" ∈ TB) (kk : T E k cu su (WS bb nn E ad (mset M a 15 v) tl) n l st Φ) : T E k cu su (WS bb nn E ad M tl) pc l (.int v :: .ref (ad a) :: st) Φ := tj_putf cl11 hn hd 15 (by decide) hlk rfl rfl rfl (ws_at hk (by decide) (ce11 (kds hk (by decide)))) (Nat.le_of_ble_eq_true rfl) (ws_setI (f := upd (M a) 15 v) hk (by decide) (ce11 (kds hk (by decide)))) kk
theorem gs11_dPrice (hk : kdS bb nn a = 11) (hn : pc + 3 = n) (hd : decode k.2.1 pc = .ok (.getfield idx, 3)) (hlk : Cond.fieldLink k.1.cls idx "HouseTwinsModel" "dPrice" "[I" ∈ TB) (kk : T E k cu su (WS bb nn E ad M tl) n l (.ref (ad (91)) :: st) Φ) : T E k cu su (WS bb nn E ad M tl) pc l (.ref (ad a) :: st) Φ := tj_getf cl11 hn hd 16 (by decide) hlk (ws_at hk (by decide) (ce11 (kds hk (by decide)))) rfl kk
theorem gs11_dCost (hk : kdS bb nn a = 11) (hn : pc + 3 = n) (hd : decode k.2.1 pc = .ok (.getfield idx, 3)) (hlk : Cond.fieldLink k.1.cls idx "HouseTwinsModel" "dCost" "[I" ∈ TB) (kk : T E k cu su (WS bb nn E ad M tl) n l (.ref (ad (92)) :: st) Φ) : T E k cu su (WS bb nn E ad M tl) pc l (.ref (ad a) :: st) Φ := tj_getf cl11 hn hd 17 (by decide) hlk (ws_at hk (by decide) (ce11 (kds hk (by decide)))) rfl kk
theorem gs11_dTaste (hk : kdS bb nn a = 11) (hn : pc + 3 = n) (hd : decode k.2.1 pc = .ok (.getfield idx, 3)) (hlk : Cond.fieldLink k.1.cls idx "HouseTwinsModel" "dTaste" "[I" ∈ TB) (kk : T E k cu su (WS bb nn E ad M tl) n l (.ref (ad (93)) :: st) Φ) : T E k cu su (WS bb nn E ad M tl) pc l (.ref (ad a) :: st) Φ := tj_getf cl11 hn hd 18 (by decide) hlk (ws_at hk (by decide) (ce11 (kds hk (by decide)))) rfl kk
theorem gs11_dLacks (hk : kdS bb nn a = 11) (hn : pc + 3 = n) (hd : decode k.2.1 pc = .ok (.getfield idx, 3)) (hlk : Cond.fieldLink k.1.cls idx "HouseTwinsModel" "dLacks" "[I" ∈ TB) (kk : T E k cu su (WS bb nn E ad M tl) n l (.ref (ad (94)) :: st) Φ) : T E k cu su (WS bb nn E ad M tl) pc l (.ref (ad a) :: st) Φ := tj_getf cl11 hn hd 19 (by decide) hlk (ws_at hk (by decide) (ce11 (kds hk (by decide)))) rfl kk
theorem gs11_dTwin (hk : kdS bb nn a = 11) (hn : pc + 3 = n) (hd : decode k.2.1 pc = .ok (.getfield idx, 3)) (hlk : Cond.fieldLink k.1.cls idx "HouseTwinsModel" "dTwin" "[I" ∈ TB) (kk : T E k cu su (WS bb nn E ad M tl) n l (.ref (ad (95)) :: st) Φ) : T E k cu su (WS bb nn E ad M tl) pc l (.ref (ad a) :: st) Φ := tj_getf cl11 hn hd 20 (by decide) hlk (ws_at hk (by decide) (ce11 (kds hk (by decide)))) rfl kk
theorem gs11_dPaint (hk : kdS bb nn a = 11) (hn : pc + 3 = n) (hd : decode k.2.1 pc = .ok (.getfield idx, 3)) (hlk : Cond.fieldLink k.1.cls idx "HouseTwinsModel" "dPaint" "[I" ∈ TB) (kk : T E k cu su (WS bb nn E ad M tl) n l (.ref (ad (96)) :: st) Φ) : T E k cu su (WS bb nn E ad M tl) pc l (.ref (ad a) :: st) Φ := tj_getf cl11 hn hd 21 (by decide) hlk (ws_at hk (by decide) (ce11 (kds hk (by decide)))) rfl kk
theorem gs11_dRights (hk : kdS bb nn a = 11) (hn : pc + 3 = n) (hd : decode k.2.1 pc = .ok (.getfield idx, 3)) (hlk : Cond.fieldLink k.1.cls idx "HouseTwinsModel" "dRights" "I" ∈ TB) (kk : T E k cu su (WS bb nn E ad M tl) n l (.int (M a 22) :: st) Φ) : T E k cu su (WS bb nn E ad M tl) pc l (.ref (ad a) :: st) Φ := tj_getf cl11 hn hd 22 (by decide) hlk (ws_at hk (by decide) (ce11 (kds hk (by decide)))) rfl kk
theorem ps11_dRights {v : Int32} (hk : kdS bb nn a = 11) (hn : pc + 3 = n) (hd : decode k.2.1 pc = .ok (.putfield idx, 3)) (hlk : Cond.fieldLink k.1.cls idx "HouseTwinsModel" "dRights" "I" ∈ TB) (kk : T E k cu su (WS bb nn E ad (mset M a 22 v) tl) n l st Φ) : T E k cu su (WS bb nn E ad M tl) pc l (.int v :: .ref (ad a) :: st) Φ := tj_putf cl11 hn hd 22 (by decide) hlk rfl rfl rfl (ws_at hk (by decide) (ce11 (kds hk (by decide)))) (Nat.le_of_ble_eq_true rfl) (ws_setI (f := upd (M a) 22 v) hk (by decide) (ce11 (kds hk (by decide)))) kk
theorem gs11_toldLines (hk : kdS bb nn a = 11) (hn : pc + 3 = n) (hd : decode k.2.1 pc = .ok (.getfield idx, 3)) (hlk : Cond.fieldLink k.1.cls idx "HouseTwinsModel" "toldLines" "I" ∈ TB) (kk : T E k cu su (WS bb nn E ad M tl) n l (.int (M a 23) :: st) Φ) : T E k cu su (WS bb nn E ad M tl) pc l (.ref (ad a) :: st) Φ := tj_getf cl11 hn hd 23 (by decide) hlk (ws_at hk (by decide) (ce11 (kds hk (by decide)))) rfl kk
theorem ps11_toldLines {v : Int32} (hk : kdS bb nn a = 11) (hn : pc + 3 = n) (hd : decode k.2.1 pc = .ok (.putfield idx, 3)) (hlk : Cond.fieldLink k.1.cls idx "HouseTwinsModel" "toldLines" "I" ∈ TB) (kk : T E k cu su (WS bb nn E ad (mset M a 23 v) tl) n l st Φ) : T E k cu su (WS bb nn E ad M tl) pc l (.int v :: .ref (ad a) :: st) Φ := tj_putf cl11 hn hd 23 (by decide) hlk rfl rfl rfl (ws_at hk (by decide) (ce11 (kds hk (by decide)))) (Nat.le_of_ble_eq_true rfl) (ws_setI (f := upd (M a) 23 v) hk (by decide) (ce11 (kds hk (by decide)))) kk
theorem gs11_toldThings (hk : kdS bb nn a = 11) (hn : pc + 3 = n) (hd : decode k.2.1 pc = .ok (.getfield idx, 3)) (hlk : Cond.fieldLink k.1.cls idx "HouseTwinsModel" "toldThings" "I" ∈ TB) (kk : T E k cu su (WS bb nn E ad M tl) n l (.int (M a 24) :: st) Φ) : T E k cu su (WS bb nn E ad M tl) pc l (.ref (ad a) :: st) Φ := tj_getf cl11 hn hd 24 (by decide) hlk (ws_at hk (by decide) (ce11 (kds hk (by decide)))) rfl kk
theorem ps11_toldThings {v : Int32} (hk : kdS bb nn a = 11) (hn : pc + 3 = n) (hd : decode k.2.1 pc = .ok (.putfield idx, 3)) (hlk : Cond.fieldLink k.1.cls idx "HouseTwinsModel" "toldThings" "I" ∈ TB) (kk : T E k cu su (WS bb nn E ad (mset M a 24 v) tl) n l st Φ) : T E k cu su (WS bb nn E ad M tl) pc l (.int v :: .ref (ad a) :: st) Φ := tj_putf cl11 hn hd 24 (by decide) hlk rfl rfl rfl (ws_at hk (by decide) (ce11 (kds hk (by decide)))) (Nat.le_of_ble_eq_true rfl) (ws_setI (f := upd (M a) 24 v) hk (by decide) (ce11 (kds hk (by decide)))) kk
theorem gs11_toldCosts (hk : kdS bb nn a = 11) (hn : pc + 3 = n) (hd : decode k.2.1 pc = .ok (.getfield idx, 3)) (hlk : Cond.fieldLink k.1.cls idx "HouseTwinsModel" "toldCosts" "I" ∈ TB) (kk : T E k cu su (WS bb nn E ad M tl) n l (.int (M a 25) :: st) Φ) : T E k cu su (WS bb nn E ad M tl) pc l (.ref (ad a) :: st) Φ := tj_getf cl11 hn hd 25 (by decide) hlk (ws_at hk (by decide) (ce11 (kds hk (by decide)))) rfl kk
theorem ps11_toldCosts {v : Int32} (hk : kdS bb nn a = 11) (hn : pc + 3 = n) (hd : decode k.2.1 pc = .ok (.putfield idx, 3)) (hlk : Cond.fieldLink k.1.cls idx "HouseTwinsModel" "toldCosts" "I" ∈ TB) (kk : T E k cu su (WS bb nn E ad (mset M a 25 v) tl) n l st Φ) : T E k cu su (WS bb nn E ad M tl) pc l (.int v :: .ref (ad a) :: st) Φ := tj_putf cl11 hn hd 25 (by decide) hlk rfl rfl rfl (ws_at hk (by decide) (ce11 (kds hk (by decide)))) (Nat.le_of_ble_eq_true rfl) (ws_setI (f := upd (M a) 25 v) hk (by decide) (ce11 (kds hk (by decide)))) kk
theorem gs11_toldTastes (hk : kdS bb nn a = 11) (hn : pc + 3 = n) (hd : decode k.2.1 pc = .ok (.getfield idx, 3)) (hlk : Cond.fieldLink k.1.cls idx "HouseTwinsModel" "toldTastes" "I" ∈ TB) (kk : T E k cu su (WS bb nn E ad M tl) n l (.int (M a 26) :: st) Φ) : T E k cu su (WS bb nn E ad M tl) pc l (.ref (ad a) :: st) Φ := tj_getf cl11 hn hd 26 (by decide) hlk (ws_at hk (by decide) (ce11 (kds hk (by decide)))) rfl kk
theorem ps11_toldTastes {v : Int32} (hk : kdS bb nn a = 11) (hn : pc + 3 = n) (hd : decode k.2.1 pc = .ok (.putfield idx, 3)) (hlk : Cond.fieldLink k.1.cls idx "HouseTwinsModel" "toldTastes" "I" ∈ TB) (kk : T E k cu su (WS bb nn E ad (mset M a 26 v) tl) n l st Φ) : T E k cu su (WS bb nn E ad M tl) pc l (.int v :: .ref (ad a) :: st) Φ := tj_putf cl11 hn hd 26 (by decide) hlk rfl rfl rfl (ws_at hk (by decide) (ce11 (kds hk (by decide)))) (Nat.le_of_ble_eq_true rfl) (ws_setI (f := upd (M a) 26 v) hk (by decide) (ce11 (kds hk (by decide)))) kk
theorem gs11_toldKinds (hk : kdS bb nn a = 11) (hn : pc + 3 = n) (hd : decode k.2.1 pc = .ok (.getfield idx, 3)) (hlk : Cond.fieldLink k.1.cls idx "HouseTwinsModel" "toldKinds" "I" ∈ TB) (kk : T E k cu su (WS bb nn E ad M tl) n l (.int (M a 27) :: st) Φ) : T E k cu su (WS bb nn E ad M tl) pc l (.ref (ad a) :: st) Φ := tj_getf cl11 hn hd 27 (by decide) hlk (ws_at hk (by decide) (ce11 (kds hk (by decide)))) rfl kk
theorem ps11_toldKinds {v : Int32} (hk : kdS bb nn a = 11) (hn : pc + 3 = n) (hd : decode k.2.1 pc = .ok (.putfield idx, 3)) (hlk : Cond.fieldLink k.1.cls idx "HouseTwinsModel" "toldKinds" "I" ∈ TB) (kk : T E k cu su (WS bb nn E ad (mset M a 27 v) tl) n l st Φ) : T E k cu su (WS bb nn E ad M tl) pc l (.int v :: .ref (ad a) :: st) Φ := tj_putf cl11 hn hd 27 (by decide) hlk rfl rfl rfl (ws_at hk (by decide) (ce11 (kds hk (by decide)))) (Nat.le_of_ble_eq_true rfl) (ws_setI (f := upd (M a) 27 v) hk (by decide) (ce11 (kds hk (by decide)))) kk
theorem gs11_toldColours (hk : kdS bb nn a = 11) (hn : pc + 3 = n) (hd : decode k.2.1 pc = .ok (.getfield idx, 3)) (hlk : Cond.fieldLink k.1.cls idx "HouseTwinsModel" "toldColours" "I" ∈ TB) (kk : T E k cu su (WS bb nn E ad M tl) n l (.int (M a 28) :: st) Φ) : T E k cu su (WS bb nn E ad M tl) pc l (.ref (ad a) :: st) Φ := tj_getf cl11 hn hd 28 (by decide) hlk (ws_at hk (by decide) (ce11 (kds hk (by decide)))) rfl kk
theorem ps11_toldColours {v : Int32} (hk : kdS bb nn a = 11) (hn : pc + 3 = n) (hd : decode k.2.1 pc = .ok (.putfield idx, 3)) (hlk : Cond.fieldLink k.1.cls idx "HouseTwinsModel" "toldColours" "I" ∈ TB) (kk : T E k cu su (WS bb nn E ad (mset M a 28 v) tl) n l st Φ) : T E k cu su (WS bb nn E ad M tl) pc l (.int v :: .ref (ad a) :: st) Φ := tj_putf cl11 hn hd 28 (by decide) hlk rfl rfl rfl (ws_at hk (by decide) (ce11 (kds hk (by decide)))) (Nat.le_of_ble_eq_true rfl) (ws_setI (f := upd (M a) 28 v) hk (by decide) (ce11 (kds hk (by decide)))) kk
theorem gs11_highestLot (hk : kdS bb nn a = 11) (hn : pc + 3 = n) (hd : decode k.2.1 pc = .ok (.getfield idx, 3)) (hlk : Cond.fieldLink k.1.cls idx "HouseTwinsModel" "highestLot" "I" ∈ TB) (kk : T E k cu su (WS bb nn E ad M tl) n l (.int (M a 29) :: st) Φ) : T E k cu su (WS bb nn E ad M tl) pc l (.ref (ad a) :: st) Φ := tj_getf cl11 hn hd 29 (by decide) hlk (ws_at hk (by decide) (ce11 (kds hk (by decide)))) rfl kk
theorem ps11_highestLot {v : Int32} (hk : kdS bb nn a = 11) (hn : pc + 3 = n) (hd : decode k.2.1 pc = .ok (.putfield idx, 3)) (hlk : Cond.fieldLink k.1.cls idx "HouseTwinsModel" "highestLot" "I" ∈ TB) (kk : T E k cu su (WS bb nn E ad (mset M a 29 v) tl) n l st Φ) : T E k cu su (WS bb nn E ad M tl) pc l (.int v :: .ref (ad a) :: st) Φ := tj_putf cl11 hn hd 29 (by decide) hlk rfl rfl rfl (ws_at hk (by decide) (ce11 (kds hk (by decide)))) (Nat.le_of_ble_eq_true rfl) (ws_setI (f := upd (M a) 29 v) hk (by decide) (ce11 (kds hk (by decide)))) kk
theorem gs11_tape (hk : kdS bb nn a = 11) (hn : pc + 3 = n) (hd : decode k.2.1 pc = .ok (.getfield idx, 3)) (hlk : Cond.fieldLink k.1.cls idx "HouseTwinsModel" "tape" "[I" ∈ TB) (kk : T E k cu su (WS bb nn E ad M tl) n l (.ref (ad (97)) :: st) Φ) : T E k cu su (WS bb nn E ad M tl) pc l (.ref (ad a) :: st) Φ := tj_getf cl11 hn hd 30 (by decide) hlk (ws_at hk (by decide) (ce11 (kds hk (by decide)))) rfl kk
theorem gs11_taped (hk : kdS bb nn a = 11) (hn : pc + 3 = n) (hd : decode k.2.1 pc = .ok (.getfield idx, 3)) (hlk : Cond.fieldLink k.1.cls idx "HouseTwinsModel" "taped" "I" ∈ TB) (kk : T E k cu su (WS bb nn E ad M tl) n l (.int (M a 31) :: st) Φ) : T E k cu su (WS bb nn E ad M tl) pc l (.ref (ad a) :: st) Φ := tj_getf cl11 hn hd 31 (by decide) hlk (ws_at hk (by decide) (ce11 (kds hk (by decide)))) rfl kk
theorem ps11_taped {v : Int32} (hk : kdS bb nn a = 11) (hn : pc + 3 = n) (hd : decode k.2.1 pc = .ok (.putfield idx, 3)) (hlk : Cond.fieldLink k.1.cls idx "HouseTwinsModel" "taped" "I" ∈ TB) (kk : T E k cu su (WS bb nn E ad (mset M a 31 v) tl) n l st Φ) : T E k cu su (WS bb nn E ad M tl) pc l (.int v :: .ref (ad a) :: st) Φ := tj_putf cl11 hn hd 31 (by decide) hlk rfl rfl rfl (ws_at hk (by decide) (ce11 (kds hk (by decide)))) (Nat.le_of_ble_eq_true rfl) (ws_setI (f := upd (M a) 31 v) hk (by decide) (ce11 (kds hk (by decide)))) kk
theorem gs11_pos (hk : kdS bb nn a = 11) (hn : pc + 3 = n) (hd : decode k.2.1 pc = .ok (.getfield idx, 3)) (hlk : Cond.fieldLink k.1.cls idx "HouseTwinsModel" "pos" "I" ∈ TB) (kk : T E k cu su (WS bb nn E ad M tl) n l (.int (M a 32) :: st) Φ) : T E k cu su (WS bb nn E ad M tl) pc l (.ref (ad a) :: st) Φ := tj_getf cl11 hn hd 32 (by decide) hlk (ws_at hk (by decide) (ce11 (kds hk (by decide)))) rfl kk
theorem ps11_pos {v : Int32} (hk : kdS bb nn a = 11) (hn : pc + 3 = n) (hd : decode k.2.1 pc = .ok (.putfield idx, 3)) (hlk : Cond.fieldLink k.1.cls idx "HouseTwinsModel" "pos" "I" ∈ TB) (kk : T E k cu su (WS bb nn E ad (mset M a 32 v) tl) n l st Φ) : T E k cu su (WS bb nn E ad M tl) pc l (.int v :: .ref (ad a) :: st) Φ := tj_putf cl11 hn hd 32 (by decide) hlk rfl rfl rfl (ws_at hk (by decide) (ce11 (kds hk (by decide)))) (Nat.le_of_ble_eq_true rfl) (ws_setI (f := upd (M a) 32 v) hk (by decide) (ce11 (kds hk (by decide)))) kk
theorem gs11_from (hk : kdS bb nn a = 11) (hn : pc + 3 = n) (hd : decode k.2.1 pc = .ok (.getfield idx, 3)) (hlk : Cond.fieldLink k.1.cls idx "HouseTwinsModel" "from" "I" ∈ TB) (kk : T E k cu su (WS bb nn E ad M tl) n l (.int (M a 33) :: st) Φ) : T E k cu su (WS bb nn E ad M tl) pc l (.ref (ad a) :: st) Φ := tj_getf cl11 hn hd 33 (by decide) hlk (ws_at hk (by decide) (ce11 (kds hk (by decide)))) rfl kk
theorem ps11_from {v : Int32} (hk : kdS bb nn a = 11) (hn : pc + 3 = n) (hd : decode k.2.1 pc = .ok (.putfield idx, 3)) (hlk : Cond.fieldLink k.1.cls idx "HouseTwinsModel" "from" "I" ∈ TB) (kk : T E k cu su (WS bb nn E ad (mset M a 33 v) tl) n l st Φ) : T E k cu su (WS bb nn E ad M tl) pc l (.int v :: .ref (ad a) :: st) Φ := tj_putf cl11 hn hd 33 (by decide) hlk rfl rfl rfl (ws_at hk (by decide) (ce11 (kds hk (by decide)))) (Nat.le_of_ble_eq_true rfl) (ws_setI (f := upd (M a) 33 v) hk (by decide) (ce11 (kds hk (by decide)))) kk
theorem gs11_sort (hk : kdS bb nn a = 11) (hn : pc + 3 = n) (hd : decode k.2.1 pc = .ok (.getfield idx, 3)) (hlk : Cond.fieldLink k.1.cls idx "HouseTwinsModel" "sort" "I" ∈ TB) (kk : T E k cu su (WS bb nn E ad M tl) n l (.int (M a 34) :: st) Φ) : T E k cu su (WS bb nn E ad M tl) pc l (.ref (ad a) :: st) Φ := tj_getf cl11 hn hd 34 (by decide) hlk (ws_at hk (by decide) (ce11 (kds hk (by decide)))) rfl kk
theorem ps11_sort {v : Int32} (hk : kdS bb nn a = 11) (hn : pc + 3 = n) (hd : decode k.2.1 pc = .ok (.putfield idx, 3)) (hlk : Cond.fieldLink k.1.cls idx "HouseTwinsModel" "sort" "I" ∈ TB) (kk : T E k cu su (WS bb nn E ad (mset M a 34 v) tl) n l st Φ) : T E k cu su (WS bb nn E ad M tl) pc l (.int v :: .ref (ad a) :: st) Φ := tj_putf cl11 hn hd 34 (by decide) hlk rfl rfl rfl (ws_at hk (by decide) (ce11 (kds hk (by decide)))) (Nat.le_of_ble_eq_true rfl) (ws_setI (f := upd (M a) 34 v) hk (by decide) (ce11 (kds hk (by decide)))) kk
theorem gs11_value (hk : kdS bb nn a = 11) (hn : pc + 3 = n) (hd : decode k.2.1 pc = .ok (.getfield idx, 3)) (hlk : Cond.fieldLink k.1.cls idx "HouseTwinsModel" "value" "I" ∈ TB) (kk : T E k cu su (WS bb nn E ad M tl) n l (.int (M a 35) :: st) Φ) : T E k cu su (WS bb nn E ad M tl) pc l (.ref (ad a) :: st) Φ := tj_getf cl11 hn hd 35 (by decide) hlk (ws_at hk (by decide) (ce11 (kds hk (by decide)))) rfl kk
theorem ps11_value {v : Int32} (hk : kdS bb nn a = 11) (hn : pc + 3 = n) (hd : decode k.2.1 pc = .ok (.putfield idx, 3)) (hlk : Cond.fieldLink k.1.cls idx "HouseTwinsModel" "value" "I" ∈ TB) (kk : T E k cu su (WS bb nn E ad (mset M a 35 v) tl) n l st Φ) : T E k cu su (WS bb nn E ad M tl) pc l (.int v :: .ref (ad a) :: st) Φ := tj_putf cl11 hn hd 35 (by decide) hlk rfl rfl rfl (ws_at hk (by decide) (ce11 (kds hk (by decide)))) (Nat.le_of_ble_eq_true rfl) (ws_setI (f := upd (M a) 35 v) hk (by decide) (ce11 (kds hk (by decide)))) kk
theorem gs11_fault (hk : kdS bb nn a = 11) (hn : pc + 3 = n) (hd : decode k.2.1 pc = .ok (.getfield idx, 3)) (hlk : Cond.fieldLink k.1.cls idx "HouseTwinsModel" "fault" "I" ∈ TB) (kk : T E k cu su (WS bb nn E ad M tl) n l (.int (M a 36) :: st) Φ) : T E k cu su (WS bb nn E ad M tl) pc l (.ref (ad a) :: st) Φ := tj_getf cl11 hn hd 36 (by decide) hlk (ws_at hk (by decide) (ce11 (kds hk (by decide)))) rfl kk
theorem ps11_fault {v : Int32} (hk : kdS bb nn a = 11) (hn : pc + 3 = n) (hd : decode k.2.1 pc = .ok (.putfield idx, 3)) (hlk : Cond.fieldLink k.1.cls idx "HouseTwinsModel" "fault" "I" ∈ TB) (kk : T E k cu su (WS bb nn E ad (mset M a 36 v) tl) n l st Φ) : T E k cu su (WS bb nn E ad M tl) pc l (.int v :: .ref (ad a) :: st) Φ := tj_putf cl11 hn hd 36 (by decide) hlk rfl rfl rfl (ws_at hk (by decide) (ce11 (kds hk (by decide)))) (Nat.le_of_ble_eq_true rfl) (ws_setI (f := upd (M a) 36 v) hk (by decide) (ce11 (kds hk (by decide)))) kk
theorem gs11_wrongAt (hk : kdS bb nn a = 11) (hn : pc + 3 = n) (hd : decode k.2.1 pc = .ok (.getfield idx, 3)) (hlk : Cond.fieldLink k.1.cls idx "HouseTwinsModel" "wrongAt" "I" ∈ TB) (kk : T E k cu su (WS bb nn E ad M tl) n l (.int (M a 37) :: st) Φ) : T E k cu su (WS bb nn E ad M tl) pc l (.ref (ad a) :: st) Φ := tj_getf cl11 hn hd 37 (by decide) hlk (ws_at hk (by decide) (ce11 (kds hk (by decide)))) rfl kk
theorem ps11_wrongAt {v : Int32} (hk : kdS bb nn a = 11) (hn : pc + 3 = n) (hd : decode k.2.1 pc = .ok (.putfield idx, 3)) (hlk : Cond.fieldLink k.1.cls idx "HouseTwinsModel" "wrongAt" "I" ∈ TB) (kk : T E k cu su (WS bb nn E ad (mset M a 37 v) tl) n l st Φ) : T E k cu su (WS bb nn E ad M tl) pc l (.int v :: .ref (ad a) :: st) Φ := tj_putf cl11 hn hd 37 (by decide) hlk rfl rfl rfl (ws_at hk (by decide) (ce11 (kds hk (by decide)))) (Nat.le_of_ble_eq_true rfl) (ws_setI (f := upd (M a) 37 v) hk (by decide) (ce11 (kds hk (by decide)))) kk
theorem gs11_now (hk : kdS bb nn a = 11) (hn : pc + 3 = n) (hd : decode k.2.1 pc = .ok (.getfield idx, 3)) (hlk : Cond.fieldLink k.1.cls idx "HouseTwinsModel" "now" "[I" ∈ TB) (kk : T E k cu su (WS bb nn E ad M tl) n l (.ref (ad (98)) :: st) Φ) : T E k cu su (WS bb nn E ad M tl) pc l (.ref (ad a) :: st) Φ := tj_getf cl11 hn hd 38 (by decide) hlk (ws_at hk (by decide) (ce11 (kds hk (by decide)))) rfl kk
theorem gs11_latest (hk : kdS bb nn a = 11) (hn : pc + 3 = n) (hd : decode k.2.1 pc = .ok (.getfield idx, 3)) (hlk : Cond.fieldLink k.1.cls idx "HouseTwinsModel" "latest" "[I" ∈ TB) (kk : T E k cu su (WS bb nn E ad M tl) n l (.ref (ad (99)) :: st) Φ) : T E k cu su (WS bb nn E ad M tl) pc l (.ref (ad a) :: st) Φ := tj_getf cl11 hn hd 39 (by decide) hlk (ws_at hk (by decide) (ce11 (kds hk (by decide)))) rfl kk
theorem gs11_nowWorked (hk : kdS bb nn a = 11) (hn : pc + 3 = n) (hd : decode k.2.1 pc = .ok (.getfield idx, 3)) (hlk : Cond.fieldLink k.1.cls idx "HouseTwinsModel" "nowWorked" "[Z" ∈ TB) (kk : T E k cu su (WS bb nn E ad M tl) n l (.ref (ad (100)) :: st) Φ) : T E k cu su (WS bb nn E ad M tl) pc l (.ref (ad a) :: st) Φ := tj_getf cl11 hn hd 40 (by decide) hlk (ws_at hk (by decide) (ce11 (kds hk (by decide)))) rfl kk
theorem gs11_wasWorked (hk : kdS bb nn a = 11) (hn : pc + 3 = n) (hd : decode k.2.1 pc = .ok (.getfield idx, 3)) (hlk : Cond.fieldLink k.1.cls idx "HouseTwinsModel" "wasWorked" "[Z" ∈ TB) (kk : T E k cu su (WS bb nn E ad M tl) n l (.ref (ad (101)) :: st) Φ) : T E k cu su (WS bb nn E ad M tl) pc l (.ref (ad a) :: st) Φ := tj_getf cl11 hn hd 41 (by decide) hlk (ws_at hk (by decide) (ce11 (kds hk (by decide)))) rfl kk
theorem gs11_paidBy (hk : kdS bb nn a = 11) (hn : pc + 3 = n) (hd : decode k.2.1 pc = .ok (.getfield idx, 3)) (hlk : Cond.fieldLink k.1.cls idx "HouseTwinsModel" "paidBy" "[I" ∈ TB) (kk : T E k cu su (WS bb nn E ad M tl) n l (.ref (ad (102)) :: st) Φ) : T E k cu su (WS bb nn E ad M tl) pc l (.ref (ad a) :: st) Φ := tj_getf cl11 hn hd 42 (by decide) hlk (ws_at hk (by decide) (ce11 (kds hk (by decide)))) rfl kk
theorem gs11_fates (hk : kdS bb nn a = 11) (hn : pc + 3 = n) (hd : decode k.2.1 pc = .ok (.getfield idx, 3)) (hlk : Cond.fieldLink k.1.cls idx "HouseTwinsModel" "fates" "[I" ∈ TB) (kk : T E k cu su (WS bb nn E ad M tl) n l (.ref (ad (103)) :: st) Φ) : T E k cu su (WS bb nn E ad M tl) pc l (.ref (ad a) :: st) Φ := tj_getf cl11 hn hd 43 (by decide) hlk (ws_at hk (by decide) (ce11 (kds hk (by decide)))) rfl kk
theorem gs11_rests (hk : kdS bb nn a = 11) (hn : pc + 3 = n) (hd : decode k.2.1 pc = .ok (.getfield idx, 3)) (hlk : Cond.fieldLink k.1.cls idx "HouseTwinsModel" "rests" "[I" ∈ TB) (kk : T E k cu su (WS bb nn E ad M tl) n l (.ref (ad (104)) :: st) Φ) : T E k cu su (WS bb nn E ad M tl) pc l (.ref (ad a) :: st) Φ := tj_getf cl11 hn hd 44 (by decide) hlk (ws_at hk (by decide) (ce11 (kds hk (by decide)))) rfl kk
theorem gs11_lanes (hk : kdS bb nn a = 11) (hn : pc + 3 = n) (hd : decode k.2.1 pc = .ok (.getfield idx, 3)) (hlk : Cond.fieldLink k.1.cls idx "HouseTwinsModel" "lanes" "[I" ∈ TB) (kk : T E k cu su (WS bb nn E ad M tl) n l (.ref (ad (105)) :: st) Φ) : T E k cu su (WS bb nn E ad M tl) pc l (.ref (ad a) :: st) Φ := tj_getf cl11 hn hd 45 (by decide) hlk (ws_at hk (by decide) (ce11 (kds hk (by decide)))) rfl kk
theorem gs11_sizes (hk : kdS bb nn a = 11) (hn : pc + 3 = n) (hd : decode k.2.1 pc = .ok (.getfield idx, 3)) (hlk : Cond.fieldLink k.1.cls idx "HouseTwinsModel" "sizes" "[I" ∈ TB) (kk : T E k cu su (WS bb nn E ad M tl) n l (.ref (ad (106)) :: st) Φ) : T E k cu su (WS bb nn E ad M tl) pc l (.ref (ad a) :: st) Φ := tj_getf cl11 hn hd 46 (by decide) hlk (ws_at hk (by decide) (ce11 (kds hk (by decide)))) rfl kk
theorem gs11_cells (hk : kdS bb nn a = 11) (hn : pc + 3 = n) (hd : decode k.2.1 pc = .ok (.getfield idx, 3)) (hlk : Cond.fieldLink k.1.cls idx "HouseTwinsModel" "cells" "[I" ∈ TB) (kk : T E k cu su (WS bb nn E ad M tl) n l (.ref (ad (107)) :: st) Φ) : T E k cu su (WS bb nn E ad M tl) pc l (.ref (ad a) :: st) Φ := tj_getf cl11 hn hd 47 (by decide) hlk (ws_at hk (by decide) (ce11 (kds hk (by decide)))) rfl kk
theorem gs11_torn (hk : kdS bb nn a = 11) (hn : pc + 3 = n) (hd : decode k.2.1 pc = .ok (.getfield idx, 3)) (hlk : Cond.fieldLink k.1.cls idx "HouseTwinsModel" "torn" "I" ∈ TB) (kk : T E k cu su (WS bb nn E ad M tl) n l (.int (M a 48) :: st) Φ) : T E k cu su (WS bb nn E ad M tl) pc l (.ref (ad a) :: st) Φ := tj_getf cl11 hn hd 48 (by decide) hlk (ws_at hk (by decide) (ce11 (kds hk (by decide)))) rfl kk
theorem ps11_torn {v : Int32} (hk : kdS bb nn a = 11) (hn : pc + 3 = n) (hd : decode k.2.1 pc = .ok (.putfield idx, 3)) (hlk : Cond.fieldLink k.1.cls idx "HouseTwinsModel" "torn" "I" ∈ TB) (kk : T E k cu su (WS bb nn E ad (mset M a 48 v) tl) n l st Φ) : T E k cu su (WS bb nn E ad M tl) pc l (.int v :: .ref (ad a) :: st) Φ := tj_putf cl11 hn hd 48 (by decide) hlk rfl rfl rfl (ws_at hk (by decide) (ce11 (kds hk (by decide)))) (Nat.le_of_ble_eq_true rfl) (ws_setI (f := upd (M a) 48 v) hk (by decide) (ce11 (kds hk (by decide)))) kk
theorem as_iald {i : Int32} (hk : kdS bb nn a = 12) (hn : pc + 1 = n) (hd : decode k.2.1 pc = .ok (.iaload, 1)) (hin : vp_in i (al a)) (kk : T E k cu su (WS bb nn E ad M tl) n l (.int (M a i.toNatClampNeg) :: st) Φ) : T E k cu su (WS bb nn E ad M tl) pc l (.int i :: .ref (ad a) :: st) Φ := tj_iald hn hd (ws_at hk (by decide) (ce12 (kds hk (by decide)))) hin kk
theorem as_zald {i : Int32} (hk : kdS bb nn a = 13) (hn : pc + 1 = n) (hd : decode k.2.1 pc = .ok (.baload, 1)) (hin : vp_in i (al a)) (kk : T E k cu su (WS bb nn E ad M tl) n l (.int (M a i.toNatClampNeg) :: st) Φ) : T E k cu su (WS bb nn E ad M tl) pc l (.int i :: .ref (ad a) :: st) Φ := tj_zald hn hd (ws_at hk (by decide) (ce13 (kds hk (by decide)))) hin kk
theorem as_iast {i v : Int32} (hk : kdS bb nn a = 12) (hn : pc + 1 = n) (hd : decode k.2.1 pc = .ok (.iastore, 1)) (hin : vp_in i (al a)) (kk : T E k cu su (WS bb nn E ad (mset M a i.toNatClampNeg v) tl) n l st Φ) : T E k cu su (WS bb nn E ad M tl) pc l (.int v :: .int i :: .ref (ad a) :: st) Φ := tj_iast hn hd (ws_at hk (by decide) (ce12 (kds hk (by decide)))) hin (ws_setI hk (by decide) (ce12 (kds hk (by decide)))) kk
theorem as_zast {i v : Int32} (hk : kdS bb nn a = 13) (hn : pc + 1 = n) (hd : decode k.2.1 pc = .ok (.bastore, 1)) (hin : vp_in i (al a)) (kk : T E k cu su (WS bb nn E ad (mset M a i.toNatClampNeg (vp_nar .boolean v)) tl) n l st Φ) : T E k cu su (WS bb nn E ad M tl) pc l (.int v :: .int i :: .ref (ad a) :: st) Φ := tj_zast hn hd (ws_at hk (by decide) (ce13 (kds hk (by decide)))) hin (ws_setI hk (by decide) (ce13 (kds hk (by decide)))) kk
theorem as_alen (hk : kdS bb nn a = 12) (hn : pc + 1 = n) (hd : decode k.2.1 pc = .ok (.arraylength, 1)) (kk : T E k cu su (WS bb nn E ad M tl) n l (.int (nI (al a)) :: st) Φ) : T E k cu su (WS bb nn E ad M tl) pc l (.ref (ad a) :: st) Φ := tj_alen (tg := 0) hn hd (ws_at hk (by decide) (ce12 (kds hk (by decide)))) rfl kk
theorem as_two {i : Int32} (hk : kdS bb nn a = 16) (hn : pc + 1 = n) (hd : decode k.2.1 pc = .ok (.aaload, 1)) (hin : vp_in i 2) (kk : T E k cu su (WS bb nn E ad M tl) n l (.ref (ad (a + 1 + i.toNatClampNeg)) :: st) Φ) : T E k cu su (WS bb nn E ad M tl) pc l (.int i :: .ref (ad a) :: st) Φ := tj_aald (tg := 4) hn hd (ws_at hk (by decide) (ce16 (kds hk (by decide)))) rfl rfl hin kk
end WSS
def uX1_setFirst_56 (post : MM → Int64 → Prop) (bk42 : MM → Int64 → Nat → Int32 → Prop) : Nat → MM → Int64 → Nat → Int32 → Int32 → Prop
  | 0, _, _, _, _, _ => False
  | n + 1, M, tl, v0, v1, v2 =>
    (if 6 ≤ v2 then bk42 M tl v0 (v1 + 1) else (kdS 3 11 (v0) = 1 ∧ (kdS 3 11 (v0 + 2) = 16 ∧ (vp_in v1 2 ∧ (kdS 3 11 ((v0 + 2) + 1 + (v1 : Int32).toNatClampNeg) = 12 ∧ (vp_in v2 (al ((v0 + 2) + 1 + (v1 : Int32).toNatClampNeg)) ∧ (∀ M6 : MM, M6 = mset M ((v0 + 2) + 1 + (v1 : Int32).toNatClampNeg) (v2 : Int32).toNatClampNeg 5 → (kdS 3 11 (v0) = 1 ∧ (kdS 3 11 (v0 + 5) = 16 ∧ (vp_in v1 2 ∧ (kdS 3 11 ((v0 + 5) + 1 + (v1 : Int32).toNatClampNeg) = 12 ∧ (vp_in v2 (al ((v0 + 5) + 1 + (v1 : Int32).toNatClampNeg)) ∧ (∀ M12 : MM, M12 = mset M6 ((v0 + 5) + 1 + (v1 : Int32).toNatClampNeg) (v2 : Int32).toNatClampNeg 3 → (uX1_setFirst_56 post bk42 n) M12 tl v0 v1 (v2 + 1))))))))))))))
set_option maxHeartbeats 4000000 in
set_option maxRecDepth 20000 in
theorem bsX1_setFirst_56 {E : EV} {ad : Nat → Nat} {Φ : Option Value → va_W → Prop} {post : MM → Int64 → Prop} {bk42 : MM → Int64 → Nat → Int32 → Prop}  (hp : ∀ M tl, post M tl → Φ none (WS 3 11 E ad M tl)) (hb42 : ∀ (M : MM) (tl : Int64) (v0 : Nat) (v1 : Int32), bk42 M tl v0 v1 → T E kX1_setFirst 0 0 (WS 3 11 E ad M tl) 42 [(0, .ref (ad (v0))), (1, .int v1)] [] Φ) : ∀ (n : Nat) (M : MM) (tl : Int64) (v0 : Nat) (v1 : Int32) (v2 : Int32), uX1_setFirst_56 post bk42 n M tl v0 v1 v2 → T E kX1_setFirst 0 0 (WS 3 11 E ad M tl) 56 [(0, .ref (ad (v0))), (1, .int v1), (2, .int v2)] [] Φ := by
  intro n
  induction n with
  | zero => intro M tl v0 v1 v2 h; exact False.elim h
  | succ n ih =>
    intro M tl v0 v1 v2 h
    unfold uX1_setFirst_56 at h
    refine tj_iload_n rfl dX1_setFirst_56 rfl ?_
    refine tj_bipush (v := 6) rfl dX1_setFirst_57 (by decide) ?_
    refine tj_icmp_ge (tgt := 86) rfl rfl dX1_setFirst_59 (fun hc => ?_) (fun hc => ?_)
    · rw [if_pos hc] at h
      refine tj_iinc (v := _ + 1) (l' := [(0, _), (1, _), (2, _)]) rfl dX1_setFirst_86 rfl (by decide) rfl rfl ?_
      refine tj_goto (tgt := 42) rfl dX1_setFirst_89 ?_
      exact tj_pick (l' := [(0, _), (1, _)]) [0, 1] rfl (hb42 _ _ _ _ h)
    · rw [if_neg hc] at h
      refine tj_aload_n rfl dX1_setFirst_62 rfl ?_
      obtain ⟨hk1, h⟩ := h
      refine gs1_cost (a := v0) hk1 rfl dX1_setFirst_63 fl_X1_17 ?_
      refine tj_iload_n rfl dX1_setFirst_66 rfl ?_
      obtain ⟨hk3, h⟩ := h
      obtain ⟨hi2, h⟩ := h
      refine as_two (a := v0 + 2) hk3 rfl dX1_setFirst_67 hi2 ?_
      refine tj_iload_n rfl dX1_setFirst_68 rfl ?_
      refine tj_iconst (v := 5) rfl dX1_setFirst_69 (by decide) ?_
      obtain ⟨hk4, h⟩ := h
      obtain ⟨hi5, h⟩ := h
      refine as_iast (a := (v0 + 2) + 1 + (v1 : Int32).toNatClampNeg) hk4 rfl dX1_setFirst_70 hi5 ?_
      replace h := h _ rfl
      generalize mset M ((v0 + 2) + 1 + (v1 : Int32).toNatClampNeg) (v2 : Int32).toNatClampNeg 5 = M6 at h ⊢
      refine tj_aload_n rfl dX1_setFirst_71 rfl ?_
      obtain ⟨hk7, h⟩ := h
      refine gs1_taste (a := v0) hk7 rfl dX1_setFirst_72 fl_X1_20 ?_
      refine tj_iload_n rfl dX1_setFirst_75 rfl ?_
      obtain ⟨hk9, h⟩ := h
      obtain ⟨hi8, h⟩ := h
      refine as_two (a := v0 + 5) hk9 rfl dX1_setFirst_76 hi8 ?_
      refine tj_iload_n rfl dX1_setFirst_77 rfl ?_
      refine tj_iconst (v := 3) rfl dX1_setFirst_78 (by decide) ?_
      obtain ⟨hk10, h⟩ := h
      obtain ⟨hi11, h⟩ := h
      refine as_iast (a := (v0 + 5) + 1 + (v1 : Int32).toNatClampNeg) hk10 rfl dX1_setFirst_79 hi11 ?_
      replace h := h _ rfl
      generalize mset M6 ((v0 + 5) + 1 + (v1 : Int32).toNatClampNeg) (v2 : Int32).toNatClampNeg 3 = M12 at h ⊢
      refine tj_iinc (v := _ + 1) (l' := [(0, _), (1, _), (2, _)]) rfl dX1_setFirst_80 rfl (by decide) rfl rfl ?_
      refine tj_goto (tgt := 56) rfl dX1_setFirst_83 ?_
      exact ih _ _ _ _ _ h
def uX1_setFirst_115 (post : MM → Int64 → Prop) : Nat → MM → Int64 → Nat → Int32 → Prop
  | 0, _, _, _, _ => False
  | n + 1, M, tl, v0, v1 =>
    (if 4 ≤ v1 then post M tl else (kdS 3 11 (v0) = 1 ∧ (kdS 3 11 (v0 + 10) = 12 ∧ (vp_in v1 (al (v0 + 10)) ∧ (∀ M4 : MM, M4 = mset M (v0 + 10) (v1 : Int32).toNatClampNeg v1 → (uX1_setFirst_115 post n) M4 tl v0 (v1 + 1))))))
set_option maxHeartbeats 4000000 in
set_option maxRecDepth 20000 in
theorem bsX1_setFirst_115 {E : EV} {ad : Nat → Nat} {Φ : Option Value → va_W → Prop} {post : MM → Int64 → Prop}  (hp : ∀ M tl, post M tl → Φ none (WS 3 11 E ad M tl)) : ∀ (n : Nat) (M : MM) (tl : Int64) (v0 : Nat) (v1 : Int32), uX1_setFirst_115 post n M tl v0 v1 → T E kX1_setFirst 0 0 (WS 3 11 E ad M tl) 115 [(0, .ref (ad (v0))), (1, .int v1)] [] Φ := by
  intro n
  induction n with
  | zero => intro M tl v0 v1 h; exact False.elim h
  | succ n ih =>
    intro M tl v0 v1 h
    unfold uX1_setFirst_115 at h
    refine tj_iload_n rfl dX1_setFirst_115 rfl ?_
    refine tj_iconst (v := 4) rfl dX1_setFirst_116 (by decide) ?_
    refine tj_icmp_ge (tgt := 133) rfl rfl dX1_setFirst_117 (fun hc => ?_) (fun hc => ?_)
    · rw [if_pos hc] at h
      exact tj_return dX1_setFirst_133 rfl (Nat.zero_le _) (Nat.zero_le _) (hp _ _ h)
    · rw [if_neg hc] at h
      refine tj_aload_n rfl dX1_setFirst_120 rfl ?_
      obtain ⟨hk1, h⟩ := h
      refine gs1_paint (a := v0) hk1 rfl dX1_setFirst_121 fl_X1_29 ?_
      refine tj_iload_n rfl dX1_setFirst_124 rfl ?_
      refine tj_iload_n rfl dX1_setFirst_125 rfl ?_
      obtain ⟨hk2, h⟩ := h
      obtain ⟨hi3, h⟩ := h
      refine as_iast (a := v0 + 10) hk2 rfl dX1_setFirst_126 hi3 ?_
      replace h := h _ rfl
      generalize mset M (v0 + 10) (v1 : Int32).toNatClampNeg v1 = M4 at h ⊢
      refine tj_iinc (v := _ + 1) (l' := [(0, _), (1, _)]) rfl dX1_setFirst_127 rfl (by decide) rfl rfl ?_
      refine tj_goto (tgt := 115) rfl dX1_setFirst_130 ?_
      exact ih _ _ _ _ h
def uX1_setFirst_94 (post : MM → Int64 → Prop) : Nat → MM → Int64 → Nat → Int32 → Prop
  | 0, _, _, _, _ => False
  | n + 1, M, tl, v0, v1 =>
    (if 6 ≤ v1 then (∃ n9, uX1_setFirst_115 post  n9 M tl v0 0) else (kdS 3 11 (v0) = 1 ∧ (kdS 3 11 (v0 + 9) = 12 ∧ (vp_in v1 (al (v0 + 9)) ∧ (∀ M4 : MM, M4 = mset M (v0 + 9) (v1 : Int32).toNatClampNeg v1 → (uX1_setFirst_94 post n) M4 tl v0 (v1 + 1))))))
set_option maxHeartbeats 4000000 in
set_option maxRecDepth 20000 in
theorem bsX1_setFirst_94 {E : EV} {ad : Nat → Nat} {Φ : Option Value → va_W → Prop} {post : MM → Int64 → Prop}  (hp : ∀ M tl, post M tl → Φ none (WS 3 11 E ad M tl)) : ∀ (n : Nat) (M : MM) (tl : Int64) (v0 : Nat) (v1 : Int32), uX1_setFirst_94 post n M tl v0 v1 → T E kX1_setFirst 0 0 (WS 3 11 E ad M tl) 94 [(0, .ref (ad (v0))), (1, .int v1)] [] Φ := by
  intro n
  induction n with
  | zero => intro M tl v0 v1 h; exact False.elim h
  | succ n ih =>
    intro M tl v0 v1 h
    unfold uX1_setFirst_94 at h
    refine tj_iload_n rfl dX1_setFirst_94 rfl ?_
    refine tj_bipush (v := 6) rfl dX1_setFirst_95 (by decide) ?_
    refine tj_icmp_ge (tgt := 113) rfl rfl dX1_setFirst_97 (fun hc => ?_) (fun hc => ?_)
    · rw [if_pos hc] at h
      refine tj_iconst (v := 0) rfl dX1_setFirst_113 (by decide) ?_
      refine tj_istore_n (l' := [(0, _), (1, _)]) rfl dX1_setFirst_114 (by decide) rfl ?_
      obtain ⟨n9, h⟩ := h
      exact bsX1_setFirst_115 hp  n9 _ _ _ _ h
    · rw [if_neg hc] at h
      refine tj_aload_n rfl dX1_setFirst_100 rfl ?_
      obtain ⟨hk1, h⟩ := h
      refine gs1_twin (a := v0) hk1 rfl dX1_setFirst_101 fl_X1_26 ?_
      refine tj_iload_n rfl dX1_setFirst_104 rfl ?_
      refine tj_iload_n rfl dX1_setFirst_105 rfl ?_
      obtain ⟨hk2, h⟩ := h
      obtain ⟨hi3, h⟩ := h
      refine as_iast (a := v0 + 9) hk2 rfl dX1_setFirst_106 hi3 ?_
      replace h := h _ rfl
      generalize mset M (v0 + 9) (v1 : Int32).toNatClampNeg v1 = M4 at h ⊢
      refine tj_iinc (v := _ + 1) (l' := [(0, _), (1, _)]) rfl dX1_setFirst_107 rfl (by decide) rfl rfl ?_
      refine tj_goto (tgt := 94) rfl dX1_setFirst_110 ?_
      exact ih _ _ _ _ h
def uX1_setFirst_42 (post : MM → Int64 → Prop) : Nat → MM → Int64 → Nat → Int32 → Prop
  | 0, _, _, _, _ => False
  | n + 1, M, tl, v0, v1 =>
    (if 2 ≤ v1 then (∃ n9, uX1_setFirst_94 post  n9 M tl v0 0) else (kdS 3 11 (v0) = 1 ∧ (kdS 3 11 (v0 + 8) = 12 ∧ (vp_in v1 (al (v0 + 8)) ∧ (∀ M4 : MM, M4 = mset M (v0 + 8) (v1 : Int32).toNatClampNeg 0 → (∃ n9, uX1_setFirst_56 post (uX1_setFirst_42 post n) n9 M4 tl v0 v1 1))))))
set_option maxHeartbeats 4000000 in
set_option maxRecDepth 20000 in
theorem bsX1_setFirst_42 {E : EV} {ad : Nat → Nat} {Φ : Option Value → va_W → Prop} {post : MM → Int64 → Prop}  (hp : ∀ M tl, post M tl → Φ none (WS 3 11 E ad M tl)) : ∀ (n : Nat) (M : MM) (tl : Int64) (v0 : Nat) (v1 : Int32), uX1_setFirst_42 post n M tl v0 v1 → T E kX1_setFirst 0 0 (WS 3 11 E ad M tl) 42 [(0, .ref (ad (v0))), (1, .int v1)] [] Φ := by
  intro n
  induction n with
  | zero => intro M tl v0 v1 h; exact False.elim h
  | succ n ih =>
    intro M tl v0 v1 h
    unfold uX1_setFirst_42 at h
    refine tj_iload_n rfl dX1_setFirst_42 rfl ?_
    refine tj_iconst (v := 2) rfl dX1_setFirst_43 (by decide) ?_
    refine tj_icmp_ge (tgt := 92) rfl rfl dX1_setFirst_44 (fun hc => ?_) (fun hc => ?_)
    · rw [if_pos hc] at h
      refine tj_iconst (v := 0) rfl dX1_setFirst_92 (by decide) ?_
      refine tj_istore_n (l' := [(0, _), (1, _)]) rfl dX1_setFirst_93 (by decide) rfl ?_
      obtain ⟨n9, h⟩ := h
      exact bsX1_setFirst_94 hp  n9 _ _ _ _ h
    · rw [if_neg hc] at h
      refine tj_aload_n rfl dX1_setFirst_47 rfl ?_
      obtain ⟨hk1, h⟩ := h
      refine gs1_lackedKinds (a := v0) hk1 rfl dX1_setFirst_48 fl_X1_23 ?_
      refine tj_iload_n rfl dX1_setFirst_51 rfl ?_
      refine tj_iconst (v := 0) rfl dX1_setFirst_52 (by decide) ?_
      obtain ⟨hk2, h⟩ := h
      obtain ⟨hi3, h⟩ := h
      refine as_iast (a := v0 + 8) hk2 rfl dX1_setFirst_53 hi3 ?_
      replace h := h _ rfl
      generalize mset M (v0 + 8) (v1 : Int32).toNatClampNeg 0 = M4 at h ⊢
      refine tj_iconst (v := 1) rfl dX1_setFirst_54 (by decide) ?_
      refine tj_istore_n (l' := [(0, _), (1, _), (2, _)]) rfl dX1_setFirst_55 (by decide) rfl ?_
      obtain ⟨n9, h⟩ := h
      exact bsX1_setFirst_56 hp ih n9 _ _ _ _ _ h
def uX1_setFirst_22 (post : MM → Int64 → Prop) : Nat → MM → Int64 → Nat → Int32 → Prop
  | 0, _, _, _, _ => False
  | n + 1, M, tl, v0, v1 =>
    (if 4 ≤ v1 then (∃ n9, uX1_setFirst_42 post  n9 M tl v0 0) else (kdS 3 11 (v0) = 1 ∧ (kdS 3 11 (v0 + 1) = 12 ∧ (vp_in v1 (al (v0 + 1)) ∧ (∀ M4 : MM, M4 = mset M (v0 + 1) (v1 : Int32).toNatClampNeg 1 → (uX1_setFirst_22 post n) M4 tl v0 (v1 + 1))))))
set_option maxHeartbeats 4000000 in
set_option maxRecDepth 20000 in
theorem bsX1_setFirst_22 {E : EV} {ad : Nat → Nat} {Φ : Option Value → va_W → Prop} {post : MM → Int64 → Prop}  (hp : ∀ M tl, post M tl → Φ none (WS 3 11 E ad M tl)) : ∀ (n : Nat) (M : MM) (tl : Int64) (v0 : Nat) (v1 : Int32), uX1_setFirst_22 post n M tl v0 v1 → T E kX1_setFirst 0 0 (WS 3 11 E ad M tl) 22 [(0, .ref (ad (v0))), (1, .int v1)] [] Φ := by
  intro n
  induction n with
  | zero => intro M tl v0 v1 h; exact False.elim h
  | succ n ih =>
    intro M tl v0 v1 h
    unfold uX1_setFirst_22 at h
    refine tj_iload_n rfl dX1_setFirst_22 rfl ?_
    refine tj_iconst (v := 4) rfl dX1_setFirst_23 (by decide) ?_
    refine tj_icmp_ge (tgt := 40) rfl rfl dX1_setFirst_24 (fun hc => ?_) (fun hc => ?_)
    · rw [if_pos hc] at h
      refine tj_iconst (v := 0) rfl dX1_setFirst_40 (by decide) ?_
      refine tj_istore_n (l' := [(0, _), (1, _)]) rfl dX1_setFirst_41 (by decide) rfl ?_
      obtain ⟨n9, h⟩ := h
      exact bsX1_setFirst_42 hp  n9 _ _ _ _ h
    · rw [if_neg hc] at h
      refine tj_aload_n rfl dX1_setFirst_27 rfl ?_
      obtain ⟨hk1, h⟩ := h
      refine gs1_price (a := v0) hk1 rfl dX1_setFirst_28 fl_X1_9 ?_
      refine tj_iload_n rfl dX1_setFirst_31 rfl ?_
      refine tj_iconst (v := 1) rfl dX1_setFirst_32 (by decide) ?_
      obtain ⟨hk2, h⟩ := h
      obtain ⟨hi3, h⟩ := h
      refine as_iast (a := v0 + 1) hk2 rfl dX1_setFirst_33 hi3 ?_
      replace h := h _ rfl
      generalize mset M (v0 + 1) (v1 : Int32).toNatClampNeg 1 = M4 at h ⊢
      refine tj_iinc (v := _ + 1) (l' := [(0, _), (1, _)]) rfl dX1_setFirst_34 rfl (by decide) rfl rfl ?_
      refine tj_goto (tgt := 22) rfl dX1_setFirst_37 ?_
      exact ih _ _ _ _ h
def upX1_setFirst (post : MM → Int64 → Prop) (M : MM) (tl : Int64) (v0 : Nat) : Prop :=
  (kdS 3 11 (v0) = 1 ∧ (∀ M2 : MM, M2 = mset M v0 0 5 → (kdS 3 11 (v0) = 1 ∧ (∀ M4 : MM, M4 = mset M2 v0 1 3 → (kdS 3 11 (v0) = 1 ∧ (∀ M6 : MM, M6 = mset M4 v0 2 1 → (kdS 3 11 (v0) = 1 ∧ (∀ M8 : MM, M8 = mset M6 v0 3 0 → (∃ n9, uX1_setFirst_22 post  n9 M8 tl v0 0)))))))))
set_option maxHeartbeats 4000000 in
set_option maxRecDepth 20000 in
theorem csX1_setFirst {E : EV} {ad : Nat → Nat} {M : MM} {tl : Int64} {Φ : Option Value → va_W → Prop} {post : MM → Int64 → Prop} {v0 : Nat} (h : upX1_setFirst post M tl v0) (hp : ∀ M tl, post M tl → Φ none (WS 3 11 E ad M tl)) : Tm E kX1_setFirst (WS 3 11 E ad M tl) [.ref (ad (v0))] Φ := by
  unfold upX1_setFirst at h
  show T E kX1_setFirst 0 0 (WS 3 11 E ad M tl) 0 [(0, .ref (ad (v0)))] [] Φ
  refine tj_aload_n rfl dX1_setFirst_0 rfl ?_
  refine tj_iconst (v := 5) rfl dX1_setFirst_1 (by decide) ?_
  obtain ⟨hk1, h⟩ := h
  refine ps1_lots (a := v0) hk1 rfl dX1_setFirst_2 fl_X1_35 ?_
  replace h := h _ rfl
  generalize mset M v0 0 5 = M2 at h ⊢
  refine tj_aload_n rfl dX1_setFirst_5 rfl ?_
  refine tj_iconst (v := 3) rfl dX1_setFirst_6 (by decide) ?_
  obtain ⟨hk3, h⟩ := h
  refine ps1_bend (a := v0) hk3 rfl dX1_setFirst_7 fl_X1_39 ?_
  replace h := h _ rfl
  generalize mset M2 v0 1 3 = M4 at h ⊢
  refine tj_aload_n rfl dX1_setFirst_10 rfl ?_
  refine tj_iconst (v := 1) rfl dX1_setFirst_11 (by decide) ?_
  obtain ⟨hk5, h⟩ := h
  refine ps1_pull (a := v0) hk5 rfl dX1_setFirst_12 fl_X1_42 ?_
  replace h := h _ rfl
  generalize mset M4 v0 2 1 = M6 at h ⊢
  refine tj_aload_n rfl dX1_setFirst_15 rfl ?_
  refine tj_iconst (v := 0) rfl dX1_setFirst_16 (by decide) ?_
  obtain ⟨hk7, h⟩ := h
  refine ps1_rightKinds (a := v0) hk7 rfl dX1_setFirst_17 fl_X1_45 ?_
  replace h := h _ rfl
  generalize mset M6 v0 3 0 = M8 at h ⊢
  refine tj_iconst (v := 0) rfl dX1_setFirst_20 (by decide) ?_
  refine tj_istore_n (l' := [(0, _), (1, _)]) rfl dX1_setFirst_21 (by decide) rfl ?_
  obtain ⟨n9, h⟩ := h
  exact bsX1_setFirst_22 hp  n9 _ _ _ _ h

set_option maxHeartbeats 4000000 in
set_option maxRecDepth 20000 in
theorem bsX11_firstDraft_95 {E : EV} {ad : Nat → Nat} {M : MM} {tl : Int64} {Φ : Option Value → va_W → Prop} {post : MM → Int64 → Prop} {bk65 : MM → Int64 → Int32 → Prop} {v1 : Int32} {s1 : Int32} {s2 : Int32} (hp : ∀ M tl, post M tl → Φ none (WS 81 27 E ad M tl)) (hb65 : ∀ (M : MM) (tl : Int64) (v1 : Int32), bk65 M tl v1 → T E kX11_firstDraft 0 0 (WS 81 27 E ad M tl) 65 [(0, .ref (ad (81))), (1, .int v1)] [] Φ) (h : wX11_firstDraft_95 post bk65 M tl v1 s1 s2) : T E kX11_firstDraft 0 0 (WS 81 27 E ad M tl) 95 [(0, .ref (ad (81))), (1, .int v1)] [.int s2, .int s1, .ref (ad (93))] Φ := by
  unfold wX11_firstDraft_95 at h
  obtain ⟨hi1, h⟩ := h
  refine as_iast (a := 93) rfl rfl dX11_firstDraft_95 hi1 ?_
  replace h := h _ rfl
  generalize mset M 93 (s1 : Int32).toNatClampNeg s2 = M2 at h ⊢
  refine tj_iinc (v := _ + 1) (l' := [(0, _), (1, _)]) rfl dX11_firstDraft_96 rfl (by decide) rfl rfl ?_
  refine tj_goto (tgt := 65) rfl dX11_firstDraft_99 ?_
  exact hb65 _ _ _ h
set_option maxHeartbeats 4000000 in
set_option maxRecDepth 20000 in
theorem bsX11_firstDraft_118 {E : EV} {ad : Nat → Nat} {Φ : Option Value → va_W → Prop} {post : MM → Int64 → Prop}  (hp : ∀ M tl, post M tl → Φ none (WS 81 27 E ad M tl)) : ∀ (n : Nat) (M : MM) (tl : Int64) (v1 : Int32), wX11_firstDraft_118 post n M tl v1 → T E kX11_firstDraft 0 0 (WS 81 27 E ad M tl) 118 [(0, .ref (ad (81))), (1, .int v1)] [] Φ := by
  intro n
  induction n with
  | zero => intro M tl v1 h; exact False.elim h
  | succ n ih =>
    intro M tl v1 h
    unfold wX11_firstDraft_118 at h
    refine tj_iload_n rfl dX11_firstDraft_118 rfl ?_
    refine tj_bipush (v := 6) rfl dX11_firstDraft_119 (by decide) ?_
    refine tj_icmp_ge (tgt := 137) rfl rfl dX11_firstDraft_121 (fun hc => ?_) (fun hc => ?_)
    · rw [if_pos hc] at h
      refine tj_aload_n rfl dX11_firstDraft_137 rfl ?_
      refine tj_iconst (v := 0) rfl dX11_firstDraft_138 (by decide) ?_
      refine ps11_dRights (a := 81) rfl rfl dX11_firstDraft_139 fl_X11_105 ?_
      replace h := h _ rfl
      generalize mset M 81 22 0 = M1 at h ⊢
      refine tj_aload_n rfl dX11_firstDraft_142 rfl ?_
      refine tj_iconst (v := 0) rfl dX11_firstDraft_143 (by decide) ?_
      refine ps11_toldLines (a := 81) rfl rfl dX11_firstDraft_144 fl_X11_108 ?_
      replace h := h _ rfl
      generalize mset M1 81 23 0 = M2 at h ⊢
      refine tj_aload_n rfl dX11_firstDraft_147 rfl ?_
      refine tj_iconst (v := 0) rfl dX11_firstDraft_148 (by decide) ?_
      refine ps11_toldThings (a := 81) rfl rfl dX11_firstDraft_149 fl_X11_111 ?_
      replace h := h _ rfl
      generalize mset M2 81 24 0 = M3 at h ⊢
      refine tj_aload_n rfl dX11_firstDraft_152 rfl ?_
      refine tj_iconst (v := 0) rfl dX11_firstDraft_153 (by decide) ?_
      refine ps11_toldCosts (a := 81) rfl rfl dX11_firstDraft_154 fl_X11_114 ?_
      replace h := h _ rfl
      generalize mset M3 81 25 0 = M4 at h ⊢
      refine tj_aload_n rfl dX11_firstDraft_157 rfl ?_
      refine tj_iconst (v := 0) rfl dX11_firstDraft_158 (by decide) ?_
      refine ps11_toldTastes (a := 81) rfl rfl dX11_firstDraft_159 fl_X11_117 ?_
      replace h := h _ rfl
      generalize mset M4 81 26 0 = M5 at h ⊢
      refine tj_aload_n rfl dX11_firstDraft_162 rfl ?_
      refine tj_iconst (v := 0) rfl dX11_firstDraft_163 (by decide) ?_
      refine ps11_toldKinds (a := 81) rfl rfl dX11_firstDraft_164 fl_X11_120 ?_
      replace h := h _ rfl
      generalize mset M5 81 27 0 = M6 at h ⊢
      refine tj_aload_n rfl dX11_firstDraft_167 rfl ?_
      refine tj_iconst (v := 0) rfl dX11_firstDraft_168 (by decide) ?_
      refine ps11_toldColours (a := 81) rfl rfl dX11_firstDraft_169 fl_X11_123 ?_
      replace h := h _ rfl
      generalize mset M6 81 28 0 = M7 at h ⊢
      refine tj_aload_n rfl dX11_firstDraft_172 rfl ?_
      refine tj_bipush (v := -4) rfl dX11_firstDraft_173 (by decide) ?_
      refine ps11_highestLot (a := 81) rfl rfl dX11_firstDraft_175 fl_X11_126 ?_
      replace h := h _ rfl
      generalize mset M7 81 29 (-4) = M8 at h ⊢
      exact tj_return dX11_firstDraft_178 rfl (Nat.zero_le _) (Nat.zero_le _) (hp _ _ h)
    · rw [if_neg hc] at h
      refine tj_aload_n rfl dX11_firstDraft_124 rfl ?_
      refine gs11_dTwin (a := 81) rfl rfl dX11_firstDraft_125 fl_X11_50 ?_
      refine tj_iload_n rfl dX11_firstDraft_128 rfl ?_
      refine tj_iload_n rfl dX11_firstDraft_129 rfl ?_
      obtain ⟨hi9, h⟩ := h
      refine as_iast (a := 95) rfl rfl dX11_firstDraft_130 hi9 ?_
      replace h := h _ rfl
      generalize mset M 95 (v1 : Int32).toNatClampNeg v1 = M10 at h ⊢
      refine tj_iinc (v := _ + 1) (l' := [(0, _), (1, _)]) rfl dX11_firstDraft_131 rfl (by decide) rfl rfl ?_
      refine tj_goto (tgt := 118) rfl dX11_firstDraft_134 ?_
      exact ih _ _ _ h
set_option maxHeartbeats 4000000 in
set_option maxRecDepth 20000 in
theorem bsX11_firstDraft_65 {E : EV} {ad : Nat → Nat} {Φ : Option Value → va_W → Prop} {post : MM → Int64 → Prop}  (hp : ∀ M tl, post M tl → Φ none (WS 81 27 E ad M tl)) : ∀ (n : Nat) (M : MM) (tl : Int64) (v1 : Int32), wX11_firstDraft_65 post n M tl v1 → T E kX11_firstDraft 0 0 (WS 81 27 E ad M tl) 65 [(0, .ref (ad (81))), (1, .int v1)] [] Φ := by
  intro n
  induction n with
  | zero => intro M tl v1 h; exact False.elim h
  | succ n ih =>
    intro M tl v1 h
    unfold wX11_firstDraft_65 at h
    refine tj_iload_n rfl dX11_firstDraft_65 rfl ?_
    refine tj_bipush (v := 12) rfl dX11_firstDraft_66 (by decide) ?_
    refine tj_icmp_ge (tgt := 102) rfl rfl dX11_firstDraft_68 (fun hc => ?_) (fun hc => ?_)
    · rw [if_pos hc] at h
      refine tj_aload_n rfl dX11_firstDraft_102 rfl ?_
      refine gs11_dLacks (a := 81) rfl rfl dX11_firstDraft_103 fl_X11_47 ?_
      refine tj_iconst (v := 0) rfl dX11_firstDraft_106 (by decide) ?_
      refine tj_iconst (v := 0) rfl dX11_firstDraft_107 (by decide) ?_
      obtain ⟨hi1, h⟩ := h
      refine as_iast (a := 94) rfl rfl dX11_firstDraft_108 hi1 ?_
      replace h := h _ rfl
      generalize mset M 94 (0 : Int32).toNatClampNeg 0 = M2 at h ⊢
      refine tj_aload_n rfl dX11_firstDraft_109 rfl ?_
      refine gs11_dLacks (a := 81) rfl rfl dX11_firstDraft_110 fl_X11_47 ?_
      refine tj_iconst (v := 1) rfl dX11_firstDraft_113 (by decide) ?_
      refine tj_iconst (v := 0) rfl dX11_firstDraft_114 (by decide) ?_
      obtain ⟨hi3, h⟩ := h
      refine as_iast (a := 94) rfl rfl dX11_firstDraft_115 hi3 ?_
      replace h := h _ rfl
      generalize mset M2 94 (1 : Int32).toNatClampNeg 0 = M4 at h ⊢
      refine tj_iconst (v := 0) rfl dX11_firstDraft_116 (by decide) ?_
      refine tj_istore_n (l' := [(0, _), (1, _)]) rfl dX11_firstDraft_117 (by decide) rfl ?_
      obtain ⟨n9, h⟩ := h
      exact bsX11_firstDraft_118 hp  n9 _ _ _ h
    · rw [if_neg hc] at h
      refine tj_aload_n rfl dX11_firstDraft_71 rfl ?_
      refine gs11_dCost (a := 81) rfl rfl dX11_firstDraft_72 fl_X11_41 ?_
      refine tj_iload_n rfl dX11_firstDraft_75 rfl ?_
      refine tj_iconst (v := 5) rfl dX11_firstDraft_76 (by decide) ?_
      obtain ⟨hi5, h⟩ := h
      refine as_iast (a := 92) rfl rfl dX11_firstDraft_77 hi5 ?_
      replace h := h _ rfl
      generalize mset M 92 (v1 : Int32).toNatClampNeg 5 = M6 at h ⊢
      refine tj_aload_n rfl dX11_firstDraft_78 rfl ?_
      refine gs11_dTaste (a := 81) rfl rfl dX11_firstDraft_79 fl_X11_44 ?_
      refine tj_iload_n rfl dX11_firstDraft_82 rfl ?_
      refine tj_iload_n rfl dX11_firstDraft_83 rfl ?_
      refine tj_bipush (v := 6) rfl dX11_firstDraft_84 (by decide) ?_
      refine tj_irem rfl dX11_firstDraft_86 (by decide) ?_
      refine tj_if_ne (tgt := 94) rfl rfl dX11_firstDraft_87 (fun hc => ?_) (fun hc => ?_)
      · rw [if_neg hc] at h
        refine tj_iconst (v := 3) rfl dX11_firstDraft_94 (by decide) ?_
        exact bsX11_firstDraft_95 hp ih h
      · rw [if_pos hc] at h
        refine tj_iconst (v := 0) rfl dX11_firstDraft_90 (by decide) ?_
        refine tj_goto (tgt := 95) rfl dX11_firstDraft_91 ?_
        exact bsX11_firstDraft_95 hp ih h
set_option maxHeartbeats 4000000 in
set_option maxRecDepth 20000 in
theorem bsX11_firstDraft_38 {E : EV} {ad : Nat → Nat} {Φ : Option Value → va_W → Prop} {post : MM → Int64 → Prop}  (hp : ∀ M tl, post M tl → Φ none (WS 81 27 E ad M tl)) : ∀ (n : Nat) (M : MM) (tl : Int64) (v1 : Int32), wX11_firstDraft_38 post n M tl v1 → T E kX11_firstDraft 0 0 (WS 81 27 E ad M tl) 38 [(0, .ref (ad (81))), (1, .int v1)] [] Φ := by
  intro n
  induction n with
  | zero => intro M tl v1 h; exact False.elim h
  | succ n ih =>
    intro M tl v1 h
    unfold wX11_firstDraft_38 at h
    refine tj_iload_n rfl dX11_firstDraft_38 rfl ?_
    refine tj_iconst (v := 4) rfl dX11_firstDraft_39 (by decide) ?_
    refine tj_icmp_ge (tgt := 63) rfl rfl dX11_firstDraft_40 (fun hc => ?_) (fun hc => ?_)
    · rw [if_pos hc] at h
      refine tj_iconst (v := 0) rfl dX11_firstDraft_63 (by decide) ?_
      refine tj_istore_n (l' := [(0, _), (1, _)]) rfl dX11_firstDraft_64 (by decide) rfl ?_
      obtain ⟨n9, h⟩ := h
      exact bsX11_firstDraft_65 hp  n9 _ _ _ h
    · rw [if_neg hc] at h
      refine tj_aload_n rfl dX11_firstDraft_43 rfl ?_
      refine gs11_dPrice (a := 81) rfl rfl dX11_firstDraft_44 fl_X11_38 ?_
      refine tj_iload_n rfl dX11_firstDraft_47 rfl ?_
      refine tj_iconst (v := 1) rfl dX11_firstDraft_48 (by decide) ?_
      obtain ⟨hi1, h⟩ := h
      refine as_iast (a := 91) rfl rfl dX11_firstDraft_49 hi1 ?_
      replace h := h _ rfl
      generalize mset M 91 (v1 : Int32).toNatClampNeg 1 = M2 at h ⊢
      refine tj_aload_n rfl dX11_firstDraft_50 rfl ?_
      refine gs11_dPaint (a := 81) rfl rfl dX11_firstDraft_51 fl_X11_53 ?_
      refine tj_iload_n rfl dX11_firstDraft_54 rfl ?_
      refine tj_iload_n rfl dX11_firstDraft_55 rfl ?_
      obtain ⟨hi3, h⟩ := h
      refine as_iast (a := 96) rfl rfl dX11_firstDraft_56 hi3 ?_
      replace h := h _ rfl
      generalize mset M2 96 (v1 : Int32).toNatClampNeg v1 = M4 at h ⊢
      refine tj_iinc (v := _ + 1) (l' := [(0, _), (1, _)]) rfl dX11_firstDraft_57 rfl (by decide) rfl rfl ?_
      refine tj_goto (tgt := 38) rfl dX11_firstDraft_60 ?_
      exact ih _ _ _ h
set_option maxHeartbeats 4000000 in
set_option maxRecDepth 20000 in
theorem bsX11_firstDraft_2 {E : EV} {ad : Nat → Nat} {Φ : Option Value → va_W → Prop} {post : MM → Int64 → Prop}  (hp : ∀ M tl, post M tl → Φ none (WS 81 27 E ad M tl)) : ∀ (n : Nat) (M : MM) (tl : Int64) (v1 : Int32), wX11_firstDraft_2 post n M tl v1 → T E kX11_firstDraft 0 0 (WS 81 27 E ad M tl) 2 [(0, .ref (ad (81))), (1, .int v1)] [] Φ := by
  intro n
  induction n with
  | zero => intro M tl v1 h; exact False.elim h
  | succ n ih =>
    intro M tl v1 h
    unfold wX11_firstDraft_2 at h
    refine tj_iload_n rfl dX11_firstDraft_2 rfl ?_
    refine tj_bipush (v := 127) rfl dX11_firstDraft_3 (by decide) ?_
    refine tj_icmp_ge (tgt := 21) rfl rfl dX11_firstDraft_5 (fun hc => ?_) (fun hc => ?_)
    · rw [if_pos hc] at h
      refine tj_aload_n rfl dX11_firstDraft_21 rfl ?_
      refine tj_iconst (v := 5) rfl dX11_firstDraft_22 (by decide) ?_
      refine ps11_dLots (a := 81) rfl rfl dX11_firstDraft_23 fl_X11_95 ?_
      replace h := h _ rfl
      generalize mset M 81 13 5 = M1 at h ⊢
      refine tj_aload_n rfl dX11_firstDraft_26 rfl ?_
      refine tj_iconst (v := 3) rfl dX11_firstDraft_27 (by decide) ?_
      refine ps11_dBend (a := 81) rfl rfl dX11_firstDraft_28 fl_X11_99 ?_
      replace h := h _ rfl
      generalize mset M1 81 14 3 = M2 at h ⊢
      refine tj_aload_n rfl dX11_firstDraft_31 rfl ?_
      refine tj_iconst (v := 1) rfl dX11_firstDraft_32 (by decide) ?_
      refine ps11_dPull (a := 81) rfl rfl dX11_firstDraft_33 fl_X11_102 ?_
      replace h := h _ rfl
      generalize mset M2 81 15 1 = M3 at h ⊢
      refine tj_iconst (v := 0) rfl dX11_firstDraft_36 (by decide) ?_
      refine tj_istore_n (l' := [(0, _), (1, _)]) rfl dX11_firstDraft_37 (by decide) rfl ?_
      obtain ⟨n9, h⟩ := h
      exact bsX11_firstDraft_38 hp  n9 _ _ _ h
    · rw [if_neg hc] at h
      refine tj_aload_n rfl dX11_firstDraft_8 rfl ?_
      refine gs11_draft (a := 81) rfl rfl dX11_firstDraft_9 fl_X11_35 ?_
      refine tj_iload_n rfl dX11_firstDraft_12 rfl ?_
      refine tj_iconst (v := 0) rfl dX11_firstDraft_13 (by decide) ?_
      obtain ⟨hi4, h⟩ := h
      refine as_iast (a := 90) rfl rfl dX11_firstDraft_14 hi4 ?_
      replace h := h _ rfl
      generalize mset M 90 (v1 : Int32).toNatClampNeg 0 = M5 at h ⊢
      refine tj_iinc (v := _ + 1) (l' := [(0, _), (1, _)]) rfl dX11_firstDraft_15 rfl (by decide) rfl rfl ?_
      refine tj_goto (tgt := 2) rfl dX11_firstDraft_18 ?_
      exact ih _ _ _ h
set_option maxHeartbeats 4000000 in
set_option maxRecDepth 20000 in
theorem csX11_firstDraft {E : EV} {ad : Nat → Nat} {M : MM} {tl : Int64} {Φ : Option Value → va_W → Prop} {post : MM → Int64 → Prop} (h : wpX11_firstDraft post M tl ) (hp : ∀ M tl, post M tl → Φ none (WS 81 27 E ad M tl)) : Tm E kX11_firstDraft (WS 81 27 E ad M tl) [.ref (ad (81))] Φ := by
  unfold wpX11_firstDraft at h
  show T E kX11_firstDraft 0 0 (WS 81 27 E ad M tl) 0 [(0, .ref (ad (81)))] [] Φ
  refine tj_iconst (v := 0) rfl dX11_firstDraft_0 (by decide) ?_
  refine tj_istore_n (l' := [(0, _), (1, _)]) rfl dX11_firstDraft_1 (by decide) rfl ?_
  obtain ⟨n9, h⟩ := h
  exact bsX11_firstDraft_2 hp  n9 _ _ _ h

set_option maxHeartbeats 4000000 in
set_option maxRecDepth 20000 in
theorem bsX11_keepDraft_120 {E : EV} {ad : Nat → Nat} {M : MM} {tl : Int64} {Φ : Option Value → va_W → Prop} {post : MM → Int64 → Prop} {bk89 : MM → Int64 → Int32 → Prop} {v1 : Int32} {s1 : Int32} {s2 : Int32} (hp : ∀ M tl, post M tl → Φ none (WS 81 27 E ad M tl)) (hb89 : ∀ (M : MM) (tl : Int64) (v1 : Int32), bk89 M tl v1 → T E kX11_keepDraft 0 0 (WS 81 27 E ad M tl) 89 [(0, .ref (ad (81))), (1, .int v1)] [] Φ) (h : wX11_keepDraft_120 post bk89 M tl v1 s1 s2) : T E kX11_keepDraft 0 0 (WS 81 27 E ad M tl) 120 [(0, .ref (ad (81))), (1, .int v1)] [.int s2, .int s1, .ref (ad (85))] Φ := by
  unfold wX11_keepDraft_120 at h
  obtain ⟨hi1, h⟩ := h
  refine as_iast (a := 85) rfl rfl dX11_keepDraft_120 hi1 ?_
  replace h := h _ rfl
  generalize mset M 85 (s1 : Int32).toNatClampNeg s2 = M2 at h ⊢
  refine tj_aload_n rfl dX11_keepDraft_121 rfl ?_
  refine gs11_taste (a := 81) rfl rfl dX11_keepDraft_122 fl_X11_23 ?_
  refine tj_iload_n rfl dX11_keepDraft_125 rfl ?_
  refine tj_aload_n rfl dX11_keepDraft_126 rfl ?_
  refine gs11_dTaste (a := 81) rfl rfl dX11_keepDraft_127 fl_X11_44 ?_
  refine tj_iload_n rfl dX11_keepDraft_130 rfl ?_
  obtain ⟨hi3, h⟩ := h
  refine as_iald (a := 93) rfl rfl dX11_keepDraft_131 hi3 ?_
  obtain ⟨hi4, h⟩ := h
  refine as_iast (a := 86) rfl rfl dX11_keepDraft_132 hi4 ?_
  replace h := h _ rfl
  generalize mset M2 86 (v1 : Int32).toNatClampNeg (M2 93 (v1 : Int32).toNatClampNeg) = M5 at h ⊢
  refine tj_iinc (v := _ + 1) (l' := [(0, _), (1, _)]) rfl dX11_keepDraft_133 rfl (by decide) rfl rfl ?_
  refine tj_goto (tgt := 89) rfl dX11_keepDraft_136 ?_
  exact hb89 _ _ _ h
set_option maxHeartbeats 4000000 in
set_option maxRecDepth 20000 in
theorem bsX11_keepDraft_173 {E : EV} {ad : Nat → Nat} {Φ : Option Value → va_W → Prop} {post : MM → Int64 → Prop}  (hp : ∀ M tl, post M tl → Φ none (WS 81 27 E ad M tl)) : ∀ (n : Nat) (M : MM) (tl : Int64) (v1 : Int32), wX11_keepDraft_173 post n M tl v1 → T E kX11_keepDraft 0 0 (WS 81 27 E ad M tl) 173 [(0, .ref (ad (81))), (1, .int v1)] [] Φ := by
  intro n
  induction n with
  | zero => intro M tl v1 h; exact False.elim h
  | succ n ih =>
    intro M tl v1 h
    unfold wX11_keepDraft_173 at h
    refine tj_iload_n rfl dX11_keepDraft_173 rfl ?_
    refine tj_bipush (v := 6) rfl dX11_keepDraft_174 (by decide) ?_
    refine tj_icmp_ge (tgt := 221) rfl rfl dX11_keepDraft_176 (fun hc => ?_) (fun hc => ?_)
    · rw [if_pos hc] at h
      refine tj_aload_n rfl dX11_keepDraft_221 rfl ?_
      refine gs11_isKept (a := 81) rfl rfl dX11_keepDraft_222 fl_X11_13 ?_
      refine tj_iconst (v := 0) rfl dX11_keepDraft_225 (by decide) ?_
      refine tj_iconst (v := 0) rfl dX11_keepDraft_226 (by decide) ?_
      obtain ⟨hi1, h⟩ := h
      refine as_zast (a := 83) rfl rfl dX11_keepDraft_227 hi1 ?_
      replace h := h _ rfl
      generalize mset M 83 (0 : Int32).toNatClampNeg (vp_nar .boolean 0) = M2 at h ⊢
      refine tj_aload_n rfl dX11_keepDraft_228 rfl ?_
      refine gs11_isKept (a := 81) rfl rfl dX11_keepDraft_229 fl_X11_13 ?_
      refine tj_iconst (v := 1) rfl dX11_keepDraft_232 (by decide) ?_
      refine tj_iconst (v := 0) rfl dX11_keepDraft_233 (by decide) ?_
      obtain ⟨hi3, h⟩ := h
      refine as_zast (a := 83) rfl rfl dX11_keepDraft_234 hi3 ?_
      replace h := h _ rfl
      generalize mset M2 83 (1 : Int32).toNatClampNeg (vp_nar .boolean 0) = M4 at h ⊢
      exact tj_return dX11_keepDraft_235 rfl (Nat.zero_le _) (Nat.zero_le _) (hp _ _ h)
    · rw [if_neg hc] at h
      refine tj_aload_n rfl dX11_keepDraft_179 rfl ?_
      refine gs11_twin (a := 81) rfl rfl dX11_keepDraft_180 fl_X11_29 ?_
      refine tj_iload_n rfl dX11_keepDraft_183 rfl ?_
      refine tj_aload_n rfl dX11_keepDraft_184 rfl ?_
      refine gs11_dTwin (a := 81) rfl rfl dX11_keepDraft_185 fl_X11_50 ?_
      refine tj_iload_n rfl dX11_keepDraft_188 rfl ?_
      obtain ⟨hi5, h⟩ := h
      refine as_iald (a := 95) rfl rfl dX11_keepDraft_189 hi5 ?_
      obtain ⟨hi6, h⟩ := h
      refine as_iast (a := 88) rfl rfl dX11_keepDraft_190 hi6 ?_
      replace h := h _ rfl
      generalize mset M 88 (v1 : Int32).toNatClampNeg (M 95 (v1 : Int32).toNatClampNeg) = M7 at h ⊢
      refine tj_aload_n rfl dX11_keepDraft_191 rfl ?_
      refine tj_dup rfl dX11_keepDraft_192 rfl ?_
      refine gs11_rights (a := 81) rfl rfl dX11_keepDraft_193 fl_X11_138 ?_
      refine tj_aload_n rfl dX11_keepDraft_196 rfl ?_
      refine gs11_dRights (a := 81) rfl rfl dX11_keepDraft_197 fl_X11_105 ?_
      refine tj_iload_n rfl dX11_keepDraft_200 rfl ?_
      refine tj_ishr rfl dX11_keepDraft_201 ?_
      refine tj_iconst (v := 1) rfl dX11_keepDraft_202 (by decide) ?_
      refine tj_iand rfl dX11_keepDraft_203 ?_
      refine tj_aload_n rfl dX11_keepDraft_204 rfl ?_
      refine gs11_dTwin (a := 81) rfl rfl dX11_keepDraft_205 fl_X11_50 ?_
      refine tj_iload_n rfl dX11_keepDraft_208 rfl ?_
      obtain ⟨hi8, h⟩ := h
      refine as_iald (a := 95) rfl rfl dX11_keepDraft_209 hi8 ?_
      refine tj_ishl rfl dX11_keepDraft_210 ?_
      refine tj_ior rfl dX11_keepDraft_211 ?_
      refine ps11_rights (a := 81) rfl rfl dX11_keepDraft_212 fl_X11_138 ?_
      replace h := h _ rfl
      generalize mset M7 81 11 ((M7 81 11) ||| ((((M7 81 22) >>> (v1 &&& 31)) &&& 1) <<< ((M7 95 (v1 : Int32).toNatClampNeg) &&& 31))) = M9 at h ⊢
      refine tj_iinc (v := _ + 1) (l' := [(0, _), (1, _)]) rfl dX11_keepDraft_215 rfl (by decide) rfl rfl ?_
      refine tj_goto (tgt := 173) rfl dX11_keepDraft_218 ?_
      exact ih _ _ _ h
set_option maxHeartbeats 4000000 in
set_option maxRecDepth 20000 in
theorem bsX11_keepDraft_89 {E : EV} {ad : Nat → Nat} {Φ : Option Value → va_W → Prop} {post : MM → Int64 → Prop}  (hp : ∀ M tl, post M tl → Φ none (WS 81 27 E ad M tl)) : ∀ (n : Nat) (M : MM) (tl : Int64) (v1 : Int32), wX11_keepDraft_89 post n M tl v1 → T E kX11_keepDraft 0 0 (WS 81 27 E ad M tl) 89 [(0, .ref (ad (81))), (1, .int v1)] [] Φ := by
  intro n
  induction n with
  | zero => intro M tl v1 h; exact False.elim h
  | succ n ih =>
    intro M tl v1 h
    unfold wX11_keepDraft_89 at h
    refine tj_iload_n rfl dX11_keepDraft_89 rfl ?_
    refine tj_bipush (v := 12) rfl dX11_keepDraft_90 (by decide) ?_
    refine tj_icmp_ge (tgt := 139) rfl rfl dX11_keepDraft_92 (fun hc => ?_) (fun hc => ?_)
    · rw [if_pos hc] at h
      refine tj_aload_n rfl dX11_keepDraft_139 rfl ?_
      refine gs11_lacks (a := 81) rfl rfl dX11_keepDraft_140 fl_X11_26 ?_
      refine tj_iconst (v := 0) rfl dX11_keepDraft_143 (by decide) ?_
      refine tj_aload_n rfl dX11_keepDraft_144 rfl ?_
      refine gs11_dLacks (a := 81) rfl rfl dX11_keepDraft_145 fl_X11_47 ?_
      refine tj_iconst (v := 0) rfl dX11_keepDraft_148 (by decide) ?_
      obtain ⟨hi1, h⟩ := h
      refine as_iald (a := 94) rfl rfl dX11_keepDraft_149 hi1 ?_
      obtain ⟨hi2, h⟩ := h
      refine as_iast (a := 87) rfl rfl dX11_keepDraft_150 hi2 ?_
      replace h := h _ rfl
      generalize mset M 87 (0 : Int32).toNatClampNeg (M 94 (0 : Int32).toNatClampNeg) = M3 at h ⊢
      refine tj_aload_n rfl dX11_keepDraft_151 rfl ?_
      refine gs11_lacks (a := 81) rfl rfl dX11_keepDraft_152 fl_X11_26 ?_
      refine tj_iconst (v := 1) rfl dX11_keepDraft_155 (by decide) ?_
      refine tj_aload_n rfl dX11_keepDraft_156 rfl ?_
      refine gs11_dLacks (a := 81) rfl rfl dX11_keepDraft_157 fl_X11_47 ?_
      refine tj_iconst (v := 1) rfl dX11_keepDraft_160 (by decide) ?_
      obtain ⟨hi4, h⟩ := h
      refine as_iald (a := 94) rfl rfl dX11_keepDraft_161 hi4 ?_
      obtain ⟨hi5, h⟩ := h
      refine as_iast (a := 87) rfl rfl dX11_keepDraft_162 hi5 ?_
      replace h := h _ rfl
      generalize mset M3 87 (1 : Int32).toNatClampNeg (M3 94 (1 : Int32).toNatClampNeg) = M6 at h ⊢
      refine tj_aload_n rfl dX11_keepDraft_163 rfl ?_
      refine tj_aload_n rfl dX11_keepDraft_164 rfl ?_
      refine gs11_dRights (a := 81) rfl rfl dX11_keepDraft_165 fl_X11_105 ?_
      refine ps11_rights (a := 81) rfl rfl dX11_keepDraft_168 fl_X11_138 ?_
      replace h := h _ rfl
      generalize mset M6 81 11 (M6 81 22) = M7 at h ⊢
      refine tj_iconst (v := 0) rfl dX11_keepDraft_171 (by decide) ?_
      refine tj_istore_n (l' := [(0, _), (1, _)]) rfl dX11_keepDraft_172 (by decide) rfl ?_
      obtain ⟨n9, h⟩ := h
      exact bsX11_keepDraft_173 hp  n9 _ _ _ h
    · rw [if_neg hc] at h
      refine tj_aload_n rfl dX11_keepDraft_95 rfl ?_
      refine gs11_cost (a := 81) rfl rfl dX11_keepDraft_96 fl_X11_20 ?_
      refine tj_iload_n rfl dX11_keepDraft_99 rfl ?_
      refine tj_iload_n rfl dX11_keepDraft_100 rfl ?_
      refine tj_bipush (v := 6) rfl dX11_keepDraft_101 (by decide) ?_
      refine tj_irem rfl dX11_keepDraft_103 (by decide) ?_
      refine tj_if_ne (tgt := 114) rfl rfl dX11_keepDraft_104 (fun hc => ?_) (fun hc => ?_)
      · rw [if_neg hc] at h
        refine tj_aload_n rfl dX11_keepDraft_114 rfl ?_
        refine gs11_dCost (a := 81) rfl rfl dX11_keepDraft_115 fl_X11_41 ?_
        refine tj_iload_n rfl dX11_keepDraft_118 rfl ?_
        obtain ⟨hi8, h⟩ := h
        refine as_iald (a := 92) rfl rfl dX11_keepDraft_119 hi8 ?_
        exact bsX11_keepDraft_120 hp ih h
      · rw [if_pos hc] at h
        refine tj_aload_n rfl dX11_keepDraft_107 rfl ?_
        refine gs11_dPull (a := 81) rfl rfl dX11_keepDraft_108 fl_X11_102 ?_
        refine tj_goto (tgt := 120) rfl dX11_keepDraft_111 ?_
        exact bsX11_keepDraft_120 hp ih h
set_option maxHeartbeats 4000000 in
set_option maxRecDepth 20000 in
theorem bsX11_keepDraft_52 {E : EV} {ad : Nat → Nat} {Φ : Option Value → va_W → Prop} {post : MM → Int64 → Prop}  (hp : ∀ M tl, post M tl → Φ none (WS 81 27 E ad M tl)) : ∀ (n : Nat) (M : MM) (tl : Int64) (v1 : Int32), wX11_keepDraft_52 post n M tl v1 → T E kX11_keepDraft 0 0 (WS 81 27 E ad M tl) 52 [(0, .ref (ad (81))), (1, .int v1)] [] Φ := by
  intro n
  induction n with
  | zero => intro M tl v1 h; exact False.elim h
  | succ n ih =>
    intro M tl v1 h
    unfold wX11_keepDraft_52 at h
    refine tj_iload_n rfl dX11_keepDraft_52 rfl ?_
    refine tj_iconst (v := 4) rfl dX11_keepDraft_53 (by decide) ?_
    refine tj_icmp_ge (tgt := 87) rfl rfl dX11_keepDraft_54 (fun hc => ?_) (fun hc => ?_)
    · rw [if_pos hc] at h
      refine tj_iconst (v := 0) rfl dX11_keepDraft_87 (by decide) ?_
      refine tj_istore_n (l' := [(0, _), (1, _)]) rfl dX11_keepDraft_88 (by decide) rfl ?_
      obtain ⟨n9, h⟩ := h
      exact bsX11_keepDraft_89 hp  n9 _ _ _ h
    · rw [if_neg hc] at h
      refine tj_aload_n rfl dX11_keepDraft_57 rfl ?_
      refine gs11_price (a := 81) rfl rfl dX11_keepDraft_58 fl_X11_17 ?_
      refine tj_iload_n rfl dX11_keepDraft_61 rfl ?_
      refine tj_aload_n rfl dX11_keepDraft_62 rfl ?_
      refine gs11_dPrice (a := 81) rfl rfl dX11_keepDraft_63 fl_X11_38 ?_
      refine tj_iload_n rfl dX11_keepDraft_66 rfl ?_
      obtain ⟨hi1, h⟩ := h
      refine as_iald (a := 91) rfl rfl dX11_keepDraft_67 hi1 ?_
      obtain ⟨hi2, h⟩ := h
      refine as_iast (a := 84) rfl rfl dX11_keepDraft_68 hi2 ?_
      replace h := h _ rfl
      generalize mset M 84 (v1 : Int32).toNatClampNeg (M 91 (v1 : Int32).toNatClampNeg) = M3 at h ⊢
      refine tj_aload_n rfl dX11_keepDraft_69 rfl ?_
      refine gs11_paint (a := 81) rfl rfl dX11_keepDraft_70 fl_X11_32 ?_
      refine tj_iload_n rfl dX11_keepDraft_73 rfl ?_
      refine tj_aload_n rfl dX11_keepDraft_74 rfl ?_
      refine gs11_dPaint (a := 81) rfl rfl dX11_keepDraft_75 fl_X11_53 ?_
      refine tj_iload_n rfl dX11_keepDraft_78 rfl ?_
      obtain ⟨hi4, h⟩ := h
      refine as_iald (a := 96) rfl rfl dX11_keepDraft_79 hi4 ?_
      obtain ⟨hi5, h⟩ := h
      refine as_iast (a := 89) rfl rfl dX11_keepDraft_80 hi5 ?_
      replace h := h _ rfl
      generalize mset M3 89 (v1 : Int32).toNatClampNeg (M3 96 (v1 : Int32).toNatClampNeg) = M6 at h ⊢
      refine tj_iinc (v := _ + 1) (l' := [(0, _), (1, _)]) rfl dX11_keepDraft_81 rfl (by decide) rfl rfl ?_
      refine tj_goto (tgt := 52) rfl dX11_keepDraft_84 ?_
      exact ih _ _ _ h
set_option maxHeartbeats 4000000 in
set_option maxRecDepth 20000 in
theorem bsX11_keepDraft_2 {E : EV} {ad : Nat → Nat} {Φ : Option Value → va_W → Prop} {post : MM → Int64 → Prop}  (hp : ∀ M tl, post M tl → Φ none (WS 81 27 E ad M tl)) : ∀ (n : Nat) (M : MM) (tl : Int64) (v1 : Int32), wX11_keepDraft_2 post n M tl v1 → T E kX11_keepDraft 0 0 (WS 81 27 E ad M tl) 2 [(0, .ref (ad (81))), (1, .int v1)] [] Φ := by
  intro n
  induction n with
  | zero => intro M tl v1 h; exact False.elim h
  | succ n ih =>
    intro M tl v1 h
    unfold wX11_keepDraft_2 at h
    refine tj_iload_n rfl dX11_keepDraft_2 rfl ?_
    refine tj_bipush (v := 127) rfl dX11_keepDraft_3 (by decide) ?_
    refine tj_icmp_ge (tgt := 26) rfl rfl dX11_keepDraft_5 (fun hc => ?_) (fun hc => ?_)
    · rw [if_pos hc] at h
      refine tj_aload_n rfl dX11_keepDraft_26 rfl ?_
      refine tj_aload_n rfl dX11_keepDraft_27 rfl ?_
      refine gs11_dLots (a := 81) rfl rfl dX11_keepDraft_28 fl_X11_95 ?_
      refine ps11_lots (a := 81) rfl rfl dX11_keepDraft_31 fl_X11_129 ?_
      replace h := h _ rfl
      generalize mset M 81 2 (M 81 13) = M1 at h ⊢
      refine tj_aload_n rfl dX11_keepDraft_34 rfl ?_
      refine tj_aload_n rfl dX11_keepDraft_35 rfl ?_
      refine gs11_dBend (a := 81) rfl rfl dX11_keepDraft_36 fl_X11_99 ?_
      refine ps11_bend (a := 81) rfl rfl dX11_keepDraft_39 fl_X11_132 ?_
      replace h := h _ rfl
      generalize mset M1 81 3 (M1 81 14) = M2 at h ⊢
      refine tj_aload_n rfl dX11_keepDraft_42 rfl ?_
      refine tj_aload_n rfl dX11_keepDraft_43 rfl ?_
      refine gs11_dPull (a := 81) rfl rfl dX11_keepDraft_44 fl_X11_102 ?_
      refine ps11_pull (a := 81) rfl rfl dX11_keepDraft_47 fl_X11_135 ?_
      replace h := h _ rfl
      generalize mset M2 81 4 (M2 81 15) = M3 at h ⊢
      refine tj_iconst (v := 0) rfl dX11_keepDraft_50 (by decide) ?_
      refine tj_istore_n (l' := [(0, _), (1, _)]) rfl dX11_keepDraft_51 (by decide) rfl ?_
      obtain ⟨n9, h⟩ := h
      exact bsX11_keepDraft_52 hp  n9 _ _ _ h
    · rw [if_neg hc] at h
      refine tj_aload_n rfl dX11_keepDraft_8 rfl ?_
      refine gs11_st (a := 81) rfl rfl dX11_keepDraft_9 fl_X11_7 ?_
      refine tj_iload_n rfl dX11_keepDraft_12 rfl ?_
      refine tj_aload_n rfl dX11_keepDraft_13 rfl ?_
      refine gs11_draft (a := 81) rfl rfl dX11_keepDraft_14 fl_X11_35 ?_
      refine tj_iload_n rfl dX11_keepDraft_17 rfl ?_
      obtain ⟨hi4, h⟩ := h
      refine as_iald (a := 90) rfl rfl dX11_keepDraft_18 hi4 ?_
      obtain ⟨hi5, h⟩ := h
      refine as_iast (a := 82) rfl rfl dX11_keepDraft_19 hi5 ?_
      replace h := h _ rfl
      generalize mset M 82 (v1 : Int32).toNatClampNeg (M 90 (v1 : Int32).toNatClampNeg) = M6 at h ⊢
      refine tj_iinc (v := _ + 1) (l' := [(0, _), (1, _)]) rfl dX11_keepDraft_20 rfl (by decide) rfl rfl ?_
      refine tj_goto (tgt := 2) rfl dX11_keepDraft_23 ?_
      exact ih _ _ _ h
set_option maxHeartbeats 4000000 in
set_option maxRecDepth 20000 in
theorem csX11_keepDraft {E : EV} {ad : Nat → Nat} {M : MM} {tl : Int64} {Φ : Option Value → va_W → Prop} {post : MM → Int64 → Prop} (h : wpX11_keepDraft post M tl ) (hp : ∀ M tl, post M tl → Φ none (WS 81 27 E ad M tl)) : Tm E kX11_keepDraft (WS 81 27 E ad M tl) [.ref (ad (81))] Φ := by
  unfold wpX11_keepDraft at h
  show T E kX11_keepDraft 0 0 (WS 81 27 E ad M tl) 0 [(0, .ref (ad (81)))] [] Φ
  refine tj_iconst (v := 0) rfl dX11_keepDraft_0 (by decide) ?_
  refine tj_istore_n (l' := [(0, _), (1, _)]) rfl dX11_keepDraft_1 (by decide) rfl ?_
  obtain ⟨n9, h⟩ := h
  exact bsX11_keepDraft_2 hp  n9 _ _ _ h

