/-! String constants: length() and charAt(int) of the four literals, by walking the JDK's own bytes -/
section TS
variable {E : EV} {k z : MD} {cu su : Nat} {ws : va_W} {pc idx n i np : Nat} {l : List (Nat × Value)} {st rest As : List Value} {Φ : Option Value → va_W → Prop}
theorem tj_sval (hi : i < 4) (hlk : Cond.fieldLink k.1.cls idx "java/lang/String" "value" "[B" ∈ TB) (hn : pc + 3 = n) (hd : decode k.2.1 pc = .ok (.getfield idx, 3)) (kk : T E k cu su ws n l (.ref (E.2.2.2.1 i) :: st) Φ) : T E k cu su ws pc l (.ref (E.2.2.1 i) :: st) Φ := by
  subst hn
  intro p L e s m args below meth c A Q H locs ls hC hE hA hP hD hS hl hF
  exact vk_getf hC.1 hC.2.1 (hE.2.1.1 i hi).2.2.1 hS hC.2.2.2.1 (hC.2.2.2.2.1 _ hlk) (fun _ h => h) hd (kk p L e s m args below meth c A Q H locs ls hC hE hA hP hD hS hl hF)
theorem tj_scod (hi : i < 4) (hlk : Cond.fieldLink k.1.cls idx "java/lang/String" "coder" "B" ∈ TB) (hn : pc + 3 = n) (hd : decode k.2.1 pc = .ok (.getfield idx, 3)) (kk : T E k cu su ws n l (.int 0 :: st) Φ) : T E k cu su ws pc l (.ref (E.2.2.1 i) :: st) Φ := by
  subst hn
  intro p L e s m args below meth c A Q H locs ls hC hE hA hP hD hS hl hF
  exact vk_getf hC.1 hC.2.1 (hE.2.1.1 i hi).2.1 hS hC.2.2.2.1 (hC.2.2.2.2.1 _ hlk) (fun _ h => h) hd (kk p L e s m args below meth c A Q H locs ls hC hE hA hP hD hS hl hF)
theorem tj_stln (hi : i < 4) (hn : pc + 1 = n) (hd : decode k.2.1 pc = .ok (.arraylength, 1)) (kk : T E k cu su ws n l (.int (nI (lenJS.getD i 0)) :: st) Φ) : T E k cu su ws pc l (.ref (E.2.2.2.1 i) :: st) Φ := by
  subst hn
  intro p L e s m args below meth c A Q H locs ls hC hE hA hP hD hS hl hF
  exact va_tlen hC.1 hC.2.1 (hE.2.1.1 i hi).2.2.2 hS rfl hd (kk p L e s m args below meth c A Q H locs ls hC hE hA hP hD hS hl hF)
theorem tj_stat {j : Int32} (hi : i < 4) (hn : pc + 1 = n) (hd : decode k.2.1 pc = .ok (.baload, 1)) (hin : vp_in j (lenJS.getD i 0)) (kk : T E k cu su ws n l (.int ((bytJS.getD i []).getD j.toNatClampNeg 0) :: st) Φ) : T E k cu su ws pc l (.int j :: .ref (E.2.2.2.1 i) :: st) Φ := by
  subst hn
  intro p L e s m args below meth c A Q H locs ls hC hE hA hP hD hS hl hF
  exact va_tb hC.1 hC.2.1 (hE.2.1.1 i hi).2.2.2 hS hin rfl hd (kk p L e s m args below meth c A Q H locs ls hC hE hA hP hD hS hl hF)
theorem tj_comp (hlk : Cond.fieldLink k.1.cls idx "java/lang/String" "COMPACT_STRINGS" "Z" ∈ TB) (hn : pc + 3 = n) (hd : decode k.2.1 pc = .ok (.getstatic idx, 3)) (kk : T E k cu su ws n l (.int 1 :: st) Φ) : T E k cu su ws pc l st Φ := by
  subst hn
  intro p L e s m args below meth c A Q H locs ls hC hE hA hP hD hS hl hF
  exact va_gets hC.1 hC.2.1 hE.2.2.2.1 hS hC.2.2.2.1 (hC.2.2.2.2.1 _ hlk) (fun _ h => h) hd (kk p L e s m args below meth c A Q H locs ls hC hE hA hP hD hS hl hF)
theorem tj_fmt (hlk : Cond.fieldLink k.1.cls idx "jdk/internal/util/Preconditions" "SIOOBE_FORMATTER" "Ljava/util/function/BiFunction;" ∈ TB) (hn : pc + 3 = n) (hd : decode k.2.1 pc = .ok (.getstatic idx, 3)) (kk : T E k cu su ws n l (.null :: st) Φ) (kr : ∀ t : Nat, T E k cu su ws n l (.ref t :: st) Φ) : T E k cu su ws pc l st Φ := by
  subst hn
  intro p L e s m args below meth c A Q H locs ls hC hE hA hP hD hS hl hF
  rcases hE.2.2.2.2.2.2 with h | ⟨t, h⟩
  · exact va_gets hC.1 hC.2.1 h hS hC.2.2.2.1 (hC.2.2.2.2.1 _ hlk) (fun _ h => h) hd (kk p L e s m args below meth c A Q H locs ls hC hE hA hP hD hS hl hF)
  · exact va_gets hC.1 hC.2.1 h hS hC.2.2.2.1 (hC.2.2.2.2.1 _ hlk) (fun _ h => h) hd (kr t p L e s m args below meth c A Q H locs ls hC hE hA hP hD hS hl hF)
theorem tj_callT (hi : i < 4) (hcn : z.1.cls = "java/lang/String") (hn : pc + 3 = n) (hd : decode k.2.1 pc = .ok (.invokevirtual idx, 3)) (hst : st = As.reverse ++ .ref (E.2.2.1 i) :: rest) (hlk : Cond.methodLink k.1.cls idx z.1 ∈ TB) (hok : MokV z np) (hnp : As.length = np) (hR : RoomOk k z cu su) (hlen : (lg_sl (.ref (E.2.2.1 i) :: As)).length ≤ z.2.2.1) (hcat : (rest.map fun v => v.category).sum ≤ 8) (h0 : z.2.2.2.2.2.2 = (0, 0))
    (hm : Tm E z ws (.ref (E.2.2.1 i) :: As) (fun r ws' => T E k cu su ws' n l (pushR r rest) Φ)) : T E k cu su ws pc l st Φ := by
  have hm : Tm E z ws (.ref (E.2.2.1 i) :: As) (fun r ws' => T E k (cu + z.2.2.2.2.2.2.1) (su + z.2.2.2.2.2.2.2) ws' n l (pushR r rest) Φ) := by rw [h0]; exact hm
  subst hn
  subst hst
  intro p L e s m args below meth c A Q H locs ls hC hE hA hP hD hS hl hF
  have hts := hC.2.2.2.2.1
  refine w_call (va_runV (As := As) (rest := rest) (C := z.1.cls) (ws := md_ws z) (rm := md_rm z) (bytes := z.2.1) (maxL := z.2.2.1) (ret := z.2.2.2.1) ⟨hC.1, hC.2.1, hC.2.2.1, hC.2.2.2.1, hts⟩ (met_of L H.size hok.1.2.2.1 hlen hm) ⟨callB_of np hts (good_ws hok.1) rfl rfl rfl (hts _ hok.1.2.1) (hts _ hlk) hok.1.2.2.2 hR.1, hts _ hok.2.1, hts _ hok.2.2⟩ ⟨pm_blind, by rw [hcn]; exact vk_recv hE.2.1 hi hS, fun U hU hW => ⟨rfl, by rw [hU], by rw [hU]; exact hP, hD.weaken (fun _ _ _ _ => trivial), exs_call hE hS (w_free hD hA hS) hU hW⟩⟩ rfl hnp hl.1 rfl (lv_room hcat) hd hR.2) hD hA hS
    (fun r ws' H1 locs1 hΨ hP1 hD1 hS1 => hΨ p L e s m args below meth c A Q H1 locs1 ls hC hE hA hP1 hD1 hS1 hl hF)
theorem js_coder (hi : i < 4) (h : Φ (some (.int 0)) ws) : Tm E kJ0_coder_7d493 ws [.ref (E.2.2.1 i)] Φ := by
  show T E kJ0_coder_7d493 0 0 ws 0 [(0, .ref (E.2.2.1 i))] [] Φ
  refine tj_comp fl_J0_38 rfl dJ0_coder_7d493_0 ?_
  refine tj_if_eq (tgt := 13) rfl rfl dJ0_coder_7d493_3 (fun hc => absurd hc (by decide)) (fun _ => ?_)
  refine tj_aload_n rfl dJ0_coder_7d493_6 rfl ?_
  refine tj_scod hi fl_J0_15 rfl dJ0_coder_7d493_7 ?_
  refine tj_goto (tgt := 14) rfl dJ0_coder_7d493_10 ?_
  exact tj_ireturn (ty := .byte) dJ0_coder_7d493_14 rfl rfl (Nat.zero_le _) (Nat.zero_le _) h
theorem js_isLatin1 (hi : i < 4) (h : Φ (some (.int 1)) ws) : Tm E kJ0_isLatin1_aae02 ws [.ref (E.2.2.1 i)] Φ := by
  show T E kJ0_isLatin1_aae02 0 0 ws 0 [(0, .ref (E.2.2.1 i))] [] Φ
  refine tj_comp fl_J0_38 rfl dJ0_isLatin1_aae02_0 ?_
  refine tj_if_eq (tgt := 17) rfl rfl dJ0_isLatin1_aae02_3 (fun hc => absurd hc (by decide)) (fun _ => ?_)
  refine tj_aload_n rfl dJ0_isLatin1_aae02_6 rfl ?_
  refine tj_scod hi fl_J0_15 rfl dJ0_isLatin1_aae02_7 ?_
  refine tj_if_ne (tgt := 17) rfl rfl dJ0_isLatin1_aae02_10 (fun hc => absurd rfl hc) (fun _ => ?_)
  refine tj_iconst (v := 1) rfl dJ0_isLatin1_aae02_13 (by decide) ?_
  refine tj_goto (tgt := 18) rfl dJ0_isLatin1_aae02_14 ?_
  exact tj_ireturn (ty := .boolean) dJ0_isLatin1_aae02_18 rfl rfl (Nat.zero_le _) (Nat.zero_le _) h
theorem js_length (hi : i < 4) (h : Φ (some (.int (nI (lenJS.getD i 0)))) ws) : Tm E kJ0_length_8abf5 ws [.ref (E.2.2.1 i)] Φ := by
  have hL : ∀ i, i < 4 → nI (lenJS.getD i 0) >>> ((0 : Int32) &&& 31) = nI (lenJS.getD i 0) := by decide +kernel
  show T E kJ0_length_8abf5 0 0 ws 0 [(0, .ref (E.2.2.1 i))] [] Φ
  refine tj_aload_n rfl dJ0_length_8abf5_0 rfl ?_
  refine tj_sval hi fl_J0_9 rfl dJ0_length_8abf5_1 ?_
  refine tj_stln hi rfl dJ0_length_8abf5_4 ?_
  refine tj_aload_n rfl dJ0_length_8abf5_5 rfl ?_
  refine tj_callT (z := kJ0_coder_7d493) (As := []) hi rfl rfl dJ0_length_8abf5_6 rfl ml_J0_335 okJ0_coder_7d493 rfl (rm_ok rfl) (Nat.le_of_ble_eq_true rfl) (Nat.le_of_ble_eq_true rfl) rfl (js_coder hi ?_)
  refine tj_ishr rfl dJ0_length_8abf5_9 ?_
  rw [hL i hi]
  exact tj_ireturn (ty := .int) dJ0_length_8abf5_10 rfl rfl (Nat.zero_le _) (Nat.zero_le _) h
theorem js_check3 {a b : Int32} {v : Value} (ha : ¬ a < 0) (hb : a < b) (h : Φ (some (.int a)) ws) : T E kJ3_checkIndex_8e157 0 0 ws 0 [(0, .int a), (1, .int b), (2, v)] [] Φ := by
  refine tj_iload_n rfl dJ3_checkIndex_8e157_0 rfl ?_
  refine tj_if_lt (tgt := 9) rfl rfl dJ3_checkIndex_8e157_1 (fun hc => absurd hc ha) (fun _ => ?_)
  refine tj_iload_n rfl dJ3_checkIndex_8e157_4 rfl ?_
  refine tj_iload_n rfl dJ3_checkIndex_8e157_5 rfl ?_
  refine tj_icmp_lt (tgt := 16) rfl rfl dJ3_checkIndex_8e157_6 (fun _ => ?_) (fun hc => absurd hb hc)
  refine tj_iload_n rfl dJ3_checkIndex_8e157_16 rfl ?_
  exact tj_ireturn (ty := .int) dJ3_checkIndex_8e157_17 rfl rfl (Nat.zero_le _) (Nat.zero_le _) h
theorem js_check {a b : Int32} (ha : ¬ a < 0) (hb : a < b) (h : Φ none ws) : Tm E kJ0_checkIndex_df160 ws [.int a, .int b] Φ := by
  show T E kJ0_checkIndex_df160 0 0 ws 0 [(0, .int a), (1, .int b)] [] Φ
  refine tj_iload_n rfl dJ0_checkIndex_df160_0 rfl ?_
  refine tj_iload_n rfl dJ0_checkIndex_df160_1 rfl ?_
  have hr : T E kJ0_checkIndex_df160 0 0 ws 8 [(0, .int a), (1, .int b)] [.int a] Φ := by
    refine tj_pop rfl dJ0_checkIndex_df160_8 rfl ?_
    exact tj_return dJ0_checkIndex_df160_9 rfl (Nat.zero_le _) (Nat.zero_le _) h
  refine tj_fmt fl_J0_1053 rfl dJ0_checkIndex_df160_2 ?_ (fun t => ?_)
  · exact tj_callS (z := kJ3_checkIndex_8e157) (As := [.int a, .int b, .null]) rfl dJ0_checkIndex_df160_5 rfl ml_J0_1059 okJ3_checkIndex_8e157 rfl (rm_ok rfl) (Nat.le_of_ble_eq_true rfl) (Nat.le_of_ble_eq_true rfl) (js_check3 ha hb hr)
  · exact tj_callS (z := kJ3_checkIndex_8e157) (As := [.int a, .int b, .ref t]) rfl dJ0_checkIndex_df160_5 rfl ml_J0_1059 okJ3_checkIndex_8e157 rfl (rm_ok rfl) (Nat.le_of_ble_eq_true rfl) (Nat.le_of_ble_eq_true rfl) (js_check3 ha hb hr)
theorem chJS_fix : ∀ i, i < 4 → ∀ b ∈ bytJS.getD i [], ((b &&& 255).toUInt32 % 65536).toInt32 = b := by decide +kernel
theorem chJS_len : ∀ i, i < 4 → (bytJS.getD i []).length = lenJS.getD i 0 ∧ lenJS.getD i 0 < 100 := by decide +kernel
theorem chJS_nar : ∀ i, i < 4 → ∀ b ∈ bytJS.getD i [], narrow .char (.int b) = .int b := by decide +kernel
theorem js_mem {j : Int32} (hi : i < 4) (hin : vp_in j (lenJS.getD i 0)) : (bytJS.getD i []).getD j.toNatClampNeg 0 ∈ bytJS.getD i [] := by
  have hlt : j.toNatClampNeg < lenJS.getD i 0 := Nat.not_le.mp fun q => hin (Or.inr q)
  rw [← (chJS_len i hi).1] at hlt
  generalize bytJS.getD i [] = l0 at hlt ⊢
  rw [List.getD_eq_getElem?_getD, List.getElem?_eq_getElem hlt]
  exact List.getElem_mem hlt
theorem js_latin {j : Int32} (hi : i < 4) (hin : vp_in j (lenJS.getD i 0)) (h : Φ (some (.int ((bytJS.getD i []).getD j.toNatClampNeg 0))) ws) : Tm E kJ1_charAt_3b067 ws [.ref (E.2.2.2.1 i), .int j] Φ := by
  have hlt : j.toNatClampNeg < lenJS.getD i 0 := Nat.not_le.mp fun q => hin (Or.inr q)
  have hneg : ¬ j < 0 := fun q => hin (Or.inl q)
  have hlt2 : j < nI (lenJS.getD i 0) := by
    obtain ⟨q, hq, rfl⟩ := vp_in_of hin (by have := (chJS_len i hi).2; omega)
    exact nI_lt hq (by have := (chJS_len i hi).2; omega)
  show T E kJ1_charAt_3b067 0 0 ws 0 [(0, .ref (E.2.2.2.1 i)), (1, .int j)] [] Φ
  refine tj_iload_n rfl dJ1_charAt_3b067_0 rfl ?_
  refine tj_aload_n rfl dJ1_charAt_3b067_1 rfl ?_
  refine tj_stln hi rfl dJ1_charAt_3b067_2 ?_
  refine tj_callS (z := kJ0_checkIndex_df160) (As := [.int j, .int (nI (lenJS.getD i 0))]) rfl dJ1_charAt_3b067_3 rfl ml_J1_9 okJ0_checkIndex_df160 rfl (rm_ok rfl) (Nat.le_of_ble_eq_true rfl) (Nat.le_of_ble_eq_true rfl) (js_check hneg hlt2 ?_)
  refine tj_aload_n rfl dJ1_charAt_3b067_6 rfl ?_
  refine tj_iload_n rfl dJ1_charAt_3b067_7 rfl ?_
  refine tj_stat hi rfl dJ1_charAt_3b067_8 hin ?_
  refine tj_sipush (v := 255) rfl dJ1_charAt_3b067_9 (by decide) ?_
  refine tj_iand rfl dJ1_charAt_3b067_12 ?_
  refine tj_i2c rfl dJ1_charAt_3b067_13 ?_
  rw [chJS_fix i hi _ (js_mem hi hin)]
  exact tj_ireturn (ty := .char) dJ1_charAt_3b067_14 rfl (chJS_nar i hi _ (js_mem hi hin)) (Nat.zero_le _) (Nat.zero_le _) h
theorem js_charAt {j : Int32} (hi : i < 4) (hin : vp_in j (lenJS.getD i 0)) (h : Φ (some (.int ((bytJS.getD i []).getD j.toNatClampNeg 0))) ws) : Tm E kJ0_charAt_5068e ws [.ref (E.2.2.1 i), .int j] Φ := by
  show T E kJ0_charAt_5068e 0 0 ws 0 [(0, .ref (E.2.2.1 i)), (1, .int j)] [] Φ
  refine tj_aload_n rfl dJ0_charAt_5068e_0 rfl ?_
  refine tj_callT (z := kJ0_isLatin1_aae02) (As := []) hi rfl rfl dJ0_charAt_5068e_1 rfl ml_J0_492 okJ0_isLatin1_aae02 rfl (rm_ok rfl) (Nat.le_of_ble_eq_true rfl) (Nat.le_of_ble_eq_true rfl) rfl (js_isLatin1 hi ?_)
  refine tj_if_eq (tgt := 16) rfl rfl dJ0_charAt_5068e_4 (fun hc => absurd hc (by decide)) (fun _ => ?_)
  refine tj_aload_n rfl dJ0_charAt_5068e_7 rfl ?_
  refine tj_sval hi fl_J0_9 rfl dJ0_charAt_5068e_8 ?_
  refine tj_iload_n rfl dJ0_charAt_5068e_11 rfl ?_
  refine tj_callS (z := kJ1_charAt_3b067) (As := [.ref (E.2.2.2.1 i), .int j]) rfl dJ0_charAt_5068e_12 rfl ml_J0_495 okJ1_charAt_3b067 rfl (rm_ok rfl) (Nat.le_of_ble_eq_true rfl) (Nat.le_of_ble_eq_true rfl) (js_latin hi hin ?_)
  exact tj_ireturn (ty := .char) dJ0_charAt_5068e_15 rfl (chJS_nar i hi _ (js_mem hi hin)) (Nat.zero_le _) (Nat.zero_le _) h
theorem tj_strlen (hi : i < 4) (hn : pc + 3 = n) (hd : decode k.2.1 pc = .ok (.invokevirtual idx, 3)) (hst : st = .ref (E.2.2.1 i) :: rest) (hlk : Cond.methodLink k.1.cls idx yJ0_length_8abf5 ∈ TB) (hR : RoomOk k kJ0_length_8abf5 cu su) (hcat : (rest.map fun v => v.category).sum ≤ 8) (kk : T E k cu su ws n l (.int (nI (lenJS.getD i 0)) :: rest) Φ) : T E k cu su ws pc l st Φ :=
  tj_callT (z := kJ0_length_8abf5) (As := []) hi rfl hn hd hst hlk okJ0_length_8abf5 rfl hR (Nat.le_of_ble_eq_true rfl) hcat rfl (js_length hi kk)
theorem tj_charAt {j : Int32} (hi : i < 4) (hn : pc + 3 = n) (hd : decode k.2.1 pc = .ok (.invokevirtual idx, 3)) (hst : st = .int j :: .ref (E.2.2.1 i) :: rest) (hlk : Cond.methodLink k.1.cls idx yJ0_charAt_5068e ∈ TB) (hR : RoomOk k kJ0_charAt_5068e cu su) (hcat : (rest.map fun v => v.category).sum ≤ 8) (hin : vp_in j (lenJS.getD i 0)) (kk : T E k cu su ws n l (.int ((bytJS.getD i []).getD j.toNatClampNeg 0) :: rest) Φ) : T E k cu su ws pc l st Φ :=
  tj_callT (z := kJ0_charAt_5068e) (As := [.int j]) hi rfl hn hd hst hlk okJ0_charAt_5068e rfl hR (Nat.le_of_ble_eq_true rfl) hcat rfl (js_charAt hi hin kk)
end TS
