def wpX10_feed (post : Int32 → MM → Int64 → Prop) (M : MM) (tl : Int64) (v1 : Int64) : Prop :=
  (if ((M 1 1) + 8) ≤ 400 then wpX9_append (fun M1 t2 => post (M1 1 1) M1 t2) M tl v1 else post (-3) M tl)
set_option maxHeartbeats 4000000 in
set_option maxRecDepth 20000 in
theorem ctX10_feed {E : EV} {ad : Nat → Nat} {M : MM} {tl : Int64} {Φ : Option Value → va_W → Prop} {post : Int32 → MM → Int64 → Prop} {v1 : Int64} (h : wpX10_feed post M tl v1) (hp : ∀ r M tl, post r M tl → Φ (some (.int r)) (WM E ad M tl)) : Tm E kX10_feed (WM E ad M tl) [.ref (ad (0)), .long v1] Φ := by
  unfold wpX10_feed at h
  show T E kX10_feed 0 0 (WM E ad M tl) 0 [(0, .ref (ad (0))), (1, .long v1)] [] Φ
  refine tj_aload_n rfl dX10_feed_0 rfl ?_
  refine gf10_tape (a := 0) rfl rfl dX10_feed_1 fl_X10_10 ?_
  refine gf9_size (a := 1) rfl rfl dX10_feed_4 fl_X10_84 ?_
  refine tj_bipush (v := 8) rfl dX10_feed_7 (by decide) ?_
  refine tj_iadd rfl dX10_feed_9 ?_
  refine tj_sipush (v := 400) rfl dX10_feed_10 (by decide) ?_
  refine tj_icmp_le (tgt := 19) rfl rfl dX10_feed_13 (fun hc => ?_) (fun hc => ?_)
  · rw [if_pos hc] at h
    refine tj_aload_n rfl dX10_feed_19 rfl ?_
    refine gf10_tape (a := 0) rfl rfl dX10_feed_20 fl_X10_10 ?_
    refine tj_lload_n rfl dX10_feed_23 rfl ?_
    refine cf_V9 (a := 1) (z := kX9_append) (As := [_]) rfl rfl dX10_feed_24 rfl ml_X10_88 okX9_append rfl (rm_ok rfl) (Nat.le_of_ble_eq_true rfl) (Nat.le_of_ble_eq_true rfl) rfl rfl ?_
    refine ctX9_append h (fun M1 t2 h => ?_)
    refine tj_aload_n rfl dX10_feed_27 rfl ?_
    refine gf10_tape (a := 0) rfl rfl dX10_feed_28 fl_X10_10 ?_
    refine gf9_size (a := 1) rfl rfl dX10_feed_31 fl_X10_84 ?_
    exact tj_ireturn (ty := .int) dX10_feed_34 rfl rfl (Nat.zero_le _) (Nat.zero_le _) (hp _ _ _ h)
  · rw [if_neg hc] at h
    refine tj_bipush (v := -3) rfl dX10_feed_16 (by decide) ?_
    exact tj_ireturn (ty := .int) dX10_feed_18 rfl rfl (Nat.zero_le _) (Nat.zero_le _) (hp _ _ _ h)
def wpX10_end (post : Int32 → MM → Int64 → Prop) (M : MM) (tl : Int64) (v1 : Int32) : Prop :=
  (if v1 < 0 then post (-1) M tl else (if v1 ≤ (M 1 1) then (∀ M1 : MM, M1 = mset M 1 1 v1 → post (M 1 1) M1 tl) else post (-1) M tl))
set_option maxHeartbeats 4000000 in
set_option maxRecDepth 20000 in
theorem ctX10_end {E : EV} {ad : Nat → Nat} {M : MM} {tl : Int64} {Φ : Option Value → va_W → Prop} {post : Int32 → MM → Int64 → Prop} {v1 : Int32} (h : wpX10_end post M tl v1) (hp : ∀ r M tl, post r M tl → Φ (some (.int r)) (WM E ad M tl)) : Tm E kX10_end (WM E ad M tl) [.ref (ad (0)), .int v1] Φ := by
  unfold wpX10_end at h
  show T E kX10_end 0 0 (WM E ad M tl) 0 [(0, .ref (ad (0))), (1, .int v1)] [] Φ
  refine tj_iload_n rfl dX10_end_0 rfl ?_
  refine tj_if_lt (tgt := 15) rfl rfl dX10_end_1 (fun hc => ?_) (fun hc => ?_)
  · rw [if_pos hc] at h
    refine tj_iconst (v := -1) rfl dX10_end_15 (by decide) ?_
    exact tj_ireturn (ty := .int) dX10_end_16 rfl rfl (Nat.zero_le _) (Nat.zero_le _) (hp _ _ _ h)
  · rw [if_neg hc] at h
    refine tj_iload_n rfl dX10_end_4 rfl ?_
    refine tj_aload_n rfl dX10_end_5 rfl ?_
    refine gf10_tape (a := 0) rfl rfl dX10_end_6 fl_X10_10 ?_
    refine gf9_size (a := 1) rfl rfl dX10_end_9 fl_X10_84 ?_
    refine tj_icmp_le (tgt := 17) rfl rfl dX10_end_12 (fun hc => ?_) (fun hc => ?_)
    · rw [if_pos hc] at h
      refine tj_aload_n rfl dX10_end_17 rfl ?_
      refine gf10_tape (a := 0) rfl rfl dX10_end_18 fl_X10_10 ?_
      refine gf9_size (a := 1) rfl rfl dX10_end_21 fl_X10_84 ?_
      refine tj_istore_n (l' := [(0, _), (1, _), (2, _)]) rfl dX10_end_24 (by decide) rfl ?_
      refine tj_aload_n rfl dX10_end_25 rfl ?_
      refine gf10_tape (a := 0) rfl rfl dX10_end_26 fl_X10_10 ?_
      refine tj_iload_n rfl dX10_end_29 rfl ?_
      refine pf9_size (a := 1) rfl rfl dX10_end_30 fl_X10_84 ?_
      replace h := h _ rfl
      generalize mset M 1 1 v1 = M1 at h ⊢
      refine tj_iload_n rfl dX10_end_33 rfl ?_
      exact tj_ireturn (ty := .int) dX10_end_34 rfl rfl (Nat.zero_le _) (Nat.zero_le _) (hp _ _ _ h)
    · rw [if_neg hc] at h
      refine tj_iconst (v := -1) rfl dX10_end_15 (by decide) ?_
      exact tj_ireturn (ty := .int) dX10_end_16 rfl rfl (Nat.zero_le _) (Nat.zero_le _) (hp _ _ _ h)
def wpX10_fault (post : Int32 → MM → Int64 → Prop) (M : MM) (tl : Int64) : Prop :=
  post (M 0 11) M tl
set_option maxHeartbeats 4000000 in
set_option maxRecDepth 20000 in
theorem ctX10_fault {E : EV} {ad : Nat → Nat} {M : MM} {tl : Int64} {Φ : Option Value → va_W → Prop} {post : Int32 → MM → Int64 → Prop} (h : wpX10_fault post M tl ) (hp : ∀ r M tl, post r M tl → Φ (some (.int r)) (WM E ad M tl)) : Tm E kX10_fault (WM E ad M tl) [.ref (ad (0))] Φ := by
  unfold wpX10_fault at h
  show T E kX10_fault 0 0 (WM E ad M tl) 0 [(0, .ref (ad (0)))] [] Φ
  refine tj_aload_n rfl dX10_fault_0 rfl ?_
  refine gf10_textFault (a := 0) rfl rfl dX10_fault_1 fl_X10_98 ?_
  exact tj_ireturn (ty := .int) dX10_fault_4 rfl rfl (Nat.zero_le _) (Nat.zero_le _) (hp _ _ _ h)
def wpX10_rule (post : Int32 → MM → Int64 → Prop) (M : MM) (tl : Int64) (v1 : Int32) : Prop :=
  (if v1 = 0 then post (M 3 0) M tl else (if v1 = 1 then post (M 3 1) M tl else (if v1 = 2 then post (M 3 2) M tl else (if v1 = 3 then post (M 16 3) M tl else (if v1 < 10 then post (-1) M tl else (if 14 ≤ v1 then post (-1) M tl else (vp_in (v1 - 10) (al 4) ∧ post (M 4 (v1 - 10 : Int32).toNatClampNeg) M tl)))))))
set_option maxHeartbeats 4000000 in
set_option maxRecDepth 20000 in
theorem ctX10_rule {E : EV} {ad : Nat → Nat} {M : MM} {tl : Int64} {Φ : Option Value → va_W → Prop} {post : Int32 → MM → Int64 → Prop} {v1 : Int32} (h : wpX10_rule post M tl v1) (hp : ∀ r M tl, post r M tl → Φ (some (.int r)) (WM E ad M tl)) : Tm E kX10_rule (WM E ad M tl) [.ref (ad (0)), .int v1] Φ := by
  unfold wpX10_rule at h
  show T E kX10_rule 0 0 (WM E ad M tl) 0 [(0, .ref (ad (0))), (1, .int v1)] [] Φ
  refine tj_iload_n rfl dX10_rule_0 rfl ?_
  by_cases hc1 : v1 = 0
  · rw [if_pos hc1] at h
    refine tj_tableIn (tgt := 32) dX10_rule_1 (by rw [hc1]; decide) (by rw [hc1]; decide) (by rw [hc1]; rfl) rfl ?_
    refine tj_aload_n rfl dX10_rule_32 rfl ?_
    refine gf10_law (a := 0) rfl rfl dX10_rule_33 fl_X10_19 ?_
    refine gf1_lots (a := 3) rfl rfl dX10_rule_36 fl_X10_116 ?_
    exact tj_ireturn (ty := .int) dX10_rule_39 rfl rfl (Nat.zero_le _) (Nat.zero_le _) (hp _ _ _ h)
  · rw [if_neg hc1] at h
    by_cases hc2 : v1 = 1
    · rw [if_pos hc2] at h
      refine tj_tableIn (tgt := 40) dX10_rule_1 (by rw [hc2]; decide) (by rw [hc2]; decide) (by rw [hc2]; rfl) rfl ?_
      refine tj_aload_n rfl dX10_rule_40 rfl ?_
      refine gf10_law (a := 0) rfl rfl dX10_rule_41 fl_X10_19 ?_
      refine gf1_bend (a := 3) rfl rfl dX10_rule_44 fl_X10_119 ?_
      exact tj_ireturn (ty := .int) dX10_rule_47 rfl rfl (Nat.zero_le _) (Nat.zero_le _) (hp _ _ _ h)
    · rw [if_neg hc2] at h
      by_cases hc3 : v1 = 2
      · rw [if_pos hc3] at h
        refine tj_tableIn (tgt := 48) dX10_rule_1 (by rw [hc3]; decide) (by rw [hc3]; decide) (by rw [hc3]; rfl) rfl ?_
        refine tj_aload_n rfl dX10_rule_48 rfl ?_
        refine gf10_law (a := 0) rfl rfl dX10_rule_49 fl_X10_19 ?_
        refine gf1_pull (a := 3) rfl rfl dX10_rule_52 fl_X10_122 ?_
        exact tj_ireturn (ty := .int) dX10_rule_55 rfl rfl (Nat.zero_le _) (Nat.zero_le _) (hp _ _ _ h)
      · rw [if_neg hc3] at h
        by_cases hc4 : v1 = 3
        · rw [if_pos hc4] at h
          refine tj_tableIn (tgt := 56) dX10_rule_1 (by rw [hc4]; decide) (by rw [hc4]; decide) (by rw [hc4]; rfl) rfl ?_
          refine tj_aload_n rfl dX10_rule_56 rfl ?_
          refine gf10_scene (a := 0) rfl rfl dX10_rule_57 fl_X10_26 ?_
          refine gf7_works (a := 14) rfl rfl dX10_rule_60 fl_X10_125 ?_
          refine gf5_size (a := 16) rfl rfl dX10_rule_63 fl_X10_129 ?_
          exact tj_ireturn (ty := .int) dX10_rule_66 rfl rfl (Nat.zero_le _) (Nat.zero_le _) (hp _ _ _ h)
        · rw [if_neg hc4] at h
          have hz0 := lv_neT (a := 0) hc1 rfl
          have hz1 := lv_neT (a := 1) hc2 rfl
          have hz2 := lv_neT (a := 2) hc3 rfl
          have hz3 := lv_neT (a := 3) hc4 rfl
          refine tj_tableOut (tgt := 67) dX10_rule_1 (by omega) rfl ?_
          refine tj_iload_n rfl dX10_rule_67 rfl ?_
          refine tj_bipush (v := 10) rfl dX10_rule_68 (by decide) ?_
          refine tj_icmp_lt (tgt := 94) rfl rfl dX10_rule_70 (fun hc => ?_) (fun hc => ?_)
          · rw [if_pos hc] at h
            refine tj_iconst (v := -1) rfl dX10_rule_94 (by decide) ?_
            exact tj_ireturn (ty := .int) dX10_rule_95 rfl rfl (Nat.zero_le _) (Nat.zero_le _) (hp _ _ _ h)
          · rw [if_neg hc] at h
            refine tj_iload_n rfl dX10_rule_73 rfl ?_
            refine tj_bipush (v := 14) rfl dX10_rule_74 (by decide) ?_
            refine tj_icmp_ge (tgt := 94) rfl rfl dX10_rule_76 (fun hc => ?_) (fun hc => ?_)
            · rw [if_pos hc] at h
              refine tj_iconst (v := -1) rfl dX10_rule_94 (by decide) ?_
              exact tj_ireturn (ty := .int) dX10_rule_95 rfl rfl (Nat.zero_le _) (Nat.zero_le _) (hp _ _ _ h)
            · rw [if_neg hc] at h
              refine tj_aload_n rfl dX10_rule_79 rfl ?_
              refine gf10_law (a := 0) rfl rfl dX10_rule_80 fl_X10_19 ?_
              refine gf1_price (a := 3) rfl rfl dX10_rule_83 fl_X10_132 ?_
              refine tj_iload_n rfl dX10_rule_86 rfl ?_
              refine tj_bipush (v := 10) rfl dX10_rule_87 (by decide) ?_
              refine tj_isub rfl dX10_rule_89 ?_
              obtain ⟨hi5, h⟩ := h
              refine af_iald (a := 4) rfl rfl dX10_rule_90 hi5 ?_
              refine tj_goto (tgt := 95) rfl dX10_rule_91 ?_
              exact tj_ireturn (ty := .int) dX10_rule_95 rfl rfl (Nat.zero_le _) (Nat.zero_le _) (hp _ _ _ h)
def wpX10_kind (post : Int32 → MM → Int64 → Prop) (M : MM) (tl : Int64) (v1 : Int32) (v2 : Int32) : Prop :=
  wpX10_isKind (fun r3 M1 t2 => (if r3 = 0 then post (-1) M1 t2 else (if v2 = 0 then wpX1_twinOf (fun r7 M5 t6 => post r7 M5 t6) M1 t2 3 v1 else (if v2 = 1 then post (((M1 3 3) >>> (v1 &&& 31)) &&& 1) M1 t2 else (if v2 = 10 then wpX1_costOf (fun r12 M10 t11 => post r12 M10 t11) M1 t2 3 (v2 - 10) v1 else (if v2 = 11 then wpX1_costOf (fun r16 M14 t15 => post r16 M14 t15) M1 t2 3 (v2 - 10) v1 else (if v2 = 20 then wpX1_tasteOf (fun r20 M18 t19 => post r20 M18 t19) M1 t2 3 (v2 - 20) v1 else (if v2 = 21 then wpX1_tasteOf (fun r24 M22 t23 => post r24 M22 t23) M1 t2 3 (v2 - 20) v1 else (if v2 = 30 then wpX1_lacks (fun r28 M26 t27 => (if r28 = 0 then post 0 M26 t27 else post 1 M26 t27)) M1 t2 3 (v2 - 30) v1 else (if v2 = 31 then wpX1_lacks (fun r32 M30 t31 => (if r32 = 0 then post 0 M30 t31 else post 1 M30 t31)) M1 t2 3 (v2 - 30) v1 else post (-1) M1 t2)))))))))) M tl v1
set_option maxHeartbeats 4000000 in
set_option maxRecDepth 20000 in
theorem ctX10_kind {E : EV} {ad : Nat → Nat} {M : MM} {tl : Int64} {Φ : Option Value → va_W → Prop} {post : Int32 → MM → Int64 → Prop} {v1 : Int32} {v2 : Int32} (h : wpX10_kind post M tl v1 v2) (hp : ∀ r M tl, post r M tl → Φ (some (.int r)) (WM E ad M tl)) : Tm E kX10_kind (WM E ad M tl) [.ref (ad (0)), .int v1, .int v2] Φ := by
  unfold wpX10_kind at h
  show T E kX10_kind 0 0 (WM E ad M tl) 0 [(0, .ref (ad (0))), (1, .int v1), (2, .int v2)] [] Φ
  refine tj_iload_n rfl dX10_kind_0 rfl ?_
  refine cf_S (z := kX10_isKind) (As := [_]) rfl dX10_kind_1 rfl ml_X10_136 okX10_isKind rfl (rm_ok rfl) (Nat.le_of_ble_eq_true rfl) (Nat.le_of_ble_eq_true rfl) rfl ?_
  refine ctX10_isKind h (fun r3 M1 t2 h => ?_)
  refine tj_if_ne (tgt := 9) rfl rfl dX10_kind_4 (fun hc => ?_) (fun hc => ?_)
  · rw [if_neg hc] at h
    refine tj_iload_n rfl dX10_kind_9 rfl ?_
    by_cases hc4 : v2 = 0
    · rw [if_pos hc4] at h
      refine tj_lookup (off := 74) (tgt := 84) dX10_kind_10 (by decide) (by rw [hc4]; first | done | rfl) rfl ?_
      refine tj_aload_n rfl dX10_kind_84 rfl ?_
      refine gf10_law (a := 0) rfl rfl dX10_kind_85 fl_X10_19 ?_
      refine tj_iload_n rfl dX10_kind_88 rfl ?_
      refine cf_V1 (a := 3) (z := kX1_twinOf) (As := [_]) rfl rfl dX10_kind_89 rfl ml_X10_140 okX1_twinOf rfl (rm_ok rfl) (Nat.le_of_ble_eq_true rfl) (Nat.le_of_ble_eq_true rfl) rfl rfl ?_
      refine ctX1_twinOf h (fun r7 M5 t6 h => ?_)
      exact tj_ireturn (ty := .int) dX10_kind_92 rfl rfl (Nat.zero_le _) (Nat.zero_le _) (hp _ _ _ h)
    · rw [if_neg hc4] at h
      by_cases hc8 : v2 = 1
      · rw [if_pos hc8] at h
        refine tj_lookup (off := 83) (tgt := 93) dX10_kind_10 (by decide) (by rw [hc8]; first | done | rfl) rfl ?_
        refine tj_aload_n rfl dX10_kind_93 rfl ?_
        refine gf10_law (a := 0) rfl rfl dX10_kind_94 fl_X10_19 ?_
        refine gf1_rightKinds (a := 3) rfl rfl dX10_kind_97 fl_X10_144 ?_
        refine tj_iload_n rfl dX10_kind_100 rfl ?_
        refine tj_ishr rfl dX10_kind_101 ?_
        refine tj_iconst (v := 1) rfl dX10_kind_102 (by decide) ?_
        refine tj_iand rfl dX10_kind_103 ?_
        exact tj_ireturn (ty := .int) dX10_kind_104 rfl rfl (Nat.zero_le _) (Nat.zero_le _) (hp _ _ _ h)
      · rw [if_neg hc8] at h
        by_cases hc9 : v2 = 10
        · rw [if_pos hc9] at h
          refine tj_lookup (off := 95) (tgt := 105) dX10_kind_10 (by decide) (by rw [hc9]; first | done | rfl) rfl ?_
          refine tj_aload_n rfl dX10_kind_105 rfl ?_
          refine gf10_law (a := 0) rfl rfl dX10_kind_106 fl_X10_19 ?_
          refine tj_iload_n rfl dX10_kind_109 rfl ?_
          refine tj_bipush (v := 10) rfl dX10_kind_110 (by decide) ?_
          refine tj_isub rfl dX10_kind_112 ?_
          refine tj_iload_n rfl dX10_kind_113 rfl ?_
          refine cf_V1 (a := 3) (z := kX1_costOf) (As := [_, _]) rfl rfl dX10_kind_114 rfl ml_X10_147 okX1_costOf rfl (rm_ok rfl) (Nat.le_of_ble_eq_true rfl) (Nat.le_of_ble_eq_true rfl) rfl rfl ?_
          refine ctX1_costOf h (fun r12 M10 t11 h => ?_)
          exact tj_ireturn (ty := .int) dX10_kind_117 rfl rfl (Nat.zero_le _) (Nat.zero_le _) (hp _ _ _ h)
        · rw [if_neg hc9] at h
          by_cases hc13 : v2 = 11
          · rw [if_pos hc13] at h
            refine tj_lookup (off := 95) (tgt := 105) dX10_kind_10 (by decide) (by rw [hc13]; first | done | rfl) rfl ?_
            refine tj_aload_n rfl dX10_kind_105 rfl ?_
            refine gf10_law (a := 0) rfl rfl dX10_kind_106 fl_X10_19 ?_
            refine tj_iload_n rfl dX10_kind_109 rfl ?_
            refine tj_bipush (v := 10) rfl dX10_kind_110 (by decide) ?_
            refine tj_isub rfl dX10_kind_112 ?_
            refine tj_iload_n rfl dX10_kind_113 rfl ?_
            refine cf_V1 (a := 3) (z := kX1_costOf) (As := [_, _]) rfl rfl dX10_kind_114 rfl ml_X10_147 okX1_costOf rfl (rm_ok rfl) (Nat.le_of_ble_eq_true rfl) (Nat.le_of_ble_eq_true rfl) rfl rfl ?_
            refine ctX1_costOf h (fun r16 M14 t15 h => ?_)
            exact tj_ireturn (ty := .int) dX10_kind_117 rfl rfl (Nat.zero_le _) (Nat.zero_le _) (hp _ _ _ h)
          · rw [if_neg hc13] at h
            by_cases hc17 : v2 = 20
            · rw [if_pos hc17] at h
              refine tj_lookup (off := 108) (tgt := 118) dX10_kind_10 (by decide) (by rw [hc17]; first | done | rfl) rfl ?_
              refine tj_aload_n rfl dX10_kind_118 rfl ?_
              refine gf10_law (a := 0) rfl rfl dX10_kind_119 fl_X10_19 ?_
              refine tj_iload_n rfl dX10_kind_122 rfl ?_
              refine tj_bipush (v := 20) rfl dX10_kind_123 (by decide) ?_
              refine tj_isub rfl dX10_kind_125 ?_
              refine tj_iload_n rfl dX10_kind_126 rfl ?_
              refine cf_V1 (a := 3) (z := kX1_tasteOf) (As := [_, _]) rfl rfl dX10_kind_127 rfl ml_X10_151 okX1_tasteOf rfl (rm_ok rfl) (Nat.le_of_ble_eq_true rfl) (Nat.le_of_ble_eq_true rfl) rfl rfl ?_
              refine ctX1_tasteOf h (fun r20 M18 t19 h => ?_)
              exact tj_ireturn (ty := .int) dX10_kind_130 rfl rfl (Nat.zero_le _) (Nat.zero_le _) (hp _ _ _ h)
            · rw [if_neg hc17] at h
              by_cases hc21 : v2 = 21
              · rw [if_pos hc21] at h
                refine tj_lookup (off := 108) (tgt := 118) dX10_kind_10 (by decide) (by rw [hc21]; first | done | rfl) rfl ?_
                refine tj_aload_n rfl dX10_kind_118 rfl ?_
                refine gf10_law (a := 0) rfl rfl dX10_kind_119 fl_X10_19 ?_
                refine tj_iload_n rfl dX10_kind_122 rfl ?_
                refine tj_bipush (v := 20) rfl dX10_kind_123 (by decide) ?_
                refine tj_isub rfl dX10_kind_125 ?_
                refine tj_iload_n rfl dX10_kind_126 rfl ?_
                refine cf_V1 (a := 3) (z := kX1_tasteOf) (As := [_, _]) rfl rfl dX10_kind_127 rfl ml_X10_151 okX1_tasteOf rfl (rm_ok rfl) (Nat.le_of_ble_eq_true rfl) (Nat.le_of_ble_eq_true rfl) rfl rfl ?_
                refine ctX1_tasteOf h (fun r24 M22 t23 h => ?_)
                exact tj_ireturn (ty := .int) dX10_kind_130 rfl rfl (Nat.zero_le _) (Nat.zero_le _) (hp _ _ _ h)
              · rw [if_neg hc21] at h
                by_cases hc25 : v2 = 30
                · rw [if_pos hc25] at h
                  refine tj_lookup (off := 121) (tgt := 131) dX10_kind_10 (by decide) (by rw [hc25]; first | done | rfl) rfl ?_
                  refine tj_aload_n rfl dX10_kind_131 rfl ?_
                  refine gf10_law (a := 0) rfl rfl dX10_kind_132 fl_X10_19 ?_
                  refine tj_iload_n rfl dX10_kind_135 rfl ?_
                  refine tj_bipush (v := 30) rfl dX10_kind_136 (by decide) ?_
                  refine tj_isub rfl dX10_kind_138 ?_
                  refine tj_iload_n rfl dX10_kind_139 rfl ?_
                  refine cf_V1 (a := 3) (z := kX1_lacks) (As := [_, _]) rfl rfl dX10_kind_140 rfl ml_X10_154 okX1_lacks rfl (rm_ok rfl) (Nat.le_of_ble_eq_true rfl) (Nat.le_of_ble_eq_true rfl) rfl rfl ?_
                  refine ctX1_lacks h (fun r28 M26 t27 h => ?_)
                  refine tj_if_eq (tgt := 150) rfl rfl dX10_kind_143 (fun hc => ?_) (fun hc => ?_)
                  · rw [if_pos hc] at h
                    refine tj_iconst (v := 0) rfl dX10_kind_150 (by decide) ?_
                    exact tj_ireturn (ty := .int) dX10_kind_151 rfl rfl (Nat.zero_le _) (Nat.zero_le _) (hp _ _ _ h)
                  · rw [if_neg hc] at h
                    refine tj_iconst (v := 1) rfl dX10_kind_146 (by decide) ?_
                    refine tj_goto (tgt := 151) rfl dX10_kind_147 ?_
                    exact tj_ireturn (ty := .int) dX10_kind_151 rfl rfl (Nat.zero_le _) (Nat.zero_le _) (hp _ _ _ h)
                · rw [if_neg hc25] at h
                  by_cases hc29 : v2 = 31
                  · rw [if_pos hc29] at h
                    refine tj_lookup (off := 121) (tgt := 131) dX10_kind_10 (by decide) (by rw [hc29]; first | done | rfl) rfl ?_
                    refine tj_aload_n rfl dX10_kind_131 rfl ?_
                    refine gf10_law (a := 0) rfl rfl dX10_kind_132 fl_X10_19 ?_
                    refine tj_iload_n rfl dX10_kind_135 rfl ?_
                    refine tj_bipush (v := 30) rfl dX10_kind_136 (by decide) ?_
                    refine tj_isub rfl dX10_kind_138 ?_
                    refine tj_iload_n rfl dX10_kind_139 rfl ?_
                    refine cf_V1 (a := 3) (z := kX1_lacks) (As := [_, _]) rfl rfl dX10_kind_140 rfl ml_X10_154 okX1_lacks rfl (rm_ok rfl) (Nat.le_of_ble_eq_true rfl) (Nat.le_of_ble_eq_true rfl) rfl rfl ?_
                    refine ctX1_lacks h (fun r32 M30 t31 h => ?_)
                    refine tj_if_eq (tgt := 150) rfl rfl dX10_kind_143 (fun hc => ?_) (fun hc => ?_)
                    · rw [if_pos hc] at h
                      refine tj_iconst (v := 0) rfl dX10_kind_150 (by decide) ?_
                      exact tj_ireturn (ty := .int) dX10_kind_151 rfl rfl (Nat.zero_le _) (Nat.zero_le _) (hp _ _ _ h)
                    · rw [if_neg hc] at h
                      refine tj_iconst (v := 1) rfl dX10_kind_146 (by decide) ?_
                      refine tj_goto (tgt := 151) rfl dX10_kind_147 ?_
                      exact tj_ireturn (ty := .int) dX10_kind_151 rfl rfl (Nat.zero_le _) (Nat.zero_le _) (hp _ _ _ h)
                  · rw [if_neg hc29] at h
                    refine tj_lookup (off := 142) (tgt := 152) dX10_kind_10 (by decide) (by show Op.lookupswitch.offset [(0, 74), (1, 83), (10, 95), (11, 95), (20, 108), (21, 108), (30, 121), (31, 121)] 142 _ = 142; rw [lv_osw (a := 0) hc4 rfl, lv_osw (a := 1) hc8 rfl, lv_osw (a := 10) hc9 rfl, lv_osw (a := 11) hc13 rfl, lv_osw (a := 20) hc17 rfl, lv_osw (a := 21) hc21 rfl, lv_osw (a := 30) hc25 rfl, lv_osw (a := 31) hc29 rfl]; first | done | rfl) rfl ?_
                    refine tj_iconst (v := -1) rfl dX10_kind_152 (by decide) ?_
                    exact tj_ireturn (ty := .int) dX10_kind_153 rfl rfl (Nat.zero_le _) (Nat.zero_le _) (hp _ _ _ h)
  · rw [if_pos hc] at h
    refine tj_iconst (v := -1) rfl dX10_kind_7 (by decide) ?_
    exact tj_ireturn (ty := .int) dX10_kind_8 rfl rfl (Nat.zero_le _) (Nat.zero_le _) (hp _ _ _ h)
def wpX10_colour (post : Int32 → MM → Int64 → Prop) (M : MM) (tl : Int64) (v1 : Int32) : Prop :=
  (if v1 < 0 then post (-1) M tl else (if 4 ≤ v1 then post (-1) M tl else (vp_in v1 (al 13) ∧ post (M 13 (v1 : Int32).toNatClampNeg) M tl)))
set_option maxHeartbeats 4000000 in
set_option maxRecDepth 20000 in
theorem ctX10_colour {E : EV} {ad : Nat → Nat} {M : MM} {tl : Int64} {Φ : Option Value → va_W → Prop} {post : Int32 → MM → Int64 → Prop} {v1 : Int32} (h : wpX10_colour post M tl v1) (hp : ∀ r M tl, post r M tl → Φ (some (.int r)) (WM E ad M tl)) : Tm E kX10_colour (WM E ad M tl) [.ref (ad (0)), .int v1] Φ := by
  unfold wpX10_colour at h
  show T E kX10_colour 0 0 (WM E ad M tl) 0 [(0, .ref (ad (0))), (1, .int v1)] [] Φ
  refine tj_iload_n rfl dX10_colour_0 rfl ?_
  refine tj_if_lt (tgt := 21) rfl rfl dX10_colour_1 (fun hc => ?_) (fun hc => ?_)
  · rw [if_pos hc] at h
    refine tj_iconst (v := -1) rfl dX10_colour_21 (by decide) ?_
    exact tj_ireturn (ty := .int) dX10_colour_22 rfl rfl (Nat.zero_le _) (Nat.zero_le _) (hp _ _ _ h)
  · rw [if_neg hc] at h
    refine tj_iload_n rfl dX10_colour_4 rfl ?_
    refine tj_iconst (v := 4) rfl dX10_colour_5 (by decide) ?_
    refine tj_icmp_ge (tgt := 21) rfl rfl dX10_colour_6 (fun hc => ?_) (fun hc => ?_)
    · rw [if_pos hc] at h
      refine tj_iconst (v := -1) rfl dX10_colour_21 (by decide) ?_
      exact tj_ireturn (ty := .int) dX10_colour_22 rfl rfl (Nat.zero_le _) (Nat.zero_le _) (hp _ _ _ h)
    · rw [if_neg hc] at h
      refine tj_aload_n rfl dX10_colour_9 rfl ?_
      refine gf10_law (a := 0) rfl rfl dX10_colour_10 fl_X10_19 ?_
      refine gf1_paint (a := 3) rfl rfl dX10_colour_13 fl_X10_158 ?_
      refine tj_iload_n rfl dX10_colour_16 rfl ?_
      obtain ⟨hi1, h⟩ := h
      refine af_iald (a := 13) rfl rfl dX10_colour_17 hi1 ?_
      refine tj_goto (tgt := 22) rfl dX10_colour_18 ?_
      exact tj_ireturn (ty := .int) dX10_colour_22 rfl rfl (Nat.zero_le _) (Nat.zero_le _) (hp _ _ _ h)
def wpX10_mirror (post : Int32 → MM → Int64 → Prop) (M : MM) (tl : Int64) (v1 : Int32) : Prop :=
  wpX10_isThing (fun r3 M1 t2 => (if r3 = 0 then post (-1) M1 t2 else wpX1_mirrorOf (fun r6 M4 t5 => post r6 M4 t5) M1 t2 3 v1)) M tl v1
set_option maxHeartbeats 4000000 in
set_option maxRecDepth 20000 in
theorem ctX10_mirror {E : EV} {ad : Nat → Nat} {M : MM} {tl : Int64} {Φ : Option Value → va_W → Prop} {post : Int32 → MM → Int64 → Prop} {v1 : Int32} (h : wpX10_mirror post M tl v1) (hp : ∀ r M tl, post r M tl → Φ (some (.int r)) (WM E ad M tl)) : Tm E kX10_mirror (WM E ad M tl) [.ref (ad (0)), .int v1] Φ := by
  unfold wpX10_mirror at h
  show T E kX10_mirror 0 0 (WM E ad M tl) 0 [(0, .ref (ad (0))), (1, .int v1)] [] Φ
  refine tj_iload_n rfl dX10_mirror_0 rfl ?_
  refine cf_S (z := kX10_isThing) (As := [_]) rfl dX10_mirror_1 rfl ml_X10_161 okX10_isThing rfl (rm_ok rfl) (Nat.le_of_ble_eq_true rfl) (Nat.le_of_ble_eq_true rfl) rfl ?_
  refine ctX10_isThing h (fun r3 M1 t2 h => ?_)
  refine tj_if_eq (tgt := 18) rfl rfl dX10_mirror_4 (fun hc => ?_) (fun hc => ?_)
  · rw [if_pos hc] at h
    refine tj_iconst (v := -1) rfl dX10_mirror_18 (by decide) ?_
    exact tj_ireturn (ty := .int) dX10_mirror_19 rfl rfl (Nat.zero_le _) (Nat.zero_le _) (hp _ _ _ h)
  · rw [if_neg hc] at h
    refine tj_aload_n rfl dX10_mirror_7 rfl ?_
    refine gf10_law (a := 0) rfl rfl dX10_mirror_8 fl_X10_19 ?_
    refine tj_iload_n rfl dX10_mirror_11 rfl ?_
    refine cf_V1 (a := 3) (z := kX1_mirrorOf) (As := [_]) rfl rfl dX10_mirror_12 rfl ml_X10_164 okX1_mirrorOf rfl (rm_ok rfl) (Nat.le_of_ble_eq_true rfl) (Nat.le_of_ble_eq_true rfl) rfl rfl ?_
    refine ctX1_mirrorOf h (fun r6 M4 t5 h => ?_)
    refine tj_goto (tgt := 19) rfl dX10_mirror_15 ?_
    exact tj_ireturn (ty := .int) dX10_mirror_19 rfl rfl (Nat.zero_le _) (Nat.zero_le _) (hp _ _ _ h)
def wpX10_work (post : Int32 → MM → Int64 → Prop) (M : MM) (tl : Int64) (v1 : Int32) (v2 : Int32) : Prop :=
  (if v1 < 0 then post (-1) M tl else (if (M 16 3) ≤ v1 then post (-1) M tl else (if v2 < 0 then post (-1) M tl else (if v2 < (nI (wd 16)) then wpX5_cell (fun r3 M1 t2 => post r3 M1 t2) M tl 16 v1 v2 else post (-1) M tl))))
set_option maxHeartbeats 4000000 in
set_option maxRecDepth 20000 in
theorem ctX10_work {E : EV} {ad : Nat → Nat} {M : MM} {tl : Int64} {Φ : Option Value → va_W → Prop} {post : Int32 → MM → Int64 → Prop} {v1 : Int32} {v2 : Int32} (h : wpX10_work post M tl v1 v2) (hp : ∀ r M tl, post r M tl → Φ (some (.int r)) (WM E ad M tl)) : Tm E kX10_work (WM E ad M tl) [.ref (ad (0)), .int v1, .int v2] Φ := by
  unfold wpX10_work at h
  show T E kX10_work 0 0 (WM E ad M tl) 0 [(0, .ref (ad (0))), (1, .int v1), (2, .int v2)] [] Φ
  refine tj_aload_n rfl dX10_work_0 rfl ?_
  refine gf10_scene (a := 0) rfl rfl dX10_work_1 fl_X10_26 ?_
  refine gf7_works (a := 14) rfl rfl dX10_work_4 fl_X10_125 ?_
  refine tj_astore_n (l' := [(0, _), (1, _), (2, _), (3, _)]) rfl dX10_work_7 (by decide) rfl ?_
  refine tj_iload_n rfl dX10_work_8 rfl ?_
  refine tj_if_lt (tgt := 32) rfl rfl dX10_work_9 (fun hc => ?_) (fun hc => ?_)
  · rw [if_pos hc] at h
    refine tj_iconst (v := -1) rfl dX10_work_32 (by decide) ?_
    exact tj_ireturn (ty := .int) dX10_work_33 rfl rfl (Nat.zero_le _) (Nat.zero_le _) (hp _ _ _ h)
  · rw [if_neg hc] at h
    refine tj_iload_n rfl dX10_work_12 rfl ?_
    refine tj_aload_n rfl dX10_work_13 rfl ?_
    refine gf5_size (a := 16) rfl rfl dX10_work_14 fl_X10_129 ?_
    refine tj_icmp_ge (tgt := 32) rfl rfl dX10_work_17 (fun hc => ?_) (fun hc => ?_)
    · rw [if_pos hc] at h
      refine tj_iconst (v := -1) rfl dX10_work_32 (by decide) ?_
      exact tj_ireturn (ty := .int) dX10_work_33 rfl rfl (Nat.zero_le _) (Nat.zero_le _) (hp _ _ _ h)
    · rw [if_neg hc] at h
      refine tj_iload_n rfl dX10_work_20 rfl ?_
      refine tj_if_lt (tgt := 32) rfl rfl dX10_work_21 (fun hc => ?_) (fun hc => ?_)
      · rw [if_pos hc] at h
        refine tj_iconst (v := -1) rfl dX10_work_32 (by decide) ?_
        exact tj_ireturn (ty := .int) dX10_work_33 rfl rfl (Nat.zero_le _) (Nat.zero_le _) (hp _ _ _ h)
      · rw [if_neg hc] at h
        refine tj_iload_n rfl dX10_work_24 rfl ?_
        refine tj_aload_n rfl dX10_work_25 rfl ?_
        refine gf5_width (a := 16) rfl rfl dX10_work_26 fl_X10_167 ?_
        refine tj_icmp_lt (tgt := 34) rfl rfl dX10_work_29 (fun hc => ?_) (fun hc => ?_)
        · rw [if_pos hc] at h
          refine tj_aload_n rfl dX10_work_34 rfl ?_
          refine tj_iload_n rfl dX10_work_35 rfl ?_
          refine tj_iload_n rfl dX10_work_36 rfl ?_
          refine cf_V5 (a := 16) (z := kX5_cell) (As := [_, _]) rfl rfl dX10_work_37 rfl ml_X10_170 okX5_cell rfl (rm_ok rfl) (Nat.le_of_ble_eq_true rfl) (Nat.le_of_ble_eq_true rfl) rfl rfl ?_
          refine ctX5_cell h (fun r3 M1 t2 h => ?_)
          exact tj_ireturn (ty := .int) dX10_work_40 rfl rfl (Nat.zero_le _) (Nat.zero_le _) (hp _ _ _ h)
        · rw [if_neg hc] at h
          refine tj_iconst (v := -1) rfl dX10_work_32 (by decide) ?_
          exact tj_ireturn (ty := .int) dX10_work_33 rfl rfl (Nat.zero_le _) (Nat.zero_le _) (hp _ _ _ h)
def wpX10_thing (post : Int32 → MM → Int64 → Prop) (M : MM) (tl : Int64) (v1 : Int32) (v2 : Int32) : Prop :=
  wpX1_isLot (fun r3 M1 t2 => (if r3 = 0 then post (-1) M1 t2 else wpX7_thingAt (fun r6 M4 t5 => post r6 M4 t5) M1 t2 14 v1 v2)) M tl 3 v1 v2
set_option maxHeartbeats 4000000 in
set_option maxRecDepth 20000 in
theorem ctX10_thing {E : EV} {ad : Nat → Nat} {M : MM} {tl : Int64} {Φ : Option Value → va_W → Prop} {post : Int32 → MM → Int64 → Prop} {v1 : Int32} {v2 : Int32} (h : wpX10_thing post M tl v1 v2) (hp : ∀ r M tl, post r M tl → Φ (some (.int r)) (WM E ad M tl)) : Tm E kX10_thing (WM E ad M tl) [.ref (ad (0)), .int v1, .int v2] Φ := by
  unfold wpX10_thing at h
  show T E kX10_thing 0 0 (WM E ad M tl) 0 [(0, .ref (ad (0))), (1, .int v1), (2, .int v2)] [] Φ
  refine tj_aload_n rfl dX10_thing_0 rfl ?_
  refine gf10_law (a := 0) rfl rfl dX10_thing_1 fl_X10_19 ?_
  refine tj_iload_n rfl dX10_thing_4 rfl ?_
  refine tj_iload_n rfl dX10_thing_5 rfl ?_
  refine cf_V1 (a := 3) (z := kX1_isLot) (As := [_, _]) rfl rfl dX10_thing_6 rfl ml_X10_173 okX1_isLot rfl (rm_ok rfl) (Nat.le_of_ble_eq_true rfl) (Nat.le_of_ble_eq_true rfl) rfl rfl ?_
  refine ctX1_isLot h (fun r3 M1 t2 h => ?_)
  refine tj_if_eq (tgt := 24) rfl rfl dX10_thing_9 (fun hc => ?_) (fun hc => ?_)
  · rw [if_pos hc] at h
    refine tj_iconst (v := -1) rfl dX10_thing_24 (by decide) ?_
    exact tj_ireturn (ty := .int) dX10_thing_25 rfl rfl (Nat.zero_le _) (Nat.zero_le _) (hp _ _ _ h)
  · rw [if_neg hc] at h
    refine tj_aload_n rfl dX10_thing_12 rfl ?_
    refine gf10_scene (a := 0) rfl rfl dX10_thing_13 fl_X10_26 ?_
    refine tj_iload_n rfl dX10_thing_16 rfl ?_
    refine tj_iload_n rfl dX10_thing_17 rfl ?_
    refine cf_V7 (a := 14) (z := kX7_thingAt) (As := [_, _]) rfl rfl dX10_thing_18 rfl ml_X10_176 okX7_thingAt rfl (rm_ok rfl) (Nat.le_of_ble_eq_true rfl) (Nat.le_of_ble_eq_true rfl) rfl rfl ?_
    refine ctX7_thingAt h (fun r6 M4 t5 h => ?_)
    refine tj_goto (tgt := 25) rfl dX10_thing_21 ?_
    exact tj_ireturn (ty := .int) dX10_thing_25 rfl rfl (Nat.zero_le _) (Nat.zero_le _) (hp _ _ _ h)
def wpX10_put (post : Int32 → MM → Int64 → Prop) (M : MM) (tl : Int64) (v1 : Int32) (v2 : Int32) (v3 : Int32) : Prop :=
  wpX1_isLot (fun r3 M1 t2 => (if r3 = 0 then post (-1) M1 t2 else wpX10_isThing (fun r6 M4 t5 => (if r6 = 0 then post (-1) M4 t5 else wpX7_thingAt (fun r9 M7 t8 => wpX7_setThing (fun M10 t11 => post r9 M10 t11) M7 t8 14 v1 v2 v3) M4 t5 14 v1 v2)) M1 t2 v3)) M tl 3 v1 v2
set_option maxHeartbeats 4000000 in
set_option maxRecDepth 20000 in
theorem ctX10_put {E : EV} {ad : Nat → Nat} {M : MM} {tl : Int64} {Φ : Option Value → va_W → Prop} {post : Int32 → MM → Int64 → Prop} {v1 : Int32} {v2 : Int32} {v3 : Int32} (h : wpX10_put post M tl v1 v2 v3) (hp : ∀ r M tl, post r M tl → Φ (some (.int r)) (WM E ad M tl)) : Tm E kX10_put (WM E ad M tl) [.ref (ad (0)), .int v1, .int v2, .int v3] Φ := by
  unfold wpX10_put at h
  show T E kX10_put 0 0 (WM E ad M tl) 0 [(0, .ref (ad (0))), (1, .int v1), (2, .int v2), (3, .int v3)] [] Φ
  refine tj_aload_n rfl dX10_put_0 rfl ?_
  refine gf10_law (a := 0) rfl rfl dX10_put_1 fl_X10_19 ?_
  refine tj_iload_n rfl dX10_put_4 rfl ?_
  refine tj_iload_n rfl dX10_put_5 rfl ?_
  refine cf_V1 (a := 3) (z := kX1_isLot) (As := [_, _]) rfl rfl dX10_put_6 rfl ml_X10_173 okX1_isLot rfl (rm_ok rfl) (Nat.le_of_ble_eq_true rfl) (Nat.le_of_ble_eq_true rfl) rfl rfl ?_
  refine ctX1_isLot h (fun r3 M1 t2 h => ?_)
  refine tj_if_eq (tgt := 19) rfl rfl dX10_put_9 (fun hc => ?_) (fun hc => ?_)
  · rw [if_pos hc] at h
    refine tj_iconst (v := -1) rfl dX10_put_19 (by decide) ?_
    exact tj_ireturn (ty := .int) dX10_put_20 rfl rfl (Nat.zero_le _) (Nat.zero_le _) (hp _ _ _ h)
  · rw [if_neg hc] at h
    refine tj_iload_n rfl dX10_put_12 rfl ?_
    refine cf_S (z := kX10_isThing) (As := [_]) rfl dX10_put_13 rfl ml_X10_161 okX10_isThing rfl (rm_ok rfl) (Nat.le_of_ble_eq_true rfl) (Nat.le_of_ble_eq_true rfl) rfl ?_
    refine ctX10_isThing h (fun r6 M4 t5 h => ?_)
    refine tj_if_ne (tgt := 21) rfl rfl dX10_put_16 (fun hc => ?_) (fun hc => ?_)
    · rw [if_neg hc] at h
      refine tj_aload_n rfl dX10_put_21 rfl ?_
      refine gf10_scene (a := 0) rfl rfl dX10_put_22 fl_X10_26 ?_
      refine tj_iload_n rfl dX10_put_25 rfl ?_
      refine tj_iload_n rfl dX10_put_26 rfl ?_
      refine cf_V7 (a := 14) (z := kX7_thingAt) (As := [_, _]) rfl rfl dX10_put_27 rfl ml_X10_176 okX7_thingAt rfl (rm_ok rfl) (Nat.le_of_ble_eq_true rfl) (Nat.le_of_ble_eq_true rfl) rfl rfl ?_
      refine ctX7_thingAt h (fun r9 M7 t8 h => ?_)
      refine tj_istore (l' := [(0, _), (1, _), (2, _), (3, _), (4, _)]) rfl dX10_put_30 (by decide) rfl ?_
      refine tj_aload_n rfl dX10_put_32 rfl ?_
      refine gf10_scene (a := 0) rfl rfl dX10_put_33 fl_X10_26 ?_
      refine tj_iload_n rfl dX10_put_36 rfl ?_
      refine tj_iload_n rfl dX10_put_37 rfl ?_
      refine tj_iload_n rfl dX10_put_38 rfl ?_
      refine cf_V7 (a := 14) (z := kX7_setThing) (As := [_, _, _]) rfl rfl dX10_put_39 rfl ml_X10_179 okX7_setThing rfl (rm_ok rfl) (Nat.le_of_ble_eq_true rfl) (Nat.le_of_ble_eq_true rfl) rfl rfl ?_
      refine ctX7_setThing h (fun M10 t11 h => ?_)
      refine tj_iload rfl dX10_put_42 rfl ?_
      exact tj_ireturn (ty := .int) dX10_put_44 rfl rfl (Nat.zero_le _) (Nat.zero_le _) (hp _ _ _ h)
    · rw [if_pos hc] at h
      refine tj_iconst (v := -1) rfl dX10_put_19 (by decide) ?_
      exact tj_ireturn (ty := .int) dX10_put_20 rfl rfl (Nat.zero_le _) (Nat.zero_le _) (hp _ _ _ h)
def wpX10_match (post : Int32 → MM → Int64 → Prop) (M : MM) (tl : Int64) (v1 : Int32) (v2 : Int32) : Prop :=
  wpX1_isLot (fun r3 M1 t2 => (if r3 = 0 then post (-1) M1 t2 else wpX1_matchOf (fun r6 M4 t5 => post r6 M4 t5) M1 t2 3 v1 v2)) M tl 3 v1 v2
set_option maxHeartbeats 4000000 in
set_option maxRecDepth 20000 in
theorem ctX10_match {E : EV} {ad : Nat → Nat} {M : MM} {tl : Int64} {Φ : Option Value → va_W → Prop} {post : Int32 → MM → Int64 → Prop} {v1 : Int32} {v2 : Int32} (h : wpX10_match post M tl v1 v2) (hp : ∀ r M tl, post r M tl → Φ (some (.int r)) (WM E ad M tl)) : Tm E kX10_match (WM E ad M tl) [.ref (ad (0)), .int v1, .int v2] Φ := by
  unfold wpX10_match at h
  show T E kX10_match 0 0 (WM E ad M tl) 0 [(0, .ref (ad (0))), (1, .int v1), (2, .int v2)] [] Φ
  refine tj_aload_n rfl dX10_match_0 rfl ?_
  refine gf10_law (a := 0) rfl rfl dX10_match_1 fl_X10_19 ?_
  refine tj_iload_n rfl dX10_match_4 rfl ?_
  refine tj_iload_n rfl dX10_match_5 rfl ?_
  refine cf_V1 (a := 3) (z := kX1_isLot) (As := [_, _]) rfl rfl dX10_match_6 rfl ml_X10_173 okX1_isLot rfl (rm_ok rfl) (Nat.le_of_ble_eq_true rfl) (Nat.le_of_ble_eq_true rfl) rfl rfl ?_
  refine ctX1_isLot h (fun r3 M1 t2 h => ?_)
  refine tj_if_eq (tgt := 24) rfl rfl dX10_match_9 (fun hc => ?_) (fun hc => ?_)
  · rw [if_pos hc] at h
    refine tj_iconst (v := -1) rfl dX10_match_24 (by decide) ?_
    exact tj_ireturn (ty := .int) dX10_match_25 rfl rfl (Nat.zero_le _) (Nat.zero_le _) (hp _ _ _ h)
  · rw [if_neg hc] at h
    refine tj_aload_n rfl dX10_match_12 rfl ?_
    refine gf10_law (a := 0) rfl rfl dX10_match_13 fl_X10_19 ?_
    refine tj_iload_n rfl dX10_match_16 rfl ?_
    refine tj_iload_n rfl dX10_match_17 rfl ?_
    refine cf_V1 (a := 3) (z := kX1_matchOf) (As := [_, _]) rfl rfl dX10_match_18 rfl ml_X10_183 okX1_matchOf rfl (rm_ok rfl) (Nat.le_of_ble_eq_true rfl) (Nat.le_of_ble_eq_true rfl) rfl rfl ?_
    refine ctX1_matchOf h (fun r6 M4 t5 h => ?_)
    refine tj_goto (tgt := 25) rfl dX10_match_21 ?_
    exact tj_ireturn (ty := .int) dX10_match_25 rfl rfl (Nat.zero_le _) (Nat.zero_le _) (hp _ _ _ h)
def wpX10_odd (post : Int32 → MM → Int64 → Prop) (M : MM) (tl : Int64) : Prop :=
  wpX1_unevenLots (fun r3 M1 t2 => post r3 M1 t2) M tl 3 15
set_option maxHeartbeats 4000000 in
set_option maxRecDepth 20000 in
theorem ctX10_odd {E : EV} {ad : Nat → Nat} {M : MM} {tl : Int64} {Φ : Option Value → va_W → Prop} {post : Int32 → MM → Int64 → Prop} (h : wpX10_odd post M tl ) (hp : ∀ r M tl, post r M tl → Φ (some (.int r)) (WM E ad M tl)) : Tm E kX10_odd (WM E ad M tl) [.ref (ad (0))] Φ := by
  unfold wpX10_odd at h
  show T E kX10_odd 0 0 (WM E ad M tl) 0 [(0, .ref (ad (0)))] [] Φ
  refine tj_aload_n rfl dX10_odd_0 rfl ?_
  refine gf10_law (a := 0) rfl rfl dX10_odd_1 fl_X10_19 ?_
  refine tj_aload_n rfl dX10_odd_4 rfl ?_
  refine gf10_scene (a := 0) rfl rfl dX10_odd_5 fl_X10_26 ?_
  refine gf7_things (a := 14) rfl rfl dX10_odd_8 fl_X10_186 ?_
  refine cf_V1 (a := 3) (z := kX1_unevenLots) (As := [_]) rfl rfl dX10_odd_11 rfl ml_X10_189 okX1_unevenLots rfl (rm_ok rfl) (Nat.le_of_ble_eq_true rfl) (Nat.le_of_ble_eq_true rfl) rfl rfl ?_
  refine ctX1_unevenLots h (fun r3 M1 t2 h => ?_)
  exact tj_ireturn (ty := .int) dX10_odd_14 rfl rfl (Nat.zero_le _) (Nat.zero_le _) (hp _ _ _ h)
def wpX10_third (post : Int32 → MM → Int64 → Prop) (M : MM) (tl : Int64) (v1 : Int32) : Prop :=
  wpX1_isLot (fun r3 M1 t2 => (if r3 = 0 then post (-1) M1 t2 else wpX1_matchOf (fun r6 M4 t5 => (if r6 = (-4) then post (-4) M4 t5 else wpX7_thingAt (fun r9 M7 t8 => wpX1_mirrorOf (fun r12 M10 t11 => post r12 M10 t11) M7 t8 3 r9) M4 t5 14 1 r6)) M1 t2 3 0 v1)) M tl 3 0 v1
set_option maxHeartbeats 4000000 in
set_option maxRecDepth 20000 in
theorem ctX10_third {E : EV} {ad : Nat → Nat} {M : MM} {tl : Int64} {Φ : Option Value → va_W → Prop} {post : Int32 → MM → Int64 → Prop} {v1 : Int32} (h : wpX10_third post M tl v1) (hp : ∀ r M tl, post r M tl → Φ (some (.int r)) (WM E ad M tl)) : Tm E kX10_third (WM E ad M tl) [.ref (ad (0)), .int v1] Φ := by
  unfold wpX10_third at h
  show T E kX10_third 0 0 (WM E ad M tl) 0 [(0, .ref (ad (0))), (1, .int v1)] [] Φ
  refine tj_aload_n rfl dX10_third_0 rfl ?_
  refine gf10_law (a := 0) rfl rfl dX10_third_1 fl_X10_19 ?_
  refine tj_iconst (v := 0) rfl dX10_third_4 (by decide) ?_
  refine tj_iload_n rfl dX10_third_5 rfl ?_
  refine cf_V1 (a := 3) (z := kX1_isLot) (As := [_, _]) rfl rfl dX10_third_6 rfl ml_X10_173 okX1_isLot rfl (rm_ok rfl) (Nat.le_of_ble_eq_true rfl) (Nat.le_of_ble_eq_true rfl) rfl rfl ?_
  refine ctX1_isLot h (fun r3 M1 t2 h => ?_)
  refine tj_if_ne (tgt := 14) rfl rfl dX10_third_9 (fun hc => ?_) (fun hc => ?_)
  · rw [if_neg hc] at h
    refine tj_aload_n rfl dX10_third_14 rfl ?_
    refine gf10_law (a := 0) rfl rfl dX10_third_15 fl_X10_19 ?_
    refine tj_iconst (v := 0) rfl dX10_third_18 (by decide) ?_
    refine tj_iload_n rfl dX10_third_19 rfl ?_
    refine cf_V1 (a := 3) (z := kX1_matchOf) (As := [_, _]) rfl rfl dX10_third_20 rfl ml_X10_183 okX1_matchOf rfl (rm_ok rfl) (Nat.le_of_ble_eq_true rfl) (Nat.le_of_ble_eq_true rfl) rfl rfl ?_
    refine ctX1_matchOf h (fun r6 M4 t5 h => ?_)
    refine tj_istore_n (l' := [(0, _), (1, _), (2, _)]) rfl dX10_third_23 (by decide) rfl ?_
    refine tj_iload_n rfl dX10_third_24 rfl ?_
    refine tj_bipush (v := -4) rfl dX10_third_25 (by decide) ?_
    refine tj_icmp_ne (tgt := 35) rfl rfl dX10_third_27 (fun hc => ?_) (fun hc => ?_)
    · rw [if_neg hc] at h
      refine tj_aload_n rfl dX10_third_35 rfl ?_
      refine gf10_law (a := 0) rfl rfl dX10_third_36 fl_X10_19 ?_
      refine tj_aload_n rfl dX10_third_39 rfl ?_
      refine gf10_scene (a := 0) rfl rfl dX10_third_40 fl_X10_26 ?_
      refine tj_iconst (v := 1) rfl dX10_third_43 (by decide) ?_
      refine tj_iload_n rfl dX10_third_44 rfl ?_
      refine cf_V7 (a := 14) (z := kX7_thingAt) (As := [_, _]) rfl rfl dX10_third_45 rfl ml_X10_176 okX7_thingAt rfl (rm_ok rfl) (Nat.le_of_ble_eq_true rfl) (Nat.le_of_ble_eq_true rfl) rfl rfl ?_
      refine ctX7_thingAt h (fun r9 M7 t8 h => ?_)
      refine cf_V1 (a := 3) (z := kX1_mirrorOf) (As := [_]) rfl rfl dX10_third_48 rfl ml_X10_164 okX1_mirrorOf rfl (rm_ok rfl) (Nat.le_of_ble_eq_true rfl) (Nat.le_of_ble_eq_true rfl) rfl rfl ?_
      refine ctX1_mirrorOf h (fun r12 M10 t11 h => ?_)
      exact tj_ireturn (ty := .int) dX10_third_51 rfl rfl (Nat.zero_le _) (Nat.zero_le _) (hp _ _ _ h)
    · rw [if_pos hc] at h
      refine tj_bipush (v := -4) rfl dX10_third_30 (by decide) ?_
      refine tj_goto (tgt := 51) rfl dX10_third_32 ?_
      exact tj_ireturn (ty := .int) dX10_third_51 rfl rfl (Nat.zero_le _) (Nat.zero_le _) (hp _ _ _ h)
  · rw [if_pos hc] at h
    refine tj_iconst (v := -1) rfl dX10_third_12 (by decide) ?_
    exact tj_ireturn (ty := .int) dX10_third_13 rfl rfl (Nat.zero_le _) (Nat.zero_le _) (hp _ _ _ h)
def wpX10_after (post : Int32 → MM → Int64 → Prop) (M : MM) (tl : Int64) (v1 : Int32) (v2 : Int32) (v3 : Int32) : Prop :=
  (if v1 < 0 then post (-1) M tl else (if 24 < v1 then post (-1) M tl else wpX1_isLot (fun r3 M1 t2 => (if r3 = 0 then post (-1) M1 t2 else wpX6_runMonths (fun M4 t5 => wpX10_slot (fun r8 M6 t7 => (vp_in r8 (al 43) ∧ post (M6 43 (r8 : Int32).toNatClampNeg) M6 t7)) M4 t5 v2 v3) M1 t2 v1)) M tl 3 v2 v3))
set_option maxHeartbeats 4000000 in
set_option maxRecDepth 20000 in
theorem ctX10_after {E : EV} {ad : Nat → Nat} {M : MM} {tl : Int64} {Φ : Option Value → va_W → Prop} {post : Int32 → MM → Int64 → Prop} {v1 : Int32} {v2 : Int32} {v3 : Int32} (h : wpX10_after post M tl v1 v2 v3) (hp : ∀ r M tl, post r M tl → Φ (some (.int r)) (WM E ad M tl)) : Tm E kX10_after (WM E ad M tl) [.ref (ad (0)), .int v1, .int v2, .int v3] Φ := by
  unfold wpX10_after at h
  show T E kX10_after 0 0 (WM E ad M tl) 0 [(0, .ref (ad (0))), (1, .int v1), (2, .int v2), (3, .int v3)] [] Φ
  refine tj_iload_n rfl dX10_after_0 rfl ?_
  refine tj_if_lt (tgt := 22) rfl rfl dX10_after_1 (fun hc => ?_) (fun hc => ?_)
  · rw [if_pos hc] at h
    refine tj_iconst (v := -1) rfl dX10_after_22 (by decide) ?_
    exact tj_ireturn (ty := .int) dX10_after_23 rfl rfl (Nat.zero_le _) (Nat.zero_le _) (hp _ _ _ h)
  · rw [if_neg hc] at h
    refine tj_iload_n rfl dX10_after_4 rfl ?_
    refine tj_bipush (v := 24) rfl dX10_after_5 (by decide) ?_
    refine tj_icmp_gt (tgt := 22) rfl rfl dX10_after_7 (fun hc => ?_) (fun hc => ?_)
    · rw [if_pos hc] at h
      refine tj_iconst (v := -1) rfl dX10_after_22 (by decide) ?_
      exact tj_ireturn (ty := .int) dX10_after_23 rfl rfl (Nat.zero_le _) (Nat.zero_le _) (hp _ _ _ h)
    · rw [if_neg hc] at h
      refine tj_aload_n rfl dX10_after_10 rfl ?_
      refine gf10_law (a := 0) rfl rfl dX10_after_11 fl_X10_19 ?_
      refine tj_iload_n rfl dX10_after_14 rfl ?_
      refine tj_iload_n rfl dX10_after_15 rfl ?_
      refine cf_V1 (a := 3) (z := kX1_isLot) (As := [_, _]) rfl rfl dX10_after_16 rfl ml_X10_173 okX1_isLot rfl (rm_ok rfl) (Nat.le_of_ble_eq_true rfl) (Nat.le_of_ble_eq_true rfl) rfl rfl ?_
      refine ctX1_isLot h (fun r3 M1 t2 h => ?_)
      refine tj_if_ne (tgt := 24) rfl rfl dX10_after_19 (fun hc => ?_) (fun hc => ?_)
      · rw [if_neg hc] at h
        refine tj_aload_n rfl dX10_after_24 rfl ?_
        refine gf10_run (a := 0) rfl rfl dX10_after_25 fl_X10_44 ?_
        refine tj_iload_n rfl dX10_after_28 rfl ?_
        refine cf_V6 (a := 42) (z := kX6_runMonths) (As := [_]) rfl rfl dX10_after_29 rfl ml_X10_193 okX6_runMonths rfl (rm_ok rfl) (Nat.le_of_ble_eq_true rfl) (Nat.le_of_ble_eq_true rfl) rfl rfl ?_
        refine ctX6_runMonths h (fun M4 t5 h => ?_)
        refine tj_aload_n rfl dX10_after_32 rfl ?_
        refine gf10_run (a := 0) rfl rfl dX10_after_33 fl_X10_44 ?_
        refine gf6_things (a := 42) rfl rfl dX10_after_36 fl_X10_197 ?_
        refine tj_iload_n rfl dX10_after_39 rfl ?_
        refine tj_iload_n rfl dX10_after_40 rfl ?_
        refine cf_S (z := kX10_slot) (As := [_, _]) rfl dX10_after_41 rfl ml_X10_198 okX10_slot rfl (rm_ok rfl) (Nat.le_of_ble_eq_true rfl) (Nat.le_of_ble_eq_true rfl) rfl ?_
        refine ctX10_slot h (fun r8 M6 t7 h => ?_)
        obtain ⟨hi9, h⟩ := h
        refine af_iald (a := 43) rfl rfl dX10_after_44 hi9 ?_
        exact tj_ireturn (ty := .int) dX10_after_45 rfl rfl (Nat.zero_le _) (Nat.zero_le _) (hp _ _ _ h)
      · rw [if_pos hc] at h
        refine tj_iconst (v := -1) rfl dX10_after_22 (by decide) ?_
        exact tj_ireturn (ty := .int) dX10_after_23 rfl rfl (Nat.zero_le _) (Nat.zero_le _) (hp _ _ _ h)
def wpX10_paid (post : Int32 → MM → Int64 → Prop) (M : MM) (tl : Int64) (v1 : Int32) (v2 : Int32) : Prop :=
  (if v1 < 0 then post (-1) M tl else (if 24 < v1 then post (-1) M tl else wpX10_isBank (fun r3 M1 t2 => (if r3 = 0 then post (-1) M1 t2 else wpX6_runMonths (fun M4 t5 => (vp_in v2 (al 44) ∧ post (M4 44 (v2 : Int32).toNatClampNeg) M4 t5)) M1 t2 v1)) M tl v2))
set_option maxHeartbeats 4000000 in
set_option maxRecDepth 20000 in
theorem ctX10_paid {E : EV} {ad : Nat → Nat} {M : MM} {tl : Int64} {Φ : Option Value → va_W → Prop} {post : Int32 → MM → Int64 → Prop} {v1 : Int32} {v2 : Int32} (h : wpX10_paid post M tl v1 v2) (hp : ∀ r M tl, post r M tl → Φ (some (.int r)) (WM E ad M tl)) : Tm E kX10_paid (WM E ad M tl) [.ref (ad (0)), .int v1, .int v2] Φ := by
  unfold wpX10_paid at h
  show T E kX10_paid 0 0 (WM E ad M tl) 0 [(0, .ref (ad (0))), (1, .int v1), (2, .int v2)] [] Φ
  refine tj_iload_n rfl dX10_paid_0 rfl ?_
  refine tj_if_lt (tgt := 17) rfl rfl dX10_paid_1 (fun hc => ?_) (fun hc => ?_)
  · rw [if_pos hc] at h
    refine tj_iconst (v := -1) rfl dX10_paid_17 (by decide) ?_
    exact tj_ireturn (ty := .int) dX10_paid_18 rfl rfl (Nat.zero_le _) (Nat.zero_le _) (hp _ _ _ h)
  · rw [if_neg hc] at h
    refine tj_iload_n rfl dX10_paid_4 rfl ?_
    refine tj_bipush (v := 24) rfl dX10_paid_5 (by decide) ?_
    refine tj_icmp_gt (tgt := 17) rfl rfl dX10_paid_7 (fun hc => ?_) (fun hc => ?_)
    · rw [if_pos hc] at h
      refine tj_iconst (v := -1) rfl dX10_paid_17 (by decide) ?_
      exact tj_ireturn (ty := .int) dX10_paid_18 rfl rfl (Nat.zero_le _) (Nat.zero_le _) (hp _ _ _ h)
    · rw [if_neg hc] at h
      refine tj_iload_n rfl dX10_paid_10 rfl ?_
      refine cf_S (z := kX10_isBank) (As := [_]) rfl dX10_paid_11 rfl ml_X10_201 okX10_isBank rfl (rm_ok rfl) (Nat.le_of_ble_eq_true rfl) (Nat.le_of_ble_eq_true rfl) rfl ?_
      refine ctX10_isBank h (fun r3 M1 t2 h => ?_)
      refine tj_if_ne (tgt := 19) rfl rfl dX10_paid_14 (fun hc => ?_) (fun hc => ?_)
      · rw [if_neg hc] at h
        refine tj_aload_n rfl dX10_paid_19 rfl ?_
        refine gf10_run (a := 0) rfl rfl dX10_paid_20 fl_X10_44 ?_
        refine tj_iload_n rfl dX10_paid_23 rfl ?_
        refine cf_V6 (a := 42) (z := kX6_runMonths) (As := [_]) rfl rfl dX10_paid_24 rfl ml_X10_193 okX6_runMonths rfl (rm_ok rfl) (Nat.le_of_ble_eq_true rfl) (Nat.le_of_ble_eq_true rfl) rfl rfl ?_
        refine ctX6_runMonths h (fun M4 t5 h => ?_)
        refine tj_aload_n rfl dX10_paid_27 rfl ?_
        refine gf10_run (a := 0) rfl rfl dX10_paid_28 fl_X10_44 ?_
        refine gf6_spent (a := 42) rfl rfl dX10_paid_31 fl_X10_204 ?_
        refine tj_iload_n rfl dX10_paid_34 rfl ?_
        obtain ⟨hi6, h⟩ := h
        refine af_iald (a := 44) rfl rfl dX10_paid_35 hi6 ?_
        exact tj_ireturn (ty := .int) dX10_paid_36 rfl rfl (Nat.zero_le _) (Nat.zero_le _) (hp _ _ _ h)
      · rw [if_pos hc] at h
        refine tj_iconst (v := -1) rfl dX10_paid_17 (by decide) ?_
        exact tj_ireturn (ty := .int) dX10_paid_18 rfl rfl (Nat.zero_le _) (Nat.zero_le _) (hp _ _ _ h)
def wpX10_owes (post : Int32 → MM → Int64 → Prop) (M : MM) (tl : Int64) (v1 : Int32) (v2 : Int32) : Prop :=
  (if v1 < 0 then post (-1) M tl else (if 24 < v1 then post (-1) M tl else wpX10_isBank (fun r3 M1 t2 => (if r3 = 0 then post (-1) M1 t2 else wpX6_runMonths (fun M4 t5 => wpX6_lotsOwedBy (fun r8 M6 t7 => post r8 M6 t7) M4 t5 v2) M1 t2 v1)) M tl v2))
set_option maxHeartbeats 4000000 in
set_option maxRecDepth 20000 in
theorem ctX10_owes {E : EV} {ad : Nat → Nat} {M : MM} {tl : Int64} {Φ : Option Value → va_W → Prop} {post : Int32 → MM → Int64 → Prop} {v1 : Int32} {v2 : Int32} (h : wpX10_owes post M tl v1 v2) (hp : ∀ r M tl, post r M tl → Φ (some (.int r)) (WM E ad M tl)) : Tm E kX10_owes (WM E ad M tl) [.ref (ad (0)), .int v1, .int v2] Φ := by
  unfold wpX10_owes at h
  show T E kX10_owes 0 0 (WM E ad M tl) 0 [(0, .ref (ad (0))), (1, .int v1), (2, .int v2)] [] Φ
  refine tj_iload_n rfl dX10_owes_0 rfl ?_
  refine tj_if_lt (tgt := 17) rfl rfl dX10_owes_1 (fun hc => ?_) (fun hc => ?_)
  · rw [if_pos hc] at h
    refine tj_iconst (v := -1) rfl dX10_owes_17 (by decide) ?_
    exact tj_ireturn (ty := .int) dX10_owes_18 rfl rfl (Nat.zero_le _) (Nat.zero_le _) (hp _ _ _ h)
  · rw [if_neg hc] at h
    refine tj_iload_n rfl dX10_owes_4 rfl ?_
    refine tj_bipush (v := 24) rfl dX10_owes_5 (by decide) ?_
    refine tj_icmp_gt (tgt := 17) rfl rfl dX10_owes_7 (fun hc => ?_) (fun hc => ?_)
    · rw [if_pos hc] at h
      refine tj_iconst (v := -1) rfl dX10_owes_17 (by decide) ?_
      exact tj_ireturn (ty := .int) dX10_owes_18 rfl rfl (Nat.zero_le _) (Nat.zero_le _) (hp _ _ _ h)
    · rw [if_neg hc] at h
      refine tj_iload_n rfl dX10_owes_10 rfl ?_
      refine cf_S (z := kX10_isBank) (As := [_]) rfl dX10_owes_11 rfl ml_X10_201 okX10_isBank rfl (rm_ok rfl) (Nat.le_of_ble_eq_true rfl) (Nat.le_of_ble_eq_true rfl) rfl ?_
      refine ctX10_isBank h (fun r3 M1 t2 h => ?_)
      refine tj_if_ne (tgt := 19) rfl rfl dX10_owes_14 (fun hc => ?_) (fun hc => ?_)
      · rw [if_neg hc] at h
        refine tj_aload_n rfl dX10_owes_19 rfl ?_
        refine gf10_run (a := 0) rfl rfl dX10_owes_20 fl_X10_44 ?_
        refine tj_iload_n rfl dX10_owes_23 rfl ?_
        refine cf_V6 (a := 42) (z := kX6_runMonths) (As := [_]) rfl rfl dX10_owes_24 rfl ml_X10_193 okX6_runMonths rfl (rm_ok rfl) (Nat.le_of_ble_eq_true rfl) (Nat.le_of_ble_eq_true rfl) rfl rfl ?_
        refine ctX6_runMonths h (fun M4 t5 h => ?_)
        refine tj_aload_n rfl dX10_owes_27 rfl ?_
        refine gf10_run (a := 0) rfl rfl dX10_owes_28 fl_X10_44 ?_
        refine tj_iload_n rfl dX10_owes_31 rfl ?_
        refine cf_V6 (a := 42) (z := kX6_lotsOwedBy) (As := [_]) rfl rfl dX10_owes_32 rfl ml_X10_207 okX6_lotsOwedBy rfl (rm_ok rfl) (Nat.le_of_ble_eq_true rfl) (Nat.le_of_ble_eq_true rfl) rfl rfl ?_
        refine ctX6_lotsOwedBy h (fun r8 M6 t7 h => ?_)
        exact tj_ireturn (ty := .int) dX10_owes_35 rfl rfl (Nat.zero_le _) (Nat.zero_le _) (hp _ _ _ h)
      · rw [if_pos hc] at h
        refine tj_iconst (v := -1) rfl dX10_owes_17 (by decide) ?_
        exact tj_ireturn (ty := .int) dX10_owes_18 rfl rfl (Nat.zero_le _) (Nat.zero_le _) (hp _ _ _ h)
def wpX10_fate (post : Int32 → MM → Int64 → Prop) (M : MM) (tl : Int64) (v1 : Int32) : Prop :=
  (if v1 < 0 then post (-1) M tl else (if (M 16 3) ≤ v1 then post (-1) M tl else (if v1 < 12 then wpX6_runMonths (fun M1 t2 => (vp_in v1 (al 45) ∧ post (M1 45 (v1 : Int32).toNatClampNeg) M1 t2)) M tl 24 else post (-1) M tl)))
set_option maxHeartbeats 4000000 in
set_option maxRecDepth 20000 in
theorem ctX10_fate {E : EV} {ad : Nat → Nat} {M : MM} {tl : Int64} {Φ : Option Value → va_W → Prop} {post : Int32 → MM → Int64 → Prop} {v1 : Int32} (h : wpX10_fate post M tl v1) (hp : ∀ r M tl, post r M tl → Φ (some (.int r)) (WM E ad M tl)) : Tm E kX10_fate (WM E ad M tl) [.ref (ad (0)), .int v1] Φ := by
  unfold wpX10_fate at h
  show T E kX10_fate 0 0 (WM E ad M tl) 0 [(0, .ref (ad (0))), (1, .int v1)] [] Φ
  refine tj_iload_n rfl dX10_fate_0 rfl ?_
  refine tj_if_lt (tgt := 24) rfl rfl dX10_fate_1 (fun hc => ?_) (fun hc => ?_)
  · rw [if_pos hc] at h
    refine tj_iconst (v := -1) rfl dX10_fate_24 (by decide) ?_
    exact tj_ireturn (ty := .int) dX10_fate_25 rfl rfl (Nat.zero_le _) (Nat.zero_le _) (hp _ _ _ h)
  · rw [if_neg hc] at h
    refine tj_iload_n rfl dX10_fate_4 rfl ?_
    refine tj_aload_n rfl dX10_fate_5 rfl ?_
    refine gf10_scene (a := 0) rfl rfl dX10_fate_6 fl_X10_26 ?_
    refine gf7_works (a := 14) rfl rfl dX10_fate_9 fl_X10_125 ?_
    refine gf5_size (a := 16) rfl rfl dX10_fate_12 fl_X10_129 ?_
    refine tj_icmp_ge (tgt := 24) rfl rfl dX10_fate_15 (fun hc => ?_) (fun hc => ?_)
    · rw [if_pos hc] at h
      refine tj_iconst (v := -1) rfl dX10_fate_24 (by decide) ?_
      exact tj_ireturn (ty := .int) dX10_fate_25 rfl rfl (Nat.zero_le _) (Nat.zero_le _) (hp _ _ _ h)
    · rw [if_neg hc] at h
      refine tj_iload_n rfl dX10_fate_18 rfl ?_
      refine tj_bipush (v := 12) rfl dX10_fate_19 (by decide) ?_
      refine tj_icmp_lt (tgt := 26) rfl rfl dX10_fate_21 (fun hc => ?_) (fun hc => ?_)
      · rw [if_pos hc] at h
        refine tj_aload_n rfl dX10_fate_26 rfl ?_
        refine gf10_run (a := 0) rfl rfl dX10_fate_27 fl_X10_44 ?_
        refine tj_bipush (v := 24) rfl dX10_fate_30 (by decide) ?_
        refine cf_V6 (a := 42) (z := kX6_runMonths) (As := [_]) rfl rfl dX10_fate_32 rfl ml_X10_193 okX6_runMonths rfl (rm_ok rfl) (Nat.le_of_ble_eq_true rfl) (Nat.le_of_ble_eq_true rfl) rfl rfl ?_
        refine ctX6_runMonths h (fun M1 t2 h => ?_)
        refine tj_aload_n rfl dX10_fate_35 rfl ?_
        refine gf10_run (a := 0) rfl rfl dX10_fate_36 fl_X10_44 ?_
        refine gf6_fates (a := 42) rfl rfl dX10_fate_39 fl_X10_210 ?_
        refine tj_iload_n rfl dX10_fate_42 rfl ?_
        obtain ⟨hi3, h⟩ := h
        refine af_iald (a := 45) rfl rfl dX10_fate_43 hi3 ?_
        exact tj_ireturn (ty := .int) dX10_fate_44 rfl rfl (Nat.zero_le _) (Nat.zero_le _) (hp _ _ _ h)
      · rw [if_neg hc] at h
        refine tj_iconst (v := -1) rfl dX10_fate_24 (by decide) ?_
        exact tj_ireturn (ty := .int) dX10_fate_25 rfl rfl (Nat.zero_le _) (Nat.zero_le _) (hp _ _ _ h)
def wX10_firstLot_2 (post : Int32 → MM → Int64 → Prop) : Nat → MM → Int64 → Int32 → Int32 → Prop
  | 0, _, _, _, _ => False
  | n + 1, M, tl, v0, v1 =>
    (if 8 ≤ v1 then post (-4) M tl else (if ((v0 >>> (v1 &&& 31)) &&& 1) = 0 then (wX10_firstLot_2 post n) M tl v0 (v1 + 1) else post v1 M tl))
set_option maxHeartbeats 4000000 in
set_option maxRecDepth 20000 in
theorem bX10_firstLot_2 {E : EV} {ad : Nat → Nat} {Φ : Option Value → va_W → Prop} {post : Int32 → MM → Int64 → Prop}  (hp : ∀ r M tl, post r M tl → Φ (some (.int r)) (WM E ad M tl)) : ∀ (n : Nat) (M : MM) (tl : Int64) (v0 : Int32) (v1 : Int32), wX10_firstLot_2 post n M tl v0 v1 → T E kX10_firstLot 0 0 (WM E ad M tl) 2 [(0, .int v0), (1, .int v1)] [] Φ := by
  intro n
  induction n with
  | zero => intro M tl v0 v1 h; exact False.elim h
  | succ n ih =>
    intro M tl v0 v1 h
    unfold wX10_firstLot_2 at h
    refine tj_iload_n rfl dX10_firstLot_2 rfl ?_
    refine tj_bipush (v := 8) rfl dX10_firstLot_3 (by decide) ?_
    refine tj_icmp_ge (tgt := 24) rfl rfl dX10_firstLot_5 (fun hc => ?_) (fun hc => ?_)
    · rw [if_pos hc] at h
      refine tj_bipush (v := -4) rfl dX10_firstLot_24 (by decide) ?_
      exact tj_ireturn (ty := .int) dX10_firstLot_26 rfl rfl (Nat.zero_le _) (Nat.zero_le _) (hp _ _ _ h)
    · rw [if_neg hc] at h
      refine tj_iload_n rfl dX10_firstLot_8 rfl ?_
      refine tj_iload_n rfl dX10_firstLot_9 rfl ?_
      refine tj_ishr rfl dX10_firstLot_10 ?_
      refine tj_iconst (v := 1) rfl dX10_firstLot_11 (by decide) ?_
      refine tj_iand rfl dX10_firstLot_12 ?_
      refine tj_if_eq (tgt := 18) rfl rfl dX10_firstLot_13 (fun hc => ?_) (fun hc => ?_)
      · rw [if_pos hc] at h
        refine tj_iinc (v := _ + 1) (l' := [(0, _), (1, _)]) rfl dX10_firstLot_18 rfl (by decide) rfl rfl ?_
        refine tj_goto (tgt := 2) rfl dX10_firstLot_21 ?_
        exact ih _ _ _ _ h
      · rw [if_neg hc] at h
        refine tj_iload_n rfl dX10_firstLot_16 rfl ?_
        exact tj_ireturn (ty := .int) dX10_firstLot_17 rfl rfl (Nat.zero_le _) (Nat.zero_le _) (hp _ _ _ h)
def wpX10_firstLot (post : Int32 → MM → Int64 → Prop) (M : MM) (tl : Int64) (v0 : Int32) : Prop :=
  (∃ n9, wX10_firstLot_2 post  n9 M tl v0 0)
set_option maxHeartbeats 4000000 in
set_option maxRecDepth 20000 in
theorem ctX10_firstLot {E : EV} {ad : Nat → Nat} {M : MM} {tl : Int64} {Φ : Option Value → va_W → Prop} {post : Int32 → MM → Int64 → Prop} {v0 : Int32} (h : wpX10_firstLot post M tl v0) (hp : ∀ r M tl, post r M tl → Φ (some (.int r)) (WM E ad M tl)) : Tm E kX10_firstLot (WM E ad M tl) [.int v0] Φ := by
  unfold wpX10_firstLot at h
  show T E kX10_firstLot 0 0 (WM E ad M tl) 0 [(0, .int v0)] [] Φ
  refine tj_iconst (v := 0) rfl dX10_firstLot_0 (by decide) ?_
  refine tj_istore_n (l' := [(0, _), (1, _)]) rfl dX10_firstLot_1 (by decide) rfl ?_
  obtain ⟨n9, h⟩ := h
  exact bX10_firstLot_2 hp  n9 _ _ _ _ h
def wX10_uneven_20 (post : Int32 → MM → Int64 → Prop) : Nat → MM → Int64 → Int32 → Int32 → Prop
  | 0, _, _, _, _ => False
  | n + 1, M, tl, v1, v2 =>
    (if 24 ≤ v2 then post (-4) M tl else wpX6_runMonth (fun M1 t2 => wpX1_unevenLots (fun r5 M3 t4 => (if r5 = 0 then (wX10_uneven_20 post n) M3 t4 v1 (v2 + 1) else (if v1 = 0 then post v2 M3 t4 else wpX10_firstLot (fun r8 M6 t7 => post r8 M6 t7) M3 t4 r5))) M1 t2 3 43) M tl v2)
set_option maxHeartbeats 4000000 in
set_option maxRecDepth 20000 in
theorem bX10_uneven_20 {E : EV} {ad : Nat → Nat} {Φ : Option Value → va_W → Prop} {post : Int32 → MM → Int64 → Prop}  (hp : ∀ r M tl, post r M tl → Φ (some (.int r)) (WM E ad M tl)) : ∀ (n : Nat) (M : MM) (tl : Int64) (v1 : Int32) (v2 : Int32), wX10_uneven_20 post n M tl v1 v2 → T E kX10_uneven 0 0 (WM E ad M tl) 20 [(0, .ref (ad (0))), (1, .int v1), (2, .int v2)] [] Φ := by
  intro n
  induction n with
  | zero => intro M tl v1 v2 h; exact False.elim h
  | succ n ih =>
    intro M tl v1 v2 h
    unfold wX10_uneven_20 at h
    refine tj_iload_n rfl dX10_uneven_20 rfl ?_
    refine tj_bipush (v := 24) rfl dX10_uneven_21 (by decide) ?_
    refine tj_icmp_ge (tgt := 72) rfl rfl dX10_uneven_23 (fun hc => ?_) (fun hc => ?_)
    · rw [if_pos hc] at h
      refine tj_bipush (v := -4) rfl dX10_uneven_72 (by decide) ?_
      exact tj_ireturn (ty := .int) dX10_uneven_74 rfl rfl (Nat.zero_le _) (Nat.zero_le _) (hp _ _ _ h)
    · rw [if_neg hc] at h
      refine tj_aload_n rfl dX10_uneven_26 rfl ?_
      refine gf10_run (a := 0) rfl rfl dX10_uneven_27 fl_X10_44 ?_
      refine tj_iload_n rfl dX10_uneven_30 rfl ?_
      refine cf_V6 (a := 42) (z := kX6_runMonth) (As := [_]) rfl rfl dX10_uneven_31 rfl ml_X10_216 okX6_runMonth rfl (rm_ok rfl) (Nat.le_of_ble_eq_true rfl) (Nat.le_of_ble_eq_true rfl) rfl rfl ?_
      refine ctX6_runMonth h (fun M1 t2 h => ?_)
      refine tj_aload_n rfl dX10_uneven_34 rfl ?_
      refine gf10_law (a := 0) rfl rfl dX10_uneven_35 fl_X10_19 ?_
      refine tj_aload_n rfl dX10_uneven_38 rfl ?_
      refine gf10_run (a := 0) rfl rfl dX10_uneven_39 fl_X10_44 ?_
      refine gf6_things (a := 42) rfl rfl dX10_uneven_42 fl_X10_197 ?_
      refine cf_V1 (a := 3) (z := kX1_unevenLots) (As := [_]) rfl rfl dX10_uneven_45 rfl ml_X10_189 okX1_unevenLots rfl (rm_ok rfl) (Nat.le_of_ble_eq_true rfl) (Nat.le_of_ble_eq_true rfl) rfl rfl ?_
      refine ctX1_unevenLots h (fun r5 M3 t4 h => ?_)
      refine tj_istore_n (l' := [(0, _), (1, _), (2, _), (3, _)]) rfl dX10_uneven_48 (by decide) rfl ?_
      refine tj_iload_n rfl dX10_uneven_49 rfl ?_
      refine tj_if_eq (tgt := 66) rfl rfl dX10_uneven_50 (fun hc => ?_) (fun hc => ?_)
      · rw [if_pos hc] at h
        refine tj_iinc (v := _ + 1) (l' := [(0, _), (1, _), (2, _), (3, _)]) rfl dX10_uneven_66 rfl (by decide) rfl rfl ?_
        refine tj_goto (tgt := 20) rfl dX10_uneven_69 ?_
        exact tj_pick (l' := [(0, _), (1, _), (2, _)]) [0, 1, 2] rfl (ih _ _ _ _ h)
      · rw [if_neg hc] at h
        refine tj_iload_n rfl dX10_uneven_53 rfl ?_
        refine tj_if_ne (tgt := 61) rfl rfl dX10_uneven_54 (fun hc => ?_) (fun hc => ?_)
        · rw [if_neg hc] at h
          refine tj_iload_n rfl dX10_uneven_61 rfl ?_
          refine cf_S (z := kX10_firstLot) (As := [_]) rfl dX10_uneven_62 rfl ml_X10_219 okX10_firstLot rfl (rm_ok rfl) (Nat.le_of_ble_eq_true rfl) (Nat.le_of_ble_eq_true rfl) rfl ?_
          refine ctX10_firstLot h (fun r8 M6 t7 h => ?_)
          exact tj_ireturn (ty := .int) dX10_uneven_65 rfl rfl (Nat.zero_le _) (Nat.zero_le _) (hp _ _ _ h)
        · rw [if_pos hc] at h
          refine tj_iload_n rfl dX10_uneven_57 rfl ?_
          refine tj_goto (tgt := 65) rfl dX10_uneven_58 ?_
          exact tj_ireturn (ty := .int) dX10_uneven_65 rfl rfl (Nat.zero_le _) (Nat.zero_le _) (hp _ _ _ h)
def wpX10_uneven (post : Int32 → MM → Int64 → Prop) (M : MM) (tl : Int64) (v1 : Int32) : Prop :=
  (if v1 < 0 then post (-1) M tl else (if v1 ≤ 1 then wpX6_start (fun M1 t2 => (∃ n9, wX10_uneven_20 post  n9 M1 t2 v1 0)) M tl  else post (-1) M tl))
set_option maxHeartbeats 4000000 in
set_option maxRecDepth 20000 in
theorem ctX10_uneven {E : EV} {ad : Nat → Nat} {M : MM} {tl : Int64} {Φ : Option Value → va_W → Prop} {post : Int32 → MM → Int64 → Prop} {v1 : Int32} (h : wpX10_uneven post M tl v1) (hp : ∀ r M tl, post r M tl → Φ (some (.int r)) (WM E ad M tl)) : Tm E kX10_uneven (WM E ad M tl) [.ref (ad (0)), .int v1] Φ := by
  unfold wpX10_uneven at h
  show T E kX10_uneven 0 0 (WM E ad M tl) 0 [(0, .ref (ad (0))), (1, .int v1)] [] Φ
  refine tj_iload_n rfl dX10_uneven_0 rfl ?_
  refine tj_if_lt (tgt := 9) rfl rfl dX10_uneven_1 (fun hc => ?_) (fun hc => ?_)
  · rw [if_pos hc] at h
    refine tj_iconst (v := -1) rfl dX10_uneven_9 (by decide) ?_
    exact tj_ireturn (ty := .int) dX10_uneven_10 rfl rfl (Nat.zero_le _) (Nat.zero_le _) (hp _ _ _ h)
  · rw [if_neg hc] at h
    refine tj_iload_n rfl dX10_uneven_4 rfl ?_
    refine tj_iconst (v := 1) rfl dX10_uneven_5 (by decide) ?_
    refine tj_icmp_le (tgt := 11) rfl rfl dX10_uneven_6 (fun hc => ?_) (fun hc => ?_)
    · rw [if_pos hc] at h
      refine tj_aload_n rfl dX10_uneven_11 rfl ?_
      refine gf10_run (a := 0) rfl rfl dX10_uneven_12 fl_X10_44 ?_
      refine cf_V6 (a := 42) (z := kX6_start) (As := []) rfl rfl dX10_uneven_15 rfl ml_X10_213 okX6_start rfl (rm_ok rfl) (Nat.le_of_ble_eq_true rfl) (Nat.le_of_ble_eq_true rfl) rfl rfl ?_
      refine ctX6_start h (fun M1 t2 h => ?_)
      refine tj_iconst (v := 0) rfl dX10_uneven_18 (by decide) ?_
      refine tj_istore_n (l' := [(0, _), (1, _), (2, _)]) rfl dX10_uneven_19 (by decide) rfl ?_
      obtain ⟨n9, h⟩ := h
      exact bX10_uneven_20 hp  n9 _ _ _ _ h
    · rw [if_neg hc] at h
      refine tj_iconst (v := -1) rfl dX10_uneven_9 (by decide) ?_
      exact tj_ireturn (ty := .int) dX10_uneven_10 rfl rfl (Nat.zero_le _) (Nat.zero_le _) (hp _ _ _ h)
def wpX10_go (post : Int32 → MM → Int64 → Prop) (M : MM) (tl : Int64) : Prop :=
  wpX6_runMonths (fun M1 t2 => wpX6_worksDone (fun r5 M3 t4 => ((0 : Int32).toNatClampNeg + (16 : Int32).toNatClampNeg ≤ al 43 ∧ ((0 : Int32).toNatClampNeg + (16 : Int32).toNatClampNeg ≤ al 15 ∧ (∀ M8 : MM, M8 = mrow M3 15 (va_cpy (M3 43) (M3 15) (0 : Int32).toNatClampNeg (0 : Int32).toNatClampNeg (16 : Int32).toNatClampNeg) → (∀ M9 : MM, M9 = mset M8 16 3 0 → post r5 M9 t4))))) M1 t2 ) M tl 24
set_option maxHeartbeats 4000000 in
set_option maxRecDepth 20000 in
theorem ctX10_go {E : EV} {ad : Nat → Nat} {M : MM} {tl : Int64} {Φ : Option Value → va_W → Prop} {post : Int32 → MM → Int64 → Prop} (h : wpX10_go post M tl ) (hp : ∀ r M tl, post r M tl → Φ (some (.int r)) (WM E ad M tl)) : Tm E kX10_go (WM E ad M tl) [.ref (ad (0))] Φ := by
  unfold wpX10_go at h
  show T E kX10_go 0 0 (WM E ad M tl) 0 [(0, .ref (ad (0)))] [] Φ
  refine tj_aload_n rfl dX10_go_0 rfl ?_
  refine gf10_run (a := 0) rfl rfl dX10_go_1 fl_X10_44 ?_
  refine tj_bipush (v := 24) rfl dX10_go_4 (by decide) ?_
  refine cf_V6 (a := 42) (z := kX6_runMonths) (As := [_]) rfl rfl dX10_go_6 rfl ml_X10_193 okX6_runMonths rfl (rm_ok rfl) (Nat.le_of_ble_eq_true rfl) (Nat.le_of_ble_eq_true rfl) rfl rfl ?_
  refine ctX6_runMonths h (fun M1 t2 h => ?_)
  refine tj_aload_n rfl dX10_go_9 rfl ?_
  refine gf10_run (a := 0) rfl rfl dX10_go_10 fl_X10_44 ?_
  refine cf_V6 (a := 42) (z := kX6_worksDone) (As := []) rfl rfl dX10_go_13 rfl ml_X10_222 okX6_worksDone rfl (rm_ok rfl) (Nat.le_of_ble_eq_true rfl) (Nat.le_of_ble_eq_true rfl) rfl rfl ?_
  refine ctX6_worksDone h (fun r5 M3 t4 h => ?_)
  refine tj_istore_n (l' := [(0, _), (1, _)]) rfl dX10_go_16 (by decide) rfl ?_
  refine tj_aload_n rfl dX10_go_17 rfl ?_
  refine gf10_run (a := 0) rfl rfl dX10_go_18 fl_X10_44 ?_
  refine gf6_things (a := 42) rfl rfl dX10_go_21 fl_X10_197 ?_
  refine tj_iconst (v := 0) rfl dX10_go_24 (by decide) ?_
  refine tj_aload_n rfl dX10_go_25 rfl ?_
  refine gf10_scene (a := 0) rfl rfl dX10_go_26 fl_X10_26 ?_
  refine gf7_things (a := 14) rfl rfl dX10_go_29 fl_X10_186 ?_
  refine tj_iconst (v := 0) rfl dX10_go_32 (by decide) ?_
  refine tj_bipush (v := 16) rfl dX10_go_33 (by decide) ?_
  obtain ⟨hy6, h⟩ := h
  obtain ⟨hy7, h⟩ := h
  refine tj_copy (a0 := 43) (a1 := 15) rfl rfl ml_X10_226 rfl dX10_go_35 (by decide) (by decide) (by decide) hy6 hy7 (Nat.le_of_ble_eq_true rfl) (by decide +kernel) ?_
  replace h := h _ rfl
  generalize mrow M3 15 (va_cpy (M3 43) (M3 15) (0 : Int32).toNatClampNeg (0 : Int32).toNatClampNeg (16 : Int32).toNatClampNeg) = M8 at h ⊢
  refine tj_aload_n rfl dX10_go_38 rfl ?_
  refine gf10_scene (a := 0) rfl rfl dX10_go_39 fl_X10_26 ?_
  refine gf7_works (a := 14) rfl rfl dX10_go_42 fl_X10_125 ?_
  refine tj_iconst (v := 0) rfl dX10_go_45 (by decide) ?_
  refine pf5_size (a := 16) rfl rfl dX10_go_46 fl_X10_129 ?_
  replace h := h _ rfl
  generalize mset M8 16 3 0 = M9 at h ⊢
  refine tj_iload_n rfl dX10_go_49 rfl ?_
  exact tj_ireturn (ty := .int) dX10_go_50 rfl rfl (Nat.zero_le _) (Nat.zero_le _) (hp _ _ _ h)
def wpX10_plot (post : Int32 → MM → Int64 → Prop) (M : MM) (tl : Int64) (v1 : Int32) (v2 : Int32) (v3 : Int32) (v4 : Int32) : Prop :=
  wpX7_lastMonth (fun r3 M1 t2 => (if v1 < r3 then post (-1) M1 t2 else (if 24 ≤ v1 then post (-1) M1 t2 else wpX1_isLot (fun r6 M4 t5 => (if r6 = 0 then post (-1) M4 t5 else wpX10_isThing (fun r9 M7 t8 => (if r9 = 0 then post (-1) M7 t8 else wpX5_isFull (fun r12 M10 t11 => (if r12 = 0 then wpX5_addRow (fun M13 t14 => post (M13 16 3) M13 t14) M10 t11 16 v1 v2 v3 v4 else post (-3) M10 t11)) M7 t8 16)) M4 t5 v4)) M1 t2 3 v2 v3))) M tl 14
set_option maxHeartbeats 4000000 in
set_option maxRecDepth 20000 in
theorem ctX10_plot {E : EV} {ad : Nat → Nat} {M : MM} {tl : Int64} {Φ : Option Value → va_W → Prop} {post : Int32 → MM → Int64 → Prop} {v1 : Int32} {v2 : Int32} {v3 : Int32} {v4 : Int32} (h : wpX10_plot post M tl v1 v2 v3 v4) (hp : ∀ r M tl, post r M tl → Φ (some (.int r)) (WM E ad M tl)) : Tm E kX10_plot (WM E ad M tl) [.ref (ad (0)), .int v1, .int v2, .int v3, .int v4] Φ := by
  unfold wpX10_plot at h
  show T E kX10_plot 0 0 (WM E ad M tl) 0 [(0, .ref (ad (0))), (1, .int v1), (2, .int v2), (3, .int v3), (4, .int v4)] [] Φ
  refine tj_aload_n rfl dX10_plot_0 rfl ?_
  refine gf10_scene (a := 0) rfl rfl dX10_plot_1 fl_X10_26 ?_
  refine gf7_works (a := 14) rfl rfl dX10_plot_4 fl_X10_125 ?_
  refine tj_astore (l' := [(0, _), (1, _), (2, _), (3, _), (4, _), (5, _)]) rfl dX10_plot_7 (by decide) rfl ?_
  refine tj_iload_n rfl dX10_plot_9 rfl ?_
  refine tj_aload_n rfl dX10_plot_10 rfl ?_
  refine gf10_scene (a := 0) rfl rfl dX10_plot_11 fl_X10_26 ?_
  refine cf_V7 (a := 14) (z := kX7_lastMonth) (As := []) rfl rfl dX10_plot_14 rfl ml_X10_232 okX7_lastMonth rfl (rm_ok rfl) (Nat.le_of_ble_eq_true rfl) (Nat.le_of_ble_eq_true rfl) rfl rfl ?_
  refine ctX7_lastMonth h (fun r3 M1 t2 h => ?_)
  refine tj_icmp_lt (tgt := 46) rfl rfl dX10_plot_17 (fun hc => ?_) (fun hc => ?_)
  · rw [if_pos hc] at h
    refine tj_iconst (v := -1) rfl dX10_plot_46 (by decide) ?_
    exact tj_ireturn (ty := .int) dX10_plot_47 rfl rfl (Nat.zero_le _) (Nat.zero_le _) (hp _ _ _ h)
  · rw [if_neg hc] at h
    refine tj_iload_n rfl dX10_plot_20 rfl ?_
    refine tj_bipush (v := 24) rfl dX10_plot_21 (by decide) ?_
    refine tj_icmp_ge (tgt := 46) rfl rfl dX10_plot_23 (fun hc => ?_) (fun hc => ?_)
    · rw [if_pos hc] at h
      refine tj_iconst (v := -1) rfl dX10_plot_46 (by decide) ?_
      exact tj_ireturn (ty := .int) dX10_plot_47 rfl rfl (Nat.zero_le _) (Nat.zero_le _) (hp _ _ _ h)
    · rw [if_neg hc] at h
      refine tj_aload_n rfl dX10_plot_26 rfl ?_
      refine gf10_law (a := 0) rfl rfl dX10_plot_27 fl_X10_19 ?_
      refine tj_iload_n rfl dX10_plot_30 rfl ?_
      refine tj_iload_n rfl dX10_plot_31 rfl ?_
      refine cf_V1 (a := 3) (z := kX1_isLot) (As := [_, _]) rfl rfl dX10_plot_32 rfl ml_X10_173 okX1_isLot rfl (rm_ok rfl) (Nat.le_of_ble_eq_true rfl) (Nat.le_of_ble_eq_true rfl) rfl rfl ?_
      refine ctX1_isLot h (fun r6 M4 t5 h => ?_)
      refine tj_if_eq (tgt := 46) rfl rfl dX10_plot_35 (fun hc => ?_) (fun hc => ?_)
      · rw [if_pos hc] at h
        refine tj_iconst (v := -1) rfl dX10_plot_46 (by decide) ?_
        exact tj_ireturn (ty := .int) dX10_plot_47 rfl rfl (Nat.zero_le _) (Nat.zero_le _) (hp _ _ _ h)
      · rw [if_neg hc] at h
        refine tj_iload rfl dX10_plot_38 rfl ?_
        refine cf_S (z := kX10_isThing) (As := [_]) rfl dX10_plot_40 rfl ml_X10_161 okX10_isThing rfl (rm_ok rfl) (Nat.le_of_ble_eq_true rfl) (Nat.le_of_ble_eq_true rfl) rfl ?_
        refine ctX10_isThing h (fun r9 M7 t8 h => ?_)
        refine tj_if_ne (tgt := 48) rfl rfl dX10_plot_43 (fun hc => ?_) (fun hc => ?_)
        · rw [if_neg hc] at h
          refine tj_aload rfl dX10_plot_48 rfl ?_
          refine cf_V5 (a := 16) (z := kX5_isFull) (As := []) rfl rfl dX10_plot_50 rfl ml_X10_235 okX5_isFull rfl (rm_ok rfl) (Nat.le_of_ble_eq_true rfl) (Nat.le_of_ble_eq_true rfl) rfl rfl ?_
          refine ctX5_isFull h (fun r12 M10 t11 h => ?_)
          refine tj_if_eq (tgt := 59) rfl rfl dX10_plot_53 (fun hc => ?_) (fun hc => ?_)
          · rw [if_pos hc] at h
            refine tj_aload rfl dX10_plot_59 rfl ?_
            refine tj_iload_n rfl dX10_plot_61 rfl ?_
            refine tj_iload_n rfl dX10_plot_62 rfl ?_
            refine tj_iload_n rfl dX10_plot_63 rfl ?_
            refine tj_iload rfl dX10_plot_64 rfl ?_
            refine cf_V5 (a := 16) (z := kX5_addRow) (As := [_, _, _, _]) rfl rfl dX10_plot_66 rfl ml_X10_239 okX5_addRow rfl (rm_ok rfl) (Nat.le_of_ble_eq_true rfl) (Nat.le_of_ble_eq_true rfl) rfl rfl ?_
            refine ctX5_addRow h (fun M13 t14 h => ?_)
            refine tj_aload rfl dX10_plot_69 rfl ?_
            refine gf5_size (a := 16) rfl rfl dX10_plot_71 fl_X10_129 ?_
            exact tj_ireturn (ty := .int) dX10_plot_74 rfl rfl (Nat.zero_le _) (Nat.zero_le _) (hp _ _ _ h)
          · rw [if_neg hc] at h
            refine tj_bipush (v := -3) rfl dX10_plot_56 (by decide) ?_
            exact tj_ireturn (ty := .int) dX10_plot_58 rfl rfl (Nat.zero_le _) (Nat.zero_le _) (hp _ _ _ h)
        · rw [if_pos hc] at h
          refine tj_iconst (v := -1) rfl dX10_plot_46 (by decide) ?_
          exact tj_ireturn (ty := .int) dX10_plot_47 rfl rfl (Nat.zero_le _) (Nat.zero_le _) (hp _ _ _ h)
def wpX10_gain (post : Int32 → MM → Int64 → Prop) (M : MM) (tl : Int64) (v1 : Int32) (v2 : Int32) (v3 : Int32) : Prop :=
  wpX1_isLot (fun r3 M1 t2 => (if r3 = 0 then post (-1) M1 t2 else wpX10_isBuilt (fun r6 M4 t5 => (if r6 = 0 then post (-1) M4 t5 else wpX0_gainOf (fun r9 M7 t8 => post (r9 + 1000) M7 t8) M4 t5 v1 v2 v3)) M1 t2 v3)) M tl 3 v1 v2
set_option maxHeartbeats 4000000 in
set_option maxRecDepth 20000 in
theorem ctX10_gain {E : EV} {ad : Nat → Nat} {M : MM} {tl : Int64} {Φ : Option Value → va_W → Prop} {post : Int32 → MM → Int64 → Prop} {v1 : Int32} {v2 : Int32} {v3 : Int32} (h : wpX10_gain post M tl v1 v2 v3) (hp : ∀ r M tl, post r M tl → Φ (some (.int r)) (WM E ad M tl)) : Tm E kX10_gain (WM E ad M tl) [.ref (ad (0)), .int v1, .int v2, .int v3] Φ := by
  unfold wpX10_gain at h
  show T E kX10_gain 0 0 (WM E ad M tl) 0 [(0, .ref (ad (0))), (1, .int v1), (2, .int v2), (3, .int v3)] [] Φ
  refine tj_aload_n rfl dX10_gain_0 rfl ?_
  refine gf10_law (a := 0) rfl rfl dX10_gain_1 fl_X10_19 ?_
  refine tj_iload_n rfl dX10_gain_4 rfl ?_
  refine tj_iload_n rfl dX10_gain_5 rfl ?_
  refine cf_V1 (a := 3) (z := kX1_isLot) (As := [_, _]) rfl rfl dX10_gain_6 rfl ml_X10_173 okX1_isLot rfl (rm_ok rfl) (Nat.le_of_ble_eq_true rfl) (Nat.le_of_ble_eq_true rfl) rfl rfl ?_
  refine ctX1_isLot h (fun r3 M1 t2 h => ?_)
  refine tj_if_eq (tgt := 19) rfl rfl dX10_gain_9 (fun hc => ?_) (fun hc => ?_)
  · rw [if_pos hc] at h
    refine tj_iconst (v := -1) rfl dX10_gain_19 (by decide) ?_
    exact tj_ireturn (ty := .int) dX10_gain_20 rfl rfl (Nat.zero_le _) (Nat.zero_le _) (hp _ _ _ h)
  · rw [if_neg hc] at h
    refine tj_iload_n rfl dX10_gain_12 rfl ?_
    refine cf_S (z := kX10_isBuilt) (As := [_]) rfl dX10_gain_13 rfl ml_X10_243 okX10_isBuilt rfl (rm_ok rfl) (Nat.le_of_ble_eq_true rfl) (Nat.le_of_ble_eq_true rfl) rfl ?_
    refine ctX10_isBuilt h (fun r6 M4 t5 h => ?_)
    refine tj_if_ne (tgt := 21) rfl rfl dX10_gain_16 (fun hc => ?_) (fun hc => ?_)
    · rw [if_neg hc] at h
      refine tj_aload_n rfl dX10_gain_21 rfl ?_
      refine gf10_choice (a := 0) rfl rfl dX10_gain_22 fl_X10_51 ?_
      refine tj_iload_n rfl dX10_gain_25 rfl ?_
      refine tj_iload_n rfl dX10_gain_26 rfl ?_
      refine tj_iload_n rfl dX10_gain_27 rfl ?_
      refine cf_V0 (a := 48) (z := kX0_gainOf) (As := [_, _, _]) rfl rfl dX10_gain_28 rfl ml_X10_246 okX0_gainOf rfl (rm_ok rfl) (Nat.le_of_ble_eq_true rfl) (Nat.le_of_ble_eq_true rfl) rfl rfl ?_
      refine ctX0_gainOf h (fun r9 M7 t8 h => ?_)
      refine tj_sipush (v := 1000) rfl dX10_gain_31 (by decide) ?_
      refine tj_iadd rfl dX10_gain_34 ?_
      exact tj_ireturn (ty := .int) dX10_gain_35 rfl rfl (Nat.zero_le _) (Nat.zero_le _) (hp _ _ _ h)
    · rw [if_pos hc] at h
      refine tj_iconst (v := -1) rfl dX10_gain_19 (by decide) ?_
      exact tj_ireturn (ty := .int) dX10_gain_20 rfl rfl (Nat.zero_le _) (Nat.zero_le _) (hp _ _ _ h)
def wpX10_begin (post : Int32 → MM → Int64 → Prop) (M : MM) (tl : Int64) (v1 : Int32) (v2 : Int32) (v3 : Int32) : Prop :=
  wpX1_isLot (fun r3 M1 t2 => (if r3 = 0 then post (-1) M1 t2 else (if v3 < 0 then post (-1) M1 t2 else (if v3 ≤ 1 then wpX0_bestKind (fun r6 M4 t5 => (if r6 = 0 then post (-4) M4 t5 else (if v3 = 0 then post r6 M4 t5 else wpX0_gainOf (fun r9 M7 t8 => post r9 M7 t8) M4 t5 v1 v2 r6))) M1 t2 v1 v2 else post (-1) M1 t2)))) M tl 3 v1 v2
set_option maxHeartbeats 4000000 in
set_option maxRecDepth 20000 in
theorem ctX10_begin {E : EV} {ad : Nat → Nat} {M : MM} {tl : Int64} {Φ : Option Value → va_W → Prop} {post : Int32 → MM → Int64 → Prop} {v1 : Int32} {v2 : Int32} {v3 : Int32} (h : wpX10_begin post M tl v1 v2 v3) (hp : ∀ r M tl, post r M tl → Φ (some (.int r)) (WM E ad M tl)) : Tm E kX10_begin (WM E ad M tl) [.ref (ad (0)), .int v1, .int v2, .int v3] Φ := by
  unfold wpX10_begin at h
  show T E kX10_begin 0 0 (WM E ad M tl) 0 [(0, .ref (ad (0))), (1, .int v1), (2, .int v2), (3, .int v3)] [] Φ
  refine tj_aload_n rfl dX10_begin_0 rfl ?_
  refine gf10_law (a := 0) rfl rfl dX10_begin_1 fl_X10_19 ?_
  refine tj_iload_n rfl dX10_begin_4 rfl ?_
  refine tj_iload_n rfl dX10_begin_5 rfl ?_
  refine cf_V1 (a := 3) (z := kX1_isLot) (As := [_, _]) rfl rfl dX10_begin_6 rfl ml_X10_173 okX1_isLot rfl (rm_ok rfl) (Nat.le_of_ble_eq_true rfl) (Nat.le_of_ble_eq_true rfl) rfl rfl ?_
  refine ctX1_isLot h (fun r3 M1 t2 h => ?_)
  refine tj_if_eq (tgt := 21) rfl rfl dX10_begin_9 (fun hc => ?_) (fun hc => ?_)
  · rw [if_pos hc] at h
    refine tj_iconst (v := -1) rfl dX10_begin_21 (by decide) ?_
    exact tj_ireturn (ty := .int) dX10_begin_22 rfl rfl (Nat.zero_le _) (Nat.zero_le _) (hp _ _ _ h)
  · rw [if_neg hc] at h
    refine tj_iload_n rfl dX10_begin_12 rfl ?_
    refine tj_if_lt (tgt := 21) rfl rfl dX10_begin_13 (fun hc => ?_) (fun hc => ?_)
    · rw [if_pos hc] at h
      refine tj_iconst (v := -1) rfl dX10_begin_21 (by decide) ?_
      exact tj_ireturn (ty := .int) dX10_begin_22 rfl rfl (Nat.zero_le _) (Nat.zero_le _) (hp _ _ _ h)
    · rw [if_neg hc] at h
      refine tj_iload_n rfl dX10_begin_16 rfl ?_
      refine tj_iconst (v := 1) rfl dX10_begin_17 (by decide) ?_
      refine tj_icmp_le (tgt := 23) rfl rfl dX10_begin_18 (fun hc => ?_) (fun hc => ?_)
      · rw [if_pos hc] at h
        refine tj_aload_n rfl dX10_begin_23 rfl ?_
        refine gf10_choice (a := 0) rfl rfl dX10_begin_24 fl_X10_51 ?_
        refine tj_iload_n rfl dX10_begin_27 rfl ?_
        refine tj_iload_n rfl dX10_begin_28 rfl ?_
        refine cf_V0 (a := 48) (z := kX0_bestKind) (As := [_, _]) rfl rfl dX10_begin_29 rfl ml_X10_250 okX0_bestKind rfl (rm_ok rfl) (Nat.le_of_ble_eq_true rfl) (Nat.le_of_ble_eq_true rfl) rfl rfl ?_
        refine ctX0_bestKind h (fun r6 M4 t5 h => ?_)
        refine tj_istore (l' := [(0, _), (1, _), (2, _), (3, _), (4, _)]) rfl dX10_begin_32 (by decide) rfl ?_
        refine tj_iload rfl dX10_begin_34 rfl ?_
        refine tj_if_ne (tgt := 42) rfl rfl dX10_begin_36 (fun hc => ?_) (fun hc => ?_)
        · rw [if_neg hc] at h
          refine tj_iload_n rfl dX10_begin_42 rfl ?_
          refine tj_if_ne (tgt := 51) rfl rfl dX10_begin_43 (fun hc => ?_) (fun hc => ?_)
          · rw [if_neg hc] at h
            refine tj_aload_n rfl dX10_begin_51 rfl ?_
            refine gf10_choice (a := 0) rfl rfl dX10_begin_52 fl_X10_51 ?_
            refine tj_iload_n rfl dX10_begin_55 rfl ?_
            refine tj_iload_n rfl dX10_begin_56 rfl ?_
            refine tj_iload rfl dX10_begin_57 rfl ?_
            refine cf_V0 (a := 48) (z := kX0_gainOf) (As := [_, _, _]) rfl rfl dX10_begin_59 rfl ml_X10_246 okX0_gainOf rfl (rm_ok rfl) (Nat.le_of_ble_eq_true rfl) (Nat.le_of_ble_eq_true rfl) rfl rfl ?_
            refine ctX0_gainOf h (fun r9 M7 t8 h => ?_)
            exact tj_ireturn (ty := .int) dX10_begin_62 rfl rfl (Nat.zero_le _) (Nat.zero_le _) (hp _ _ _ h)
          · rw [if_pos hc] at h
            refine tj_iload rfl dX10_begin_46 rfl ?_
            refine tj_goto (tgt := 62) rfl dX10_begin_48 ?_
            exact tj_ireturn (ty := .int) dX10_begin_62 rfl rfl (Nat.zero_le _) (Nat.zero_le _) (hp _ _ _ h)
        · rw [if_pos hc] at h
          refine tj_bipush (v := -4) rfl dX10_begin_39 (by decide) ?_
          exact tj_ireturn (ty := .int) dX10_begin_41 rfl rfl (Nat.zero_le _) (Nat.zero_le _) (hp _ _ _ h)
      · rw [if_neg hc] at h
        refine tj_iconst (v := -1) rfl dX10_begin_21 (by decide) ?_
        exact tj_ireturn (ty := .int) dX10_begin_22 rfl rfl (Nat.zero_le _) (Nat.zero_le _) (hp _ _ _ h)
def wpX10_waits (post : Int32 → MM → Int64 → Prop) (M : MM) (tl : Int64) (v1 : Int32) (v2 : Int32) : Prop :=
  wpX1_isLot (fun r3 M1 t2 => (if r3 = 0 then post (-1) M1 t2 else wpX1_matchOf (fun r6 M4 t5 => (if r6 = (-4) then post (-2) M4 t5 else wpX0_bestKind (fun r9 M7 t8 => (if r9 = 0 then post 1000 M7 t8 else wpX1_twinOf (fun r12 M10 t11 => wpX0_gainOf (fun r15 M13 t14 => post (r15 + 1000) M13 t14) M10 t11 v1 v2 r12) M7 t8 3 r9)) M4 t5 ((1 : Int32) - v1) r6)) M1 t2 3 v1 v2)) M tl 3 v1 v2
set_option maxHeartbeats 4000000 in
set_option maxRecDepth 20000 in
theorem ctX10_waits {E : EV} {ad : Nat → Nat} {M : MM} {tl : Int64} {Φ : Option Value → va_W → Prop} {post : Int32 → MM → Int64 → Prop} {v1 : Int32} {v2 : Int32} (h : wpX10_waits post M tl v1 v2) (hp : ∀ r M tl, post r M tl → Φ (some (.int r)) (WM E ad M tl)) : Tm E kX10_waits (WM E ad M tl) [.ref (ad (0)), .int v1, .int v2] Φ := by
  unfold wpX10_waits at h
  show T E kX10_waits 0 0 (WM E ad M tl) 0 [(0, .ref (ad (0))), (1, .int v1), (2, .int v2)] [] Φ
  refine tj_aload_n rfl dX10_waits_0 rfl ?_
  refine gf10_law (a := 0) rfl rfl dX10_waits_1 fl_X10_19 ?_
  refine tj_iload_n rfl dX10_waits_4 rfl ?_
  refine tj_iload_n rfl dX10_waits_5 rfl ?_
  refine cf_V1 (a := 3) (z := kX1_isLot) (As := [_, _]) rfl rfl dX10_waits_6 rfl ml_X10_173 okX1_isLot rfl (rm_ok rfl) (Nat.le_of_ble_eq_true rfl) (Nat.le_of_ble_eq_true rfl) rfl rfl ?_
  refine ctX1_isLot h (fun r3 M1 t2 h => ?_)
  refine tj_if_ne (tgt := 14) rfl rfl dX10_waits_9 (fun hc => ?_) (fun hc => ?_)
  · rw [if_neg hc] at h
    refine tj_aload_n rfl dX10_waits_14 rfl ?_
    refine gf10_law (a := 0) rfl rfl dX10_waits_15 fl_X10_19 ?_
    refine tj_iload_n rfl dX10_waits_18 rfl ?_
    refine tj_iload_n rfl dX10_waits_19 rfl ?_
    refine cf_V1 (a := 3) (z := kX1_matchOf) (As := [_, _]) rfl rfl dX10_waits_20 rfl ml_X10_183 okX1_matchOf rfl (rm_ok rfl) (Nat.le_of_ble_eq_true rfl) (Nat.le_of_ble_eq_true rfl) rfl rfl ?_
    refine ctX1_matchOf h (fun r6 M4 t5 h => ?_)
    refine tj_istore_n (l' := [(0, _), (1, _), (2, _), (3, _)]) rfl dX10_waits_23 (by decide) rfl ?_
    refine tj_iload_n rfl dX10_waits_24 rfl ?_
    refine tj_bipush (v := -4) rfl dX10_waits_25 (by decide) ?_
    refine tj_icmp_ne (tgt := 33) rfl rfl dX10_waits_27 (fun hc => ?_) (fun hc => ?_)
    · rw [if_neg hc] at h
      refine tj_aload_n rfl dX10_waits_33 rfl ?_
      refine gf10_choice (a := 0) rfl rfl dX10_waits_34 fl_X10_51 ?_
      refine tj_iconst (v := 1) rfl dX10_waits_37 (by decide) ?_
      refine tj_iload_n rfl dX10_waits_38 rfl ?_
      refine tj_isub rfl dX10_waits_39 ?_
      refine tj_iload_n rfl dX10_waits_40 rfl ?_
      refine cf_V0 (a := 48) (z := kX0_bestKind) (As := [_, _]) rfl rfl dX10_waits_41 rfl ml_X10_250 okX0_bestKind rfl (rm_ok rfl) (Nat.le_of_ble_eq_true rfl) (Nat.le_of_ble_eq_true rfl) rfl rfl ?_
      refine ctX0_bestKind h (fun r9 M7 t8 h => ?_)
      refine tj_istore (l' := [(0, _), (1, _), (2, _), (3, _), (4, _)]) rfl dX10_waits_44 (by decide) rfl ?_
      refine tj_iload rfl dX10_waits_46 rfl ?_
      refine tj_if_ne (tgt := 57) rfl rfl dX10_waits_48 (fun hc => ?_) (fun hc => ?_)
      · rw [if_neg hc] at h
        refine tj_aload_n rfl dX10_waits_57 rfl ?_
        refine gf10_choice (a := 0) rfl rfl dX10_waits_58 fl_X10_51 ?_
        refine tj_iload_n rfl dX10_waits_61 rfl ?_
        refine tj_iload_n rfl dX10_waits_62 rfl ?_
        refine tj_aload_n rfl dX10_waits_63 rfl ?_
        refine gf10_law (a := 0) rfl rfl dX10_waits_64 fl_X10_19 ?_
        refine tj_iload rfl dX10_waits_67 rfl ?_
        refine cf_V1 (a := 3) (z := kX1_twinOf) (As := [_]) rfl rfl dX10_waits_69 rfl ml_X10_140 okX1_twinOf rfl (rm_ok rfl) (Nat.le_of_ble_eq_true rfl) (Nat.le_of_ble_eq_true rfl) rfl rfl ?_
        refine ctX1_twinOf h (fun r12 M10 t11 h => ?_)
        refine cf_V0 (a := 48) (z := kX0_gainOf) (As := [_, _, _]) rfl rfl dX10_waits_72 rfl ml_X10_246 okX0_gainOf rfl (rm_ok rfl) (Nat.le_of_ble_eq_true rfl) (Nat.le_of_ble_eq_true rfl) rfl rfl ?_
        refine ctX0_gainOf h (fun r15 M13 t14 h => ?_)
        refine tj_sipush (v := 1000) rfl dX10_waits_75 (by decide) ?_
        refine tj_iadd rfl dX10_waits_78 ?_
        exact tj_ireturn (ty := .int) dX10_waits_79 rfl rfl (Nat.zero_le _) (Nat.zero_le _) (hp _ _ _ h)
      · rw [if_pos hc] at h
        refine tj_sipush (v := 1000) rfl dX10_waits_51 (by decide) ?_
        refine tj_goto (tgt := 79) rfl dX10_waits_54 ?_
        exact tj_ireturn (ty := .int) dX10_waits_79 rfl rfl (Nat.zero_le _) (Nat.zero_le _) (hp _ _ _ h)
    · rw [if_pos hc] at h
      refine tj_bipush (v := -2) rfl dX10_waits_30 (by decide) ?_
      exact tj_ireturn (ty := .int) dX10_waits_32 rfl rfl (Nat.zero_le _) (Nat.zero_le _) (hp _ _ _ h)
  · rw [if_pos hc] at h
    refine tj_iconst (v := -1) rfl dX10_waits_12 (by decide) ?_
    exact tj_ireturn (ty := .int) dX10_waits_13 rfl rfl (Nat.zero_le _) (Nat.zero_le _) (hp _ _ _ h)
def wpX10_vex (post : Int32 → MM → Int64 → Prop) (M : MM) (tl : Int64) (v1 : Int32) (v2 : Int32) : Prop :=
  wpX10_isBank (fun r3 M1 t2 => (if r3 = 0 then post (-1) M1 t2 else (if v2 < 0 then post (-1) M1 t2 else (if v2 ≤ 2 then wpX0_findVex (fun M4 t5 => (if 0 ≤ (M4 48 1) then (if v2 = 0 then post ((M4 48 0) + 1000) M4 t5 else (if v2 = 1 then post (M4 48 1) M4 t5 else post (M4 48 2) M4 t5)) else post (-4) M4 t5)) M1 t2 v1 else post (-1) M1 t2)))) M tl v1
set_option maxHeartbeats 4000000 in
set_option maxRecDepth 20000 in
theorem ctX10_vex {E : EV} {ad : Nat → Nat} {M : MM} {tl : Int64} {Φ : Option Value → va_W → Prop} {post : Int32 → MM → Int64 → Prop} {v1 : Int32} {v2 : Int32} (h : wpX10_vex post M tl v1 v2) (hp : ∀ r M tl, post r M tl → Φ (some (.int r)) (WM E ad M tl)) : Tm E kX10_vex (WM E ad M tl) [.ref (ad (0)), .int v1, .int v2] Φ := by
  unfold wpX10_vex at h
  show T E kX10_vex 0 0 (WM E ad M tl) 0 [(0, .ref (ad (0))), (1, .int v1), (2, .int v2)] [] Φ
  refine tj_iload_n rfl dX10_vex_0 rfl ?_
  refine cf_S (z := kX10_isBank) (As := [_]) rfl dX10_vex_1 rfl ml_X10_201 okX10_isBank rfl (rm_ok rfl) (Nat.le_of_ble_eq_true rfl) (Nat.le_of_ble_eq_true rfl) rfl ?_
  refine ctX10_isBank h (fun r3 M1 t2 h => ?_)
  refine tj_if_eq (tgt := 16) rfl rfl dX10_vex_4 (fun hc => ?_) (fun hc => ?_)
  · rw [if_pos hc] at h
    refine tj_iconst (v := -1) rfl dX10_vex_16 (by decide) ?_
    exact tj_ireturn (ty := .int) dX10_vex_17 rfl rfl (Nat.zero_le _) (Nat.zero_le _) (hp _ _ _ h)
  · rw [if_neg hc] at h
    refine tj_iload_n rfl dX10_vex_7 rfl ?_
    refine tj_if_lt (tgt := 16) rfl rfl dX10_vex_8 (fun hc => ?_) (fun hc => ?_)
    · rw [if_pos hc] at h
      refine tj_iconst (v := -1) rfl dX10_vex_16 (by decide) ?_
      exact tj_ireturn (ty := .int) dX10_vex_17 rfl rfl (Nat.zero_le _) (Nat.zero_le _) (hp _ _ _ h)
    · rw [if_neg hc] at h
      refine tj_iload_n rfl dX10_vex_11 rfl ?_
      refine tj_iconst (v := 2) rfl dX10_vex_12 (by decide) ?_
      refine tj_icmp_le (tgt := 18) rfl rfl dX10_vex_13 (fun hc => ?_) (fun hc => ?_)
      · rw [if_pos hc] at h
        refine tj_aload_n rfl dX10_vex_18 rfl ?_
        refine gf10_choice (a := 0) rfl rfl dX10_vex_19 fl_X10_51 ?_
        refine tj_iload_n rfl dX10_vex_22 rfl ?_
        refine cf_V0 (a := 48) (z := kX0_findVex) (As := [_]) rfl rfl dX10_vex_23 rfl ml_X10_253 okX0_findVex rfl (rm_ok rfl) (Nat.le_of_ble_eq_true rfl) (Nat.le_of_ble_eq_true rfl) rfl rfl ?_
        refine ctX0_findVex h (fun M4 t5 h => ?_)
        refine tj_aload_n rfl dX10_vex_26 rfl ?_
        refine gf10_choice (a := 0) rfl rfl dX10_vex_27 fl_X10_51 ?_
        refine gf0_vexLot (a := 48) rfl rfl dX10_vex_30 fl_X10_256 ?_
        refine tj_if_ge (tgt := 39) rfl rfl dX10_vex_33 (fun hc => ?_) (fun hc => ?_)
        · rw [if_pos hc] at h
          refine tj_iload_n rfl dX10_vex_39 rfl ?_
          refine tj_if_ne (tgt := 55) rfl rfl dX10_vex_40 (fun hc => ?_) (fun hc => ?_)
          · rw [if_neg hc] at h
            refine tj_iload_n rfl dX10_vex_55 rfl ?_
            refine tj_iconst (v := 1) rfl dX10_vex_56 (by decide) ?_
            refine tj_icmp_ne (tgt := 70) rfl rfl dX10_vex_57 (fun hc => ?_) (fun hc => ?_)
            · rw [if_neg hc] at h
              refine tj_aload_n rfl dX10_vex_70 rfl ?_
              refine gf10_choice (a := 0) rfl rfl dX10_vex_71 fl_X10_51 ?_
              refine gf0_vexKind (a := 48) rfl rfl dX10_vex_74 fl_X10_262 ?_
              exact tj_ireturn (ty := .int) dX10_vex_77 rfl rfl (Nat.zero_le _) (Nat.zero_le _) (hp _ _ _ h)
            · rw [if_pos hc] at h
              refine tj_aload_n rfl dX10_vex_60 rfl ?_
              refine gf10_choice (a := 0) rfl rfl dX10_vex_61 fl_X10_51 ?_
              refine gf0_vexLot (a := 48) rfl rfl dX10_vex_64 fl_X10_256 ?_
              refine tj_goto (tgt := 77) rfl dX10_vex_67 ?_
              exact tj_ireturn (ty := .int) dX10_vex_77 rfl rfl (Nat.zero_le _) (Nat.zero_le _) (hp _ _ _ h)
          · rw [if_pos hc] at h
            refine tj_aload_n rfl dX10_vex_43 rfl ?_
            refine gf10_choice (a := 0) rfl rfl dX10_vex_44 fl_X10_51 ?_
            refine gf0_vexMost (a := 48) rfl rfl dX10_vex_47 fl_X10_259 ?_
            refine tj_sipush (v := 1000) rfl dX10_vex_50 (by decide) ?_
            refine tj_iadd rfl dX10_vex_53 ?_
            exact tj_ireturn (ty := .int) dX10_vex_54 rfl rfl (Nat.zero_le _) (Nat.zero_le _) (hp _ _ _ h)
        · rw [if_neg hc] at h
          refine tj_bipush (v := -4) rfl dX10_vex_36 (by decide) ?_
          exact tj_ireturn (ty := .int) dX10_vex_38 rfl rfl (Nat.zero_le _) (Nat.zero_le _) (hp _ _ _ h)
      · rw [if_neg hc] at h
        refine tj_iconst (v := -1) rfl dX10_vex_16 (by decide) ?_
        exact tj_ireturn (ty := .int) dX10_vex_17 rfl rfl (Nat.zero_le _) (Nat.zero_le _) (hp _ _ _ h)
def wpX10_want (post : Int32 → MM → Int64 → Prop) (M : MM) (tl : Int64) (v1 : Int32) (v2 : Int32) : Prop :=
  wpX1_isLot (fun r3 M1 t2 => (if r3 = 0 then post (-1) M1 t2 else wpX10_isBuilt (fun r6 M4 t5 => (if r6 = 0 then post (-1) M4 t5 else wpX5_isFull (fun r9 M7 t8 => (if r9 = 0 then wpX5_addRow (fun M10 t11 => post (M10 18 3) M10 t11) M7 t8 18 v1 v2 0 0 else post (-3) M7 t8)) M4 t5 18)) M1 t2 v2)) M tl 3 0 v1
set_option maxHeartbeats 4000000 in
set_option maxRecDepth 20000 in
theorem ctX10_want {E : EV} {ad : Nat → Nat} {M : MM} {tl : Int64} {Φ : Option Value → va_W → Prop} {post : Int32 → MM → Int64 → Prop} {v1 : Int32} {v2 : Int32} (h : wpX10_want post M tl v1 v2) (hp : ∀ r M tl, post r M tl → Φ (some (.int r)) (WM E ad M tl)) : Tm E kX10_want (WM E ad M tl) [.ref (ad (0)), .int v1, .int v2] Φ := by
  unfold wpX10_want at h
  show T E kX10_want 0 0 (WM E ad M tl) 0 [(0, .ref (ad (0))), (1, .int v1), (2, .int v2)] [] Φ
  refine tj_aload_n rfl dX10_want_0 rfl ?_
  refine gf10_law (a := 0) rfl rfl dX10_want_1 fl_X10_19 ?_
  refine tj_iconst (v := 0) rfl dX10_want_4 (by decide) ?_
  refine tj_iload_n rfl dX10_want_5 rfl ?_
  refine cf_V1 (a := 3) (z := kX1_isLot) (As := [_, _]) rfl rfl dX10_want_6 rfl ml_X10_173 okX1_isLot rfl (rm_ok rfl) (Nat.le_of_ble_eq_true rfl) (Nat.le_of_ble_eq_true rfl) rfl rfl ?_
  refine ctX1_isLot h (fun r3 M1 t2 h => ?_)
  refine tj_if_eq (tgt := 19) rfl rfl dX10_want_9 (fun hc => ?_) (fun hc => ?_)
  · rw [if_pos hc] at h
    refine tj_iconst (v := -1) rfl dX10_want_19 (by decide) ?_
    exact tj_ireturn (ty := .int) dX10_want_20 rfl rfl (Nat.zero_le _) (Nat.zero_le _) (hp _ _ _ h)
  · rw [if_neg hc] at h
    refine tj_iload_n rfl dX10_want_12 rfl ?_
    refine cf_S (z := kX10_isBuilt) (As := [_]) rfl dX10_want_13 rfl ml_X10_243 okX10_isBuilt rfl (rm_ok rfl) (Nat.le_of_ble_eq_true rfl) (Nat.le_of_ble_eq_true rfl) rfl ?_
    refine ctX10_isBuilt h (fun r6 M4 t5 h => ?_)
    refine tj_if_ne (tgt := 21) rfl rfl dX10_want_16 (fun hc => ?_) (fun hc => ?_)
    · rw [if_neg hc] at h
      refine tj_aload_n rfl dX10_want_21 rfl ?_
      refine gf10_scene (a := 0) rfl rfl dX10_want_22 fl_X10_26 ?_
      refine gf7_wants (a := 14) rfl rfl dX10_want_25 fl_X10_265 ?_
      refine cf_V5 (a := 18) (z := kX5_isFull) (As := []) rfl rfl dX10_want_28 rfl ml_X10_235 okX5_isFull rfl (rm_ok rfl) (Nat.le_of_ble_eq_true rfl) (Nat.le_of_ble_eq_true rfl) rfl rfl ?_
      refine ctX5_isFull h (fun r9 M7 t8 h => ?_)
      refine tj_if_eq (tgt := 37) rfl rfl dX10_want_31 (fun hc => ?_) (fun hc => ?_)
      · rw [if_pos hc] at h
        refine tj_aload_n rfl dX10_want_37 rfl ?_
        refine gf10_scene (a := 0) rfl rfl dX10_want_38 fl_X10_26 ?_
        refine gf7_wants (a := 14) rfl rfl dX10_want_41 fl_X10_265 ?_
        refine tj_iload_n rfl dX10_want_44 rfl ?_
        refine tj_iload_n rfl dX10_want_45 rfl ?_
        refine tj_iconst (v := 0) rfl dX10_want_46 (by decide) ?_
        refine tj_iconst (v := 0) rfl dX10_want_47 (by decide) ?_
        refine cf_V5 (a := 18) (z := kX5_addRow) (As := [_, _, _, _]) rfl rfl dX10_want_48 rfl ml_X10_239 okX5_addRow rfl (rm_ok rfl) (Nat.le_of_ble_eq_true rfl) (Nat.le_of_ble_eq_true rfl) rfl rfl ?_
        refine ctX5_addRow h (fun M10 t11 h => ?_)
        refine tj_aload_n rfl dX10_want_51 rfl ?_
        refine gf10_scene (a := 0) rfl rfl dX10_want_52 fl_X10_26 ?_
        refine gf7_wants (a := 14) rfl rfl dX10_want_55 fl_X10_265 ?_
        refine gf5_size (a := 18) rfl rfl dX10_want_58 fl_X10_129 ?_
        exact tj_ireturn (ty := .int) dX10_want_61 rfl rfl (Nat.zero_le _) (Nat.zero_le _) (hp _ _ _ h)
      · rw [if_neg hc] at h
        refine tj_bipush (v := -3) rfl dX10_want_34 (by decide) ?_
        exact tj_ireturn (ty := .int) dX10_want_36 rfl rfl (Nat.zero_le _) (Nat.zero_le _) (hp _ _ _ h)
    · rw [if_pos hc] at h
      refine tj_iconst (v := -1) rfl dX10_want_19 (by decide) ?_
      exact tj_ireturn (ty := .int) dX10_want_20 rfl rfl (Nat.zero_le _) (Nat.zero_le _) (hp _ _ _ h)
def wpX10_content (post : Int32 → MM → Int64 → Prop) (M : MM) (tl : Int64) : Prop :=
  wpX5_empty (fun r3 M1 t2 => post r3 M1 t2) M tl 18
set_option maxHeartbeats 4000000 in
set_option maxRecDepth 20000 in
theorem ctX10_content {E : EV} {ad : Nat → Nat} {M : MM} {tl : Int64} {Φ : Option Value → va_W → Prop} {post : Int32 → MM → Int64 → Prop} (h : wpX10_content post M tl ) (hp : ∀ r M tl, post r M tl → Φ (some (.int r)) (WM E ad M tl)) : Tm E kX10_content (WM E ad M tl) [.ref (ad (0))] Φ := by
  unfold wpX10_content at h
  show T E kX10_content 0 0 (WM E ad M tl) 0 [(0, .ref (ad (0)))] [] Φ
  refine tj_aload_n rfl dX10_content_0 rfl ?_
  refine gf10_scene (a := 0) rfl rfl dX10_content_1 fl_X10_26 ?_
  refine gf7_wants (a := 14) rfl rfl dX10_content_4 fl_X10_265 ?_
  refine cf_V5 (a := 18) (z := kX5_empty) (As := []) rfl rfl dX10_content_7 rfl ml_X10_268 okX5_empty rfl (rm_ok rfl) (Nat.le_of_ble_eq_true rfl) (Nat.le_of_ble_eq_true rfl) rfl rfl ?_
  refine ctX5_empty h (fun r3 M1 t2 h => ?_)
  exact tj_ireturn (ty := .int) dX10_content_10 rfl rfl (Nat.zero_le _) (Nat.zero_le _) (hp _ _ _ h)
def wX10_plan_52 (post : Int32 → MM → Int64 → Prop) (M : MM) (tl : Int64) (v1 : Int32) (v2 : Int32) (v3 : Int32) : Prop :=
  (if v3 = 0 then post (-2) M tl else wpX3_findPlan (fun r3 M1 t2 => (if v2 = 0 then post r3 M1 t2 else wpX3_monthOf (fun r6 M4 t5 => post r6 M4 t5) M1 t2 (v2 - 10))) M tl v1)
set_option maxHeartbeats 4000000 in
set_option maxRecDepth 20000 in
theorem bX10_plan_52 {E : EV} {ad : Nat → Nat} {M : MM} {tl : Int64} {Φ : Option Value → va_W → Prop} {post : Int32 → MM → Int64 → Prop} {v1 : Int32} {v2 : Int32} {v3 : Int32} (hp : ∀ r M tl, post r M tl → Φ (some (.int r)) (WM E ad M tl)) (h : wX10_plan_52 post M tl v1 v2 v3) : T E kX10_plan 0 0 (WM E ad M tl) 52 [(0, .ref (ad (0))), (1, .int v1), (2, .int v2), (3, .int v3)] [] Φ := by
  unfold wX10_plan_52 at h
  refine tj_iload_n rfl dX10_plan_52 rfl ?_
  refine tj_if_ne (tgt := 59) rfl rfl dX10_plan_53 (fun hc => ?_) (fun hc => ?_)
  · rw [if_neg hc] at h
    refine tj_aload_n rfl dX10_plan_59 rfl ?_
    refine gf10_planner (a := 0) rfl rfl dX10_plan_60 fl_X10_58 ?_
    refine tj_iload_n rfl dX10_plan_63 rfl ?_
    refine cf_V3 (a := 49) (z := kX3_findPlan) (As := [_]) rfl rfl dX10_plan_64 rfl ml_X10_271 okX3_findPlan rfl (rm_ok rfl) (Nat.le_of_ble_eq_true rfl) (Nat.le_of_ble_eq_true rfl) rfl rfl ?_
    refine ctX3_findPlan h (fun r3 M1 t2 h => ?_)
    refine tj_istore (l' := [(0, _), (1, _), (2, _), (3, _), (5, _)]) rfl dX10_plan_67 (by decide) rfl ?_
    refine tj_iload_n rfl dX10_plan_69 rfl ?_
    refine tj_if_ne (tgt := 78) rfl rfl dX10_plan_70 (fun hc => ?_) (fun hc => ?_)
    · rw [if_neg hc] at h
      refine tj_aload_n rfl dX10_plan_78 rfl ?_
      refine gf10_planner (a := 0) rfl rfl dX10_plan_79 fl_X10_58 ?_
      refine tj_iload_n rfl dX10_plan_82 rfl ?_
      refine tj_bipush (v := 10) rfl dX10_plan_83 (by decide) ?_
      refine tj_isub rfl dX10_plan_85 ?_
      refine cf_V3 (a := 49) (z := kX3_monthOf) (As := [_]) rfl rfl dX10_plan_86 rfl ml_X10_274 okX3_monthOf rfl (rm_ok rfl) (Nat.le_of_ble_eq_true rfl) (Nat.le_of_ble_eq_true rfl) rfl rfl ?_
      refine ctX3_monthOf h (fun r6 M4 t5 h => ?_)
      exact tj_ireturn (ty := .int) dX10_plan_89 rfl rfl (Nat.zero_le _) (Nat.zero_le _) (hp _ _ _ h)
    · rw [if_pos hc] at h
      refine tj_iload rfl dX10_plan_73 rfl ?_
      refine tj_goto (tgt := 89) rfl dX10_plan_75 ?_
      exact tj_ireturn (ty := .int) dX10_plan_89 rfl rfl (Nat.zero_le _) (Nat.zero_le _) (hp _ _ _ h)
  · rw [if_pos hc] at h
    refine tj_bipush (v := -2) rfl dX10_plan_56 (by decide) ?_
    exact tj_ireturn (ty := .int) dX10_plan_58 rfl rfl (Nat.zero_le _) (Nat.zero_le _) (hp _ _ _ h)
def wX10_plan_30 (post : Int32 → MM → Int64 → Prop) (M : MM) (tl : Int64) (v1 : Int32) (v2 : Int32) (v3 : Int32) (s0 : Int32) : Prop :=
  (if v1 < 0 then post (-1) M tl else (if 4 ≤ v1 then post (-1) M tl else (if v2 = 0 then wX10_plan_52 post  M tl v1 v2 v3 else (if s0 = 0 then post (-1) M tl else wX10_plan_52 post  M tl v1 v2 v3))))
set_option maxHeartbeats 4000000 in
set_option maxRecDepth 20000 in
theorem bX10_plan_30 {E : EV} {ad : Nat → Nat} {M : MM} {tl : Int64} {Φ : Option Value → va_W → Prop} {post : Int32 → MM → Int64 → Prop} {v1 : Int32} {v2 : Int32} {v3 : Int32} {s0 : Int32} (hp : ∀ r M tl, post r M tl → Φ (some (.int r)) (WM E ad M tl)) (h : wX10_plan_30 post M tl v1 v2 v3 s0) : T E kX10_plan 0 0 (WM E ad M tl) 30 [(0, .ref (ad (0))), (1, .int v1), (2, .int v2), (3, .int v3)] [.int s0] Φ := by
  unfold wX10_plan_30 at h
  refine tj_istore (l' := [(0, _), (1, _), (2, _), (3, _), (4, _)]) rfl dX10_plan_30 (by decide) rfl ?_
  refine tj_iload_n rfl dX10_plan_32 rfl ?_
  refine tj_if_lt (tgt := 50) rfl rfl dX10_plan_33 (fun hc => ?_) (fun hc => ?_)
  · rw [if_pos hc] at h
    refine tj_iconst (v := -1) rfl dX10_plan_50 (by decide) ?_
    exact tj_ireturn (ty := .int) dX10_plan_51 rfl rfl (Nat.zero_le _) (Nat.zero_le _) (hp _ _ _ h)
  · rw [if_neg hc] at h
    refine tj_iload_n rfl dX10_plan_36 rfl ?_
    refine tj_iconst (v := 4) rfl dX10_plan_37 (by decide) ?_
    refine tj_icmp_ge (tgt := 50) rfl rfl dX10_plan_38 (fun hc => ?_) (fun hc => ?_)
    · rw [if_pos hc] at h
      refine tj_iconst (v := -1) rfl dX10_plan_50 (by decide) ?_
      exact tj_ireturn (ty := .int) dX10_plan_51 rfl rfl (Nat.zero_le _) (Nat.zero_le _) (hp _ _ _ h)
    · rw [if_neg hc] at h
      refine tj_iload_n rfl dX10_plan_41 rfl ?_
      refine tj_if_eq (tgt := 52) rfl rfl dX10_plan_42 (fun hc => ?_) (fun hc => ?_)
      · rw [if_pos hc] at h
        exact tj_pick (l' := [(0, _), (1, _), (2, _), (3, _)]) [0, 1, 2, 3] rfl (bX10_plan_52 hp  h)
      · rw [if_neg hc] at h
        refine tj_iload rfl dX10_plan_45 rfl ?_
        refine tj_if_ne (tgt := 52) rfl rfl dX10_plan_47 (fun hc => ?_) (fun hc => ?_)
        · rw [if_neg hc] at h
          exact tj_pick (l' := [(0, _), (1, _), (2, _), (3, _)]) [0, 1, 2, 3] rfl (bX10_plan_52 hp  h)
        · rw [if_pos hc] at h
          refine tj_iconst (v := -1) rfl dX10_plan_50 (by decide) ?_
          exact tj_ireturn (ty := .int) dX10_plan_51 rfl rfl (Nat.zero_le _) (Nat.zero_le _) (hp _ _ _ h)
def wX10_plan_29 (post : Int32 → MM → Int64 → Prop) (M : MM) (tl : Int64) (v1 : Int32) (v2 : Int32) (v3 : Int32) : Prop :=
  wX10_plan_30 post  M tl v1 v2 v3 0
set_option maxHeartbeats 4000000 in
set_option maxRecDepth 20000 in
theorem bX10_plan_29 {E : EV} {ad : Nat → Nat} {M : MM} {tl : Int64} {Φ : Option Value → va_W → Prop} {post : Int32 → MM → Int64 → Prop} {v1 : Int32} {v2 : Int32} {v3 : Int32} (hp : ∀ r M tl, post r M tl → Φ (some (.int r)) (WM E ad M tl)) (h : wX10_plan_29 post M tl v1 v2 v3) : T E kX10_plan 0 0 (WM E ad M tl) 29 [(0, .ref (ad (0))), (1, .int v1), (2, .int v2), (3, .int v3)] [] Φ := by
  unfold wX10_plan_29 at h
  refine tj_iconst (v := 0) rfl dX10_plan_29 (by decide) ?_
  exact bX10_plan_30 hp  h
def wpX10_plan (post : Int32 → MM → Int64 → Prop) (M : MM) (tl : Int64) (v1 : Int32) (v2 : Int32) : Prop :=
  (if v2 < 10 then wX10_plan_29 post  M tl v1 v2 (M 18 3) else (if ((10 : Int32) + (M 18 3)) ≤ v2 then wX10_plan_29 post  M tl v1 v2 (M 18 3) else wX10_plan_30 post  M tl v1 v2 (M 18 3) 1))
set_option maxHeartbeats 4000000 in
set_option maxRecDepth 20000 in
theorem ctX10_plan {E : EV} {ad : Nat → Nat} {M : MM} {tl : Int64} {Φ : Option Value → va_W → Prop} {post : Int32 → MM → Int64 → Prop} {v1 : Int32} {v2 : Int32} (h : wpX10_plan post M tl v1 v2) (hp : ∀ r M tl, post r M tl → Φ (some (.int r)) (WM E ad M tl)) : Tm E kX10_plan (WM E ad M tl) [.ref (ad (0)), .int v1, .int v2] Φ := by
  unfold wpX10_plan at h
  show T E kX10_plan 0 0 (WM E ad M tl) 0 [(0, .ref (ad (0))), (1, .int v1), (2, .int v2)] [] Φ
  refine tj_aload_n rfl dX10_plan_0 rfl ?_
  refine gf10_scene (a := 0) rfl rfl dX10_plan_1 fl_X10_26 ?_
  refine gf7_wants (a := 14) rfl rfl dX10_plan_4 fl_X10_265 ?_
  refine gf5_size (a := 18) rfl rfl dX10_plan_7 fl_X10_129 ?_
  refine tj_istore_n (l' := [(0, _), (1, _), (2, _), (3, _)]) rfl dX10_plan_10 (by decide) rfl ?_
  refine tj_iload_n rfl dX10_plan_11 rfl ?_
  refine tj_bipush (v := 10) rfl dX10_plan_12 (by decide) ?_
  refine tj_icmp_lt (tgt := 29) rfl rfl dX10_plan_14 (fun hc => ?_) (fun hc => ?_)
  · rw [if_pos hc] at h
    exact bX10_plan_29 hp  h
  · rw [if_neg hc] at h
    refine tj_iload_n rfl dX10_plan_17 rfl ?_
    refine tj_bipush (v := 10) rfl dX10_plan_18 (by decide) ?_
    refine tj_iload_n rfl dX10_plan_20 rfl ?_
    refine tj_iadd rfl dX10_plan_21 ?_
    refine tj_icmp_ge (tgt := 29) rfl rfl dX10_plan_22 (fun hc => ?_) (fun hc => ?_)
    · rw [if_pos hc] at h
      exact bX10_plan_29 hp  h
    · rw [if_neg hc] at h
      refine tj_iconst (v := 1) rfl dX10_plan_25 (by decide) ?_
      refine tj_goto (tgt := 30) rfl dX10_plan_26 ?_
      exact bX10_plan_30 hp  h
def wpX10_cannot (post : Int32 → MM → Int64 → Prop) (M : MM) (tl : Int64) (v1 : Int32) : Prop :=
  (if v1 < 0 then post (-1) M tl else (if v1 ≤ 1 then (if v1 = 0 then wpX3_kindsBarred (fun r6 M4 t5 => post r6 M4 t5) M tl  else wpX3_costInstead (fun r3 M1 t2 => post r3 M1 t2) M tl ) else post (-1) M tl))
set_option maxHeartbeats 4000000 in
set_option maxRecDepth 20000 in
theorem ctX10_cannot {E : EV} {ad : Nat → Nat} {M : MM} {tl : Int64} {Φ : Option Value → va_W → Prop} {post : Int32 → MM → Int64 → Prop} {v1 : Int32} (h : wpX10_cannot post M tl v1) (hp : ∀ r M tl, post r M tl → Φ (some (.int r)) (WM E ad M tl)) : Tm E kX10_cannot (WM E ad M tl) [.ref (ad (0)), .int v1] Φ := by
  unfold wpX10_cannot at h
  show T E kX10_cannot 0 0 (WM E ad M tl) 0 [(0, .ref (ad (0))), (1, .int v1)] [] Φ
  refine tj_iload_n rfl dX10_cannot_0 rfl ?_
  refine tj_if_lt (tgt := 9) rfl rfl dX10_cannot_1 (fun hc => ?_) (fun hc => ?_)
  · rw [if_pos hc] at h
    refine tj_iconst (v := -1) rfl dX10_cannot_9 (by decide) ?_
    exact tj_ireturn (ty := .int) dX10_cannot_10 rfl rfl (Nat.zero_le _) (Nat.zero_le _) (hp _ _ _ h)
  · rw [if_neg hc] at h
    refine tj_iload_n rfl dX10_cannot_4 rfl ?_
    refine tj_iconst (v := 1) rfl dX10_cannot_5 (by decide) ?_
    refine tj_icmp_le (tgt := 11) rfl rfl dX10_cannot_6 (fun hc => ?_) (fun hc => ?_)
    · rw [if_pos hc] at h
      refine tj_iload_n rfl dX10_cannot_11 rfl ?_
      refine tj_if_ne (tgt := 25) rfl rfl dX10_cannot_12 (fun hc => ?_) (fun hc => ?_)
      · rw [if_neg hc] at h
        refine tj_aload_n rfl dX10_cannot_25 rfl ?_
        refine gf10_planner (a := 0) rfl rfl dX10_cannot_26 fl_X10_58 ?_
        refine cf_V3 (a := 49) (z := kX3_costInstead) (As := []) rfl rfl dX10_cannot_29 rfl ml_X10_280 okX3_costInstead rfl (rm_ok rfl) (Nat.le_of_ble_eq_true rfl) (Nat.le_of_ble_eq_true rfl) rfl rfl ?_
        refine ctX3_costInstead h (fun r3 M1 t2 h => ?_)
        exact tj_ireturn (ty := .int) dX10_cannot_32 rfl rfl (Nat.zero_le _) (Nat.zero_le _) (hp _ _ _ h)
      · rw [if_pos hc] at h
        refine tj_aload_n rfl dX10_cannot_15 rfl ?_
        refine gf10_planner (a := 0) rfl rfl dX10_cannot_16 fl_X10_58 ?_
        refine cf_V3 (a := 49) (z := kX3_kindsBarred) (As := []) rfl rfl dX10_cannot_19 rfl ml_X10_277 okX3_kindsBarred rfl (rm_ok rfl) (Nat.le_of_ble_eq_true rfl) (Nat.le_of_ble_eq_true rfl) rfl rfl ?_
        refine ctX3_kindsBarred h (fun r6 M4 t5 h => ?_)
        refine tj_goto (tgt := 32) rfl dX10_cannot_22 ?_
        exact tj_ireturn (ty := .int) dX10_cannot_32 rfl rfl (Nat.zero_le _) (Nat.zero_le _) (hp _ _ _ h)
    · rw [if_neg hc] at h
      refine tj_iconst (v := -1) rfl dX10_cannot_9 (by decide) ?_
      exact tj_ireturn (ty := .int) dX10_cannot_10 rfl rfl (Nat.zero_le _) (Nat.zero_le _) (hp _ _ _ h)
def wpX10_lossOfBoth (post : Int32 → MM → Int64 → Prop) (M : MM) (tl : Int64) (v1 : Int32) (v2 : Int32) (v3 : Int32) : Prop :=
  wpX1_tasteOf (fun r3 M1 t2 => wpX1_matchOf (fun r6 M4 t5 => (if r6 = (-4) then post r3 M4 t5 else wpX7_kindAt (fun r9 M7 t8 => wpX1_tasteOf (fun r12 M10 t11 => post (((M4 3 2) + r3) + r12) M10 t11) M7 t8 3 ((1 : Int32) - v1) r9) M4 t5 14 ((1 : Int32) - v1) r6)) M1 t2 3 v1 v2) M tl 3 v1 v3
set_option maxHeartbeats 4000000 in
set_option maxRecDepth 20000 in
theorem ctX10_lossOfBoth {E : EV} {ad : Nat → Nat} {M : MM} {tl : Int64} {Φ : Option Value → va_W → Prop} {post : Int32 → MM → Int64 → Prop} {v1 : Int32} {v2 : Int32} {v3 : Int32} (h : wpX10_lossOfBoth post M tl v1 v2 v3) (hp : ∀ r M tl, post r M tl → Φ (some (.int r)) (WM E ad M tl)) : Tm E kX10_lossOfBoth (WM E ad M tl) [.ref (ad (0)), .int v1, .int v2, .int v3] Φ := by
  unfold wpX10_lossOfBoth at h
  show T E kX10_lossOfBoth 0 0 (WM E ad M tl) 0 [(0, .ref (ad (0))), (1, .int v1), (2, .int v2), (3, .int v3)] [] Φ
  refine tj_aload_n rfl dX10_lossOfBoth_0 rfl ?_
  refine gf10_law (a := 0) rfl rfl dX10_lossOfBoth_1 fl_X10_19 ?_
  refine tj_iload_n rfl dX10_lossOfBoth_4 rfl ?_
  refine tj_iload_n rfl dX10_lossOfBoth_5 rfl ?_
  refine cf_V1 (a := 3) (z := kX1_tasteOf) (As := [_, _]) rfl rfl dX10_lossOfBoth_6 rfl ml_X10_151 okX1_tasteOf rfl (rm_ok rfl) (Nat.le_of_ble_eq_true rfl) (Nat.le_of_ble_eq_true rfl) rfl rfl ?_
  refine ctX1_tasteOf h (fun r3 M1 t2 h => ?_)
  refine tj_istore (l' := [(0, _), (1, _), (2, _), (3, _), (4, _)]) rfl dX10_lossOfBoth_9 (by decide) rfl ?_
  refine tj_aload_n rfl dX10_lossOfBoth_11 rfl ?_
  refine gf10_law (a := 0) rfl rfl dX10_lossOfBoth_12 fl_X10_19 ?_
  refine tj_iload_n rfl dX10_lossOfBoth_15 rfl ?_
  refine tj_iload_n rfl dX10_lossOfBoth_16 rfl ?_
  refine cf_V1 (a := 3) (z := kX1_matchOf) (As := [_, _]) rfl rfl dX10_lossOfBoth_17 rfl ml_X10_183 okX1_matchOf rfl (rm_ok rfl) (Nat.le_of_ble_eq_true rfl) (Nat.le_of_ble_eq_true rfl) rfl rfl ?_
  refine ctX1_matchOf h (fun r6 M4 t5 h => ?_)
  refine tj_istore (l' := [(0, _), (1, _), (2, _), (3, _), (4, _), (5, _)]) rfl dX10_lossOfBoth_20 (by decide) rfl ?_
  refine tj_iload rfl dX10_lossOfBoth_22 rfl ?_
  refine tj_bipush (v := -4) rfl dX10_lossOfBoth_24 (by decide) ?_
  refine tj_icmp_ne (tgt := 32) rfl rfl dX10_lossOfBoth_26 (fun hc => ?_) (fun hc => ?_)
  · rw [if_neg hc] at h
    refine tj_aload_n rfl dX10_lossOfBoth_32 rfl ?_
    refine gf10_law (a := 0) rfl rfl dX10_lossOfBoth_33 fl_X10_19 ?_
    refine gf1_pull (a := 3) rfl rfl dX10_lossOfBoth_36 fl_X10_122 ?_
    refine tj_iload rfl dX10_lossOfBoth_39 rfl ?_
    refine tj_iadd rfl dX10_lossOfBoth_41 ?_
    refine tj_aload_n rfl dX10_lossOfBoth_42 rfl ?_
    refine gf10_law (a := 0) rfl rfl dX10_lossOfBoth_43 fl_X10_19 ?_
    refine tj_iconst (v := 1) rfl dX10_lossOfBoth_46 (by decide) ?_
    refine tj_iload_n rfl dX10_lossOfBoth_47 rfl ?_
    refine tj_isub rfl dX10_lossOfBoth_48 ?_
    refine tj_aload_n rfl dX10_lossOfBoth_49 rfl ?_
    refine gf10_scene (a := 0) rfl rfl dX10_lossOfBoth_50 fl_X10_26 ?_
    refine tj_iconst (v := 1) rfl dX10_lossOfBoth_53 (by decide) ?_
    refine tj_iload_n rfl dX10_lossOfBoth_54 rfl ?_
    refine tj_isub rfl dX10_lossOfBoth_55 ?_
    refine tj_iload rfl dX10_lossOfBoth_56 rfl ?_
    refine cf_V7 (a := 14) (z := kX7_kindAt) (As := [_, _]) rfl rfl dX10_lossOfBoth_58 rfl ml_X10_283 okX7_kindAt rfl (rm_ok rfl) (Nat.le_of_ble_eq_true rfl) (Nat.le_of_ble_eq_true rfl) rfl rfl ?_
    refine ctX7_kindAt h (fun r9 M7 t8 h => ?_)
    refine cf_V1 (a := 3) (z := kX1_tasteOf) (As := [_, _]) rfl rfl dX10_lossOfBoth_61 rfl ml_X10_151 okX1_tasteOf rfl (rm_ok rfl) (Nat.le_of_ble_eq_true rfl) (Nat.le_of_ble_eq_true rfl) rfl rfl ?_
    refine ctX1_tasteOf h (fun r12 M10 t11 h => ?_)
    refine tj_iadd rfl dX10_lossOfBoth_64 ?_
    exact tj_ireturn (ty := .int) dX10_lossOfBoth_65 rfl rfl (Nat.zero_le _) (Nat.zero_le _) (hp _ _ _ h)
  · rw [if_pos hc] at h
    refine tj_iload rfl dX10_lossOfBoth_29 rfl ?_
    exact tj_ireturn (ty := .int) dX10_lossOfBoth_31 rfl rfl (Nat.zero_le _) (Nat.zero_le _) (hp _ _ _ h)
def wpX10_fire (post : Int32 → MM → Int64 → Prop) (M : MM) (tl : Int64) (v1 : Int32) (v2 : Int32) (v3 : Int32) : Prop :=
  wpX1_isLot (fun r3 M1 t2 => (if r3 = 0 then post (-1) M1 t2 else (if v3 < 0 then post (-1) M1 t2 else (if v3 ≤ 1 then wpX7_kindAt (fun r6 M4 t5 => (if r6 = 0 then post (-2) M4 t5 else wpX1_costOf (fun r9 M7 t8 => wpX10_lossOfBoth (fun r12 M10 t11 => (if v3 = 0 then (if r12 < r9 then post 0 M10 t11 else post 1 M10 t11) else post (if r12 < r9 then r12 else r9) M10 t11)) M7 t8 v1 v2 r6) M4 t5 3 v1 r6)) M1 t2 14 v1 v2 else post (-1) M1 t2)))) M tl 3 v1 v2
set_option maxHeartbeats 4000000 in
set_option maxRecDepth 20000 in
theorem ctX10_fire {E : EV} {ad : Nat → Nat} {M : MM} {tl : Int64} {Φ : Option Value → va_W → Prop} {post : Int32 → MM → Int64 → Prop} {v1 : Int32} {v2 : Int32} {v3 : Int32} (h : wpX10_fire post M tl v1 v2 v3) (hp : ∀ r M tl, post r M tl → Φ (some (.int r)) (WM E ad M tl)) : Tm E kX10_fire (WM E ad M tl) [.ref (ad (0)), .int v1, .int v2, .int v3] Φ := by
  unfold wpX10_fire at h
  show T E kX10_fire 0 0 (WM E ad M tl) 0 [(0, .ref (ad (0))), (1, .int v1), (2, .int v2), (3, .int v3)] [] Φ
  refine tj_aload_n rfl dX10_fire_0 rfl ?_
  refine gf10_law (a := 0) rfl rfl dX10_fire_1 fl_X10_19 ?_
  refine tj_iload_n rfl dX10_fire_4 rfl ?_
  refine tj_iload_n rfl dX10_fire_5 rfl ?_
  refine cf_V1 (a := 3) (z := kX1_isLot) (As := [_, _]) rfl rfl dX10_fire_6 rfl ml_X10_173 okX1_isLot rfl (rm_ok rfl) (Nat.le_of_ble_eq_true rfl) (Nat.le_of_ble_eq_true rfl) rfl rfl ?_
  refine ctX1_isLot h (fun r3 M1 t2 h => ?_)
  refine tj_if_eq (tgt := 21) rfl rfl dX10_fire_9 (fun hc => ?_) (fun hc => ?_)
  · rw [if_pos hc] at h
    refine tj_iconst (v := -1) rfl dX10_fire_21 (by decide) ?_
    exact tj_ireturn (ty := .int) dX10_fire_22 rfl rfl (Nat.zero_le _) (Nat.zero_le _) (hp _ _ _ h)
  · rw [if_neg hc] at h
    refine tj_iload_n rfl dX10_fire_12 rfl ?_
    refine tj_if_lt (tgt := 21) rfl rfl dX10_fire_13 (fun hc => ?_) (fun hc => ?_)
    · rw [if_pos hc] at h
      refine tj_iconst (v := -1) rfl dX10_fire_21 (by decide) ?_
      exact tj_ireturn (ty := .int) dX10_fire_22 rfl rfl (Nat.zero_le _) (Nat.zero_le _) (hp _ _ _ h)
    · rw [if_neg hc] at h
      refine tj_iload_n rfl dX10_fire_16 rfl ?_
      refine tj_iconst (v := 1) rfl dX10_fire_17 (by decide) ?_
      refine tj_icmp_le (tgt := 23) rfl rfl dX10_fire_18 (fun hc => ?_) (fun hc => ?_)
      · rw [if_pos hc] at h
        refine tj_aload_n rfl dX10_fire_23 rfl ?_
        refine gf10_scene (a := 0) rfl rfl dX10_fire_24 fl_X10_26 ?_
        refine tj_iload_n rfl dX10_fire_27 rfl ?_
        refine tj_iload_n rfl dX10_fire_28 rfl ?_
        refine cf_V7 (a := 14) (z := kX7_kindAt) (As := [_, _]) rfl rfl dX10_fire_29 rfl ml_X10_283 okX7_kindAt rfl (rm_ok rfl) (Nat.le_of_ble_eq_true rfl) (Nat.le_of_ble_eq_true rfl) rfl rfl ?_
        refine ctX7_kindAt h (fun r6 M4 t5 h => ?_)
        refine tj_istore (l' := [(0, _), (1, _), (2, _), (3, _), (4, _)]) rfl dX10_fire_32 (by decide) rfl ?_
        refine tj_iload rfl dX10_fire_34 rfl ?_
        refine tj_if_ne (tgt := 42) rfl rfl dX10_fire_36 (fun hc => ?_) (fun hc => ?_)
        · rw [if_neg hc] at h
          refine tj_aload_n rfl dX10_fire_42 rfl ?_
          refine gf10_law (a := 0) rfl rfl dX10_fire_43 fl_X10_19 ?_
          refine tj_iload_n rfl dX10_fire_46 rfl ?_
          refine tj_iload rfl dX10_fire_47 rfl ?_
          refine cf_V1 (a := 3) (z := kX1_costOf) (As := [_, _]) rfl rfl dX10_fire_49 rfl ml_X10_147 okX1_costOf rfl (rm_ok rfl) (Nat.le_of_ble_eq_true rfl) (Nat.le_of_ble_eq_true rfl) rfl rfl ?_
          refine ctX1_costOf h (fun r9 M7 t8 h => ?_)
          refine tj_istore (l' := [(0, _), (1, _), (2, _), (3, _), (4, _), (5, _)]) rfl dX10_fire_52 (by decide) rfl ?_
          refine tj_aload_n rfl dX10_fire_54 rfl ?_
          refine tj_iload_n rfl dX10_fire_55 rfl ?_
          refine tj_iload_n rfl dX10_fire_56 rfl ?_
          refine tj_iload rfl dX10_fire_57 rfl ?_
          refine cf_V10 (a := 0) (z := kX10_lossOfBoth) (As := [_, _, _]) rfl rfl dX10_fire_59 rfl ml_X10_286 okX10_lossOfBoth rfl (rm_ok rfl) (Nat.le_of_ble_eq_true rfl) (Nat.le_of_ble_eq_true rfl) rfl rfl ?_
          refine ctX10_lossOfBoth h (fun r12 M10 t11 h => ?_)
          refine tj_istore (l' := [(0, _), (1, _), (2, _), (3, _), (4, _), (5, _), (6, _)]) rfl dX10_fire_62 (by decide) rfl ?_
          refine tj_iload_n rfl dX10_fire_64 rfl ?_
          refine tj_if_ne (tgt := 81) rfl rfl dX10_fire_65 (fun hc => ?_) (fun hc => ?_)
          · rw [if_neg hc] at h
            refine tj_iload rfl dX10_fire_81 rfl ?_
            refine tj_iload rfl dX10_fire_83 rfl ?_
            refine tj_min ml_X10_289 rfl dX10_fire_85 (Nat.le_of_ble_eq_true rfl) (Nat.le_of_ble_eq_true rfl) (Nat.zero_le _) (Nat.zero_le _) ?_
            exact tj_ireturn (ty := .int) dX10_fire_88 rfl rfl (Nat.zero_le _) (Nat.zero_le _) (hp _ _ _ h)
          · rw [if_pos hc] at h
            refine tj_iload rfl dX10_fire_68 rfl ?_
            refine tj_iload rfl dX10_fire_70 rfl ?_
            refine tj_icmp_gt (tgt := 79) rfl rfl dX10_fire_72 (fun hc => ?_) (fun hc => ?_)
            · rw [if_pos hc] at h
              refine tj_iconst (v := 0) rfl dX10_fire_79 (by decide) ?_
              exact tj_ireturn (ty := .int) dX10_fire_80 rfl rfl (Nat.zero_le _) (Nat.zero_le _) (hp _ _ _ h)
            · rw [if_neg hc] at h
              refine tj_iconst (v := 1) rfl dX10_fire_75 (by decide) ?_
              refine tj_goto (tgt := 80) rfl dX10_fire_76 ?_
              exact tj_ireturn (ty := .int) dX10_fire_80 rfl rfl (Nat.zero_le _) (Nat.zero_le _) (hp _ _ _ h)
        · rw [if_pos hc] at h
          refine tj_bipush (v := -2) rfl dX10_fire_39 (by decide) ?_
          exact tj_ireturn (ty := .int) dX10_fire_41 rfl rfl (Nat.zero_le _) (Nat.zero_le _) (hp _ _ _ h)
      · rw [if_neg hc] at h
        refine tj_iconst (v := -1) rfl dX10_fire_21 (by decide) ?_
        exact tj_ireturn (ty := .int) dX10_fire_22 rfl rfl (Nat.zero_le _) (Nat.zero_le _) (hp _ _ _ h)
def wX10_quarrelBy_119 (post : Int32 → MM → Int64 → Prop) (bk4 : MM → Int64 → Int32 → Int32 → Int32 → Prop) (M : MM) (tl : Int64) (v1 : Int32) (v2 : Int32) (v3 : Int32) : Prop :=
  bk4 M tl v1 v2 (v3 + 1)
set_option maxHeartbeats 4000000 in
set_option maxRecDepth 20000 in
theorem bX10_quarrelBy_119 {E : EV} {ad : Nat → Nat} {M : MM} {tl : Int64} {Φ : Option Value → va_W → Prop} {post : Int32 → MM → Int64 → Prop} {bk4 : MM → Int64 → Int32 → Int32 → Int32 → Prop} {v1 : Int32} {v2 : Int32} {v3 : Int32} (hp : ∀ r M tl, post r M tl → Φ (some (.int r)) (WM E ad M tl)) (hb4 : ∀ (M : MM) (tl : Int64) (v1 : Int32) (v2 : Int32) (v3 : Int32), bk4 M tl v1 v2 v3 → T E kX10_quarrelBy 0 0 (WM E ad M tl) 4 [(0, .ref (ad (0))), (1, .int v1), (2, .int v2), (3, .int v3)] [] Φ) (h : wX10_quarrelBy_119 post bk4 M tl v1 v2 v3) : T E kX10_quarrelBy 0 0 (WM E ad M tl) 119 [(0, .ref (ad (0))), (1, .int v1), (2, .int v2), (3, .int v3)] [] Φ := by
  unfold wX10_quarrelBy_119 at h
  refine tj_iinc (v := _ + 1) (l' := [(0, _), (1, _), (2, _), (3, _)]) rfl dX10_quarrelBy_119 rfl (by decide) rfl rfl ?_
  refine tj_goto (tgt := 4) rfl dX10_quarrelBy_122 ?_
  exact hb4 _ _ _ _ _ h
def wX10_quarrelBy_89 (post : Int32 → MM → Int64 → Prop) (bk4 : MM → Int64 → Int32 → Int32 → Int32 → Prop) (M : MM) (tl : Int64) (v1 : Int32) (v2 : Int32) (v3 : Int32) : Prop :=
  wpX1_matchBy (fun r3 M1 t2 => (if r3 = (-4) then wpX7_kindAt (fun r6 M4 t5 => (if r6 = 0 then wX10_quarrelBy_119 post bk4 M4 t5 v1 v2 v3 else wX10_quarrelBy_119 post bk4 M4 t5 v1 (v2 + 1) v3)) M1 t2 14 1 v3 else wX10_quarrelBy_119 post bk4 M1 t2 v1 v2 v3)) M tl 3 v1 1 v3
set_option maxHeartbeats 4000000 in
set_option maxRecDepth 20000 in
theorem bX10_quarrelBy_89 {E : EV} {ad : Nat → Nat} {M : MM} {tl : Int64} {Φ : Option Value → va_W → Prop} {post : Int32 → MM → Int64 → Prop} {bk4 : MM → Int64 → Int32 → Int32 → Int32 → Prop} {v1 : Int32} {v2 : Int32} {v3 : Int32} (hp : ∀ r M tl, post r M tl → Φ (some (.int r)) (WM E ad M tl)) (hb4 : ∀ (M : MM) (tl : Int64) (v1 : Int32) (v2 : Int32) (v3 : Int32), bk4 M tl v1 v2 v3 → T E kX10_quarrelBy 0 0 (WM E ad M tl) 4 [(0, .ref (ad (0))), (1, .int v1), (2, .int v2), (3, .int v3)] [] Φ) (h : wX10_quarrelBy_89 post bk4 M tl v1 v2 v3) : T E kX10_quarrelBy 0 0 (WM E ad M tl) 89 [(0, .ref (ad (0))), (1, .int v1), (2, .int v2), (3, .int v3)] [] Φ := by
  unfold wX10_quarrelBy_89 at h
  refine tj_aload_n rfl dX10_quarrelBy_89 rfl ?_
  refine gf10_law (a := 0) rfl rfl dX10_quarrelBy_90 fl_X10_19 ?_
  refine tj_iload_n rfl dX10_quarrelBy_93 rfl ?_
  refine tj_iconst (v := 1) rfl dX10_quarrelBy_94 (by decide) ?_
  refine tj_iload_n rfl dX10_quarrelBy_95 rfl ?_
  refine cf_V1 (a := 3) (z := kX1_matchBy) (As := [_, _, _]) rfl rfl dX10_quarrelBy_96 rfl ml_X10_297 okX1_matchBy rfl (rm_ok rfl) (Nat.le_of_ble_eq_true rfl) (Nat.le_of_ble_eq_true rfl) rfl rfl ?_
  refine ctX1_matchBy h (fun r3 M1 t2 h => ?_)
  refine tj_bipush (v := -4) rfl dX10_quarrelBy_99 (by decide) ?_
  refine tj_icmp_ne (tgt := 119) rfl rfl dX10_quarrelBy_101 (fun hc => ?_) (fun hc => ?_)
  · rw [if_neg hc] at h
    exact bX10_quarrelBy_119 hp hb4 h
  · rw [if_pos hc] at h
    refine tj_aload_n rfl dX10_quarrelBy_104 rfl ?_
    refine gf10_scene (a := 0) rfl rfl dX10_quarrelBy_105 fl_X10_26 ?_
    refine tj_iconst (v := 1) rfl dX10_quarrelBy_108 (by decide) ?_
    refine tj_iload_n rfl dX10_quarrelBy_109 rfl ?_
    refine cf_V7 (a := 14) (z := kX7_kindAt) (As := [_, _]) rfl rfl dX10_quarrelBy_110 rfl ml_X10_283 okX7_kindAt rfl (rm_ok rfl) (Nat.le_of_ble_eq_true rfl) (Nat.le_of_ble_eq_true rfl) rfl rfl ?_
    refine ctX7_kindAt h (fun r6 M4 t5 h => ?_)
    refine tj_if_eq (tgt := 119) rfl rfl dX10_quarrelBy_113 (fun hc => ?_) (fun hc => ?_)
    · rw [if_pos hc] at h
      exact bX10_quarrelBy_119 hp hb4 h
    · rw [if_neg hc] at h
      refine tj_iinc (v := _ + 1) (l' := [(0, _), (1, _), (2, _), (3, _)]) rfl dX10_quarrelBy_116 rfl (by decide) rfl rfl ?_
      exact bX10_quarrelBy_119 hp hb4 h
def wX10_quarrelBy_52 (post : Int32 → MM → Int64 → Prop) (bk4 : MM → Int64 → Int32 → Int32 → Int32 → Prop) (M : MM) (tl : Int64) (v1 : Int32) (v3 : Int32) (s0 : Int32) (s1 : Int32) : Prop :=
  wX10_quarrelBy_89 post bk4 M tl v1 (s0 + s1) v3
set_option maxHeartbeats 4000000 in
set_option maxRecDepth 20000 in
theorem bX10_quarrelBy_52 {E : EV} {ad : Nat → Nat} {M : MM} {tl : Int64} {Φ : Option Value → va_W → Prop} {post : Int32 → MM → Int64 → Prop} {bk4 : MM → Int64 → Int32 → Int32 → Int32 → Prop} {v1 : Int32} {v3 : Int32} {s0 : Int32} {s1 : Int32} (hp : ∀ r M tl, post r M tl → Φ (some (.int r)) (WM E ad M tl)) (hb4 : ∀ (M : MM) (tl : Int64) (v1 : Int32) (v2 : Int32) (v3 : Int32), bk4 M tl v1 v2 v3 → T E kX10_quarrelBy 0 0 (WM E ad M tl) 4 [(0, .ref (ad (0))), (1, .int v1), (2, .int v2), (3, .int v3)] [] Φ) (h : wX10_quarrelBy_52 post bk4 M tl v1 v3 s0 s1) : T E kX10_quarrelBy 0 0 (WM E ad M tl) 52 [(0, .ref (ad (0))), (1, .int v1), (3, .int v3)] [.int s1, .int s0] Φ := by
  unfold wX10_quarrelBy_52 at h
  refine tj_iadd rfl dX10_quarrelBy_52 ?_
  refine tj_istore_n (l' := [(0, _), (1, _), (2, _), (3, _)]) rfl dX10_quarrelBy_53 (by decide) rfl ?_
  refine tj_goto (tgt := 89) rfl dX10_quarrelBy_54 ?_
  exact bX10_quarrelBy_89 hp hb4 h
def wX10_quarrelBy_4 (post : Int32 → MM → Int64 → Prop) : Nat → MM → Int64 → Int32 → Int32 → Int32 → Prop
  | 0, _, _, _, _, _ => False
  | n + 1, M, tl, v1, v2, v3 =>
    (if (M 3 0) ≤ v3 then post v2 M tl else wpX1_matchBy (fun r3 M1 t2 => (if r3 = (-4) then wpX7_kindAt (fun r15 M13 t14 => (if r15 = 0 then wX10_quarrelBy_52 post (wX10_quarrelBy_4 post n) M13 t14 v1 v3 v2 0 else wX10_quarrelBy_52 post (wX10_quarrelBy_4 post n) M13 t14 v1 v3 v2 1)) M1 t2 14 0 v3 else wpX7_thingAt (fun r6 M4 t5 => wpX7_thingAt (fun r9 M7 t8 => wpX1_isEven (fun r12 M10 t11 => (if r12 = 0 then wX10_quarrelBy_89 post (wX10_quarrelBy_4 post n) M10 t11 v1 (v2 + 1) v3 else wX10_quarrelBy_89 post (wX10_quarrelBy_4 post n) M10 t11 v1 v2 v3)) M7 t8 3 r6 r9) M4 t5 14 1 r3) M1 t2 14 0 v3)) M tl 3 v1 0 v3)
set_option maxHeartbeats 4000000 in
set_option maxRecDepth 20000 in
theorem bX10_quarrelBy_4 {E : EV} {ad : Nat → Nat} {Φ : Option Value → va_W → Prop} {post : Int32 → MM → Int64 → Prop}  (hp : ∀ r M tl, post r M tl → Φ (some (.int r)) (WM E ad M tl)) : ∀ (n : Nat) (M : MM) (tl : Int64) (v1 : Int32) (v2 : Int32) (v3 : Int32), wX10_quarrelBy_4 post n M tl v1 v2 v3 → T E kX10_quarrelBy 0 0 (WM E ad M tl) 4 [(0, .ref (ad (0))), (1, .int v1), (2, .int v2), (3, .int v3)] [] Φ := by
  intro n
  induction n with
  | zero => intro M tl v1 v2 v3 h; exact False.elim h
  | succ n ih =>
    intro M tl v1 v2 v3 h
    unfold wX10_quarrelBy_4 at h
    refine tj_iload_n rfl dX10_quarrelBy_4 rfl ?_
    refine tj_aload_n rfl dX10_quarrelBy_5 rfl ?_
    refine gf10_law (a := 0) rfl rfl dX10_quarrelBy_6 fl_X10_19 ?_
    refine gf1_lots (a := 3) rfl rfl dX10_quarrelBy_9 fl_X10_116 ?_
    refine tj_icmp_ge (tgt := 125) rfl rfl dX10_quarrelBy_12 (fun hc => ?_) (fun hc => ?_)
    · rw [if_pos hc] at h
      refine tj_iload_n rfl dX10_quarrelBy_125 rfl ?_
      exact tj_ireturn (ty := .int) dX10_quarrelBy_126 rfl rfl (Nat.zero_le _) (Nat.zero_le _) (hp _ _ _ h)
    · rw [if_neg hc] at h
      refine tj_aload_n rfl dX10_quarrelBy_15 rfl ?_
      refine gf10_law (a := 0) rfl rfl dX10_quarrelBy_16 fl_X10_19 ?_
      refine tj_iload_n rfl dX10_quarrelBy_19 rfl ?_
      refine tj_iconst (v := 0) rfl dX10_quarrelBy_20 (by decide) ?_
      refine tj_iload_n rfl dX10_quarrelBy_21 rfl ?_
      refine cf_V1 (a := 3) (z := kX1_matchBy) (As := [_, _, _]) rfl rfl dX10_quarrelBy_22 rfl ml_X10_297 okX1_matchBy rfl (rm_ok rfl) (Nat.le_of_ble_eq_true rfl) (Nat.le_of_ble_eq_true rfl) rfl rfl ?_
      refine ctX1_matchBy h (fun r3 M1 t2 h => ?_)
      refine tj_istore (l' := [(0, _), (1, _), (2, _), (3, _), (4, _)]) rfl dX10_quarrelBy_25 (by decide) rfl ?_
      refine tj_iload rfl dX10_quarrelBy_27 rfl ?_
      refine tj_bipush (v := -4) rfl dX10_quarrelBy_29 (by decide) ?_
      refine tj_icmp_ne (tgt := 57) rfl rfl dX10_quarrelBy_31 (fun hc => ?_) (fun hc => ?_)
      · rw [if_neg hc] at h
        refine tj_aload_n rfl dX10_quarrelBy_57 rfl ?_
        refine gf10_law (a := 0) rfl rfl dX10_quarrelBy_58 fl_X10_19 ?_
        refine tj_aload_n rfl dX10_quarrelBy_61 rfl ?_
        refine gf10_scene (a := 0) rfl rfl dX10_quarrelBy_62 fl_X10_26 ?_
        refine tj_iconst (v := 0) rfl dX10_quarrelBy_65 (by decide) ?_
        refine tj_iload_n rfl dX10_quarrelBy_66 rfl ?_
        refine cf_V7 (a := 14) (z := kX7_thingAt) (As := [_, _]) rfl rfl dX10_quarrelBy_67 rfl ml_X10_176 okX7_thingAt rfl (rm_ok rfl) (Nat.le_of_ble_eq_true rfl) (Nat.le_of_ble_eq_true rfl) rfl rfl ?_
        refine ctX7_thingAt h (fun r6 M4 t5 h => ?_)
        refine tj_aload_n rfl dX10_quarrelBy_70 rfl ?_
        refine gf10_scene (a := 0) rfl rfl dX10_quarrelBy_71 fl_X10_26 ?_
        refine tj_iconst (v := 1) rfl dX10_quarrelBy_74 (by decide) ?_
        refine tj_iload rfl dX10_quarrelBy_75 rfl ?_
        refine cf_V7 (a := 14) (z := kX7_thingAt) (As := [_, _]) rfl rfl dX10_quarrelBy_77 rfl ml_X10_176 okX7_thingAt rfl (rm_ok rfl) (Nat.le_of_ble_eq_true rfl) (Nat.le_of_ble_eq_true rfl) rfl rfl ?_
        refine ctX7_thingAt h (fun r9 M7 t8 h => ?_)
        refine cf_V1 (a := 3) (z := kX1_isEven) (As := [_, _]) rfl rfl dX10_quarrelBy_80 rfl ml_X10_300 okX1_isEven rfl (rm_ok rfl) (Nat.le_of_ble_eq_true rfl) (Nat.le_of_ble_eq_true rfl) rfl rfl ?_
        refine ctX1_isEven h (fun r12 M10 t11 h => ?_)
        refine tj_if_ne (tgt := 89) rfl rfl dX10_quarrelBy_83 (fun hc => ?_) (fun hc => ?_)
        · rw [if_neg hc] at h
          exact tj_pick (l' := [(0, _), (1, _), (2, _), (3, _)]) [0, 1, 2, 3] rfl (bX10_quarrelBy_89 hp ih h)
        · rw [if_pos hc] at h
          refine tj_iinc (v := _ + 1) (l' := [(0, _), (1, _), (2, _), (3, _), (4, _)]) rfl dX10_quarrelBy_86 rfl (by decide) rfl rfl ?_
          exact tj_pick (l' := [(0, _), (1, _), (2, _), (3, _)]) [0, 1, 2, 3] rfl (bX10_quarrelBy_89 hp ih h)
      · rw [if_pos hc] at h
        refine tj_iload_n rfl dX10_quarrelBy_34 rfl ?_
        refine tj_aload_n rfl dX10_quarrelBy_35 rfl ?_
        refine gf10_scene (a := 0) rfl rfl dX10_quarrelBy_36 fl_X10_26 ?_
        refine tj_iconst (v := 0) rfl dX10_quarrelBy_39 (by decide) ?_
        refine tj_iload_n rfl dX10_quarrelBy_40 rfl ?_
        refine cf_V7 (a := 14) (z := kX7_kindAt) (As := [_, _]) rfl rfl dX10_quarrelBy_41 rfl ml_X10_283 okX7_kindAt rfl (rm_ok rfl) (Nat.le_of_ble_eq_true rfl) (Nat.le_of_ble_eq_true rfl) rfl rfl ?_
        refine ctX7_kindAt h (fun r15 M13 t14 h => ?_)
        refine tj_if_ne (tgt := 51) rfl rfl dX10_quarrelBy_44 (fun hc => ?_) (fun hc => ?_)
        · rw [if_neg hc] at h
          refine tj_iconst (v := 1) rfl dX10_quarrelBy_51 (by decide) ?_
          exact tj_pick (l' := [(0, _), (1, _), (3, _)]) [0, 1, 3] rfl (bX10_quarrelBy_52 hp ih h)
        · rw [if_pos hc] at h
          refine tj_iconst (v := 0) rfl dX10_quarrelBy_47 (by decide) ?_
          refine tj_goto (tgt := 52) rfl dX10_quarrelBy_48 ?_
          exact tj_pick (l' := [(0, _), (1, _), (3, _)]) [0, 1, 3] rfl (bX10_quarrelBy_52 hp ih h)
def wpX10_quarrelBy (post : Int32 → MM → Int64 → Prop) (M : MM) (tl : Int64) (v1 : Int32) : Prop :=
  (∃ n9, wX10_quarrelBy_4 post  n9 M tl v1 0 0)
set_option maxHeartbeats 4000000 in
set_option maxRecDepth 20000 in
theorem ctX10_quarrelBy {E : EV} {ad : Nat → Nat} {M : MM} {tl : Int64} {Φ : Option Value → va_W → Prop} {post : Int32 → MM → Int64 → Prop} {v1 : Int32} (h : wpX10_quarrelBy post M tl v1) (hp : ∀ r M tl, post r M tl → Φ (some (.int r)) (WM E ad M tl)) : Tm E kX10_quarrelBy (WM E ad M tl) [.ref (ad (0)), .int v1] Φ := by
  unfold wpX10_quarrelBy at h
  show T E kX10_quarrelBy 0 0 (WM E ad M tl) 0 [(0, .ref (ad (0))), (1, .int v1)] [] Φ
  refine tj_iconst (v := 0) rfl dX10_quarrelBy_0 (by decide) ?_
  refine tj_istore_n (l' := [(0, _), (1, _), (2, _)]) rfl dX10_quarrelBy_1 (by decide) rfl ?_
  refine tj_iconst (v := 0) rfl dX10_quarrelBy_2 (by decide) ?_
  refine tj_istore_n (l' := [(0, _), (1, _), (2, _), (3, _)]) rfl dX10_quarrelBy_3 (by decide) rfl ?_
  obtain ⟨n9, h⟩ := h
  exact bX10_quarrelBy_4 hp  n9 _ _ _ _ _ h
def wpX10_quarrel (post : Int32 → MM → Int64 → Prop) (M : MM) (tl : Int64) (v1 : Int32) : Prop :=
  (if v1 < 0 then post (-1) M tl else (if v1 ≤ 6 then wpX10_quarrelBy (fun r3 M1 t2 => post r3 M1 t2) M tl v1 else post (-1) M tl))
set_option maxHeartbeats 4000000 in
set_option maxRecDepth 20000 in
theorem ctX10_quarrel {E : EV} {ad : Nat → Nat} {M : MM} {tl : Int64} {Φ : Option Value → va_W → Prop} {post : Int32 → MM → Int64 → Prop} {v1 : Int32} (h : wpX10_quarrel post M tl v1) (hp : ∀ r M tl, post r M tl → Φ (some (.int r)) (WM E ad M tl)) : Tm E kX10_quarrel (WM E ad M tl) [.ref (ad (0)), .int v1] Φ := by
  unfold wpX10_quarrel at h
  show T E kX10_quarrel 0 0 (WM E ad M tl) 0 [(0, .ref (ad (0))), (1, .int v1)] [] Φ
  refine tj_iload_n rfl dX10_quarrel_0 rfl ?_
  refine tj_if_lt (tgt := 10) rfl rfl dX10_quarrel_1 (fun hc => ?_) (fun hc => ?_)
  · rw [if_pos hc] at h
    refine tj_iconst (v := -1) rfl dX10_quarrel_10 (by decide) ?_
    refine tj_goto (tgt := 19) rfl dX10_quarrel_11 ?_
    exact tj_ireturn (ty := .int) dX10_quarrel_19 rfl rfl (Nat.zero_le _) (Nat.zero_le _) (hp _ _ _ h)
  · rw [if_neg hc] at h
    refine tj_iload_n rfl dX10_quarrel_4 rfl ?_
    refine tj_bipush (v := 6) rfl dX10_quarrel_5 (by decide) ?_
    refine tj_icmp_le (tgt := 14) rfl rfl dX10_quarrel_7 (fun hc => ?_) (fun hc => ?_)
    · rw [if_pos hc] at h
      refine tj_aload_n rfl dX10_quarrel_14 rfl ?_
      refine tj_iload_n rfl dX10_quarrel_15 rfl ?_
      refine cf_V10 (a := 0) (z := kX10_quarrelBy) (As := [_]) rfl rfl dX10_quarrel_16 rfl ml_X10_294 okX10_quarrelBy rfl (rm_ok rfl) (Nat.le_of_ble_eq_true rfl) (Nat.le_of_ble_eq_true rfl) rfl rfl ?_
      refine ctX10_quarrelBy h (fun r3 M1 t2 h => ?_)
      exact tj_ireturn (ty := .int) dX10_quarrel_19 rfl rfl (Nat.zero_le _) (Nat.zero_le _) (hp _ _ _ h)
    · rw [if_neg hc] at h
      refine tj_iconst (v := -1) rfl dX10_quarrel_10 (by decide) ?_
      refine tj_goto (tgt := 19) rfl dX10_quarrel_11 ?_
      exact tj_ireturn (ty := .int) dX10_quarrel_19 rfl rfl (Nat.zero_le _) (Nat.zero_le _) (hp _ _ _ h)
def wX10_bend_34 (post : Int32 → MM → Int64 → Prop) (bk10 : MM → Int64 → Int32 → Int32 → Int32 → Prop) (M : MM) (tl : Int64) (v1 : Int32) (v2 : Int32) (v3 : Int32) : Prop :=
  bk10 M tl v1 v2 (v3 + 1)
set_option maxHeartbeats 4000000 in
set_option maxRecDepth 20000 in
theorem bX10_bend_34 {E : EV} {ad : Nat → Nat} {M : MM} {tl : Int64} {Φ : Option Value → va_W → Prop} {post : Int32 → MM → Int64 → Prop} {bk10 : MM → Int64 → Int32 → Int32 → Int32 → Prop} {v1 : Int32} {v2 : Int32} {v3 : Int32} (hp : ∀ r M tl, post r M tl → Φ (some (.int r)) (WM E ad M tl)) (hb10 : ∀ (M : MM) (tl : Int64) (v1 : Int32) (v2 : Int32) (v3 : Int32), bk10 M tl v1 v2 v3 → T E kX10_bend 0 0 (WM E ad M tl) 10 [(0, .ref (ad (0))), (1, .int v1), (2, .int v2), (3, .int v3)] [] Φ) (h : wX10_bend_34 post bk10 M tl v1 v2 v3) : T E kX10_bend 0 0 (WM E ad M tl) 34 [(0, .ref (ad (0))), (1, .int v1), (2, .int v2), (3, .int v3)] [] Φ := by
  unfold wX10_bend_34 at h
  refine tj_iinc (v := _ + 1) (l' := [(0, _), (1, _), (2, _), (3, _)]) rfl dX10_bend_34 rfl (by decide) rfl rfl ?_
  refine tj_goto (tgt := 10) rfl dX10_bend_37 ?_
  exact hb10 _ _ _ _ _ h
def wX10_bend_10 (post : Int32 → MM → Int64 → Prop) : Nat → MM → Int64 → Int32 → Int32 → Int32 → Prop
  | 0, _, _, _, _, _ => False
  | n + 1, M, tl, v1, v2, v3 =>
    (if 6 < v3 then post v1 M tl else wpX10_quarrelBy (fun r3 M1 t2 => (if v2 ≤ r3 then wX10_bend_34 post (wX10_bend_10 post n) M1 t2 v1 v2 v3 else wX10_bend_34 post (wX10_bend_10 post n) M1 t2 v3 r3 v3)) M tl v3)
set_option maxHeartbeats 4000000 in
set_option maxRecDepth 20000 in
theorem bX10_bend_10 {E : EV} {ad : Nat → Nat} {Φ : Option Value → va_W → Prop} {post : Int32 → MM → Int64 → Prop}  (hp : ∀ r M tl, post r M tl → Φ (some (.int r)) (WM E ad M tl)) : ∀ (n : Nat) (M : MM) (tl : Int64) (v1 : Int32) (v2 : Int32) (v3 : Int32), wX10_bend_10 post n M tl v1 v2 v3 → T E kX10_bend 0 0 (WM E ad M tl) 10 [(0, .ref (ad (0))), (1, .int v1), (2, .int v2), (3, .int v3)] [] Φ := by
  intro n
  induction n with
  | zero => intro M tl v1 v2 v3 h; exact False.elim h
  | succ n ih =>
    intro M tl v1 v2 v3 h
    unfold wX10_bend_10 at h
    refine tj_iload_n rfl dX10_bend_10 rfl ?_
    refine tj_bipush (v := 6) rfl dX10_bend_11 (by decide) ?_
    refine tj_icmp_gt (tgt := 40) rfl rfl dX10_bend_13 (fun hc => ?_) (fun hc => ?_)
    · rw [if_pos hc] at h
      refine tj_iload_n rfl dX10_bend_40 rfl ?_
      exact tj_ireturn (ty := .int) dX10_bend_41 rfl rfl (Nat.zero_le _) (Nat.zero_le _) (hp _ _ _ h)
    · rw [if_neg hc] at h
      refine tj_aload_n rfl dX10_bend_16 rfl ?_
      refine tj_iload_n rfl dX10_bend_17 rfl ?_
      refine cf_V10 (a := 0) (z := kX10_quarrelBy) (As := [_]) rfl rfl dX10_bend_18 rfl ml_X10_294 okX10_quarrelBy rfl (rm_ok rfl) (Nat.le_of_ble_eq_true rfl) (Nat.le_of_ble_eq_true rfl) rfl rfl ?_
      refine ctX10_quarrelBy h (fun r3 M1 t2 h => ?_)
      refine tj_istore (l' := [(0, _), (1, _), (2, _), (3, _), (4, _)]) rfl dX10_bend_21 (by decide) rfl ?_
      refine tj_iload rfl dX10_bend_23 rfl ?_
      refine tj_iload_n rfl dX10_bend_25 rfl ?_
      refine tj_icmp_ge (tgt := 34) rfl rfl dX10_bend_26 (fun hc => ?_) (fun hc => ?_)
      · rw [if_pos hc] at h
        exact tj_pick (l' := [(0, _), (1, _), (2, _), (3, _)]) [0, 1, 2, 3] rfl (bX10_bend_34 hp ih h)
      · rw [if_neg hc] at h
        refine tj_iload rfl dX10_bend_29 rfl ?_
        refine tj_istore_n (l' := [(0, _), (1, _), (2, _), (3, _), (4, _)]) rfl dX10_bend_31 (by decide) rfl ?_
        refine tj_iload_n rfl dX10_bend_32 rfl ?_
        refine tj_istore_n (l' := [(0, _), (1, _), (2, _), (3, _), (4, _)]) rfl dX10_bend_33 (by decide) rfl ?_
        exact tj_pick (l' := [(0, _), (1, _), (2, _), (3, _)]) [0, 1, 2, 3] rfl (bX10_bend_34 hp ih h)
def wpX10_bend (post : Int32 → MM → Int64 → Prop) (M : MM) (tl : Int64) : Prop :=
  wpX10_quarrelBy (fun r3 M1 t2 => (∃ n9, wX10_bend_10 post  n9 M1 t2 0 r3 1)) M tl 0
set_option maxHeartbeats 4000000 in
set_option maxRecDepth 20000 in
theorem ctX10_bend {E : EV} {ad : Nat → Nat} {M : MM} {tl : Int64} {Φ : Option Value → va_W → Prop} {post : Int32 → MM → Int64 → Prop} (h : wpX10_bend post M tl ) (hp : ∀ r M tl, post r M tl → Φ (some (.int r)) (WM E ad M tl)) : Tm E kX10_bend (WM E ad M tl) [.ref (ad (0))] Φ := by
  unfold wpX10_bend at h
  show T E kX10_bend 0 0 (WM E ad M tl) 0 [(0, .ref (ad (0)))] [] Φ
  refine tj_iconst (v := 0) rfl dX10_bend_0 (by decide) ?_
  refine tj_istore_n (l' := [(0, _), (1, _)]) rfl dX10_bend_1 (by decide) rfl ?_
  refine tj_aload_n rfl dX10_bend_2 rfl ?_
  refine tj_iconst (v := 0) rfl dX10_bend_3 (by decide) ?_
  refine cf_V10 (a := 0) (z := kX10_quarrelBy) (As := [_]) rfl rfl dX10_bend_4 rfl ml_X10_294 okX10_quarrelBy rfl (rm_ok rfl) (Nat.le_of_ble_eq_true rfl) (Nat.le_of_ble_eq_true rfl) rfl rfl ?_
  refine ctX10_quarrelBy h (fun r3 M1 t2 h => ?_)
  refine tj_istore_n (l' := [(0, _), (1, _), (2, _)]) rfl dX10_bend_7 (by decide) rfl ?_
  refine tj_iconst (v := 1) rfl dX10_bend_8 (by decide) ?_
  refine tj_istore_n (l' := [(0, _), (1, _), (2, _), (3, _)]) rfl dX10_bend_9 (by decide) rfl ?_
  obtain ⟨n9, h⟩ := h
  exact bX10_bend_10 hp  n9 _ _ _ _ _ h
def wX10_fewestToGo_34 (post : Int32 → MM → Int64 → Prop) (bk6 : MM → Int64 → Int32 → Int32 → Int32 → Prop) (M : MM) (tl : Int64) (v1 : Int32) (v2 : Int32) (v3 : Int32) : Prop :=
  bk6 M tl v1 v2 (v3 + 1)
set_option maxHeartbeats 4000000 in
set_option maxRecDepth 20000 in
theorem bX10_fewestToGo_34 {E : EV} {ad : Nat → Nat} {M : MM} {tl : Int64} {Φ : Option Value → va_W → Prop} {post : Int32 → MM → Int64 → Prop} {bk6 : MM → Int64 → Int32 → Int32 → Int32 → Prop} {v1 : Int32} {v2 : Int32} {v3 : Int32} (hp : ∀ r M tl, post r M tl → Φ (some (.int r)) (WM E ad M tl)) (hb6 : ∀ (M : MM) (tl : Int64) (v1 : Int32) (v2 : Int32) (v3 : Int32), bk6 M tl v1 v2 v3 → T E kX10_fewestToGo 0 0 (WM E ad M tl) 6 [(1, .int v1), (2, .int v2), (3, .int v3)] [] Φ) (h : wX10_fewestToGo_34 post bk6 M tl v1 v2 v3) : T E kX10_fewestToGo 0 0 (WM E ad M tl) 34 [(1, .int v1), (2, .int v2), (3, .int v3)] [] Φ := by
  unfold wX10_fewestToGo_34 at h
  refine tj_iinc (v := _ + 1) (l' := [(1, _), (2, _), (3, _)]) rfl dX10_fewestToGo_34 rfl (by decide) rfl rfl ?_
  refine tj_goto (tgt := 6) rfl dX10_fewestToGo_37 ?_
  exact hb6 _ _ _ _ _ h
def wX10_fewestToGo_6 (post : Int32 → MM → Int64 → Prop) : Nat → MM → Int64 → Int32 → Int32 → Int32 → Prop
  | 0, _, _, _, _, _ => False
  | n + 1, M, tl, v1, v2, v3 =>
    (if 8 ≤ v3 then post v2 M tl else (if ((v1 >>> ((v3 - 1) &&& 31)) &&& 3) = 3 then wX10_fewestToGo_34 post (wX10_fewestToGo_6 post n) M tl (v1 &&& (((1 : Int32) <<< (v3 &&& 31)) ^^^ (-1))) (v2 + 1) v3 else wX10_fewestToGo_34 post (wX10_fewestToGo_6 post n) M tl v1 v2 v3))
set_option maxHeartbeats 4000000 in
set_option maxRecDepth 20000 in
theorem bX10_fewestToGo_6 {E : EV} {ad : Nat → Nat} {Φ : Option Value → va_W → Prop} {post : Int32 → MM → Int64 → Prop}  (hp : ∀ r M tl, post r M tl → Φ (some (.int r)) (WM E ad M tl)) : ∀ (n : Nat) (M : MM) (tl : Int64) (v1 : Int32) (v2 : Int32) (v3 : Int32), wX10_fewestToGo_6 post n M tl v1 v2 v3 → T E kX10_fewestToGo 0 0 (WM E ad M tl) 6 [(1, .int v1), (2, .int v2), (3, .int v3)] [] Φ := by
  intro n
  induction n with
  | zero => intro M tl v1 v2 v3 h; exact False.elim h
  | succ n ih =>
    intro M tl v1 v2 v3 h
    unfold wX10_fewestToGo_6 at h
    refine tj_iload_n rfl dX10_fewestToGo_6 rfl ?_
    refine tj_bipush (v := 8) rfl dX10_fewestToGo_7 (by decide) ?_
    refine tj_icmp_ge (tgt := 40) rfl rfl dX10_fewestToGo_9 (fun hc => ?_) (fun hc => ?_)
    · rw [if_pos hc] at h
      refine tj_iload_n rfl dX10_fewestToGo_40 rfl ?_
      exact tj_ireturn (ty := .int) dX10_fewestToGo_41 rfl rfl (Nat.zero_le _) (Nat.zero_le _) (hp _ _ _ h)
    · rw [if_neg hc] at h
      refine tj_iload_n rfl dX10_fewestToGo_12 rfl ?_
      refine tj_iload_n rfl dX10_fewestToGo_13 rfl ?_
      refine tj_iconst (v := 1) rfl dX10_fewestToGo_14 (by decide) ?_
      refine tj_isub rfl dX10_fewestToGo_15 ?_
      refine tj_ishr rfl dX10_fewestToGo_16 ?_
      refine tj_iconst (v := 3) rfl dX10_fewestToGo_17 (by decide) ?_
      refine tj_iand rfl dX10_fewestToGo_18 ?_
      refine tj_iconst (v := 3) rfl dX10_fewestToGo_19 (by decide) ?_
      refine tj_icmp_ne (tgt := 34) rfl rfl dX10_fewestToGo_20 (fun hc => ?_) (fun hc => ?_)
      · rw [if_neg hc] at h
        exact bX10_fewestToGo_34 hp ih h
      · rw [if_pos hc] at h
        refine tj_iload_n rfl dX10_fewestToGo_23 rfl ?_
        refine tj_iconst (v := 1) rfl dX10_fewestToGo_24 (by decide) ?_
        refine tj_iload_n rfl dX10_fewestToGo_25 rfl ?_
        refine tj_ishl rfl dX10_fewestToGo_26 ?_
        refine tj_iconst (v := -1) rfl dX10_fewestToGo_27 (by decide) ?_
        refine tj_ixor rfl dX10_fewestToGo_28 ?_
        refine tj_iand rfl dX10_fewestToGo_29 ?_
        refine tj_istore_n (l' := [(1, _), (2, _), (3, _)]) rfl dX10_fewestToGo_30 (by decide) rfl ?_
        refine tj_iinc (v := _ + 1) (l' := [(1, _), (2, _), (3, _)]) rfl dX10_fewestToGo_31 rfl (by decide) rfl rfl ?_
        exact bX10_fewestToGo_34 hp ih h
def wpX10_fewestToGo (post : Int32 → MM → Int64 → Prop) (M : MM) (tl : Int64) (v0 : Int32) : Prop :=
  (∃ n9, wX10_fewestToGo_6 post  n9 M tl v0 0 1)
set_option maxHeartbeats 4000000 in
set_option maxRecDepth 20000 in
theorem ctX10_fewestToGo {E : EV} {ad : Nat → Nat} {M : MM} {tl : Int64} {Φ : Option Value → va_W → Prop} {post : Int32 → MM → Int64 → Prop} {v0 : Int32} (h : wpX10_fewestToGo post M tl v0) (hp : ∀ r M tl, post r M tl → Φ (some (.int r)) (WM E ad M tl)) : Tm E kX10_fewestToGo (WM E ad M tl) [.int v0] Φ := by
  unfold wpX10_fewestToGo at h
  show T E kX10_fewestToGo 0 0 (WM E ad M tl) 0 [(0, .int v0)] [] Φ
  refine tj_iload_n rfl dX10_fewestToGo_0 rfl ?_
  refine tj_istore_n (l' := [(0, _), (1, _)]) rfl dX10_fewestToGo_1 (by decide) rfl ?_
  refine tj_iconst (v := 0) rfl dX10_fewestToGo_2 (by decide) ?_
  refine tj_istore_n (l' := [(0, _), (1, _), (2, _)]) rfl dX10_fewestToGo_3 (by decide) rfl ?_
  refine tj_iconst (v := 1) rfl dX10_fewestToGo_4 (by decide) ?_
  refine tj_istore_n (l' := [(0, _), (1, _), (2, _), (3, _)]) rfl dX10_fewestToGo_5 (by decide) rfl ?_
  obtain ⟨n9, h⟩ := h
  exact tj_pick (l' := [(1, _), (2, _), (3, _)]) [1, 2, 3] rfl (bX10_fewestToGo_6 hp  n9 _ _ _ _ _ h)
def wX10_shops_56 (post : Int32 → MM → Int64 → Prop) (bk23 : MM → Int64 → Int32 → Int32 → Int32 → Int32 → Prop) (M : MM) (tl : Int64) (v1 : Int32) (v2 : Int32) (v3 : Int32) (v4 : Int32) : Prop :=
  bk23 M tl v1 v2 v3 (v4 + 1)
set_option maxHeartbeats 4000000 in
set_option maxRecDepth 20000 in
theorem bX10_shops_56 {E : EV} {ad : Nat → Nat} {M : MM} {tl : Int64} {Φ : Option Value → va_W → Prop} {post : Int32 → MM → Int64 → Prop} {bk23 : MM → Int64 → Int32 → Int32 → Int32 → Int32 → Prop} {v1 : Int32} {v2 : Int32} {v3 : Int32} {v4 : Int32} (hp : ∀ r M tl, post r M tl → Φ (some (.int r)) (WM E ad M tl)) (hb23 : ∀ (M : MM) (tl : Int64) (v1 : Int32) (v2 : Int32) (v3 : Int32) (v4 : Int32), bk23 M tl v1 v2 v3 v4 → T E kX10_shops 0 0 (WM E ad M tl) 23 [(0, .ref (ad (0))), (1, .int v1), (2, .int v2), (3, .int v3), (4, .int v4)] [] Φ) (h : wX10_shops_56 post bk23 M tl v1 v2 v3 v4) : T E kX10_shops 0 0 (WM E ad M tl) 56 [(0, .ref (ad (0))), (1, .int v1), (2, .int v2), (3, .int v3), (4, .int v4)] [] Φ := by
  unfold wX10_shops_56 at h
  refine tj_iinc (v := _ + 1) (l' := [(0, _), (1, _), (2, _), (3, _), (4, _)]) rfl dX10_shops_56 rfl (by decide) rfl rfl ?_
  refine tj_goto (tgt := 23) rfl dX10_shops_59 ?_
  exact hb23 _ _ _ _ _ _ h
def wX10_shops_23 (post : Int32 → MM → Int64 → Prop) : Nat → MM → Int64 → Int32 → Int32 → Int32 → Int32 → Prop
  | 0, _, _, _, _, _, _ => False
  | n + 1, M, tl, v1, v2, v3, v4 =>
    (if (M 3 0) ≤ v4 then (if v2 = 0 then post (v3 &&& ((v3 <<< (1 &&& 31)) ||| (v3 >>> (1 &&& 31)))) M tl else wpX10_fewestToGo (fun r3 M1 t2 => post r3 M1 t2) M tl v3) else wpX7_kindAt (fun r6 M4 t5 => (if r6 = 3 then wX10_shops_56 post (wX10_shops_23 post n) M4 t5 v1 v2 (v3 ||| ((1 : Int32) <<< (v4 &&& 31))) v4 else wX10_shops_56 post (wX10_shops_23 post n) M4 t5 v1 v2 v3 v4)) M tl 14 v1 v4)
set_option maxHeartbeats 4000000 in
set_option maxRecDepth 20000 in
theorem bX10_shops_23 {E : EV} {ad : Nat → Nat} {Φ : Option Value → va_W → Prop} {post : Int32 → MM → Int64 → Prop}  (hp : ∀ r M tl, post r M tl → Φ (some (.int r)) (WM E ad M tl)) : ∀ (n : Nat) (M : MM) (tl : Int64) (v1 : Int32) (v2 : Int32) (v3 : Int32) (v4 : Int32), wX10_shops_23 post n M tl v1 v2 v3 v4 → T E kX10_shops 0 0 (WM E ad M tl) 23 [(0, .ref (ad (0))), (1, .int v1), (2, .int v2), (3, .int v3), (4, .int v4)] [] Φ := by
  intro n
  induction n with
  | zero => intro M tl v1 v2 v3 v4 h; exact False.elim h
  | succ n ih =>
    intro M tl v1 v2 v3 v4 h
    unfold wX10_shops_23 at h
    refine tj_iload rfl dX10_shops_23 rfl ?_
    refine tj_aload_n rfl dX10_shops_25 rfl ?_
    refine gf10_law (a := 0) rfl rfl dX10_shops_26 fl_X10_19 ?_
    refine gf1_lots (a := 3) rfl rfl dX10_shops_29 fl_X10_116 ?_
    refine tj_icmp_ge (tgt := 62) rfl rfl dX10_shops_32 (fun hc => ?_) (fun hc => ?_)
    · rw [if_pos hc] at h
      refine tj_iload_n rfl dX10_shops_62 rfl ?_
      refine tj_if_ne (tgt := 78) rfl rfl dX10_shops_63 (fun hc => ?_) (fun hc => ?_)
      · rw [if_neg hc] at h
        refine tj_iload_n rfl dX10_shops_78 rfl ?_
        refine cf_S (z := kX10_fewestToGo) (As := [_]) rfl dX10_shops_79 rfl ml_X10_303 okX10_fewestToGo rfl (rm_ok rfl) (Nat.le_of_ble_eq_true rfl) (Nat.le_of_ble_eq_true rfl) rfl ?_
        refine ctX10_fewestToGo h (fun r3 M1 t2 h => ?_)
        exact tj_ireturn (ty := .int) dX10_shops_82 rfl rfl (Nat.zero_le _) (Nat.zero_le _) (hp _ _ _ h)
      · rw [if_pos hc] at h
        refine tj_iload_n rfl dX10_shops_66 rfl ?_
        refine tj_iload_n rfl dX10_shops_67 rfl ?_
        refine tj_iconst (v := 1) rfl dX10_shops_68 (by decide) ?_
        refine tj_ishl rfl dX10_shops_69 ?_
        refine tj_iload_n rfl dX10_shops_70 rfl ?_
        refine tj_iconst (v := 1) rfl dX10_shops_71 (by decide) ?_
        refine tj_ishr rfl dX10_shops_72 ?_
        refine tj_ior rfl dX10_shops_73 ?_
        refine tj_iand rfl dX10_shops_74 ?_
        refine tj_goto (tgt := 82) rfl dX10_shops_75 ?_
        exact tj_ireturn (ty := .int) dX10_shops_82 rfl rfl (Nat.zero_le _) (Nat.zero_le _) (hp _ _ _ h)
    · rw [if_neg hc] at h
      refine tj_aload_n rfl dX10_shops_35 rfl ?_
      refine gf10_scene (a := 0) rfl rfl dX10_shops_36 fl_X10_26 ?_
      refine tj_iload_n rfl dX10_shops_39 rfl ?_
      refine tj_iload rfl dX10_shops_40 rfl ?_
      refine cf_V7 (a := 14) (z := kX7_kindAt) (As := [_, _]) rfl rfl dX10_shops_42 rfl ml_X10_283 okX7_kindAt rfl (rm_ok rfl) (Nat.le_of_ble_eq_true rfl) (Nat.le_of_ble_eq_true rfl) rfl rfl ?_
      refine ctX7_kindAt h (fun r6 M4 t5 h => ?_)
      refine tj_iconst (v := 3) rfl dX10_shops_45 (by decide) ?_
      refine tj_icmp_ne (tgt := 56) rfl rfl dX10_shops_46 (fun hc => ?_) (fun hc => ?_)
      · rw [if_neg hc] at h
        exact bX10_shops_56 hp ih h
      · rw [if_pos hc] at h
        refine tj_iload_n rfl dX10_shops_49 rfl ?_
        refine tj_iconst (v := 1) rfl dX10_shops_50 (by decide) ?_
        refine tj_iload rfl dX10_shops_51 rfl ?_
        refine tj_ishl rfl dX10_shops_53 ?_
        refine tj_ior rfl dX10_shops_54 ?_
        refine tj_istore_n (l' := [(0, _), (1, _), (2, _), (3, _), (4, _)]) rfl dX10_shops_55 (by decide) rfl ?_
        exact bX10_shops_56 hp ih h
def wpX10_shops (post : Int32 → MM → Int64 → Prop) (M : MM) (tl : Int64) (v1 : Int32) (v2 : Int32) : Prop :=
  wpX10_isBank (fun r3 M1 t2 => (if r3 = 0 then post (-1) M1 t2 else (if v2 < 0 then post (-1) M1 t2 else (if v2 ≤ 1 then (∃ n9, wX10_shops_23 post  n9 M1 t2 v1 v2 0 0) else post (-1) M1 t2)))) M tl v1
set_option maxHeartbeats 4000000 in
set_option maxRecDepth 20000 in
theorem ctX10_shops {E : EV} {ad : Nat → Nat} {M : MM} {tl : Int64} {Φ : Option Value → va_W → Prop} {post : Int32 → MM → Int64 → Prop} {v1 : Int32} {v2 : Int32} (h : wpX10_shops post M tl v1 v2) (hp : ∀ r M tl, post r M tl → Φ (some (.int r)) (WM E ad M tl)) : Tm E kX10_shops (WM E ad M tl) [.ref (ad (0)), .int v1, .int v2] Φ := by
  unfold wpX10_shops at h
  show T E kX10_shops 0 0 (WM E ad M tl) 0 [(0, .ref (ad (0))), (1, .int v1), (2, .int v2)] [] Φ
  refine tj_iload_n rfl dX10_shops_0 rfl ?_
  refine cf_S (z := kX10_isBank) (As := [_]) rfl dX10_shops_1 rfl ml_X10_201 okX10_isBank rfl (rm_ok rfl) (Nat.le_of_ble_eq_true rfl) (Nat.le_of_ble_eq_true rfl) rfl ?_
  refine ctX10_isBank h (fun r3 M1 t2 h => ?_)
  refine tj_if_eq (tgt := 16) rfl rfl dX10_shops_4 (fun hc => ?_) (fun hc => ?_)
  · rw [if_pos hc] at h
    refine tj_iconst (v := -1) rfl dX10_shops_16 (by decide) ?_
    exact tj_ireturn (ty := .int) dX10_shops_17 rfl rfl (Nat.zero_le _) (Nat.zero_le _) (hp _ _ _ h)
  · rw [if_neg hc] at h
    refine tj_iload_n rfl dX10_shops_7 rfl ?_
    refine tj_if_lt (tgt := 16) rfl rfl dX10_shops_8 (fun hc => ?_) (fun hc => ?_)
    · rw [if_pos hc] at h
      refine tj_iconst (v := -1) rfl dX10_shops_16 (by decide) ?_
      exact tj_ireturn (ty := .int) dX10_shops_17 rfl rfl (Nat.zero_le _) (Nat.zero_le _) (hp _ _ _ h)
    · rw [if_neg hc] at h
      refine tj_iload_n rfl dX10_shops_11 rfl ?_
      refine tj_iconst (v := 1) rfl dX10_shops_12 (by decide) ?_
      refine tj_icmp_le (tgt := 18) rfl rfl dX10_shops_13 (fun hc => ?_) (fun hc => ?_)
      · rw [if_pos hc] at h
        refine tj_iconst (v := 0) rfl dX10_shops_18 (by decide) ?_
        refine tj_istore_n (l' := [(0, _), (1, _), (2, _), (3, _)]) rfl dX10_shops_19 (by decide) rfl ?_
        refine tj_iconst (v := 0) rfl dX10_shops_20 (by decide) ?_
        refine tj_istore (l' := [(0, _), (1, _), (2, _), (3, _), (4, _)]) rfl dX10_shops_21 (by decide) rfl ?_
        obtain ⟨n9, h⟩ := h
        exact bX10_shops_23 hp  n9 _ _ _ _ _ _ h
      · rw [if_neg hc] at h
        refine tj_iconst (v := -1) rfl dX10_shops_16 (by decide) ?_
        exact tj_ireturn (ty := .int) dX10_shops_17 rfl rfl (Nat.zero_le _) (Nat.zero_le _) (hp _ _ _ h)
def wX10_saw_60 (post : Int32 → MM → Int64 → Prop) (M : MM) (tl : Int64) (s1 : Int32) (s2 : Int32) (s3 : Int32) (s4 : Int32) : Prop :=
  wpX5_addRow (fun M1 t2 => post (M1 20 3) M1 t2) M tl 20 s1 s2 s3 s4
set_option maxHeartbeats 4000000 in
set_option maxRecDepth 20000 in
theorem bX10_saw_60 {E : EV} {ad : Nat → Nat} {M : MM} {tl : Int64} {Φ : Option Value → va_W → Prop} {post : Int32 → MM → Int64 → Prop} {s1 : Int32} {s2 : Int32} {s3 : Int32} {s4 : Int32} (hp : ∀ r M tl, post r M tl → Φ (some (.int r)) (WM E ad M tl)) (h : wX10_saw_60 post M tl s1 s2 s3 s4) : T E kX10_saw 0 0 (WM E ad M tl) 60 [(0, .ref (ad (0)))] [.int s4, .int s3, .int s2, .int s1, .ref (ad (20))] Φ := by
  unfold wX10_saw_60 at h
  refine cf_V5 (a := 20) (z := kX5_addRow) (As := [_, _, _, _]) rfl rfl dX10_saw_60 rfl ml_X10_239 okX5_addRow rfl (rm_ok rfl) (Nat.le_of_ble_eq_true rfl) (Nat.le_of_ble_eq_true rfl) rfl rfl ?_
  refine ctX5_addRow h (fun M1 t2 h => ?_)
  refine tj_aload_n rfl dX10_saw_63 rfl ?_
  refine gf10_scene (a := 0) rfl rfl dX10_saw_64 fl_X10_26 ?_
  refine gf7_seen (a := 14) rfl rfl dX10_saw_67 fl_X10_306 ?_
  refine gf5_size (a := 20) rfl rfl dX10_saw_70 fl_X10_129 ?_
  exact tj_ireturn (ty := .int) dX10_saw_73 rfl rfl (Nat.zero_le _) (Nat.zero_le _) (hp _ _ _ h)
def wpX10_saw (post : Int32 → MM → Int64 → Prop) (M : MM) (tl : Int64) (v1 : Int32) (v2 : Int32) (v3 : Int32) (v4 : Int32) : Prop :=
  wpX1_isLot (fun r3 M1 t2 => (if r3 = 0 then post (-1) M1 t2 else (if v3 < 0 then post (-1) M1 t2 else (if v3 < 24 then wpX5_isFull (fun r6 M4 t5 => (if r6 = 0 then (if v4 = 0 then wX10_saw_60 post  M4 t5 v1 v2 v3 0 else wX10_saw_60 post  M4 t5 v1 v2 v3 1) else post (-3) M4 t5)) M1 t2 20 else post (-1) M1 t2)))) M tl 3 v1 v2
set_option maxHeartbeats 4000000 in
set_option maxRecDepth 20000 in
theorem ctX10_saw {E : EV} {ad : Nat → Nat} {M : MM} {tl : Int64} {Φ : Option Value → va_W → Prop} {post : Int32 → MM → Int64 → Prop} {v1 : Int32} {v2 : Int32} {v3 : Int32} {v4 : Int32} (h : wpX10_saw post M tl v1 v2 v3 v4) (hp : ∀ r M tl, post r M tl → Φ (some (.int r)) (WM E ad M tl)) : Tm E kX10_saw (WM E ad M tl) [.ref (ad (0)), .int v1, .int v2, .int v3, .int v4] Φ := by
  unfold wpX10_saw at h
  show T E kX10_saw 0 0 (WM E ad M tl) 0 [(0, .ref (ad (0))), (1, .int v1), (2, .int v2), (3, .int v3), (4, .int v4)] [] Φ
  refine tj_aload_n rfl dX10_saw_0 rfl ?_
  refine gf10_law (a := 0) rfl rfl dX10_saw_1 fl_X10_19 ?_
  refine tj_iload_n rfl dX10_saw_4 rfl ?_
  refine tj_iload_n rfl dX10_saw_5 rfl ?_
  refine cf_V1 (a := 3) (z := kX1_isLot) (As := [_, _]) rfl rfl dX10_saw_6 rfl ml_X10_173 okX1_isLot rfl (rm_ok rfl) (Nat.le_of_ble_eq_true rfl) (Nat.le_of_ble_eq_true rfl) rfl rfl ?_
  refine ctX1_isLot h (fun r3 M1 t2 h => ?_)
  refine tj_if_eq (tgt := 22) rfl rfl dX10_saw_9 (fun hc => ?_) (fun hc => ?_)
  · rw [if_pos hc] at h
    refine tj_iconst (v := -1) rfl dX10_saw_22 (by decide) ?_
    exact tj_ireturn (ty := .int) dX10_saw_23 rfl rfl (Nat.zero_le _) (Nat.zero_le _) (hp _ _ _ h)
  · rw [if_neg hc] at h
    refine tj_iload_n rfl dX10_saw_12 rfl ?_
    refine tj_if_lt (tgt := 22) rfl rfl dX10_saw_13 (fun hc => ?_) (fun hc => ?_)
    · rw [if_pos hc] at h
      refine tj_iconst (v := -1) rfl dX10_saw_22 (by decide) ?_
      exact tj_ireturn (ty := .int) dX10_saw_23 rfl rfl (Nat.zero_le _) (Nat.zero_le _) (hp _ _ _ h)
    · rw [if_neg hc] at h
      refine tj_iload_n rfl dX10_saw_16 rfl ?_
      refine tj_bipush (v := 24) rfl dX10_saw_17 (by decide) ?_
      refine tj_icmp_lt (tgt := 24) rfl rfl dX10_saw_19 (fun hc => ?_) (fun hc => ?_)
      · rw [if_pos hc] at h
        refine tj_aload_n rfl dX10_saw_24 rfl ?_
        refine gf10_scene (a := 0) rfl rfl dX10_saw_25 fl_X10_26 ?_
        refine gf7_seen (a := 14) rfl rfl dX10_saw_28 fl_X10_306 ?_
        refine cf_V5 (a := 20) (z := kX5_isFull) (As := []) rfl rfl dX10_saw_31 rfl ml_X10_235 okX5_isFull rfl (rm_ok rfl) (Nat.le_of_ble_eq_true rfl) (Nat.le_of_ble_eq_true rfl) rfl rfl ?_
        refine ctX5_isFull h (fun r6 M4 t5 h => ?_)
        refine tj_if_eq (tgt := 40) rfl rfl dX10_saw_34 (fun hc => ?_) (fun hc => ?_)
        · rw [if_pos hc] at h
          refine tj_aload_n rfl dX10_saw_40 rfl ?_
          refine gf10_scene (a := 0) rfl rfl dX10_saw_41 fl_X10_26 ?_
          refine gf7_seen (a := 14) rfl rfl dX10_saw_44 fl_X10_306 ?_
          refine tj_iload_n rfl dX10_saw_47 rfl ?_
          refine tj_iload_n rfl dX10_saw_48 rfl ?_
          refine tj_iload_n rfl dX10_saw_49 rfl ?_
          refine tj_iload rfl dX10_saw_50 rfl ?_
          refine tj_if_eq (tgt := 59) rfl rfl dX10_saw_52 (fun hc => ?_) (fun hc => ?_)
          · rw [if_pos hc] at h
            refine tj_iconst (v := 0) rfl dX10_saw_59 (by decide) ?_
            exact tj_pick (l' := [(0, _)]) [0] rfl (bX10_saw_60 hp  h)
          · rw [if_neg hc] at h
            refine tj_iconst (v := 1) rfl dX10_saw_55 (by decide) ?_
            refine tj_goto (tgt := 60) rfl dX10_saw_56 ?_
            exact tj_pick (l' := [(0, _)]) [0] rfl (bX10_saw_60 hp  h)
        · rw [if_neg hc] at h
          refine tj_bipush (v := -3) rfl dX10_saw_37 (by decide) ?_
          exact tj_ireturn (ty := .int) dX10_saw_39 rfl rfl (Nat.zero_le _) (Nat.zero_le _) (hp _ _ _ h)
      · rw [if_neg hc] at h
        refine tj_iconst (v := -1) rfl dX10_saw_22 (by decide) ?_
        exact tj_ireturn (ty := .int) dX10_saw_23 rfl rfl (Nat.zero_le _) (Nat.zero_le _) (hp _ _ _ h)
def wpX10_forget (post : Int32 → MM → Int64 → Prop) (M : MM) (tl : Int64) : Prop :=
  wpX5_empty (fun r3 M1 t2 => post r3 M1 t2) M tl 20
set_option maxHeartbeats 4000000 in
set_option maxRecDepth 20000 in
theorem ctX10_forget {E : EV} {ad : Nat → Nat} {M : MM} {tl : Int64} {Φ : Option Value → va_W → Prop} {post : Int32 → MM → Int64 → Prop} (h : wpX10_forget post M tl ) (hp : ∀ r M tl, post r M tl → Φ (some (.int r)) (WM E ad M tl)) : Tm E kX10_forget (WM E ad M tl) [.ref (ad (0))] Φ := by
  unfold wpX10_forget at h
  show T E kX10_forget 0 0 (WM E ad M tl) 0 [(0, .ref (ad (0)))] [] Φ
  refine tj_aload_n rfl dX10_forget_0 rfl ?_
  refine gf10_scene (a := 0) rfl rfl dX10_forget_1 fl_X10_26 ?_
  refine gf7_seen (a := 14) rfl rfl dX10_forget_4 fl_X10_306 ?_
  refine cf_V5 (a := 20) (z := kX5_empty) (As := []) rfl rfl dX10_forget_7 rfl ml_X10_268 okX5_empty rfl (rm_ok rfl) (Nat.le_of_ble_eq_true rfl) (Nat.le_of_ble_eq_true rfl) rfl rfl ?_
  refine ctX5_empty h (fun r3 M1 t2 h => ?_)
  exact tj_ireturn (ty := .int) dX10_forget_10 rfl rfl (Nat.zero_le _) (Nat.zero_le _) (hp _ _ _ h)
def wX10_histories_64 (post : Int64 → MM → Int64 → Prop) (bk19 : MM → Int64 → Int32 → Int64 → Int32 → Prop) (M : MM) (tl : Int64) (v1 : Int32) (v2 : Int64) (v4 : Int32) : Prop :=
  bk19 M tl v1 v2 (v4 + 1)
set_option maxHeartbeats 4000000 in
set_option maxRecDepth 20000 in
theorem bX10_histories_64 {E : EV} {ad : Nat → Nat} {M : MM} {tl : Int64} {Φ : Option Value → va_W → Prop} {post : Int64 → MM → Int64 → Prop} {bk19 : MM → Int64 → Int32 → Int64 → Int32 → Prop} {v1 : Int32} {v2 : Int64} {v4 : Int32} (hp : ∀ r M tl, post r M tl → Φ (some (.long r)) (WM E ad M tl)) (hb19 : ∀ (M : MM) (tl : Int64) (v1 : Int32) (v2 : Int64) (v4 : Int32), bk19 M tl v1 v2 v4 → T E kX10_histories 0 0 (WM E ad M tl) 19 [(0, .ref (ad (0))), (1, .int v1), (2, .long v2), (4, .int v4)] [] Φ) (h : wX10_histories_64 post bk19 M tl v1 v2 v4) : T E kX10_histories 0 0 (WM E ad M tl) 64 [(0, .ref (ad (0))), (1, .int v1), (2, .long v2), (4, .int v4)] [] Φ := by
  unfold wX10_histories_64 at h
  refine tj_iinc (v := _ + 1) (l' := [(0, _), (1, _), (2, _), (4, _)]) rfl dX10_histories_64 rfl (by decide) rfl rfl ?_
  refine tj_goto (tgt := 19) rfl dX10_histories_67 ?_
  exact hb19 _ _ _ _ _ h
def wX10_histories_19 (post : Int64 → MM → Int64 → Prop) : Nat → MM → Int64 → Int32 → Int64 → Int32 → Prop
  | 0, _, _, _, _, _ => False
  | n + 1, M, tl, v1, v2, v4 =>
    (if (M 3 0) ≤ v4 then post v2 M tl else wpX2_hasHistory (fun r3 M1 t2 => (if r3 = 0 then wX10_histories_64 post (wX10_histories_19 post n) M1 t2 v1 v2 v4 else wpX2_findHistories (fun M4 t5 => wX10_histories_64 post (wX10_histories_19 post n) M4 t5 v1 (v2 * ((M4 53 0 : Int32).toInt64)) v4) M1 t2 v4 v1)) M tl v4)
set_option maxHeartbeats 4000000 in
set_option maxRecDepth 20000 in
theorem bX10_histories_19 {E : EV} {ad : Nat → Nat} {Φ : Option Value → va_W → Prop} {post : Int64 → MM → Int64 → Prop}  (hp : ∀ r M tl, post r M tl → Φ (some (.long r)) (WM E ad M tl)) : ∀ (n : Nat) (M : MM) (tl : Int64) (v1 : Int32) (v2 : Int64) (v4 : Int32), wX10_histories_19 post n M tl v1 v2 v4 → T E kX10_histories 0 0 (WM E ad M tl) 19 [(0, .ref (ad (0))), (1, .int v1), (2, .long v2), (4, .int v4)] [] Φ := by
  intro n
  induction n with
  | zero => intro M tl v1 v2 v4 h; exact False.elim h
  | succ n ih =>
    intro M tl v1 v2 v4 h
    unfold wX10_histories_19 at h
    refine tj_iload rfl dX10_histories_19 rfl ?_
    refine tj_aload_n rfl dX10_histories_21 rfl ?_
    refine gf10_law (a := 0) rfl rfl dX10_histories_22 fl_X10_19 ?_
    refine gf1_lots (a := 3) rfl rfl dX10_histories_25 fl_X10_116 ?_
    refine tj_icmp_ge (tgt := 70) rfl rfl dX10_histories_28 (fun hc => ?_) (fun hc => ?_)
    · rw [if_pos hc] at h
      refine tj_lload_n rfl dX10_histories_70 rfl ?_
      exact tj_lreturn dX10_histories_71 rfl (Nat.zero_le _) (Nat.zero_le _) (hp _ _ _ h)
    · rw [if_neg hc] at h
      refine tj_aload_n rfl dX10_histories_31 rfl ?_
      refine gf10_past (a := 0) rfl rfl dX10_histories_32 fl_X10_65 ?_
      refine tj_iload rfl dX10_histories_35 rfl ?_
      refine cf_V2 (a := 53) (z := kX2_hasHistory) (As := [_]) rfl rfl dX10_histories_37 rfl ml_X10_311 okX2_hasHistory rfl (rm_ok rfl) (Nat.le_of_ble_eq_true rfl) (Nat.le_of_ble_eq_true rfl) rfl rfl ?_
      refine ctX2_hasHistory h (fun r3 M1 t2 h => ?_)
      refine tj_if_eq (tgt := 64) rfl rfl dX10_histories_40 (fun hc => ?_) (fun hc => ?_)
      · rw [if_pos hc] at h
        exact bX10_histories_64 hp ih h
      · rw [if_neg hc] at h
        refine tj_aload_n rfl dX10_histories_43 rfl ?_
        refine gf10_past (a := 0) rfl rfl dX10_histories_44 fl_X10_65 ?_
        refine tj_iload rfl dX10_histories_47 rfl ?_
        refine tj_iload_n rfl dX10_histories_49 rfl ?_
        refine cf_V2 (a := 53) (z := kX2_findHistories) (As := [_, _]) rfl rfl dX10_histories_50 rfl ml_X10_314 okX2_findHistories rfl (rm_ok rfl) (Nat.le_of_ble_eq_true rfl) (Nat.le_of_ble_eq_true rfl) rfl rfl ?_
        refine ctX2_findHistories h (fun M4 t5 h => ?_)
        refine tj_lload_n rfl dX10_histories_53 rfl ?_
        refine tj_aload_n rfl dX10_histories_54 rfl ?_
        refine gf10_past (a := 0) rfl rfl dX10_histories_55 fl_X10_65 ?_
        refine gf2_found (a := 53) rfl rfl dX10_histories_58 fl_X10_318 ?_
        refine tj_i2l rfl dX10_histories_61 ?_
        refine tj_lmul rfl dX10_histories_62 ?_
        refine tj_lstore_n (l' := [(0, _), (1, _), (2, _), (4, _)]) rfl dX10_histories_63 (by decide) rfl ?_
        exact bX10_histories_64 hp ih h
def wpX10_histories (post : Int64 → MM → Int64 → Prop) (M : MM) (tl : Int64) (v1 : Int32) : Prop :=
  (if v1 < 0 then post (-1) M tl else (if v1 < 24 then (∃ n9, wX10_histories_19 post  n9 M tl v1 1 0) else post (-1) M tl))
set_option maxHeartbeats 4000000 in
set_option maxRecDepth 20000 in
theorem ctX10_histories {E : EV} {ad : Nat → Nat} {M : MM} {tl : Int64} {Φ : Option Value → va_W → Prop} {post : Int64 → MM → Int64 → Prop} {v1 : Int32} (h : wpX10_histories post M tl v1) (hp : ∀ r M tl, post r M tl → Φ (some (.long r)) (WM E ad M tl)) : Tm E kX10_histories (WM E ad M tl) [.ref (ad (0)), .int v1] Φ := by
  unfold wpX10_histories at h
  show T E kX10_histories 0 0 (WM E ad M tl) 0 [(0, .ref (ad (0))), (1, .int v1)] [] Φ
  refine tj_iload_n rfl dX10_histories_0 rfl ?_
  refine tj_if_lt (tgt := 10) rfl rfl dX10_histories_1 (fun hc => ?_) (fun hc => ?_)
  · rw [if_pos hc] at h
    refine tj_ldc2 rfl dX10_histories_10 kl_X10_309 ?_
    exact tj_lreturn dX10_histories_13 rfl (Nat.zero_le _) (Nat.zero_le _) (hp _ _ _ h)
  · rw [if_neg hc] at h
    refine tj_iload_n rfl dX10_histories_4 rfl ?_
    refine tj_bipush (v := 24) rfl dX10_histories_5 (by decide) ?_
    refine tj_icmp_lt (tgt := 14) rfl rfl dX10_histories_7 (fun hc => ?_) (fun hc => ?_)
    · rw [if_pos hc] at h
      refine tj_lconst (v := 1) rfl dX10_histories_14 (by decide) ?_
      refine tj_lstore_n (l' := [(0, _), (1, _), (2, _)]) rfl dX10_histories_15 (by decide) rfl ?_
      refine tj_iconst (v := 0) rfl dX10_histories_16 (by decide) ?_
      refine tj_istore (l' := [(0, _), (1, _), (2, _), (4, _)]) rfl dX10_histories_17 (by decide) rfl ?_
      obtain ⟨n9, h⟩ := h
      exact bX10_histories_19 hp  n9 _ _ _ _ _ h
    · rw [if_neg hc] at h
      refine tj_ldc2 rfl dX10_histories_10 kl_X10_309 ?_
      exact tj_lreturn dX10_histories_13 rfl (Nat.zero_le _) (Nat.zero_le _) (hp _ _ _ h)
def wpX10_began (post : Int32 → MM → Int64 → Prop) (M : MM) (tl : Int64) (v1 : Int32) (v2 : Int32) (v3 : Int32) : Prop :=
  wpX1_isLot (fun r3 M1 t2 => (if r3 = 0 then post (-1) M1 t2 else (if v2 < 0 then post (-1) M1 t2 else (if 24 ≤ v2 then post (-1) M1 t2 else (if v3 < 0 then post (-1) M1 t2 else (if v3 ≤ 2 then wpX2_hasHistory (fun r6 M4 t5 => (if r6 = 0 then post (-2) M4 t5 else wpX2_findHistories (fun M7 t8 => (if (M7 53 0) = 0 then post (-4) M7 t8 else (if v3 = 0 then wpX2_onlyBeginner (fun r11 M9 t10 => post r11 M9 t10) M7 t8  else (if v3 = 1 then post (M7 53 1) M7 t8 else post (M7 53 2) M7 t8)))) M4 t5 v1 v2)) M1 t2 v1 else post (-1) M1 t2)))))) M tl 3 0 v1
set_option maxHeartbeats 4000000 in
set_option maxRecDepth 20000 in
theorem ctX10_began {E : EV} {ad : Nat → Nat} {M : MM} {tl : Int64} {Φ : Option Value → va_W → Prop} {post : Int32 → MM → Int64 → Prop} {v1 : Int32} {v2 : Int32} {v3 : Int32} (h : wpX10_began post M tl v1 v2 v3) (hp : ∀ r M tl, post r M tl → Φ (some (.int r)) (WM E ad M tl)) : Tm E kX10_began (WM E ad M tl) [.ref (ad (0)), .int v1, .int v2, .int v3] Φ := by
  unfold wpX10_began at h
  show T E kX10_began 0 0 (WM E ad M tl) 0 [(0, .ref (ad (0))), (1, .int v1), (2, .int v2), (3, .int v3)] [] Φ
  refine tj_aload_n rfl dX10_began_0 rfl ?_
  refine gf10_law (a := 0) rfl rfl dX10_began_1 fl_X10_19 ?_
  refine tj_iconst (v := 0) rfl dX10_began_4 (by decide) ?_
  refine tj_iload_n rfl dX10_began_5 rfl ?_
  refine cf_V1 (a := 3) (z := kX1_isLot) (As := [_, _]) rfl rfl dX10_began_6 rfl ml_X10_173 okX1_isLot rfl (rm_ok rfl) (Nat.le_of_ble_eq_true rfl) (Nat.le_of_ble_eq_true rfl) rfl rfl ?_
  refine ctX1_isLot h (fun r3 M1 t2 h => ?_)
  refine tj_if_eq (tgt := 31) rfl rfl dX10_began_9 (fun hc => ?_) (fun hc => ?_)
  · rw [if_pos hc] at h
    refine tj_iconst (v := -1) rfl dX10_began_31 (by decide) ?_
    exact tj_ireturn (ty := .int) dX10_began_32 rfl rfl (Nat.zero_le _) (Nat.zero_le _) (hp _ _ _ h)
  · rw [if_neg hc] at h
    refine tj_iload_n rfl dX10_began_12 rfl ?_
    refine tj_if_lt (tgt := 31) rfl rfl dX10_began_13 (fun hc => ?_) (fun hc => ?_)
    · rw [if_pos hc] at h
      refine tj_iconst (v := -1) rfl dX10_began_31 (by decide) ?_
      exact tj_ireturn (ty := .int) dX10_began_32 rfl rfl (Nat.zero_le _) (Nat.zero_le _) (hp _ _ _ h)
    · rw [if_neg hc] at h
      refine tj_iload_n rfl dX10_began_16 rfl ?_
      refine tj_bipush (v := 24) rfl dX10_began_17 (by decide) ?_
      refine tj_icmp_ge (tgt := 31) rfl rfl dX10_began_19 (fun hc => ?_) (fun hc => ?_)
      · rw [if_pos hc] at h
        refine tj_iconst (v := -1) rfl dX10_began_31 (by decide) ?_
        exact tj_ireturn (ty := .int) dX10_began_32 rfl rfl (Nat.zero_le _) (Nat.zero_le _) (hp _ _ _ h)
      · rw [if_neg hc] at h
        refine tj_iload_n rfl dX10_began_22 rfl ?_
        refine tj_if_lt (tgt := 31) rfl rfl dX10_began_23 (fun hc => ?_) (fun hc => ?_)
        · rw [if_pos hc] at h
          refine tj_iconst (v := -1) rfl dX10_began_31 (by decide) ?_
          exact tj_ireturn (ty := .int) dX10_began_32 rfl rfl (Nat.zero_le _) (Nat.zero_le _) (hp _ _ _ h)
        · rw [if_neg hc] at h
          refine tj_iload_n rfl dX10_began_26 rfl ?_
          refine tj_iconst (v := 2) rfl dX10_began_27 (by decide) ?_
          refine tj_icmp_le (tgt := 33) rfl rfl dX10_began_28 (fun hc => ?_) (fun hc => ?_)
          · rw [if_pos hc] at h
            refine tj_aload_n rfl dX10_began_33 rfl ?_
            refine gf10_past (a := 0) rfl rfl dX10_began_34 fl_X10_65 ?_
            refine tj_iload_n rfl dX10_began_37 rfl ?_
            refine cf_V2 (a := 53) (z := kX2_hasHistory) (As := [_]) rfl rfl dX10_began_38 rfl ml_X10_311 okX2_hasHistory rfl (rm_ok rfl) (Nat.le_of_ble_eq_true rfl) (Nat.le_of_ble_eq_true rfl) rfl rfl ?_
            refine ctX2_hasHistory h (fun r6 M4 t5 h => ?_)
            refine tj_if_ne (tgt := 47) rfl rfl dX10_began_41 (fun hc => ?_) (fun hc => ?_)
            · rw [if_neg hc] at h
              refine tj_aload_n rfl dX10_began_47 rfl ?_
              refine gf10_past (a := 0) rfl rfl dX10_began_48 fl_X10_65 ?_
              refine tj_iload_n rfl dX10_began_51 rfl ?_
              refine tj_iload_n rfl dX10_began_52 rfl ?_
              refine cf_V2 (a := 53) (z := kX2_findHistories) (As := [_, _]) rfl rfl dX10_began_53 rfl ml_X10_314 okX2_findHistories rfl (rm_ok rfl) (Nat.le_of_ble_eq_true rfl) (Nat.le_of_ble_eq_true rfl) rfl rfl ?_
              refine ctX2_findHistories h (fun M7 t8 h => ?_)
              refine tj_aload_n rfl dX10_began_56 rfl ?_
              refine gf10_past (a := 0) rfl rfl dX10_began_57 fl_X10_65 ?_
              refine gf2_found (a := 53) rfl rfl dX10_began_60 fl_X10_318 ?_
              refine tj_if_ne (tgt := 69) rfl rfl dX10_began_63 (fun hc => ?_) (fun hc => ?_)
              · rw [if_neg hc] at h
                refine tj_iload_n rfl dX10_began_69 rfl ?_
                refine tj_if_ne (tgt := 81) rfl rfl dX10_began_70 (fun hc => ?_) (fun hc => ?_)
                · rw [if_neg hc] at h
                  refine tj_iload_n rfl dX10_began_81 rfl ?_
                  refine tj_iconst (v := 1) rfl dX10_began_82 (by decide) ?_
                  refine tj_icmp_ne (tgt := 96) rfl rfl dX10_began_83 (fun hc => ?_) (fun hc => ?_)
                  · rw [if_neg hc] at h
                    refine tj_aload_n rfl dX10_began_96 rfl ?_
                    refine gf10_past (a := 0) rfl rfl dX10_began_97 fl_X10_65 ?_
                    refine gf2_lastMonth (a := 53) rfl rfl dX10_began_100 fl_X10_327 ?_
                    exact tj_ireturn (ty := .int) dX10_began_103 rfl rfl (Nat.zero_le _) (Nat.zero_le _) (hp _ _ _ h)
                  · rw [if_pos hc] at h
                    refine tj_aload_n rfl dX10_began_86 rfl ?_
                    refine gf10_past (a := 0) rfl rfl dX10_began_87 fl_X10_65 ?_
                    refine gf2_firstMonth (a := 53) rfl rfl dX10_began_90 fl_X10_324 ?_
                    refine tj_goto (tgt := 103) rfl dX10_began_93 ?_
                    exact tj_ireturn (ty := .int) dX10_began_103 rfl rfl (Nat.zero_le _) (Nat.zero_le _) (hp _ _ _ h)
                · rw [if_pos hc] at h
                  refine tj_aload_n rfl dX10_began_73 rfl ?_
                  refine gf10_past (a := 0) rfl rfl dX10_began_74 fl_X10_65 ?_
                  refine cf_V2 (a := 53) (z := kX2_onlyBeginner) (As := []) rfl rfl dX10_began_77 rfl ml_X10_321 okX2_onlyBeginner rfl (rm_ok rfl) (Nat.le_of_ble_eq_true rfl) (Nat.le_of_ble_eq_true rfl) rfl rfl ?_
                  refine ctX2_onlyBeginner h (fun r11 M9 t10 h => ?_)
                  exact tj_ireturn (ty := .int) dX10_began_80 rfl rfl (Nat.zero_le _) (Nat.zero_le _) (hp _ _ _ h)
              · rw [if_pos hc] at h
                refine tj_bipush (v := -4) rfl dX10_began_66 (by decide) ?_
                exact tj_ireturn (ty := .int) dX10_began_68 rfl rfl (Nat.zero_le _) (Nat.zero_le _) (hp _ _ _ h)
            · rw [if_pos hc] at h
              refine tj_bipush (v := -2) rfl dX10_began_44 (by decide) ?_
              exact tj_ireturn (ty := .int) dX10_began_46 rfl rfl (Nat.zero_le _) (Nat.zero_le _) (hp _ _ _ h)
          · rw [if_neg hc] at h
            refine tj_iconst (v := -1) rfl dX10_began_31 (by decide) ?_
            exact tj_ireturn (ty := .int) dX10_began_32 rfl rfl (Nat.zero_le _) (Nat.zero_le _) (hp _ _ _ h)
def wX10_keep_25 (post : Int32 → MM → Int64 → Prop) (M : MM) (tl : Int64) (v1 : Int32) (s0 : Int32) : Prop :=
  (vp_in v1 2 ∧ (kd (56 + 8 * (v1 : Int32).toNatClampNeg) = 7 ∧ wpX7_copyFrom (fun M3 t4 => (vp_in v1 (al 55) ∧ (∀ M6 : MM, M6 = mset M3 55 (v1 : Int32).toNatClampNeg (vp_nar .boolean 1) → post s0 M6 t4))) M tl (56 + 8 * (v1 : Int32).toNatClampNeg) 14))
set_option maxHeartbeats 4000000 in
set_option maxRecDepth 20000 in
theorem bX10_keep_25 {E : EV} {ad : Nat → Nat} {M : MM} {tl : Int64} {Φ : Option Value → va_W → Prop} {post : Int32 → MM → Int64 → Prop} {v1 : Int32} {s0 : Int32} (hp : ∀ r M tl, post r M tl → Φ (some (.int r)) (WM E ad M tl)) (h : wX10_keep_25 post M tl v1 s0) : T E kX10_keep 0 0 (WM E ad M tl) 25 [(0, .ref (ad (0))), (1, .int v1)] [.int s0] Φ := by
  unfold wX10_keep_25 at h
  refine tj_istore_n (l' := [(0, _), (1, _), (2, _)]) rfl dX10_keep_25 (by decide) rfl ?_
  refine tj_aload_n rfl dX10_keep_26 rfl ?_
  refine gf10_images (a := 0) rfl rfl dX10_keep_27 fl_X10_69 ?_
  refine tj_iload_n rfl dX10_keep_30 rfl ?_
  obtain ⟨hi1, h⟩ := h
  refine af_img (a := 54) rfl rfl dX10_keep_31 hi1 ?_
  refine tj_aload_n rfl dX10_keep_32 rfl ?_
  refine gf10_scene (a := 0) rfl rfl dX10_keep_33 fl_X10_26 ?_
  obtain ⟨hk2, h⟩ := h
  refine cf_V7 (a := 56 + 8 * (v1 : Int32).toNatClampNeg) (z := kX7_copyFrom) (As := [_]) hk2 rfl dX10_keep_36 rfl ml_X10_110 okX7_copyFrom rfl (rm_ok rfl) (Nat.le_of_ble_eq_true rfl) (Nat.le_of_ble_eq_true rfl) rfl rfl ?_
  refine ctX7_copyFrom h (fun M3 t4 h => ?_)
  refine tj_aload_n rfl dX10_keep_39 rfl ?_
  refine gf10_imageKept (a := 0) rfl rfl dX10_keep_40 fl_X10_73 ?_
  refine tj_iload_n rfl dX10_keep_43 rfl ?_
  refine tj_iconst (v := 1) rfl dX10_keep_44 (by decide) ?_
  obtain ⟨hi5, h⟩ := h
  refine af_zast (a := 55) rfl rfl dX10_keep_45 hi5 ?_
  replace h := h _ rfl
  generalize mset M3 55 (v1 : Int32).toNatClampNeg (vp_nar .boolean 1) = M6 at h ⊢
  refine tj_iload_n rfl dX10_keep_46 rfl ?_
  exact tj_ireturn (ty := .int) dX10_keep_47 rfl rfl (Nat.zero_le _) (Nat.zero_le _) (hp _ _ _ h)
def wpX10_keep (post : Int32 → MM → Int64 → Prop) (M : MM) (tl : Int64) (v1 : Int32) : Prop :=
  (if v1 < 0 then post (-1) M tl else (if v1 < 2 then (vp_in v1 (al 55) ∧ (if (M 55 (v1 : Int32).toNatClampNeg) = 0 then wX10_keep_25 post  M tl v1 0 else wX10_keep_25 post  M tl v1 1)) else post (-1) M tl))
set_option maxHeartbeats 4000000 in
set_option maxRecDepth 20000 in
theorem ctX10_keep {E : EV} {ad : Nat → Nat} {M : MM} {tl : Int64} {Φ : Option Value → va_W → Prop} {post : Int32 → MM → Int64 → Prop} {v1 : Int32} (h : wpX10_keep post M tl v1) (hp : ∀ r M tl, post r M tl → Φ (some (.int r)) (WM E ad M tl)) : Tm E kX10_keep (WM E ad M tl) [.ref (ad (0)), .int v1] Φ := by
  unfold wpX10_keep at h
  show T E kX10_keep 0 0 (WM E ad M tl) 0 [(0, .ref (ad (0))), (1, .int v1)] [] Φ
  refine tj_iload_n rfl dX10_keep_0 rfl ?_
  refine tj_if_lt (tgt := 9) rfl rfl dX10_keep_1 (fun hc => ?_) (fun hc => ?_)
  · rw [if_pos hc] at h
    refine tj_iconst (v := -1) rfl dX10_keep_9 (by decide) ?_
    exact tj_ireturn (ty := .int) dX10_keep_10 rfl rfl (Nat.zero_le _) (Nat.zero_le _) (hp _ _ _ h)
  · rw [if_neg hc] at h
    refine tj_iload_n rfl dX10_keep_4 rfl ?_
    refine tj_iconst (v := 2) rfl dX10_keep_5 (by decide) ?_
    refine tj_icmp_lt (tgt := 11) rfl rfl dX10_keep_6 (fun hc => ?_) (fun hc => ?_)
    · rw [if_pos hc] at h
      refine tj_aload_n rfl dX10_keep_11 rfl ?_
      refine gf10_imageKept (a := 0) rfl rfl dX10_keep_12 fl_X10_73 ?_
      refine tj_iload_n rfl dX10_keep_15 rfl ?_
      obtain ⟨hi1, h⟩ := h
      refine af_zald (a := 55) rfl rfl dX10_keep_16 hi1 ?_
      refine tj_if_eq (tgt := 24) rfl rfl dX10_keep_17 (fun hc => ?_) (fun hc => ?_)
      · rw [if_pos hc] at h
        refine tj_iconst (v := 0) rfl dX10_keep_24 (by decide) ?_
        exact bX10_keep_25 hp  h
      · rw [if_neg hc] at h
        refine tj_iconst (v := 1) rfl dX10_keep_20 (by decide) ?_
        refine tj_goto (tgt := 25) rfl dX10_keep_21 ?_
        exact bX10_keep_25 hp  h
    · rw [if_neg hc] at h
      refine tj_iconst (v := -1) rfl dX10_keep_9 (by decide) ?_
      exact tj_ireturn (ty := .int) dX10_keep_10 rfl rfl (Nat.zero_le _) (Nat.zero_le _) (hp _ _ _ h)
def wpX10_back (post : Int32 → MM → Int64 → Prop) (M : MM) (tl : Int64) (v1 : Int32) : Prop :=
  (if v1 < 0 then post (-1) M tl else (if v1 < 2 then (vp_in v1 (al 55) ∧ (if (M 55 (v1 : Int32).toNatClampNeg) = 0 then post (-2) M tl else (vp_in v1 2 ∧ wpX7_copyFrom (fun M3 t4 => wpX7_countThings (fun r7 M5 t6 => post r7 M5 t6) M3 t4 14) M tl 14 (56 + 8 * (v1 : Int32).toNatClampNeg)))) else post (-1) M tl))
set_option maxHeartbeats 4000000 in
set_option maxRecDepth 20000 in
theorem ctX10_back {E : EV} {ad : Nat → Nat} {M : MM} {tl : Int64} {Φ : Option Value → va_W → Prop} {post : Int32 → MM → Int64 → Prop} {v1 : Int32} (h : wpX10_back post M tl v1) (hp : ∀ r M tl, post r M tl → Φ (some (.int r)) (WM E ad M tl)) : Tm E kX10_back (WM E ad M tl) [.ref (ad (0)), .int v1] Φ := by
  unfold wpX10_back at h
  show T E kX10_back 0 0 (WM E ad M tl) 0 [(0, .ref (ad (0))), (1, .int v1)] [] Φ
  refine tj_iload_n rfl dX10_back_0 rfl ?_
  refine tj_if_lt (tgt := 9) rfl rfl dX10_back_1 (fun hc => ?_) (fun hc => ?_)
  · rw [if_pos hc] at h
    refine tj_iconst (v := -1) rfl dX10_back_9 (by decide) ?_
    exact tj_ireturn (ty := .int) dX10_back_10 rfl rfl (Nat.zero_le _) (Nat.zero_le _) (hp _ _ _ h)
  · rw [if_neg hc] at h
    refine tj_iload_n rfl dX10_back_4 rfl ?_
    refine tj_iconst (v := 2) rfl dX10_back_5 (by decide) ?_
    refine tj_icmp_lt (tgt := 11) rfl rfl dX10_back_6 (fun hc => ?_) (fun hc => ?_)
    · rw [if_pos hc] at h
      refine tj_aload_n rfl dX10_back_11 rfl ?_
      refine gf10_imageKept (a := 0) rfl rfl dX10_back_12 fl_X10_73 ?_
      refine tj_iload_n rfl dX10_back_15 rfl ?_
      obtain ⟨hi1, h⟩ := h
      refine af_zald (a := 55) rfl rfl dX10_back_16 hi1 ?_
      refine tj_if_ne (tgt := 23) rfl rfl dX10_back_17 (fun hc => ?_) (fun hc => ?_)
      · rw [if_neg hc] at h
        refine tj_aload_n rfl dX10_back_23 rfl ?_
        refine gf10_scene (a := 0) rfl rfl dX10_back_24 fl_X10_26 ?_
        refine tj_aload_n rfl dX10_back_27 rfl ?_
        refine gf10_images (a := 0) rfl rfl dX10_back_28 fl_X10_69 ?_
        refine tj_iload_n rfl dX10_back_31 rfl ?_
        obtain ⟨hi2, h⟩ := h
        refine af_img (a := 54) rfl rfl dX10_back_32 hi2 ?_
        refine cf_V7 (a := 14) (z := kX7_copyFrom) (As := [_]) rfl rfl dX10_back_33 rfl ml_X10_110 okX7_copyFrom rfl (rm_ok rfl) (Nat.le_of_ble_eq_true rfl) (Nat.le_of_ble_eq_true rfl) rfl rfl ?_
        refine ctX7_copyFrom h (fun M3 t4 h => ?_)
        refine tj_aload_n rfl dX10_back_36 rfl ?_
        refine gf10_scene (a := 0) rfl rfl dX10_back_37 fl_X10_26 ?_
        refine cf_V7 (a := 14) (z := kX7_countThings) (As := []) rfl rfl dX10_back_40 rfl ml_X10_329 okX7_countThings rfl (rm_ok rfl) (Nat.le_of_ble_eq_true rfl) (Nat.le_of_ble_eq_true rfl) rfl rfl ?_
        refine ctX7_countThings h (fun r7 M5 t6 h => ?_)
        exact tj_ireturn (ty := .int) dX10_back_43 rfl rfl (Nat.zero_le _) (Nat.zero_le _) (hp _ _ _ h)
      · rw [if_pos hc] at h
        refine tj_bipush (v := -2) rfl dX10_back_20 (by decide) ?_
        exact tj_ireturn (ty := .int) dX10_back_22 rfl rfl (Nat.zero_le _) (Nat.zero_le _) (hp _ _ _ h)
    · rw [if_neg hc] at h
      refine tj_iconst (v := -1) rfl dX10_back_9 (by decide) ?_
      exact tj_ireturn (ty := .int) dX10_back_10 rfl rfl (Nat.zero_le _) (Nat.zero_le _) (hp _ _ _ h)
def wpX10_sheet (post : Int32 → MM → Int64 → Prop) (M : MM) (tl : Int64) (v1 : Int32) (v2 : Int32) (v3 : Int32) : Prop :=
  wpX10_isSheet (fun r3 M1 t2 => (if r3 = 0 then post (-1) M1 t2 else wpX10_isLane (fun r6 M4 t5 => (if r6 = 0 then post (-1) M4 t5 else (if v3 ≤ 40 then (if 0 ≤ v3 then (vp_in v1 4 ∧ (kd (73 + 2 * (v1 : Int32).toNatClampNeg) = 8 ∧ wpX8_renew (fun M9 t10 => post 1 M9 t10) M4 t5 (73 + 2 * (v1 : Int32).toNatClampNeg) v2 v3)) else post (-14) M4 t5) else post (-1) M4 t5))) M1 t2 v2)) M tl v1
set_option maxHeartbeats 4000000 in
set_option maxRecDepth 20000 in
theorem ctX10_sheet {E : EV} {ad : Nat → Nat} {M : MM} {tl : Int64} {Φ : Option Value → va_W → Prop} {post : Int32 → MM → Int64 → Prop} {v1 : Int32} {v2 : Int32} {v3 : Int32} (h : wpX10_sheet post M tl v1 v2 v3) (hp : ∀ r M tl, post r M tl → Φ (some (.int r)) (WM E ad M tl)) : Tm E kX10_sheet (WM E ad M tl) [.ref (ad (0)), .int v1, .int v2, .int v3] Φ := by
  unfold wpX10_sheet at h
  show T E kX10_sheet 0 0 (WM E ad M tl) 0 [(0, .ref (ad (0))), (1, .int v1), (2, .int v2), (3, .int v3)] [] Φ
  refine tj_iload_n rfl dX10_sheet_0 rfl ?_
  refine cf_S (z := kX10_isSheet) (As := [_]) rfl dX10_sheet_1 rfl ml_X10_332 okX10_isSheet rfl (rm_ok rfl) (Nat.le_of_ble_eq_true rfl) (Nat.le_of_ble_eq_true rfl) rfl ?_
  refine ctX10_isSheet h (fun r3 M1 t2 h => ?_)
  refine tj_if_eq (tgt := 20) rfl rfl dX10_sheet_4 (fun hc => ?_) (fun hc => ?_)
  · rw [if_pos hc] at h
    refine tj_iconst (v := -1) rfl dX10_sheet_20 (by decide) ?_
    exact tj_ireturn (ty := .int) dX10_sheet_21 rfl rfl (Nat.zero_le _) (Nat.zero_le _) (hp _ _ _ h)
  · rw [if_neg hc] at h
    refine tj_iload_n rfl dX10_sheet_7 rfl ?_
    refine cf_S (z := kX10_isLane) (As := [_]) rfl dX10_sheet_8 rfl ml_X10_335 okX10_isLane rfl (rm_ok rfl) (Nat.le_of_ble_eq_true rfl) (Nat.le_of_ble_eq_true rfl) rfl ?_
    refine ctX10_isLane h (fun r6 M4 t5 h => ?_)
    refine tj_if_eq (tgt := 20) rfl rfl dX10_sheet_11 (fun hc => ?_) (fun hc => ?_)
    · rw [if_pos hc] at h
      refine tj_iconst (v := -1) rfl dX10_sheet_20 (by decide) ?_
      exact tj_ireturn (ty := .int) dX10_sheet_21 rfl rfl (Nat.zero_le _) (Nat.zero_le _) (hp _ _ _ h)
    · rw [if_neg hc] at h
      refine tj_iload_n rfl dX10_sheet_14 rfl ?_
      refine tj_bipush (v := 40) rfl dX10_sheet_15 (by decide) ?_
      refine tj_icmp_le (tgt := 22) rfl rfl dX10_sheet_17 (fun hc => ?_) (fun hc => ?_)
      · rw [if_pos hc] at h
        refine tj_iload_n rfl dX10_sheet_22 rfl ?_
        refine tj_if_ge (tgt := 29) rfl rfl dX10_sheet_23 (fun hc => ?_) (fun hc => ?_)
        · rw [if_pos hc] at h
          refine tj_aload_n rfl dX10_sheet_29 rfl ?_
          refine gf10_sheets (a := 0) rfl rfl dX10_sheet_30 fl_X10_79 ?_
          refine tj_iload_n rfl dX10_sheet_33 rfl ?_
          obtain ⟨hi7, h⟩ := h
          refine af_sht (a := 72) rfl rfl dX10_sheet_34 hi7 ?_
          refine tj_iload_n rfl dX10_sheet_35 rfl ?_
          refine tj_iload_n rfl dX10_sheet_36 rfl ?_
          obtain ⟨hk8, h⟩ := h
          refine cf_V8 (a := 73 + 2 * (v1 : Int32).toNatClampNeg) (z := kX8_renew) (As := [_, _]) hk8 rfl dX10_sheet_37 rfl ml_X10_338 okX8_renew rfl (rm_ok rfl) (Nat.le_of_ble_eq_true rfl) (Nat.le_of_ble_eq_true rfl) rfl rfl ?_
          refine ctX8_renew h (fun M9 t10 h => ?_)
          refine tj_iconst (v := 1) rfl dX10_sheet_40 (by decide) ?_
          exact tj_ireturn (ty := .int) dX10_sheet_41 rfl rfl (Nat.zero_le _) (Nat.zero_le _) (hp _ _ _ h)
        · rw [if_neg hc] at h
          refine tj_bipush (v := -14) rfl dX10_sheet_26 (by decide) ?_
          exact tj_ireturn (ty := .int) dX10_sheet_28 rfl rfl (Nat.zero_le _) (Nat.zero_le _) (hp _ _ _ h)
      · rw [if_neg hc] at h
        refine tj_iconst (v := -1) rfl dX10_sheet_20 (by decide) ?_
        exact tj_ireturn (ty := .int) dX10_sheet_21 rfl rfl (Nat.zero_le _) (Nat.zero_le _) (hp _ _ _ h)
def wpX10_lay (post : Int32 → MM → Int64 → Prop) (M : MM) (tl : Int64) (v1 : Int32) (v2 : Int32) (v3 : Int32) : Prop :=
  wpX10_isSheet (fun r3 M1 t2 => (if r3 = 0 then post (-1) M1 t2 else (vp_in v1 4 ∧ (kd (73 + 2 * (v1 : Int32).toNatClampNeg) = 8 ∧ wpX8_faultAt (fun r8 M6 t7 => (if r8 = 0 then (vp_in v1 4 ∧ (kd (73 + 2 * (v1 : Int32).toNatClampNeg) = 8 ∧ wpX8_setCell (fun M11 t12 => post 1 M11 t12) M6 t7 (73 + 2 * (v1 : Int32).toNatClampNeg) v2 v3)) else post (((-10) : Int32) - r8) M6 t7)) M1 t2 (73 + 2 * (v1 : Int32).toNatClampNeg) v2)))) M tl v1
set_option maxHeartbeats 4000000 in
set_option maxRecDepth 20000 in
theorem ctX10_lay {E : EV} {ad : Nat → Nat} {M : MM} {tl : Int64} {Φ : Option Value → va_W → Prop} {post : Int32 → MM → Int64 → Prop} {v1 : Int32} {v2 : Int32} {v3 : Int32} (h : wpX10_lay post M tl v1 v2 v3) (hp : ∀ r M tl, post r M tl → Φ (some (.int r)) (WM E ad M tl)) : Tm E kX10_lay (WM E ad M tl) [.ref (ad (0)), .int v1, .int v2, .int v3] Φ := by
  unfold wpX10_lay at h
  show T E kX10_lay 0 0 (WM E ad M tl) 0 [(0, .ref (ad (0))), (1, .int v1), (2, .int v2), (3, .int v3)] [] Φ
  refine tj_iload_n rfl dX10_lay_0 rfl ?_
  refine cf_S (z := kX10_isSheet) (As := [_]) rfl dX10_lay_1 rfl ml_X10_332 okX10_isSheet rfl (rm_ok rfl) (Nat.le_of_ble_eq_true rfl) (Nat.le_of_ble_eq_true rfl) rfl ?_
  refine ctX10_isSheet h (fun r3 M1 t2 h => ?_)
  refine tj_if_ne (tgt := 9) rfl rfl dX10_lay_4 (fun hc => ?_) (fun hc => ?_)
  · rw [if_neg hc] at h
    refine tj_aload_n rfl dX10_lay_9 rfl ?_
    refine gf10_sheets (a := 0) rfl rfl dX10_lay_10 fl_X10_79 ?_
    refine tj_iload_n rfl dX10_lay_13 rfl ?_
    obtain ⟨hi4, h⟩ := h
    refine af_sht (a := 72) rfl rfl dX10_lay_14 hi4 ?_
    refine tj_iload_n rfl dX10_lay_15 rfl ?_
    obtain ⟨hk5, h⟩ := h
    refine cf_V8 (a := 73 + 2 * (v1 : Int32).toNatClampNeg) (z := kX8_faultAt) (As := [_]) hk5 rfl dX10_lay_16 rfl ml_X10_341 okX8_faultAt rfl (rm_ok rfl) (Nat.le_of_ble_eq_true rfl) (Nat.le_of_ble_eq_true rfl) rfl rfl ?_
    refine ctX8_faultAt h (fun r8 M6 t7 h => ?_)
    refine tj_istore (l' := [(0, _), (1, _), (2, _), (3, _), (4, _)]) rfl dX10_lay_19 (by decide) rfl ?_
    refine tj_iload rfl dX10_lay_21 rfl ?_
    refine tj_if_eq (tgt := 32) rfl rfl dX10_lay_23 (fun hc => ?_) (fun hc => ?_)
    · rw [if_pos hc] at h
      refine tj_aload_n rfl dX10_lay_32 rfl ?_
      refine gf10_sheets (a := 0) rfl rfl dX10_lay_33 fl_X10_79 ?_
      refine tj_iload_n rfl dX10_lay_36 rfl ?_
      obtain ⟨hi9, h⟩ := h
      refine af_sht (a := 72) rfl rfl dX10_lay_37 hi9 ?_
      refine tj_iload_n rfl dX10_lay_38 rfl ?_
      refine tj_iload_n rfl dX10_lay_39 rfl ?_
      obtain ⟨hk10, h⟩ := h
      refine cf_V8 (a := 73 + 2 * (v1 : Int32).toNatClampNeg) (z := kX8_setCell) (As := [_, _]) hk10 rfl dX10_lay_40 rfl ml_X10_344 okX8_setCell rfl (rm_ok rfl) (Nat.le_of_ble_eq_true rfl) (Nat.le_of_ble_eq_true rfl) rfl rfl ?_
      refine ctX8_setCell h (fun M11 t12 h => ?_)
      refine tj_iconst (v := 1) rfl dX10_lay_43 (by decide) ?_
      exact tj_ireturn (ty := .int) dX10_lay_44 rfl rfl (Nat.zero_le _) (Nat.zero_le _) (hp _ _ _ h)
    · rw [if_neg hc] at h
      refine tj_bipush (v := -10) rfl dX10_lay_26 (by decide) ?_
      refine tj_iload rfl dX10_lay_28 rfl ?_
      refine tj_isub rfl dX10_lay_30 ?_
      exact tj_ireturn (ty := .int) dX10_lay_31 rfl rfl (Nat.zero_le _) (Nat.zero_le _) (hp _ _ _ h)
  · rw [if_pos hc] at h
    refine tj_iconst (v := -1) rfl dX10_lay_7 (by decide) ?_
    exact tj_ireturn (ty := .int) dX10_lay_8 rfl rfl (Nat.zero_le _) (Nat.zero_le _) (hp _ _ _ h)
def wX10_read_142 (post : Int32 → MM → Int64 → Prop) : Nat → MM → Int64 → Int32 → Nat → Int32 → Int32 → Int32 → Prop
  | 0, _, _, _, _, _, _, _ => False
  | n + 1, M, tl, v3, v5, v6, v7, v8 =>
    (if v7 ≤ v8 then (∀ M1 : MM, M1 = mset M 0 12 v6 → post v7 M1 tl) else (kd (v5) = 8 ∧ wpX8_cell (fun r5 M3 t4 => (kd (v5) = 8 ∧ wpX8_cell (fun r9 M7 t8 => (kd (v5) = 8 ∧ wpX8_cell (fun r13 M11 t12 => wpX7_setThing (fun M14 t15 => (wX10_read_142 post n) M14 t15 v3 v5 v6 v7 (v8 + 1)) M11 t12 14 r5 r9 r13) M7 t8 v5 ((v3 + ((3 : Int32) * v8)) + 2))) M3 t4 v5 ((v3 + ((3 : Int32) * v8)) + 1))) M tl v5 (v3 + ((3 : Int32) * v8))))
set_option maxHeartbeats 4000000 in
set_option maxRecDepth 20000 in
theorem bX10_read_142 {E : EV} {ad : Nat → Nat} {Φ : Option Value → va_W → Prop} {post : Int32 → MM → Int64 → Prop}  (hp : ∀ r M tl, post r M tl → Φ (some (.int r)) (WM E ad M tl)) : ∀ (n : Nat) (M : MM) (tl : Int64) (v3 : Int32) (v5 : Nat) (v6 : Int32) (v7 : Int32) (v8 : Int32), wX10_read_142 post n M tl v3 v5 v6 v7 v8 → T E kX10_read 0 0 (WM E ad M tl) 142 [(0, .ref (ad (0))), (3, .int v3), (5, .ref (ad (v5))), (6, .int v6), (7, .int v7), (8, .int v8)] [] Φ := by
  intro n
  induction n with
  | zero => intro M tl v3 v5 v6 v7 v8 h; exact False.elim h
  | succ n ih =>
    intro M tl v3 v5 v6 v7 v8 h
    unfold wX10_read_142 at h
    refine tj_iload rfl dX10_read_142 rfl ?_
    refine tj_iload rfl dX10_read_144 rfl ?_
    refine tj_icmp_ge (tgt := 195) rfl rfl dX10_read_146 (fun hc => ?_) (fun hc => ?_)
    · rw [if_pos hc] at h
      refine tj_aload_n rfl dX10_read_195 rfl ?_
      refine tj_iload rfl dX10_read_196 rfl ?_
      refine pf10_sheetFault (a := 0) rfl rfl dX10_read_198 fl_X10_355 ?_
      replace h := h _ rfl
      generalize mset M 0 12 v6 = M1 at h ⊢
      refine tj_iload rfl dX10_read_201 rfl ?_
      exact tj_ireturn (ty := .int) dX10_read_203 rfl rfl (Nat.zero_le _) (Nat.zero_le _) (hp _ _ _ h)
    · rw [if_neg hc] at h
      refine tj_iload_n rfl dX10_read_149 rfl ?_
      refine tj_iconst (v := 3) rfl dX10_read_150 (by decide) ?_
      refine tj_iload rfl dX10_read_151 rfl ?_
      refine tj_imul rfl dX10_read_153 ?_
      refine tj_iadd rfl dX10_read_154 ?_
      refine tj_istore (l' := [(0, _), (3, _), (5, _), (6, _), (7, _), (8, _), (9, _)]) rfl dX10_read_155 (by decide) rfl ?_
      refine tj_aload_n rfl dX10_read_157 rfl ?_
      refine gf10_scene (a := 0) rfl rfl dX10_read_158 fl_X10_26 ?_
      refine tj_aload rfl dX10_read_161 rfl ?_
      refine tj_iload rfl dX10_read_163 rfl ?_
      obtain ⟨hk2, h⟩ := h
      refine cf_V8 (a := v5) (z := kX8_cell) (As := [_]) hk2 rfl dX10_read_165 rfl ml_X10_353 okX8_cell rfl (rm_ok rfl) (Nat.le_of_ble_eq_true rfl) (Nat.le_of_ble_eq_true rfl) rfl rfl ?_
      refine ctX8_cell h (fun r5 M3 t4 h => ?_)
      refine tj_aload rfl dX10_read_168 rfl ?_
      refine tj_iload rfl dX10_read_170 rfl ?_
      refine tj_iconst (v := 1) rfl dX10_read_172 (by decide) ?_
      refine tj_iadd rfl dX10_read_173 ?_
      obtain ⟨hk6, h⟩ := h
      refine cf_V8 (a := v5) (z := kX8_cell) (As := [_]) hk6 rfl dX10_read_174 rfl ml_X10_353 okX8_cell rfl (rm_ok rfl) (Nat.le_of_ble_eq_true rfl) (Nat.le_of_ble_eq_true rfl) rfl rfl ?_
      refine ctX8_cell h (fun r9 M7 t8 h => ?_)
      refine tj_aload rfl dX10_read_177 rfl ?_
      refine tj_iload rfl dX10_read_179 rfl ?_
      refine tj_iconst (v := 2) rfl dX10_read_181 (by decide) ?_
      refine tj_iadd rfl dX10_read_182 ?_
      obtain ⟨hk10, h⟩ := h
      refine cf_V8 (a := v5) (z := kX8_cell) (As := [_]) hk10 rfl dX10_read_183 rfl ml_X10_353 okX8_cell rfl (rm_ok rfl) (Nat.le_of_ble_eq_true rfl) (Nat.le_of_ble_eq_true rfl) rfl rfl ?_
      refine ctX8_cell h (fun r13 M11 t12 h => ?_)
      refine cf_V7 (a := 14) (z := kX7_setThing) (As := [_, _, _]) rfl rfl dX10_read_186 rfl ml_X10_179 okX7_setThing rfl (rm_ok rfl) (Nat.le_of_ble_eq_true rfl) (Nat.le_of_ble_eq_true rfl) rfl rfl ?_
      refine ctX7_setThing h (fun M14 t15 h => ?_)
      refine tj_iinc (v := _ + 1) (l' := [(0, _), (3, _), (5, _), (6, _), (7, _), (8, _), (9, _)]) rfl dX10_read_189 rfl (by decide) rfl rfl ?_
      refine tj_goto (tgt := 142) rfl dX10_read_192 ?_
      exact tj_pick (l' := [(0, _), (3, _), (5, _), (6, _), (7, _), (8, _)]) [0, 1, 2, 3, 4, 5] rfl (ih _ _ _ _ _ _ _ h)
def wX10_read_71 (post : Int32 → MM → Int64 → Prop) : Nat → MM → Int64 → Int32 → Nat → Int32 → Int32 → Int32 → Prop
  | 0, _, _, _, _, _, _, _ => False
  | n + 1, M, tl, v3, v5, v6, v7, v8 =>
    (if v7 ≤ v8 then (∃ n9, wX10_read_142 post  n9 M tl v3 v5 v6 v7 0) else (kd (v5) = 8 ∧ wpX8_cell (fun r4 M2 t3 => (kd (v5) = 8 ∧ wpX8_cell (fun r8 M6 t7 => wpX1_isLot (fun r11 M9 t10 => (if r11 = 0 then post (((-20) : Int32) - v8) M9 t10 else (kd (v5) = 8 ∧ wpX8_cell (fun r15 M13 t14 => wpX10_isThing (fun r18 M16 t17 => (if r18 = 0 then post (((-20) : Int32) - v8) M16 t17 else (wX10_read_71 post n) M16 t17 v3 v5 v6 v7 (v8 + 1))) M13 t14 r15) M9 t10 v5 ((v3 + ((3 : Int32) * v8)) + 2)))) M6 t7 3 r4 r8) M2 t3 v5 ((v3 + ((3 : Int32) * v8)) + 1))) M tl v5 (v3 + ((3 : Int32) * v8))))
set_option maxHeartbeats 4000000 in
set_option maxRecDepth 20000 in
theorem bX10_read_71 {E : EV} {ad : Nat → Nat} {Φ : Option Value → va_W → Prop} {post : Int32 → MM → Int64 → Prop}  (hp : ∀ r M tl, post r M tl → Φ (some (.int r)) (WM E ad M tl)) : ∀ (n : Nat) (M : MM) (tl : Int64) (v3 : Int32) (v5 : Nat) (v6 : Int32) (v7 : Int32) (v8 : Int32), wX10_read_71 post n M tl v3 v5 v6 v7 v8 → T E kX10_read 0 0 (WM E ad M tl) 71 [(0, .ref (ad (0))), (3, .int v3), (5, .ref (ad (v5))), (6, .int v6), (7, .int v7), (8, .int v8)] [] Φ := by
  intro n
  induction n with
  | zero => intro M tl v3 v5 v6 v7 v8 h; exact False.elim h
  | succ n ih =>
    intro M tl v3 v5 v6 v7 v8 h
    unfold wX10_read_71 at h
    refine tj_iload rfl dX10_read_71 rfl ?_
    refine tj_iload rfl dX10_read_73 rfl ?_
    refine tj_icmp_ge (tgt := 139) rfl rfl dX10_read_75 (fun hc => ?_) (fun hc => ?_)
    · rw [if_pos hc] at h
      refine tj_iconst (v := 0) rfl dX10_read_139 (by decide) ?_
      refine tj_istore (l' := [(0, _), (3, _), (5, _), (6, _), (7, _), (8, _)]) rfl dX10_read_140 (by decide) rfl ?_
      obtain ⟨n9, h⟩ := h
      exact bX10_read_142 hp  n9 _ _ _ _ _ _ _ h
    · rw [if_neg hc] at h
      refine tj_iload_n rfl dX10_read_78 rfl ?_
      refine tj_iconst (v := 3) rfl dX10_read_79 (by decide) ?_
      refine tj_iload rfl dX10_read_80 rfl ?_
      refine tj_imul rfl dX10_read_82 ?_
      refine tj_iadd rfl dX10_read_83 ?_
      refine tj_istore (l' := [(0, _), (3, _), (5, _), (6, _), (7, _), (8, _), (9, _)]) rfl dX10_read_84 (by decide) rfl ?_
      refine tj_aload_n rfl dX10_read_86 rfl ?_
      refine gf10_law (a := 0) rfl rfl dX10_read_87 fl_X10_19 ?_
      refine tj_aload rfl dX10_read_90 rfl ?_
      refine tj_iload rfl dX10_read_92 rfl ?_
      obtain ⟨hk1, h⟩ := h
      refine cf_V8 (a := v5) (z := kX8_cell) (As := [_]) hk1 rfl dX10_read_94 rfl ml_X10_353 okX8_cell rfl (rm_ok rfl) (Nat.le_of_ble_eq_true rfl) (Nat.le_of_ble_eq_true rfl) rfl rfl ?_
      refine ctX8_cell h (fun r4 M2 t3 h => ?_)
      refine tj_aload rfl dX10_read_97 rfl ?_
      refine tj_iload rfl dX10_read_99 rfl ?_
      refine tj_iconst (v := 1) rfl dX10_read_101 (by decide) ?_
      refine tj_iadd rfl dX10_read_102 ?_
      obtain ⟨hk5, h⟩ := h
      refine cf_V8 (a := v5) (z := kX8_cell) (As := [_]) hk5 rfl dX10_read_103 rfl ml_X10_353 okX8_cell rfl (rm_ok rfl) (Nat.le_of_ble_eq_true rfl) (Nat.le_of_ble_eq_true rfl) rfl rfl ?_
      refine ctX8_cell h (fun r8 M6 t7 h => ?_)
      refine cf_V1 (a := 3) (z := kX1_isLot) (As := [_, _]) rfl rfl dX10_read_106 rfl ml_X10_173 okX1_isLot rfl (rm_ok rfl) (Nat.le_of_ble_eq_true rfl) (Nat.le_of_ble_eq_true rfl) rfl rfl ?_
      refine ctX1_isLot h (fun r11 M9 t10 h => ?_)
      refine tj_if_eq (tgt := 127) rfl rfl dX10_read_109 (fun hc => ?_) (fun hc => ?_)
      · rw [if_pos hc] at h
        refine tj_bipush (v := -20) rfl dX10_read_127 (by decide) ?_
        refine tj_iload rfl dX10_read_129 rfl ?_
        refine tj_isub rfl dX10_read_131 ?_
        exact tj_ireturn (ty := .int) dX10_read_132 rfl rfl (Nat.zero_le _) (Nat.zero_le _) (hp _ _ _ h)
      · rw [if_neg hc] at h
        refine tj_aload rfl dX10_read_112 rfl ?_
        refine tj_iload rfl dX10_read_114 rfl ?_
        refine tj_iconst (v := 2) rfl dX10_read_116 (by decide) ?_
        refine tj_iadd rfl dX10_read_117 ?_
        obtain ⟨hk12, h⟩ := h
        refine cf_V8 (a := v5) (z := kX8_cell) (As := [_]) hk12 rfl dX10_read_118 rfl ml_X10_353 okX8_cell rfl (rm_ok rfl) (Nat.le_of_ble_eq_true rfl) (Nat.le_of_ble_eq_true rfl) rfl rfl ?_
        refine ctX8_cell h (fun r15 M13 t14 h => ?_)
        refine cf_S (z := kX10_isThing) (As := [_]) rfl dX10_read_121 rfl ml_X10_161 okX10_isThing rfl (rm_ok rfl) (Nat.le_of_ble_eq_true rfl) (Nat.le_of_ble_eq_true rfl) rfl ?_
        refine ctX10_isThing h (fun r18 M16 t17 h => ?_)
        refine tj_if_ne (tgt := 133) rfl rfl dX10_read_124 (fun hc => ?_) (fun hc => ?_)
        · rw [if_neg hc] at h
          refine tj_iinc (v := _ + 1) (l' := [(0, _), (3, _), (5, _), (6, _), (7, _), (8, _), (9, _)]) rfl dX10_read_133 rfl (by decide) rfl rfl ?_
          refine tj_goto (tgt := 71) rfl dX10_read_136 ?_
          exact tj_pick (l' := [(0, _), (3, _), (5, _), (6, _), (7, _), (8, _)]) [0, 1, 2, 3, 4, 5] rfl (ih _ _ _ _ _ _ _ h)
        · rw [if_pos hc] at h
          refine tj_bipush (v := -20) rfl dX10_read_127 (by decide) ?_
          refine tj_iload rfl dX10_read_129 rfl ?_
          refine tj_isub rfl dX10_read_131 ?_
          exact tj_ireturn (ty := .int) dX10_read_132 rfl rfl (Nat.zero_le _) (Nat.zero_le _) (hp _ _ _ h)
def wX10_read_66 (post : Int32 → MM → Int64 → Prop) (M : MM) (tl : Int64) (v3 : Int32) (v5 : Nat) (v6 : Int32) (s0 : Int32) : Prop :=
  (∃ n9, wX10_read_71 post  n9 M tl v3 v5 v6 s0 0)
set_option maxHeartbeats 4000000 in
set_option maxRecDepth 20000 in
theorem bX10_read_66 {E : EV} {ad : Nat → Nat} {M : MM} {tl : Int64} {Φ : Option Value → va_W → Prop} {post : Int32 → MM → Int64 → Prop} {v3 : Int32} {v5 : Nat} {v6 : Int32} {s0 : Int32} (hp : ∀ r M tl, post r M tl → Φ (some (.int r)) (WM E ad M tl)) (h : wX10_read_66 post M tl v3 v5 v6 s0) : T E kX10_read 0 0 (WM E ad M tl) 66 [(0, .ref (ad (0))), (3, .int v3), (5, .ref (ad (v5))), (6, .int v6)] [.int s0] Φ := by
  unfold wX10_read_66 at h
  refine tj_istore (l' := [(0, _), (3, _), (5, _), (6, _), (7, _)]) rfl dX10_read_66 (by decide) rfl ?_
  refine tj_iconst (v := 0) rfl dX10_read_68 (by decide) ?_
  refine tj_istore (l' := [(0, _), (3, _), (5, _), (6, _), (7, _), (8, _)]) rfl dX10_read_69 (by decide) rfl ?_
  obtain ⟨n9, h⟩ := h
  exact bX10_read_71 hp  n9 _ _ _ _ _ _ _ h
def wpX10_read (post : Int32 → MM → Int64 → Prop) (M : MM) (tl : Int64) (v1 : Int32) (v2 : Int32) (v3 : Int32) (v4 : Int32) : Prop :=
  wpX10_isSheet (fun r3 M1 t2 => (if r3 = 0 then post (-1) M1 t2 else wpX10_isLane (fun r6 M4 t5 => (if r6 = 0 then post (-1) M4 t5 else (if v4 < 0 then post (-1) M4 t5 else (if v4 ≤ 13 then (vp_in v1 4 ∧ (kd (73 + 2 * (v1 : Int32).toNatClampNeg) = 8 ∧ wpX8_faultOfReading (fun r11 M9 t10 => (if r11 = 0 then wX10_read_66 post  M9 t10 v3 (73 + 2 * (v1 : Int32).toNatClampNeg) r11 v4 else (kd (73 + 2 * (v1 : Int32).toNatClampNeg) = 8 ∧ wpX8_wholeThings (fun r15 M13 t14 => wX10_read_66 post  M13 t14 v3 (73 + 2 * (v1 : Int32).toNatClampNeg) r11 r15) M9 t10 (73 + 2 * (v1 : Int32).toNatClampNeg) v2 v3 v4))) M4 t5 (73 + 2 * (v1 : Int32).toNatClampNeg) v2 v3 v4)) else post (-1) M4 t5)))) M1 t2 v2)) M tl v1
set_option maxHeartbeats 4000000 in
set_option maxRecDepth 20000 in
theorem ctX10_read {E : EV} {ad : Nat → Nat} {M : MM} {tl : Int64} {Φ : Option Value → va_W → Prop} {post : Int32 → MM → Int64 → Prop} {v1 : Int32} {v2 : Int32} {v3 : Int32} {v4 : Int32} (h : wpX10_read post M tl v1 v2 v3 v4) (hp : ∀ r M tl, post r M tl → Φ (some (.int r)) (WM E ad M tl)) : Tm E kX10_read (WM E ad M tl) [.ref (ad (0)), .int v1, .int v2, .int v3, .int v4] Φ := by
  unfold wpX10_read at h
  show T E kX10_read 0 0 (WM E ad M tl) 0 [(0, .ref (ad (0))), (1, .int v1), (2, .int v2), (3, .int v3), (4, .int v4)] [] Φ
  refine tj_iload_n rfl dX10_read_0 rfl ?_
  refine cf_S (z := kX10_isSheet) (As := [_]) rfl dX10_read_1 rfl ml_X10_332 okX10_isSheet rfl (rm_ok rfl) (Nat.le_of_ble_eq_true rfl) (Nat.le_of_ble_eq_true rfl) rfl ?_
  refine ctX10_isSheet h (fun r3 M1 t2 h => ?_)
  refine tj_if_eq (tgt := 26) rfl rfl dX10_read_4 (fun hc => ?_) (fun hc => ?_)
  · rw [if_pos hc] at h
    refine tj_iconst (v := -1) rfl dX10_read_26 (by decide) ?_
    exact tj_ireturn (ty := .int) dX10_read_27 rfl rfl (Nat.zero_le _) (Nat.zero_le _) (hp _ _ _ h)
  · rw [if_neg hc] at h
    refine tj_iload_n rfl dX10_read_7 rfl ?_
    refine cf_S (z := kX10_isLane) (As := [_]) rfl dX10_read_8 rfl ml_X10_335 okX10_isLane rfl (rm_ok rfl) (Nat.le_of_ble_eq_true rfl) (Nat.le_of_ble_eq_true rfl) rfl ?_
    refine ctX10_isLane h (fun r6 M4 t5 h => ?_)
    refine tj_if_eq (tgt := 26) rfl rfl dX10_read_11 (fun hc => ?_) (fun hc => ?_)
    · rw [if_pos hc] at h
      refine tj_iconst (v := -1) rfl dX10_read_26 (by decide) ?_
      exact tj_ireturn (ty := .int) dX10_read_27 rfl rfl (Nat.zero_le _) (Nat.zero_le _) (hp _ _ _ h)
    · rw [if_neg hc] at h
      refine tj_iload rfl dX10_read_14 rfl ?_
      refine tj_if_lt (tgt := 26) rfl rfl dX10_read_16 (fun hc => ?_) (fun hc => ?_)
      · rw [if_pos hc] at h
        refine tj_iconst (v := -1) rfl dX10_read_26 (by decide) ?_
        exact tj_ireturn (ty := .int) dX10_read_27 rfl rfl (Nat.zero_le _) (Nat.zero_le _) (hp _ _ _ h)
      · rw [if_neg hc] at h
        refine tj_iload rfl dX10_read_19 rfl ?_
        refine tj_bipush (v := 13) rfl dX10_read_21 (by decide) ?_
        refine tj_icmp_le (tgt := 28) rfl rfl dX10_read_23 (fun hc => ?_) (fun hc => ?_)
        · rw [if_pos hc] at h
          refine tj_aload_n rfl dX10_read_28 rfl ?_
          refine gf10_sheets (a := 0) rfl rfl dX10_read_29 fl_X10_79 ?_
          refine tj_iload_n rfl dX10_read_32 rfl ?_
          obtain ⟨hi7, h⟩ := h
          refine af_sht (a := 72) rfl rfl dX10_read_33 hi7 ?_
          refine tj_astore (l' := [(0, _), (1, _), (2, _), (3, _), (4, _), (5, _)]) rfl dX10_read_34 (by decide) rfl ?_
          refine tj_aload rfl dX10_read_36 rfl ?_
          refine tj_iload_n rfl dX10_read_38 rfl ?_
          refine tj_iload_n rfl dX10_read_39 rfl ?_
          refine tj_iload rfl dX10_read_40 rfl ?_
          obtain ⟨hk8, h⟩ := h
          refine cf_V8 (a := 73 + 2 * (v1 : Int32).toNatClampNeg) (z := kX8_faultOfReading) (As := [_, _, _]) hk8 rfl dX10_read_42 rfl ml_X10_347 okX8_faultOfReading rfl (rm_ok rfl) (Nat.le_of_ble_eq_true rfl) (Nat.le_of_ble_eq_true rfl) rfl rfl ?_
          refine ctX8_faultOfReading h (fun r11 M9 t10 h => ?_)
          refine tj_istore (l' := [(0, _), (1, _), (2, _), (3, _), (4, _), (5, _), (6, _)]) rfl dX10_read_45 (by decide) rfl ?_
          refine tj_iload rfl dX10_read_47 rfl ?_
          refine tj_if_ne (tgt := 57) rfl rfl dX10_read_49 (fun hc => ?_) (fun hc => ?_)
          · rw [if_neg hc] at h
            refine tj_aload rfl dX10_read_57 rfl ?_
            refine tj_iload_n rfl dX10_read_59 rfl ?_
            refine tj_iload_n rfl dX10_read_60 rfl ?_
            refine tj_iload rfl dX10_read_61 rfl ?_
            obtain ⟨hk12, h⟩ := h
            refine cf_V8 (a := 73 + 2 * (v1 : Int32).toNatClampNeg) (z := kX8_wholeThings) (As := [_, _, _]) hk12 rfl dX10_read_63 rfl ml_X10_350 okX8_wholeThings rfl (rm_ok rfl) (Nat.le_of_ble_eq_true rfl) (Nat.le_of_ble_eq_true rfl) rfl rfl ?_
            refine ctX8_wholeThings h (fun r15 M13 t14 h => ?_)
            exact tj_pick (l' := [(0, _), (3, _), (5, _), (6, _)]) [0, 3, 5, 6] rfl (bX10_read_66 hp  h)
          · rw [if_pos hc] at h
            refine tj_iload rfl dX10_read_52 rfl ?_
            refine tj_goto (tgt := 66) rfl dX10_read_54 ?_
            exact tj_pick (l' := [(0, _), (3, _), (5, _), (6, _)]) [0, 3, 5, 6] rfl (bX10_read_66 hp  h)
        · rw [if_neg hc] at h
          refine tj_iconst (v := -1) rfl dX10_read_26 (by decide) ?_
          exact tj_ireturn (ty := .int) dX10_read_27 rfl rfl (Nat.zero_le _) (Nat.zero_le _) (hp _ _ _ h)
def wpX10_torn (post : Int32 → MM → Int64 → Prop) (M : MM) (tl : Int64) : Prop :=
  post (M 0 12) M tl
set_option maxHeartbeats 4000000 in
set_option maxRecDepth 20000 in
theorem ctX10_torn {E : EV} {ad : Nat → Nat} {M : MM} {tl : Int64} {Φ : Option Value → va_W → Prop} {post : Int32 → MM → Int64 → Prop} (h : wpX10_torn post M tl ) (hp : ∀ r M tl, post r M tl → Φ (some (.int r)) (WM E ad M tl)) : Tm E kX10_torn (WM E ad M tl) [.ref (ad (0))] Φ := by
  unfold wpX10_torn at h
  show T E kX10_torn 0 0 (WM E ad M tl) 0 [(0, .ref (ad (0)))] [] Φ
  refine tj_aload_n rfl dX10_torn_0 rfl ?_
  refine gf10_sheetFault (a := 0) rfl rfl dX10_torn_1 fl_X10_355 ?_
  exact tj_ireturn (ty := .int) dX10_torn_4 rfl rfl (Nat.zero_le _) (Nat.zero_le _) (hp _ _ _ h)
def wX10_count_96 (post : Int32 → MM → Int64 → Prop) (M : MM) (tl : Int64) (s0 : Int32) : Prop :=
  (vp_in 1 (al 55) ∧ (if (M 55 (1 : Int32).toNatClampNeg) = 0 then post (s0 + 0) M tl else post (s0 + 1) M tl))
set_option maxHeartbeats 4000000 in
set_option maxRecDepth 20000 in
theorem bX10_count_96 {E : EV} {ad : Nat → Nat} {M : MM} {tl : Int64} {Φ : Option Value → va_W → Prop} {post : Int32 → MM → Int64 → Prop} {s0 : Int32} (hp : ∀ r M tl, post r M tl → Φ (some (.int r)) (WM E ad M tl)) (h : wX10_count_96 post M tl s0) : T E kX10_count 0 0 (WM E ad M tl) 96 [(0, .ref (ad (0)))] [.int s0] Φ := by
  unfold wX10_count_96 at h
  refine tj_aload_n rfl dX10_count_96 rfl ?_
  refine gf10_imageKept (a := 0) rfl rfl dX10_count_97 fl_X10_73 ?_
  refine tj_iconst (v := 1) rfl dX10_count_100 (by decide) ?_
  obtain ⟨hi1, h⟩ := h
  refine af_zald (a := 55) rfl rfl dX10_count_101 hi1 ?_
  refine tj_if_eq (tgt := 109) rfl rfl dX10_count_102 (fun hc => ?_) (fun hc => ?_)
  · rw [if_pos hc] at h
    refine tj_iconst (v := 0) rfl dX10_count_109 (by decide) ?_
    refine tj_iadd rfl dX10_count_110 ?_
    exact tj_ireturn (ty := .int) dX10_count_111 rfl rfl (Nat.zero_le _) (Nat.zero_le _) (hp _ _ _ h)
  · rw [if_neg hc] at h
    refine tj_iconst (v := 1) rfl dX10_count_105 (by decide) ?_
    refine tj_goto (tgt := 110) rfl dX10_count_106 ?_
    refine tj_iadd rfl dX10_count_110 ?_
    exact tj_ireturn (ty := .int) dX10_count_111 rfl rfl (Nat.zero_le _) (Nat.zero_le _) (hp _ _ _ h)
def wpX10_count (post : Int32 → MM → Int64 → Prop) (M : MM) (tl : Int64) (v1 : Int32) : Prop :=
  (if v1 = 0 then wpX7_countThings (fun r4 M2 t3 => post r4 M2 t3) M tl 14 else (if v1 = 1 then wpX1_countPairs (fun r8 M6 t7 => post r8 M6 t7) M tl 3 else (if v1 = 2 then post (M 18 3) M tl else (if v1 = 3 then post (M 20 3) M tl else (if v1 = 4 then (vp_in 0 (al 55) ∧ (if (M 55 (0 : Int32).toNatClampNeg) = 0 then wX10_count_96 post  M tl 0 else wX10_count_96 post  M tl 1)) else (if v1 = 5 then post (M 1 1) M tl else (if v1 = 6 then (vp_in 0 4 ∧ (kd (73 + 2 * (0 : Int32).toNatClampNeg) = 8 ∧ (if 0 ≤ (M (73 + 2 * (0 : Int32).toNatClampNeg) 0) then (vp_in 0 4 ∧ (kd (73 + 2 * (0 : Int32).toNatClampNeg) = 8 ∧ post (M (73 + 2 * (0 : Int32).toNatClampNeg) 0) M tl)) else post (-4) M tl))) else post (-1) M tl)))))))
set_option maxHeartbeats 4000000 in
set_option maxRecDepth 20000 in
theorem ctX10_count {E : EV} {ad : Nat → Nat} {M : MM} {tl : Int64} {Φ : Option Value → va_W → Prop} {post : Int32 → MM → Int64 → Prop} {v1 : Int32} (h : wpX10_count post M tl v1) (hp : ∀ r M tl, post r M tl → Φ (some (.int r)) (WM E ad M tl)) : Tm E kX10_count (WM E ad M tl) [.ref (ad (0)), .int v1] Φ := by
  unfold wpX10_count at h
  show T E kX10_count 0 0 (WM E ad M tl) 0 [(0, .ref (ad (0))), (1, .int v1)] [] Φ
  refine tj_iload_n rfl dX10_count_0 rfl ?_
  by_cases hc1 : v1 = 0
  · rw [if_pos hc1] at h
    refine tj_tableIn (tgt := 44) dX10_count_1 (by rw [hc1]; decide) (by rw [hc1]; decide) (by rw [hc1]; rfl) rfl ?_
    refine tj_aload_n rfl dX10_count_44 rfl ?_
    refine gf10_scene (a := 0) rfl rfl dX10_count_45 fl_X10_26 ?_
    refine cf_V7 (a := 14) (z := kX7_countThings) (As := []) rfl rfl dX10_count_48 rfl ml_X10_329 okX7_countThings rfl (rm_ok rfl) (Nat.le_of_ble_eq_true rfl) (Nat.le_of_ble_eq_true rfl) rfl rfl ?_
    refine ctX7_countThings h (fun r4 M2 t3 h => ?_)
    exact tj_ireturn (ty := .int) dX10_count_51 rfl rfl (Nat.zero_le _) (Nat.zero_le _) (hp _ _ _ h)
  · rw [if_neg hc1] at h
    by_cases hc5 : v1 = 1
    · rw [if_pos hc5] at h
      refine tj_tableIn (tgt := 52) dX10_count_1 (by rw [hc5]; decide) (by rw [hc5]; decide) (by rw [hc5]; rfl) rfl ?_
      refine tj_aload_n rfl dX10_count_52 rfl ?_
      refine gf10_law (a := 0) rfl rfl dX10_count_53 fl_X10_19 ?_
      refine cf_V1 (a := 3) (z := kX1_countPairs) (As := []) rfl rfl dX10_count_56 rfl ml_X10_358 okX1_countPairs rfl (rm_ok rfl) (Nat.le_of_ble_eq_true rfl) (Nat.le_of_ble_eq_true rfl) rfl rfl ?_
      refine ctX1_countPairs h (fun r8 M6 t7 h => ?_)
      exact tj_ireturn (ty := .int) dX10_count_59 rfl rfl (Nat.zero_le _) (Nat.zero_le _) (hp _ _ _ h)
    · rw [if_neg hc5] at h
      by_cases hc9 : v1 = 2
      · rw [if_pos hc9] at h
        refine tj_tableIn (tgt := 60) dX10_count_1 (by rw [hc9]; decide) (by rw [hc9]; decide) (by rw [hc9]; rfl) rfl ?_
        refine tj_aload_n rfl dX10_count_60 rfl ?_
        refine gf10_scene (a := 0) rfl rfl dX10_count_61 fl_X10_26 ?_
        refine gf7_wants (a := 14) rfl rfl dX10_count_64 fl_X10_265 ?_
        refine gf5_size (a := 18) rfl rfl dX10_count_67 fl_X10_129 ?_
        exact tj_ireturn (ty := .int) dX10_count_70 rfl rfl (Nat.zero_le _) (Nat.zero_le _) (hp _ _ _ h)
      · rw [if_neg hc9] at h
        by_cases hc10 : v1 = 3
        · rw [if_pos hc10] at h
          refine tj_tableIn (tgt := 71) dX10_count_1 (by rw [hc10]; decide) (by rw [hc10]; decide) (by rw [hc10]; rfl) rfl ?_
          refine tj_aload_n rfl dX10_count_71 rfl ?_
          refine gf10_scene (a := 0) rfl rfl dX10_count_72 fl_X10_26 ?_
          refine gf7_seen (a := 14) rfl rfl dX10_count_75 fl_X10_306 ?_
          refine gf5_size (a := 20) rfl rfl dX10_count_78 fl_X10_129 ?_
          exact tj_ireturn (ty := .int) dX10_count_81 rfl rfl (Nat.zero_le _) (Nat.zero_le _) (hp _ _ _ h)
        · rw [if_neg hc10] at h
          by_cases hc11 : v1 = 4
          · rw [if_pos hc11] at h
            refine tj_tableIn (tgt := 82) dX10_count_1 (by rw [hc11]; decide) (by rw [hc11]; decide) (by rw [hc11]; rfl) rfl ?_
            refine tj_aload_n rfl dX10_count_82 rfl ?_
            refine gf10_imageKept (a := 0) rfl rfl dX10_count_83 fl_X10_73 ?_
            refine tj_iconst (v := 0) rfl dX10_count_86 (by decide) ?_
            obtain ⟨hi12, h⟩ := h
            refine af_zald (a := 55) rfl rfl dX10_count_87 hi12 ?_
            refine tj_if_eq (tgt := 95) rfl rfl dX10_count_88 (fun hc => ?_) (fun hc => ?_)
            · rw [if_pos hc] at h
              refine tj_iconst (v := 0) rfl dX10_count_95 (by decide) ?_
              exact tj_pick (l' := [(0, _)]) [0] rfl (bX10_count_96 hp  h)
            · rw [if_neg hc] at h
              refine tj_iconst (v := 1) rfl dX10_count_91 (by decide) ?_
              refine tj_goto (tgt := 96) rfl dX10_count_92 ?_
              exact tj_pick (l' := [(0, _)]) [0] rfl (bX10_count_96 hp  h)
          · rw [if_neg hc11] at h
            by_cases hc13 : v1 = 5
            · rw [if_pos hc13] at h
              refine tj_tableIn (tgt := 112) dX10_count_1 (by rw [hc13]; decide) (by rw [hc13]; decide) (by rw [hc13]; rfl) rfl ?_
              refine tj_aload_n rfl dX10_count_112 rfl ?_
              refine gf10_tape (a := 0) rfl rfl dX10_count_113 fl_X10_10 ?_
              refine gf9_size (a := 1) rfl rfl dX10_count_116 fl_X10_84 ?_
              exact tj_ireturn (ty := .int) dX10_count_119 rfl rfl (Nat.zero_le _) (Nat.zero_le _) (hp _ _ _ h)
            · rw [if_neg hc13] at h
              by_cases hc14 : v1 = 6
              · rw [if_pos hc14] at h
                refine tj_tableIn (tgt := 120) dX10_count_1 (by rw [hc14]; decide) (by rw [hc14]; decide) (by rw [hc14]; rfl) rfl ?_
                refine tj_aload_n rfl dX10_count_120 rfl ?_
                refine gf10_sheets (a := 0) rfl rfl dX10_count_121 fl_X10_79 ?_
                refine tj_iconst (v := 0) rfl dX10_count_124 (by decide) ?_
                obtain ⟨hi15, h⟩ := h
                refine af_sht (a := 72) rfl rfl dX10_count_125 hi15 ?_
                obtain ⟨hk16, h⟩ := h
                refine gf8_size (a := 73 + 2 * (0 : Int32).toNatClampNeg) hk16 rfl dX10_count_126 fl_X10_361 ?_
                refine tj_if_ge (tgt := 137) rfl rfl dX10_count_129 (fun hc => ?_) (fun hc => ?_)
                · rw [if_pos hc] at h
                  refine tj_aload_n rfl dX10_count_137 rfl ?_
                  refine gf10_sheets (a := 0) rfl rfl dX10_count_138 fl_X10_79 ?_
                  refine tj_iconst (v := 0) rfl dX10_count_141 (by decide) ?_
                  obtain ⟨hi17, h⟩ := h
                  refine af_sht (a := 72) rfl rfl dX10_count_142 hi17 ?_
                  obtain ⟨hk18, h⟩ := h
                  refine gf8_size (a := 73 + 2 * (0 : Int32).toNatClampNeg) hk18 rfl dX10_count_143 fl_X10_361 ?_
                  exact tj_ireturn (ty := .int) dX10_count_146 rfl rfl (Nat.zero_le _) (Nat.zero_le _) (hp _ _ _ h)
                · rw [if_neg hc] at h
                  refine tj_bipush (v := -4) rfl dX10_count_132 (by decide) ?_
                  refine tj_goto (tgt := 146) rfl dX10_count_134 ?_
                  exact tj_ireturn (ty := .int) dX10_count_146 rfl rfl (Nat.zero_le _) (Nat.zero_le _) (hp _ _ _ h)
              · rw [if_neg hc14] at h
                have hz0 := lv_neT (a := 0) hc1 rfl
                have hz1 := lv_neT (a := 1) hc5 rfl
                have hz2 := lv_neT (a := 2) hc9 rfl
                have hz3 := lv_neT (a := 3) hc10 rfl
                have hz4 := lv_neT (a := 4) hc11 rfl
                have hz5 := lv_neT (a := 5) hc13 rfl
                have hz6 := lv_neT (a := 6) hc14 rfl
                refine tj_tableOut (tgt := 147) dX10_count_1 (by omega) rfl ?_
                refine tj_iconst (v := -1) rfl dX10_count_147 (by decide) ?_
                exact tj_ireturn (ty := .int) dX10_count_148 rfl rfl (Nat.zero_le _) (Nat.zero_le _) (hp _ _ _ h)
