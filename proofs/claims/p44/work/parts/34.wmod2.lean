def wpX11_rule (post : Int32 → MM → Int64 → Prop) (M : MM) (tl : Int64) (v1 : Int32) : Prop :=
  (if v1 = 0 then post (M 81 2) M tl else (if v1 = 1 then post (M 81 3) M tl else (if v1 = 2 then post (M 81 4) M tl else (if v1 = 3 then (vp_in 16 (al 82) ∧ post (M 82 (16 : Int32).toNatClampNeg) M tl) else wpX11_in (fun r8 M6 t7 => (if r8 = 0 then post (-1) M6 t7 else (vp_in (v1 - 10) (al 84) ∧ post (M6 84 (v1 - 10 : Int32).toNatClampNeg) M6 t7))) M tl ((v1 : Int32).toInt64) 10 13))))
set_option maxHeartbeats 4000000 in
set_option maxRecDepth 20000 in
theorem ctX11_rule {E : EV} {ad : Nat → Nat} {M : MM} {tl : Int64} {Φ : Option Value → va_W → Prop} {post : Int32 → MM → Int64 → Prop} {v1 : Int32} (h : wpX11_rule post M tl v1) (hp : ∀ r M tl, post r M tl → Φ (some (.int r)) (WM E ad M tl)) : Tm E kX11_rule (WM E ad M tl) [.ref (ad (81)), .int v1] Φ := by
  unfold wpX11_rule at h
  show T E kX11_rule 0 0 (WM E ad M tl) 0 [(0, .ref (ad (81))), (1, .int v1)] [] Φ
  refine tj_iload_n rfl dX11_rule_0 rfl ?_
  by_cases hc1 : v1 = 0
  · rw [if_pos hc1] at h
    refine tj_tableIn (tgt := 32) dX11_rule_1 (by rw [hc1]; decide) (by rw [hc1]; decide) (by rw [hc1]; rfl) rfl ?_
    refine tj_aload_n rfl dX11_rule_32 rfl ?_
    refine gf11_lots (a := 81) rfl rfl dX11_rule_33 fl_X11_129 ?_
    exact tj_ireturn (ty := .int) dX11_rule_36 rfl rfl (Nat.zero_le _) (Nat.zero_le _) (hp _ _ _ h)
  · rw [if_neg hc1] at h
    by_cases hc2 : v1 = 1
    · rw [if_pos hc2] at h
      refine tj_tableIn (tgt := 37) dX11_rule_1 (by rw [hc2]; decide) (by rw [hc2]; decide) (by rw [hc2]; rfl) rfl ?_
      refine tj_aload_n rfl dX11_rule_37 rfl ?_
      refine gf11_bend (a := 81) rfl rfl dX11_rule_38 fl_X11_132 ?_
      exact tj_ireturn (ty := .int) dX11_rule_41 rfl rfl (Nat.zero_le _) (Nat.zero_le _) (hp _ _ _ h)
    · rw [if_neg hc2] at h
      by_cases hc3 : v1 = 2
      · rw [if_pos hc3] at h
        refine tj_tableIn (tgt := 42) dX11_rule_1 (by rw [hc3]; decide) (by rw [hc3]; decide) (by rw [hc3]; rfl) rfl ?_
        refine tj_aload_n rfl dX11_rule_42 rfl ?_
        refine gf11_pull (a := 81) rfl rfl dX11_rule_43 fl_X11_135 ?_
        exact tj_ireturn (ty := .int) dX11_rule_46 rfl rfl (Nat.zero_le _) (Nat.zero_le _) (hp _ _ _ h)
      · rw [if_neg hc3] at h
        by_cases hc4 : v1 = 3
        · rw [if_pos hc4] at h
          refine tj_tableIn (tgt := 47) dX11_rule_1 (by rw [hc4]; decide) (by rw [hc4]; decide) (by rw [hc4]; rfl) rfl ?_
          refine tj_aload_n rfl dX11_rule_47 rfl ?_
          refine gf11_st (a := 81) rfl rfl dX11_rule_48 fl_X11_7 ?_
          refine tj_bipush (v := 16) rfl dX11_rule_51 (by decide) ?_
          obtain ⟨hi5, h⟩ := h
          refine af_iald (a := 82) rfl rfl dX11_rule_53 hi5 ?_
          exact tj_ireturn (ty := .int) dX11_rule_54 rfl rfl (Nat.zero_le _) (Nat.zero_le _) (hp _ _ _ h)
        · rw [if_neg hc4] at h
          have hz0 := lv_neT (a := 0) hc1 rfl
          have hz1 := lv_neT (a := 1) hc2 rfl
          have hz2 := lv_neT (a := 2) hc3 rfl
          have hz3 := lv_neT (a := 3) hc4 rfl
          refine tj_tableOut (tgt := 55) dX11_rule_1 (by omega) rfl ?_
          refine tj_iload_n rfl dX11_rule_55 rfl ?_
          refine tj_i2l rfl dX11_rule_56 ?_
          refine tj_ldc2 rfl dX11_rule_57 kl_X11_251 ?_
          refine tj_ldc2 rfl dX11_rule_60 kl_X11_253 ?_
          refine cf_S (z := kX11_in) (As := [_, _, _]) rfl dX11_rule_63 rfl ml_X11_146 okX11_in rfl (rm_ok rfl) (Nat.le_of_ble_eq_true rfl) (Nat.le_of_ble_eq_true rfl) rfl ?_
          refine ctX11_in h (fun r8 M6 t7 h => ?_)
          refine tj_if_eq (tgt := 81) rfl rfl dX11_rule_66 (fun hc => ?_) (fun hc => ?_)
          · rw [if_pos hc] at h
            refine tj_iconst (v := -1) rfl dX11_rule_81 (by decide) ?_
            exact tj_ireturn (ty := .int) dX11_rule_82 rfl rfl (Nat.zero_le _) (Nat.zero_le _) (hp _ _ _ h)
          · rw [if_neg hc] at h
            refine tj_aload_n rfl dX11_rule_69 rfl ?_
            refine gf11_price (a := 81) rfl rfl dX11_rule_70 fl_X11_17 ?_
            refine tj_iload_n rfl dX11_rule_73 rfl ?_
            refine tj_bipush (v := 10) rfl dX11_rule_74 (by decide) ?_
            refine tj_isub rfl dX11_rule_76 ?_
            obtain ⟨hi9, h⟩ := h
            refine af_iald (a := 84) rfl rfl dX11_rule_77 hi9 ?_
            refine tj_goto (tgt := 82) rfl dX11_rule_78 ?_
            exact tj_ireturn (ty := .int) dX11_rule_82 rfl rfl (Nat.zero_le _) (Nat.zero_le _) (hp _ _ _ h)
def wpX11_isKind (post : Int32 → MM → Int64 → Prop) (M : MM) (tl : Int64) (v0 : Int32) : Prop :=
  wpX11_in (fun r3 M1 t2 => (narrow .boolean (.int r3) = .int r3 ∧ post r3 M1 t2)) M tl ((v0 : Int32).toInt64) 0 5
set_option maxHeartbeats 4000000 in
set_option maxRecDepth 20000 in
theorem ctX11_isKind {E : EV} {ad : Nat → Nat} {M : MM} {tl : Int64} {Φ : Option Value → va_W → Prop} {post : Int32 → MM → Int64 → Prop} {v0 : Int32} (h : wpX11_isKind post M tl v0) (hp : ∀ r M tl, post r M tl → Φ (some (.int r)) (WM E ad M tl)) : Tm E kX11_isKind (WM E ad M tl) [.int v0] Φ := by
  unfold wpX11_isKind at h
  show T E kX11_isKind 0 0 (WM E ad M tl) 0 [(0, .int v0)] [] Φ
  refine tj_iload_n rfl dX11_isKind_0 rfl ?_
  refine tj_i2l rfl dX11_isKind_1 ?_
  refine tj_lconst (v := 0) rfl dX11_isKind_2 (by decide) ?_
  refine tj_ldc2 rfl dX11_isKind_3 kl_X11_255 ?_
  refine cf_S (z := kX11_in) (As := [_, _, _]) rfl dX11_isKind_6 rfl ml_X11_146 okX11_in rfl (rm_ok rfl) (Nat.le_of_ble_eq_true rfl) (Nat.le_of_ble_eq_true rfl) rfl ?_
  refine ctX11_in h (fun r3 M1 t2 h => ?_)
  obtain ⟨hn4, h⟩ := h
  exact tj_ireturn (ty := .boolean) dX11_isKind_9 rfl hn4 (Nat.zero_le _) (Nat.zero_le _) (hp _ _ _ h)
def wpX11_doesLack (post : Int32 → MM → Int64 → Prop) (M : MM) (tl : Int64) (v1 : Int32) (v2 : Int32) : Prop :=
  (vp_in v1 (al 87) ∧ (if (((M 87 (v1 : Int32).toNatClampNeg) >>> (v2 &&& 31)) &&& 1) = 1 then post 1 M tl else post 0 M tl))
set_option maxHeartbeats 4000000 in
set_option maxRecDepth 20000 in
theorem ctX11_doesLack {E : EV} {ad : Nat → Nat} {M : MM} {tl : Int64} {Φ : Option Value → va_W → Prop} {post : Int32 → MM → Int64 → Prop} {v1 : Int32} {v2 : Int32} (h : wpX11_doesLack post M tl v1 v2) (hp : ∀ r M tl, post r M tl → Φ (some (.int r)) (WM E ad M tl)) : Tm E kX11_doesLack (WM E ad M tl) [.ref (ad (81)), .int v1, .int v2] Φ := by
  unfold wpX11_doesLack at h
  show T E kX11_doesLack 0 0 (WM E ad M tl) 0 [(0, .ref (ad (81))), (1, .int v1), (2, .int v2)] [] Φ
  refine tj_aload_n rfl dX11_doesLack_0 rfl ?_
  refine gf11_lacks (a := 81) rfl rfl dX11_doesLack_1 fl_X11_26 ?_
  refine tj_iload_n rfl dX11_doesLack_4 rfl ?_
  obtain ⟨hi1, h⟩ := h
  refine af_iald (a := 87) rfl rfl dX11_doesLack_5 hi1 ?_
  refine tj_iload_n rfl dX11_doesLack_6 rfl ?_
  refine tj_ishr rfl dX11_doesLack_7 ?_
  refine tj_iconst (v := 1) rfl dX11_doesLack_8 (by decide) ?_
  refine tj_iand rfl dX11_doesLack_9 ?_
  refine tj_iconst (v := 1) rfl dX11_doesLack_10 (by decide) ?_
  refine tj_icmp_ne (tgt := 18) rfl rfl dX11_doesLack_11 (fun hc => ?_) (fun hc => ?_)
  · rw [if_neg hc] at h
    refine tj_iconst (v := 0) rfl dX11_doesLack_18 (by decide) ?_
    exact tj_ireturn (ty := .boolean) dX11_doesLack_19 rfl rfl (Nat.zero_le _) (Nat.zero_le _) (hp _ _ _ h)
  · rw [if_pos hc] at h
    refine tj_iconst (v := 1) rfl dX11_doesLack_14 (by decide) ?_
    refine tj_goto (tgt := 19) rfl dX11_doesLack_15 ?_
    exact tj_ireturn (ty := .boolean) dX11_doesLack_19 rfl rfl (Nat.zero_le _) (Nat.zero_le _) (hp _ _ _ h)
def wpX11_kind (post : Int32 → MM → Int64 → Prop) (M : MM) (tl : Int64) (v1 : Int32) (v2 : Int32) : Prop :=
  wpX11_isKind (fun r3 M1 t2 => (if r3 = 0 then post (-1) M1 t2 else (if v2 = 0 then (vp_in v1 (al 88) ∧ post (M1 88 (v1 : Int32).toNatClampNeg) M1 t2) else (if v2 = 1 then post (((M1 81 11) >>> (v1 &&& 31)) &&& 1) M1 t2 else (if v2 = 10 then (vp_in (((6 : Int32) * (v2 - 10)) + v1) (al 85) ∧ post (M1 85 (((6 : Int32) * (v2 - 10)) + v1 : Int32).toNatClampNeg) M1 t2) else (if v2 = 11 then (vp_in (((6 : Int32) * (v2 - 10)) + v1) (al 85) ∧ post (M1 85 (((6 : Int32) * (v2 - 10)) + v1 : Int32).toNatClampNeg) M1 t2) else (if v2 = 20 then (vp_in (((6 : Int32) * (v2 - 20)) + v1) (al 86) ∧ post (M1 86 (((6 : Int32) * (v2 - 20)) + v1 : Int32).toNatClampNeg) M1 t2) else (if v2 = 21 then (vp_in (((6 : Int32) * (v2 - 20)) + v1) (al 86) ∧ post (M1 86 (((6 : Int32) * (v2 - 20)) + v1 : Int32).toNatClampNeg) M1 t2) else (if v2 = 30 then wpX11_doesLack (fun r18 M16 t17 => wpX11_flag (fun r21 M19 t20 => post r21 M19 t20) M16 t17 r18) M1 t2 (v2 - 30) v1 else (if v2 = 31 then wpX11_doesLack (fun r25 M23 t24 => wpX11_flag (fun r28 M26 t27 => post r28 M26 t27) M23 t24 r25) M1 t2 (v2 - 30) v1 else post (-1) M1 t2)))))))))) M tl v1
set_option maxHeartbeats 4000000 in
set_option maxRecDepth 20000 in
theorem ctX11_kind {E : EV} {ad : Nat → Nat} {M : MM} {tl : Int64} {Φ : Option Value → va_W → Prop} {post : Int32 → MM → Int64 → Prop} {v1 : Int32} {v2 : Int32} (h : wpX11_kind post M tl v1 v2) (hp : ∀ r M tl, post r M tl → Φ (some (.int r)) (WM E ad M tl)) : Tm E kX11_kind (WM E ad M tl) [.ref (ad (81)), .int v1, .int v2] Φ := by
  unfold wpX11_kind at h
  show T E kX11_kind 0 0 (WM E ad M tl) 0 [(0, .ref (ad (81))), (1, .int v1), (2, .int v2)] [] Φ
  refine tj_iload_n rfl dX11_kind_0 rfl ?_
  refine cf_S (z := kX11_isKind) (As := [_]) rfl dX11_kind_1 rfl ml_X11_257 okX11_isKind rfl (rm_ok rfl) (Nat.le_of_ble_eq_true rfl) (Nat.le_of_ble_eq_true rfl) rfl ?_
  refine ctX11_isKind h (fun r3 M1 t2 h => ?_)
  refine tj_if_ne (tgt := 9) rfl rfl dX11_kind_4 (fun hc => ?_) (fun hc => ?_)
  · rw [if_neg hc] at h
    refine tj_iload_n rfl dX11_kind_9 rfl ?_
    by_cases hc4 : v2 = 0
    · rw [if_pos hc4] at h
      refine tj_lookup (off := 74) (tgt := 84) dX11_kind_10 (by decide) (by rw [hc4]; first | done | rfl) rfl ?_
      refine tj_aload_n rfl dX11_kind_84 rfl ?_
      refine gf11_twin (a := 81) rfl rfl dX11_kind_85 fl_X11_29 ?_
      refine tj_iload_n rfl dX11_kind_88 rfl ?_
      obtain ⟨hi5, h⟩ := h
      refine af_iald (a := 88) rfl rfl dX11_kind_89 hi5 ?_
      exact tj_ireturn (ty := .int) dX11_kind_90 rfl rfl (Nat.zero_le _) (Nat.zero_le _) (hp _ _ _ h)
    · rw [if_neg hc4] at h
      by_cases hc6 : v2 = 1
      · rw [if_pos hc6] at h
        refine tj_lookup (off := 81) (tgt := 91) dX11_kind_10 (by decide) (by rw [hc6]; first | done | rfl) rfl ?_
        refine tj_aload_n rfl dX11_kind_91 rfl ?_
        refine gf11_rights (a := 81) rfl rfl dX11_kind_92 fl_X11_138 ?_
        refine tj_iload_n rfl dX11_kind_95 rfl ?_
        refine tj_ishr rfl dX11_kind_96 ?_
        refine tj_iconst (v := 1) rfl dX11_kind_97 (by decide) ?_
        refine tj_iand rfl dX11_kind_98 ?_
        exact tj_ireturn (ty := .int) dX11_kind_99 rfl rfl (Nat.zero_le _) (Nat.zero_le _) (hp _ _ _ h)
      · rw [if_neg hc6] at h
        by_cases hc7 : v2 = 10
        · rw [if_pos hc7] at h
          refine tj_lookup (off := 90) (tgt := 100) dX11_kind_10 (by decide) (by rw [hc7]; first | done | rfl) rfl ?_
          refine tj_aload_n rfl dX11_kind_100 rfl ?_
          refine gf11_cost (a := 81) rfl rfl dX11_kind_101 fl_X11_20 ?_
          refine tj_bipush (v := 6) rfl dX11_kind_104 (by decide) ?_
          refine tj_iload_n rfl dX11_kind_106 rfl ?_
          refine tj_bipush (v := 10) rfl dX11_kind_107 (by decide) ?_
          refine tj_isub rfl dX11_kind_109 ?_
          refine tj_imul rfl dX11_kind_110 ?_
          refine tj_iload_n rfl dX11_kind_111 rfl ?_
          refine tj_iadd rfl dX11_kind_112 ?_
          obtain ⟨hi8, h⟩ := h
          refine af_iald (a := 85) rfl rfl dX11_kind_113 hi8 ?_
          exact tj_ireturn (ty := .int) dX11_kind_114 rfl rfl (Nat.zero_le _) (Nat.zero_le _) (hp _ _ _ h)
        · rw [if_neg hc7] at h
          by_cases hc9 : v2 = 11
          · rw [if_pos hc9] at h
            refine tj_lookup (off := 90) (tgt := 100) dX11_kind_10 (by decide) (by rw [hc9]; first | done | rfl) rfl ?_
            refine tj_aload_n rfl dX11_kind_100 rfl ?_
            refine gf11_cost (a := 81) rfl rfl dX11_kind_101 fl_X11_20 ?_
            refine tj_bipush (v := 6) rfl dX11_kind_104 (by decide) ?_
            refine tj_iload_n rfl dX11_kind_106 rfl ?_
            refine tj_bipush (v := 10) rfl dX11_kind_107 (by decide) ?_
            refine tj_isub rfl dX11_kind_109 ?_
            refine tj_imul rfl dX11_kind_110 ?_
            refine tj_iload_n rfl dX11_kind_111 rfl ?_
            refine tj_iadd rfl dX11_kind_112 ?_
            obtain ⟨hi10, h⟩ := h
            refine af_iald (a := 85) rfl rfl dX11_kind_113 hi10 ?_
            exact tj_ireturn (ty := .int) dX11_kind_114 rfl rfl (Nat.zero_le _) (Nat.zero_le _) (hp _ _ _ h)
          · rw [if_neg hc9] at h
            by_cases hc11 : v2 = 20
            · rw [if_pos hc11] at h
              refine tj_lookup (off := 105) (tgt := 115) dX11_kind_10 (by decide) (by rw [hc11]; first | done | rfl) rfl ?_
              refine tj_aload_n rfl dX11_kind_115 rfl ?_
              refine gf11_taste (a := 81) rfl rfl dX11_kind_116 fl_X11_23 ?_
              refine tj_bipush (v := 6) rfl dX11_kind_119 (by decide) ?_
              refine tj_iload_n rfl dX11_kind_121 rfl ?_
              refine tj_bipush (v := 20) rfl dX11_kind_122 (by decide) ?_
              refine tj_isub rfl dX11_kind_124 ?_
              refine tj_imul rfl dX11_kind_125 ?_
              refine tj_iload_n rfl dX11_kind_126 rfl ?_
              refine tj_iadd rfl dX11_kind_127 ?_
              obtain ⟨hi12, h⟩ := h
              refine af_iald (a := 86) rfl rfl dX11_kind_128 hi12 ?_
              exact tj_ireturn (ty := .int) dX11_kind_129 rfl rfl (Nat.zero_le _) (Nat.zero_le _) (hp _ _ _ h)
            · rw [if_neg hc11] at h
              by_cases hc13 : v2 = 21
              · rw [if_pos hc13] at h
                refine tj_lookup (off := 105) (tgt := 115) dX11_kind_10 (by decide) (by rw [hc13]; first | done | rfl) rfl ?_
                refine tj_aload_n rfl dX11_kind_115 rfl ?_
                refine gf11_taste (a := 81) rfl rfl dX11_kind_116 fl_X11_23 ?_
                refine tj_bipush (v := 6) rfl dX11_kind_119 (by decide) ?_
                refine tj_iload_n rfl dX11_kind_121 rfl ?_
                refine tj_bipush (v := 20) rfl dX11_kind_122 (by decide) ?_
                refine tj_isub rfl dX11_kind_124 ?_
                refine tj_imul rfl dX11_kind_125 ?_
                refine tj_iload_n rfl dX11_kind_126 rfl ?_
                refine tj_iadd rfl dX11_kind_127 ?_
                obtain ⟨hi14, h⟩ := h
                refine af_iald (a := 86) rfl rfl dX11_kind_128 hi14 ?_
                exact tj_ireturn (ty := .int) dX11_kind_129 rfl rfl (Nat.zero_le _) (Nat.zero_le _) (hp _ _ _ h)
              · rw [if_neg hc13] at h
                by_cases hc15 : v2 = 30
                · rw [if_pos hc15] at h
                  refine tj_lookup (off := 120) (tgt := 130) dX11_kind_10 (by decide) (by rw [hc15]; first | done | rfl) rfl ?_
                  refine tj_aload_n rfl dX11_kind_130 rfl ?_
                  refine tj_iload_n rfl dX11_kind_131 rfl ?_
                  refine tj_bipush (v := 30) rfl dX11_kind_132 (by decide) ?_
                  refine tj_isub rfl dX11_kind_134 ?_
                  refine tj_iload_n rfl dX11_kind_135 rfl ?_
                  refine cf_V11 (a := 81) (z := kX11_doesLack) (As := [_, _]) rfl rfl dX11_kind_136 rfl ml_X11_261 okX11_doesLack rfl (rm_ok rfl) (Nat.le_of_ble_eq_true rfl) (Nat.le_of_ble_eq_true rfl) rfl rfl ?_
                  refine ctX11_doesLack h (fun r18 M16 t17 h => ?_)
                  refine cf_S (z := kX11_flag) (As := [_]) rfl dX11_kind_139 rfl ml_X11_265 okX11_flag rfl (rm_ok rfl) (Nat.le_of_ble_eq_true rfl) (Nat.le_of_ble_eq_true rfl) rfl ?_
                  refine ctX11_flag h (fun r21 M19 t20 h => ?_)
                  exact tj_ireturn (ty := .int) dX11_kind_142 rfl rfl (Nat.zero_le _) (Nat.zero_le _) (hp _ _ _ h)
                · rw [if_neg hc15] at h
                  by_cases hc22 : v2 = 31
                  · rw [if_pos hc22] at h
                    refine tj_lookup (off := 120) (tgt := 130) dX11_kind_10 (by decide) (by rw [hc22]; first | done | rfl) rfl ?_
                    refine tj_aload_n rfl dX11_kind_130 rfl ?_
                    refine tj_iload_n rfl dX11_kind_131 rfl ?_
                    refine tj_bipush (v := 30) rfl dX11_kind_132 (by decide) ?_
                    refine tj_isub rfl dX11_kind_134 ?_
                    refine tj_iload_n rfl dX11_kind_135 rfl ?_
                    refine cf_V11 (a := 81) (z := kX11_doesLack) (As := [_, _]) rfl rfl dX11_kind_136 rfl ml_X11_261 okX11_doesLack rfl (rm_ok rfl) (Nat.le_of_ble_eq_true rfl) (Nat.le_of_ble_eq_true rfl) rfl rfl ?_
                    refine ctX11_doesLack h (fun r25 M23 t24 h => ?_)
                    refine cf_S (z := kX11_flag) (As := [_]) rfl dX11_kind_139 rfl ml_X11_265 okX11_flag rfl (rm_ok rfl) (Nat.le_of_ble_eq_true rfl) (Nat.le_of_ble_eq_true rfl) rfl ?_
                    refine ctX11_flag h (fun r28 M26 t27 h => ?_)
                    exact tj_ireturn (ty := .int) dX11_kind_142 rfl rfl (Nat.zero_le _) (Nat.zero_le _) (hp _ _ _ h)
                  · rw [if_neg hc22] at h
                    refine tj_lookup (off := 133) (tgt := 143) dX11_kind_10 (by decide) (by show Op.lookupswitch.offset [(0, 74), (1, 81), (10, 90), (11, 90), (20, 105), (21, 105), (30, 120), (31, 120)] 133 _ = 133; rw [lv_osw (a := 0) hc4 rfl, lv_osw (a := 1) hc6 rfl, lv_osw (a := 10) hc7 rfl, lv_osw (a := 11) hc9 rfl, lv_osw (a := 20) hc11 rfl, lv_osw (a := 21) hc13 rfl, lv_osw (a := 30) hc15 rfl, lv_osw (a := 31) hc22 rfl]; first | done | rfl) rfl ?_
                    refine tj_iconst (v := -1) rfl dX11_kind_143 (by decide) ?_
                    exact tj_ireturn (ty := .int) dX11_kind_144 rfl rfl (Nat.zero_le _) (Nat.zero_le _) (hp _ _ _ h)
  · rw [if_pos hc] at h
    refine tj_iconst (v := -1) rfl dX11_kind_7 (by decide) ?_
    exact tj_ireturn (ty := .int) dX11_kind_8 rfl rfl (Nat.zero_le _) (Nat.zero_le _) (hp _ _ _ h)
def wpX11_colour (post : Int32 → MM → Int64 → Prop) (M : MM) (tl : Int64) (v1 : Int32) : Prop :=
  wpX11_in (fun r3 M1 t2 => (if r3 = 0 then post (-1) M1 t2 else (vp_in v1 (al 89) ∧ post (M1 89 (v1 : Int32).toNatClampNeg) M1 t2))) M tl ((v1 : Int32).toInt64) 0 3
set_option maxHeartbeats 4000000 in
set_option maxRecDepth 20000 in
theorem ctX11_colour {E : EV} {ad : Nat → Nat} {M : MM} {tl : Int64} {Φ : Option Value → va_W → Prop} {post : Int32 → MM → Int64 → Prop} {v1 : Int32} (h : wpX11_colour post M tl v1) (hp : ∀ r M tl, post r M tl → Φ (some (.int r)) (WM E ad M tl)) : Tm E kX11_colour (WM E ad M tl) [.ref (ad (81)), .int v1] Φ := by
  unfold wpX11_colour at h
  show T E kX11_colour 0 0 (WM E ad M tl) 0 [(0, .ref (ad (81))), (1, .int v1)] [] Φ
  refine tj_iload_n rfl dX11_colour_0 rfl ?_
  refine tj_i2l rfl dX11_colour_1 ?_
  refine tj_lconst (v := 0) rfl dX11_colour_2 (by decide) ?_
  refine tj_ldc2 rfl dX11_colour_3 kl_X11_269 ?_
  refine cf_S (z := kX11_in) (As := [_, _, _]) rfl dX11_colour_6 rfl ml_X11_146 okX11_in rfl (rm_ok rfl) (Nat.le_of_ble_eq_true rfl) (Nat.le_of_ble_eq_true rfl) rfl ?_
  refine ctX11_in h (fun r3 M1 t2 h => ?_)
  refine tj_if_eq (tgt := 21) rfl rfl dX11_colour_9 (fun hc => ?_) (fun hc => ?_)
  · rw [if_pos hc] at h
    refine tj_iconst (v := -1) rfl dX11_colour_21 (by decide) ?_
    exact tj_ireturn (ty := .int) dX11_colour_22 rfl rfl (Nat.zero_le _) (Nat.zero_le _) (hp _ _ _ h)
  · rw [if_neg hc] at h
    refine tj_aload_n rfl dX11_colour_12 rfl ?_
    refine gf11_paint (a := 81) rfl rfl dX11_colour_13 fl_X11_32 ?_
    refine tj_iload_n rfl dX11_colour_16 rfl ?_
    obtain ⟨hi4, h⟩ := h
    refine af_iald (a := 89) rfl rfl dX11_colour_17 hi4 ?_
    refine tj_goto (tgt := 22) rfl dX11_colour_18 ?_
    exact tj_ireturn (ty := .int) dX11_colour_22 rfl rfl (Nat.zero_le _) (Nat.zero_le _) (hp _ _ _ h)
def wpX11_isThing (post : Int32 → MM → Int64 → Prop) (M : MM) (tl : Int64) (v0 : Int32) : Prop :=
  (if v0 = 0 then post 1 M tl else wpX11_in (fun r3 M1 t2 => (if r3 = 0 then post 0 M1 t2 else wpX11_in (fun r6 M4 t5 => (if r6 = 0 then post 0 M4 t5 else post 1 M4 t5)) M1 t2 ((v0 - v0 / 8 * 8 : Int32).toInt64) 1 5)) M tl ((v0 : Int32).toInt64) 0 63)
set_option maxHeartbeats 4000000 in
set_option maxRecDepth 20000 in
theorem ctX11_isThing {E : EV} {ad : Nat → Nat} {M : MM} {tl : Int64} {Φ : Option Value → va_W → Prop} {post : Int32 → MM → Int64 → Prop} {v0 : Int32} (h : wpX11_isThing post M tl v0) (hp : ∀ r M tl, post r M tl → Φ (some (.int r)) (WM E ad M tl)) : Tm E kX11_isThing (WM E ad M tl) [.int v0] Φ := by
  unfold wpX11_isThing at h
  show T E kX11_isThing 0 0 (WM E ad M tl) 0 [(0, .int v0)] [] Φ
  refine tj_iload_n rfl dX11_isThing_0 rfl ?_
  refine tj_if_eq (tgt := 31) rfl rfl dX11_isThing_1 (fun hc => ?_) (fun hc => ?_)
  · rw [if_pos hc] at h
    refine tj_iconst (v := 1) rfl dX11_isThing_31 (by decide) ?_
    refine tj_goto (tgt := 36) rfl dX11_isThing_32 ?_
    exact tj_ireturn (ty := .boolean) dX11_isThing_36 rfl rfl (Nat.zero_le _) (Nat.zero_le _) (hp _ _ _ h)
  · rw [if_neg hc] at h
    refine tj_iload_n rfl dX11_isThing_4 rfl ?_
    refine tj_i2l rfl dX11_isThing_5 ?_
    refine tj_lconst (v := 0) rfl dX11_isThing_6 (by decide) ?_
    refine tj_ldc2 rfl dX11_isThing_7 kl_X11_271 ?_
    refine cf_S (z := kX11_in) (As := [_, _, _]) rfl dX11_isThing_10 rfl ml_X11_146 okX11_in rfl (rm_ok rfl) (Nat.le_of_ble_eq_true rfl) (Nat.le_of_ble_eq_true rfl) rfl ?_
    refine ctX11_in h (fun r3 M1 t2 h => ?_)
    refine tj_if_eq (tgt := 35) rfl rfl dX11_isThing_13 (fun hc => ?_) (fun hc => ?_)
    · rw [if_pos hc] at h
      refine tj_iconst (v := 0) rfl dX11_isThing_35 (by decide) ?_
      exact tj_ireturn (ty := .boolean) dX11_isThing_36 rfl rfl (Nat.zero_le _) (Nat.zero_le _) (hp _ _ _ h)
    · rw [if_neg hc] at h
      refine tj_iload_n rfl dX11_isThing_16 rfl ?_
      refine tj_bipush (v := 8) rfl dX11_isThing_17 (by decide) ?_
      refine tj_irem rfl dX11_isThing_19 (by decide) ?_
      refine tj_i2l rfl dX11_isThing_20 ?_
      refine tj_lconst (v := 1) rfl dX11_isThing_21 (by decide) ?_
      refine tj_ldc2 rfl dX11_isThing_22 kl_X11_255 ?_
      refine cf_S (z := kX11_in) (As := [_, _, _]) rfl dX11_isThing_25 rfl ml_X11_146 okX11_in rfl (rm_ok rfl) (Nat.le_of_ble_eq_true rfl) (Nat.le_of_ble_eq_true rfl) rfl ?_
      refine ctX11_in h (fun r6 M4 t5 h => ?_)
      refine tj_if_eq (tgt := 35) rfl rfl dX11_isThing_28 (fun hc => ?_) (fun hc => ?_)
      · rw [if_pos hc] at h
        refine tj_iconst (v := 0) rfl dX11_isThing_35 (by decide) ?_
        exact tj_ireturn (ty := .boolean) dX11_isThing_36 rfl rfl (Nat.zero_le _) (Nat.zero_le _) (hp _ _ _ h)
      · rw [if_neg hc] at h
        refine tj_iconst (v := 1) rfl dX11_isThing_31 (by decide) ?_
        refine tj_goto (tgt := 36) rfl dX11_isThing_32 ?_
        exact tj_ireturn (ty := .boolean) dX11_isThing_36 rfl rfl (Nat.zero_le _) (Nat.zero_le _) (hp _ _ _ h)
def wX11_mirrorOf_29 (post : Int32 → MM → Int64 → Prop) (M : MM) (tl : Int64) (v1 : Int32) (v2 : Int32) (s0 : Int32) : Prop :=
  (if v1 = 0 then post 0 M tl else (vp_in v2 (al 88) ∧ (vp_in ((v1 / 8) - (v1 / 8) / 4 * 4) (al 89) ∧ post (((M 88 (v2 : Int32).toNatClampNeg) + ((8 : Int32) * (M 89 ((v1 / 8) - (v1 / 8) / 4 * 4 : Int32).toNatClampNeg))) + ((32 : Int32) * s0)) M tl)))
set_option maxHeartbeats 4000000 in
set_option maxRecDepth 20000 in
theorem bX11_mirrorOf_29 {E : EV} {ad : Nat → Nat} {M : MM} {tl : Int64} {Φ : Option Value → va_W → Prop} {post : Int32 → MM → Int64 → Prop} {v1 : Int32} {v2 : Int32} {s0 : Int32} (hp : ∀ r M tl, post r M tl → Φ (some (.int r)) (WM E ad M tl)) (h : wX11_mirrorOf_29 post M tl v1 v2 s0) : T E kX11_mirrorOf 0 0 (WM E ad M tl) 29 [(0, .ref (ad (81))), (1, .int v1), (2, .int v2)] [.int s0] Φ := by
  unfold wX11_mirrorOf_29 at h
  refine tj_istore (l' := [(0, _), (1, _), (2, _), (4, _)]) rfl dX11_mirrorOf_29 (by decide) rfl ?_
  refine tj_iload_n rfl dX11_mirrorOf_31 rfl ?_
  refine tj_if_ne (tgt := 39) rfl rfl dX11_mirrorOf_32 (fun hc => ?_) (fun hc => ?_)
  · rw [if_neg hc] at h
    refine tj_aload_n rfl dX11_mirrorOf_39 rfl ?_
    refine gf11_twin (a := 81) rfl rfl dX11_mirrorOf_40 fl_X11_29 ?_
    refine tj_iload_n rfl dX11_mirrorOf_43 rfl ?_
    obtain ⟨hi1, h⟩ := h
    refine af_iald (a := 88) rfl rfl dX11_mirrorOf_44 hi1 ?_
    refine tj_bipush (v := 8) rfl dX11_mirrorOf_45 (by decide) ?_
    refine tj_aload_n rfl dX11_mirrorOf_47 rfl ?_
    refine gf11_paint (a := 81) rfl rfl dX11_mirrorOf_48 fl_X11_32 ?_
    refine tj_iload_n rfl dX11_mirrorOf_51 rfl ?_
    refine tj_bipush (v := 8) rfl dX11_mirrorOf_52 (by decide) ?_
    refine tj_idiv rfl dX11_mirrorOf_54 (by decide) ?_
    refine tj_iconst (v := 4) rfl dX11_mirrorOf_55 (by decide) ?_
    refine tj_irem rfl dX11_mirrorOf_56 (by decide) ?_
    obtain ⟨hi2, h⟩ := h
    refine af_iald (a := 89) rfl rfl dX11_mirrorOf_57 hi2 ?_
    refine tj_imul rfl dX11_mirrorOf_58 ?_
    refine tj_iadd rfl dX11_mirrorOf_59 ?_
    refine tj_bipush (v := 32) rfl dX11_mirrorOf_60 (by decide) ?_
    refine tj_iload rfl dX11_mirrorOf_62 rfl ?_
    refine tj_imul rfl dX11_mirrorOf_64 ?_
    refine tj_iadd rfl dX11_mirrorOf_65 ?_
    exact tj_ireturn (ty := .int) dX11_mirrorOf_66 rfl rfl (Nat.zero_le _) (Nat.zero_le _) (hp _ _ _ h)
  · rw [if_pos hc] at h
    refine tj_iconst (v := 0) rfl dX11_mirrorOf_35 (by decide) ?_
    refine tj_goto (tgt := 66) rfl dX11_mirrorOf_36 ?_
    exact tj_ireturn (ty := .int) dX11_mirrorOf_66 rfl rfl (Nat.zero_le _) (Nat.zero_le _) (hp _ _ _ h)
def wpX11_mirrorOf (post : Int32 → MM → Int64 → Prop) (M : MM) (tl : Int64) (v1 : Int32) : Prop :=
  (if (((M 81 11) >>> ((v1 - v1 / 8 * 8) &&& 31)) &&& 1) = 1 then wX11_mirrorOf_29 post  M tl v1 (v1 - v1 / 8 * 8) (v1 / 32) else wX11_mirrorOf_29 post  M tl v1 (v1 - v1 / 8 * 8) ((1 : Int32) - (v1 / 32)))
set_option maxHeartbeats 4000000 in
set_option maxRecDepth 20000 in
theorem ctX11_mirrorOf {E : EV} {ad : Nat → Nat} {M : MM} {tl : Int64} {Φ : Option Value → va_W → Prop} {post : Int32 → MM → Int64 → Prop} {v1 : Int32} (h : wpX11_mirrorOf post M tl v1) (hp : ∀ r M tl, post r M tl → Φ (some (.int r)) (WM E ad M tl)) : Tm E kX11_mirrorOf (WM E ad M tl) [.ref (ad (81)), .int v1] Φ := by
  unfold wpX11_mirrorOf at h
  show T E kX11_mirrorOf 0 0 (WM E ad M tl) 0 [(0, .ref (ad (81))), (1, .int v1)] [] Φ
  refine tj_iload_n rfl dX11_mirrorOf_0 rfl ?_
  refine tj_bipush (v := 8) rfl dX11_mirrorOf_1 (by decide) ?_
  refine tj_irem rfl dX11_mirrorOf_3 (by decide) ?_
  refine tj_istore_n (l' := [(0, _), (1, _), (2, _)]) rfl dX11_mirrorOf_4 (by decide) rfl ?_
  refine tj_iload_n rfl dX11_mirrorOf_5 rfl ?_
  refine tj_bipush (v := 32) rfl dX11_mirrorOf_6 (by decide) ?_
  refine tj_idiv rfl dX11_mirrorOf_8 (by decide) ?_
  refine tj_istore_n (l' := [(0, _), (1, _), (2, _), (3, _)]) rfl dX11_mirrorOf_9 (by decide) rfl ?_
  refine tj_aload_n rfl dX11_mirrorOf_10 rfl ?_
  refine gf11_rights (a := 81) rfl rfl dX11_mirrorOf_11 fl_X11_138 ?_
  refine tj_iload_n rfl dX11_mirrorOf_14 rfl ?_
  refine tj_ishr rfl dX11_mirrorOf_15 ?_
  refine tj_iconst (v := 1) rfl dX11_mirrorOf_16 (by decide) ?_
  refine tj_iand rfl dX11_mirrorOf_17 ?_
  refine tj_iconst (v := 1) rfl dX11_mirrorOf_18 (by decide) ?_
  refine tj_icmp_ne (tgt := 26) rfl rfl dX11_mirrorOf_19 (fun hc => ?_) (fun hc => ?_)
  · rw [if_neg hc] at h
    refine tj_iconst (v := 1) rfl dX11_mirrorOf_26 (by decide) ?_
    refine tj_iload_n rfl dX11_mirrorOf_27 rfl ?_
    refine tj_isub rfl dX11_mirrorOf_28 ?_
    exact tj_pick (l' := [(0, _), (1, _), (2, _)]) [0, 1, 2] rfl (bX11_mirrorOf_29 hp  h)
  · rw [if_pos hc] at h
    refine tj_iload_n rfl dX11_mirrorOf_22 rfl ?_
    refine tj_goto (tgt := 29) rfl dX11_mirrorOf_23 ?_
    exact tj_pick (l' := [(0, _), (1, _), (2, _)]) [0, 1, 2] rfl (bX11_mirrorOf_29 hp  h)
def wpX11_mirror (post : Int32 → MM → Int64 → Prop) (M : MM) (tl : Int64) (v1 : Int32) : Prop :=
  wpX11_isThing (fun r3 M1 t2 => (if r3 = 0 then post (-1) M1 t2 else wpX11_mirrorOf (fun r6 M4 t5 => post r6 M4 t5) M1 t2 v1)) M tl v1
set_option maxHeartbeats 4000000 in
set_option maxRecDepth 20000 in
theorem ctX11_mirror {E : EV} {ad : Nat → Nat} {M : MM} {tl : Int64} {Φ : Option Value → va_W → Prop} {post : Int32 → MM → Int64 → Prop} {v1 : Int32} (h : wpX11_mirror post M tl v1) (hp : ∀ r M tl, post r M tl → Φ (some (.int r)) (WM E ad M tl)) : Tm E kX11_mirror (WM E ad M tl) [.ref (ad (81)), .int v1] Φ := by
  unfold wpX11_mirror at h
  show T E kX11_mirror 0 0 (WM E ad M tl) 0 [(0, .ref (ad (81))), (1, .int v1)] [] Φ
  refine tj_iload_n rfl dX11_mirror_0 rfl ?_
  refine cf_S (z := kX11_isThing) (As := [_]) rfl dX11_mirror_1 rfl ml_X11_273 okX11_isThing rfl (rm_ok rfl) (Nat.le_of_ble_eq_true rfl) (Nat.le_of_ble_eq_true rfl) rfl ?_
  refine ctX11_isThing h (fun r3 M1 t2 h => ?_)
  refine tj_if_eq (tgt := 15) rfl rfl dX11_mirror_4 (fun hc => ?_) (fun hc => ?_)
  · rw [if_pos hc] at h
    refine tj_iconst (v := -1) rfl dX11_mirror_15 (by decide) ?_
    exact tj_ireturn (ty := .int) dX11_mirror_16 rfl rfl (Nat.zero_le _) (Nat.zero_le _) (hp _ _ _ h)
  · rw [if_neg hc] at h
    refine tj_aload_n rfl dX11_mirror_7 rfl ?_
    refine tj_iload_n rfl dX11_mirror_8 rfl ?_
    refine cf_V11 (a := 81) (z := kX11_mirrorOf) (As := [_]) rfl rfl dX11_mirror_9 rfl ml_X11_276 okX11_mirrorOf rfl (rm_ok rfl) (Nat.le_of_ble_eq_true rfl) (Nat.le_of_ble_eq_true rfl) rfl rfl ?_
    refine ctX11_mirrorOf h (fun r6 M4 t5 h => ?_)
    refine tj_goto (tgt := 16) rfl dX11_mirror_12 ?_
    exact tj_ireturn (ty := .int) dX11_mirror_16 rfl rfl (Nat.zero_le _) (Nat.zero_le _) (hp _ _ _ h)
def wpX11_work (post : Int32 → MM → Int64 → Prop) (M : MM) (tl : Int64) (v1 : Int32) (v2 : Int32) : Prop :=
  (vp_in 16 (al 82) ∧ wpX11_in (fun r4 M2 t3 => (if r4 = 0 then post (-1) M2 t3 else wpX11_in (fun r7 M5 t6 => (if r7 = 0 then post (-1) M5 t6 else (vp_in (((17 : Int32) + ((4 : Int32) * v1)) + v2) (al 82) ∧ post (M5 82 (((17 : Int32) + ((4 : Int32) * v1)) + v2 : Int32).toNatClampNeg) M5 t6))) M2 t3 ((v2 : Int32).toInt64) 0 3)) M tl ((v1 : Int32).toInt64) 0 (((M 82 (16 : Int32).toNatClampNeg) - 1 : Int32).toInt64))
set_option maxHeartbeats 4000000 in
set_option maxRecDepth 20000 in
theorem ctX11_work {E : EV} {ad : Nat → Nat} {M : MM} {tl : Int64} {Φ : Option Value → va_W → Prop} {post : Int32 → MM → Int64 → Prop} {v1 : Int32} {v2 : Int32} (h : wpX11_work post M tl v1 v2) (hp : ∀ r M tl, post r M tl → Φ (some (.int r)) (WM E ad M tl)) : Tm E kX11_work (WM E ad M tl) [.ref (ad (81)), .int v1, .int v2] Φ := by
  unfold wpX11_work at h
  show T E kX11_work 0 0 (WM E ad M tl) 0 [(0, .ref (ad (81))), (1, .int v1), (2, .int v2)] [] Φ
  refine tj_iload_n rfl dX11_work_0 rfl ?_
  refine tj_i2l rfl dX11_work_1 ?_
  refine tj_lconst (v := 0) rfl dX11_work_2 (by decide) ?_
  refine tj_aload_n rfl dX11_work_3 rfl ?_
  refine gf11_st (a := 81) rfl rfl dX11_work_4 fl_X11_7 ?_
  refine tj_bipush (v := 16) rfl dX11_work_7 (by decide) ?_
  obtain ⟨hi1, h⟩ := h
  refine af_iald (a := 82) rfl rfl dX11_work_9 hi1 ?_
  refine tj_iconst (v := 1) rfl dX11_work_10 (by decide) ?_
  refine tj_isub rfl dX11_work_11 ?_
  refine tj_i2l rfl dX11_work_12 ?_
  refine cf_S (z := kX11_in) (As := [_, _, _]) rfl dX11_work_13 rfl ml_X11_146 okX11_in rfl (rm_ok rfl) (Nat.le_of_ble_eq_true rfl) (Nat.le_of_ble_eq_true rfl) rfl ?_
  refine ctX11_in h (fun r4 M2 t3 h => ?_)
  refine tj_if_eq (tgt := 47) rfl rfl dX11_work_16 (fun hc => ?_) (fun hc => ?_)
  · rw [if_pos hc] at h
    refine tj_iconst (v := -1) rfl dX11_work_47 (by decide) ?_
    exact tj_ireturn (ty := .int) dX11_work_48 rfl rfl (Nat.zero_le _) (Nat.zero_le _) (hp _ _ _ h)
  · rw [if_neg hc] at h
    refine tj_iload_n rfl dX11_work_19 rfl ?_
    refine tj_i2l rfl dX11_work_20 ?_
    refine tj_lconst (v := 0) rfl dX11_work_21 (by decide) ?_
    refine tj_ldc2 rfl dX11_work_22 kl_X11_269 ?_
    refine cf_S (z := kX11_in) (As := [_, _, _]) rfl dX11_work_25 rfl ml_X11_146 okX11_in rfl (rm_ok rfl) (Nat.le_of_ble_eq_true rfl) (Nat.le_of_ble_eq_true rfl) rfl ?_
    refine ctX11_in h (fun r7 M5 t6 h => ?_)
    refine tj_if_eq (tgt := 47) rfl rfl dX11_work_28 (fun hc => ?_) (fun hc => ?_)
    · rw [if_pos hc] at h
      refine tj_iconst (v := -1) rfl dX11_work_47 (by decide) ?_
      exact tj_ireturn (ty := .int) dX11_work_48 rfl rfl (Nat.zero_le _) (Nat.zero_le _) (hp _ _ _ h)
    · rw [if_neg hc] at h
      refine tj_aload_n rfl dX11_work_31 rfl ?_
      refine gf11_st (a := 81) rfl rfl dX11_work_32 fl_X11_7 ?_
      refine tj_bipush (v := 17) rfl dX11_work_35 (by decide) ?_
      refine tj_iconst (v := 4) rfl dX11_work_37 (by decide) ?_
      refine tj_iload_n rfl dX11_work_38 rfl ?_
      refine tj_imul rfl dX11_work_39 ?_
      refine tj_iadd rfl dX11_work_40 ?_
      refine tj_iload_n rfl dX11_work_41 rfl ?_
      refine tj_iadd rfl dX11_work_42 ?_
      obtain ⟨hi8, h⟩ := h
      refine af_iald (a := 82) rfl rfl dX11_work_43 hi8 ?_
      refine tj_goto (tgt := 48) rfl dX11_work_44 ?_
      exact tj_ireturn (ty := .int) dX11_work_48 rfl rfl (Nat.zero_le _) (Nat.zero_le _) (hp _ _ _ h)
def wpX11_isBank (post : Int32 → MM → Int64 → Prop) (M : MM) (tl : Int64) (v0 : Int32) : Prop :=
  wpX11_in (fun r3 M1 t2 => (narrow .boolean (.int r3) = .int r3 ∧ post r3 M1 t2)) M tl ((v0 : Int32).toInt64) 0 1
set_option maxHeartbeats 4000000 in
set_option maxRecDepth 20000 in
theorem ctX11_isBank {E : EV} {ad : Nat → Nat} {M : MM} {tl : Int64} {Φ : Option Value → va_W → Prop} {post : Int32 → MM → Int64 → Prop} {v0 : Int32} (h : wpX11_isBank post M tl v0) (hp : ∀ r M tl, post r M tl → Φ (some (.int r)) (WM E ad M tl)) : Tm E kX11_isBank (WM E ad M tl) [.int v0] Φ := by
  unfold wpX11_isBank at h
  show T E kX11_isBank 0 0 (WM E ad M tl) 0 [(0, .int v0)] [] Φ
  refine tj_iload_n rfl dX11_isBank_0 rfl ?_
  refine tj_i2l rfl dX11_isBank_1 ?_
  refine tj_lconst (v := 0) rfl dX11_isBank_2 (by decide) ?_
  refine tj_lconst (v := 1) rfl dX11_isBank_3 (by decide) ?_
  refine cf_S (z := kX11_in) (As := [_, _, _]) rfl dX11_isBank_4 rfl ml_X11_146 okX11_in rfl (rm_ok rfl) (Nat.le_of_ble_eq_true rfl) (Nat.le_of_ble_eq_true rfl) rfl ?_
  refine ctX11_in h (fun r3 M1 t2 h => ?_)
  obtain ⟨hn4, h⟩ := h
  exact tj_ireturn (ty := .boolean) dX11_isBank_7 rfl hn4 (Nat.zero_le _) (Nat.zero_le _) (hp _ _ _ h)
def wpX11_isLot (post : Int32 → MM → Int64 → Prop) (M : MM) (tl : Int64) (v1 : Int32) (v2 : Int32) : Prop :=
  wpX11_isBank (fun r3 M1 t2 => (if r3 = 0 then post 0 M1 t2 else wpX11_in (fun r6 M4 t5 => (if r6 = 0 then post 0 M4 t5 else post 1 M4 t5)) M1 t2 ((v2 : Int32).toInt64) 0 (((M1 81 2) - 1 : Int32).toInt64))) M tl v1
set_option maxHeartbeats 4000000 in
set_option maxRecDepth 20000 in
theorem ctX11_isLot {E : EV} {ad : Nat → Nat} {M : MM} {tl : Int64} {Φ : Option Value → va_W → Prop} {post : Int32 → MM → Int64 → Prop} {v1 : Int32} {v2 : Int32} (h : wpX11_isLot post M tl v1 v2) (hp : ∀ r M tl, post r M tl → Φ (some (.int r)) (WM E ad M tl)) : Tm E kX11_isLot (WM E ad M tl) [.ref (ad (81)), .int v1, .int v2] Φ := by
  unfold wpX11_isLot at h
  show T E kX11_isLot 0 0 (WM E ad M tl) 0 [(0, .ref (ad (81))), (1, .int v1), (2, .int v2)] [] Φ
  refine tj_iload_n rfl dX11_isLot_0 rfl ?_
  refine cf_S (z := kX11_isBank) (As := [_]) rfl dX11_isLot_1 rfl ml_X11_279 okX11_isBank rfl (rm_ok rfl) (Nat.le_of_ble_eq_true rfl) (Nat.le_of_ble_eq_true rfl) rfl ?_
  refine ctX11_isBank h (fun r3 M1 t2 h => ?_)
  refine tj_if_eq (tgt := 27) rfl rfl dX11_isLot_4 (fun hc => ?_) (fun hc => ?_)
  · rw [if_pos hc] at h
    refine tj_iconst (v := 0) rfl dX11_isLot_27 (by decide) ?_
    exact tj_ireturn (ty := .boolean) dX11_isLot_28 rfl rfl (Nat.zero_le _) (Nat.zero_le _) (hp _ _ _ h)
  · rw [if_neg hc] at h
    refine tj_iload_n rfl dX11_isLot_7 rfl ?_
    refine tj_i2l rfl dX11_isLot_8 ?_
    refine tj_lconst (v := 0) rfl dX11_isLot_9 (by decide) ?_
    refine tj_aload_n rfl dX11_isLot_10 rfl ?_
    refine gf11_lots (a := 81) rfl rfl dX11_isLot_11 fl_X11_129 ?_
    refine tj_iconst (v := 1) rfl dX11_isLot_14 (by decide) ?_
    refine tj_isub rfl dX11_isLot_15 ?_
    refine tj_i2l rfl dX11_isLot_16 ?_
    refine cf_S (z := kX11_in) (As := [_, _, _]) rfl dX11_isLot_17 rfl ml_X11_146 okX11_in rfl (rm_ok rfl) (Nat.le_of_ble_eq_true rfl) (Nat.le_of_ble_eq_true rfl) rfl ?_
    refine ctX11_in h (fun r6 M4 t5 h => ?_)
    refine tj_if_eq (tgt := 27) rfl rfl dX11_isLot_20 (fun hc => ?_) (fun hc => ?_)
    · rw [if_pos hc] at h
      refine tj_iconst (v := 0) rfl dX11_isLot_27 (by decide) ?_
      exact tj_ireturn (ty := .boolean) dX11_isLot_28 rfl rfl (Nat.zero_le _) (Nat.zero_le _) (hp _ _ _ h)
    · rw [if_neg hc] at h
      refine tj_iconst (v := 1) rfl dX11_isLot_23 (by decide) ?_
      refine tj_goto (tgt := 28) rfl dX11_isLot_24 ?_
      exact tj_ireturn (ty := .boolean) dX11_isLot_28 rfl rfl (Nat.zero_le _) (Nat.zero_le _) (hp _ _ _ h)
def wpX11_thing (post : Int32 → MM → Int64 → Prop) (M : MM) (tl : Int64) (v1 : Int32) (v2 : Int32) : Prop :=
  wpX11_isLot (fun r3 M1 t2 => (if r3 = 0 then post (-1) M1 t2 else (vp_in (((8 : Int32) * v1) + v2) (al 82) ∧ post (M1 82 (((8 : Int32) * v1) + v2 : Int32).toNatClampNeg) M1 t2))) M tl v1 v2
set_option maxHeartbeats 4000000 in
set_option maxRecDepth 20000 in
theorem ctX11_thing {E : EV} {ad : Nat → Nat} {M : MM} {tl : Int64} {Φ : Option Value → va_W → Prop} {post : Int32 → MM → Int64 → Prop} {v1 : Int32} {v2 : Int32} (h : wpX11_thing post M tl v1 v2) (hp : ∀ r M tl, post r M tl → Φ (some (.int r)) (WM E ad M tl)) : Tm E kX11_thing (WM E ad M tl) [.ref (ad (81)), .int v1, .int v2] Φ := by
  unfold wpX11_thing at h
  show T E kX11_thing 0 0 (WM E ad M tl) 0 [(0, .ref (ad (81))), (1, .int v1), (2, .int v2)] [] Φ
  refine tj_aload_n rfl dX11_thing_0 rfl ?_
  refine tj_iload_n rfl dX11_thing_1 rfl ?_
  refine tj_iload_n rfl dX11_thing_2 rfl ?_
  refine cf_V11 (a := 81) (z := kX11_isLot) (As := [_, _]) rfl rfl dX11_thing_3 rfl ml_X11_282 okX11_isLot rfl (rm_ok rfl) (Nat.le_of_ble_eq_true rfl) (Nat.le_of_ble_eq_true rfl) rfl rfl ?_
  refine ctX11_isLot h (fun r3 M1 t2 h => ?_)
  refine tj_if_eq (tgt := 23) rfl rfl dX11_thing_6 (fun hc => ?_) (fun hc => ?_)
  · rw [if_pos hc] at h
    refine tj_iconst (v := -1) rfl dX11_thing_23 (by decide) ?_
    exact tj_ireturn (ty := .int) dX11_thing_24 rfl rfl (Nat.zero_le _) (Nat.zero_le _) (hp _ _ _ h)
  · rw [if_neg hc] at h
    refine tj_aload_n rfl dX11_thing_9 rfl ?_
    refine gf11_st (a := 81) rfl rfl dX11_thing_10 fl_X11_7 ?_
    refine tj_bipush (v := 8) rfl dX11_thing_13 (by decide) ?_
    refine tj_iload_n rfl dX11_thing_15 rfl ?_
    refine tj_imul rfl dX11_thing_16 ?_
    refine tj_iload_n rfl dX11_thing_17 rfl ?_
    refine tj_iadd rfl dX11_thing_18 ?_
    obtain ⟨hi4, h⟩ := h
    refine af_iald (a := 82) rfl rfl dX11_thing_19 hi4 ?_
    refine tj_goto (tgt := 24) rfl dX11_thing_20 ?_
    exact tj_ireturn (ty := .int) dX11_thing_24 rfl rfl (Nat.zero_le _) (Nat.zero_le _) (hp _ _ _ h)
def wpX11_put (post : Int32 → MM → Int64 → Prop) (M : MM) (tl : Int64) (v1 : Int32) (v2 : Int32) (v3 : Int32) : Prop :=
  wpX11_isLot (fun r3 M1 t2 => (if r3 = 0 then post (-1) M1 t2 else wpX11_isThing (fun r6 M4 t5 => (if r6 = 0 then post (-1) M4 t5 else (vp_in (((8 : Int32) * v1) + v2) (al 82) ∧ (vp_in (((8 : Int32) * v1) + v2) (al 82) ∧ (∀ M9 : MM, M9 = mset M4 82 (((8 : Int32) * v1) + v2 : Int32).toNatClampNeg v3 → post (M4 82 (((8 : Int32) * v1) + v2 : Int32).toNatClampNeg) M9 t5))))) M1 t2 v3)) M tl v1 v2
set_option maxHeartbeats 4000000 in
set_option maxRecDepth 20000 in
theorem ctX11_put {E : EV} {ad : Nat → Nat} {M : MM} {tl : Int64} {Φ : Option Value → va_W → Prop} {post : Int32 → MM → Int64 → Prop} {v1 : Int32} {v2 : Int32} {v3 : Int32} (h : wpX11_put post M tl v1 v2 v3) (hp : ∀ r M tl, post r M tl → Φ (some (.int r)) (WM E ad M tl)) : Tm E kX11_put (WM E ad M tl) [.ref (ad (81)), .int v1, .int v2, .int v3] Φ := by
  unfold wpX11_put at h
  show T E kX11_put 0 0 (WM E ad M tl) 0 [(0, .ref (ad (81))), (1, .int v1), (2, .int v2), (3, .int v3)] [] Φ
  refine tj_aload_n rfl dX11_put_0 rfl ?_
  refine tj_iload_n rfl dX11_put_1 rfl ?_
  refine tj_iload_n rfl dX11_put_2 rfl ?_
  refine cf_V11 (a := 81) (z := kX11_isLot) (As := [_, _]) rfl rfl dX11_put_3 rfl ml_X11_282 okX11_isLot rfl (rm_ok rfl) (Nat.le_of_ble_eq_true rfl) (Nat.le_of_ble_eq_true rfl) rfl rfl ?_
  refine ctX11_isLot h (fun r3 M1 t2 h => ?_)
  refine tj_if_eq (tgt := 16) rfl rfl dX11_put_6 (fun hc => ?_) (fun hc => ?_)
  · rw [if_pos hc] at h
    refine tj_iconst (v := -1) rfl dX11_put_16 (by decide) ?_
    exact tj_ireturn (ty := .int) dX11_put_17 rfl rfl (Nat.zero_le _) (Nat.zero_le _) (hp _ _ _ h)
  · rw [if_neg hc] at h
    refine tj_iload_n rfl dX11_put_9 rfl ?_
    refine cf_S (z := kX11_isThing) (As := [_]) rfl dX11_put_10 rfl ml_X11_273 okX11_isThing rfl (rm_ok rfl) (Nat.le_of_ble_eq_true rfl) (Nat.le_of_ble_eq_true rfl) rfl ?_
    refine ctX11_isThing h (fun r6 M4 t5 h => ?_)
    refine tj_if_ne (tgt := 18) rfl rfl dX11_put_13 (fun hc => ?_) (fun hc => ?_)
    · rw [if_neg hc] at h
      refine tj_aload_n rfl dX11_put_18 rfl ?_
      refine gf11_st (a := 81) rfl rfl dX11_put_19 fl_X11_7 ?_
      refine tj_bipush (v := 8) rfl dX11_put_22 (by decide) ?_
      refine tj_iload_n rfl dX11_put_24 rfl ?_
      refine tj_imul rfl dX11_put_25 ?_
      refine tj_iload_n rfl dX11_put_26 rfl ?_
      refine tj_iadd rfl dX11_put_27 ?_
      obtain ⟨hi7, h⟩ := h
      refine af_iald (a := 82) rfl rfl dX11_put_28 hi7 ?_
      refine tj_istore (l' := [(0, _), (1, _), (2, _), (3, _), (4, _)]) rfl dX11_put_29 (by decide) rfl ?_
      refine tj_aload_n rfl dX11_put_31 rfl ?_
      refine gf11_st (a := 81) rfl rfl dX11_put_32 fl_X11_7 ?_
      refine tj_bipush (v := 8) rfl dX11_put_35 (by decide) ?_
      refine tj_iload_n rfl dX11_put_37 rfl ?_
      refine tj_imul rfl dX11_put_38 ?_
      refine tj_iload_n rfl dX11_put_39 rfl ?_
      refine tj_iadd rfl dX11_put_40 ?_
      refine tj_iload_n rfl dX11_put_41 rfl ?_
      obtain ⟨hi8, h⟩ := h
      refine af_iast (a := 82) rfl rfl dX11_put_42 hi8 ?_
      replace h := h _ rfl
      generalize mset M4 82 (((8 : Int32) * v1) + v2 : Int32).toNatClampNeg v3 = M9 at h ⊢
      refine tj_iload rfl dX11_put_43 rfl ?_
      exact tj_ireturn (ty := .int) dX11_put_45 rfl rfl (Nat.zero_le _) (Nat.zero_le _) (hp _ _ _ h)
    · rw [if_pos hc] at h
      refine tj_iconst (v := -1) rfl dX11_put_16 (by decide) ?_
      exact tj_ireturn (ty := .int) dX11_put_17 rfl rfl (Nat.zero_le _) (Nat.zero_le _) (hp _ _ _ h)
def wX11_matchBy_17 (post : Int32 → MM → Int64 → Prop) (M : MM) (tl : Int64) (s0 : Int32) : Prop :=
  wpX11_in (fun r3 M1 t2 => (if r3 = 0 then post (-4) M1 t2 else post s0 M1 t2)) M tl ((s0 : Int32).toInt64) 0 (((M 81 2) - 1 : Int32).toInt64)
set_option maxHeartbeats 4000000 in
set_option maxRecDepth 20000 in
theorem bX11_matchBy_17 {E : EV} {ad : Nat → Nat} {M : MM} {tl : Int64} {Φ : Option Value → va_W → Prop} {post : Int32 → MM → Int64 → Prop} {s0 : Int32} (hp : ∀ r M tl, post r M tl → Φ (some (.int r)) (WM E ad M tl)) (h : wX11_matchBy_17 post M tl s0) : T E kX11_matchBy 0 0 (WM E ad M tl) 17 [(0, .ref (ad (81)))] [.int s0] Φ := by
  unfold wX11_matchBy_17 at h
  refine tj_istore (l' := [(0, _), (4, _)]) rfl dX11_matchBy_17 (by decide) rfl ?_
  refine tj_iload rfl dX11_matchBy_19 rfl ?_
  refine tj_i2l rfl dX11_matchBy_21 ?_
  refine tj_lconst (v := 0) rfl dX11_matchBy_22 (by decide) ?_
  refine tj_aload_n rfl dX11_matchBy_23 rfl ?_
  refine gf11_lots (a := 81) rfl rfl dX11_matchBy_24 fl_X11_129 ?_
  refine tj_iconst (v := 1) rfl dX11_matchBy_27 (by decide) ?_
  refine tj_isub rfl dX11_matchBy_28 ?_
  refine tj_i2l rfl dX11_matchBy_29 ?_
  refine cf_S (z := kX11_in) (As := [_, _, _]) rfl dX11_matchBy_30 rfl ml_X11_146 okX11_in rfl (rm_ok rfl) (Nat.le_of_ble_eq_true rfl) (Nat.le_of_ble_eq_true rfl) rfl ?_
  refine ctX11_in h (fun r3 M1 t2 h => ?_)
  refine tj_if_eq (tgt := 41) rfl rfl dX11_matchBy_33 (fun hc => ?_) (fun hc => ?_)
  · rw [if_pos hc] at h
    refine tj_bipush (v := -4) rfl dX11_matchBy_41 (by decide) ?_
    exact tj_ireturn (ty := .int) dX11_matchBy_43 rfl rfl (Nat.zero_le _) (Nat.zero_le _) (hp _ _ _ h)
  · rw [if_neg hc] at h
    refine tj_iload rfl dX11_matchBy_36 rfl ?_
    refine tj_goto (tgt := 43) rfl dX11_matchBy_38 ?_
    exact tj_ireturn (ty := .int) dX11_matchBy_43 rfl rfl (Nat.zero_le _) (Nat.zero_le _) (hp _ _ _ h)
def wpX11_matchBy (post : Int32 → MM → Int64 → Prop) (M : MM) (tl : Int64) (v1 : Int32) (v2 : Int32) (v3 : Int32) : Prop :=
  (if v2 = 0 then wX11_matchBy_17 post  M tl ((v3 + v1) - 3) else wX11_matchBy_17 post  M tl ((v3 - v1) + 3))
set_option maxHeartbeats 4000000 in
set_option maxRecDepth 20000 in
theorem ctX11_matchBy {E : EV} {ad : Nat → Nat} {M : MM} {tl : Int64} {Φ : Option Value → va_W → Prop} {post : Int32 → MM → Int64 → Prop} {v1 : Int32} {v2 : Int32} {v3 : Int32} (h : wpX11_matchBy post M tl v1 v2 v3) (hp : ∀ r M tl, post r M tl → Φ (some (.int r)) (WM E ad M tl)) : Tm E kX11_matchBy (WM E ad M tl) [.ref (ad (81)), .int v1, .int v2, .int v3] Φ := by
  unfold wpX11_matchBy at h
  show T E kX11_matchBy 0 0 (WM E ad M tl) 0 [(0, .ref (ad (81))), (1, .int v1), (2, .int v2), (3, .int v3)] [] Φ
  refine tj_iload_n rfl dX11_matchBy_0 rfl ?_
  refine tj_if_ne (tgt := 12) rfl rfl dX11_matchBy_1 (fun hc => ?_) (fun hc => ?_)
  · rw [if_neg hc] at h
    refine tj_iload_n rfl dX11_matchBy_12 rfl ?_
    refine tj_iload_n rfl dX11_matchBy_13 rfl ?_
    refine tj_isub rfl dX11_matchBy_14 ?_
    refine tj_iconst (v := 3) rfl dX11_matchBy_15 (by decide) ?_
    refine tj_iadd rfl dX11_matchBy_16 ?_
    exact tj_pick (l' := [(0, _)]) [0] rfl (bX11_matchBy_17 hp  h)
  · rw [if_pos hc] at h
    refine tj_iload_n rfl dX11_matchBy_4 rfl ?_
    refine tj_iload_n rfl dX11_matchBy_5 rfl ?_
    refine tj_iadd rfl dX11_matchBy_6 ?_
    refine tj_iconst (v := 3) rfl dX11_matchBy_7 (by decide) ?_
    refine tj_isub rfl dX11_matchBy_8 ?_
    refine tj_goto (tgt := 17) rfl dX11_matchBy_9 ?_
    exact tj_pick (l' := [(0, _)]) [0] rfl (bX11_matchBy_17 hp  h)
def wpX11_matchOf (post : Int32 → MM → Int64 → Prop) (M : MM) (tl : Int64) (v1 : Int32) (v2 : Int32) : Prop :=
  wpX11_matchBy (fun r3 M1 t2 => post r3 M1 t2) M tl (M 81 3) v1 v2
set_option maxHeartbeats 4000000 in
set_option maxRecDepth 20000 in
theorem ctX11_matchOf {E : EV} {ad : Nat → Nat} {M : MM} {tl : Int64} {Φ : Option Value → va_W → Prop} {post : Int32 → MM → Int64 → Prop} {v1 : Int32} {v2 : Int32} (h : wpX11_matchOf post M tl v1 v2) (hp : ∀ r M tl, post r M tl → Φ (some (.int r)) (WM E ad M tl)) : Tm E kX11_matchOf (WM E ad M tl) [.ref (ad (81)), .int v1, .int v2] Φ := by
  unfold wpX11_matchOf at h
  show T E kX11_matchOf 0 0 (WM E ad M tl) 0 [(0, .ref (ad (81))), (1, .int v1), (2, .int v2)] [] Φ
  refine tj_aload_n rfl dX11_matchOf_0 rfl ?_
  refine tj_aload_n rfl dX11_matchOf_1 rfl ?_
  refine gf11_bend (a := 81) rfl rfl dX11_matchOf_2 fl_X11_132 ?_
  refine tj_iload_n rfl dX11_matchOf_5 rfl ?_
  refine tj_iload_n rfl dX11_matchOf_6 rfl ?_
  refine cf_V11 (a := 81) (z := kX11_matchBy) (As := [_, _, _]) rfl rfl dX11_matchOf_7 rfl ml_X11_285 okX11_matchBy rfl (rm_ok rfl) (Nat.le_of_ble_eq_true rfl) (Nat.le_of_ble_eq_true rfl) rfl rfl ?_
  refine ctX11_matchBy h (fun r3 M1 t2 h => ?_)
  exact tj_ireturn (ty := .int) dX11_matchOf_10 rfl rfl (Nat.zero_le _) (Nat.zero_le _) (hp _ _ _ h)
def wpX11_match (post : Int32 → MM → Int64 → Prop) (M : MM) (tl : Int64) (v1 : Int32) (v2 : Int32) : Prop :=
  wpX11_isLot (fun r3 M1 t2 => (if r3 = 0 then post (-1) M1 t2 else wpX11_matchOf (fun r6 M4 t5 => post r6 M4 t5) M1 t2 v1 v2)) M tl v1 v2
set_option maxHeartbeats 4000000 in
set_option maxRecDepth 20000 in
theorem ctX11_match {E : EV} {ad : Nat → Nat} {M : MM} {tl : Int64} {Φ : Option Value → va_W → Prop} {post : Int32 → MM → Int64 → Prop} {v1 : Int32} {v2 : Int32} (h : wpX11_match post M tl v1 v2) (hp : ∀ r M tl, post r M tl → Φ (some (.int r)) (WM E ad M tl)) : Tm E kX11_match (WM E ad M tl) [.ref (ad (81)), .int v1, .int v2] Φ := by
  unfold wpX11_match at h
  show T E kX11_match 0 0 (WM E ad M tl) 0 [(0, .ref (ad (81))), (1, .int v1), (2, .int v2)] [] Φ
  refine tj_aload_n rfl dX11_match_0 rfl ?_
  refine tj_iload_n rfl dX11_match_1 rfl ?_
  refine tj_iload_n rfl dX11_match_2 rfl ?_
  refine cf_V11 (a := 81) (z := kX11_isLot) (As := [_, _]) rfl rfl dX11_match_3 rfl ml_X11_282 okX11_isLot rfl (rm_ok rfl) (Nat.le_of_ble_eq_true rfl) (Nat.le_of_ble_eq_true rfl) rfl rfl ?_
  refine ctX11_isLot h (fun r3 M1 t2 h => ?_)
  refine tj_if_eq (tgt := 18) rfl rfl dX11_match_6 (fun hc => ?_) (fun hc => ?_)
  · rw [if_pos hc] at h
    refine tj_iconst (v := -1) rfl dX11_match_18 (by decide) ?_
    exact tj_ireturn (ty := .int) dX11_match_19 rfl rfl (Nat.zero_le _) (Nat.zero_le _) (hp _ _ _ h)
  · rw [if_neg hc] at h
    refine tj_aload_n rfl dX11_match_9 rfl ?_
    refine tj_iload_n rfl dX11_match_10 rfl ?_
    refine tj_iload_n rfl dX11_match_11 rfl ?_
    refine cf_V11 (a := 81) (z := kX11_matchOf) (As := [_, _]) rfl rfl dX11_match_12 rfl ml_X11_289 okX11_matchOf rfl (rm_ok rfl) (Nat.le_of_ble_eq_true rfl) (Nat.le_of_ble_eq_true rfl) rfl rfl ?_
    refine ctX11_matchOf h (fun r6 M4 t5 h => ?_)
    refine tj_goto (tgt := 19) rfl dX11_match_15 ?_
    exact tj_ireturn (ty := .int) dX11_match_19 rfl rfl (Nat.zero_le _) (Nat.zero_le _) (hp _ _ _ h)
def wX11_asNow_2 (post : MM → Int64 → Prop) : Nat → MM → Int64 → Int32 → Prop
  | 0, _, _, _ => False
  | n + 1, M, tl, v1 =>
    (if 16 ≤ v1 then post M tl else (vp_in v1 (al 82) ∧ (vp_in v1 (al 98) ∧ (∀ M3 : MM, M3 = mset M 98 (v1 : Int32).toNatClampNeg (M 82 (v1 : Int32).toNatClampNeg) → (wX11_asNow_2 post n) M3 tl (v1 + 1)))))
set_option maxHeartbeats 4000000 in
set_option maxRecDepth 20000 in
theorem bX11_asNow_2 {E : EV} {ad : Nat → Nat} {Φ : Option Value → va_W → Prop} {post : MM → Int64 → Prop}  (hp : ∀ M tl, post M tl → Φ none (WM E ad M tl)) : ∀ (n : Nat) (M : MM) (tl : Int64) (v1 : Int32), wX11_asNow_2 post n M tl v1 → T E kX11_asNow 0 0 (WM E ad M tl) 2 [(0, .ref (ad (81))), (1, .int v1)] [] Φ := by
  intro n
  induction n with
  | zero => intro M tl v1 h; exact False.elim h
  | succ n ih =>
    intro M tl v1 h
    unfold wX11_asNow_2 at h
    refine tj_iload_n rfl dX11_asNow_2 rfl ?_
    refine tj_bipush (v := 16) rfl dX11_asNow_3 (by decide) ?_
    refine tj_icmp_ge (tgt := 26) rfl rfl dX11_asNow_5 (fun hc => ?_) (fun hc => ?_)
    · rw [if_pos hc] at h
      exact tj_return dX11_asNow_26 rfl (Nat.zero_le _) (Nat.zero_le _) (hp _ _ h)
    · rw [if_neg hc] at h
      refine tj_aload_n rfl dX11_asNow_8 rfl ?_
      refine gf11_now (a := 81) rfl rfl dX11_asNow_9 fl_X11_59 ?_
      refine tj_iload_n rfl dX11_asNow_12 rfl ?_
      refine tj_aload_n rfl dX11_asNow_13 rfl ?_
      refine gf11_st (a := 81) rfl rfl dX11_asNow_14 fl_X11_7 ?_
      refine tj_iload_n rfl dX11_asNow_17 rfl ?_
      obtain ⟨hi1, h⟩ := h
      refine af_iald (a := 82) rfl rfl dX11_asNow_18 hi1 ?_
      obtain ⟨hi2, h⟩ := h
      refine af_iast (a := 98) rfl rfl dX11_asNow_19 hi2 ?_
      replace h := h _ rfl
      generalize mset M 98 (v1 : Int32).toNatClampNeg (M 82 (v1 : Int32).toNatClampNeg) = M3 at h ⊢
      refine tj_iinc (v := _ + 1) (l' := [(0, _), (1, _)]) rfl dX11_asNow_20 rfl (by decide) rfl rfl ?_
      refine tj_goto (tgt := 2) rfl dX11_asNow_23 ?_
      exact ih _ _ _ h
def wpX11_asNow (post : MM → Int64 → Prop) (M : MM) (tl : Int64) : Prop :=
  (∃ n9, wX11_asNow_2 post  n9 M tl 0)
set_option maxHeartbeats 4000000 in
set_option maxRecDepth 20000 in
theorem ctX11_asNow {E : EV} {ad : Nat → Nat} {M : MM} {tl : Int64} {Φ : Option Value → va_W → Prop} {post : MM → Int64 → Prop} (h : wpX11_asNow post M tl ) (hp : ∀ M tl, post M tl → Φ none (WM E ad M tl)) : Tm E kX11_asNow (WM E ad M tl) [.ref (ad (81))] Φ := by
  unfold wpX11_asNow at h
  show T E kX11_asNow 0 0 (WM E ad M tl) 0 [(0, .ref (ad (81)))] [] Φ
  refine tj_iconst (v := 0) rfl dX11_asNow_0 (by decide) ?_
  refine tj_istore_n (l' := [(0, _), (1, _)]) rfl dX11_asNow_1 (by decide) rfl ?_
  obtain ⟨n9, h⟩ := h
  exact bX11_asNow_2 hp  n9 _ _ _ h
def wpX11_isEven (post : Int32 → MM → Int64 → Prop) (M : MM) (tl : Int64) (v1 : Int32) : Prop :=
  wpX11_matchOf (fun r3 M1 t2 => (if r3 = (-4) then post 1 M1 t2 else (vp_in ((8 : Int32) + r3) (al 98) ∧ (vp_in v1 (al 98) ∧ wpX11_mirrorOf (fun r8 M6 t7 => (if (M1 98 ((8 : Int32) + r3 : Int32).toNatClampNeg) = r8 then post 1 M6 t7 else post 0 M6 t7)) M1 t2 (M1 98 (v1 : Int32).toNatClampNeg))))) M tl 0 v1
set_option maxHeartbeats 4000000 in
set_option maxRecDepth 20000 in
theorem ctX11_isEven {E : EV} {ad : Nat → Nat} {M : MM} {tl : Int64} {Φ : Option Value → va_W → Prop} {post : Int32 → MM → Int64 → Prop} {v1 : Int32} (h : wpX11_isEven post M tl v1) (hp : ∀ r M tl, post r M tl → Φ (some (.int r)) (WM E ad M tl)) : Tm E kX11_isEven (WM E ad M tl) [.ref (ad (81)), .int v1] Φ := by
  unfold wpX11_isEven at h
  show T E kX11_isEven 0 0 (WM E ad M tl) 0 [(0, .ref (ad (81))), (1, .int v1)] [] Φ
  refine tj_aload_n rfl dX11_isEven_0 rfl ?_
  refine tj_iconst (v := 0) rfl dX11_isEven_1 (by decide) ?_
  refine tj_iload_n rfl dX11_isEven_2 rfl ?_
  refine cf_V11 (a := 81) (z := kX11_matchOf) (As := [_, _]) rfl rfl dX11_isEven_3 rfl ml_X11_289 okX11_matchOf rfl (rm_ok rfl) (Nat.le_of_ble_eq_true rfl) (Nat.le_of_ble_eq_true rfl) rfl rfl ?_
  refine ctX11_matchOf h (fun r3 M1 t2 h => ?_)
  refine tj_istore_n (l' := [(0, _), (1, _), (2, _)]) rfl dX11_isEven_6 (by decide) rfl ?_
  refine tj_iload_n rfl dX11_isEven_7 rfl ?_
  refine tj_bipush (v := -4) rfl dX11_isEven_8 (by decide) ?_
  refine tj_icmp_eq (tgt := 35) rfl rfl dX11_isEven_10 (fun hc => ?_) (fun hc => ?_)
  · rw [if_pos hc] at h
    refine tj_iconst (v := 1) rfl dX11_isEven_35 (by decide) ?_
    refine tj_goto (tgt := 40) rfl dX11_isEven_36 ?_
    exact tj_ireturn (ty := .boolean) dX11_isEven_40 rfl rfl (Nat.zero_le _) (Nat.zero_le _) (hp _ _ _ h)
  · rw [if_neg hc] at h
    refine tj_aload_n rfl dX11_isEven_13 rfl ?_
    refine gf11_now (a := 81) rfl rfl dX11_isEven_14 fl_X11_59 ?_
    refine tj_bipush (v := 8) rfl dX11_isEven_17 (by decide) ?_
    refine tj_iload_n rfl dX11_isEven_19 rfl ?_
    refine tj_iadd rfl dX11_isEven_20 ?_
    obtain ⟨hi4, h⟩ := h
    refine af_iald (a := 98) rfl rfl dX11_isEven_21 hi4 ?_
    refine tj_aload_n rfl dX11_isEven_22 rfl ?_
    refine tj_aload_n rfl dX11_isEven_23 rfl ?_
    refine gf11_now (a := 81) rfl rfl dX11_isEven_24 fl_X11_59 ?_
    refine tj_iload_n rfl dX11_isEven_27 rfl ?_
    obtain ⟨hi5, h⟩ := h
    refine af_iald (a := 98) rfl rfl dX11_isEven_28 hi5 ?_
    refine cf_V11 (a := 81) (z := kX11_mirrorOf) (As := [_]) rfl rfl dX11_isEven_29 rfl ml_X11_276 okX11_mirrorOf rfl (rm_ok rfl) (Nat.le_of_ble_eq_true rfl) (Nat.le_of_ble_eq_true rfl) rfl rfl ?_
    refine ctX11_mirrorOf h (fun r8 M6 t7 h => ?_)
    refine tj_icmp_ne (tgt := 39) rfl rfl dX11_isEven_32 (fun hc => ?_) (fun hc => ?_)
    · rw [if_neg hc] at h
      refine tj_iconst (v := 0) rfl dX11_isEven_39 (by decide) ?_
      exact tj_ireturn (ty := .boolean) dX11_isEven_40 rfl rfl (Nat.zero_le _) (Nat.zero_le _) (hp _ _ _ h)
    · rw [if_pos hc] at h
      refine tj_iconst (v := 1) rfl dX11_isEven_35 (by decide) ?_
      refine tj_goto (tgt := 40) rfl dX11_isEven_36 ?_
      exact tj_ireturn (ty := .boolean) dX11_isEven_40 rfl rfl (Nat.zero_le _) (Nat.zero_le _) (hp _ _ _ h)
def wX11_oddLots_26 (post : Int32 → MM → Int64 → Prop) (bk4 : MM → Int64 → Int32 → Int32 → Prop) (M : MM) (tl : Int64) (v2 : Int32) (s0 : Int32) (s1 : Int32) : Prop :=
  wpX11_flag (fun r3 M1 t2 => bk4 M1 t2 (s0 ||| (r3 <<< (v2 &&& 31))) (v2 + 1)) M tl s1
set_option maxHeartbeats 4000000 in
set_option maxRecDepth 20000 in
theorem bX11_oddLots_26 {E : EV} {ad : Nat → Nat} {M : MM} {tl : Int64} {Φ : Option Value → va_W → Prop} {post : Int32 → MM → Int64 → Prop} {bk4 : MM → Int64 → Int32 → Int32 → Prop} {v2 : Int32} {s0 : Int32} {s1 : Int32} (hp : ∀ r M tl, post r M tl → Φ (some (.int r)) (WM E ad M tl)) (hb4 : ∀ (M : MM) (tl : Int64) (v1 : Int32) (v2 : Int32), bk4 M tl v1 v2 → T E kX11_oddLots 0 0 (WM E ad M tl) 4 [(0, .ref (ad (81))), (1, .int v1), (2, .int v2)] [] Φ) (h : wX11_oddLots_26 post bk4 M tl v2 s0 s1) : T E kX11_oddLots 0 0 (WM E ad M tl) 26 [(0, .ref (ad (81))), (2, .int v2)] [.int s1, .int s0] Φ := by
  unfold wX11_oddLots_26 at h
  refine cf_S (z := kX11_flag) (As := [_]) rfl dX11_oddLots_26 rfl ml_X11_265 okX11_flag rfl (rm_ok rfl) (Nat.le_of_ble_eq_true rfl) (Nat.le_of_ble_eq_true rfl) rfl ?_
  refine ctX11_flag h (fun r3 M1 t2 h => ?_)
  refine tj_iload_n rfl dX11_oddLots_29 rfl ?_
  refine tj_ishl rfl dX11_oddLots_30 ?_
  refine tj_ior rfl dX11_oddLots_31 ?_
  refine tj_istore_n (l' := [(0, _), (1, _), (2, _)]) rfl dX11_oddLots_32 (by decide) rfl ?_
  refine tj_iinc (v := _ + 1) (l' := [(0, _), (1, _), (2, _)]) rfl dX11_oddLots_33 rfl (by decide) rfl rfl ?_
  refine tj_goto (tgt := 4) rfl dX11_oddLots_36 ?_
  exact hb4 _ _ _ _ h
def wX11_oddLots_4 (post : Int32 → MM → Int64 → Prop) : Nat → MM → Int64 → Int32 → Int32 → Prop
  | 0, _, _, _, _ => False
  | n + 1, M, tl, v1, v2 =>
    (if (M 81 2) ≤ v2 then post v1 M tl else wpX11_isEven (fun r3 M1 t2 => (if r3 = 0 then wX11_oddLots_26 post (wX11_oddLots_4 post n) M1 t2 v2 v1 1 else wX11_oddLots_26 post (wX11_oddLots_4 post n) M1 t2 v2 v1 0)) M tl v2)
set_option maxHeartbeats 4000000 in
set_option maxRecDepth 20000 in
theorem bX11_oddLots_4 {E : EV} {ad : Nat → Nat} {Φ : Option Value → va_W → Prop} {post : Int32 → MM → Int64 → Prop}  (hp : ∀ r M tl, post r M tl → Φ (some (.int r)) (WM E ad M tl)) : ∀ (n : Nat) (M : MM) (tl : Int64) (v1 : Int32) (v2 : Int32), wX11_oddLots_4 post n M tl v1 v2 → T E kX11_oddLots 0 0 (WM E ad M tl) 4 [(0, .ref (ad (81))), (1, .int v1), (2, .int v2)] [] Φ := by
  intro n
  induction n with
  | zero => intro M tl v1 v2 h; exact False.elim h
  | succ n ih =>
    intro M tl v1 v2 h
    unfold wX11_oddLots_4 at h
    refine tj_iload_n rfl dX11_oddLots_4 rfl ?_
    refine tj_aload_n rfl dX11_oddLots_5 rfl ?_
    refine gf11_lots (a := 81) rfl rfl dX11_oddLots_6 fl_X11_129 ?_
    refine tj_icmp_ge (tgt := 39) rfl rfl dX11_oddLots_9 (fun hc => ?_) (fun hc => ?_)
    · rw [if_pos hc] at h
      refine tj_iload_n rfl dX11_oddLots_39 rfl ?_
      exact tj_ireturn (ty := .int) dX11_oddLots_40 rfl rfl (Nat.zero_le _) (Nat.zero_le _) (hp _ _ _ h)
    · rw [if_neg hc] at h
      refine tj_iload_n rfl dX11_oddLots_12 rfl ?_
      refine tj_aload_n rfl dX11_oddLots_13 rfl ?_
      refine tj_iload_n rfl dX11_oddLots_14 rfl ?_
      refine cf_V11 (a := 81) (z := kX11_isEven) (As := [_]) rfl rfl dX11_oddLots_15 rfl ml_X11_292 okX11_isEven rfl (rm_ok rfl) (Nat.le_of_ble_eq_true rfl) (Nat.le_of_ble_eq_true rfl) rfl rfl ?_
      refine ctX11_isEven h (fun r3 M1 t2 h => ?_)
      refine tj_if_ne (tgt := 25) rfl rfl dX11_oddLots_18 (fun hc => ?_) (fun hc => ?_)
      · rw [if_neg hc] at h
        refine tj_iconst (v := 0) rfl dX11_oddLots_25 (by decide) ?_
        exact tj_pick (l' := [(0, _), (2, _)]) [0, 2] rfl (bX11_oddLots_26 hp ih h)
      · rw [if_pos hc] at h
        refine tj_iconst (v := 1) rfl dX11_oddLots_21 (by decide) ?_
        refine tj_goto (tgt := 26) rfl dX11_oddLots_22 ?_
        exact tj_pick (l' := [(0, _), (2, _)]) [0, 2] rfl (bX11_oddLots_26 hp ih h)
def wpX11_oddLots (post : Int32 → MM → Int64 → Prop) (M : MM) (tl : Int64) : Prop :=
  (∃ n9, wX11_oddLots_4 post  n9 M tl 0 0)
set_option maxHeartbeats 4000000 in
set_option maxRecDepth 20000 in
theorem ctX11_oddLots {E : EV} {ad : Nat → Nat} {M : MM} {tl : Int64} {Φ : Option Value → va_W → Prop} {post : Int32 → MM → Int64 → Prop} (h : wpX11_oddLots post M tl ) (hp : ∀ r M tl, post r M tl → Φ (some (.int r)) (WM E ad M tl)) : Tm E kX11_oddLots (WM E ad M tl) [.ref (ad (81))] Φ := by
  unfold wpX11_oddLots at h
  show T E kX11_oddLots 0 0 (WM E ad M tl) 0 [(0, .ref (ad (81)))] [] Φ
  refine tj_iconst (v := 0) rfl dX11_oddLots_0 (by decide) ?_
  refine tj_istore_n (l' := [(0, _), (1, _)]) rfl dX11_oddLots_1 (by decide) rfl ?_
  refine tj_iconst (v := 0) rfl dX11_oddLots_2 (by decide) ?_
  refine tj_istore_n (l' := [(0, _), (1, _), (2, _)]) rfl dX11_oddLots_3 (by decide) rfl ?_
  obtain ⟨n9, h⟩ := h
  exact bX11_oddLots_4 hp  n9 _ _ _ _ h
def wpX11_odd (post : Int32 → MM → Int64 → Prop) (M : MM) (tl : Int64) : Prop :=
  wpX11_asNow (fun M1 t2 => wpX11_oddLots (fun r5 M3 t4 => post r5 M3 t4) M1 t2 ) M tl 
set_option maxHeartbeats 4000000 in
set_option maxRecDepth 20000 in
theorem ctX11_odd {E : EV} {ad : Nat → Nat} {M : MM} {tl : Int64} {Φ : Option Value → va_W → Prop} {post : Int32 → MM → Int64 → Prop} (h : wpX11_odd post M tl ) (hp : ∀ r M tl, post r M tl → Φ (some (.int r)) (WM E ad M tl)) : Tm E kX11_odd (WM E ad M tl) [.ref (ad (81))] Φ := by
  unfold wpX11_odd at h
  show T E kX11_odd 0 0 (WM E ad M tl) 0 [(0, .ref (ad (81)))] [] Φ
  refine tj_aload_n rfl dX11_odd_0 rfl ?_
  refine cf_V11 (a := 81) (z := kX11_asNow) (As := []) rfl rfl dX11_odd_1 rfl ml_X11_295 okX11_asNow rfl (rm_ok rfl) (Nat.le_of_ble_eq_true rfl) (Nat.le_of_ble_eq_true rfl) rfl rfl ?_
  refine ctX11_asNow h (fun M1 t2 h => ?_)
  refine tj_aload_n rfl dX11_odd_4 rfl ?_
  refine cf_V11 (a := 81) (z := kX11_oddLots) (As := []) rfl rfl dX11_odd_5 rfl ml_X11_298 okX11_oddLots rfl (rm_ok rfl) (Nat.le_of_ble_eq_true rfl) (Nat.le_of_ble_eq_true rfl) rfl rfl ?_
  refine ctX11_oddLots h (fun r5 M3 t4 h => ?_)
  exact tj_ireturn (ty := .int) dX11_odd_8 rfl rfl (Nat.zero_le _) (Nat.zero_le _) (hp _ _ _ h)
def wpX11_third (post : Int32 → MM → Int64 → Prop) (M : MM) (tl : Int64) (v1 : Int32) : Prop :=
  wpX11_isLot (fun r3 M1 t2 => (if r3 = 0 then post (-1) M1 t2 else wpX11_matchOf (fun r6 M4 t5 => (if r6 = (-4) then post (-4) M4 t5 else (vp_in ((8 : Int32) + r6) (al 82) ∧ wpX11_mirrorOf (fun r10 M8 t9 => post r10 M8 t9) M4 t5 (M4 82 ((8 : Int32) + r6 : Int32).toNatClampNeg)))) M1 t2 0 v1)) M tl 0 v1
set_option maxHeartbeats 4000000 in
set_option maxRecDepth 20000 in
theorem ctX11_third {E : EV} {ad : Nat → Nat} {M : MM} {tl : Int64} {Φ : Option Value → va_W → Prop} {post : Int32 → MM → Int64 → Prop} {v1 : Int32} (h : wpX11_third post M tl v1) (hp : ∀ r M tl, post r M tl → Φ (some (.int r)) (WM E ad M tl)) : Tm E kX11_third (WM E ad M tl) [.ref (ad (81)), .int v1] Φ := by
  unfold wpX11_third at h
  show T E kX11_third 0 0 (WM E ad M tl) 0 [(0, .ref (ad (81))), (1, .int v1)] [] Φ
  refine tj_aload_n rfl dX11_third_0 rfl ?_
  refine tj_iconst (v := 0) rfl dX11_third_1 (by decide) ?_
  refine tj_iload_n rfl dX11_third_2 rfl ?_
  refine cf_V11 (a := 81) (z := kX11_isLot) (As := [_, _]) rfl rfl dX11_third_3 rfl ml_X11_282 okX11_isLot rfl (rm_ok rfl) (Nat.le_of_ble_eq_true rfl) (Nat.le_of_ble_eq_true rfl) rfl rfl ?_
  refine ctX11_isLot h (fun r3 M1 t2 h => ?_)
  refine tj_if_ne (tgt := 11) rfl rfl dX11_third_6 (fun hc => ?_) (fun hc => ?_)
  · rw [if_neg hc] at h
    refine tj_aload_n rfl dX11_third_11 rfl ?_
    refine tj_iconst (v := 0) rfl dX11_third_12 (by decide) ?_
    refine tj_iload_n rfl dX11_third_13 rfl ?_
    refine cf_V11 (a := 81) (z := kX11_matchOf) (As := [_, _]) rfl rfl dX11_third_14 rfl ml_X11_289 okX11_matchOf rfl (rm_ok rfl) (Nat.le_of_ble_eq_true rfl) (Nat.le_of_ble_eq_true rfl) rfl rfl ?_
    refine ctX11_matchOf h (fun r6 M4 t5 h => ?_)
    refine tj_istore_n (l' := [(0, _), (1, _), (2, _)]) rfl dX11_third_17 (by decide) rfl ?_
    refine tj_iload_n rfl dX11_third_18 rfl ?_
    refine tj_bipush (v := -4) rfl dX11_third_19 (by decide) ?_
    refine tj_icmp_ne (tgt := 29) rfl rfl dX11_third_21 (fun hc => ?_) (fun hc => ?_)
    · rw [if_neg hc] at h
      refine tj_aload_n rfl dX11_third_29 rfl ?_
      refine tj_aload_n rfl dX11_third_30 rfl ?_
      refine gf11_st (a := 81) rfl rfl dX11_third_31 fl_X11_7 ?_
      refine tj_bipush (v := 8) rfl dX11_third_34 (by decide) ?_
      refine tj_iload_n rfl dX11_third_36 rfl ?_
      refine tj_iadd rfl dX11_third_37 ?_
      obtain ⟨hi7, h⟩ := h
      refine af_iald (a := 82) rfl rfl dX11_third_38 hi7 ?_
      refine cf_V11 (a := 81) (z := kX11_mirrorOf) (As := [_]) rfl rfl dX11_third_39 rfl ml_X11_276 okX11_mirrorOf rfl (rm_ok rfl) (Nat.le_of_ble_eq_true rfl) (Nat.le_of_ble_eq_true rfl) rfl rfl ?_
      refine ctX11_mirrorOf h (fun r10 M8 t9 h => ?_)
      exact tj_ireturn (ty := .int) dX11_third_42 rfl rfl (Nat.zero_le _) (Nat.zero_le _) (hp _ _ _ h)
    · rw [if_pos hc] at h
      refine tj_bipush (v := -4) rfl dX11_third_24 (by decide) ?_
      refine tj_goto (tgt := 42) rfl dX11_third_26 ?_
      exact tj_ireturn (ty := .int) dX11_third_42 rfl rfl (Nat.zero_le _) (Nat.zero_le _) (hp _ _ _ h)
  · rw [if_pos hc] at h
    refine tj_iconst (v := -1) rfl dX11_third_9 (by decide) ?_
    exact tj_ireturn (ty := .int) dX11_third_10 rfl rfl (Nat.zero_le _) (Nat.zero_le _) (hp _ _ _ h)
def wX11_startRun_6 (post : MM → Int64 → Prop) : Nat → MM → Int64 → Int32 → Prop
  | 0, _, _, _ => False
  | n + 1, M, tl, v1 =>
    (if 8 ≤ v1 then (vp_in 0 (al 102) ∧ (∀ M2 : MM, M2 = mset M 102 (0 : Int32).toNatClampNeg 0 → (vp_in 1 (al 102) ∧ (∀ M4 : MM, M4 = mset M2 102 (1 : Int32).toNatClampNeg 0 → post M4 tl)))) else (vp_in v1 (al 99) ∧ (∀ M6 : MM, M6 = mset M 99 (v1 : Int32).toNatClampNeg (-4) → (vp_in v1 (al 101) ∧ (∀ M8 : MM, M8 = mset M6 101 (v1 : Int32).toNatClampNeg (vp_nar .boolean 0) → (wX11_startRun_6 post n) M8 tl (v1 + 1))))))
set_option maxHeartbeats 4000000 in
set_option maxRecDepth 20000 in
theorem bX11_startRun_6 {E : EV} {ad : Nat → Nat} {Φ : Option Value → va_W → Prop} {post : MM → Int64 → Prop}  (hp : ∀ M tl, post M tl → Φ none (WM E ad M tl)) : ∀ (n : Nat) (M : MM) (tl : Int64) (v1 : Int32), wX11_startRun_6 post n M tl v1 → T E kX11_startRun 0 0 (WM E ad M tl) 6 [(0, .ref (ad (81))), (1, .int v1)] [] Φ := by
  intro n
  induction n with
  | zero => intro M tl v1 h; exact False.elim h
  | succ n ih =>
    intro M tl v1 h
    unfold wX11_startRun_6 at h
    refine tj_iload_n rfl dX11_startRun_6 rfl ?_
    refine tj_bipush (v := 8) rfl dX11_startRun_7 (by decide) ?_
    refine tj_icmp_ge (tgt := 33) rfl rfl dX11_startRun_9 (fun hc => ?_) (fun hc => ?_)
    · rw [if_pos hc] at h
      refine tj_aload_n rfl dX11_startRun_33 rfl ?_
      refine gf11_paidBy (a := 81) rfl rfl dX11_startRun_34 fl_X11_71 ?_
      refine tj_iconst (v := 0) rfl dX11_startRun_37 (by decide) ?_
      refine tj_iconst (v := 0) rfl dX11_startRun_38 (by decide) ?_
      obtain ⟨hi1, h⟩ := h
      refine af_iast (a := 102) rfl rfl dX11_startRun_39 hi1 ?_
      replace h := h _ rfl
      generalize mset M 102 (0 : Int32).toNatClampNeg 0 = M2 at h ⊢
      refine tj_aload_n rfl dX11_startRun_40 rfl ?_
      refine gf11_paidBy (a := 81) rfl rfl dX11_startRun_41 fl_X11_71 ?_
      refine tj_iconst (v := 1) rfl dX11_startRun_44 (by decide) ?_
      refine tj_iconst (v := 0) rfl dX11_startRun_45 (by decide) ?_
      obtain ⟨hi3, h⟩ := h
      refine af_iast (a := 102) rfl rfl dX11_startRun_46 hi3 ?_
      replace h := h _ rfl
      generalize mset M2 102 (1 : Int32).toNatClampNeg 0 = M4 at h ⊢
      exact tj_return dX11_startRun_47 rfl (Nat.zero_le _) (Nat.zero_le _) (hp _ _ h)
    · rw [if_neg hc] at h
      refine tj_aload_n rfl dX11_startRun_12 rfl ?_
      refine gf11_latest (a := 81) rfl rfl dX11_startRun_13 fl_X11_62 ?_
      refine tj_iload_n rfl dX11_startRun_16 rfl ?_
      refine tj_bipush (v := -4) rfl dX11_startRun_17 (by decide) ?_
      obtain ⟨hi5, h⟩ := h
      refine af_iast (a := 99) rfl rfl dX11_startRun_19 hi5 ?_
      replace h := h _ rfl
      generalize mset M 99 (v1 : Int32).toNatClampNeg (-4) = M6 at h ⊢
      refine tj_aload_n rfl dX11_startRun_20 rfl ?_
      refine gf11_wasWorked (a := 81) rfl rfl dX11_startRun_21 fl_X11_68 ?_
      refine tj_iload_n rfl dX11_startRun_24 rfl ?_
      refine tj_iconst (v := 0) rfl dX11_startRun_25 (by decide) ?_
      obtain ⟨hi7, h⟩ := h
      refine af_zast (a := 101) rfl rfl dX11_startRun_26 hi7 ?_
      replace h := h _ rfl
      generalize mset M6 101 (v1 : Int32).toNatClampNeg (vp_nar .boolean 0) = M8 at h ⊢
      refine tj_iinc (v := _ + 1) (l' := [(0, _), (1, _)]) rfl dX11_startRun_27 rfl (by decide) rfl rfl ?_
      refine tj_goto (tgt := 6) rfl dX11_startRun_30 ?_
      exact ih _ _ _ h
def wpX11_startRun (post : MM → Int64 → Prop) (M : MM) (tl : Int64) : Prop :=
  wpX11_asNow (fun M1 t2 => (∃ n9, wX11_startRun_6 post  n9 M1 t2 0)) M tl 
set_option maxHeartbeats 4000000 in
set_option maxRecDepth 20000 in
theorem ctX11_startRun {E : EV} {ad : Nat → Nat} {M : MM} {tl : Int64} {Φ : Option Value → va_W → Prop} {post : MM → Int64 → Prop} (h : wpX11_startRun post M tl ) (hp : ∀ M tl, post M tl → Φ none (WM E ad M tl)) : Tm E kX11_startRun (WM E ad M tl) [.ref (ad (81))] Φ := by
  unfold wpX11_startRun at h
  show T E kX11_startRun 0 0 (WM E ad M tl) 0 [(0, .ref (ad (81)))] [] Φ
  refine tj_aload_n rfl dX11_startRun_0 rfl ?_
  refine cf_V11 (a := 81) (z := kX11_asNow) (As := []) rfl rfl dX11_startRun_1 rfl ml_X11_295 okX11_asNow rfl (rm_ok rfl) (Nat.le_of_ble_eq_true rfl) (Nat.le_of_ble_eq_true rfl) rfl rfl ?_
  refine ctX11_asNow h (fun M1 t2 h => ?_)
  refine tj_iconst (v := 0) rfl dX11_startRun_4 (by decide) ?_
  refine tj_istore_n (l' := [(0, _), (1, _)]) rfl dX11_startRun_5 (by decide) rfl ?_
  obtain ⟨n9, h⟩ := h
  exact bX11_startRun_6 hp  n9 _ _ _ h
def wX11_works_102 (post : MM → Int64 → Prop) (M : MM) (tl : Int64) (v1 : Int32) : Prop :=
  (vp_in v1 (al 103) ∧ (∀ M2 : MM, M2 = mset M 103 (v1 : Int32).toNatClampNeg 2 → post M2 tl))
set_option maxHeartbeats 4000000 in
set_option maxRecDepth 20000 in
theorem bX11_works_102 {E : EV} {ad : Nat → Nat} {M : MM} {tl : Int64} {Φ : Option Value → va_W → Prop} {post : MM → Int64 → Prop} {v1 : Int32} (hp : ∀ M tl, post M tl → Φ none (WM E ad M tl)) (h : wX11_works_102 post M tl v1) : T E kX11_works 0 0 (WM E ad M tl) 102 [(0, .ref (ad (81))), (1, .int v1)] [] Φ := by
  unfold wX11_works_102 at h
  refine tj_aload_n rfl dX11_works_102 rfl ?_
  refine gf11_fates (a := 81) rfl rfl dX11_works_103 fl_X11_74 ?_
  refine tj_iload_n rfl dX11_works_106 rfl ?_
  refine tj_iconst (v := 2) rfl dX11_works_107 (by decide) ?_
  obtain ⟨hi1, h⟩ := h
  refine af_iast (a := 103) rfl rfl dX11_works_108 hi1 ?_
  replace h := h _ rfl
  generalize mset M 103 (v1 : Int32).toNatClampNeg 2 = M2 at h ⊢
  refine tj_goto (tgt := 234) rfl dX11_works_109 ?_
  exact tj_return dX11_works_234 rfl (Nat.zero_le _) (Nat.zero_le _) (hp _ _ h)
def wX11_works_232 (post : MM → Int64 → Prop) (M : MM) (tl : Int64) (v2 : Int32) (s1 : Int32) : Prop :=
  (vp_in s1 (al 99) ∧ (∀ M2 : MM, M2 = mset M 99 (s1 : Int32).toNatClampNeg v2 → post M2 tl))
set_option maxHeartbeats 4000000 in
set_option maxRecDepth 20000 in
theorem bX11_works_232 {E : EV} {ad : Nat → Nat} {M : MM} {tl : Int64} {Φ : Option Value → va_W → Prop} {post : MM → Int64 → Prop} {v2 : Int32} {s1 : Int32} (hp : ∀ M tl, post M tl → Φ none (WM E ad M tl)) (h : wX11_works_232 post M tl v2 s1) : T E kX11_works 0 0 (WM E ad M tl) 232 [(2, .int v2)] [.int s1, .ref (ad (99))] Φ := by
  unfold wX11_works_232 at h
  refine tj_iload_n rfl dX11_works_232 rfl ?_
  obtain ⟨hi1, h⟩ := h
  refine af_iast (a := 99) rfl rfl dX11_works_233 hi1 ?_
  replace h := h _ rfl
  generalize mset M 99 (s1 : Int32).toNatClampNeg v2 = M2 at h ⊢
  exact tj_return dX11_works_234 rfl (Nat.zero_le _) (Nat.zero_le _) (hp _ _ h)
def wX11_works_155 (post : MM → Int64 → Prop) (M : MM) (tl : Int64) (v1 : Int32) (v2 : Int32) (v3 : Int32) (v4 : Int32) (v5 : Int32) : Prop :=
  (vp_in v1 (al 103) ∧ (∀ M2 : MM, M2 = mset M 103 (v1 : Int32).toNatClampNeg 0 → (vp_in v2 (al 102) ∧ (vp_in (((6 : Int32) * v2) + (v4 - v4 / 8 * 8)) (al 85) ∧ (vp_in v2 (al 102) ∧ (∀ M6 : MM, M6 = mset M2 102 (v2 : Int32).toNatClampNeg ((M2 102 (v2 : Int32).toNatClampNeg) + (M2 85 (((6 : Int32) * v2) + (v4 - v4 / 8 * 8) : Int32).toNatClampNeg)) → (vp_in (((8 : Int32) * v2) + v3) (al 98) ∧ (∀ M8 : MM, M8 = mset M6 98 (((8 : Int32) * v2) + v3 : Int32).toNatClampNeg v4 → (vp_in (((8 : Int32) * v2) + v3) (al 100) ∧ (∀ M10 : MM, M10 = mset M8 100 (((8 : Int32) * v2) + v3 : Int32).toNatClampNeg (vp_nar .boolean 1) → (if v5 = (-4) then post M10 tl else (if v2 = 0 then wX11_works_232 post  M10 tl v2 v3 else wX11_works_232 post  M10 tl v2 v5))))))))))))
set_option maxHeartbeats 4000000 in
set_option maxRecDepth 20000 in
theorem bX11_works_155 {E : EV} {ad : Nat → Nat} {M : MM} {tl : Int64} {Φ : Option Value → va_W → Prop} {post : MM → Int64 → Prop} {v1 : Int32} {v2 : Int32} {v3 : Int32} {v4 : Int32} {v5 : Int32} (hp : ∀ M tl, post M tl → Φ none (WM E ad M tl)) (h : wX11_works_155 post M tl v1 v2 v3 v4 v5) : T E kX11_works 0 0 (WM E ad M tl) 155 [(0, .ref (ad (81))), (1, .int v1), (2, .int v2), (3, .int v3), (4, .int v4), (5, .int v5)] [] Φ := by
  unfold wX11_works_155 at h
  refine tj_aload_n rfl dX11_works_155 rfl ?_
  refine gf11_fates (a := 81) rfl rfl dX11_works_156 fl_X11_74 ?_
  refine tj_iload_n rfl dX11_works_159 rfl ?_
  refine tj_iconst (v := 0) rfl dX11_works_160 (by decide) ?_
  obtain ⟨hi1, h⟩ := h
  refine af_iast (a := 103) rfl rfl dX11_works_161 hi1 ?_
  replace h := h _ rfl
  generalize mset M 103 (v1 : Int32).toNatClampNeg 0 = M2 at h ⊢
  refine tj_aload_n rfl dX11_works_162 rfl ?_
  refine gf11_paidBy (a := 81) rfl rfl dX11_works_163 fl_X11_71 ?_
  refine tj_iload_n rfl dX11_works_166 rfl ?_
  refine tj_dup2 rfl dX11_works_167 rfl rfl ?_
  obtain ⟨hi3, h⟩ := h
  refine af_iald (a := 102) rfl rfl dX11_works_168 hi3 ?_
  refine tj_aload_n rfl dX11_works_169 rfl ?_
  refine gf11_cost (a := 81) rfl rfl dX11_works_170 fl_X11_20 ?_
  refine tj_bipush (v := 6) rfl dX11_works_173 (by decide) ?_
  refine tj_iload_n rfl dX11_works_175 rfl ?_
  refine tj_imul rfl dX11_works_176 ?_
  refine tj_iload rfl dX11_works_177 rfl ?_
  refine tj_bipush (v := 8) rfl dX11_works_179 (by decide) ?_
  refine tj_irem rfl dX11_works_181 (by decide) ?_
  refine tj_iadd rfl dX11_works_182 ?_
  obtain ⟨hi4, h⟩ := h
  refine af_iald (a := 85) rfl rfl dX11_works_183 hi4 ?_
  refine tj_iadd rfl dX11_works_184 ?_
  obtain ⟨hi5, h⟩ := h
  refine af_iast (a := 102) rfl rfl dX11_works_185 hi5 ?_
  replace h := h _ rfl
  generalize mset M2 102 (v2 : Int32).toNatClampNeg ((M2 102 (v2 : Int32).toNatClampNeg) + (M2 85 (((6 : Int32) * v2) + (v4 - v4 / 8 * 8) : Int32).toNatClampNeg)) = M6 at h ⊢
  refine tj_aload_n rfl dX11_works_186 rfl ?_
  refine gf11_now (a := 81) rfl rfl dX11_works_187 fl_X11_59 ?_
  refine tj_bipush (v := 8) rfl dX11_works_190 (by decide) ?_
  refine tj_iload_n rfl dX11_works_192 rfl ?_
  refine tj_imul rfl dX11_works_193 ?_
  refine tj_iload_n rfl dX11_works_194 rfl ?_
  refine tj_iadd rfl dX11_works_195 ?_
  refine tj_iload rfl dX11_works_196 rfl ?_
  obtain ⟨hi7, h⟩ := h
  refine af_iast (a := 98) rfl rfl dX11_works_198 hi7 ?_
  replace h := h _ rfl
  generalize mset M6 98 (((8 : Int32) * v2) + v3 : Int32).toNatClampNeg v4 = M8 at h ⊢
  refine tj_aload_n rfl dX11_works_199 rfl ?_
  refine gf11_nowWorked (a := 81) rfl rfl dX11_works_200 fl_X11_65 ?_
  refine tj_bipush (v := 8) rfl dX11_works_203 (by decide) ?_
  refine tj_iload_n rfl dX11_works_205 rfl ?_
  refine tj_imul rfl dX11_works_206 ?_
  refine tj_iload_n rfl dX11_works_207 rfl ?_
  refine tj_iadd rfl dX11_works_208 ?_
  refine tj_iconst (v := 1) rfl dX11_works_209 (by decide) ?_
  obtain ⟨hi9, h⟩ := h
  refine af_zast (a := 100) rfl rfl dX11_works_210 hi9 ?_
  replace h := h _ rfl
  generalize mset M8 100 (((8 : Int32) * v2) + v3 : Int32).toNatClampNeg (vp_nar .boolean 1) = M10 at h ⊢
  refine tj_iload rfl dX11_works_211 rfl ?_
  refine tj_bipush (v := -4) rfl dX11_works_213 (by decide) ?_
  refine tj_icmp_eq (tgt := 234) rfl rfl dX11_works_215 (fun hc => ?_) (fun hc => ?_)
  · rw [if_pos hc] at h
    exact tj_return dX11_works_234 rfl (Nat.zero_le _) (Nat.zero_le _) (hp _ _ h)
  · rw [if_neg hc] at h
    refine tj_aload_n rfl dX11_works_218 rfl ?_
    refine gf11_latest (a := 81) rfl rfl dX11_works_219 fl_X11_62 ?_
    refine tj_iload_n rfl dX11_works_222 rfl ?_
    refine tj_if_ne (tgt := 230) rfl rfl dX11_works_223 (fun hc => ?_) (fun hc => ?_)
    · rw [if_neg hc] at h
      refine tj_iload rfl dX11_works_230 rfl ?_
      exact tj_pick (l' := [(2, _)]) [2] rfl (bX11_works_232 hp  h)
    · rw [if_pos hc] at h
      refine tj_iload_n rfl dX11_works_226 rfl ?_
      refine tj_goto (tgt := 232) rfl dX11_works_227 ?_
      exact tj_pick (l' := [(2, _)]) [2] rfl (bX11_works_232 hp  h)
def wX11_works_112 (post : MM → Int64 → Prop) (M : MM) (tl : Int64) (v1 : Int32) (v2 : Int32) (v3 : Int32) (v4 : Int32) (v5 : Int32) (v6 : Int32) : Prop :=
  (if v5 = (-4) then wX11_works_155 post  M tl v1 v2 v3 v4 v5 else (vp_in v6 (al 100) ∧ (if (M 100 (v6 : Int32).toNatClampNeg) = 0 then wX11_works_155 post  M tl v1 v2 v3 v4 v5 else (vp_in v6 (al 98) ∧ wpX11_mirrorOf (fun r5 M3 t4 => (if (M 98 (v6 : Int32).toNatClampNeg) = r5 then wX11_works_155 post  M3 t4 v1 v2 v3 v4 v5 else (vp_in v1 (al 103) ∧ (∀ M7 : MM, M7 = mset M3 103 (v1 : Int32).toNatClampNeg 1 → post M7 t4)))) M tl v4))))
set_option maxHeartbeats 4000000 in
set_option maxRecDepth 20000 in
theorem bX11_works_112 {E : EV} {ad : Nat → Nat} {M : MM} {tl : Int64} {Φ : Option Value → va_W → Prop} {post : MM → Int64 → Prop} {v1 : Int32} {v2 : Int32} {v3 : Int32} {v4 : Int32} {v5 : Int32} {v6 : Int32} (hp : ∀ M tl, post M tl → Φ none (WM E ad M tl)) (h : wX11_works_112 post M tl v1 v2 v3 v4 v5 v6) : T E kX11_works 0 0 (WM E ad M tl) 112 [(0, .ref (ad (81))), (1, .int v1), (2, .int v2), (3, .int v3), (4, .int v4), (5, .int v5), (6, .int v6)] [] Φ := by
  unfold wX11_works_112 at h
  refine tj_iload rfl dX11_works_112 rfl ?_
  refine tj_bipush (v := -4) rfl dX11_works_114 (by decide) ?_
  refine tj_icmp_eq (tgt := 155) rfl rfl dX11_works_116 (fun hc => ?_) (fun hc => ?_)
  · rw [if_pos hc] at h
    exact tj_pick (l' := [(0, _), (1, _), (2, _), (3, _), (4, _), (5, _)]) [0, 1, 2, 3, 4, 5] rfl (bX11_works_155 hp  h)
  · rw [if_neg hc] at h
    refine tj_aload_n rfl dX11_works_119 rfl ?_
    refine gf11_nowWorked (a := 81) rfl rfl dX11_works_120 fl_X11_65 ?_
    refine tj_iload rfl dX11_works_123 rfl ?_
    obtain ⟨hi1, h⟩ := h
    refine af_zald (a := 100) rfl rfl dX11_works_125 hi1 ?_
    refine tj_if_eq (tgt := 155) rfl rfl dX11_works_126 (fun hc => ?_) (fun hc => ?_)
    · rw [if_pos hc] at h
      exact tj_pick (l' := [(0, _), (1, _), (2, _), (3, _), (4, _), (5, _)]) [0, 1, 2, 3, 4, 5] rfl (bX11_works_155 hp  h)
    · rw [if_neg hc] at h
      refine tj_aload_n rfl dX11_works_129 rfl ?_
      refine gf11_now (a := 81) rfl rfl dX11_works_130 fl_X11_59 ?_
      refine tj_iload rfl dX11_works_133 rfl ?_
      obtain ⟨hi2, h⟩ := h
      refine af_iald (a := 98) rfl rfl dX11_works_135 hi2 ?_
      refine tj_aload_n rfl dX11_works_136 rfl ?_
      refine tj_iload rfl dX11_works_137 rfl ?_
      refine cf_V11 (a := 81) (z := kX11_mirrorOf) (As := [_]) rfl rfl dX11_works_139 rfl ml_X11_276 okX11_mirrorOf rfl (rm_ok rfl) (Nat.le_of_ble_eq_true rfl) (Nat.le_of_ble_eq_true rfl) rfl rfl ?_
      refine ctX11_mirrorOf h (fun r5 M3 t4 h => ?_)
      refine tj_icmp_eq (tgt := 155) rfl rfl dX11_works_142 (fun hc => ?_) (fun hc => ?_)
      · rw [if_pos hc] at h
        exact tj_pick (l' := [(0, _), (1, _), (2, _), (3, _), (4, _), (5, _)]) [0, 1, 2, 3, 4, 5] rfl (bX11_works_155 hp  h)
      · rw [if_neg hc] at h
        refine tj_aload_n rfl dX11_works_145 rfl ?_
        refine gf11_fates (a := 81) rfl rfl dX11_works_146 fl_X11_74 ?_
        refine tj_iload_n rfl dX11_works_149 rfl ?_
        refine tj_iconst (v := 1) rfl dX11_works_150 (by decide) ?_
        obtain ⟨hi6, h⟩ := h
        refine af_iast (a := 103) rfl rfl dX11_works_151 hi6 ?_
        replace h := h _ rfl
        generalize mset M3 103 (v1 : Int32).toNatClampNeg 1 = M7 at h ⊢
        refine tj_goto (tgt := 234) rfl dX11_works_152 ?_
        exact tj_return dX11_works_234 rfl (Nat.zero_le _) (Nat.zero_le _) (hp _ _ h)
def wpX11_works (post : MM → Int64 → Prop) (M : MM) (tl : Int64) (v1 : Int32) : Prop :=
  (vp_in (((17 : Int32) + ((4 : Int32) * v1)) + 1) (al 82) ∧ (vp_in (((17 : Int32) + ((4 : Int32) * v1)) + 2) (al 82) ∧ (vp_in (((17 : Int32) + ((4 : Int32) * v1)) + 3) (al 82) ∧ wpX11_matchOf (fun r6 M4 t5 => wpX11_doesLack (fun r9 M7 t8 => (if r9 = 0 then (if r6 = (-4) then wX11_works_112 post  M7 t8 v1 (M 82 (((17 : Int32) + ((4 : Int32) * v1)) + 1 : Int32).toNatClampNeg) (M 82 (((17 : Int32) + ((4 : Int32) * v1)) + 2 : Int32).toNatClampNeg) (M 82 (((17 : Int32) + ((4 : Int32) * v1)) + 3 : Int32).toNatClampNeg) r6 (((8 : Int32) * ((1 : Int32) - (M 82 (((17 : Int32) + ((4 : Int32) * v1)) + 1 : Int32).toNatClampNeg))) + r6) else (vp_in ((M 82 (((17 : Int32) + ((4 : Int32) * v1)) + 3 : Int32).toNatClampNeg) - (M 82 (((17 : Int32) + ((4 : Int32) * v1)) + 3 : Int32).toNatClampNeg) / 8 * 8) (al 88) ∧ wpX11_doesLack (fun r13 M11 t12 => (if r13 = 0 then wX11_works_112 post  M11 t12 v1 (M 82 (((17 : Int32) + ((4 : Int32) * v1)) + 1 : Int32).toNatClampNeg) (M 82 (((17 : Int32) + ((4 : Int32) * v1)) + 2 : Int32).toNatClampNeg) (M 82 (((17 : Int32) + ((4 : Int32) * v1)) + 3 : Int32).toNatClampNeg) r6 (((8 : Int32) * ((1 : Int32) - (M 82 (((17 : Int32) + ((4 : Int32) * v1)) + 1 : Int32).toNatClampNeg))) + r6) else wX11_works_102 post  M11 t12 v1)) M7 t8 ((1 : Int32) - (M 82 (((17 : Int32) + ((4 : Int32) * v1)) + 1 : Int32).toNatClampNeg)) (M7 88 ((M 82 (((17 : Int32) + ((4 : Int32) * v1)) + 3 : Int32).toNatClampNeg) - (M 82 (((17 : Int32) + ((4 : Int32) * v1)) + 3 : Int32).toNatClampNeg) / 8 * 8 : Int32).toNatClampNeg))) else wX11_works_102 post  M7 t8 v1)) M4 t5 (M 82 (((17 : Int32) + ((4 : Int32) * v1)) + 1 : Int32).toNatClampNeg) ((M 82 (((17 : Int32) + ((4 : Int32) * v1)) + 3 : Int32).toNatClampNeg) - (M 82 (((17 : Int32) + ((4 : Int32) * v1)) + 3 : Int32).toNatClampNeg) / 8 * 8)) M tl (M 82 (((17 : Int32) + ((4 : Int32) * v1)) + 1 : Int32).toNatClampNeg) (M 82 (((17 : Int32) + ((4 : Int32) * v1)) + 2 : Int32).toNatClampNeg))))
set_option maxHeartbeats 4000000 in
set_option maxRecDepth 20000 in
theorem ctX11_works {E : EV} {ad : Nat → Nat} {M : MM} {tl : Int64} {Φ : Option Value → va_W → Prop} {post : MM → Int64 → Prop} {v1 : Int32} (h : wpX11_works post M tl v1) (hp : ∀ M tl, post M tl → Φ none (WM E ad M tl)) : Tm E kX11_works (WM E ad M tl) [.ref (ad (81)), .int v1] Φ := by
  unfold wpX11_works at h
  show T E kX11_works 0 0 (WM E ad M tl) 0 [(0, .ref (ad (81))), (1, .int v1)] [] Φ
  refine tj_aload_n rfl dX11_works_0 rfl ?_
  refine gf11_st (a := 81) rfl rfl dX11_works_1 fl_X11_7 ?_
  refine tj_bipush (v := 17) rfl dX11_works_4 (by decide) ?_
  refine tj_iconst (v := 4) rfl dX11_works_6 (by decide) ?_
  refine tj_iload_n rfl dX11_works_7 rfl ?_
  refine tj_imul rfl dX11_works_8 ?_
  refine tj_iadd rfl dX11_works_9 ?_
  refine tj_iconst (v := 1) rfl dX11_works_10 (by decide) ?_
  refine tj_iadd rfl dX11_works_11 ?_
  obtain ⟨hi1, h⟩ := h
  refine af_iald (a := 82) rfl rfl dX11_works_12 hi1 ?_
  refine tj_istore_n (l' := [(0, _), (1, _), (2, _)]) rfl dX11_works_13 (by decide) rfl ?_
  refine tj_aload_n rfl dX11_works_14 rfl ?_
  refine gf11_st (a := 81) rfl rfl dX11_works_15 fl_X11_7 ?_
  refine tj_bipush (v := 17) rfl dX11_works_18 (by decide) ?_
  refine tj_iconst (v := 4) rfl dX11_works_20 (by decide) ?_
  refine tj_iload_n rfl dX11_works_21 rfl ?_
  refine tj_imul rfl dX11_works_22 ?_
  refine tj_iadd rfl dX11_works_23 ?_
  refine tj_iconst (v := 2) rfl dX11_works_24 (by decide) ?_
  refine tj_iadd rfl dX11_works_25 ?_
  obtain ⟨hi2, h⟩ := h
  refine af_iald (a := 82) rfl rfl dX11_works_26 hi2 ?_
  refine tj_istore_n (l' := [(0, _), (1, _), (2, _), (3, _)]) rfl dX11_works_27 (by decide) rfl ?_
  refine tj_aload_n rfl dX11_works_28 rfl ?_
  refine gf11_st (a := 81) rfl rfl dX11_works_29 fl_X11_7 ?_
  refine tj_bipush (v := 17) rfl dX11_works_32 (by decide) ?_
  refine tj_iconst (v := 4) rfl dX11_works_34 (by decide) ?_
  refine tj_iload_n rfl dX11_works_35 rfl ?_
  refine tj_imul rfl dX11_works_36 ?_
  refine tj_iadd rfl dX11_works_37 ?_
  refine tj_iconst (v := 3) rfl dX11_works_38 (by decide) ?_
  refine tj_iadd rfl dX11_works_39 ?_
  obtain ⟨hi3, h⟩ := h
  refine af_iald (a := 82) rfl rfl dX11_works_40 hi3 ?_
  refine tj_istore (l' := [(0, _), (1, _), (2, _), (3, _), (4, _)]) rfl dX11_works_41 (by decide) rfl ?_
  refine tj_aload_n rfl dX11_works_43 rfl ?_
  refine tj_iload_n rfl dX11_works_44 rfl ?_
  refine tj_iload_n rfl dX11_works_45 rfl ?_
  refine cf_V11 (a := 81) (z := kX11_matchOf) (As := [_, _]) rfl rfl dX11_works_46 rfl ml_X11_289 okX11_matchOf rfl (rm_ok rfl) (Nat.le_of_ble_eq_true rfl) (Nat.le_of_ble_eq_true rfl) rfl rfl ?_
  refine ctX11_matchOf h (fun r6 M4 t5 h => ?_)
  refine tj_istore (l' := [(0, _), (1, _), (2, _), (3, _), (4, _), (5, _)]) rfl dX11_works_49 (by decide) rfl ?_
  refine tj_bipush (v := 8) rfl dX11_works_51 (by decide) ?_
  refine tj_iconst (v := 1) rfl dX11_works_53 (by decide) ?_
  refine tj_iload_n rfl dX11_works_54 rfl ?_
  refine tj_isub rfl dX11_works_55 ?_
  refine tj_imul rfl dX11_works_56 ?_
  refine tj_iload rfl dX11_works_57 rfl ?_
  refine tj_iadd rfl dX11_works_59 ?_
  refine tj_istore (l' := [(0, _), (1, _), (2, _), (3, _), (4, _), (5, _), (6, _)]) rfl dX11_works_60 (by decide) rfl ?_
  refine tj_aload_n rfl dX11_works_62 rfl ?_
  refine tj_iload_n rfl dX11_works_63 rfl ?_
  refine tj_iload rfl dX11_works_64 rfl ?_
  refine tj_bipush (v := 8) rfl dX11_works_66 (by decide) ?_
  refine tj_irem rfl dX11_works_68 (by decide) ?_
  refine cf_V11 (a := 81) (z := kX11_doesLack) (As := [_, _]) rfl rfl dX11_works_69 rfl ml_X11_261 okX11_doesLack rfl (rm_ok rfl) (Nat.le_of_ble_eq_true rfl) (Nat.le_of_ble_eq_true rfl) rfl rfl ?_
  refine ctX11_doesLack h (fun r9 M7 t8 h => ?_)
  refine tj_if_ne (tgt := 102) rfl rfl dX11_works_72 (fun hc => ?_) (fun hc => ?_)
  · rw [if_neg hc] at h
    exact tj_pick (l' := [(0, _), (1, _)]) [0, 1] rfl (bX11_works_102 hp  h)
  · rw [if_pos hc] at h
    refine tj_iload rfl dX11_works_75 rfl ?_
    refine tj_bipush (v := -4) rfl dX11_works_77 (by decide) ?_
    refine tj_icmp_eq (tgt := 112) rfl rfl dX11_works_79 (fun hc => ?_) (fun hc => ?_)
    · rw [if_pos hc] at h
      exact bX11_works_112 hp  h
    · rw [if_neg hc] at h
      refine tj_aload_n rfl dX11_works_82 rfl ?_
      refine tj_iconst (v := 1) rfl dX11_works_83 (by decide) ?_
      refine tj_iload_n rfl dX11_works_84 rfl ?_
      refine tj_isub rfl dX11_works_85 ?_
      refine tj_aload_n rfl dX11_works_86 rfl ?_
      refine gf11_twin (a := 81) rfl rfl dX11_works_87 fl_X11_29 ?_
      refine tj_iload rfl dX11_works_90 rfl ?_
      refine tj_bipush (v := 8) rfl dX11_works_92 (by decide) ?_
      refine tj_irem rfl dX11_works_94 (by decide) ?_
      obtain ⟨hi10, h⟩ := h
      refine af_iald (a := 88) rfl rfl dX11_works_95 hi10 ?_
      refine cf_V11 (a := 81) (z := kX11_doesLack) (As := [_, _]) rfl rfl dX11_works_96 rfl ml_X11_261 okX11_doesLack rfl (rm_ok rfl) (Nat.le_of_ble_eq_true rfl) (Nat.le_of_ble_eq_true rfl) rfl rfl ?_
      refine ctX11_doesLack h (fun r13 M11 t12 h => ?_)
      refine tj_if_eq (tgt := 112) rfl rfl dX11_works_99 (fun hc => ?_) (fun hc => ?_)
      · rw [if_pos hc] at h
        exact bX11_works_112 hp  h
      · rw [if_neg hc] at h
        exact tj_pick (l' := [(0, _), (1, _)]) [0, 1] rfl (bX11_works_102 hp  h)
def wX11_goMonth_54 (post : MM → Int64 → Prop) (bk23 : MM → Int64 → Int32 → Int32 → Prop) (M : MM) (tl : Int64) (v1 : Int32) (v2 : Int32) : Prop :=
  bk23 M tl v1 (v2 + 1)
set_option maxHeartbeats 4000000 in
set_option maxRecDepth 20000 in
theorem bX11_goMonth_54 {E : EV} {ad : Nat → Nat} {M : MM} {tl : Int64} {Φ : Option Value → va_W → Prop} {post : MM → Int64 → Prop} {bk23 : MM → Int64 → Int32 → Int32 → Prop} {v1 : Int32} {v2 : Int32} (hp : ∀ M tl, post M tl → Φ none (WM E ad M tl)) (hb23 : ∀ (M : MM) (tl : Int64) (v1 : Int32) (v2 : Int32), bk23 M tl v1 v2 → T E kX11_goMonth 0 0 (WM E ad M tl) 23 [(0, .ref (ad (81))), (1, .int v1), (2, .int v2)] [] Φ) (h : wX11_goMonth_54 post bk23 M tl v1 v2) : T E kX11_goMonth 0 0 (WM E ad M tl) 54 [(0, .ref (ad (81))), (1, .int v1), (2, .int v2)] [] Φ := by
  unfold wX11_goMonth_54 at h
  refine tj_iinc (v := _ + 1) (l' := [(0, _), (1, _), (2, _)]) rfl dX11_goMonth_54 rfl (by decide) rfl rfl ?_
  refine tj_goto (tgt := 23) rfl dX11_goMonth_57 ?_
  exact hb23 _ _ _ _ h
def wX11_goMonth_246 (post : MM → Int64 → Prop) (bk62 : MM → Int64 → Int32 → Prop) (M : MM) (tl : Int64) (v2 : Int32) (s1 : Int32) (s2 : Int32) : Prop :=
  (vp_in s1 (al 101) ∧ (∀ M2 : MM, M2 = mset M 101 (s1 : Int32).toNatClampNeg (vp_nar .boolean s2) → bk62 M2 tl (v2 + 1)))
set_option maxHeartbeats 4000000 in
set_option maxRecDepth 20000 in
theorem bX11_goMonth_246 {E : EV} {ad : Nat → Nat} {M : MM} {tl : Int64} {Φ : Option Value → va_W → Prop} {post : MM → Int64 → Prop} {bk62 : MM → Int64 → Int32 → Prop} {v2 : Int32} {s1 : Int32} {s2 : Int32} (hp : ∀ M tl, post M tl → Φ none (WM E ad M tl)) (hb62 : ∀ (M : MM) (tl : Int64) (v2 : Int32), bk62 M tl v2 → T E kX11_goMonth 0 0 (WM E ad M tl) 62 [(0, .ref (ad (81))), (2, .int v2)] [] Φ) (h : wX11_goMonth_246 post bk62 M tl v2 s1 s2) : T E kX11_goMonth 0 0 (WM E ad M tl) 246 [(0, .ref (ad (81))), (2, .int v2)] [.int s2, .int s1, .ref (ad (101))] Φ := by
  unfold wX11_goMonth_246 at h
  obtain ⟨hi1, h⟩ := h
  refine af_zast (a := 101) rfl rfl dX11_goMonth_246 hi1 ?_
  replace h := h _ rfl
  generalize mset M 101 (s1 : Int32).toNatClampNeg (vp_nar .boolean s2) = M2 at h ⊢
  refine tj_iinc (v := _ + 1) (l' := [(0, _), (2, _)]) rfl dX11_goMonth_247 rfl (by decide) rfl rfl ?_
  refine tj_goto (tgt := 62) rfl dX11_goMonth_250 ?_
  exact hb62 _ _ _ h
def wX11_goMonth_241 (post : MM → Int64 → Prop) (bk62 : MM → Int64 → Int32 → Prop) (M : MM) (tl : Int64) (v2 : Int32) (s1 : Int32) : Prop :=
  wX11_goMonth_246 post bk62 M tl v2 s1 1
set_option maxHeartbeats 4000000 in
set_option maxRecDepth 20000 in
theorem bX11_goMonth_241 {E : EV} {ad : Nat → Nat} {M : MM} {tl : Int64} {Φ : Option Value → va_W → Prop} {post : MM → Int64 → Prop} {bk62 : MM → Int64 → Int32 → Prop} {v2 : Int32} {s1 : Int32} (hp : ∀ M tl, post M tl → Φ none (WM E ad M tl)) (hb62 : ∀ (M : MM) (tl : Int64) (v2 : Int32), bk62 M tl v2 → T E kX11_goMonth 0 0 (WM E ad M tl) 62 [(0, .ref (ad (81))), (2, .int v2)] [] Φ) (h : wX11_goMonth_241 post bk62 M tl v2 s1) : T E kX11_goMonth 0 0 (WM E ad M tl) 241 [(0, .ref (ad (81))), (2, .int v2)] [.int s1, .ref (ad (101))] Φ := by
  unfold wX11_goMonth_241 at h
  refine tj_iconst (v := 1) rfl dX11_goMonth_241 (by decide) ?_
  refine tj_goto (tgt := 246) rfl dX11_goMonth_242 ?_
  exact bX11_goMonth_246 hp hb62 h
def wX11_goMonth_222 (post : MM → Int64 → Prop) (bk62 : MM → Int64 → Int32 → Prop) (M : MM) (tl : Int64) (v2 : Int32) (v4 : Int32) : Prop :=
  (vp_in v2 (al 101) ∧ (if (M 101 (v2 : Int32).toNatClampNeg) = 0 then (if v4 = 0 then wX11_goMonth_246 post bk62 M tl v2 v2 0 else wX11_goMonth_241 post bk62 M tl v2 v2) else wX11_goMonth_241 post bk62 M tl v2 v2))
set_option maxHeartbeats 4000000 in
set_option maxRecDepth 20000 in
theorem bX11_goMonth_222 {E : EV} {ad : Nat → Nat} {M : MM} {tl : Int64} {Φ : Option Value → va_W → Prop} {post : MM → Int64 → Prop} {bk62 : MM → Int64 → Int32 → Prop} {v2 : Int32} {v4 : Int32} (hp : ∀ M tl, post M tl → Φ none (WM E ad M tl)) (hb62 : ∀ (M : MM) (tl : Int64) (v2 : Int32), bk62 M tl v2 → T E kX11_goMonth 0 0 (WM E ad M tl) 62 [(0, .ref (ad (81))), (2, .int v2)] [] Φ) (h : wX11_goMonth_222 post bk62 M tl v2 v4) : T E kX11_goMonth 0 0 (WM E ad M tl) 222 [(0, .ref (ad (81))), (2, .int v2), (4, .int v4)] [] Φ := by
  unfold wX11_goMonth_222 at h
  refine tj_aload_n rfl dX11_goMonth_222 rfl ?_
  refine gf11_wasWorked (a := 81) rfl rfl dX11_goMonth_223 fl_X11_68 ?_
  refine tj_iload_n rfl dX11_goMonth_226 rfl ?_
  refine tj_aload_n rfl dX11_goMonth_227 rfl ?_
  refine gf11_wasWorked (a := 81) rfl rfl dX11_goMonth_228 fl_X11_68 ?_
  refine tj_iload_n rfl dX11_goMonth_231 rfl ?_
  obtain ⟨hi1, h⟩ := h
  refine af_zald (a := 101) rfl rfl dX11_goMonth_232 hi1 ?_
  refine tj_if_ne (tgt := 241) rfl rfl dX11_goMonth_233 (fun hc => ?_) (fun hc => ?_)
  · rw [if_neg hc] at h
    exact tj_pick (l' := [(0, _), (2, _)]) [0, 1] rfl (bX11_goMonth_241 hp hb62 h)
  · rw [if_pos hc] at h
    refine tj_iload rfl dX11_goMonth_236 rfl ?_
    refine tj_if_eq (tgt := 245) rfl rfl dX11_goMonth_238 (fun hc => ?_) (fun hc => ?_)
    · rw [if_pos hc] at h
      refine tj_iconst (v := 0) rfl dX11_goMonth_245 (by decide) ?_
      exact tj_pick (l' := [(0, _), (2, _)]) [0, 1] rfl (bX11_goMonth_246 hp hb62 h)
    · rw [if_neg hc] at h
      exact tj_pick (l' := [(0, _), (2, _)]) [0, 1] rfl (bX11_goMonth_241 hp hb62 h)
def wX11_goMonth_171 (post : MM → Int64 → Prop) (bk62 : MM → Int64 → Int32 → Prop) (M : MM) (tl : Int64) (v2 : Int32) (v4 : Int32) (v5 : Int32) (v6 : Int32) (s0 : Int32) : Prop :=
  (vp_in s0 (al 98) ∧ wpX11_mirrorOf (fun r4 M2 t3 => (vp_in v6 (al 98) ∧ (∀ M6 : MM, M6 = mset M2 98 (v6 : Int32).toNatClampNeg r4 → (vp_in v5 (al 102) ∧ (vp_in v6 (al 98) ∧ (vp_in (((6 : Int32) * v5) + ((M6 98 (v6 : Int32).toNatClampNeg) - (M6 98 (v6 : Int32).toNatClampNeg) / 8 * 8)) (al 85) ∧ (vp_in v5 (al 102) ∧ (∀ M11 : MM, M11 = mset M6 102 (v5 : Int32).toNatClampNeg ((M6 102 (v5 : Int32).toNatClampNeg) + (M6 85 (((6 : Int32) * v5) + ((M6 98 (v6 : Int32).toNatClampNeg) - (M6 98 (v6 : Int32).toNatClampNeg) / 8 * 8) : Int32).toNatClampNeg)) → wX11_goMonth_222 post bk62 M11 t3 v2 v4)))))))) M tl (M 98 (s0 : Int32).toNatClampNeg))
set_option maxHeartbeats 4000000 in
set_option maxRecDepth 20000 in
theorem bX11_goMonth_171 {E : EV} {ad : Nat → Nat} {M : MM} {tl : Int64} {Φ : Option Value → va_W → Prop} {post : MM → Int64 → Prop} {bk62 : MM → Int64 → Int32 → Prop} {v2 : Int32} {v4 : Int32} {v5 : Int32} {v6 : Int32} {s0 : Int32} (hp : ∀ M tl, post M tl → Φ none (WM E ad M tl)) (hb62 : ∀ (M : MM) (tl : Int64) (v2 : Int32), bk62 M tl v2 → T E kX11_goMonth 0 0 (WM E ad M tl) 62 [(0, .ref (ad (81))), (2, .int v2)] [] Φ) (h : wX11_goMonth_171 post bk62 M tl v2 v4 v5 v6 s0) : T E kX11_goMonth 0 0 (WM E ad M tl) 171 [(0, .ref (ad (81))), (2, .int v2), (4, .int v4), (5, .int v5), (6, .int v6)] [.int s0] Φ := by
  unfold wX11_goMonth_171 at h
  refine tj_istore (l' := [(0, _), (2, _), (4, _), (5, _), (6, _), (7, _)]) rfl dX11_goMonth_171 (by decide) rfl ?_
  refine tj_aload_n rfl dX11_goMonth_173 rfl ?_
  refine gf11_now (a := 81) rfl rfl dX11_goMonth_174 fl_X11_59 ?_
  refine tj_iload rfl dX11_goMonth_177 rfl ?_
  refine tj_aload_n rfl dX11_goMonth_179 rfl ?_
  refine tj_aload_n rfl dX11_goMonth_180 rfl ?_
  refine gf11_now (a := 81) rfl rfl dX11_goMonth_181 fl_X11_59 ?_
  refine tj_iload rfl dX11_goMonth_184 rfl ?_
  obtain ⟨hi1, h⟩ := h
  refine af_iald (a := 98) rfl rfl dX11_goMonth_186 hi1 ?_
  refine cf_V11 (a := 81) (z := kX11_mirrorOf) (As := [_]) rfl rfl dX11_goMonth_187 rfl ml_X11_276 okX11_mirrorOf rfl (rm_ok rfl) (Nat.le_of_ble_eq_true rfl) (Nat.le_of_ble_eq_true rfl) rfl rfl ?_
  refine ctX11_mirrorOf h (fun r4 M2 t3 h => ?_)
  obtain ⟨hi5, h⟩ := h
  refine af_iast (a := 98) rfl rfl dX11_goMonth_190 hi5 ?_
  replace h := h _ rfl
  generalize mset M2 98 (v6 : Int32).toNatClampNeg r4 = M6 at h ⊢
  refine tj_aload_n rfl dX11_goMonth_191 rfl ?_
  refine gf11_paidBy (a := 81) rfl rfl dX11_goMonth_192 fl_X11_71 ?_
  refine tj_iload rfl dX11_goMonth_195 rfl ?_
  refine tj_dup2 rfl dX11_goMonth_197 rfl rfl ?_
  obtain ⟨hi7, h⟩ := h
  refine af_iald (a := 102) rfl rfl dX11_goMonth_198 hi7 ?_
  refine tj_aload_n rfl dX11_goMonth_199 rfl ?_
  refine gf11_cost (a := 81) rfl rfl dX11_goMonth_200 fl_X11_20 ?_
  refine tj_bipush (v := 6) rfl dX11_goMonth_203 (by decide) ?_
  refine tj_iload rfl dX11_goMonth_205 rfl ?_
  refine tj_imul rfl dX11_goMonth_207 ?_
  refine tj_aload_n rfl dX11_goMonth_208 rfl ?_
  refine gf11_now (a := 81) rfl rfl dX11_goMonth_209 fl_X11_59 ?_
  refine tj_iload rfl dX11_goMonth_212 rfl ?_
  obtain ⟨hi8, h⟩ := h
  refine af_iald (a := 98) rfl rfl dX11_goMonth_214 hi8 ?_
  refine tj_bipush (v := 8) rfl dX11_goMonth_215 (by decide) ?_
  refine tj_irem rfl dX11_goMonth_217 (by decide) ?_
  refine tj_iadd rfl dX11_goMonth_218 ?_
  obtain ⟨hi9, h⟩ := h
  refine af_iald (a := 85) rfl rfl dX11_goMonth_219 hi9 ?_
  refine tj_iadd rfl dX11_goMonth_220 ?_
  obtain ⟨hi10, h⟩ := h
  refine af_iast (a := 102) rfl rfl dX11_goMonth_221 hi10 ?_
  replace h := h _ rfl
  generalize mset M6 102 (v5 : Int32).toNatClampNeg ((M6 102 (v5 : Int32).toNatClampNeg) + (M6 85 (((6 : Int32) * v5) + ((M6 98 (v6 : Int32).toNatClampNeg) - (M6 98 (v6 : Int32).toNatClampNeg) / 8 * 8) : Int32).toNatClampNeg)) = M11 at h ⊢
  exact tj_pick (l' := [(0, _), (2, _), (4, _)]) [0, 1, 2] rfl (bX11_goMonth_222 hp hb62 h)
def wX11_goMonth_156 (post : MM → Int64 → Prop) (bk62 : MM → Int64 → Int32 → Prop) (M : MM) (tl : Int64) (v2 : Int32) (v3 : Int32) (v4 : Int32) (v5 : Int32) (s0 : Int32) : Prop :=
  (if v5 = 0 then wX11_goMonth_171 post bk62 M tl v2 v4 v5 s0 ((8 : Int32) + v3) else wX11_goMonth_171 post bk62 M tl v2 v4 v5 s0 v2)
set_option maxHeartbeats 4000000 in
set_option maxRecDepth 20000 in
theorem bX11_goMonth_156 {E : EV} {ad : Nat → Nat} {M : MM} {tl : Int64} {Φ : Option Value → va_W → Prop} {post : MM → Int64 → Prop} {bk62 : MM → Int64 → Int32 → Prop} {v2 : Int32} {v3 : Int32} {v4 : Int32} {v5 : Int32} {s0 : Int32} (hp : ∀ M tl, post M tl → Φ none (WM E ad M tl)) (hb62 : ∀ (M : MM) (tl : Int64) (v2 : Int32), bk62 M tl v2 → T E kX11_goMonth 0 0 (WM E ad M tl) 62 [(0, .ref (ad (81))), (2, .int v2)] [] Φ) (h : wX11_goMonth_156 post bk62 M tl v2 v3 v4 v5 s0) : T E kX11_goMonth 0 0 (WM E ad M tl) 156 [(0, .ref (ad (81))), (2, .int v2), (3, .int v3), (4, .int v4), (5, .int v5)] [.int s0] Φ := by
  unfold wX11_goMonth_156 at h
  refine tj_istore (l' := [(0, _), (2, _), (3, _), (4, _), (5, _), (6, _)]) rfl dX11_goMonth_156 (by decide) rfl ?_
  refine tj_iload rfl dX11_goMonth_158 rfl ?_
  refine tj_if_ne (tgt := 170) rfl rfl dX11_goMonth_160 (fun hc => ?_) (fun hc => ?_)
  · rw [if_neg hc] at h
    refine tj_iload_n rfl dX11_goMonth_170 rfl ?_
    exact tj_pick (l' := [(0, _), (2, _), (4, _), (5, _), (6, _)]) [0, 1, 3, 4, 5] rfl (bX11_goMonth_171 hp hb62 h)
  · rw [if_pos hc] at h
    refine tj_bipush (v := 8) rfl dX11_goMonth_163 (by decide) ?_
    refine tj_iload_n rfl dX11_goMonth_165 rfl ?_
    refine tj_iadd rfl dX11_goMonth_166 ?_
    refine tj_goto (tgt := 171) rfl dX11_goMonth_167 ?_
    exact tj_pick (l' := [(0, _), (2, _), (4, _), (5, _), (6, _)]) [0, 1, 3, 4, 5] rfl (bX11_goMonth_171 hp hb62 h)
def wX11_goMonth_109 (post : MM → Int64 → Prop) (bk62 : MM → Int64 → Int32 → Prop) (M : MM) (tl : Int64) (v2 : Int32) (v3 : Int32) (s0 : Int32) : Prop :=
  wpX11_isEven (fun r3 M1 t2 => (if r3 = 0 then (if s0 = 0 then (vp_in v2 (al 101) ∧ (if (M1 101 (v2 : Int32).toNatClampNeg) = 0 then wX11_goMonth_222 post bk62 M1 t2 v2 s0 else (vp_in v2 (al 99) ∧ (if ((1 : Int32) - (M1 99 (v2 : Int32).toNatClampNeg)) = 0 then wX11_goMonth_156 post bk62 M1 t2 v2 v3 s0 ((1 : Int32) - (M1 99 (v2 : Int32).toNatClampNeg)) v2 else wX11_goMonth_156 post bk62 M1 t2 v2 v3 s0 ((1 : Int32) - (M1 99 (v2 : Int32).toNatClampNeg)) ((8 : Int32) + v3))))) else wX11_goMonth_222 post bk62 M1 t2 v2 s0) else wX11_goMonth_222 post bk62 M1 t2 v2 s0)) M tl v2
set_option maxHeartbeats 4000000 in
set_option maxRecDepth 20000 in
theorem bX11_goMonth_109 {E : EV} {ad : Nat → Nat} {M : MM} {tl : Int64} {Φ : Option Value → va_W → Prop} {post : MM → Int64 → Prop} {bk62 : MM → Int64 → Int32 → Prop} {v2 : Int32} {v3 : Int32} {s0 : Int32} (hp : ∀ M tl, post M tl → Φ none (WM E ad M tl)) (hb62 : ∀ (M : MM) (tl : Int64) (v2 : Int32), bk62 M tl v2 → T E kX11_goMonth 0 0 (WM E ad M tl) 62 [(0, .ref (ad (81))), (2, .int v2)] [] Φ) (h : wX11_goMonth_109 post bk62 M tl v2 v3 s0) : T E kX11_goMonth 0 0 (WM E ad M tl) 109 [(0, .ref (ad (81))), (2, .int v2), (3, .int v3)] [.int s0] Φ := by
  unfold wX11_goMonth_109 at h
  refine tj_istore (l' := [(0, _), (2, _), (3, _), (4, _)]) rfl dX11_goMonth_109 (by decide) rfl ?_
  refine tj_aload_n rfl dX11_goMonth_111 rfl ?_
  refine tj_iload_n rfl dX11_goMonth_112 rfl ?_
  refine cf_V11 (a := 81) (z := kX11_isEven) (As := [_]) rfl rfl dX11_goMonth_113 rfl ml_X11_292 okX11_isEven rfl (rm_ok rfl) (Nat.le_of_ble_eq_true rfl) (Nat.le_of_ble_eq_true rfl) rfl rfl ?_
  refine ctX11_isEven h (fun r3 M1 t2 h => ?_)
  refine tj_if_ne (tgt := 222) rfl rfl dX11_goMonth_116 (fun hc => ?_) (fun hc => ?_)
  · rw [if_neg hc] at h
    exact tj_pick (l' := [(0, _), (2, _), (4, _)]) [0, 1, 3] rfl (bX11_goMonth_222 hp hb62 h)
  · rw [if_pos hc] at h
    refine tj_iload rfl dX11_goMonth_119 rfl ?_
    refine tj_if_ne (tgt := 222) rfl rfl dX11_goMonth_121 (fun hc => ?_) (fun hc => ?_)
    · rw [if_neg hc] at h
      exact tj_pick (l' := [(0, _), (2, _), (4, _)]) [0, 1, 3] rfl (bX11_goMonth_222 hp hb62 h)
    · rw [if_pos hc] at h
      refine tj_aload_n rfl dX11_goMonth_124 rfl ?_
      refine gf11_wasWorked (a := 81) rfl rfl dX11_goMonth_125 fl_X11_68 ?_
      refine tj_iload_n rfl dX11_goMonth_128 rfl ?_
      obtain ⟨hi4, h⟩ := h
      refine af_zald (a := 101) rfl rfl dX11_goMonth_129 hi4 ?_
      refine tj_if_eq (tgt := 222) rfl rfl dX11_goMonth_130 (fun hc => ?_) (fun hc => ?_)
      · rw [if_pos hc] at h
        exact tj_pick (l' := [(0, _), (2, _), (4, _)]) [0, 1, 3] rfl (bX11_goMonth_222 hp hb62 h)
      · rw [if_neg hc] at h
        refine tj_iconst (v := 1) rfl dX11_goMonth_133 (by decide) ?_
        refine tj_aload_n rfl dX11_goMonth_134 rfl ?_
        refine gf11_latest (a := 81) rfl rfl dX11_goMonth_135 fl_X11_62 ?_
        refine tj_iload_n rfl dX11_goMonth_138 rfl ?_
        obtain ⟨hi5, h⟩ := h
        refine af_iald (a := 99) rfl rfl dX11_goMonth_139 hi5 ?_
        refine tj_isub rfl dX11_goMonth_140 ?_
        refine tj_istore (l' := [(0, _), (2, _), (3, _), (4, _), (5, _)]) rfl dX11_goMonth_141 (by decide) rfl ?_
        refine tj_iload rfl dX11_goMonth_143 rfl ?_
        refine tj_if_ne (tgt := 152) rfl rfl dX11_goMonth_145 (fun hc => ?_) (fun hc => ?_)
        · rw [if_neg hc] at h
          refine tj_bipush (v := 8) rfl dX11_goMonth_152 (by decide) ?_
          refine tj_iload_n rfl dX11_goMonth_154 rfl ?_
          refine tj_iadd rfl dX11_goMonth_155 ?_
          exact bX11_goMonth_156 hp hb62 h
        · rw [if_pos hc] at h
          refine tj_iload_n rfl dX11_goMonth_148 rfl ?_
          refine tj_goto (tgt := 156) rfl dX11_goMonth_149 ?_
          exact bX11_goMonth_156 hp hb62 h
def wX11_goMonth_104 (post : MM → Int64 → Prop) (bk62 : MM → Int64 → Int32 → Prop) (M : MM) (tl : Int64) (v2 : Int32) (v3 : Int32) : Prop :=
  wX11_goMonth_109 post bk62 M tl v2 v3 1
set_option maxHeartbeats 4000000 in
set_option maxRecDepth 20000 in
theorem bX11_goMonth_104 {E : EV} {ad : Nat → Nat} {M : MM} {tl : Int64} {Φ : Option Value → va_W → Prop} {post : MM → Int64 → Prop} {bk62 : MM → Int64 → Int32 → Prop} {v2 : Int32} {v3 : Int32} (hp : ∀ M tl, post M tl → Φ none (WM E ad M tl)) (hb62 : ∀ (M : MM) (tl : Int64) (v2 : Int32), bk62 M tl v2 → T E kX11_goMonth 0 0 (WM E ad M tl) 62 [(0, .ref (ad (81))), (2, .int v2)] [] Φ) (h : wX11_goMonth_104 post bk62 M tl v2 v3) : T E kX11_goMonth 0 0 (WM E ad M tl) 104 [(0, .ref (ad (81))), (2, .int v2), (3, .int v3)] [] Φ := by
  unfold wX11_goMonth_104 at h
  refine tj_iconst (v := 1) rfl dX11_goMonth_104 (by decide) ?_
  refine tj_goto (tgt := 109) rfl dX11_goMonth_105 ?_
  exact bX11_goMonth_109 hp hb62 h
def wX11_goMonth_108 (post : MM → Int64 → Prop) (bk62 : MM → Int64 → Int32 → Prop) (M : MM) (tl : Int64) (v2 : Int32) (v3 : Int32) : Prop :=
  wX11_goMonth_109 post bk62 M tl v2 v3 0
set_option maxHeartbeats 4000000 in
set_option maxRecDepth 20000 in
theorem bX11_goMonth_108 {E : EV} {ad : Nat → Nat} {M : MM} {tl : Int64} {Φ : Option Value → va_W → Prop} {post : MM → Int64 → Prop} {bk62 : MM → Int64 → Int32 → Prop} {v2 : Int32} {v3 : Int32} (hp : ∀ M tl, post M tl → Φ none (WM E ad M tl)) (hb62 : ∀ (M : MM) (tl : Int64) (v2 : Int32), bk62 M tl v2 → T E kX11_goMonth 0 0 (WM E ad M tl) 62 [(0, .ref (ad (81))), (2, .int v2)] [] Φ) (h : wX11_goMonth_108 post bk62 M tl v2 v3) : T E kX11_goMonth 0 0 (WM E ad M tl) 108 [(0, .ref (ad (81))), (2, .int v2), (3, .int v3)] [] Φ := by
  unfold wX11_goMonth_108 at h
  refine tj_iconst (v := 0) rfl dX11_goMonth_108 (by decide) ?_
  exact bX11_goMonth_109 hp hb62 h
def wX11_goMonth_62 (post : MM → Int64 → Prop) : Nat → MM → Int64 → Int32 → Prop
  | 0, _, _, _ => False
  | n + 1, M, tl, v2 =>
    (if (M 81 2) ≤ v2 then post M tl else wpX11_matchOf (fun r3 M1 t2 => (if r3 = (-4) then wX11_goMonth_108 post (wX11_goMonth_62 post n) M1 t2 v2 r3 else (vp_in v2 (al 100) ∧ (if (M1 100 (v2 : Int32).toNatClampNeg) = 0 then (vp_in ((8 : Int32) + r3) (al 100) ∧ (if (M1 100 ((8 : Int32) + r3 : Int32).toNatClampNeg) = 0 then wX11_goMonth_108 post (wX11_goMonth_62 post n) M1 t2 v2 r3 else wX11_goMonth_104 post (wX11_goMonth_62 post n) M1 t2 v2 r3)) else wX11_goMonth_104 post (wX11_goMonth_62 post n) M1 t2 v2 r3)))) M tl 0 v2)
set_option maxHeartbeats 4000000 in
set_option maxRecDepth 20000 in
theorem bX11_goMonth_62 {E : EV} {ad : Nat → Nat} {Φ : Option Value → va_W → Prop} {post : MM → Int64 → Prop}  (hp : ∀ M tl, post M tl → Φ none (WM E ad M tl)) : ∀ (n : Nat) (M : MM) (tl : Int64) (v2 : Int32), wX11_goMonth_62 post n M tl v2 → T E kX11_goMonth 0 0 (WM E ad M tl) 62 [(0, .ref (ad (81))), (2, .int v2)] [] Φ := by
  intro n
  induction n with
  | zero => intro M tl v2 h; exact False.elim h
  | succ n ih =>
    intro M tl v2 h
    unfold wX11_goMonth_62 at h
    refine tj_iload_n rfl dX11_goMonth_62 rfl ?_
    refine tj_aload_n rfl dX11_goMonth_63 rfl ?_
    refine gf11_lots (a := 81) rfl rfl dX11_goMonth_64 fl_X11_129 ?_
    refine tj_icmp_ge (tgt := 253) rfl rfl dX11_goMonth_67 (fun hc => ?_) (fun hc => ?_)
    · rw [if_pos hc] at h
      exact tj_return dX11_goMonth_253 rfl (Nat.zero_le _) (Nat.zero_le _) (hp _ _ h)
    · rw [if_neg hc] at h
      refine tj_aload_n rfl dX11_goMonth_70 rfl ?_
      refine tj_iconst (v := 0) rfl dX11_goMonth_71 (by decide) ?_
      refine tj_iload_n rfl dX11_goMonth_72 rfl ?_
      refine cf_V11 (a := 81) (z := kX11_matchOf) (As := [_, _]) rfl rfl dX11_goMonth_73 rfl ml_X11_289 okX11_matchOf rfl (rm_ok rfl) (Nat.le_of_ble_eq_true rfl) (Nat.le_of_ble_eq_true rfl) rfl rfl ?_
      refine ctX11_matchOf h (fun r3 M1 t2 h => ?_)
      refine tj_istore_n (l' := [(0, _), (2, _), (3, _)]) rfl dX11_goMonth_76 (by decide) rfl ?_
      refine tj_iload_n rfl dX11_goMonth_77 rfl ?_
      refine tj_bipush (v := -4) rfl dX11_goMonth_78 (by decide) ?_
      refine tj_icmp_eq (tgt := 108) rfl rfl dX11_goMonth_80 (fun hc => ?_) (fun hc => ?_)
      · rw [if_pos hc] at h
        exact bX11_goMonth_108 hp ih h
      · rw [if_neg hc] at h
        refine tj_aload_n rfl dX11_goMonth_83 rfl ?_
        refine gf11_nowWorked (a := 81) rfl rfl dX11_goMonth_84 fl_X11_65 ?_
        refine tj_iload_n rfl dX11_goMonth_87 rfl ?_
        obtain ⟨hi4, h⟩ := h
        refine af_zald (a := 100) rfl rfl dX11_goMonth_88 hi4 ?_
        refine tj_if_ne (tgt := 104) rfl rfl dX11_goMonth_89 (fun hc => ?_) (fun hc => ?_)
        · rw [if_neg hc] at h
          exact bX11_goMonth_104 hp ih h
        · rw [if_pos hc] at h
          refine tj_aload_n rfl dX11_goMonth_92 rfl ?_
          refine gf11_nowWorked (a := 81) rfl rfl dX11_goMonth_93 fl_X11_65 ?_
          refine tj_bipush (v := 8) rfl dX11_goMonth_96 (by decide) ?_
          refine tj_iload_n rfl dX11_goMonth_98 rfl ?_
          refine tj_iadd rfl dX11_goMonth_99 ?_
          obtain ⟨hi5, h⟩ := h
          refine af_zald (a := 100) rfl rfl dX11_goMonth_100 hi5 ?_
          refine tj_if_eq (tgt := 108) rfl rfl dX11_goMonth_101 (fun hc => ?_) (fun hc => ?_)
          · rw [if_pos hc] at h
            exact bX11_goMonth_108 hp ih h
          · rw [if_neg hc] at h
            exact bX11_goMonth_104 hp ih h
def wX11_goMonth_23 (post : MM → Int64 → Prop) : Nat → MM → Int64 → Int32 → Int32 → Prop
  | 0, _, _, _, _ => False
  | n + 1, M, tl, v1, v2 =>
    (vp_in 16 (al 82) ∧ (if (M 82 (16 : Int32).toNatClampNeg) ≤ v2 then (∃ n9, wX11_goMonth_62 post  n9 M tl 0) else (vp_in ((17 : Int32) + ((4 : Int32) * v2)) (al 82) ∧ (if (M 82 ((17 : Int32) + ((4 : Int32) * v2) : Int32).toNatClampNeg) = v1 then wpX11_works (fun M3 t4 => wX11_goMonth_54 post (wX11_goMonth_23 post n) M3 t4 v1 v2) M tl v2 else wX11_goMonth_54 post (wX11_goMonth_23 post n) M tl v1 v2))))
set_option maxHeartbeats 4000000 in
set_option maxRecDepth 20000 in
theorem bX11_goMonth_23 {E : EV} {ad : Nat → Nat} {Φ : Option Value → va_W → Prop} {post : MM → Int64 → Prop}  (hp : ∀ M tl, post M tl → Φ none (WM E ad M tl)) : ∀ (n : Nat) (M : MM) (tl : Int64) (v1 : Int32) (v2 : Int32), wX11_goMonth_23 post n M tl v1 v2 → T E kX11_goMonth 0 0 (WM E ad M tl) 23 [(0, .ref (ad (81))), (1, .int v1), (2, .int v2)] [] Φ := by
  intro n
  induction n with
  | zero => intro M tl v1 v2 h; exact False.elim h
  | succ n ih =>
    intro M tl v1 v2 h
    unfold wX11_goMonth_23 at h
    refine tj_iload_n rfl dX11_goMonth_23 rfl ?_
    refine tj_aload_n rfl dX11_goMonth_24 rfl ?_
    refine gf11_st (a := 81) rfl rfl dX11_goMonth_25 fl_X11_7 ?_
    refine tj_bipush (v := 16) rfl dX11_goMonth_28 (by decide) ?_
    obtain ⟨hi1, h⟩ := h
    refine af_iald (a := 82) rfl rfl dX11_goMonth_30 hi1 ?_
    refine tj_icmp_ge (tgt := 60) rfl rfl dX11_goMonth_31 (fun hc => ?_) (fun hc => ?_)
    · rw [if_pos hc] at h
      refine tj_iconst (v := 0) rfl dX11_goMonth_60 (by decide) ?_
      refine tj_istore_n (l' := [(0, _), (1, _), (2, _)]) rfl dX11_goMonth_61 (by decide) rfl ?_
      obtain ⟨n9, h⟩ := h
      exact tj_pick (l' := [(0, _), (2, _)]) [0, 2] rfl (bX11_goMonth_62 hp  n9 _ _ _ h)
    · rw [if_neg hc] at h
      refine tj_aload_n rfl dX11_goMonth_34 rfl ?_
      refine gf11_st (a := 81) rfl rfl dX11_goMonth_35 fl_X11_7 ?_
      refine tj_bipush (v := 17) rfl dX11_goMonth_38 (by decide) ?_
      refine tj_iconst (v := 4) rfl dX11_goMonth_40 (by decide) ?_
      refine tj_iload_n rfl dX11_goMonth_41 rfl ?_
      refine tj_imul rfl dX11_goMonth_42 ?_
      refine tj_iadd rfl dX11_goMonth_43 ?_
      obtain ⟨hi2, h⟩ := h
      refine af_iald (a := 82) rfl rfl dX11_goMonth_44 hi2 ?_
      refine tj_iload_n rfl dX11_goMonth_45 rfl ?_
      refine tj_icmp_ne (tgt := 54) rfl rfl dX11_goMonth_46 (fun hc => ?_) (fun hc => ?_)
      · rw [if_neg hc] at h
        exact bX11_goMonth_54 hp ih h
      · rw [if_pos hc] at h
        refine tj_aload_n rfl dX11_goMonth_49 rfl ?_
        refine tj_iload_n rfl dX11_goMonth_50 rfl ?_
        refine cf_V11 (a := 81) (z := kX11_works) (As := [_]) rfl rfl dX11_goMonth_51 rfl ml_X11_301 okX11_works rfl (rm_ok rfl) (Nat.le_of_ble_eq_true rfl) (Nat.le_of_ble_eq_true rfl) rfl rfl ?_
        refine ctX11_works h (fun M3 t4 h => ?_)
        exact bX11_goMonth_54 hp ih h
def wX11_goMonth_2 (post : MM → Int64 → Prop) : Nat → MM → Int64 → Int32 → Int32 → Prop
  | 0, _, _, _, _ => False
  | n + 1, M, tl, v1, v2 =>
    (if 16 ≤ v2 then (∃ n9, wX11_goMonth_23 post  n9 M tl v1 0) else (vp_in v2 (al 100) ∧ (∀ M2 : MM, M2 = mset M 100 (v2 : Int32).toNatClampNeg (vp_nar .boolean 0) → (wX11_goMonth_2 post n) M2 tl v1 (v2 + 1))))
set_option maxHeartbeats 4000000 in
set_option maxRecDepth 20000 in
theorem bX11_goMonth_2 {E : EV} {ad : Nat → Nat} {Φ : Option Value → va_W → Prop} {post : MM → Int64 → Prop}  (hp : ∀ M tl, post M tl → Φ none (WM E ad M tl)) : ∀ (n : Nat) (M : MM) (tl : Int64) (v1 : Int32) (v2 : Int32), wX11_goMonth_2 post n M tl v1 v2 → T E kX11_goMonth 0 0 (WM E ad M tl) 2 [(0, .ref (ad (81))), (1, .int v1), (2, .int v2)] [] Φ := by
  intro n
  induction n with
  | zero => intro M tl v1 v2 h; exact False.elim h
  | succ n ih =>
    intro M tl v1 v2 h
    unfold wX11_goMonth_2 at h
    refine tj_iload_n rfl dX11_goMonth_2 rfl ?_
    refine tj_bipush (v := 16) rfl dX11_goMonth_3 (by decide) ?_
    refine tj_icmp_ge (tgt := 21) rfl rfl dX11_goMonth_5 (fun hc => ?_) (fun hc => ?_)
    · rw [if_pos hc] at h
      refine tj_iconst (v := 0) rfl dX11_goMonth_21 (by decide) ?_
      refine tj_istore_n (l' := [(0, _), (1, _), (2, _)]) rfl dX11_goMonth_22 (by decide) rfl ?_
      obtain ⟨n9, h⟩ := h
      exact bX11_goMonth_23 hp  n9 _ _ _ _ h
    · rw [if_neg hc] at h
      refine tj_aload_n rfl dX11_goMonth_8 rfl ?_
      refine gf11_nowWorked (a := 81) rfl rfl dX11_goMonth_9 fl_X11_65 ?_
      refine tj_iload_n rfl dX11_goMonth_12 rfl ?_
      refine tj_iconst (v := 0) rfl dX11_goMonth_13 (by decide) ?_
      obtain ⟨hi1, h⟩ := h
      refine af_zast (a := 100) rfl rfl dX11_goMonth_14 hi1 ?_
      replace h := h _ rfl
      generalize mset M 100 (v2 : Int32).toNatClampNeg (vp_nar .boolean 0) = M2 at h ⊢
      refine tj_iinc (v := _ + 1) (l' := [(0, _), (1, _), (2, _)]) rfl dX11_goMonth_15 rfl (by decide) rfl rfl ?_
      refine tj_goto (tgt := 2) rfl dX11_goMonth_18 ?_
      exact ih _ _ _ _ h
def wpX11_goMonth (post : MM → Int64 → Prop) (M : MM) (tl : Int64) (v1 : Int32) : Prop :=
  (∃ n9, wX11_goMonth_2 post  n9 M tl v1 0)
set_option maxHeartbeats 4000000 in
set_option maxRecDepth 20000 in
theorem ctX11_goMonth {E : EV} {ad : Nat → Nat} {M : MM} {tl : Int64} {Φ : Option Value → va_W → Prop} {post : MM → Int64 → Prop} {v1 : Int32} (h : wpX11_goMonth post M tl v1) (hp : ∀ M tl, post M tl → Φ none (WM E ad M tl)) : Tm E kX11_goMonth (WM E ad M tl) [.ref (ad (81)), .int v1] Φ := by
  unfold wpX11_goMonth at h
  show T E kX11_goMonth 0 0 (WM E ad M tl) 0 [(0, .ref (ad (81))), (1, .int v1)] [] Φ
  refine tj_iconst (v := 0) rfl dX11_goMonth_0 (by decide) ?_
  refine tj_istore_n (l' := [(0, _), (1, _), (2, _)]) rfl dX11_goMonth_1 (by decide) rfl ?_
  obtain ⟨n9, h⟩ := h
  exact bX11_goMonth_2 hp  n9 _ _ _ _ h
def wX11_goRun_6 (post : MM → Int64 → Prop) : Nat → MM → Int64 → Int32 → Int32 → Prop
  | 0, _, _, _, _ => False
  | n + 1, M, tl, v1, v2 =>
    (if v1 ≤ v2 then post M tl else wpX11_goMonth (fun M1 t2 => (wX11_goRun_6 post n) M1 t2 v1 (v2 + 1)) M tl v2)
set_option maxHeartbeats 4000000 in
set_option maxRecDepth 20000 in
theorem bX11_goRun_6 {E : EV} {ad : Nat → Nat} {Φ : Option Value → va_W → Prop} {post : MM → Int64 → Prop}  (hp : ∀ M tl, post M tl → Φ none (WM E ad M tl)) : ∀ (n : Nat) (M : MM) (tl : Int64) (v1 : Int32) (v2 : Int32), wX11_goRun_6 post n M tl v1 v2 → T E kX11_goRun 0 0 (WM E ad M tl) 6 [(0, .ref (ad (81))), (1, .int v1), (2, .int v2)] [] Φ := by
  intro n
  induction n with
  | zero => intro M tl v1 v2 h; exact False.elim h
  | succ n ih =>
    intro M tl v1 v2 h
    unfold wX11_goRun_6 at h
    refine tj_iload_n rfl dX11_goRun_6 rfl ?_
    refine tj_iload_n rfl dX11_goRun_7 rfl ?_
    refine tj_icmp_ge (tgt := 22) rfl rfl dX11_goRun_8 (fun hc => ?_) (fun hc => ?_)
    · rw [if_pos hc] at h
      exact tj_return dX11_goRun_22 rfl (Nat.zero_le _) (Nat.zero_le _) (hp _ _ h)
    · rw [if_neg hc] at h
      refine tj_aload_n rfl dX11_goRun_11 rfl ?_
      refine tj_iload_n rfl dX11_goRun_12 rfl ?_
      refine cf_V11 (a := 81) (z := kX11_goMonth) (As := [_]) rfl rfl dX11_goRun_13 rfl ml_X11_307 okX11_goMonth rfl (rm_ok rfl) (Nat.le_of_ble_eq_true rfl) (Nat.le_of_ble_eq_true rfl) rfl rfl ?_
      refine ctX11_goMonth h (fun M1 t2 h => ?_)
      refine tj_iinc (v := _ + 1) (l' := [(0, _), (1, _), (2, _)]) rfl dX11_goRun_16 rfl (by decide) rfl rfl ?_
      refine tj_goto (tgt := 6) rfl dX11_goRun_19 ?_
      exact ih _ _ _ _ h
def wpX11_goRun (post : MM → Int64 → Prop) (M : MM) (tl : Int64) (v1 : Int32) : Prop :=
  wpX11_startRun (fun M1 t2 => (∃ n9, wX11_goRun_6 post  n9 M1 t2 v1 0)) M tl 
set_option maxHeartbeats 4000000 in
set_option maxRecDepth 20000 in
theorem ctX11_goRun {E : EV} {ad : Nat → Nat} {M : MM} {tl : Int64} {Φ : Option Value → va_W → Prop} {post : MM → Int64 → Prop} {v1 : Int32} (h : wpX11_goRun post M tl v1) (hp : ∀ M tl, post M tl → Φ none (WM E ad M tl)) : Tm E kX11_goRun (WM E ad M tl) [.ref (ad (81)), .int v1] Φ := by
  unfold wpX11_goRun at h
  show T E kX11_goRun 0 0 (WM E ad M tl) 0 [(0, .ref (ad (81))), (1, .int v1)] [] Φ
  refine tj_aload_n rfl dX11_goRun_0 rfl ?_
  refine cf_V11 (a := 81) (z := kX11_startRun) (As := []) rfl rfl dX11_goRun_1 rfl ml_X11_304 okX11_startRun rfl (rm_ok rfl) (Nat.le_of_ble_eq_true rfl) (Nat.le_of_ble_eq_true rfl) rfl rfl ?_
  refine ctX11_startRun h (fun M1 t2 h => ?_)
  refine tj_iconst (v := 0) rfl dX11_goRun_4 (by decide) ?_
  refine tj_istore_n (l' := [(0, _), (1, _), (2, _)]) rfl dX11_goRun_5 (by decide) rfl ?_
  obtain ⟨n9, h⟩ := h
  exact bX11_goRun_6 hp  n9 _ _ _ _ h
def wpX11_isMany (post : Int32 → MM → Int64 → Prop) (M : MM) (tl : Int64) (v0 : Int32) : Prop :=
  wpX11_in (fun r3 M1 t2 => (narrow .boolean (.int r3) = .int r3 ∧ post r3 M1 t2)) M tl ((v0 : Int32).toInt64) 0 24
set_option maxHeartbeats 4000000 in
set_option maxRecDepth 20000 in
theorem ctX11_isMany {E : EV} {ad : Nat → Nat} {M : MM} {tl : Int64} {Φ : Option Value → va_W → Prop} {post : Int32 → MM → Int64 → Prop} {v0 : Int32} (h : wpX11_isMany post M tl v0) (hp : ∀ r M tl, post r M tl → Φ (some (.int r)) (WM E ad M tl)) : Tm E kX11_isMany (WM E ad M tl) [.int v0] Φ := by
  unfold wpX11_isMany at h
  show T E kX11_isMany 0 0 (WM E ad M tl) 0 [(0, .int v0)] [] Φ
  refine tj_iload_n rfl dX11_isMany_0 rfl ?_
  refine tj_i2l rfl dX11_isMany_1 ?_
  refine tj_lconst (v := 0) rfl dX11_isMany_2 (by decide) ?_
  refine tj_ldc2 rfl dX11_isMany_3 kl_X11_310 ?_
  refine cf_S (z := kX11_in) (As := [_, _, _]) rfl dX11_isMany_6 rfl ml_X11_146 okX11_in rfl (rm_ok rfl) (Nat.le_of_ble_eq_true rfl) (Nat.le_of_ble_eq_true rfl) rfl ?_
  refine ctX11_in h (fun r3 M1 t2 h => ?_)
  obtain ⟨hn4, h⟩ := h
  exact tj_ireturn (ty := .boolean) dX11_isMany_9 rfl hn4 (Nat.zero_le _) (Nat.zero_le _) (hp _ _ _ h)
def wpX11_after (post : Int32 → MM → Int64 → Prop) (M : MM) (tl : Int64) (v1 : Int32) (v2 : Int32) (v3 : Int32) : Prop :=
  wpX11_isMany (fun r3 M1 t2 => (if r3 = 0 then post (-1) M1 t2 else wpX11_isLot (fun r6 M4 t5 => (if r6 = 0 then post (-1) M4 t5 else wpX11_goRun (fun M7 t8 => (vp_in (((8 : Int32) * v2) + v3) (al 98) ∧ post (M7 98 (((8 : Int32) * v2) + v3 : Int32).toNatClampNeg) M7 t8)) M4 t5 v1)) M1 t2 v2 v3)) M tl v1
set_option maxHeartbeats 4000000 in
set_option maxRecDepth 20000 in
theorem ctX11_after {E : EV} {ad : Nat → Nat} {M : MM} {tl : Int64} {Φ : Option Value → va_W → Prop} {post : Int32 → MM → Int64 → Prop} {v1 : Int32} {v2 : Int32} {v3 : Int32} (h : wpX11_after post M tl v1 v2 v3) (hp : ∀ r M tl, post r M tl → Φ (some (.int r)) (WM E ad M tl)) : Tm E kX11_after (WM E ad M tl) [.ref (ad (81)), .int v1, .int v2, .int v3] Φ := by
  unfold wpX11_after at h
  show T E kX11_after 0 0 (WM E ad M tl) 0 [(0, .ref (ad (81))), (1, .int v1), (2, .int v2), (3, .int v3)] [] Φ
  refine tj_iload_n rfl dX11_after_0 rfl ?_
  refine cf_S (z := kX11_isMany) (As := [_]) rfl dX11_after_1 rfl ml_X11_312 okX11_isMany rfl (rm_ok rfl) (Nat.le_of_ble_eq_true rfl) (Nat.le_of_ble_eq_true rfl) rfl ?_
  refine ctX11_isMany h (fun r3 M1 t2 h => ?_)
  refine tj_if_eq (tgt := 16) rfl rfl dX11_after_4 (fun hc => ?_) (fun hc => ?_)
  · rw [if_pos hc] at h
    refine tj_iconst (v := -1) rfl dX11_after_16 (by decide) ?_
    exact tj_ireturn (ty := .int) dX11_after_17 rfl rfl (Nat.zero_le _) (Nat.zero_le _) (hp _ _ _ h)
  · rw [if_neg hc] at h
    refine tj_aload_n rfl dX11_after_7 rfl ?_
    refine tj_iload_n rfl dX11_after_8 rfl ?_
    refine tj_iload_n rfl dX11_after_9 rfl ?_
    refine cf_V11 (a := 81) (z := kX11_isLot) (As := [_, _]) rfl rfl dX11_after_10 rfl ml_X11_282 okX11_isLot rfl (rm_ok rfl) (Nat.le_of_ble_eq_true rfl) (Nat.le_of_ble_eq_true rfl) rfl rfl ?_
    refine ctX11_isLot h (fun r6 M4 t5 h => ?_)
    refine tj_if_ne (tgt := 18) rfl rfl dX11_after_13 (fun hc => ?_) (fun hc => ?_)
    · rw [if_neg hc] at h
      refine tj_aload_n rfl dX11_after_18 rfl ?_
      refine tj_iload_n rfl dX11_after_19 rfl ?_
      refine cf_V11 (a := 81) (z := kX11_goRun) (As := [_]) rfl rfl dX11_after_20 rfl ml_X11_315 okX11_goRun rfl (rm_ok rfl) (Nat.le_of_ble_eq_true rfl) (Nat.le_of_ble_eq_true rfl) rfl rfl ?_
      refine ctX11_goRun h (fun M7 t8 h => ?_)
      refine tj_aload_n rfl dX11_after_23 rfl ?_
      refine gf11_now (a := 81) rfl rfl dX11_after_24 fl_X11_59 ?_
      refine tj_bipush (v := 8) rfl dX11_after_27 (by decide) ?_
      refine tj_iload_n rfl dX11_after_29 rfl ?_
      refine tj_imul rfl dX11_after_30 ?_
      refine tj_iload_n rfl dX11_after_31 rfl ?_
      refine tj_iadd rfl dX11_after_32 ?_
      obtain ⟨hi9, h⟩ := h
      refine af_iald (a := 98) rfl rfl dX11_after_33 hi9 ?_
      exact tj_ireturn (ty := .int) dX11_after_34 rfl rfl (Nat.zero_le _) (Nat.zero_le _) (hp _ _ _ h)
    · rw [if_pos hc] at h
      refine tj_iconst (v := -1) rfl dX11_after_16 (by decide) ?_
      exact tj_ireturn (ty := .int) dX11_after_17 rfl rfl (Nat.zero_le _) (Nat.zero_le _) (hp _ _ _ h)
def wpX11_paid (post : Int32 → MM → Int64 → Prop) (M : MM) (tl : Int64) (v1 : Int32) (v2 : Int32) : Prop :=
  wpX11_isMany (fun r3 M1 t2 => (if r3 = 0 then post (-1) M1 t2 else wpX11_isBank (fun r6 M4 t5 => (if r6 = 0 then post (-1) M4 t5 else wpX11_goRun (fun M7 t8 => (vp_in v2 (al 102) ∧ post (M7 102 (v2 : Int32).toNatClampNeg) M7 t8)) M4 t5 v1)) M1 t2 v2)) M tl v1
set_option maxHeartbeats 4000000 in
set_option maxRecDepth 20000 in
theorem ctX11_paid {E : EV} {ad : Nat → Nat} {M : MM} {tl : Int64} {Φ : Option Value → va_W → Prop} {post : Int32 → MM → Int64 → Prop} {v1 : Int32} {v2 : Int32} (h : wpX11_paid post M tl v1 v2) (hp : ∀ r M tl, post r M tl → Φ (some (.int r)) (WM E ad M tl)) : Tm E kX11_paid (WM E ad M tl) [.ref (ad (81)), .int v1, .int v2] Φ := by
  unfold wpX11_paid at h
  show T E kX11_paid 0 0 (WM E ad M tl) 0 [(0, .ref (ad (81))), (1, .int v1), (2, .int v2)] [] Φ
  refine tj_iload_n rfl dX11_paid_0 rfl ?_
  refine cf_S (z := kX11_isMany) (As := [_]) rfl dX11_paid_1 rfl ml_X11_312 okX11_isMany rfl (rm_ok rfl) (Nat.le_of_ble_eq_true rfl) (Nat.le_of_ble_eq_true rfl) rfl ?_
  refine ctX11_isMany h (fun r3 M1 t2 h => ?_)
  refine tj_if_eq (tgt := 14) rfl rfl dX11_paid_4 (fun hc => ?_) (fun hc => ?_)
  · rw [if_pos hc] at h
    refine tj_iconst (v := -1) rfl dX11_paid_14 (by decide) ?_
    exact tj_ireturn (ty := .int) dX11_paid_15 rfl rfl (Nat.zero_le _) (Nat.zero_le _) (hp _ _ _ h)
  · rw [if_neg hc] at h
    refine tj_iload_n rfl dX11_paid_7 rfl ?_
    refine cf_S (z := kX11_isBank) (As := [_]) rfl dX11_paid_8 rfl ml_X11_279 okX11_isBank rfl (rm_ok rfl) (Nat.le_of_ble_eq_true rfl) (Nat.le_of_ble_eq_true rfl) rfl ?_
    refine ctX11_isBank h (fun r6 M4 t5 h => ?_)
    refine tj_if_ne (tgt := 16) rfl rfl dX11_paid_11 (fun hc => ?_) (fun hc => ?_)
    · rw [if_neg hc] at h
      refine tj_aload_n rfl dX11_paid_16 rfl ?_
      refine tj_iload_n rfl dX11_paid_17 rfl ?_
      refine cf_V11 (a := 81) (z := kX11_goRun) (As := [_]) rfl rfl dX11_paid_18 rfl ml_X11_315 okX11_goRun rfl (rm_ok rfl) (Nat.le_of_ble_eq_true rfl) (Nat.le_of_ble_eq_true rfl) rfl rfl ?_
      refine ctX11_goRun h (fun M7 t8 h => ?_)
      refine tj_aload_n rfl dX11_paid_21 rfl ?_
      refine gf11_paidBy (a := 81) rfl rfl dX11_paid_22 fl_X11_71 ?_
      refine tj_iload_n rfl dX11_paid_25 rfl ?_
      obtain ⟨hi9, h⟩ := h
      refine af_iald (a := 102) rfl rfl dX11_paid_26 hi9 ?_
      exact tj_ireturn (ty := .int) dX11_paid_27 rfl rfl (Nat.zero_le _) (Nat.zero_le _) (hp _ _ _ h)
    · rw [if_pos hc] at h
      refine tj_iconst (v := -1) rfl dX11_paid_14 (by decide) ?_
      exact tj_ireturn (ty := .int) dX11_paid_15 rfl rfl (Nat.zero_le _) (Nat.zero_le _) (hp _ _ _ h)
def wX11_owes_78 (post : Int32 → MM → Int64 → Prop) (bk26 : MM → Int64 → Int32 → Int32 → Int32 → Prop) (M : MM) (tl : Int64) (v2 : Int32) (v3 : Int32) (v4 : Int32) : Prop :=
  bk26 M tl v2 v3 (v4 + 1)
set_option maxHeartbeats 4000000 in
set_option maxRecDepth 20000 in
theorem bX11_owes_78 {E : EV} {ad : Nat → Nat} {M : MM} {tl : Int64} {Φ : Option Value → va_W → Prop} {post : Int32 → MM → Int64 → Prop} {bk26 : MM → Int64 → Int32 → Int32 → Int32 → Prop} {v2 : Int32} {v3 : Int32} {v4 : Int32} (hp : ∀ r M tl, post r M tl → Φ (some (.int r)) (WM E ad M tl)) (hb26 : ∀ (M : MM) (tl : Int64) (v2 : Int32) (v3 : Int32) (v4 : Int32), bk26 M tl v2 v3 v4 → T E kX11_owes 0 0 (WM E ad M tl) 26 [(0, .ref (ad (81))), (2, .int v2), (3, .int v3), (4, .int v4)] [] Φ) (h : wX11_owes_78 post bk26 M tl v2 v3 v4) : T E kX11_owes 0 0 (WM E ad M tl) 78 [(0, .ref (ad (81))), (2, .int v2), (3, .int v3), (4, .int v4)] [] Φ := by
  unfold wX11_owes_78 at h
  refine tj_iinc (v := _ + 1) (l' := [(0, _), (2, _), (3, _), (4, _)]) rfl dX11_owes_78 rfl (by decide) rfl rfl ?_
  refine tj_goto (tgt := 26) rfl dX11_owes_81 ?_
  exact hb26 _ _ _ _ _ h
def wX11_owes_75 (post : Int32 → MM → Int64 → Prop) (bk26 : MM → Int64 → Int32 → Int32 → Int32 → Prop) (M : MM) (tl : Int64) (v2 : Int32) (v4 : Int32) (s0 : Int32) (s1 : Int32) (s2 : Int32) : Prop :=
  wX11_owes_78 post bk26 M tl v2 (s0 ||| (s1 <<< (s2 &&& 31))) v4
set_option maxHeartbeats 4000000 in
set_option maxRecDepth 20000 in
theorem bX11_owes_75 {E : EV} {ad : Nat → Nat} {M : MM} {tl : Int64} {Φ : Option Value → va_W → Prop} {post : Int32 → MM → Int64 → Prop} {bk26 : MM → Int64 → Int32 → Int32 → Int32 → Prop} {v2 : Int32} {v4 : Int32} {s0 : Int32} {s1 : Int32} {s2 : Int32} (hp : ∀ r M tl, post r M tl → Φ (some (.int r)) (WM E ad M tl)) (hb26 : ∀ (M : MM) (tl : Int64) (v2 : Int32) (v3 : Int32) (v4 : Int32), bk26 M tl v2 v3 v4 → T E kX11_owes 0 0 (WM E ad M tl) 26 [(0, .ref (ad (81))), (2, .int v2), (3, .int v3), (4, .int v4)] [] Φ) (h : wX11_owes_75 post bk26 M tl v2 v4 s0 s1 s2) : T E kX11_owes 0 0 (WM E ad M tl) 75 [(0, .ref (ad (81))), (2, .int v2), (4, .int v4)] [.int s2, .int s1, .int s0] Φ := by
  unfold wX11_owes_75 at h
  refine tj_ishl rfl dX11_owes_75 ?_
  refine tj_ior rfl dX11_owes_76 ?_
  refine tj_istore_n (l' := [(0, _), (2, _), (3, _), (4, _)]) rfl dX11_owes_77 (by decide) rfl ?_
  exact bX11_owes_78 hp hb26 h
def wX11_owes_26 (post : Int32 → MM → Int64 → Prop) : Nat → MM → Int64 → Int32 → Int32 → Int32 → Prop
  | 0, _, _, _, _, _ => False
  | n + 1, M, tl, v2, v3, v4 =>
    (if (M 81 2) ≤ v4 then post v3 M tl else wpX11_isEven (fun r3 M1 t2 => (if r3 = 0 then (vp_in v4 (al 99) ∧ (if (M1 99 (v4 : Int32).toNatClampNeg) = ((1 : Int32) - v2) then (if v2 = 0 then wX11_owes_75 post (wX11_owes_26 post n) M1 t2 v2 v4 v3 1 v4 else wpX11_matchOf (fun r7 M5 t6 => wX11_owes_75 post (wX11_owes_26 post n) M5 t6 v2 v4 v3 1 r7) M1 t2 0 v4) else wX11_owes_78 post (wX11_owes_26 post n) M1 t2 v2 v3 v4)) else wX11_owes_78 post (wX11_owes_26 post n) M1 t2 v2 v3 v4)) M tl v4)
set_option maxHeartbeats 4000000 in
set_option maxRecDepth 20000 in
theorem bX11_owes_26 {E : EV} {ad : Nat → Nat} {Φ : Option Value → va_W → Prop} {post : Int32 → MM → Int64 → Prop}  (hp : ∀ r M tl, post r M tl → Φ (some (.int r)) (WM E ad M tl)) : ∀ (n : Nat) (M : MM) (tl : Int64) (v2 : Int32) (v3 : Int32) (v4 : Int32), wX11_owes_26 post n M tl v2 v3 v4 → T E kX11_owes 0 0 (WM E ad M tl) 26 [(0, .ref (ad (81))), (2, .int v2), (3, .int v3), (4, .int v4)] [] Φ := by
  intro n
  induction n with
  | zero => intro M tl v2 v3 v4 h; exact False.elim h
  | succ n ih =>
    intro M tl v2 v3 v4 h
    unfold wX11_owes_26 at h
    refine tj_iload rfl dX11_owes_26 rfl ?_
    refine tj_aload_n rfl dX11_owes_28 rfl ?_
    refine gf11_lots (a := 81) rfl rfl dX11_owes_29 fl_X11_129 ?_
    refine tj_icmp_ge (tgt := 84) rfl rfl dX11_owes_32 (fun hc => ?_) (fun hc => ?_)
    · rw [if_pos hc] at h
      refine tj_iload_n rfl dX11_owes_84 rfl ?_
      exact tj_ireturn (ty := .int) dX11_owes_85 rfl rfl (Nat.zero_le _) (Nat.zero_le _) (hp _ _ _ h)
    · rw [if_neg hc] at h
      refine tj_aload_n rfl dX11_owes_35 rfl ?_
      refine tj_iload rfl dX11_owes_36 rfl ?_
      refine cf_V11 (a := 81) (z := kX11_isEven) (As := [_]) rfl rfl dX11_owes_38 rfl ml_X11_292 okX11_isEven rfl (rm_ok rfl) (Nat.le_of_ble_eq_true rfl) (Nat.le_of_ble_eq_true rfl) rfl rfl ?_
      refine ctX11_isEven h (fun r3 M1 t2 h => ?_)
      refine tj_if_ne (tgt := 78) rfl rfl dX11_owes_41 (fun hc => ?_) (fun hc => ?_)
      · rw [if_neg hc] at h
        exact bX11_owes_78 hp ih h
      · rw [if_pos hc] at h
        refine tj_aload_n rfl dX11_owes_44 rfl ?_
        refine gf11_latest (a := 81) rfl rfl dX11_owes_45 fl_X11_62 ?_
        refine tj_iload rfl dX11_owes_48 rfl ?_
        obtain ⟨hi4, h⟩ := h
        refine af_iald (a := 99) rfl rfl dX11_owes_50 hi4 ?_
        refine tj_iconst (v := 1) rfl dX11_owes_51 (by decide) ?_
        refine tj_iload_n rfl dX11_owes_52 rfl ?_
        refine tj_isub rfl dX11_owes_53 ?_
        refine tj_icmp_ne (tgt := 78) rfl rfl dX11_owes_54 (fun hc => ?_) (fun hc => ?_)
        · rw [if_neg hc] at h
          exact bX11_owes_78 hp ih h
        · rw [if_pos hc] at h
          refine tj_iload_n rfl dX11_owes_57 rfl ?_
          refine tj_iconst (v := 1) rfl dX11_owes_58 (by decide) ?_
          refine tj_iload_n rfl dX11_owes_59 rfl ?_
          refine tj_if_ne (tgt := 68) rfl rfl dX11_owes_60 (fun hc => ?_) (fun hc => ?_)
          · rw [if_neg hc] at h
            refine tj_aload_n rfl dX11_owes_68 rfl ?_
            refine tj_iconst (v := 0) rfl dX11_owes_69 (by decide) ?_
            refine tj_iload rfl dX11_owes_70 rfl ?_
            refine cf_V11 (a := 81) (z := kX11_matchOf) (As := [_, _]) rfl rfl dX11_owes_72 rfl ml_X11_289 okX11_matchOf rfl (rm_ok rfl) (Nat.le_of_ble_eq_true rfl) (Nat.le_of_ble_eq_true rfl) rfl rfl ?_
            refine ctX11_matchOf h (fun r7 M5 t6 h => ?_)
            exact tj_pick (l' := [(0, _), (2, _), (4, _)]) [0, 1, 3] rfl (bX11_owes_75 hp ih h)
          · rw [if_pos hc] at h
            refine tj_iload rfl dX11_owes_63 rfl ?_
            refine tj_goto (tgt := 75) rfl dX11_owes_65 ?_
            exact tj_pick (l' := [(0, _), (2, _), (4, _)]) [0, 1, 3] rfl (bX11_owes_75 hp ih h)
def wpX11_owes (post : Int32 → MM → Int64 → Prop) (M : MM) (tl : Int64) (v1 : Int32) (v2 : Int32) : Prop :=
  wpX11_isMany (fun r3 M1 t2 => (if r3 = 0 then post (-1) M1 t2 else wpX11_isBank (fun r6 M4 t5 => (if r6 = 0 then post (-1) M4 t5 else wpX11_goRun (fun M7 t8 => (∃ n9, wX11_owes_26 post  n9 M7 t8 v2 0 0)) M4 t5 v1)) M1 t2 v2)) M tl v1
set_option maxHeartbeats 4000000 in
set_option maxRecDepth 20000 in
theorem ctX11_owes {E : EV} {ad : Nat → Nat} {M : MM} {tl : Int64} {Φ : Option Value → va_W → Prop} {post : Int32 → MM → Int64 → Prop} {v1 : Int32} {v2 : Int32} (h : wpX11_owes post M tl v1 v2) (hp : ∀ r M tl, post r M tl → Φ (some (.int r)) (WM E ad M tl)) : Tm E kX11_owes (WM E ad M tl) [.ref (ad (81)), .int v1, .int v2] Φ := by
  unfold wpX11_owes at h
  show T E kX11_owes 0 0 (WM E ad M tl) 0 [(0, .ref (ad (81))), (1, .int v1), (2, .int v2)] [] Φ
  refine tj_iload_n rfl dX11_owes_0 rfl ?_
  refine cf_S (z := kX11_isMany) (As := [_]) rfl dX11_owes_1 rfl ml_X11_312 okX11_isMany rfl (rm_ok rfl) (Nat.le_of_ble_eq_true rfl) (Nat.le_of_ble_eq_true rfl) rfl ?_
  refine ctX11_isMany h (fun r3 M1 t2 h => ?_)
  refine tj_if_eq (tgt := 14) rfl rfl dX11_owes_4 (fun hc => ?_) (fun hc => ?_)
  · rw [if_pos hc] at h
    refine tj_iconst (v := -1) rfl dX11_owes_14 (by decide) ?_
    exact tj_ireturn (ty := .int) dX11_owes_15 rfl rfl (Nat.zero_le _) (Nat.zero_le _) (hp _ _ _ h)
  · rw [if_neg hc] at h
    refine tj_iload_n rfl dX11_owes_7 rfl ?_
    refine cf_S (z := kX11_isBank) (As := [_]) rfl dX11_owes_8 rfl ml_X11_279 okX11_isBank rfl (rm_ok rfl) (Nat.le_of_ble_eq_true rfl) (Nat.le_of_ble_eq_true rfl) rfl ?_
    refine ctX11_isBank h (fun r6 M4 t5 h => ?_)
    refine tj_if_ne (tgt := 16) rfl rfl dX11_owes_11 (fun hc => ?_) (fun hc => ?_)
    · rw [if_neg hc] at h
      refine tj_aload_n rfl dX11_owes_16 rfl ?_
      refine tj_iload_n rfl dX11_owes_17 rfl ?_
      refine cf_V11 (a := 81) (z := kX11_goRun) (As := [_]) rfl rfl dX11_owes_18 rfl ml_X11_315 okX11_goRun rfl (rm_ok rfl) (Nat.le_of_ble_eq_true rfl) (Nat.le_of_ble_eq_true rfl) rfl rfl ?_
      refine ctX11_goRun h (fun M7 t8 h => ?_)
      refine tj_iconst (v := 0) rfl dX11_owes_21 (by decide) ?_
      refine tj_istore_n (l' := [(0, _), (1, _), (2, _), (3, _)]) rfl dX11_owes_22 (by decide) rfl ?_
      refine tj_iconst (v := 0) rfl dX11_owes_23 (by decide) ?_
      refine tj_istore (l' := [(0, _), (1, _), (2, _), (3, _), (4, _)]) rfl dX11_owes_24 (by decide) rfl ?_
      obtain ⟨n9, h⟩ := h
      exact tj_pick (l' := [(0, _), (2, _), (3, _), (4, _)]) [0, 2, 3, 4] rfl (bX11_owes_26 hp  n9 _ _ _ _ _ h)
    · rw [if_pos hc] at h
      refine tj_iconst (v := -1) rfl dX11_owes_14 (by decide) ?_
      exact tj_ireturn (ty := .int) dX11_owes_15 rfl rfl (Nat.zero_le _) (Nat.zero_le _) (hp _ _ _ h)
def wpX11_fate (post : Int32 → MM → Int64 → Prop) (M : MM) (tl : Int64) (v1 : Int32) : Prop :=
  (vp_in 16 (al 82) ∧ wpX11_in (fun r4 M2 t3 => (if r4 = 0 then post (-1) M2 t3 else wpX11_goRun (fun M5 t6 => (vp_in v1 (al 103) ∧ post (M5 103 (v1 : Int32).toNatClampNeg) M5 t6)) M2 t3 24)) M tl ((v1 : Int32).toInt64) 0 (((M 82 (16 : Int32).toNatClampNeg) - 1 : Int32).toInt64))
set_option maxHeartbeats 4000000 in
set_option maxRecDepth 20000 in
theorem ctX11_fate {E : EV} {ad : Nat → Nat} {M : MM} {tl : Int64} {Φ : Option Value → va_W → Prop} {post : Int32 → MM → Int64 → Prop} {v1 : Int32} (h : wpX11_fate post M tl v1) (hp : ∀ r M tl, post r M tl → Φ (some (.int r)) (WM E ad M tl)) : Tm E kX11_fate (WM E ad M tl) [.ref (ad (81)), .int v1] Φ := by
  unfold wpX11_fate at h
  show T E kX11_fate 0 0 (WM E ad M tl) 0 [(0, .ref (ad (81))), (1, .int v1)] [] Φ
  refine tj_iload_n rfl dX11_fate_0 rfl ?_
  refine tj_i2l rfl dX11_fate_1 ?_
  refine tj_lconst (v := 0) rfl dX11_fate_2 (by decide) ?_
  refine tj_aload_n rfl dX11_fate_3 rfl ?_
  refine gf11_st (a := 81) rfl rfl dX11_fate_4 fl_X11_7 ?_
  refine tj_bipush (v := 16) rfl dX11_fate_7 (by decide) ?_
  obtain ⟨hi1, h⟩ := h
  refine af_iald (a := 82) rfl rfl dX11_fate_9 hi1 ?_
  refine tj_iconst (v := 1) rfl dX11_fate_10 (by decide) ?_
  refine tj_isub rfl dX11_fate_11 ?_
  refine tj_i2l rfl dX11_fate_12 ?_
  refine cf_S (z := kX11_in) (As := [_, _, _]) rfl dX11_fate_13 rfl ml_X11_146 okX11_in rfl (rm_ok rfl) (Nat.le_of_ble_eq_true rfl) (Nat.le_of_ble_eq_true rfl) rfl ?_
  refine ctX11_in h (fun r4 M2 t3 h => ?_)
  refine tj_if_ne (tgt := 21) rfl rfl dX11_fate_16 (fun hc => ?_) (fun hc => ?_)
  · rw [if_neg hc] at h
    refine tj_aload_n rfl dX11_fate_21 rfl ?_
    refine tj_bipush (v := 24) rfl dX11_fate_22 (by decide) ?_
    refine cf_V11 (a := 81) (z := kX11_goRun) (As := [_]) rfl rfl dX11_fate_24 rfl ml_X11_315 okX11_goRun rfl (rm_ok rfl) (Nat.le_of_ble_eq_true rfl) (Nat.le_of_ble_eq_true rfl) rfl rfl ?_
    refine ctX11_goRun h (fun M5 t6 h => ?_)
    refine tj_aload_n rfl dX11_fate_27 rfl ?_
    refine gf11_fates (a := 81) rfl rfl dX11_fate_28 fl_X11_74 ?_
    refine tj_iload_n rfl dX11_fate_31 rfl ?_
    obtain ⟨hi7, h⟩ := h
    refine af_iald (a := 103) rfl rfl dX11_fate_32 hi7 ?_
    exact tj_ireturn (ty := .int) dX11_fate_33 rfl rfl (Nat.zero_le _) (Nat.zero_le _) (hp _ _ _ h)
  · rw [if_pos hc] at h
    refine tj_iconst (v := -1) rfl dX11_fate_19 (by decide) ?_
    exact tj_ireturn (ty := .int) dX11_fate_20 rfl rfl (Nat.zero_le _) (Nat.zero_le _) (hp _ _ _ h)
def wX11_uneven_41 (post : Int32 → MM → Int64 → Prop) : Nat → MM → Int64 → Int32 → Int32 → Int32 → Int32 → Prop
  | 0, _, _, _, _, _, _ => False
  | n + 1, M, tl, v1, v2, v3, v4 =>
    (if ((v3 >>> (v4 &&& 31)) &&& 1) = 0 then (wX11_uneven_41 post n) M tl v1 v2 v3 (v4 + 1) else (if v1 = 0 then post v2 M tl else post v4 M tl))
set_option maxHeartbeats 4000000 in
set_option maxRecDepth 20000 in
theorem bX11_uneven_41 {E : EV} {ad : Nat → Nat} {Φ : Option Value → va_W → Prop} {post : Int32 → MM → Int64 → Prop}  (hp : ∀ r M tl, post r M tl → Φ (some (.int r)) (WM E ad M tl)) : ∀ (n : Nat) (M : MM) (tl : Int64) (v1 : Int32) (v2 : Int32) (v3 : Int32) (v4 : Int32), wX11_uneven_41 post n M tl v1 v2 v3 v4 → T E kX11_uneven 0 0 (WM E ad M tl) 41 [(1, .int v1), (2, .int v2), (3, .int v3), (4, .int v4)] [] Φ := by
  intro n
  induction n with
  | zero => intro M tl v1 v2 v3 v4 h; exact False.elim h
  | succ n ih =>
    intro M tl v1 v2 v3 v4 h
    unfold wX11_uneven_41 at h
    refine tj_iload_n rfl dX11_uneven_41 rfl ?_
    refine tj_iload rfl dX11_uneven_42 rfl ?_
    refine tj_ishr rfl dX11_uneven_44 ?_
    refine tj_iconst (v := 1) rfl dX11_uneven_45 (by decide) ?_
    refine tj_iand rfl dX11_uneven_46 ?_
    refine tj_if_ne (tgt := 56) rfl rfl dX11_uneven_47 (fun hc => ?_) (fun hc => ?_)
    · rw [if_neg hc] at h
      refine tj_iload_n rfl dX11_uneven_56 rfl ?_
      refine tj_if_ne (tgt := 64) rfl rfl dX11_uneven_57 (fun hc => ?_) (fun hc => ?_)
      · rw [if_neg hc] at h
        refine tj_iload rfl dX11_uneven_64 rfl ?_
        exact tj_ireturn (ty := .int) dX11_uneven_66 rfl rfl (Nat.zero_le _) (Nat.zero_le _) (hp _ _ _ h)
      · rw [if_pos hc] at h
        refine tj_iload_n rfl dX11_uneven_60 rfl ?_
        refine tj_goto (tgt := 66) rfl dX11_uneven_61 ?_
        exact tj_ireturn (ty := .int) dX11_uneven_66 rfl rfl (Nat.zero_le _) (Nat.zero_le _) (hp _ _ _ h)
    · rw [if_pos hc] at h
      refine tj_iinc (v := _ + 1) (l' := [(1, _), (2, _), (3, _), (4, _)]) rfl dX11_uneven_50 rfl (by decide) rfl rfl ?_
      refine tj_goto (tgt := 41) rfl dX11_uneven_53 ?_
      exact ih _ _ _ _ _ _ h
def wX11_uneven_18 (post : Int32 → MM → Int64 → Prop) : Nat → MM → Int64 → Int32 → Int32 → Prop
  | 0, _, _, _, _ => False
  | n + 1, M, tl, v1, v2 =>
    (if 24 ≤ v2 then post (-4) M tl else wpX11_goMonth (fun M1 t2 => wpX11_oddLots (fun r5 M3 t4 => (if r5 = 0 then (wX11_uneven_18 post n) M3 t4 v1 (v2 + 1) else (∃ n9, wX11_uneven_41 post  n9 M3 t4 v1 v2 r5 0))) M1 t2 ) M tl v2)
set_option maxHeartbeats 4000000 in
set_option maxRecDepth 20000 in
theorem bX11_uneven_18 {E : EV} {ad : Nat → Nat} {Φ : Option Value → va_W → Prop} {post : Int32 → MM → Int64 → Prop}  (hp : ∀ r M tl, post r M tl → Φ (some (.int r)) (WM E ad M tl)) : ∀ (n : Nat) (M : MM) (tl : Int64) (v1 : Int32) (v2 : Int32), wX11_uneven_18 post n M tl v1 v2 → T E kX11_uneven 0 0 (WM E ad M tl) 18 [(0, .ref (ad (81))), (1, .int v1), (2, .int v2)] [] Φ := by
  intro n
  induction n with
  | zero => intro M tl v1 v2 h; exact False.elim h
  | succ n ih =>
    intro M tl v1 v2 h
    unfold wX11_uneven_18 at h
    refine tj_iload_n rfl dX11_uneven_18 rfl ?_
    refine tj_bipush (v := 24) rfl dX11_uneven_19 (by decide) ?_
    refine tj_icmp_ge (tgt := 73) rfl rfl dX11_uneven_21 (fun hc => ?_) (fun hc => ?_)
    · rw [if_pos hc] at h
      refine tj_bipush (v := -4) rfl dX11_uneven_73 (by decide) ?_
      exact tj_ireturn (ty := .int) dX11_uneven_75 rfl rfl (Nat.zero_le _) (Nat.zero_le _) (hp _ _ _ h)
    · rw [if_neg hc] at h
      refine tj_aload_n rfl dX11_uneven_24 rfl ?_
      refine tj_iload_n rfl dX11_uneven_25 rfl ?_
      refine cf_V11 (a := 81) (z := kX11_goMonth) (As := [_]) rfl rfl dX11_uneven_26 rfl ml_X11_307 okX11_goMonth rfl (rm_ok rfl) (Nat.le_of_ble_eq_true rfl) (Nat.le_of_ble_eq_true rfl) rfl rfl ?_
      refine ctX11_goMonth h (fun M1 t2 h => ?_)
      refine tj_aload_n rfl dX11_uneven_29 rfl ?_
      refine cf_V11 (a := 81) (z := kX11_oddLots) (As := []) rfl rfl dX11_uneven_30 rfl ml_X11_298 okX11_oddLots rfl (rm_ok rfl) (Nat.le_of_ble_eq_true rfl) (Nat.le_of_ble_eq_true rfl) rfl rfl ?_
      refine ctX11_oddLots h (fun r5 M3 t4 h => ?_)
      refine tj_istore_n (l' := [(0, _), (1, _), (2, _), (3, _)]) rfl dX11_uneven_33 (by decide) rfl ?_
      refine tj_iload_n rfl dX11_uneven_34 rfl ?_
      refine tj_if_eq (tgt := 67) rfl rfl dX11_uneven_35 (fun hc => ?_) (fun hc => ?_)
      · rw [if_pos hc] at h
        refine tj_iinc (v := _ + 1) (l' := [(0, _), (1, _), (2, _), (3, _)]) rfl dX11_uneven_67 rfl (by decide) rfl rfl ?_
        refine tj_goto (tgt := 18) rfl dX11_uneven_70 ?_
        exact tj_pick (l' := [(0, _), (1, _), (2, _)]) [0, 1, 2] rfl (ih _ _ _ _ h)
      · rw [if_neg hc] at h
        refine tj_iconst (v := 0) rfl dX11_uneven_38 (by decide) ?_
        refine tj_istore (l' := [(0, _), (1, _), (2, _), (3, _), (4, _)]) rfl dX11_uneven_39 (by decide) rfl ?_
        obtain ⟨n9, h⟩ := h
        exact tj_pick (l' := [(1, _), (2, _), (3, _), (4, _)]) [1, 2, 3, 4] rfl (bX11_uneven_41 hp  n9 _ _ _ _ _ _ h)
def wpX11_uneven (post : Int32 → MM → Int64 → Prop) (M : MM) (tl : Int64) (v1 : Int32) : Prop :=
  wpX11_in (fun r3 M1 t2 => (if r3 = 0 then post (-1) M1 t2 else wpX11_startRun (fun M4 t5 => (∃ n9, wX11_uneven_18 post  n9 M4 t5 v1 0)) M1 t2 )) M tl ((v1 : Int32).toInt64) 0 1
set_option maxHeartbeats 4000000 in
set_option maxRecDepth 20000 in
theorem ctX11_uneven {E : EV} {ad : Nat → Nat} {M : MM} {tl : Int64} {Φ : Option Value → va_W → Prop} {post : Int32 → MM → Int64 → Prop} {v1 : Int32} (h : wpX11_uneven post M tl v1) (hp : ∀ r M tl, post r M tl → Φ (some (.int r)) (WM E ad M tl)) : Tm E kX11_uneven (WM E ad M tl) [.ref (ad (81)), .int v1] Φ := by
  unfold wpX11_uneven at h
  show T E kX11_uneven 0 0 (WM E ad M tl) 0 [(0, .ref (ad (81))), (1, .int v1)] [] Φ
  refine tj_iload_n rfl dX11_uneven_0 rfl ?_
  refine tj_i2l rfl dX11_uneven_1 ?_
  refine tj_lconst (v := 0) rfl dX11_uneven_2 (by decide) ?_
  refine tj_lconst (v := 1) rfl dX11_uneven_3 (by decide) ?_
  refine cf_S (z := kX11_in) (As := [_, _, _]) rfl dX11_uneven_4 rfl ml_X11_146 okX11_in rfl (rm_ok rfl) (Nat.le_of_ble_eq_true rfl) (Nat.le_of_ble_eq_true rfl) rfl ?_
  refine ctX11_in h (fun r3 M1 t2 h => ?_)
  refine tj_if_ne (tgt := 12) rfl rfl dX11_uneven_7 (fun hc => ?_) (fun hc => ?_)
  · rw [if_neg hc] at h
    refine tj_aload_n rfl dX11_uneven_12 rfl ?_
    refine cf_V11 (a := 81) (z := kX11_startRun) (As := []) rfl rfl dX11_uneven_13 rfl ml_X11_304 okX11_startRun rfl (rm_ok rfl) (Nat.le_of_ble_eq_true rfl) (Nat.le_of_ble_eq_true rfl) rfl rfl ?_
    refine ctX11_startRun h (fun M4 t5 h => ?_)
    refine tj_iconst (v := 0) rfl dX11_uneven_16 (by decide) ?_
    refine tj_istore_n (l' := [(0, _), (1, _), (2, _)]) rfl dX11_uneven_17 (by decide) rfl ?_
    obtain ⟨n9, h⟩ := h
    exact bX11_uneven_18 hp  n9 _ _ _ _ h
  · rw [if_pos hc] at h
    refine tj_iconst (v := -1) rfl dX11_uneven_10 (by decide) ?_
    exact tj_ireturn (ty := .int) dX11_uneven_11 rfl rfl (Nat.zero_le _) (Nat.zero_le _) (hp _ _ _ h)
def wX11_go_36 (post : Int32 → MM → Int64 → Prop) (bk10 : MM → Int64 → Int32 → Int32 → Prop) (M : MM) (tl : Int64) (v2 : Int32) (s0 : Int32) (s1 : Int32) : Prop :=
  wpX11_flag (fun r3 M1 t2 => bk10 M1 t2 (s0 + r3) (v2 + 1)) M tl s1
set_option maxHeartbeats 4000000 in
set_option maxRecDepth 20000 in
theorem bX11_go_36 {E : EV} {ad : Nat → Nat} {M : MM} {tl : Int64} {Φ : Option Value → va_W → Prop} {post : Int32 → MM → Int64 → Prop} {bk10 : MM → Int64 → Int32 → Int32 → Prop} {v2 : Int32} {s0 : Int32} {s1 : Int32} (hp : ∀ r M tl, post r M tl → Φ (some (.int r)) (WM E ad M tl)) (hb10 : ∀ (M : MM) (tl : Int64) (v1 : Int32) (v2 : Int32), bk10 M tl v1 v2 → T E kX11_go 0 0 (WM E ad M tl) 10 [(0, .ref (ad (81))), (1, .int v1), (2, .int v2)] [] Φ) (h : wX11_go_36 post bk10 M tl v2 s0 s1) : T E kX11_go 0 0 (WM E ad M tl) 36 [(0, .ref (ad (81))), (2, .int v2)] [.int s1, .int s0] Φ := by
  unfold wX11_go_36 at h
  refine cf_S (z := kX11_flag) (As := [_]) rfl dX11_go_36 rfl ml_X11_265 okX11_flag rfl (rm_ok rfl) (Nat.le_of_ble_eq_true rfl) (Nat.le_of_ble_eq_true rfl) rfl ?_
  refine ctX11_flag h (fun r3 M1 t2 h => ?_)
  refine tj_iadd rfl dX11_go_39 ?_
  refine tj_istore_n (l' := [(0, _), (1, _), (2, _)]) rfl dX11_go_40 (by decide) rfl ?_
  refine tj_iinc (v := _ + 1) (l' := [(0, _), (1, _), (2, _)]) rfl dX11_go_41 rfl (by decide) rfl rfl ?_
  refine tj_goto (tgt := 10) rfl dX11_go_44 ?_
  exact hb10 _ _ _ _ h
def wX11_go_49 (post : Int32 → MM → Int64 → Prop) : Nat → MM → Int64 → Int32 → Int32 → Prop
  | 0, _, _, _, _ => False
  | n + 1, M, tl, v1, v2 =>
    (if 16 ≤ v2 then (vp_in 16 (al 82) ∧ (∀ M2 : MM, M2 = mset M 82 (16 : Int32).toNatClampNeg 0 → post v1 M2 tl)) else (vp_in v2 (al 98) ∧ (vp_in v2 (al 82) ∧ (∀ M5 : MM, M5 = mset M 82 (v2 : Int32).toNatClampNeg (M 98 (v2 : Int32).toNatClampNeg) → (wX11_go_49 post n) M5 tl v1 (v2 + 1)))))
set_option maxHeartbeats 4000000 in
set_option maxRecDepth 20000 in
theorem bX11_go_49 {E : EV} {ad : Nat → Nat} {Φ : Option Value → va_W → Prop} {post : Int32 → MM → Int64 → Prop}  (hp : ∀ r M tl, post r M tl → Φ (some (.int r)) (WM E ad M tl)) : ∀ (n : Nat) (M : MM) (tl : Int64) (v1 : Int32) (v2 : Int32), wX11_go_49 post n M tl v1 v2 → T E kX11_go 0 0 (WM E ad M tl) 49 [(0, .ref (ad (81))), (1, .int v1), (2, .int v2)] [] Φ := by
  intro n
  induction n with
  | zero => intro M tl v1 v2 h; exact False.elim h
  | succ n ih =>
    intro M tl v1 v2 h
    unfold wX11_go_49 at h
    refine tj_iload_n rfl dX11_go_49 rfl ?_
    refine tj_bipush (v := 16) rfl dX11_go_50 (by decide) ?_
    refine tj_icmp_ge (tgt := 73) rfl rfl dX11_go_52 (fun hc => ?_) (fun hc => ?_)
    · rw [if_pos hc] at h
      refine tj_aload_n rfl dX11_go_73 rfl ?_
      refine gf11_st (a := 81) rfl rfl dX11_go_74 fl_X11_7 ?_
      refine tj_bipush (v := 16) rfl dX11_go_77 (by decide) ?_
      refine tj_iconst (v := 0) rfl dX11_go_79 (by decide) ?_
      obtain ⟨hi1, h⟩ := h
      refine af_iast (a := 82) rfl rfl dX11_go_80 hi1 ?_
      replace h := h _ rfl
      generalize mset M 82 (16 : Int32).toNatClampNeg 0 = M2 at h ⊢
      refine tj_iload_n rfl dX11_go_81 rfl ?_
      exact tj_ireturn (ty := .int) dX11_go_82 rfl rfl (Nat.zero_le _) (Nat.zero_le _) (hp _ _ _ h)
    · rw [if_neg hc] at h
      refine tj_aload_n rfl dX11_go_55 rfl ?_
      refine gf11_st (a := 81) rfl rfl dX11_go_56 fl_X11_7 ?_
      refine tj_iload_n rfl dX11_go_59 rfl ?_
      refine tj_aload_n rfl dX11_go_60 rfl ?_
      refine gf11_now (a := 81) rfl rfl dX11_go_61 fl_X11_59 ?_
      refine tj_iload_n rfl dX11_go_64 rfl ?_
      obtain ⟨hi3, h⟩ := h
      refine af_iald (a := 98) rfl rfl dX11_go_65 hi3 ?_
      obtain ⟨hi4, h⟩ := h
      refine af_iast (a := 82) rfl rfl dX11_go_66 hi4 ?_
      replace h := h _ rfl
      generalize mset M 82 (v2 : Int32).toNatClampNeg (M 98 (v2 : Int32).toNatClampNeg) = M5 at h ⊢
      refine tj_iinc (v := _ + 1) (l' := [(0, _), (1, _), (2, _)]) rfl dX11_go_67 rfl (by decide) rfl rfl ?_
      refine tj_goto (tgt := 49) rfl dX11_go_70 ?_
      exact ih _ _ _ _ h
def wX11_go_10 (post : Int32 → MM → Int64 → Prop) : Nat → MM → Int64 → Int32 → Int32 → Prop
  | 0, _, _, _, _ => False
  | n + 1, M, tl, v1, v2 =>
    (vp_in 16 (al 82) ∧ (if (M 82 (16 : Int32).toNatClampNeg) ≤ v2 then (∃ n9, wX11_go_49 post  n9 M tl v1 0) else (vp_in v2 (al 103) ∧ (if (M 103 (v2 : Int32).toNatClampNeg) = 0 then wX11_go_36 post (wX11_go_10 post n) M tl v2 v1 1 else wX11_go_36 post (wX11_go_10 post n) M tl v2 v1 0))))
set_option maxHeartbeats 4000000 in
set_option maxRecDepth 20000 in
theorem bX11_go_10 {E : EV} {ad : Nat → Nat} {Φ : Option Value → va_W → Prop} {post : Int32 → MM → Int64 → Prop}  (hp : ∀ r M tl, post r M tl → Φ (some (.int r)) (WM E ad M tl)) : ∀ (n : Nat) (M : MM) (tl : Int64) (v1 : Int32) (v2 : Int32), wX11_go_10 post n M tl v1 v2 → T E kX11_go 0 0 (WM E ad M tl) 10 [(0, .ref (ad (81))), (1, .int v1), (2, .int v2)] [] Φ := by
  intro n
  induction n with
  | zero => intro M tl v1 v2 h; exact False.elim h
  | succ n ih =>
    intro M tl v1 v2 h
    unfold wX11_go_10 at h
    refine tj_iload_n rfl dX11_go_10 rfl ?_
    refine tj_aload_n rfl dX11_go_11 rfl ?_
    refine gf11_st (a := 81) rfl rfl dX11_go_12 fl_X11_7 ?_
    refine tj_bipush (v := 16) rfl dX11_go_15 (by decide) ?_
    obtain ⟨hi1, h⟩ := h
    refine af_iald (a := 82) rfl rfl dX11_go_17 hi1 ?_
    refine tj_icmp_ge (tgt := 47) rfl rfl dX11_go_18 (fun hc => ?_) (fun hc => ?_)
    · rw [if_pos hc] at h
      refine tj_iconst (v := 0) rfl dX11_go_47 (by decide) ?_
      refine tj_istore_n (l' := [(0, _), (1, _), (2, _)]) rfl dX11_go_48 (by decide) rfl ?_
      obtain ⟨n9, h⟩ := h
      exact bX11_go_49 hp  n9 _ _ _ _ h
    · rw [if_neg hc] at h
      refine tj_iload_n rfl dX11_go_21 rfl ?_
      refine tj_aload_n rfl dX11_go_22 rfl ?_
      refine gf11_fates (a := 81) rfl rfl dX11_go_23 fl_X11_74 ?_
      refine tj_iload_n rfl dX11_go_26 rfl ?_
      obtain ⟨hi2, h⟩ := h
      refine af_iald (a := 103) rfl rfl dX11_go_27 hi2 ?_
      refine tj_if_ne (tgt := 35) rfl rfl dX11_go_28 (fun hc => ?_) (fun hc => ?_)
      · rw [if_neg hc] at h
        refine tj_iconst (v := 0) rfl dX11_go_35 (by decide) ?_
        exact tj_pick (l' := [(0, _), (2, _)]) [0, 2] rfl (bX11_go_36 hp ih h)
      · rw [if_pos hc] at h
        refine tj_iconst (v := 1) rfl dX11_go_31 (by decide) ?_
        refine tj_goto (tgt := 36) rfl dX11_go_32 ?_
        exact tj_pick (l' := [(0, _), (2, _)]) [0, 2] rfl (bX11_go_36 hp ih h)
def wpX11_go (post : Int32 → MM → Int64 → Prop) (M : MM) (tl : Int64) : Prop :=
  wpX11_goRun (fun M1 t2 => (∃ n9, wX11_go_10 post  n9 M1 t2 0 0)) M tl 24
set_option maxHeartbeats 4000000 in
set_option maxRecDepth 20000 in
theorem ctX11_go {E : EV} {ad : Nat → Nat} {M : MM} {tl : Int64} {Φ : Option Value → va_W → Prop} {post : Int32 → MM → Int64 → Prop} (h : wpX11_go post M tl ) (hp : ∀ r M tl, post r M tl → Φ (some (.int r)) (WM E ad M tl)) : Tm E kX11_go (WM E ad M tl) [.ref (ad (81))] Φ := by
  unfold wpX11_go at h
  show T E kX11_go 0 0 (WM E ad M tl) 0 [(0, .ref (ad (81)))] [] Φ
  refine tj_aload_n rfl dX11_go_0 rfl ?_
  refine tj_bipush (v := 24) rfl dX11_go_1 (by decide) ?_
  refine cf_V11 (a := 81) (z := kX11_goRun) (As := [_]) rfl rfl dX11_go_3 rfl ml_X11_315 okX11_goRun rfl (rm_ok rfl) (Nat.le_of_ble_eq_true rfl) (Nat.le_of_ble_eq_true rfl) rfl rfl ?_
  refine ctX11_goRun h (fun M1 t2 h => ?_)
  refine tj_iconst (v := 0) rfl dX11_go_6 (by decide) ?_
  refine tj_istore_n (l' := [(0, _), (1, _)]) rfl dX11_go_7 (by decide) rfl ?_
  refine tj_iconst (v := 0) rfl dX11_go_8 (by decide) ?_
  refine tj_istore_n (l' := [(0, _), (1, _), (2, _)]) rfl dX11_go_9 (by decide) rfl ?_
  obtain ⟨n9, h⟩ := h
  exact bX11_go_10 hp  n9 _ _ _ _ h
def wX11_plot_39 (post : Int32 → MM → Int64 → Prop) (M : MM) (tl : Int64) (v1 : Int32) (v2 : Int32) (v3 : Int32) (v4 : Int32) (v5 : Int32) (v6 : Int32) (s0 : Int64) (s1 : Int64) : Prop :=
  wpX11_in (fun r3 M1 t2 => (if r3 = 0 then post (-1) M1 t2 else wpX11_isLot (fun r6 M4 t5 => (if r6 = 0 then post (-1) M4 t5 else wpX11_isThing (fun r9 M7 t8 => (if r9 = 0 then post (-1) M7 t8 else (if v5 = 12 then post (-3) M7 t8 else (vp_in v6 (al 82) ∧ (∀ M11 : MM, M11 = mset M7 82 (v6 : Int32).toNatClampNeg v1 → (vp_in (v6 + 1) (al 82) ∧ (∀ M13 : MM, M13 = mset M11 82 (v6 + 1 : Int32).toNatClampNeg v2 → (vp_in (v6 + 2) (al 82) ∧ (∀ M15 : MM, M15 = mset M13 82 (v6 + 2 : Int32).toNatClampNeg v3 → (vp_in (v6 + 3) (al 82) ∧ (∀ M17 : MM, M17 = mset M15 82 (v6 + 3 : Int32).toNatClampNeg v4 → (vp_in 16 (al 82) ∧ (∀ M19 : MM, M19 = mset M17 82 (16 : Int32).toNatClampNeg (v5 + 1) → post (v5 + 1) M19 t8))))))))))))) M4 t5 v4)) M1 t2 v2 v3)) M tl s0 s1 23
set_option maxHeartbeats 4000000 in
set_option maxRecDepth 20000 in
theorem bX11_plot_39 {E : EV} {ad : Nat → Nat} {M : MM} {tl : Int64} {Φ : Option Value → va_W → Prop} {post : Int32 → MM → Int64 → Prop} {v1 : Int32} {v2 : Int32} {v3 : Int32} {v4 : Int32} {v5 : Int32} {v6 : Int32} {s0 : Int64} {s1 : Int64} (hp : ∀ r M tl, post r M tl → Φ (some (.int r)) (WM E ad M tl)) (h : wX11_plot_39 post M tl v1 v2 v3 v4 v5 v6 s0 s1) : T E kX11_plot 0 0 (WM E ad M tl) 39 [(0, .ref (ad (81))), (1, .int v1), (2, .int v2), (3, .int v3), (4, .int v4), (5, .int v5), (6, .int v6)] [.long s1, .long s0] Φ := by
  unfold wX11_plot_39 at h
  refine tj_ldc2 rfl dX11_plot_39 kl_X11_318 ?_
  refine cf_S (z := kX11_in) (As := [_, _, _]) rfl dX11_plot_42 rfl ml_X11_146 okX11_in rfl (rm_ok rfl) (Nat.le_of_ble_eq_true rfl) (Nat.le_of_ble_eq_true rfl) rfl ?_
  refine ctX11_in h (fun r3 M1 t2 h => ?_)
  refine tj_if_eq (tgt := 65) rfl rfl dX11_plot_45 (fun hc => ?_) (fun hc => ?_)
  · rw [if_pos hc] at h
    refine tj_iconst (v := -1) rfl dX11_plot_65 (by decide) ?_
    exact tj_ireturn (ty := .int) dX11_plot_66 rfl rfl (Nat.zero_le _) (Nat.zero_le _) (hp _ _ _ h)
  · rw [if_neg hc] at h
    refine tj_aload_n rfl dX11_plot_48 rfl ?_
    refine tj_iload_n rfl dX11_plot_49 rfl ?_
    refine tj_iload_n rfl dX11_plot_50 rfl ?_
    refine cf_V11 (a := 81) (z := kX11_isLot) (As := [_, _]) rfl rfl dX11_plot_51 rfl ml_X11_282 okX11_isLot rfl (rm_ok rfl) (Nat.le_of_ble_eq_true rfl) (Nat.le_of_ble_eq_true rfl) rfl rfl ?_
    refine ctX11_isLot h (fun r6 M4 t5 h => ?_)
    refine tj_if_eq (tgt := 65) rfl rfl dX11_plot_54 (fun hc => ?_) (fun hc => ?_)
    · rw [if_pos hc] at h
      refine tj_iconst (v := -1) rfl dX11_plot_65 (by decide) ?_
      exact tj_ireturn (ty := .int) dX11_plot_66 rfl rfl (Nat.zero_le _) (Nat.zero_le _) (hp _ _ _ h)
    · rw [if_neg hc] at h
      refine tj_iload rfl dX11_plot_57 rfl ?_
      refine cf_S (z := kX11_isThing) (As := [_]) rfl dX11_plot_59 rfl ml_X11_273 okX11_isThing rfl (rm_ok rfl) (Nat.le_of_ble_eq_true rfl) (Nat.le_of_ble_eq_true rfl) rfl ?_
      refine ctX11_isThing h (fun r9 M7 t8 h => ?_)
      refine tj_if_ne (tgt := 67) rfl rfl dX11_plot_62 (fun hc => ?_) (fun hc => ?_)
      · rw [if_neg hc] at h
        refine tj_iload rfl dX11_plot_67 rfl ?_
        refine tj_bipush (v := 12) rfl dX11_plot_69 (by decide) ?_
        refine tj_icmp_ne (tgt := 77) rfl rfl dX11_plot_71 (fun hc => ?_) (fun hc => ?_)
        · rw [if_neg hc] at h
          refine tj_aload_n rfl dX11_plot_77 rfl ?_
          refine gf11_st (a := 81) rfl rfl dX11_plot_78 fl_X11_7 ?_
          refine tj_iload rfl dX11_plot_81 rfl ?_
          refine tj_iload_n rfl dX11_plot_83 rfl ?_
          obtain ⟨hi10, h⟩ := h
          refine af_iast (a := 82) rfl rfl dX11_plot_84 hi10 ?_
          replace h := h _ rfl
          generalize mset M7 82 (v6 : Int32).toNatClampNeg v1 = M11 at h ⊢
          refine tj_aload_n rfl dX11_plot_85 rfl ?_
          refine gf11_st (a := 81) rfl rfl dX11_plot_86 fl_X11_7 ?_
          refine tj_iload rfl dX11_plot_89 rfl ?_
          refine tj_iconst (v := 1) rfl dX11_plot_91 (by decide) ?_
          refine tj_iadd rfl dX11_plot_92 ?_
          refine tj_iload_n rfl dX11_plot_93 rfl ?_
          obtain ⟨hi12, h⟩ := h
          refine af_iast (a := 82) rfl rfl dX11_plot_94 hi12 ?_
          replace h := h _ rfl
          generalize mset M11 82 (v6 + 1 : Int32).toNatClampNeg v2 = M13 at h ⊢
          refine tj_aload_n rfl dX11_plot_95 rfl ?_
          refine gf11_st (a := 81) rfl rfl dX11_plot_96 fl_X11_7 ?_
          refine tj_iload rfl dX11_plot_99 rfl ?_
          refine tj_iconst (v := 2) rfl dX11_plot_101 (by decide) ?_
          refine tj_iadd rfl dX11_plot_102 ?_
          refine tj_iload_n rfl dX11_plot_103 rfl ?_
          obtain ⟨hi14, h⟩ := h
          refine af_iast (a := 82) rfl rfl dX11_plot_104 hi14 ?_
          replace h := h _ rfl
          generalize mset M13 82 (v6 + 2 : Int32).toNatClampNeg v3 = M15 at h ⊢
          refine tj_aload_n rfl dX11_plot_105 rfl ?_
          refine gf11_st (a := 81) rfl rfl dX11_plot_106 fl_X11_7 ?_
          refine tj_iload rfl dX11_plot_109 rfl ?_
          refine tj_iconst (v := 3) rfl dX11_plot_111 (by decide) ?_
          refine tj_iadd rfl dX11_plot_112 ?_
          refine tj_iload rfl dX11_plot_113 rfl ?_
          obtain ⟨hi16, h⟩ := h
          refine af_iast (a := 82) rfl rfl dX11_plot_115 hi16 ?_
          replace h := h _ rfl
          generalize mset M15 82 (v6 + 3 : Int32).toNatClampNeg v4 = M17 at h ⊢
          refine tj_aload_n rfl dX11_plot_116 rfl ?_
          refine gf11_st (a := 81) rfl rfl dX11_plot_117 fl_X11_7 ?_
          refine tj_bipush (v := 16) rfl dX11_plot_120 (by decide) ?_
          refine tj_iload rfl dX11_plot_122 rfl ?_
          refine tj_iconst (v := 1) rfl dX11_plot_124 (by decide) ?_
          refine tj_iadd rfl dX11_plot_125 ?_
          obtain ⟨hi18, h⟩ := h
          refine af_iast (a := 82) rfl rfl dX11_plot_126 hi18 ?_
          replace h := h _ rfl
          generalize mset M17 82 (16 : Int32).toNatClampNeg (v5 + 1) = M19 at h ⊢
          refine tj_iload rfl dX11_plot_127 rfl ?_
          refine tj_iconst (v := 1) rfl dX11_plot_129 (by decide) ?_
          refine tj_iadd rfl dX11_plot_130 ?_
          exact tj_ireturn (ty := .int) dX11_plot_131 rfl rfl (Nat.zero_le _) (Nat.zero_le _) (hp _ _ _ h)
        · rw [if_pos hc] at h
          refine tj_bipush (v := -3) rfl dX11_plot_74 (by decide) ?_
          exact tj_ireturn (ty := .int) dX11_plot_76 rfl rfl (Nat.zero_le _) (Nat.zero_le _) (hp _ _ _ h)
      · rw [if_pos hc] at h
        refine tj_iconst (v := -1) rfl dX11_plot_65 (by decide) ?_
        exact tj_ireturn (ty := .int) dX11_plot_66 rfl rfl (Nat.zero_le _) (Nat.zero_le _) (hp _ _ _ h)
def wpX11_plot (post : Int32 → MM → Int64 → Prop) (M : MM) (tl : Int64) (v1 : Int32) (v2 : Int32) (v3 : Int32) (v4 : Int32) : Prop :=
  (vp_in 16 (al 82) ∧ (if (M 82 (16 : Int32).toNatClampNeg) = 0 then wX11_plot_39 post  M tl v1 v2 v3 v4 (M 82 (16 : Int32).toNatClampNeg) ((17 : Int32) + ((4 : Int32) * (M 82 (16 : Int32).toNatClampNeg))) ((v1 : Int32).toInt64) 0 else (vp_in (((17 : Int32) + ((4 : Int32) * (M 82 (16 : Int32).toNatClampNeg))) - 4) (al 82) ∧ wX11_plot_39 post  M tl v1 v2 v3 v4 (M 82 (16 : Int32).toNatClampNeg) ((17 : Int32) + ((4 : Int32) * (M 82 (16 : Int32).toNatClampNeg))) ((v1 : Int32).toInt64) ((M 82 (((17 : Int32) + ((4 : Int32) * (M 82 (16 : Int32).toNatClampNeg))) - 4 : Int32).toNatClampNeg : Int32).toInt64))))
set_option maxHeartbeats 4000000 in
set_option maxRecDepth 20000 in
theorem ctX11_plot {E : EV} {ad : Nat → Nat} {M : MM} {tl : Int64} {Φ : Option Value → va_W → Prop} {post : Int32 → MM → Int64 → Prop} {v1 : Int32} {v2 : Int32} {v3 : Int32} {v4 : Int32} (h : wpX11_plot post M tl v1 v2 v3 v4) (hp : ∀ r M tl, post r M tl → Φ (some (.int r)) (WM E ad M tl)) : Tm E kX11_plot (WM E ad M tl) [.ref (ad (81)), .int v1, .int v2, .int v3, .int v4] Φ := by
  unfold wpX11_plot at h
  show T E kX11_plot 0 0 (WM E ad M tl) 0 [(0, .ref (ad (81))), (1, .int v1), (2, .int v2), (3, .int v3), (4, .int v4)] [] Φ
  refine tj_aload_n rfl dX11_plot_0 rfl ?_
  refine gf11_st (a := 81) rfl rfl dX11_plot_1 fl_X11_7 ?_
  refine tj_bipush (v := 16) rfl dX11_plot_4 (by decide) ?_
  obtain ⟨hi1, h⟩ := h
  refine af_iald (a := 82) rfl rfl dX11_plot_6 hi1 ?_
  refine tj_istore (l' := [(0, _), (1, _), (2, _), (3, _), (4, _), (5, _)]) rfl dX11_plot_7 (by decide) rfl ?_
  refine tj_bipush (v := 17) rfl dX11_plot_9 (by decide) ?_
  refine tj_iconst (v := 4) rfl dX11_plot_11 (by decide) ?_
  refine tj_iload rfl dX11_plot_12 rfl ?_
  refine tj_imul rfl dX11_plot_14 ?_
  refine tj_iadd rfl dX11_plot_15 ?_
  refine tj_istore (l' := [(0, _), (1, _), (2, _), (3, _), (4, _), (5, _), (6, _)]) rfl dX11_plot_16 (by decide) rfl ?_
  refine tj_iload_n rfl dX11_plot_18 rfl ?_
  refine tj_i2l rfl dX11_plot_19 ?_
  refine tj_iload rfl dX11_plot_20 rfl ?_
  refine tj_if_ne (tgt := 29) rfl rfl dX11_plot_22 (fun hc => ?_) (fun hc => ?_)
  · rw [if_neg hc] at h
    refine tj_aload_n rfl dX11_plot_29 rfl ?_
    refine gf11_st (a := 81) rfl rfl dX11_plot_30 fl_X11_7 ?_
    refine tj_iload rfl dX11_plot_33 rfl ?_
    refine tj_iconst (v := 4) rfl dX11_plot_35 (by decide) ?_
    refine tj_isub rfl dX11_plot_36 ?_
    obtain ⟨hi2, h⟩ := h
    refine af_iald (a := 82) rfl rfl dX11_plot_37 hi2 ?_
    refine tj_i2l rfl dX11_plot_38 ?_
    exact bX11_plot_39 hp  h
  · rw [if_pos hc] at h
    refine tj_lconst (v := 0) rfl dX11_plot_25 (by decide) ?_
    refine tj_goto (tgt := 39) rfl dX11_plot_26 ?_
    exact bX11_plot_39 hp  h
def wpX11_kindThere (post : Int32 → MM → Int64 → Prop) (M : MM) (tl : Int64) (v1 : Int32) (v2 : Int32) : Prop :=
  (vp_in (((8 : Int32) * v1) + v2) (al 82) ∧ post ((M 82 (((8 : Int32) * v1) + v2 : Int32).toNatClampNeg) - (M 82 (((8 : Int32) * v1) + v2 : Int32).toNatClampNeg) / 8 * 8) M tl)
set_option maxHeartbeats 4000000 in
set_option maxRecDepth 20000 in
theorem ctX11_kindThere {E : EV} {ad : Nat → Nat} {M : MM} {tl : Int64} {Φ : Option Value → va_W → Prop} {post : Int32 → MM → Int64 → Prop} {v1 : Int32} {v2 : Int32} (h : wpX11_kindThere post M tl v1 v2) (hp : ∀ r M tl, post r M tl → Φ (some (.int r)) (WM E ad M tl)) : Tm E kX11_kindThere (WM E ad M tl) [.ref (ad (81)), .int v1, .int v2] Φ := by
  unfold wpX11_kindThere at h
  show T E kX11_kindThere 0 0 (WM E ad M tl) 0 [(0, .ref (ad (81))), (1, .int v1), (2, .int v2)] [] Φ
  refine tj_aload_n rfl dX11_kindThere_0 rfl ?_
  refine gf11_st (a := 81) rfl rfl dX11_kindThere_1 fl_X11_7 ?_
  refine tj_bipush (v := 8) rfl dX11_kindThere_4 (by decide) ?_
  refine tj_iload_n rfl dX11_kindThere_6 rfl ?_
  refine tj_imul rfl dX11_kindThere_7 ?_
  refine tj_iload_n rfl dX11_kindThere_8 rfl ?_
  refine tj_iadd rfl dX11_kindThere_9 ?_
  obtain ⟨hi1, h⟩ := h
  refine af_iald (a := 82) rfl rfl dX11_kindThere_10 hi1 ?_
  refine tj_bipush (v := 8) rfl dX11_kindThere_11 (by decide) ?_
  refine tj_irem rfl dX11_kindThere_13 (by decide) ?_
  exact tj_ireturn (ty := .int) dX11_kindThere_14 rfl rfl (Nat.zero_le _) (Nat.zero_le _) (hp _ _ _ h)
def wpX11_gainOf (post : Int32 → MM → Int64 → Prop) (M : MM) (tl : Int64) (v1 : Int32) (v2 : Int32) (v3 : Int32) : Prop :=
  (vp_in (((6 : Int32) * v1) + v3) (al 86) ∧ (vp_in (((6 : Int32) * v1) + v3) (al 85) ∧ wpX11_kindThere (fun r5 M3 t4 => (vp_in (((6 : Int32) * v1) + r5) (al 86) ∧ post (((M 86 (((6 : Int32) * v1) + v3 : Int32).toNatClampNeg) - (M 85 (((6 : Int32) * v1) + v3 : Int32).toNatClampNeg)) - (M3 86 (((6 : Int32) * v1) + r5 : Int32).toNatClampNeg)) M3 t4)) M tl v1 v2))
set_option maxHeartbeats 4000000 in
set_option maxRecDepth 20000 in
theorem ctX11_gainOf {E : EV} {ad : Nat → Nat} {M : MM} {tl : Int64} {Φ : Option Value → va_W → Prop} {post : Int32 → MM → Int64 → Prop} {v1 : Int32} {v2 : Int32} {v3 : Int32} (h : wpX11_gainOf post M tl v1 v2 v3) (hp : ∀ r M tl, post r M tl → Φ (some (.int r)) (WM E ad M tl)) : Tm E kX11_gainOf (WM E ad M tl) [.ref (ad (81)), .int v1, .int v2, .int v3] Φ := by
  unfold wpX11_gainOf at h
  show T E kX11_gainOf 0 0 (WM E ad M tl) 0 [(0, .ref (ad (81))), (1, .int v1), (2, .int v2), (3, .int v3)] [] Φ
  refine tj_aload_n rfl dX11_gainOf_0 rfl ?_
  refine gf11_taste (a := 81) rfl rfl dX11_gainOf_1 fl_X11_23 ?_
  refine tj_bipush (v := 6) rfl dX11_gainOf_4 (by decide) ?_
  refine tj_iload_n rfl dX11_gainOf_6 rfl ?_
  refine tj_imul rfl dX11_gainOf_7 ?_
  refine tj_iload_n rfl dX11_gainOf_8 rfl ?_
  refine tj_iadd rfl dX11_gainOf_9 ?_
  obtain ⟨hi1, h⟩ := h
  refine af_iald (a := 86) rfl rfl dX11_gainOf_10 hi1 ?_
  refine tj_aload_n rfl dX11_gainOf_11 rfl ?_
  refine gf11_cost (a := 81) rfl rfl dX11_gainOf_12 fl_X11_20 ?_
  refine tj_bipush (v := 6) rfl dX11_gainOf_15 (by decide) ?_
  refine tj_iload_n rfl dX11_gainOf_17 rfl ?_
  refine tj_imul rfl dX11_gainOf_18 ?_
  refine tj_iload_n rfl dX11_gainOf_19 rfl ?_
  refine tj_iadd rfl dX11_gainOf_20 ?_
  obtain ⟨hi2, h⟩ := h
  refine af_iald (a := 85) rfl rfl dX11_gainOf_21 hi2 ?_
  refine tj_isub rfl dX11_gainOf_22 ?_
  refine tj_aload_n rfl dX11_gainOf_23 rfl ?_
  refine gf11_taste (a := 81) rfl rfl dX11_gainOf_24 fl_X11_23 ?_
  refine tj_bipush (v := 6) rfl dX11_gainOf_27 (by decide) ?_
  refine tj_iload_n rfl dX11_gainOf_29 rfl ?_
  refine tj_imul rfl dX11_gainOf_30 ?_
  refine tj_aload_n rfl dX11_gainOf_31 rfl ?_
  refine tj_iload_n rfl dX11_gainOf_32 rfl ?_
  refine tj_iload_n rfl dX11_gainOf_33 rfl ?_
  refine cf_V11 (a := 81) (z := kX11_kindThere) (As := [_, _]) rfl rfl dX11_gainOf_34 rfl ml_X11_320 okX11_kindThere rfl (rm_ok rfl) (Nat.le_of_ble_eq_true rfl) (Nat.le_of_ble_eq_true rfl) rfl rfl ?_
  refine ctX11_kindThere h (fun r5 M3 t4 h => ?_)
  refine tj_iadd rfl dX11_gainOf_37 ?_
  obtain ⟨hi6, h⟩ := h
  refine af_iald (a := 86) rfl rfl dX11_gainOf_38 hi6 ?_
  refine tj_isub rfl dX11_gainOf_39 ?_
  exact tj_ireturn (ty := .int) dX11_gainOf_40 rfl rfl (Nat.zero_le _) (Nat.zero_le _) (hp _ _ _ h)
def wpX11_gain (post : Int32 → MM → Int64 → Prop) (M : MM) (tl : Int64) (v1 : Int32) (v2 : Int32) (v3 : Int32) : Prop :=
  wpX11_isLot (fun r3 M1 t2 => (if r3 = 0 then post (-1) M1 t2 else wpX11_in (fun r6 M4 t5 => (if r6 = 0 then post (-1) M4 t5 else wpX11_gainOf (fun r9 M7 t8 => post (r9 + 1000) M7 t8) M4 t5 v1 v2 v3)) M1 t2 ((v3 : Int32).toInt64) 1 5)) M tl v1 v2
set_option maxHeartbeats 4000000 in
set_option maxRecDepth 20000 in
theorem ctX11_gain {E : EV} {ad : Nat → Nat} {M : MM} {tl : Int64} {Φ : Option Value → va_W → Prop} {post : Int32 → MM → Int64 → Prop} {v1 : Int32} {v2 : Int32} {v3 : Int32} (h : wpX11_gain post M tl v1 v2 v3) (hp : ∀ r M tl, post r M tl → Φ (some (.int r)) (WM E ad M tl)) : Tm E kX11_gain (WM E ad M tl) [.ref (ad (81)), .int v1, .int v2, .int v3] Φ := by
  unfold wpX11_gain at h
  show T E kX11_gain 0 0 (WM E ad M tl) 0 [(0, .ref (ad (81))), (1, .int v1), (2, .int v2), (3, .int v3)] [] Φ
  refine tj_aload_n rfl dX11_gain_0 rfl ?_
  refine tj_iload_n rfl dX11_gain_1 rfl ?_
  refine tj_iload_n rfl dX11_gain_2 rfl ?_
  refine cf_V11 (a := 81) (z := kX11_isLot) (As := [_, _]) rfl rfl dX11_gain_3 rfl ml_X11_282 okX11_isLot rfl (rm_ok rfl) (Nat.le_of_ble_eq_true rfl) (Nat.le_of_ble_eq_true rfl) rfl rfl ?_
  refine ctX11_isLot h (fun r3 M1 t2 h => ?_)
  refine tj_if_eq (tgt := 35) rfl rfl dX11_gain_6 (fun hc => ?_) (fun hc => ?_)
  · rw [if_pos hc] at h
    refine tj_iconst (v := -1) rfl dX11_gain_35 (by decide) ?_
    exact tj_ireturn (ty := .int) dX11_gain_36 rfl rfl (Nat.zero_le _) (Nat.zero_le _) (hp _ _ _ h)
  · rw [if_neg hc] at h
    refine tj_iload_n rfl dX11_gain_9 rfl ?_
    refine tj_i2l rfl dX11_gain_10 ?_
    refine tj_lconst (v := 1) rfl dX11_gain_11 (by decide) ?_
    refine tj_ldc2 rfl dX11_gain_12 kl_X11_255 ?_
    refine cf_S (z := kX11_in) (As := [_, _, _]) rfl dX11_gain_15 rfl ml_X11_146 okX11_in rfl (rm_ok rfl) (Nat.le_of_ble_eq_true rfl) (Nat.le_of_ble_eq_true rfl) rfl ?_
    refine ctX11_in h (fun r6 M4 t5 h => ?_)
    refine tj_if_eq (tgt := 35) rfl rfl dX11_gain_18 (fun hc => ?_) (fun hc => ?_)
    · rw [if_pos hc] at h
      refine tj_iconst (v := -1) rfl dX11_gain_35 (by decide) ?_
      exact tj_ireturn (ty := .int) dX11_gain_36 rfl rfl (Nat.zero_le _) (Nat.zero_le _) (hp _ _ _ h)
    · rw [if_neg hc] at h
      refine tj_aload_n rfl dX11_gain_21 rfl ?_
      refine tj_iload_n rfl dX11_gain_22 rfl ?_
      refine tj_iload_n rfl dX11_gain_23 rfl ?_
      refine tj_iload_n rfl dX11_gain_24 rfl ?_
      refine cf_V11 (a := 81) (z := kX11_gainOf) (As := [_, _, _]) rfl rfl dX11_gain_25 rfl ml_X11_323 okX11_gainOf rfl (rm_ok rfl) (Nat.le_of_ble_eq_true rfl) (Nat.le_of_ble_eq_true rfl) rfl rfl ?_
      refine ctX11_gainOf h (fun r9 M7 t8 h => ?_)
      refine tj_sipush (v := 1000) rfl dX11_gain_28 (by decide) ?_
      refine tj_iadd rfl dX11_gain_31 ?_
      refine tj_goto (tgt := 36) rfl dX11_gain_32 ?_
      exact tj_ireturn (ty := .int) dX11_gain_36 rfl rfl (Nat.zero_le _) (Nat.zero_le _) (hp _ _ _ h)
def wpX11_mayBe (post : Int32 → MM → Int64 → Prop) (M : MM) (tl : Int64) (v1 : Int32) (v2 : Int32) (v3 : Int32) : Prop :=
  wpX11_doesLack (fun r3 M1 t2 => (if r3 = 0 then wpX11_matchOf (fun r6 M4 t5 => (if r6 = (-4) then post 1 M4 t5 else (vp_in v3 (al 88) ∧ wpX11_doesLack (fun r10 M8 t9 => (if r10 = 0 then post 1 M8 t9 else post 0 M8 t9)) M4 t5 ((1 : Int32) - v1) (M4 88 (v3 : Int32).toNatClampNeg)))) M1 t2 v1 v2 else post 0 M1 t2)) M tl v1 v3
set_option maxHeartbeats 4000000 in
set_option maxRecDepth 20000 in
theorem ctX11_mayBe {E : EV} {ad : Nat → Nat} {M : MM} {tl : Int64} {Φ : Option Value → va_W → Prop} {post : Int32 → MM → Int64 → Prop} {v1 : Int32} {v2 : Int32} {v3 : Int32} (h : wpX11_mayBe post M tl v1 v2 v3) (hp : ∀ r M tl, post r M tl → Φ (some (.int r)) (WM E ad M tl)) : Tm E kX11_mayBe (WM E ad M tl) [.ref (ad (81)), .int v1, .int v2, .int v3] Φ := by
  unfold wpX11_mayBe at h
  show T E kX11_mayBe 0 0 (WM E ad M tl) 0 [(0, .ref (ad (81))), (1, .int v1), (2, .int v2), (3, .int v3)] [] Φ
  refine tj_aload_n rfl dX11_mayBe_0 rfl ?_
  refine tj_iload_n rfl dX11_mayBe_1 rfl ?_
  refine tj_iload_n rfl dX11_mayBe_2 rfl ?_
  refine cf_V11 (a := 81) (z := kX11_doesLack) (As := [_, _]) rfl rfl dX11_mayBe_3 rfl ml_X11_261 okX11_doesLack rfl (rm_ok rfl) (Nat.le_of_ble_eq_true rfl) (Nat.le_of_ble_eq_true rfl) rfl rfl ?_
  refine ctX11_doesLack h (fun r3 M1 t2 h => ?_)
  refine tj_if_ne (tgt := 40) rfl rfl dX11_mayBe_6 (fun hc => ?_) (fun hc => ?_)
  · rw [if_neg hc] at h
    refine tj_iconst (v := 0) rfl dX11_mayBe_40 (by decide) ?_
    exact tj_ireturn (ty := .boolean) dX11_mayBe_41 rfl rfl (Nat.zero_le _) (Nat.zero_le _) (hp _ _ _ h)
  · rw [if_pos hc] at h
    refine tj_aload_n rfl dX11_mayBe_9 rfl ?_
    refine tj_iload_n rfl dX11_mayBe_10 rfl ?_
    refine tj_iload_n rfl dX11_mayBe_11 rfl ?_
    refine cf_V11 (a := 81) (z := kX11_matchOf) (As := [_, _]) rfl rfl dX11_mayBe_12 rfl ml_X11_289 okX11_matchOf rfl (rm_ok rfl) (Nat.le_of_ble_eq_true rfl) (Nat.le_of_ble_eq_true rfl) rfl rfl ?_
    refine ctX11_matchOf h (fun r6 M4 t5 h => ?_)
    refine tj_bipush (v := -4) rfl dX11_mayBe_15 (by decide) ?_
    refine tj_icmp_eq (tgt := 36) rfl rfl dX11_mayBe_17 (fun hc => ?_) (fun hc => ?_)
    · rw [if_pos hc] at h
      refine tj_iconst (v := 1) rfl dX11_mayBe_36 (by decide) ?_
      refine tj_goto (tgt := 41) rfl dX11_mayBe_37 ?_
      exact tj_ireturn (ty := .boolean) dX11_mayBe_41 rfl rfl (Nat.zero_le _) (Nat.zero_le _) (hp _ _ _ h)
    · rw [if_neg hc] at h
      refine tj_aload_n rfl dX11_mayBe_20 rfl ?_
      refine tj_iconst (v := 1) rfl dX11_mayBe_21 (by decide) ?_
      refine tj_iload_n rfl dX11_mayBe_22 rfl ?_
      refine tj_isub rfl dX11_mayBe_23 ?_
      refine tj_aload_n rfl dX11_mayBe_24 rfl ?_
      refine gf11_twin (a := 81) rfl rfl dX11_mayBe_25 fl_X11_29 ?_
      refine tj_iload_n rfl dX11_mayBe_28 rfl ?_
      obtain ⟨hi7, h⟩ := h
      refine af_iald (a := 88) rfl rfl dX11_mayBe_29 hi7 ?_
      refine cf_V11 (a := 81) (z := kX11_doesLack) (As := [_, _]) rfl rfl dX11_mayBe_30 rfl ml_X11_261 okX11_doesLack rfl (rm_ok rfl) (Nat.le_of_ble_eq_true rfl) (Nat.le_of_ble_eq_true rfl) rfl rfl ?_
      refine ctX11_doesLack h (fun r10 M8 t9 h => ?_)
      refine tj_if_ne (tgt := 40) rfl rfl dX11_mayBe_33 (fun hc => ?_) (fun hc => ?_)
      · rw [if_neg hc] at h
        refine tj_iconst (v := 0) rfl dX11_mayBe_40 (by decide) ?_
        exact tj_ireturn (ty := .boolean) dX11_mayBe_41 rfl rfl (Nat.zero_le _) (Nat.zero_le _) (hp _ _ _ h)
      · rw [if_pos hc] at h
        refine tj_iconst (v := 1) rfl dX11_mayBe_36 (by decide) ?_
        refine tj_goto (tgt := 41) rfl dX11_mayBe_37 ?_
        exact tj_ireturn (ty := .boolean) dX11_mayBe_41 rfl rfl (Nat.zero_le _) (Nat.zero_le _) (hp _ _ _ h)
def wX11_beginOf_77 (post : Int32 → MM → Int64 → Prop) (bk9 : MM → Int64 → Int32 → Int32 → Int32 → Int32 → Int32 → Prop) (M : MM) (tl : Int64) (v1 : Int32) (v2 : Int32) (v3 : Int32) (v5 : Int32) (s0 : Int32) : Prop :=
  bk9 M tl v1 v2 v3 s0 (v5 + 1)
set_option maxHeartbeats 4000000 in
set_option maxRecDepth 20000 in
theorem bX11_beginOf_77 {E : EV} {ad : Nat → Nat} {M : MM} {tl : Int64} {Φ : Option Value → va_W → Prop} {post : Int32 → MM → Int64 → Prop} {bk9 : MM → Int64 → Int32 → Int32 → Int32 → Int32 → Int32 → Prop} {v1 : Int32} {v2 : Int32} {v3 : Int32} {v5 : Int32} {s0 : Int32} (hp : ∀ r M tl, post r M tl → Φ (some (.int r)) (WM E ad M tl)) (hb9 : ∀ (M : MM) (tl : Int64) (v1 : Int32) (v2 : Int32) (v3 : Int32) (v4 : Int32) (v5 : Int32), bk9 M tl v1 v2 v3 v4 v5 → T E kX11_beginOf 0 0 (WM E ad M tl) 9 [(0, .ref (ad (81))), (1, .int v1), (2, .int v2), (3, .int v3), (4, .int v4), (5, .int v5)] [] Φ) (h : wX11_beginOf_77 post bk9 M tl v1 v2 v3 v5 s0) : T E kX11_beginOf 0 0 (WM E ad M tl) 77 [(0, .ref (ad (81))), (1, .int v1), (2, .int v2), (3, .int v3), (5, .int v5)] [.int s0] Φ := by
  unfold wX11_beginOf_77 at h
  refine tj_istore (l' := [(0, _), (1, _), (2, _), (3, _), (4, _), (5, _)]) rfl dX11_beginOf_77 (by decide) rfl ?_
  refine tj_iinc (v := _ + 1) (l' := [(0, _), (1, _), (2, _), (3, _), (4, _), (5, _)]) rfl dX11_beginOf_79 rfl (by decide) rfl rfl ?_
  refine tj_goto (tgt := 9) rfl dX11_beginOf_82 ?_
  exact hb9 _ _ _ _ _ _ _ h
def wX11_beginOf_58 (post : Int32 → MM → Int64 → Prop) (bk9 : MM → Int64 → Int32 → Int32 → Int32 → Int32 → Int32 → Prop) (M : MM) (tl : Int64) (v1 : Int32) (v2 : Int32) (v4 : Int32) (v5 : Int32) (v6 : Int32) (s0 : Int32) : Prop :=
  (if v6 = 0 then wX11_beginOf_77 post bk9 M tl v1 v2 s0 v5 v4 else wpX11_gainOf (fun r3 M1 t2 => wX11_beginOf_77 post bk9 M1 t2 v1 v2 s0 v5 r3) M tl v1 v2 v5)
set_option maxHeartbeats 4000000 in
set_option maxRecDepth 20000 in
theorem bX11_beginOf_58 {E : EV} {ad : Nat → Nat} {M : MM} {tl : Int64} {Φ : Option Value → va_W → Prop} {post : Int32 → MM → Int64 → Prop} {bk9 : MM → Int64 → Int32 → Int32 → Int32 → Int32 → Int32 → Prop} {v1 : Int32} {v2 : Int32} {v4 : Int32} {v5 : Int32} {v6 : Int32} {s0 : Int32} (hp : ∀ r M tl, post r M tl → Φ (some (.int r)) (WM E ad M tl)) (hb9 : ∀ (M : MM) (tl : Int64) (v1 : Int32) (v2 : Int32) (v3 : Int32) (v4 : Int32) (v5 : Int32), bk9 M tl v1 v2 v3 v4 v5 → T E kX11_beginOf 0 0 (WM E ad M tl) 9 [(0, .ref (ad (81))), (1, .int v1), (2, .int v2), (3, .int v3), (4, .int v4), (5, .int v5)] [] Φ) (h : wX11_beginOf_58 post bk9 M tl v1 v2 v4 v5 v6 s0) : T E kX11_beginOf 0 0 (WM E ad M tl) 58 [(0, .ref (ad (81))), (1, .int v1), (2, .int v2), (4, .int v4), (5, .int v5), (6, .int v6)] [.int s0] Φ := by
  unfold wX11_beginOf_58 at h
  refine tj_istore_n (l' := [(0, _), (1, _), (2, _), (3, _), (4, _), (5, _), (6, _)]) rfl dX11_beginOf_58 (by decide) rfl ?_
  refine tj_iload rfl dX11_beginOf_59 rfl ?_
  refine tj_if_eq (tgt := 75) rfl rfl dX11_beginOf_61 (fun hc => ?_) (fun hc => ?_)
  · rw [if_pos hc] at h
    refine tj_iload rfl dX11_beginOf_75 rfl ?_
    exact tj_pick (l' := [(0, _), (1, _), (2, _), (3, _), (5, _)]) [0, 1, 2, 3, 5] rfl (bX11_beginOf_77 hp hb9 h)
  · rw [if_neg hc] at h
    refine tj_aload_n rfl dX11_beginOf_64 rfl ?_
    refine tj_iload_n rfl dX11_beginOf_65 rfl ?_
    refine tj_iload_n rfl dX11_beginOf_66 rfl ?_
    refine tj_iload rfl dX11_beginOf_67 rfl ?_
    refine cf_V11 (a := 81) (z := kX11_gainOf) (As := [_, _, _]) rfl rfl dX11_beginOf_69 rfl ml_X11_323 okX11_gainOf rfl (rm_ok rfl) (Nat.le_of_ble_eq_true rfl) (Nat.le_of_ble_eq_true rfl) rfl rfl ?_
    refine ctX11_gainOf h (fun r3 M1 t2 h => ?_)
    refine tj_goto (tgt := 77) rfl dX11_beginOf_72 ?_
    exact tj_pick (l' := [(0, _), (1, _), (2, _), (3, _), (5, _)]) [0, 1, 2, 3, 5] rfl (bX11_beginOf_77 hp hb9 h)
def wX11_beginOf_45 (post : Int32 → MM → Int64 → Prop) (bk9 : MM → Int64 → Int32 → Int32 → Int32 → Int32 → Int32 → Prop) (M : MM) (tl : Int64) (v1 : Int32) (v2 : Int32) (v3 : Int32) (v4 : Int32) (v5 : Int32) (s0 : Int32) : Prop :=
  (if s0 = 0 then wX11_beginOf_58 post bk9 M tl v1 v2 v4 v5 s0 v3 else wX11_beginOf_58 post bk9 M tl v1 v2 v4 v5 s0 v5)
set_option maxHeartbeats 4000000 in
set_option maxRecDepth 20000 in
theorem bX11_beginOf_45 {E : EV} {ad : Nat → Nat} {M : MM} {tl : Int64} {Φ : Option Value → va_W → Prop} {post : Int32 → MM → Int64 → Prop} {bk9 : MM → Int64 → Int32 → Int32 → Int32 → Int32 → Int32 → Prop} {v1 : Int32} {v2 : Int32} {v3 : Int32} {v4 : Int32} {v5 : Int32} {s0 : Int32} (hp : ∀ r M tl, post r M tl → Φ (some (.int r)) (WM E ad M tl)) (hb9 : ∀ (M : MM) (tl : Int64) (v1 : Int32) (v2 : Int32) (v3 : Int32) (v4 : Int32) (v5 : Int32), bk9 M tl v1 v2 v3 v4 v5 → T E kX11_beginOf 0 0 (WM E ad M tl) 9 [(0, .ref (ad (81))), (1, .int v1), (2, .int v2), (3, .int v3), (4, .int v4), (5, .int v5)] [] Φ) (h : wX11_beginOf_45 post bk9 M tl v1 v2 v3 v4 v5 s0) : T E kX11_beginOf 0 0 (WM E ad M tl) 45 [(0, .ref (ad (81))), (1, .int v1), (2, .int v2), (3, .int v3), (4, .int v4), (5, .int v5)] [.int s0] Φ := by
  unfold wX11_beginOf_45 at h
  refine tj_istore (l' := [(0, _), (1, _), (2, _), (3, _), (4, _), (5, _), (6, _)]) rfl dX11_beginOf_45 (by decide) rfl ?_
  refine tj_iload rfl dX11_beginOf_47 rfl ?_
  refine tj_if_eq (tgt := 57) rfl rfl dX11_beginOf_49 (fun hc => ?_) (fun hc => ?_)
  · rw [if_pos hc] at h
    refine tj_iload_n rfl dX11_beginOf_57 rfl ?_
    exact tj_pick (l' := [(0, _), (1, _), (2, _), (4, _), (5, _), (6, _)]) [0, 1, 2, 4, 5, 6] rfl (bX11_beginOf_58 hp hb9 h)
  · rw [if_neg hc] at h
    refine tj_iload rfl dX11_beginOf_52 rfl ?_
    refine tj_goto (tgt := 58) rfl dX11_beginOf_54 ?_
    exact tj_pick (l' := [(0, _), (1, _), (2, _), (4, _), (5, _), (6, _)]) [0, 1, 2, 4, 5, 6] rfl (bX11_beginOf_58 hp hb9 h)
def wX11_beginOf_44 (post : Int32 → MM → Int64 → Prop) (bk9 : MM → Int64 → Int32 → Int32 → Int32 → Int32 → Int32 → Prop) (M : MM) (tl : Int64) (v1 : Int32) (v2 : Int32) (v3 : Int32) (v4 : Int32) (v5 : Int32) : Prop :=
  wX11_beginOf_45 post bk9 M tl v1 v2 v3 v4 v5 0
set_option maxHeartbeats 4000000 in
set_option maxRecDepth 20000 in
theorem bX11_beginOf_44 {E : EV} {ad : Nat → Nat} {M : MM} {tl : Int64} {Φ : Option Value → va_W → Prop} {post : Int32 → MM → Int64 → Prop} {bk9 : MM → Int64 → Int32 → Int32 → Int32 → Int32 → Int32 → Prop} {v1 : Int32} {v2 : Int32} {v3 : Int32} {v4 : Int32} {v5 : Int32} (hp : ∀ r M tl, post r M tl → Φ (some (.int r)) (WM E ad M tl)) (hb9 : ∀ (M : MM) (tl : Int64) (v1 : Int32) (v2 : Int32) (v3 : Int32) (v4 : Int32) (v5 : Int32), bk9 M tl v1 v2 v3 v4 v5 → T E kX11_beginOf 0 0 (WM E ad M tl) 9 [(0, .ref (ad (81))), (1, .int v1), (2, .int v2), (3, .int v3), (4, .int v4), (5, .int v5)] [] Φ) (h : wX11_beginOf_44 post bk9 M tl v1 v2 v3 v4 v5) : T E kX11_beginOf 0 0 (WM E ad M tl) 44 [(0, .ref (ad (81))), (1, .int v1), (2, .int v2), (3, .int v3), (4, .int v4), (5, .int v5)] [] Φ := by
  unfold wX11_beginOf_44 at h
  refine tj_iconst (v := 0) rfl dX11_beginOf_44 (by decide) ?_
  exact bX11_beginOf_45 hp hb9 h
def wX11_beginOf_9 (post : Int32 → MM → Int64 → Prop) : Nat → MM → Int64 → Int32 → Int32 → Int32 → Int32 → Int32 → Prop
  | 0, _, _, _, _, _, _, _ => False
  | n + 1, M, tl, v1, v2, v3, v4, v5 =>
    (if 6 ≤ v5 then post v3 M tl else wpX11_mayBe (fun r3 M1 t2 => (if r3 = 0 then wX11_beginOf_44 post (wX11_beginOf_9 post n) M1 t2 v1 v2 v3 v4 v5 else wpX11_gainOf (fun r6 M4 t5 => (if r6 ≤ v4 then wX11_beginOf_44 post (wX11_beginOf_9 post n) M4 t5 v1 v2 v3 v4 v5 else wX11_beginOf_45 post (wX11_beginOf_9 post n) M4 t5 v1 v2 v3 v4 v5 1)) M1 t2 v1 v2 v5)) M tl v1 v2 v5)
set_option maxHeartbeats 4000000 in
set_option maxRecDepth 20000 in
theorem bX11_beginOf_9 {E : EV} {ad : Nat → Nat} {Φ : Option Value → va_W → Prop} {post : Int32 → MM → Int64 → Prop}  (hp : ∀ r M tl, post r M tl → Φ (some (.int r)) (WM E ad M tl)) : ∀ (n : Nat) (M : MM) (tl : Int64) (v1 : Int32) (v2 : Int32) (v3 : Int32) (v4 : Int32) (v5 : Int32), wX11_beginOf_9 post n M tl v1 v2 v3 v4 v5 → T E kX11_beginOf 0 0 (WM E ad M tl) 9 [(0, .ref (ad (81))), (1, .int v1), (2, .int v2), (3, .int v3), (4, .int v4), (5, .int v5)] [] Φ := by
  intro n
  induction n with
  | zero => intro M tl v1 v2 v3 v4 v5 h; exact False.elim h
  | succ n ih =>
    intro M tl v1 v2 v3 v4 v5 h
    unfold wX11_beginOf_9 at h
    refine tj_iload rfl dX11_beginOf_9 rfl ?_
    refine tj_bipush (v := 6) rfl dX11_beginOf_11 (by decide) ?_
    refine tj_icmp_ge (tgt := 85) rfl rfl dX11_beginOf_13 (fun hc => ?_) (fun hc => ?_)
    · rw [if_pos hc] at h
      refine tj_iload_n rfl dX11_beginOf_85 rfl ?_
      exact tj_ireturn (ty := .int) dX11_beginOf_86 rfl rfl (Nat.zero_le _) (Nat.zero_le _) (hp _ _ _ h)
    · rw [if_neg hc] at h
      refine tj_aload_n rfl dX11_beginOf_16 rfl ?_
      refine tj_iload_n rfl dX11_beginOf_17 rfl ?_
      refine tj_iload_n rfl dX11_beginOf_18 rfl ?_
      refine tj_iload rfl dX11_beginOf_19 rfl ?_
      refine cf_V11 (a := 81) (z := kX11_mayBe) (As := [_, _, _]) rfl rfl dX11_beginOf_21 rfl ml_X11_326 okX11_mayBe rfl (rm_ok rfl) (Nat.le_of_ble_eq_true rfl) (Nat.le_of_ble_eq_true rfl) rfl rfl ?_
      refine ctX11_mayBe h (fun r3 M1 t2 h => ?_)
      refine tj_if_eq (tgt := 44) rfl rfl dX11_beginOf_24 (fun hc => ?_) (fun hc => ?_)
      · rw [if_pos hc] at h
        exact bX11_beginOf_44 hp ih h
      · rw [if_neg hc] at h
        refine tj_aload_n rfl dX11_beginOf_27 rfl ?_
        refine tj_iload_n rfl dX11_beginOf_28 rfl ?_
        refine tj_iload_n rfl dX11_beginOf_29 rfl ?_
        refine tj_iload rfl dX11_beginOf_30 rfl ?_
        refine cf_V11 (a := 81) (z := kX11_gainOf) (As := [_, _, _]) rfl rfl dX11_beginOf_32 rfl ml_X11_323 okX11_gainOf rfl (rm_ok rfl) (Nat.le_of_ble_eq_true rfl) (Nat.le_of_ble_eq_true rfl) rfl rfl ?_
        refine ctX11_gainOf h (fun r6 M4 t5 h => ?_)
        refine tj_iload rfl dX11_beginOf_35 rfl ?_
        refine tj_icmp_le (tgt := 44) rfl rfl dX11_beginOf_37 (fun hc => ?_) (fun hc => ?_)
        · rw [if_pos hc] at h
          exact bX11_beginOf_44 hp ih h
        · rw [if_neg hc] at h
          refine tj_iconst (v := 1) rfl dX11_beginOf_40 (by decide) ?_
          refine tj_goto (tgt := 45) rfl dX11_beginOf_41 ?_
          exact bX11_beginOf_45 hp ih h
def wpX11_beginOf (post : Int32 → MM → Int64 → Prop) (M : MM) (tl : Int64) (v1 : Int32) (v2 : Int32) : Prop :=
  (∃ n9, wX11_beginOf_9 post  n9 M tl v1 v2 (-4) 0 1)
set_option maxHeartbeats 4000000 in
set_option maxRecDepth 20000 in
theorem ctX11_beginOf {E : EV} {ad : Nat → Nat} {M : MM} {tl : Int64} {Φ : Option Value → va_W → Prop} {post : Int32 → MM → Int64 → Prop} {v1 : Int32} {v2 : Int32} (h : wpX11_beginOf post M tl v1 v2) (hp : ∀ r M tl, post r M tl → Φ (some (.int r)) (WM E ad M tl)) : Tm E kX11_beginOf (WM E ad M tl) [.ref (ad (81)), .int v1, .int v2] Φ := by
  unfold wpX11_beginOf at h
  show T E kX11_beginOf 0 0 (WM E ad M tl) 0 [(0, .ref (ad (81))), (1, .int v1), (2, .int v2)] [] Φ
  refine tj_bipush (v := -4) rfl dX11_beginOf_0 (by decide) ?_
  refine tj_istore_n (l' := [(0, _), (1, _), (2, _), (3, _)]) rfl dX11_beginOf_2 (by decide) rfl ?_
  refine tj_iconst (v := 0) rfl dX11_beginOf_3 (by decide) ?_
  refine tj_istore (l' := [(0, _), (1, _), (2, _), (3, _), (4, _)]) rfl dX11_beginOf_4 (by decide) rfl ?_
  refine tj_iconst (v := 1) rfl dX11_beginOf_6 (by decide) ?_
  refine tj_istore (l' := [(0, _), (1, _), (2, _), (3, _), (4, _), (5, _)]) rfl dX11_beginOf_7 (by decide) rfl ?_
  obtain ⟨n9, h⟩ := h
  exact bX11_beginOf_9 hp  n9 _ _ _ _ _ _ _ h
def wpX11_begin (post : Int32 → MM → Int64 → Prop) (M : MM) (tl : Int64) (v1 : Int32) (v2 : Int32) (v3 : Int32) : Prop :=
  wpX11_isLot (fun r3 M1 t2 => (if r3 = 0 then post (-1) M1 t2 else wpX11_in (fun r6 M4 t5 => (if r6 = 0 then post (-1) M4 t5 else wpX11_beginOf (fun r9 M7 t8 => (if r9 = (-4) then post (-4) M7 t8 else (if v3 = 0 then post r9 M7 t8 else wpX11_gainOf (fun r12 M10 t11 => post r12 M10 t11) M7 t8 v1 v2 r9))) M4 t5 v1 v2)) M1 t2 ((v3 : Int32).toInt64) 0 1)) M tl v1 v2
set_option maxHeartbeats 4000000 in
set_option maxRecDepth 20000 in
theorem ctX11_begin {E : EV} {ad : Nat → Nat} {M : MM} {tl : Int64} {Φ : Option Value → va_W → Prop} {post : Int32 → MM → Int64 → Prop} {v1 : Int32} {v2 : Int32} {v3 : Int32} (h : wpX11_begin post M tl v1 v2 v3) (hp : ∀ r M tl, post r M tl → Φ (some (.int r)) (WM E ad M tl)) : Tm E kX11_begin (WM E ad M tl) [.ref (ad (81)), .int v1, .int v2, .int v3] Φ := by
  unfold wpX11_begin at h
  show T E kX11_begin 0 0 (WM E ad M tl) 0 [(0, .ref (ad (81))), (1, .int v1), (2, .int v2), (3, .int v3)] [] Φ
  refine tj_aload_n rfl dX11_begin_0 rfl ?_
  refine tj_iload_n rfl dX11_begin_1 rfl ?_
  refine tj_iload_n rfl dX11_begin_2 rfl ?_
  refine cf_V11 (a := 81) (z := kX11_isLot) (As := [_, _]) rfl rfl dX11_begin_3 rfl ml_X11_282 okX11_isLot rfl (rm_ok rfl) (Nat.le_of_ble_eq_true rfl) (Nat.le_of_ble_eq_true rfl) rfl rfl ?_
  refine ctX11_isLot h (fun r3 M1 t2 h => ?_)
  refine tj_if_eq (tgt := 19) rfl rfl dX11_begin_6 (fun hc => ?_) (fun hc => ?_)
  · rw [if_pos hc] at h
    refine tj_iconst (v := -1) rfl dX11_begin_19 (by decide) ?_
    exact tj_ireturn (ty := .int) dX11_begin_20 rfl rfl (Nat.zero_le _) (Nat.zero_le _) (hp _ _ _ h)
  · rw [if_neg hc] at h
    refine tj_iload_n rfl dX11_begin_9 rfl ?_
    refine tj_i2l rfl dX11_begin_10 ?_
    refine tj_lconst (v := 0) rfl dX11_begin_11 (by decide) ?_
    refine tj_lconst (v := 1) rfl dX11_begin_12 (by decide) ?_
    refine cf_S (z := kX11_in) (As := [_, _, _]) rfl dX11_begin_13 rfl ml_X11_146 okX11_in rfl (rm_ok rfl) (Nat.le_of_ble_eq_true rfl) (Nat.le_of_ble_eq_true rfl) rfl ?_
    refine ctX11_in h (fun r6 M4 t5 h => ?_)
    refine tj_if_ne (tgt := 21) rfl rfl dX11_begin_16 (fun hc => ?_) (fun hc => ?_)
    · rw [if_neg hc] at h
      refine tj_aload_n rfl dX11_begin_21 rfl ?_
      refine tj_iload_n rfl dX11_begin_22 rfl ?_
      refine tj_iload_n rfl dX11_begin_23 rfl ?_
      refine cf_V11 (a := 81) (z := kX11_beginOf) (As := [_, _]) rfl rfl dX11_begin_24 rfl ml_X11_329 okX11_beginOf rfl (rm_ok rfl) (Nat.le_of_ble_eq_true rfl) (Nat.le_of_ble_eq_true rfl) rfl rfl ?_
      refine ctX11_beginOf h (fun r9 M7 t8 h => ?_)
      refine tj_istore (l' := [(0, _), (1, _), (2, _), (3, _), (4, _)]) rfl dX11_begin_27 (by decide) rfl ?_
      refine tj_iload rfl dX11_begin_29 rfl ?_
      refine tj_bipush (v := -4) rfl dX11_begin_31 (by decide) ?_
      refine tj_icmp_ne (tgt := 41) rfl rfl dX11_begin_33 (fun hc => ?_) (fun hc => ?_)
      · rw [if_neg hc] at h
        refine tj_iload_n rfl dX11_begin_41 rfl ?_
        refine tj_if_ne (tgt := 50) rfl rfl dX11_begin_42 (fun hc => ?_) (fun hc => ?_)
        · rw [if_neg hc] at h
          refine tj_aload_n rfl dX11_begin_50 rfl ?_
          refine tj_iload_n rfl dX11_begin_51 rfl ?_
          refine tj_iload_n rfl dX11_begin_52 rfl ?_
          refine tj_iload rfl dX11_begin_53 rfl ?_
          refine cf_V11 (a := 81) (z := kX11_gainOf) (As := [_, _, _]) rfl rfl dX11_begin_55 rfl ml_X11_323 okX11_gainOf rfl (rm_ok rfl) (Nat.le_of_ble_eq_true rfl) (Nat.le_of_ble_eq_true rfl) rfl rfl ?_
          refine ctX11_gainOf h (fun r12 M10 t11 h => ?_)
          exact tj_ireturn (ty := .int) dX11_begin_58 rfl rfl (Nat.zero_le _) (Nat.zero_le _) (hp _ _ _ h)
        · rw [if_pos hc] at h
          refine tj_iload rfl dX11_begin_45 rfl ?_
          refine tj_goto (tgt := 58) rfl dX11_begin_47 ?_
          exact tj_ireturn (ty := .int) dX11_begin_58 rfl rfl (Nat.zero_le _) (Nat.zero_le _) (hp _ _ _ h)
      · rw [if_pos hc] at h
        refine tj_bipush (v := -4) rfl dX11_begin_36 (by decide) ?_
        refine tj_goto (tgt := 58) rfl dX11_begin_38 ?_
        exact tj_ireturn (ty := .int) dX11_begin_58 rfl rfl (Nat.zero_le _) (Nat.zero_le _) (hp _ _ _ h)
    · rw [if_pos hc] at h
      refine tj_iconst (v := -1) rfl dX11_begin_19 (by decide) ?_
      exact tj_ireturn (ty := .int) dX11_begin_20 rfl rfl (Nat.zero_le _) (Nat.zero_le _) (hp _ _ _ h)
def wpX11_waits (post : Int32 → MM → Int64 → Prop) (M : MM) (tl : Int64) (v1 : Int32) (v2 : Int32) : Prop :=
  wpX11_isLot (fun r3 M1 t2 => (if r3 = 0 then post (-1) M1 t2 else wpX11_matchOf (fun r6 M4 t5 => (if r6 = (-4) then post (-2) M4 t5 else wpX11_beginOf (fun r9 M7 t8 => (if r9 = (-4) then post ((1000 : Int32) + 0) M7 t8 else (vp_in r9 (al 88) ∧ wpX11_gainOf (fun r13 M11 t12 => post ((1000 : Int32) + r13) M11 t12) M7 t8 v1 v2 (M7 88 (r9 : Int32).toNatClampNeg)))) M4 t5 ((1 : Int32) - v1) r6)) M1 t2 v1 v2)) M tl v1 v2
set_option maxHeartbeats 4000000 in
set_option maxRecDepth 20000 in
theorem ctX11_waits {E : EV} {ad : Nat → Nat} {M : MM} {tl : Int64} {Φ : Option Value → va_W → Prop} {post : Int32 → MM → Int64 → Prop} {v1 : Int32} {v2 : Int32} (h : wpX11_waits post M tl v1 v2) (hp : ∀ r M tl, post r M tl → Φ (some (.int r)) (WM E ad M tl)) : Tm E kX11_waits (WM E ad M tl) [.ref (ad (81)), .int v1, .int v2] Φ := by
  unfold wpX11_waits at h
  show T E kX11_waits 0 0 (WM E ad M tl) 0 [(0, .ref (ad (81))), (1, .int v1), (2, .int v2)] [] Φ
  refine tj_aload_n rfl dX11_waits_0 rfl ?_
  refine tj_iload_n rfl dX11_waits_1 rfl ?_
  refine tj_iload_n rfl dX11_waits_2 rfl ?_
  refine cf_V11 (a := 81) (z := kX11_isLot) (As := [_, _]) rfl rfl dX11_waits_3 rfl ml_X11_282 okX11_isLot rfl (rm_ok rfl) (Nat.le_of_ble_eq_true rfl) (Nat.le_of_ble_eq_true rfl) rfl rfl ?_
  refine ctX11_isLot h (fun r3 M1 t2 h => ?_)
  refine tj_if_ne (tgt := 11) rfl rfl dX11_waits_6 (fun hc => ?_) (fun hc => ?_)
  · rw [if_neg hc] at h
    refine tj_aload_n rfl dX11_waits_11 rfl ?_
    refine tj_iload_n rfl dX11_waits_12 rfl ?_
    refine tj_iload_n rfl dX11_waits_13 rfl ?_
    refine cf_V11 (a := 81) (z := kX11_matchOf) (As := [_, _]) rfl rfl dX11_waits_14 rfl ml_X11_289 okX11_matchOf rfl (rm_ok rfl) (Nat.le_of_ble_eq_true rfl) (Nat.le_of_ble_eq_true rfl) rfl rfl ?_
    refine ctX11_matchOf h (fun r6 M4 t5 h => ?_)
    refine tj_istore_n (l' := [(0, _), (1, _), (2, _), (3, _)]) rfl dX11_waits_17 (by decide) rfl ?_
    refine tj_iload_n rfl dX11_waits_18 rfl ?_
    refine tj_bipush (v := -4) rfl dX11_waits_19 (by decide) ?_
    refine tj_icmp_ne (tgt := 27) rfl rfl dX11_waits_21 (fun hc => ?_) (fun hc => ?_)
    · rw [if_neg hc] at h
      refine tj_aload_n rfl dX11_waits_27 rfl ?_
      refine tj_iconst (v := 1) rfl dX11_waits_28 (by decide) ?_
      refine tj_iload_n rfl dX11_waits_29 rfl ?_
      refine tj_isub rfl dX11_waits_30 ?_
      refine tj_iload_n rfl dX11_waits_31 rfl ?_
      refine cf_V11 (a := 81) (z := kX11_beginOf) (As := [_, _]) rfl rfl dX11_waits_32 rfl ml_X11_329 okX11_beginOf rfl (rm_ok rfl) (Nat.le_of_ble_eq_true rfl) (Nat.le_of_ble_eq_true rfl) rfl rfl ?_
      refine ctX11_beginOf h (fun r9 M7 t8 h => ?_)
      refine tj_istore (l' := [(0, _), (1, _), (2, _), (3, _), (4, _)]) rfl dX11_waits_35 (by decide) rfl ?_
      refine tj_sipush (v := 1000) rfl dX11_waits_37 (by decide) ?_
      refine tj_iload rfl dX11_waits_40 rfl ?_
      refine tj_bipush (v := -4) rfl dX11_waits_42 (by decide) ?_
      refine tj_icmp_ne (tgt := 51) rfl rfl dX11_waits_44 (fun hc => ?_) (fun hc => ?_)
      · rw [if_neg hc] at h
        refine tj_aload_n rfl dX11_waits_51 rfl ?_
        refine tj_iload_n rfl dX11_waits_52 rfl ?_
        refine tj_iload_n rfl dX11_waits_53 rfl ?_
        refine tj_aload_n rfl dX11_waits_54 rfl ?_
        refine gf11_twin (a := 81) rfl rfl dX11_waits_55 fl_X11_29 ?_
        refine tj_iload rfl dX11_waits_58 rfl ?_
        obtain ⟨hi10, h⟩ := h
        refine af_iald (a := 88) rfl rfl dX11_waits_60 hi10 ?_
        refine cf_V11 (a := 81) (z := kX11_gainOf) (As := [_, _, _]) rfl rfl dX11_waits_61 rfl ml_X11_323 okX11_gainOf rfl (rm_ok rfl) (Nat.le_of_ble_eq_true rfl) (Nat.le_of_ble_eq_true rfl) rfl rfl ?_
        refine ctX11_gainOf h (fun r13 M11 t12 h => ?_)
        refine tj_iadd rfl dX11_waits_64 ?_
        exact tj_ireturn (ty := .int) dX11_waits_65 rfl rfl (Nat.zero_le _) (Nat.zero_le _) (hp _ _ _ h)
      · rw [if_pos hc] at h
        refine tj_iconst (v := 0) rfl dX11_waits_47 (by decide) ?_
        refine tj_goto (tgt := 64) rfl dX11_waits_48 ?_
        refine tj_iadd rfl dX11_waits_64 ?_
        exact tj_ireturn (ty := .int) dX11_waits_65 rfl rfl (Nat.zero_le _) (Nat.zero_le _) (hp _ _ _ h)
    · rw [if_pos hc] at h
      refine tj_bipush (v := -2) rfl dX11_waits_24 (by decide) ?_
      exact tj_ireturn (ty := .int) dX11_waits_26 rfl rfl (Nat.zero_le _) (Nat.zero_le _) (hp _ _ _ h)
  · rw [if_pos hc] at h
    refine tj_iconst (v := -1) rfl dX11_waits_9 (by decide) ?_
    exact tj_ireturn (ty := .int) dX11_waits_10 rfl rfl (Nat.zero_le _) (Nat.zero_le _) (hp _ _ _ h)
def wX11_vex_222 (post : Int32 → MM → Int64 → Prop) (bk45 : MM → Int64 → Int32 → Int32 → Int32 → Int32 → Int32 → Int32 → Int32 → Int32 → Prop) (bk66 : MM → Int64 → Int32 → Int32 → Int32 → Int32 → Int32 → Int32 → Int32 → Int32 → Int32 → Int32 → Prop) (M : MM) (tl : Int64) (v1 : Int32) (v2 : Int32) (v3 : Int32) (v4 : Int32) (v5 : Int32) (v6 : Int32) (v7 : Int32) (v8 : Int32) (v9 : Int32) (v10 : Int32) : Prop :=
  bk66 M tl v1 v2 v3 v4 v5 v6 v7 v8 v9 (v10 + 1)
set_option maxHeartbeats 4000000 in
set_option maxRecDepth 20000 in
theorem bX11_vex_222 {E : EV} {ad : Nat → Nat} {M : MM} {tl : Int64} {Φ : Option Value → va_W → Prop} {post : Int32 → MM → Int64 → Prop} {bk45 : MM → Int64 → Int32 → Int32 → Int32 → Int32 → Int32 → Int32 → Int32 → Int32 → Prop} {bk66 : MM → Int64 → Int32 → Int32 → Int32 → Int32 → Int32 → Int32 → Int32 → Int32 → Int32 → Int32 → Prop} {v1 : Int32} {v2 : Int32} {v3 : Int32} {v4 : Int32} {v5 : Int32} {v6 : Int32} {v7 : Int32} {v8 : Int32} {v9 : Int32} {v10 : Int32} (hp : ∀ r M tl, post r M tl → Φ (some (.int r)) (WM E ad M tl)) (hb45 : ∀ (M : MM) (tl : Int64) (v1 : Int32) (v2 : Int32) (v3 : Int32) (v4 : Int32) (v5 : Int32) (v6 : Int32) (v7 : Int32) (v8 : Int32), bk45 M tl v1 v2 v3 v4 v5 v6 v7 v8 → T E kX11_vex 0 0 (WM E ad M tl) 45 [(0, .ref (ad (81))), (1, .int v1), (2, .int v2), (3, .int v3), (4, .int v4), (5, .int v5), (6, .int v6), (7, .int v7), (8, .int v8)] [] Φ) (hb66 : ∀ (M : MM) (tl : Int64) (v1 : Int32) (v2 : Int32) (v3 : Int32) (v4 : Int32) (v5 : Int32) (v6 : Int32) (v7 : Int32) (v8 : Int32) (v9 : Int32) (v10 : Int32), bk66 M tl v1 v2 v3 v4 v5 v6 v7 v8 v9 v10 → T E kX11_vex 0 0 (WM E ad M tl) 66 [(0, .ref (ad (81))), (1, .int v1), (2, .int v2), (3, .int v3), (4, .int v4), (5, .int v5), (6, .int v6), (7, .int v7), (8, .int v8), (9, .int v9), (10, .int v10)] [] Φ) (h : wX11_vex_222 post bk45 bk66 M tl v1 v2 v3 v4 v5 v6 v7 v8 v9 v10) : T E kX11_vex 0 0 (WM E ad M tl) 222 [(0, .ref (ad (81))), (1, .int v1), (2, .int v2), (3, .int v3), (4, .int v4), (5, .int v5), (6, .int v6), (7, .int v7), (8, .int v8), (9, .int v9), (10, .int v10)] [] Φ := by
  unfold wX11_vex_222 at h
  refine tj_iinc (v := _ + 1) (l' := [(0, _), (1, _), (2, _), (3, _), (4, _), (5, _), (6, _), (7, _), (8, _), (9, _), (10, _)]) rfl dX11_vex_222 rfl (by decide) rfl rfl ?_
  refine tj_goto (tgt := 66) rfl dX11_vex_225 ?_
  exact hb66 _ _ _ _ _ _ _ _ _ _ _ _ h
def wX11_vex_207 (post : Int32 → MM → Int64 → Prop) (bk45 : MM → Int64 → Int32 → Int32 → Int32 → Int32 → Int32 → Int32 → Int32 → Int32 → Prop) (bk66 : MM → Int64 → Int32 → Int32 → Int32 → Int32 → Int32 → Int32 → Int32 → Int32 → Int32 → Int32 → Prop) (M : MM) (tl : Int64) (v1 : Int32) (v2 : Int32) (v7 : Int32) (v8 : Int32) (v9 : Int32) (v10 : Int32) (v11 : Int32) (v12 : Int32) : Prop :=
  wX11_vex_222 post bk45 bk66 M tl v1 v2 v11 v12 v8 v10 v7 v8 v9 v10
set_option maxHeartbeats 4000000 in
set_option maxRecDepth 20000 in
theorem bX11_vex_207 {E : EV} {ad : Nat → Nat} {M : MM} {tl : Int64} {Φ : Option Value → va_W → Prop} {post : Int32 → MM → Int64 → Prop} {bk45 : MM → Int64 → Int32 → Int32 → Int32 → Int32 → Int32 → Int32 → Int32 → Int32 → Prop} {bk66 : MM → Int64 → Int32 → Int32 → Int32 → Int32 → Int32 → Int32 → Int32 → Int32 → Int32 → Int32 → Prop} {v1 : Int32} {v2 : Int32} {v7 : Int32} {v8 : Int32} {v9 : Int32} {v10 : Int32} {v11 : Int32} {v12 : Int32} (hp : ∀ r M tl, post r M tl → Φ (some (.int r)) (WM E ad M tl)) (hb45 : ∀ (M : MM) (tl : Int64) (v1 : Int32) (v2 : Int32) (v3 : Int32) (v4 : Int32) (v5 : Int32) (v6 : Int32) (v7 : Int32) (v8 : Int32), bk45 M tl v1 v2 v3 v4 v5 v6 v7 v8 → T E kX11_vex 0 0 (WM E ad M tl) 45 [(0, .ref (ad (81))), (1, .int v1), (2, .int v2), (3, .int v3), (4, .int v4), (5, .int v5), (6, .int v6), (7, .int v7), (8, .int v8)] [] Φ) (hb66 : ∀ (M : MM) (tl : Int64) (v1 : Int32) (v2 : Int32) (v3 : Int32) (v4 : Int32) (v5 : Int32) (v6 : Int32) (v7 : Int32) (v8 : Int32) (v9 : Int32) (v10 : Int32), bk66 M tl v1 v2 v3 v4 v5 v6 v7 v8 v9 v10 → T E kX11_vex 0 0 (WM E ad M tl) 66 [(0, .ref (ad (81))), (1, .int v1), (2, .int v2), (3, .int v3), (4, .int v4), (5, .int v5), (6, .int v6), (7, .int v7), (8, .int v8), (9, .int v9), (10, .int v10)] [] Φ) (h : wX11_vex_207 post bk45 bk66 M tl v1 v2 v7 v8 v9 v10 v11 v12) : T E kX11_vex 0 0 (WM E ad M tl) 207 [(0, .ref (ad (81))), (1, .int v1), (2, .int v2), (7, .int v7), (8, .int v8), (9, .int v9), (10, .int v10), (11, .int v11), (12, .int v12)] [] Φ := by
  unfold wX11_vex_207 at h
  refine tj_iload rfl dX11_vex_207 rfl ?_
  refine tj_istore_n (l' := [(0, _), (1, _), (2, _), (3, _), (7, _), (8, _), (9, _), (10, _), (11, _), (12, _)]) rfl dX11_vex_209 (by decide) rfl ?_
  refine tj_iload rfl dX11_vex_210 rfl ?_
  refine tj_istore (l' := [(0, _), (1, _), (2, _), (3, _), (4, _), (7, _), (8, _), (9, _), (10, _), (11, _), (12, _)]) rfl dX11_vex_212 (by decide) rfl ?_
  refine tj_iload rfl dX11_vex_214 rfl ?_
  refine tj_istore (l' := [(0, _), (1, _), (2, _), (3, _), (4, _), (5, _), (7, _), (8, _), (9, _), (10, _), (11, _), (12, _)]) rfl dX11_vex_216 (by decide) rfl ?_
  refine tj_iload rfl dX11_vex_218 rfl ?_
  refine tj_istore (l' := [(0, _), (1, _), (2, _), (3, _), (4, _), (5, _), (6, _), (7, _), (8, _), (9, _), (10, _), (11, _), (12, _)]) rfl dX11_vex_220 (by decide) rfl ?_
  exact tj_pick (l' := [(0, _), (1, _), (2, _), (3, _), (4, _), (5, _), (6, _), (7, _), (8, _), (9, _), (10, _)]) [0, 1, 2, 3, 4, 5, 6, 7, 8, 9, 10] rfl (bX11_vex_222 hp hb45 hb66 h)
def wX11_vex_174 (post : Int32 → MM → Int64 → Prop) (bk45 : MM → Int64 → Int32 → Int32 → Int32 → Int32 → Int32 → Int32 → Int32 → Int32 → Prop) (bk66 : MM → Int64 → Int32 → Int32 → Int32 → Int32 → Int32 → Int32 → Int32 → Int32 → Int32 → Int32 → Prop) (M : MM) (tl : Int64) (v1 : Int32) (v2 : Int32) (v3 : Int32) (v4 : Int32) (v5 : Int32) (v6 : Int32) (v7 : Int32) (v8 : Int32) (v9 : Int32) (v10 : Int32) (v11 : Int32) (v12 : Int32) (s0 : Int32) : Prop :=
  (if s0 = 0 then wX11_vex_222 post bk45 bk66 M tl v1 v2 v3 v4 v5 v6 v7 v8 v9 v10 else (if v5 = (-4) then wX11_vex_207 post bk45 bk66 M tl v1 v2 v7 v8 v9 v10 v11 v12 else (if v3 < v11 then wX11_vex_207 post bk45 bk66 M tl v1 v2 v7 v8 v9 v10 v11 v12 else (if v11 = v3 then (if v4 ≤ v12 then wX11_vex_222 post bk45 bk66 M tl v1 v2 v3 v4 v5 v6 v7 v8 v9 v10 else wX11_vex_207 post bk45 bk66 M tl v1 v2 v7 v8 v9 v10 v11 v12) else wX11_vex_222 post bk45 bk66 M tl v1 v2 v3 v4 v5 v6 v7 v8 v9 v10))))
set_option maxHeartbeats 4000000 in
set_option maxRecDepth 20000 in
theorem bX11_vex_174 {E : EV} {ad : Nat → Nat} {M : MM} {tl : Int64} {Φ : Option Value → va_W → Prop} {post : Int32 → MM → Int64 → Prop} {bk45 : MM → Int64 → Int32 → Int32 → Int32 → Int32 → Int32 → Int32 → Int32 → Int32 → Prop} {bk66 : MM → Int64 → Int32 → Int32 → Int32 → Int32 → Int32 → Int32 → Int32 → Int32 → Int32 → Int32 → Prop} {v1 : Int32} {v2 : Int32} {v3 : Int32} {v4 : Int32} {v5 : Int32} {v6 : Int32} {v7 : Int32} {v8 : Int32} {v9 : Int32} {v10 : Int32} {v11 : Int32} {v12 : Int32} {s0 : Int32} (hp : ∀ r M tl, post r M tl → Φ (some (.int r)) (WM E ad M tl)) (hb45 : ∀ (M : MM) (tl : Int64) (v1 : Int32) (v2 : Int32) (v3 : Int32) (v4 : Int32) (v5 : Int32) (v6 : Int32) (v7 : Int32) (v8 : Int32), bk45 M tl v1 v2 v3 v4 v5 v6 v7 v8 → T E kX11_vex 0 0 (WM E ad M tl) 45 [(0, .ref (ad (81))), (1, .int v1), (2, .int v2), (3, .int v3), (4, .int v4), (5, .int v5), (6, .int v6), (7, .int v7), (8, .int v8)] [] Φ) (hb66 : ∀ (M : MM) (tl : Int64) (v1 : Int32) (v2 : Int32) (v3 : Int32) (v4 : Int32) (v5 : Int32) (v6 : Int32) (v7 : Int32) (v8 : Int32) (v9 : Int32) (v10 : Int32), bk66 M tl v1 v2 v3 v4 v5 v6 v7 v8 v9 v10 → T E kX11_vex 0 0 (WM E ad M tl) 66 [(0, .ref (ad (81))), (1, .int v1), (2, .int v2), (3, .int v3), (4, .int v4), (5, .int v5), (6, .int v6), (7, .int v7), (8, .int v8), (9, .int v9), (10, .int v10)] [] Φ) (h : wX11_vex_174 post bk45 bk66 M tl v1 v2 v3 v4 v5 v6 v7 v8 v9 v10 v11 v12 s0) : T E kX11_vex 0 0 (WM E ad M tl) 174 [(0, .ref (ad (81))), (1, .int v1), (2, .int v2), (3, .int v3), (4, .int v4), (5, .int v5), (6, .int v6), (7, .int v7), (8, .int v8), (9, .int v9), (10, .int v10), (11, .int v11), (12, .int v12)] [.int s0] Φ := by
  unfold wX11_vex_174 at h
  refine tj_istore (l' := [(0, _), (1, _), (2, _), (3, _), (4, _), (5, _), (6, _), (7, _), (8, _), (9, _), (10, _), (11, _), (12, _), (13, _)]) rfl dX11_vex_174 (by decide) rfl ?_
  refine tj_iload rfl dX11_vex_176 rfl ?_
  refine tj_if_eq (tgt := 222) rfl rfl dX11_vex_178 (fun hc => ?_) (fun hc => ?_)
  · rw [if_pos hc] at h
    exact tj_pick (l' := [(0, _), (1, _), (2, _), (3, _), (4, _), (5, _), (6, _), (7, _), (8, _), (9, _), (10, _)]) [0, 1, 2, 3, 4, 5, 6, 7, 8, 9, 10] rfl (bX11_vex_222 hp hb45 hb66 h)
  · rw [if_neg hc] at h
    refine tj_iload rfl dX11_vex_181 rfl ?_
    refine tj_bipush (v := -4) rfl dX11_vex_183 (by decide) ?_
    refine tj_icmp_eq (tgt := 207) rfl rfl dX11_vex_185 (fun hc => ?_) (fun hc => ?_)
    · rw [if_pos hc] at h
      exact tj_pick (l' := [(0, _), (1, _), (2, _), (7, _), (8, _), (9, _), (10, _), (11, _), (12, _)]) [0, 1, 2, 7, 8, 9, 10, 11, 12] rfl (bX11_vex_207 hp hb45 hb66 h)
    · rw [if_neg hc] at h
      refine tj_iload rfl dX11_vex_188 rfl ?_
      refine tj_iload_n rfl dX11_vex_190 rfl ?_
      refine tj_icmp_gt (tgt := 207) rfl rfl dX11_vex_191 (fun hc => ?_) (fun hc => ?_)
      · rw [if_pos hc] at h
        exact tj_pick (l' := [(0, _), (1, _), (2, _), (7, _), (8, _), (9, _), (10, _), (11, _), (12, _)]) [0, 1, 2, 7, 8, 9, 10, 11, 12] rfl (bX11_vex_207 hp hb45 hb66 h)
      · rw [if_neg hc] at h
        refine tj_iload rfl dX11_vex_194 rfl ?_
        refine tj_iload_n rfl dX11_vex_196 rfl ?_
        refine tj_icmp_ne (tgt := 222) rfl rfl dX11_vex_197 (fun hc => ?_) (fun hc => ?_)
        · rw [if_neg hc] at h
          exact tj_pick (l' := [(0, _), (1, _), (2, _), (3, _), (4, _), (5, _), (6, _), (7, _), (8, _), (9, _), (10, _)]) [0, 1, 2, 3, 4, 5, 6, 7, 8, 9, 10] rfl (bX11_vex_222 hp hb45 hb66 h)
        · rw [if_pos hc] at h
          refine tj_iload rfl dX11_vex_200 rfl ?_
          refine tj_iload rfl dX11_vex_202 rfl ?_
          refine tj_icmp_ge (tgt := 222) rfl rfl dX11_vex_204 (fun hc => ?_) (fun hc => ?_)
          · rw [if_pos hc] at h
            exact tj_pick (l' := [(0, _), (1, _), (2, _), (3, _), (4, _), (5, _), (6, _), (7, _), (8, _), (9, _), (10, _)]) [0, 1, 2, 3, 4, 5, 6, 7, 8, 9, 10] rfl (bX11_vex_222 hp hb45 hb66 h)
          · rw [if_neg hc] at h
            exact tj_pick (l' := [(0, _), (1, _), (2, _), (7, _), (8, _), (9, _), (10, _), (11, _), (12, _)]) [0, 1, 2, 7, 8, 9, 10, 11, 12] rfl (bX11_vex_207 hp hb45 hb66 h)
def wX11_vex_173 (post : Int32 → MM → Int64 → Prop) (bk45 : MM → Int64 → Int32 → Int32 → Int32 → Int32 → Int32 → Int32 → Int32 → Int32 → Prop) (bk66 : MM → Int64 → Int32 → Int32 → Int32 → Int32 → Int32 → Int32 → Int32 → Int32 → Int32 → Int32 → Prop) (M : MM) (tl : Int64) (v1 : Int32) (v2 : Int32) (v3 : Int32) (v4 : Int32) (v5 : Int32) (v6 : Int32) (v7 : Int32) (v8 : Int32) (v9 : Int32) (v10 : Int32) (v11 : Int32) (v12 : Int32) : Prop :=
  wX11_vex_174 post bk45 bk66 M tl v1 v2 v3 v4 v5 v6 v7 v8 v9 v10 v11 v12 0
set_option maxHeartbeats 4000000 in
set_option maxRecDepth 20000 in
theorem bX11_vex_173 {E : EV} {ad : Nat → Nat} {M : MM} {tl : Int64} {Φ : Option Value → va_W → Prop} {post : Int32 → MM → Int64 → Prop} {bk45 : MM → Int64 → Int32 → Int32 → Int32 → Int32 → Int32 → Int32 → Int32 → Int32 → Prop} {bk66 : MM → Int64 → Int32 → Int32 → Int32 → Int32 → Int32 → Int32 → Int32 → Int32 → Int32 → Int32 → Prop} {v1 : Int32} {v2 : Int32} {v3 : Int32} {v4 : Int32} {v5 : Int32} {v6 : Int32} {v7 : Int32} {v8 : Int32} {v9 : Int32} {v10 : Int32} {v11 : Int32} {v12 : Int32} (hp : ∀ r M tl, post r M tl → Φ (some (.int r)) (WM E ad M tl)) (hb45 : ∀ (M : MM) (tl : Int64) (v1 : Int32) (v2 : Int32) (v3 : Int32) (v4 : Int32) (v5 : Int32) (v6 : Int32) (v7 : Int32) (v8 : Int32), bk45 M tl v1 v2 v3 v4 v5 v6 v7 v8 → T E kX11_vex 0 0 (WM E ad M tl) 45 [(0, .ref (ad (81))), (1, .int v1), (2, .int v2), (3, .int v3), (4, .int v4), (5, .int v5), (6, .int v6), (7, .int v7), (8, .int v8)] [] Φ) (hb66 : ∀ (M : MM) (tl : Int64) (v1 : Int32) (v2 : Int32) (v3 : Int32) (v4 : Int32) (v5 : Int32) (v6 : Int32) (v7 : Int32) (v8 : Int32) (v9 : Int32) (v10 : Int32), bk66 M tl v1 v2 v3 v4 v5 v6 v7 v8 v9 v10 → T E kX11_vex 0 0 (WM E ad M tl) 66 [(0, .ref (ad (81))), (1, .int v1), (2, .int v2), (3, .int v3), (4, .int v4), (5, .int v5), (6, .int v6), (7, .int v7), (8, .int v8), (9, .int v9), (10, .int v10)] [] Φ) (h : wX11_vex_173 post bk45 bk66 M tl v1 v2 v3 v4 v5 v6 v7 v8 v9 v10 v11 v12) : T E kX11_vex 0 0 (WM E ad M tl) 173 [(0, .ref (ad (81))), (1, .int v1), (2, .int v2), (3, .int v3), (4, .int v4), (5, .int v5), (6, .int v6), (7, .int v7), (8, .int v8), (9, .int v9), (10, .int v10), (11, .int v11), (12, .int v12)] [] Φ := by
  unfold wX11_vex_173 at h
  refine tj_iconst (v := 0) rfl dX11_vex_173 (by decide) ?_
  exact bX11_vex_174 hp hb45 hb66 h
def wX11_vex_228 (post : Int32 → MM → Int64 → Prop) (bk45 : MM → Int64 → Int32 → Int32 → Int32 → Int32 → Int32 → Int32 → Int32 → Int32 → Prop) (M : MM) (tl : Int64) (v1 : Int32) (v2 : Int32) (v3 : Int32) (v4 : Int32) (v5 : Int32) (v6 : Int32) (v7 : Int32) (v8 : Int32) : Prop :=
  bk45 M tl v1 v2 v3 v4 v5 v6 v7 (v8 + 1)
set_option maxHeartbeats 4000000 in
set_option maxRecDepth 20000 in
theorem bX11_vex_228 {E : EV} {ad : Nat → Nat} {M : MM} {tl : Int64} {Φ : Option Value → va_W → Prop} {post : Int32 → MM → Int64 → Prop} {bk45 : MM → Int64 → Int32 → Int32 → Int32 → Int32 → Int32 → Int32 → Int32 → Int32 → Prop} {v1 : Int32} {v2 : Int32} {v3 : Int32} {v4 : Int32} {v5 : Int32} {v6 : Int32} {v7 : Int32} {v8 : Int32} (hp : ∀ r M tl, post r M tl → Φ (some (.int r)) (WM E ad M tl)) (hb45 : ∀ (M : MM) (tl : Int64) (v1 : Int32) (v2 : Int32) (v3 : Int32) (v4 : Int32) (v5 : Int32) (v6 : Int32) (v7 : Int32) (v8 : Int32), bk45 M tl v1 v2 v3 v4 v5 v6 v7 v8 → T E kX11_vex 0 0 (WM E ad M tl) 45 [(0, .ref (ad (81))), (1, .int v1), (2, .int v2), (3, .int v3), (4, .int v4), (5, .int v5), (6, .int v6), (7, .int v7), (8, .int v8)] [] Φ) (h : wX11_vex_228 post bk45 M tl v1 v2 v3 v4 v5 v6 v7 v8) : T E kX11_vex 0 0 (WM E ad M tl) 228 [(0, .ref (ad (81))), (1, .int v1), (2, .int v2), (3, .int v3), (4, .int v4), (5, .int v5), (6, .int v6), (7, .int v7), (8, .int v8)] [] Φ := by
  unfold wX11_vex_228 at h
  refine tj_iinc (v := _ + 1) (l' := [(0, _), (1, _), (2, _), (3, _), (4, _), (5, _), (6, _), (7, _), (8, _)]) rfl dX11_vex_228 rfl (by decide) rfl rfl ?_
  refine tj_goto (tgt := 45) rfl dX11_vex_231 ?_
  exact hb45 _ _ _ _ _ _ _ _ _ _ h
def wX11_vex_66 (post : Int32 → MM → Int64 → Prop) (bk45 : MM → Int64 → Int32 → Int32 → Int32 → Int32 → Int32 → Int32 → Int32 → Int32 → Prop) : Nat → MM → Int64 → Int32 → Int32 → Int32 → Int32 → Int32 → Int32 → Int32 → Int32 → Int32 → Int32 → Prop
  | 0, _, _, _, _, _, _, _, _, _, _, _, _ => False
  | n + 1, M, tl, v1, v2, v3, v4, v5, v6, v7, v8, v9, v10 =>
    (if 6 ≤ v10 then wX11_vex_228 post bk45 M tl v1 v2 v3 v4 v5 v6 v7 v8 else (if v9 = (-4) then wX11_vex_228 post bk45 M tl v1 v2 v3 v4 v5 v6 v7 v8 else (vp_in v10 (al 88) ∧ (vp_in (v7 + (M 88 (v10 : Int32).toNatClampNeg)) (al 85) ∧ wpX11_kindThere (fun r5 M3 t4 => (vp_in (v7 + r5) (al 86) ∧ (vp_in v10 (al 88) ∧ (vp_in (v7 + (M3 88 (v10 : Int32).toNatClampNeg)) (al 86) ∧ (vp_in (((6 : Int32) * v1) + v10) (al 85) ∧ wpX11_mayBe (fun r12 M10 t11 => (if r12 = 0 then wX11_vex_173 post bk45 (wX11_vex_66 post bk45 n) M10 t11 v1 v2 v3 v4 v5 v6 v7 v8 v9 v10 (((M 85 (v7 + (M 88 (v10 : Int32).toNatClampNeg) : Int32).toNatClampNeg) + (M3 86 (v7 + r5 : Int32).toNatClampNeg)) - (M3 86 (v7 + (M3 88 (v10 : Int32).toNatClampNeg) : Int32).toNatClampNeg)) (M3 85 (((6 : Int32) * v1) + v10 : Int32).toNatClampNeg) else wpX11_kindThere (fun r15 M13 t14 => (if v10 = r15 then wX11_vex_173 post bk45 (wX11_vex_66 post bk45 n) M13 t14 v1 v2 v3 v4 v5 v6 v7 v8 v9 v10 (((M 85 (v7 + (M 88 (v10 : Int32).toNatClampNeg) : Int32).toNatClampNeg) + (M3 86 (v7 + r5 : Int32).toNatClampNeg)) - (M3 86 (v7 + (M3 88 (v10 : Int32).toNatClampNeg) : Int32).toNatClampNeg)) (M3 85 (((6 : Int32) * v1) + v10 : Int32).toNatClampNeg) else wX11_vex_174 post bk45 (wX11_vex_66 post bk45 n) M13 t14 v1 v2 v3 v4 v5 v6 v7 v8 v9 v10 (((M 85 (v7 + (M 88 (v10 : Int32).toNatClampNeg) : Int32).toNatClampNeg) + (M3 86 (v7 + r5 : Int32).toNatClampNeg)) - (M3 86 (v7 + (M3 88 (v10 : Int32).toNatClampNeg) : Int32).toNatClampNeg)) (M3 85 (((6 : Int32) * v1) + v10 : Int32).toNatClampNeg) 1)) M10 t11 v1 v8)) M3 t4 v1 v8 v10))))) M tl ((1 : Int32) - v1) v9))))
set_option maxHeartbeats 4000000 in
set_option maxRecDepth 20000 in
theorem bX11_vex_66 {E : EV} {ad : Nat → Nat} {Φ : Option Value → va_W → Prop} {post : Int32 → MM → Int64 → Prop} {bk45 : MM → Int64 → Int32 → Int32 → Int32 → Int32 → Int32 → Int32 → Int32 → Int32 → Prop}  (hp : ∀ r M tl, post r M tl → Φ (some (.int r)) (WM E ad M tl)) (hb45 : ∀ (M : MM) (tl : Int64) (v1 : Int32) (v2 : Int32) (v3 : Int32) (v4 : Int32) (v5 : Int32) (v6 : Int32) (v7 : Int32) (v8 : Int32), bk45 M tl v1 v2 v3 v4 v5 v6 v7 v8 → T E kX11_vex 0 0 (WM E ad M tl) 45 [(0, .ref (ad (81))), (1, .int v1), (2, .int v2), (3, .int v3), (4, .int v4), (5, .int v5), (6, .int v6), (7, .int v7), (8, .int v8)] [] Φ) : ∀ (n : Nat) (M : MM) (tl : Int64) (v1 : Int32) (v2 : Int32) (v3 : Int32) (v4 : Int32) (v5 : Int32) (v6 : Int32) (v7 : Int32) (v8 : Int32) (v9 : Int32) (v10 : Int32), wX11_vex_66 post bk45 n M tl v1 v2 v3 v4 v5 v6 v7 v8 v9 v10 → T E kX11_vex 0 0 (WM E ad M tl) 66 [(0, .ref (ad (81))), (1, .int v1), (2, .int v2), (3, .int v3), (4, .int v4), (5, .int v5), (6, .int v6), (7, .int v7), (8, .int v8), (9, .int v9), (10, .int v10)] [] Φ := by
  intro n
  induction n with
  | zero => intro M tl v1 v2 v3 v4 v5 v6 v7 v8 v9 v10 h; exact False.elim h
  | succ n ih =>
    intro M tl v1 v2 v3 v4 v5 v6 v7 v8 v9 v10 h
    unfold wX11_vex_66 at h
    refine tj_iload rfl dX11_vex_66 rfl ?_
    refine tj_bipush (v := 6) rfl dX11_vex_68 (by decide) ?_
    refine tj_icmp_ge (tgt := 228) rfl rfl dX11_vex_70 (fun hc => ?_) (fun hc => ?_)
    · rw [if_pos hc] at h
      exact tj_pick (l' := [(0, _), (1, _), (2, _), (3, _), (4, _), (5, _), (6, _), (7, _), (8, _)]) [0, 1, 2, 3, 4, 5, 6, 7, 8] rfl (bX11_vex_228 hp hb45 h)
    · rw [if_neg hc] at h
      refine tj_iload rfl dX11_vex_73 rfl ?_
      refine tj_bipush (v := -4) rfl dX11_vex_75 (by decide) ?_
      refine tj_icmp_eq (tgt := 228) rfl rfl dX11_vex_77 (fun hc => ?_) (fun hc => ?_)
      · rw [if_pos hc] at h
        exact tj_pick (l' := [(0, _), (1, _), (2, _), (3, _), (4, _), (5, _), (6, _), (7, _), (8, _)]) [0, 1, 2, 3, 4, 5, 6, 7, 8] rfl (bX11_vex_228 hp hb45 h)
      · rw [if_neg hc] at h
        refine tj_aload_n rfl dX11_vex_80 rfl ?_
        refine gf11_cost (a := 81) rfl rfl dX11_vex_81 fl_X11_20 ?_
        refine tj_iload rfl dX11_vex_84 rfl ?_
        refine tj_aload_n rfl dX11_vex_86 rfl ?_
        refine gf11_twin (a := 81) rfl rfl dX11_vex_87 fl_X11_29 ?_
        refine tj_iload rfl dX11_vex_90 rfl ?_
        obtain ⟨hi1, h⟩ := h
        refine af_iald (a := 88) rfl rfl dX11_vex_92 hi1 ?_
        refine tj_iadd rfl dX11_vex_93 ?_
        obtain ⟨hi2, h⟩ := h
        refine af_iald (a := 85) rfl rfl dX11_vex_94 hi2 ?_
        refine tj_aload_n rfl dX11_vex_95 rfl ?_
        refine gf11_taste (a := 81) rfl rfl dX11_vex_96 fl_X11_23 ?_
        refine tj_iload rfl dX11_vex_99 rfl ?_
        refine tj_aload_n rfl dX11_vex_101 rfl ?_
        refine tj_iconst (v := 1) rfl dX11_vex_102 (by decide) ?_
        refine tj_iload_n rfl dX11_vex_103 rfl ?_
        refine tj_isub rfl dX11_vex_104 ?_
        refine tj_iload rfl dX11_vex_105 rfl ?_
        refine cf_V11 (a := 81) (z := kX11_kindThere) (As := [_, _]) rfl rfl dX11_vex_107 rfl ml_X11_320 okX11_kindThere rfl (rm_ok rfl) (Nat.le_of_ble_eq_true rfl) (Nat.le_of_ble_eq_true rfl) rfl rfl ?_
        refine ctX11_kindThere h (fun r5 M3 t4 h => ?_)
        refine tj_iadd rfl dX11_vex_110 ?_
        obtain ⟨hi6, h⟩ := h
        refine af_iald (a := 86) rfl rfl dX11_vex_111 hi6 ?_
        refine tj_iadd rfl dX11_vex_112 ?_
        refine tj_aload_n rfl dX11_vex_113 rfl ?_
        refine gf11_taste (a := 81) rfl rfl dX11_vex_114 fl_X11_23 ?_
        refine tj_iload rfl dX11_vex_117 rfl ?_
        refine tj_aload_n rfl dX11_vex_119 rfl ?_
        refine gf11_twin (a := 81) rfl rfl dX11_vex_120 fl_X11_29 ?_
        refine tj_iload rfl dX11_vex_123 rfl ?_
        obtain ⟨hi7, h⟩ := h
        refine af_iald (a := 88) rfl rfl dX11_vex_125 hi7 ?_
        refine tj_iadd rfl dX11_vex_126 ?_
        obtain ⟨hi8, h⟩ := h
        refine af_iald (a := 86) rfl rfl dX11_vex_127 hi8 ?_
        refine tj_isub rfl dX11_vex_128 ?_
        refine tj_istore (l' := [(0, _), (1, _), (2, _), (3, _), (4, _), (5, _), (6, _), (7, _), (8, _), (9, _), (10, _), (11, _)]) rfl dX11_vex_129 (by decide) rfl ?_
        refine tj_aload_n rfl dX11_vex_131 rfl ?_
        refine gf11_cost (a := 81) rfl rfl dX11_vex_132 fl_X11_20 ?_
        refine tj_bipush (v := 6) rfl dX11_vex_135 (by decide) ?_
        refine tj_iload_n rfl dX11_vex_137 rfl ?_
        refine tj_imul rfl dX11_vex_138 ?_
        refine tj_iload rfl dX11_vex_139 rfl ?_
        refine tj_iadd rfl dX11_vex_141 ?_
        obtain ⟨hi9, h⟩ := h
        refine af_iald (a := 85) rfl rfl dX11_vex_142 hi9 ?_
        refine tj_istore (l' := [(0, _), (1, _), (2, _), (3, _), (4, _), (5, _), (6, _), (7, _), (8, _), (9, _), (10, _), (11, _), (12, _)]) rfl dX11_vex_143 (by decide) rfl ?_
        refine tj_aload_n rfl dX11_vex_145 rfl ?_
        refine tj_iload_n rfl dX11_vex_146 rfl ?_
        refine tj_iload rfl dX11_vex_147 rfl ?_
        refine tj_iload rfl dX11_vex_149 rfl ?_
        refine cf_V11 (a := 81) (z := kX11_mayBe) (As := [_, _, _]) rfl rfl dX11_vex_151 rfl ml_X11_326 okX11_mayBe rfl (rm_ok rfl) (Nat.le_of_ble_eq_true rfl) (Nat.le_of_ble_eq_true rfl) rfl rfl ?_
        refine ctX11_mayBe h (fun r12 M10 t11 h => ?_)
        refine tj_if_eq (tgt := 173) rfl rfl dX11_vex_154 (fun hc => ?_) (fun hc => ?_)
        · rw [if_pos hc] at h
          exact bX11_vex_173 hp hb45 ih h
        · rw [if_neg hc] at h
          refine tj_iload rfl dX11_vex_157 rfl ?_
          refine tj_aload_n rfl dX11_vex_159 rfl ?_
          refine tj_iload_n rfl dX11_vex_160 rfl ?_
          refine tj_iload rfl dX11_vex_161 rfl ?_
          refine cf_V11 (a := 81) (z := kX11_kindThere) (As := [_, _]) rfl rfl dX11_vex_163 rfl ml_X11_320 okX11_kindThere rfl (rm_ok rfl) (Nat.le_of_ble_eq_true rfl) (Nat.le_of_ble_eq_true rfl) rfl rfl ?_
          refine ctX11_kindThere h (fun r15 M13 t14 h => ?_)
          refine tj_icmp_eq (tgt := 173) rfl rfl dX11_vex_166 (fun hc => ?_) (fun hc => ?_)
          · rw [if_pos hc] at h
            exact bX11_vex_173 hp hb45 ih h
          · rw [if_neg hc] at h
            refine tj_iconst (v := 1) rfl dX11_vex_169 (by decide) ?_
            refine tj_goto (tgt := 174) rfl dX11_vex_170 ?_
            exact bX11_vex_174 hp hb45 ih h
def wX11_vex_45 (post : Int32 → MM → Int64 → Prop) : Nat → MM → Int64 → Int32 → Int32 → Int32 → Int32 → Int32 → Int32 → Int32 → Int32 → Prop
  | 0, _, _, _, _, _, _, _, _, _, _ => False
  | n + 1, M, tl, v1, v2, v3, v4, v5, v6, v7, v8 =>
    (if (M 81 2) ≤ v8 then (if v5 = (-4) then post (-4) M tl else (if v2 = 0 then post (v3 + 1000) M tl else (if v2 = 1 then post v5 M tl else post v6 M tl))) else wpX11_matchOf (fun r3 M1 t2 => (∃ n9, wX11_vex_66 post (wX11_vex_45 post n) n9 M1 t2 v1 v2 v3 v4 v5 v6 v7 v8 r3 1)) M tl v1 v8)
set_option maxHeartbeats 4000000 in
set_option maxRecDepth 20000 in
theorem bX11_vex_45 {E : EV} {ad : Nat → Nat} {Φ : Option Value → va_W → Prop} {post : Int32 → MM → Int64 → Prop}  (hp : ∀ r M tl, post r M tl → Φ (some (.int r)) (WM E ad M tl)) : ∀ (n : Nat) (M : MM) (tl : Int64) (v1 : Int32) (v2 : Int32) (v3 : Int32) (v4 : Int32) (v5 : Int32) (v6 : Int32) (v7 : Int32) (v8 : Int32), wX11_vex_45 post n M tl v1 v2 v3 v4 v5 v6 v7 v8 → T E kX11_vex 0 0 (WM E ad M tl) 45 [(0, .ref (ad (81))), (1, .int v1), (2, .int v2), (3, .int v3), (4, .int v4), (5, .int v5), (6, .int v6), (7, .int v7), (8, .int v8)] [] Φ := by
  intro n
  induction n with
  | zero => intro M tl v1 v2 v3 v4 v5 v6 v7 v8 h; exact False.elim h
  | succ n ih =>
    intro M tl v1 v2 v3 v4 v5 v6 v7 v8 h
    unfold wX11_vex_45 at h
    refine tj_iload rfl dX11_vex_45 rfl ?_
    refine tj_aload_n rfl dX11_vex_47 rfl ?_
    refine gf11_lots (a := 81) rfl rfl dX11_vex_48 fl_X11_129 ?_
    refine tj_icmp_ge (tgt := 234) rfl rfl dX11_vex_51 (fun hc => ?_) (fun hc => ?_)
    · rw [if_pos hc] at h
      refine tj_iload rfl dX11_vex_234 rfl ?_
      refine tj_bipush (v := -4) rfl dX11_vex_236 (by decide) ?_
      refine tj_icmp_ne (tgt := 246) rfl rfl dX11_vex_238 (fun hc => ?_) (fun hc => ?_)
      · rw [if_neg hc] at h
        refine tj_iload_n rfl dX11_vex_246 rfl ?_
        refine tj_if_ne (tgt := 258) rfl rfl dX11_vex_247 (fun hc => ?_) (fun hc => ?_)
        · rw [if_neg hc] at h
          refine tj_iload_n rfl dX11_vex_258 rfl ?_
          refine tj_iconst (v := 1) rfl dX11_vex_259 (by decide) ?_
          refine tj_icmp_ne (tgt := 268) rfl rfl dX11_vex_260 (fun hc => ?_) (fun hc => ?_)
          · rw [if_neg hc] at h
            refine tj_iload rfl dX11_vex_268 rfl ?_
            exact tj_ireturn (ty := .int) dX11_vex_270 rfl rfl (Nat.zero_le _) (Nat.zero_le _) (hp _ _ _ h)
          · rw [if_pos hc] at h
            refine tj_iload rfl dX11_vex_263 rfl ?_
            refine tj_goto (tgt := 270) rfl dX11_vex_265 ?_
            exact tj_ireturn (ty := .int) dX11_vex_270 rfl rfl (Nat.zero_le _) (Nat.zero_le _) (hp _ _ _ h)
        · rw [if_pos hc] at h
          refine tj_iload_n rfl dX11_vex_250 rfl ?_
          refine tj_sipush (v := 1000) rfl dX11_vex_251 (by decide) ?_
          refine tj_iadd rfl dX11_vex_254 ?_
          refine tj_goto (tgt := 270) rfl dX11_vex_255 ?_
          exact tj_ireturn (ty := .int) dX11_vex_270 rfl rfl (Nat.zero_le _) (Nat.zero_le _) (hp _ _ _ h)
      · rw [if_pos hc] at h
        refine tj_bipush (v := -4) rfl dX11_vex_241 (by decide) ?_
        refine tj_goto (tgt := 270) rfl dX11_vex_243 ?_
        exact tj_ireturn (ty := .int) dX11_vex_270 rfl rfl (Nat.zero_le _) (Nat.zero_le _) (hp _ _ _ h)
    · rw [if_neg hc] at h
      refine tj_aload_n rfl dX11_vex_54 rfl ?_
      refine tj_iload_n rfl dX11_vex_55 rfl ?_
      refine tj_iload rfl dX11_vex_56 rfl ?_
      refine cf_V11 (a := 81) (z := kX11_matchOf) (As := [_, _]) rfl rfl dX11_vex_58 rfl ml_X11_289 okX11_matchOf rfl (rm_ok rfl) (Nat.le_of_ble_eq_true rfl) (Nat.le_of_ble_eq_true rfl) rfl rfl ?_
      refine ctX11_matchOf h (fun r3 M1 t2 h => ?_)
      refine tj_istore (l' := [(0, _), (1, _), (2, _), (3, _), (4, _), (5, _), (6, _), (7, _), (8, _), (9, _)]) rfl dX11_vex_61 (by decide) rfl ?_
      refine tj_iconst (v := 1) rfl dX11_vex_63 (by decide) ?_
      refine tj_istore (l' := [(0, _), (1, _), (2, _), (3, _), (4, _), (5, _), (6, _), (7, _), (8, _), (9, _), (10, _)]) rfl dX11_vex_64 (by decide) rfl ?_
      obtain ⟨n9, h⟩ := h
      exact bX11_vex_66 hp ih n9 _ _ _ _ _ _ _ _ _ _ _ _ h
def wpX11_vex (post : Int32 → MM → Int64 → Prop) (M : MM) (tl : Int64) (v1 : Int32) (v2 : Int32) : Prop :=
  wpX11_isBank (fun r3 M1 t2 => (if r3 = 0 then post (-1) M1 t2 else wpX11_in (fun r6 M4 t5 => (if r6 = 0 then post (-1) M4 t5 else (∃ n9, wX11_vex_45 post  n9 M4 t5 v1 v2 0 0 (-4) (-4) ((6 : Int32) * ((1 : Int32) - v1)) 0))) M1 t2 ((v2 : Int32).toInt64) 0 2)) M tl v1
set_option maxHeartbeats 4000000 in
set_option maxRecDepth 20000 in
theorem ctX11_vex {E : EV} {ad : Nat → Nat} {M : MM} {tl : Int64} {Φ : Option Value → va_W → Prop} {post : Int32 → MM → Int64 → Prop} {v1 : Int32} {v2 : Int32} (h : wpX11_vex post M tl v1 v2) (hp : ∀ r M tl, post r M tl → Φ (some (.int r)) (WM E ad M tl)) : Tm E kX11_vex (WM E ad M tl) [.ref (ad (81)), .int v1, .int v2] Φ := by
  unfold wpX11_vex at h
  show T E kX11_vex 0 0 (WM E ad M tl) 0 [(0, .ref (ad (81))), (1, .int v1), (2, .int v2)] [] Φ
  refine tj_iload_n rfl dX11_vex_0 rfl ?_
  refine cf_S (z := kX11_isBank) (As := [_]) rfl dX11_vex_1 rfl ml_X11_279 okX11_isBank rfl (rm_ok rfl) (Nat.le_of_ble_eq_true rfl) (Nat.le_of_ble_eq_true rfl) rfl ?_
  refine ctX11_isBank h (fun r3 M1 t2 h => ?_)
  refine tj_if_eq (tgt := 19) rfl rfl dX11_vex_4 (fun hc => ?_) (fun hc => ?_)
  · rw [if_pos hc] at h
    refine tj_iconst (v := -1) rfl dX11_vex_19 (by decide) ?_
    exact tj_ireturn (ty := .int) dX11_vex_20 rfl rfl (Nat.zero_le _) (Nat.zero_le _) (hp _ _ _ h)
  · rw [if_neg hc] at h
    refine tj_iload_n rfl dX11_vex_7 rfl ?_
    refine tj_i2l rfl dX11_vex_8 ?_
    refine tj_lconst (v := 0) rfl dX11_vex_9 (by decide) ?_
    refine tj_ldc2 rfl dX11_vex_10 kl_X11_332 ?_
    refine cf_S (z := kX11_in) (As := [_, _, _]) rfl dX11_vex_13 rfl ml_X11_146 okX11_in rfl (rm_ok rfl) (Nat.le_of_ble_eq_true rfl) (Nat.le_of_ble_eq_true rfl) rfl ?_
    refine ctX11_in h (fun r6 M4 t5 h => ?_)
    refine tj_if_ne (tgt := 21) rfl rfl dX11_vex_16 (fun hc => ?_) (fun hc => ?_)
    · rw [if_neg hc] at h
      refine tj_iconst (v := 0) rfl dX11_vex_21 (by decide) ?_
      refine tj_istore_n (l' := [(0, _), (1, _), (2, _), (3, _)]) rfl dX11_vex_22 (by decide) rfl ?_
      refine tj_iconst (v := 0) rfl dX11_vex_23 (by decide) ?_
      refine tj_istore (l' := [(0, _), (1, _), (2, _), (3, _), (4, _)]) rfl dX11_vex_24 (by decide) rfl ?_
      refine tj_bipush (v := -4) rfl dX11_vex_26 (by decide) ?_
      refine tj_istore (l' := [(0, _), (1, _), (2, _), (3, _), (4, _), (5, _)]) rfl dX11_vex_28 (by decide) rfl ?_
      refine tj_bipush (v := -4) rfl dX11_vex_30 (by decide) ?_
      refine tj_istore (l' := [(0, _), (1, _), (2, _), (3, _), (4, _), (5, _), (6, _)]) rfl dX11_vex_32 (by decide) rfl ?_
      refine tj_bipush (v := 6) rfl dX11_vex_34 (by decide) ?_
      refine tj_iconst (v := 1) rfl dX11_vex_36 (by decide) ?_
      refine tj_iload_n rfl dX11_vex_37 rfl ?_
      refine tj_isub rfl dX11_vex_38 ?_
      refine tj_imul rfl dX11_vex_39 ?_
      refine tj_istore (l' := [(0, _), (1, _), (2, _), (3, _), (4, _), (5, _), (6, _), (7, _)]) rfl dX11_vex_40 (by decide) rfl ?_
      refine tj_iconst (v := 0) rfl dX11_vex_42 (by decide) ?_
      refine tj_istore (l' := [(0, _), (1, _), (2, _), (3, _), (4, _), (5, _), (6, _), (7, _), (8, _)]) rfl dX11_vex_43 (by decide) rfl ?_
      obtain ⟨n9, h⟩ := h
      exact bX11_vex_45 hp  n9 _ _ _ _ _ _ _ _ _ _ h
    · rw [if_pos hc] at h
      refine tj_iconst (v := -1) rfl dX11_vex_19 (by decide) ?_
      exact tj_ireturn (ty := .int) dX11_vex_20 rfl rfl (Nat.zero_le _) (Nat.zero_le _) (hp _ _ _ h)
def wpX11_want (post : Int32 → MM → Int64 → Prop) (M : MM) (tl : Int64) (v1 : Int32) (v2 : Int32) : Prop :=
  wpX11_isLot (fun r3 M1 t2 => (if r3 = 0 then post (-1) M1 t2 else wpX11_in (fun r6 M4 t5 => (if r6 = 0 then post (-1) M4 t5 else (vp_in 65 (al 82) ∧ (if (M4 82 (65 : Int32).toNatClampNeg) = 6 then post (-3) M4 t5 else (vp_in 65 (al 82) ∧ (vp_in ((66 : Int32) + ((2 : Int32) * (M4 82 (65 : Int32).toNatClampNeg))) (al 82) ∧ (∀ M10 : MM, M10 = mset M4 82 ((66 : Int32) + ((2 : Int32) * (M4 82 (65 : Int32).toNatClampNeg)) : Int32).toNatClampNeg v1 → (vp_in (((66 : Int32) + ((2 : Int32) * (M4 82 (65 : Int32).toNatClampNeg))) + 1) (al 82) ∧ (∀ M12 : MM, M12 = mset M10 82 (((66 : Int32) + ((2 : Int32) * (M4 82 (65 : Int32).toNatClampNeg))) + 1 : Int32).toNatClampNeg v2 → (vp_in 65 (al 82) ∧ (vp_in 65 (al 82) ∧ (∀ M15 : MM, M15 = mset M12 82 (65 : Int32).toNatClampNeg ((M12 82 (65 : Int32).toNatClampNeg) + 1) → (vp_in 65 (al 82) ∧ post (M15 82 (65 : Int32).toNatClampNeg) M15 t5))))))))))))) M1 t2 ((v2 : Int32).toInt64) 1 5)) M tl 0 v1
set_option maxHeartbeats 4000000 in
set_option maxRecDepth 20000 in
theorem ctX11_want {E : EV} {ad : Nat → Nat} {M : MM} {tl : Int64} {Φ : Option Value → va_W → Prop} {post : Int32 → MM → Int64 → Prop} {v1 : Int32} {v2 : Int32} (h : wpX11_want post M tl v1 v2) (hp : ∀ r M tl, post r M tl → Φ (some (.int r)) (WM E ad M tl)) : Tm E kX11_want (WM E ad M tl) [.ref (ad (81)), .int v1, .int v2] Φ := by
  unfold wpX11_want at h
  show T E kX11_want 0 0 (WM E ad M tl) 0 [(0, .ref (ad (81))), (1, .int v1), (2, .int v2)] [] Φ
  refine tj_aload_n rfl dX11_want_0 rfl ?_
  refine tj_iconst (v := 0) rfl dX11_want_1 (by decide) ?_
  refine tj_iload_n rfl dX11_want_2 rfl ?_
  refine cf_V11 (a := 81) (z := kX11_isLot) (As := [_, _]) rfl rfl dX11_want_3 rfl ml_X11_282 okX11_isLot rfl (rm_ok rfl) (Nat.le_of_ble_eq_true rfl) (Nat.le_of_ble_eq_true rfl) rfl rfl ?_
  refine ctX11_isLot h (fun r3 M1 t2 h => ?_)
  refine tj_if_eq (tgt := 21) rfl rfl dX11_want_6 (fun hc => ?_) (fun hc => ?_)
  · rw [if_pos hc] at h
    refine tj_iconst (v := -1) rfl dX11_want_21 (by decide) ?_
    exact tj_ireturn (ty := .int) dX11_want_22 rfl rfl (Nat.zero_le _) (Nat.zero_le _) (hp _ _ _ h)
  · rw [if_neg hc] at h
    refine tj_iload_n rfl dX11_want_9 rfl ?_
    refine tj_i2l rfl dX11_want_10 ?_
    refine tj_lconst (v := 1) rfl dX11_want_11 (by decide) ?_
    refine tj_ldc2 rfl dX11_want_12 kl_X11_255 ?_
    refine cf_S (z := kX11_in) (As := [_, _, _]) rfl dX11_want_15 rfl ml_X11_146 okX11_in rfl (rm_ok rfl) (Nat.le_of_ble_eq_true rfl) (Nat.le_of_ble_eq_true rfl) rfl ?_
    refine ctX11_in h (fun r6 M4 t5 h => ?_)
    refine tj_if_ne (tgt := 23) rfl rfl dX11_want_18 (fun hc => ?_) (fun hc => ?_)
    · rw [if_neg hc] at h
      refine tj_aload_n rfl dX11_want_23 rfl ?_
      refine gf11_st (a := 81) rfl rfl dX11_want_24 fl_X11_7 ?_
      refine tj_bipush (v := 65) rfl dX11_want_27 (by decide) ?_
      obtain ⟨hi7, h⟩ := h
      refine af_iald (a := 82) rfl rfl dX11_want_29 hi7 ?_
      refine tj_bipush (v := 6) rfl dX11_want_30 (by decide) ?_
      refine tj_icmp_ne (tgt := 38) rfl rfl dX11_want_32 (fun hc => ?_) (fun hc => ?_)
      · rw [if_neg hc] at h
        refine tj_bipush (v := 66) rfl dX11_want_38 (by decide) ?_
        refine tj_iconst (v := 2) rfl dX11_want_40 (by decide) ?_
        refine tj_aload_n rfl dX11_want_41 rfl ?_
        refine gf11_st (a := 81) rfl rfl dX11_want_42 fl_X11_7 ?_
        refine tj_bipush (v := 65) rfl dX11_want_45 (by decide) ?_
        obtain ⟨hi8, h⟩ := h
        refine af_iald (a := 82) rfl rfl dX11_want_47 hi8 ?_
        refine tj_imul rfl dX11_want_48 ?_
        refine tj_iadd rfl dX11_want_49 ?_
        refine tj_istore_n (l' := [(0, _), (1, _), (2, _), (3, _)]) rfl dX11_want_50 (by decide) rfl ?_
        refine tj_aload_n rfl dX11_want_51 rfl ?_
        refine gf11_st (a := 81) rfl rfl dX11_want_52 fl_X11_7 ?_
        refine tj_iload_n rfl dX11_want_55 rfl ?_
        refine tj_iload_n rfl dX11_want_56 rfl ?_
        obtain ⟨hi9, h⟩ := h
        refine af_iast (a := 82) rfl rfl dX11_want_57 hi9 ?_
        replace h := h _ rfl
        generalize mset M4 82 ((66 : Int32) + ((2 : Int32) * (M4 82 (65 : Int32).toNatClampNeg)) : Int32).toNatClampNeg v1 = M10 at h ⊢
        refine tj_aload_n rfl dX11_want_58 rfl ?_
        refine gf11_st (a := 81) rfl rfl dX11_want_59 fl_X11_7 ?_
        refine tj_iload_n rfl dX11_want_62 rfl ?_
        refine tj_iconst (v := 1) rfl dX11_want_63 (by decide) ?_
        refine tj_iadd rfl dX11_want_64 ?_
        refine tj_iload_n rfl dX11_want_65 rfl ?_
        obtain ⟨hi11, h⟩ := h
        refine af_iast (a := 82) rfl rfl dX11_want_66 hi11 ?_
        replace h := h _ rfl
        generalize mset M10 82 (((66 : Int32) + ((2 : Int32) * (M4 82 (65 : Int32).toNatClampNeg))) + 1 : Int32).toNatClampNeg v2 = M12 at h ⊢
        refine tj_aload_n rfl dX11_want_67 rfl ?_
        refine gf11_st (a := 81) rfl rfl dX11_want_68 fl_X11_7 ?_
        refine tj_bipush (v := 65) rfl dX11_want_71 (by decide) ?_
        refine tj_dup2 rfl dX11_want_73 rfl rfl ?_
        obtain ⟨hi13, h⟩ := h
        refine af_iald (a := 82) rfl rfl dX11_want_74 hi13 ?_
        refine tj_iconst (v := 1) rfl dX11_want_75 (by decide) ?_
        refine tj_iadd rfl dX11_want_76 ?_
        obtain ⟨hi14, h⟩ := h
        refine af_iast (a := 82) rfl rfl dX11_want_77 hi14 ?_
        replace h := h _ rfl
        generalize mset M12 82 (65 : Int32).toNatClampNeg ((M12 82 (65 : Int32).toNatClampNeg) + 1) = M15 at h ⊢
        refine tj_aload_n rfl dX11_want_78 rfl ?_
        refine gf11_st (a := 81) rfl rfl dX11_want_79 fl_X11_7 ?_
        refine tj_bipush (v := 65) rfl dX11_want_82 (by decide) ?_
        obtain ⟨hi16, h⟩ := h
        refine af_iald (a := 82) rfl rfl dX11_want_84 hi16 ?_
        exact tj_ireturn (ty := .int) dX11_want_85 rfl rfl (Nat.zero_le _) (Nat.zero_le _) (hp _ _ _ h)
      · rw [if_pos hc] at h
        refine tj_bipush (v := -3) rfl dX11_want_35 (by decide) ?_
        exact tj_ireturn (ty := .int) dX11_want_37 rfl rfl (Nat.zero_le _) (Nat.zero_le _) (hp _ _ _ h)
    · rw [if_pos hc] at h
      refine tj_iconst (v := -1) rfl dX11_want_21 (by decide) ?_
      exact tj_ireturn (ty := .int) dX11_want_22 rfl rfl (Nat.zero_le _) (Nat.zero_le _) (hp _ _ _ h)
def wpX11_content (post : Int32 → MM → Int64 → Prop) (M : MM) (tl : Int64) : Prop :=
  (vp_in 65 (al 82) ∧ (vp_in 65 (al 82) ∧ (∀ M3 : MM, M3 = mset M 82 (65 : Int32).toNatClampNeg 0 → post (M 82 (65 : Int32).toNatClampNeg) M3 tl)))
set_option maxHeartbeats 4000000 in
set_option maxRecDepth 20000 in
theorem ctX11_content {E : EV} {ad : Nat → Nat} {M : MM} {tl : Int64} {Φ : Option Value → va_W → Prop} {post : Int32 → MM → Int64 → Prop} (h : wpX11_content post M tl ) (hp : ∀ r M tl, post r M tl → Φ (some (.int r)) (WM E ad M tl)) : Tm E kX11_content (WM E ad M tl) [.ref (ad (81))] Φ := by
  unfold wpX11_content at h
  show T E kX11_content 0 0 (WM E ad M tl) 0 [(0, .ref (ad (81)))] [] Φ
  refine tj_aload_n rfl dX11_content_0 rfl ?_
  refine gf11_st (a := 81) rfl rfl dX11_content_1 fl_X11_7 ?_
  refine tj_bipush (v := 65) rfl dX11_content_4 (by decide) ?_
  obtain ⟨hi1, h⟩ := h
  refine af_iald (a := 82) rfl rfl dX11_content_6 hi1 ?_
  refine tj_istore_n (l' := [(0, _), (1, _)]) rfl dX11_content_7 (by decide) rfl ?_
  refine tj_aload_n rfl dX11_content_8 rfl ?_
  refine gf11_st (a := 81) rfl rfl dX11_content_9 fl_X11_7 ?_
  refine tj_bipush (v := 65) rfl dX11_content_12 (by decide) ?_
  refine tj_iconst (v := 0) rfl dX11_content_14 (by decide) ?_
  obtain ⟨hi2, h⟩ := h
  refine af_iast (a := 82) rfl rfl dX11_content_15 hi2 ?_
  replace h := h _ rfl
  generalize mset M 82 (65 : Int32).toNatClampNeg 0 = M3 at h ⊢
  refine tj_iload_n rfl dX11_content_16 rfl ?_
  exact tj_ireturn (ty := .int) dX11_content_17 rfl rfl (Nat.zero_le _) (Nat.zero_le _) (hp _ _ _ h)
def wX11_bitsOf_4 (post : Int32 → MM → Int64 → Prop) : Nat → MM → Int64 → Int32 → Int32 → Int32 → Prop
  | 0, _, _, _, _, _ => False
  | n + 1, M, tl, v0, v1, v2 =>
    (if 12 ≤ v2 then post v1 M tl else (wX11_bitsOf_4 post n) M tl v0 (v1 + ((v0 >>> (v2 &&& 31)) &&& 1)) (v2 + 1))
set_option maxHeartbeats 4000000 in
set_option maxRecDepth 20000 in
theorem bX11_bitsOf_4 {E : EV} {ad : Nat → Nat} {Φ : Option Value → va_W → Prop} {post : Int32 → MM → Int64 → Prop}  (hp : ∀ r M tl, post r M tl → Φ (some (.int r)) (WM E ad M tl)) : ∀ (n : Nat) (M : MM) (tl : Int64) (v0 : Int32) (v1 : Int32) (v2 : Int32), wX11_bitsOf_4 post n M tl v0 v1 v2 → T E kX11_bitsOf 0 0 (WM E ad M tl) 4 [(0, .int v0), (1, .int v1), (2, .int v2)] [] Φ := by
  intro n
  induction n with
  | zero => intro M tl v0 v1 v2 h; exact False.elim h
  | succ n ih =>
    intro M tl v0 v1 v2 h
    unfold wX11_bitsOf_4 at h
    refine tj_iload_n rfl dX11_bitsOf_4 rfl ?_
    refine tj_bipush (v := 12) rfl dX11_bitsOf_5 (by decide) ?_
    refine tj_icmp_ge (tgt := 24) rfl rfl dX11_bitsOf_7 (fun hc => ?_) (fun hc => ?_)
    · rw [if_pos hc] at h
      refine tj_iload_n rfl dX11_bitsOf_24 rfl ?_
      exact tj_ireturn (ty := .int) dX11_bitsOf_25 rfl rfl (Nat.zero_le _) (Nat.zero_le _) (hp _ _ _ h)
    · rw [if_neg hc] at h
      refine tj_iload_n rfl dX11_bitsOf_10 rfl ?_
      refine tj_iload_n rfl dX11_bitsOf_11 rfl ?_
      refine tj_iload_n rfl dX11_bitsOf_12 rfl ?_
      refine tj_ishr rfl dX11_bitsOf_13 ?_
      refine tj_iconst (v := 1) rfl dX11_bitsOf_14 (by decide) ?_
      refine tj_iand rfl dX11_bitsOf_15 ?_
      refine tj_iadd rfl dX11_bitsOf_16 ?_
      refine tj_istore_n (l' := [(0, _), (1, _), (2, _)]) rfl dX11_bitsOf_17 (by decide) rfl ?_
      refine tj_iinc (v := _ + 1) (l' := [(0, _), (1, _), (2, _)]) rfl dX11_bitsOf_18 rfl (by decide) rfl rfl ?_
      refine tj_goto (tgt := 4) rfl dX11_bitsOf_21 ?_
      exact ih _ _ _ _ _ h
def wpX11_bitsOf (post : Int32 → MM → Int64 → Prop) (M : MM) (tl : Int64) (v0 : Int32) : Prop :=
  (∃ n9, wX11_bitsOf_4 post  n9 M tl v0 0 0)
set_option maxHeartbeats 4000000 in
set_option maxRecDepth 20000 in
theorem ctX11_bitsOf {E : EV} {ad : Nat → Nat} {M : MM} {tl : Int64} {Φ : Option Value → va_W → Prop} {post : Int32 → MM → Int64 → Prop} {v0 : Int32} (h : wpX11_bitsOf post M tl v0) (hp : ∀ r M tl, post r M tl → Φ (some (.int r)) (WM E ad M tl)) : Tm E kX11_bitsOf (WM E ad M tl) [.int v0] Φ := by
  unfold wpX11_bitsOf at h
  show T E kX11_bitsOf 0 0 (WM E ad M tl) 0 [(0, .int v0)] [] Φ
  refine tj_iconst (v := 0) rfl dX11_bitsOf_0 (by decide) ?_
  refine tj_istore_n (l' := [(0, _), (1, _)]) rfl dX11_bitsOf_1 (by decide) rfl ?_
  refine tj_iconst (v := 0) rfl dX11_bitsOf_2 (by decide) ?_
  refine tj_istore_n (l' := [(0, _), (1, _), (2, _)]) rfl dX11_bitsOf_3 (by decide) rfl ?_
  obtain ⟨n9, h⟩ := h
  exact bX11_bitsOf_4 hp  n9 _ _ _ _ _ h
def wpX11_wantCost (post : Int32 → MM → Int64 → Prop) (M : MM) (tl : Int64) (v1 : Int32) (v2 : Int32) : Prop :=
  (vp_in (((66 : Int32) + ((2 : Int32) * v1)) + 1) (al 82) ∧ (vp_in (v2 - v2 / 4 * 4) (al 84) ∧ (vp_in (M 82 (((66 : Int32) + ((2 : Int32) * v1)) + 1 : Int32).toNatClampNeg) (al 85) ∧ (vp_in (M 82 (((66 : Int32) + ((2 : Int32) * v1)) + 1 : Int32).toNatClampNeg) (al 88) ∧ (vp_in ((6 : Int32) + (M 88 (M 82 (((66 : Int32) + ((2 : Int32) * v1)) + 1 : Int32).toNatClampNeg : Int32).toNatClampNeg)) (al 85) ∧ post ((M 84 (v2 - v2 / 4 * 4 : Int32).toNatClampNeg) * ((M 85 (M 82 (((66 : Int32) + ((2 : Int32) * v1)) + 1 : Int32).toNatClampNeg : Int32).toNatClampNeg) + (M 85 ((6 : Int32) + (M 88 (M 82 (((66 : Int32) + ((2 : Int32) * v1)) + 1 : Int32).toNatClampNeg : Int32).toNatClampNeg) : Int32).toNatClampNeg))) M tl)))))
set_option maxHeartbeats 4000000 in
set_option maxRecDepth 20000 in
theorem ctX11_wantCost {E : EV} {ad : Nat → Nat} {M : MM} {tl : Int64} {Φ : Option Value → va_W → Prop} {post : Int32 → MM → Int64 → Prop} {v1 : Int32} {v2 : Int32} (h : wpX11_wantCost post M tl v1 v2) (hp : ∀ r M tl, post r M tl → Φ (some (.int r)) (WM E ad M tl)) : Tm E kX11_wantCost (WM E ad M tl) [.ref (ad (81)), .int v1, .int v2] Φ := by
  unfold wpX11_wantCost at h
  show T E kX11_wantCost 0 0 (WM E ad M tl) 0 [(0, .ref (ad (81))), (1, .int v1), (2, .int v2)] [] Φ
  refine tj_aload_n rfl dX11_wantCost_0 rfl ?_
  refine gf11_st (a := 81) rfl rfl dX11_wantCost_1 fl_X11_7 ?_
  refine tj_bipush (v := 66) rfl dX11_wantCost_4 (by decide) ?_
  refine tj_iconst (v := 2) rfl dX11_wantCost_6 (by decide) ?_
  refine tj_iload_n rfl dX11_wantCost_7 rfl ?_
  refine tj_imul rfl dX11_wantCost_8 ?_
  refine tj_iadd rfl dX11_wantCost_9 ?_
  refine tj_iconst (v := 1) rfl dX11_wantCost_10 (by decide) ?_
  refine tj_iadd rfl dX11_wantCost_11 ?_
  obtain ⟨hi1, h⟩ := h
  refine af_iald (a := 82) rfl rfl dX11_wantCost_12 hi1 ?_
  refine tj_istore_n (l' := [(0, _), (1, _), (2, _), (3, _)]) rfl dX11_wantCost_13 (by decide) rfl ?_
  refine tj_aload_n rfl dX11_wantCost_14 rfl ?_
  refine gf11_price (a := 81) rfl rfl dX11_wantCost_15 fl_X11_17 ?_
  refine tj_iload_n rfl dX11_wantCost_18 rfl ?_
  refine tj_iconst (v := 4) rfl dX11_wantCost_19 (by decide) ?_
  refine tj_irem rfl dX11_wantCost_20 (by decide) ?_
  obtain ⟨hi2, h⟩ := h
  refine af_iald (a := 84) rfl rfl dX11_wantCost_21 hi2 ?_
  refine tj_aload_n rfl dX11_wantCost_22 rfl ?_
  refine gf11_cost (a := 81) rfl rfl dX11_wantCost_23 fl_X11_20 ?_
  refine tj_iload_n rfl dX11_wantCost_26 rfl ?_
  obtain ⟨hi3, h⟩ := h
  refine af_iald (a := 85) rfl rfl dX11_wantCost_27 hi3 ?_
  refine tj_aload_n rfl dX11_wantCost_28 rfl ?_
  refine gf11_cost (a := 81) rfl rfl dX11_wantCost_29 fl_X11_20 ?_
  refine tj_bipush (v := 6) rfl dX11_wantCost_32 (by decide) ?_
  refine tj_aload_n rfl dX11_wantCost_34 rfl ?_
  refine gf11_twin (a := 81) rfl rfl dX11_wantCost_35 fl_X11_29 ?_
  refine tj_iload_n rfl dX11_wantCost_38 rfl ?_
  obtain ⟨hi4, h⟩ := h
  refine af_iald (a := 88) rfl rfl dX11_wantCost_39 hi4 ?_
  refine tj_iadd rfl dX11_wantCost_40 ?_
  obtain ⟨hi5, h⟩ := h
  refine af_iald (a := 85) rfl rfl dX11_wantCost_41 hi5 ?_
  refine tj_iadd rfl dX11_wantCost_42 ?_
  refine tj_imul rfl dX11_wantCost_43 ?_
  exact tj_ireturn (ty := .int) dX11_wantCost_44 rfl rfl (Nat.zero_le _) (Nat.zero_le _) (hp _ _ _ h)
def wX11_findRests_118 (post : MM → Int64 → Prop) (bk4 : MM → Int64 → Int32 → Int32 → Prop) (bk40 : MM → Int64 → Int32 → Int32 → Int32 → Int32 → Prop) (M : MM) (tl : Int64) (v1 : Int32) (v2 : Int32) (v3 : Int32) (v4 : Int32) : Prop :=
  bk40 M tl v1 v2 v3 (v4 + 1)
set_option maxHeartbeats 4000000 in
set_option maxRecDepth 20000 in
theorem bX11_findRests_118 {E : EV} {ad : Nat → Nat} {M : MM} {tl : Int64} {Φ : Option Value → va_W → Prop} {post : MM → Int64 → Prop} {bk4 : MM → Int64 → Int32 → Int32 → Prop} {bk40 : MM → Int64 → Int32 → Int32 → Int32 → Int32 → Prop} {v1 : Int32} {v2 : Int32} {v3 : Int32} {v4 : Int32} (hp : ∀ M tl, post M tl → Φ none (WM E ad M tl)) (hb4 : ∀ (M : MM) (tl : Int64) (v1 : Int32) (v2 : Int32), bk4 M tl v1 v2 → T E kX11_findRests 0 0 (WM E ad M tl) 4 [(0, .ref (ad (81))), (1, .int v1), (2, .int v2)] [] Φ) (hb40 : ∀ (M : MM) (tl : Int64) (v1 : Int32) (v2 : Int32) (v3 : Int32) (v4 : Int32), bk40 M tl v1 v2 v3 v4 → T E kX11_findRests 0 0 (WM E ad M tl) 40 [(0, .ref (ad (81))), (1, .int v1), (2, .int v2), (3, .int v3), (4, .int v4)] [] Φ) (h : wX11_findRests_118 post bk4 bk40 M tl v1 v2 v3 v4) : T E kX11_findRests 0 0 (WM E ad M tl) 118 [(0, .ref (ad (81))), (1, .int v1), (2, .int v2), (3, .int v3), (4, .int v4)] [] Φ := by
  unfold wX11_findRests_118 at h
  refine tj_iinc (v := _ + 1) (l' := [(0, _), (1, _), (2, _), (3, _), (4, _)]) rfl dX11_findRests_118 rfl (by decide) rfl rfl ?_
  refine tj_goto (tgt := 40) rfl dX11_findRests_121 ?_
  exact hb40 _ _ _ _ _ _ h
def wX11_findRests_117 (post : MM → Int64 → Prop) (bk4 : MM → Int64 → Int32 → Int32 → Prop) (bk40 : MM → Int64 → Int32 → Int32 → Int32 → Int32 → Prop) (M : MM) (tl : Int64) (v1 : Int32) (v2 : Int32) (v3 : Int32) (v4 : Int32) (s1 : Int32) (s2 : Int32) : Prop :=
  (vp_in s1 (al 104) ∧ (∀ M2 : MM, M2 = mset M 104 (s1 : Int32).toNatClampNeg s2 → wX11_findRests_118 post bk4 bk40 M2 tl v1 v2 v3 v4))
set_option maxHeartbeats 4000000 in
set_option maxRecDepth 20000 in
theorem bX11_findRests_117 {E : EV} {ad : Nat → Nat} {M : MM} {tl : Int64} {Φ : Option Value → va_W → Prop} {post : MM → Int64 → Prop} {bk4 : MM → Int64 → Int32 → Int32 → Prop} {bk40 : MM → Int64 → Int32 → Int32 → Int32 → Int32 → Prop} {v1 : Int32} {v2 : Int32} {v3 : Int32} {v4 : Int32} {s1 : Int32} {s2 : Int32} (hp : ∀ M tl, post M tl → Φ none (WM E ad M tl)) (hb4 : ∀ (M : MM) (tl : Int64) (v1 : Int32) (v2 : Int32), bk4 M tl v1 v2 → T E kX11_findRests 0 0 (WM E ad M tl) 4 [(0, .ref (ad (81))), (1, .int v1), (2, .int v2)] [] Φ) (hb40 : ∀ (M : MM) (tl : Int64) (v1 : Int32) (v2 : Int32) (v3 : Int32) (v4 : Int32), bk40 M tl v1 v2 v3 v4 → T E kX11_findRests 0 0 (WM E ad M tl) 40 [(0, .ref (ad (81))), (1, .int v1), (2, .int v2), (3, .int v3), (4, .int v4)] [] Φ) (h : wX11_findRests_117 post bk4 bk40 M tl v1 v2 v3 v4 s1 s2) : T E kX11_findRests 0 0 (WM E ad M tl) 117 [(0, .ref (ad (81))), (1, .int v1), (2, .int v2), (3, .int v3), (4, .int v4)] [.int s2, .int s1, .ref (ad (104))] Φ := by
  unfold wX11_findRests_117 at h
  obtain ⟨hi1, h⟩ := h
  refine af_iast (a := 104) rfl rfl dX11_findRests_117 hi1 ?_
  replace h := h _ rfl
  generalize mset M 104 (s1 : Int32).toNatClampNeg s2 = M2 at h ⊢
  exact bX11_findRests_118 hp hb4 hb40 h
def wX11_findRests_124 (post : MM → Int64 → Prop) (bk4 : MM → Int64 → Int32 → Int32 → Prop) (M : MM) (tl : Int64) (v1 : Int32) (v2 : Int32) : Prop :=
  bk4 M tl v1 (v2 + (-1))
set_option maxHeartbeats 4000000 in
set_option maxRecDepth 20000 in
theorem bX11_findRests_124 {E : EV} {ad : Nat → Nat} {M : MM} {tl : Int64} {Φ : Option Value → va_W → Prop} {post : MM → Int64 → Prop} {bk4 : MM → Int64 → Int32 → Int32 → Prop} {v1 : Int32} {v2 : Int32} (hp : ∀ M tl, post M tl → Φ none (WM E ad M tl)) (hb4 : ∀ (M : MM) (tl : Int64) (v1 : Int32) (v2 : Int32), bk4 M tl v1 v2 → T E kX11_findRests 0 0 (WM E ad M tl) 4 [(0, .ref (ad (81))), (1, .int v1), (2, .int v2)] [] Φ) (h : wX11_findRests_124 post bk4 M tl v1 v2) : T E kX11_findRests 0 0 (WM E ad M tl) 124 [(0, .ref (ad (81))), (1, .int v1), (2, .int v2)] [] Φ := by
  unfold wX11_findRests_124 at h
  refine tj_iinc (v := _ + (-1)) (l' := [(0, _), (1, _), (2, _)]) rfl dX11_findRests_124 rfl (by decide) rfl rfl ?_
  refine tj_goto (tgt := 4) rfl dX11_findRests_127 ?_
  exact hb4 _ _ _ _ h
def wX11_findRests_40 (post : MM → Int64 → Prop) (bk4 : MM → Int64 → Int32 → Int32 → Prop) : Nat → MM → Int64 → Int32 → Int32 → Int32 → Int32 → Prop
  | 0, _, _, _, _, _, _ => False
  | n + 1, M, tl, v1, v2, v3, v4 =>
    (if 12 ≤ v4 then wX11_findRests_124 post bk4 M tl v1 v2 else (vp_in 65 (al 82) ∧ (if (M 82 (65 : Int32).toNatClampNeg) ≤ v3 then wX11_findRests_124 post bk4 M tl v1 v2 else (if ((v2 >>> (v4 &&& 31)) &&& 1) = 0 then wpX11_wantCost (fun r4 M2 t3 => (vp_in (v2 ||| ((1 : Int32) <<< (v4 &&& 31))) (al 104) ∧ (vp_in v2 (al 104) ∧ (if (M2 104 (v2 : Int32).toNatClampNeg) ≤ (r4 + (M2 104 (v2 ||| ((1 : Int32) <<< (v4 &&& 31)) : Int32).toNatClampNeg)) then (vp_in v2 (al 104) ∧ wX11_findRests_117 post bk4 (wX11_findRests_40 post bk4 n) M2 t3 v1 v2 v3 v4 v2 (M2 104 (v2 : Int32).toNatClampNeg)) else wX11_findRests_117 post bk4 (wX11_findRests_40 post bk4 n) M2 t3 v1 v2 v3 v4 v2 (r4 + (M2 104 (v2 ||| ((1 : Int32) <<< (v4 &&& 31)) : Int32).toNatClampNeg)))))) M tl v3 (v1 + v4) else wX11_findRests_118 post bk4 (wX11_findRests_40 post bk4 n) M tl v1 v2 v3 v4))))
set_option maxHeartbeats 4000000 in
set_option maxRecDepth 20000 in
theorem bX11_findRests_40 {E : EV} {ad : Nat → Nat} {Φ : Option Value → va_W → Prop} {post : MM → Int64 → Prop} {bk4 : MM → Int64 → Int32 → Int32 → Prop}  (hp : ∀ M tl, post M tl → Φ none (WM E ad M tl)) (hb4 : ∀ (M : MM) (tl : Int64) (v1 : Int32) (v2 : Int32), bk4 M tl v1 v2 → T E kX11_findRests 0 0 (WM E ad M tl) 4 [(0, .ref (ad (81))), (1, .int v1), (2, .int v2)] [] Φ) : ∀ (n : Nat) (M : MM) (tl : Int64) (v1 : Int32) (v2 : Int32) (v3 : Int32) (v4 : Int32), wX11_findRests_40 post bk4 n M tl v1 v2 v3 v4 → T E kX11_findRests 0 0 (WM E ad M tl) 40 [(0, .ref (ad (81))), (1, .int v1), (2, .int v2), (3, .int v3), (4, .int v4)] [] Φ := by
  intro n
  induction n with
  | zero => intro M tl v1 v2 v3 v4 h; exact False.elim h
  | succ n ih =>
    intro M tl v1 v2 v3 v4 h
    unfold wX11_findRests_40 at h
    refine tj_iload rfl dX11_findRests_40 rfl ?_
    refine tj_bipush (v := 12) rfl dX11_findRests_42 (by decide) ?_
    refine tj_icmp_ge (tgt := 124) rfl rfl dX11_findRests_44 (fun hc => ?_) (fun hc => ?_)
    · rw [if_pos hc] at h
      exact tj_pick (l' := [(0, _), (1, _), (2, _)]) [0, 1, 2] rfl (bX11_findRests_124 hp hb4 h)
    · rw [if_neg hc] at h
      refine tj_iload_n rfl dX11_findRests_47 rfl ?_
      refine tj_aload_n rfl dX11_findRests_48 rfl ?_
      refine gf11_st (a := 81) rfl rfl dX11_findRests_49 fl_X11_7 ?_
      refine tj_bipush (v := 65) rfl dX11_findRests_52 (by decide) ?_
      obtain ⟨hi1, h⟩ := h
      refine af_iald (a := 82) rfl rfl dX11_findRests_54 hi1 ?_
      refine tj_icmp_ge (tgt := 124) rfl rfl dX11_findRests_55 (fun hc => ?_) (fun hc => ?_)
      · rw [if_pos hc] at h
        exact tj_pick (l' := [(0, _), (1, _), (2, _)]) [0, 1, 2] rfl (bX11_findRests_124 hp hb4 h)
      · rw [if_neg hc] at h
        refine tj_iload_n rfl dX11_findRests_58 rfl ?_
        refine tj_iload rfl dX11_findRests_59 rfl ?_
        refine tj_ishr rfl dX11_findRests_61 ?_
        refine tj_iconst (v := 1) rfl dX11_findRests_62 (by decide) ?_
        refine tj_iand rfl dX11_findRests_63 ?_
        refine tj_if_ne (tgt := 118) rfl rfl dX11_findRests_64 (fun hc => ?_) (fun hc => ?_)
        · rw [if_neg hc] at h
          exact bX11_findRests_118 hp hb4 ih h
        · rw [if_pos hc] at h
          refine tj_aload_n rfl dX11_findRests_67 rfl ?_
          refine tj_iload_n rfl dX11_findRests_68 rfl ?_
          refine tj_iload_n rfl dX11_findRests_69 rfl ?_
          refine tj_iload rfl dX11_findRests_70 rfl ?_
          refine tj_iadd rfl dX11_findRests_72 ?_
          refine cf_V11 (a := 81) (z := kX11_wantCost) (As := [_, _]) rfl rfl dX11_findRests_73 rfl ml_X11_338 okX11_wantCost rfl (rm_ok rfl) (Nat.le_of_ble_eq_true rfl) (Nat.le_of_ble_eq_true rfl) rfl rfl ?_
          refine ctX11_wantCost h (fun r4 M2 t3 h => ?_)
          refine tj_aload_n rfl dX11_findRests_76 rfl ?_
          refine gf11_rests (a := 81) rfl rfl dX11_findRests_77 fl_X11_77 ?_
          refine tj_iload_n rfl dX11_findRests_80 rfl ?_
          refine tj_iconst (v := 1) rfl dX11_findRests_81 (by decide) ?_
          refine tj_iload rfl dX11_findRests_82 rfl ?_
          refine tj_ishl rfl dX11_findRests_84 ?_
          refine tj_ior rfl dX11_findRests_85 ?_
          obtain ⟨hi5, h⟩ := h
          refine af_iald (a := 104) rfl rfl dX11_findRests_86 hi5 ?_
          refine tj_iadd rfl dX11_findRests_87 ?_
          refine tj_istore (l' := [(0, _), (1, _), (2, _), (3, _), (4, _), (5, _)]) rfl dX11_findRests_88 (by decide) rfl ?_
          refine tj_aload_n rfl dX11_findRests_90 rfl ?_
          refine gf11_rests (a := 81) rfl rfl dX11_findRests_91 fl_X11_77 ?_
          refine tj_iload_n rfl dX11_findRests_94 rfl ?_
          refine tj_iload rfl dX11_findRests_95 rfl ?_
          refine tj_aload_n rfl dX11_findRests_97 rfl ?_
          refine gf11_rests (a := 81) rfl rfl dX11_findRests_98 fl_X11_77 ?_
          refine tj_iload_n rfl dX11_findRests_101 rfl ?_
          obtain ⟨hi6, h⟩ := h
          refine af_iald (a := 104) rfl rfl dX11_findRests_102 hi6 ?_
          refine tj_icmp_ge (tgt := 111) rfl rfl dX11_findRests_103 (fun hc => ?_) (fun hc => ?_)
          · rw [if_pos hc] at h
            refine tj_aload_n rfl dX11_findRests_111 rfl ?_
            refine gf11_rests (a := 81) rfl rfl dX11_findRests_112 fl_X11_77 ?_
            refine tj_iload_n rfl dX11_findRests_115 rfl ?_
            obtain ⟨hi7, h⟩ := h
            refine af_iald (a := 104) rfl rfl dX11_findRests_116 hi7 ?_
            exact tj_pick (l' := [(0, _), (1, _), (2, _), (3, _), (4, _)]) [0, 1, 2, 3, 4] rfl (bX11_findRests_117 hp hb4 ih h)
          · rw [if_neg hc] at h
            refine tj_iload rfl dX11_findRests_106 rfl ?_
            refine tj_goto (tgt := 117) rfl dX11_findRests_108 ?_
            exact tj_pick (l' := [(0, _), (1, _), (2, _), (3, _), (4, _)]) [0, 1, 2, 3, 4] rfl (bX11_findRests_117 hp hb4 ih h)
def wX11_findRests_36 (post : MM → Int64 → Prop) (bk4 : MM → Int64 → Int32 → Int32 → Prop) (M : MM) (tl : Int64) (v1 : Int32) (v2 : Int32) (v3 : Int32) (s1 : Int32) (s2 : Int32) : Prop :=
  (vp_in s1 (al 104) ∧ (∀ M2 : MM, M2 = mset M 104 (s1 : Int32).toNatClampNeg s2 → (∃ n9, wX11_findRests_40 post bk4 n9 M2 tl v1 v2 v3 0)))
set_option maxHeartbeats 4000000 in
set_option maxRecDepth 20000 in
theorem bX11_findRests_36 {E : EV} {ad : Nat → Nat} {M : MM} {tl : Int64} {Φ : Option Value → va_W → Prop} {post : MM → Int64 → Prop} {bk4 : MM → Int64 → Int32 → Int32 → Prop} {v1 : Int32} {v2 : Int32} {v3 : Int32} {s1 : Int32} {s2 : Int32} (hp : ∀ M tl, post M tl → Φ none (WM E ad M tl)) (hb4 : ∀ (M : MM) (tl : Int64) (v1 : Int32) (v2 : Int32), bk4 M tl v1 v2 → T E kX11_findRests 0 0 (WM E ad M tl) 4 [(0, .ref (ad (81))), (1, .int v1), (2, .int v2)] [] Φ) (h : wX11_findRests_36 post bk4 M tl v1 v2 v3 s1 s2) : T E kX11_findRests 0 0 (WM E ad M tl) 36 [(0, .ref (ad (81))), (1, .int v1), (2, .int v2), (3, .int v3)] [.int s2, .int s1, .ref (ad (104))] Φ := by
  unfold wX11_findRests_36 at h
  obtain ⟨hi1, h⟩ := h
  refine af_iast (a := 104) rfl rfl dX11_findRests_36 hi1 ?_
  replace h := h _ rfl
  generalize mset M 104 (s1 : Int32).toNatClampNeg s2 = M2 at h ⊢
  refine tj_iconst (v := 0) rfl dX11_findRests_37 (by decide) ?_
  refine tj_istore (l' := [(0, _), (1, _), (2, _), (3, _), (4, _)]) rfl dX11_findRests_38 (by decide) rfl ?_
  obtain ⟨n9, h⟩ := h
  exact bX11_findRests_40 hp hb4 n9 _ _ _ _ _ _ h
def wX11_findRests_4 (post : MM → Int64 → Prop) : Nat → MM → Int64 → Int32 → Int32 → Prop
  | 0, _, _, _, _ => False
  | n + 1, M, tl, v1, v2 =>
    (if v2 < 0 then post M tl else wpX11_bitsOf (fun r3 M1 t2 => (vp_in 65 (al 82) ∧ (if r3 = (M1 82 (65 : Int32).toNatClampNeg) then wX11_findRests_36 post (wX11_findRests_4 post n) M1 t2 v1 v2 r3 v2 0 else wX11_findRests_36 post (wX11_findRests_4 post n) M1 t2 v1 v2 r3 v2 99999))) M tl v2)
set_option maxHeartbeats 4000000 in
set_option maxRecDepth 20000 in
theorem bX11_findRests_4 {E : EV} {ad : Nat → Nat} {Φ : Option Value → va_W → Prop} {post : MM → Int64 → Prop}  (hp : ∀ M tl, post M tl → Φ none (WM E ad M tl)) : ∀ (n : Nat) (M : MM) (tl : Int64) (v1 : Int32) (v2 : Int32), wX11_findRests_4 post n M tl v1 v2 → T E kX11_findRests 0 0 (WM E ad M tl) 4 [(0, .ref (ad (81))), (1, .int v1), (2, .int v2)] [] Φ := by
  intro n
  induction n with
  | zero => intro M tl v1 v2 h; exact False.elim h
  | succ n ih =>
    intro M tl v1 v2 h
    unfold wX11_findRests_4 at h
    refine tj_iload_n rfl dX11_findRests_4 rfl ?_
    refine tj_if_lt (tgt := 130) rfl rfl dX11_findRests_5 (fun hc => ?_) (fun hc => ?_)
    · rw [if_pos hc] at h
      exact tj_return dX11_findRests_130 rfl (Nat.zero_le _) (Nat.zero_le _) (hp _ _ h)
    · rw [if_neg hc] at h
      refine tj_iload_n rfl dX11_findRests_8 rfl ?_
      refine cf_S (z := kX11_bitsOf) (As := [_]) rfl dX11_findRests_9 rfl ml_X11_334 okX11_bitsOf rfl (rm_ok rfl) (Nat.le_of_ble_eq_true rfl) (Nat.le_of_ble_eq_true rfl) rfl ?_
      refine ctX11_bitsOf h (fun r3 M1 t2 h => ?_)
      refine tj_istore_n (l' := [(0, _), (1, _), (2, _), (3, _)]) rfl dX11_findRests_12 (by decide) rfl ?_
      refine tj_aload_n rfl dX11_findRests_13 rfl ?_
      refine gf11_rests (a := 81) rfl rfl dX11_findRests_14 fl_X11_77 ?_
      refine tj_iload_n rfl dX11_findRests_17 rfl ?_
      refine tj_iload_n rfl dX11_findRests_18 rfl ?_
      refine tj_aload_n rfl dX11_findRests_19 rfl ?_
      refine gf11_st (a := 81) rfl rfl dX11_findRests_20 fl_X11_7 ?_
      refine tj_bipush (v := 65) rfl dX11_findRests_23 (by decide) ?_
      obtain ⟨hi4, h⟩ := h
      refine af_iald (a := 82) rfl rfl dX11_findRests_25 hi4 ?_
      refine tj_icmp_ne (tgt := 33) rfl rfl dX11_findRests_26 (fun hc => ?_) (fun hc => ?_)
      · rw [if_neg hc] at h
        refine tj_ldcw rfl dX11_findRests_33 ki_X11_337 ?_
        exact bX11_findRests_36 hp ih h
      · rw [if_pos hc] at h
        refine tj_iconst (v := 0) rfl dX11_findRests_29 (by decide) ?_
        refine tj_goto (tgt := 36) rfl dX11_findRests_30 ?_
        exact bX11_findRests_36 hp ih h
def wpX11_findRests (post : MM → Int64 → Prop) (M : MM) (tl : Int64) (v1 : Int32) : Prop :=
  (∃ n9, wX11_findRests_4 post  n9 M tl v1 4095)
set_option maxHeartbeats 4000000 in
set_option maxRecDepth 20000 in
theorem ctX11_findRests {E : EV} {ad : Nat → Nat} {M : MM} {tl : Int64} {Φ : Option Value → va_W → Prop} {post : MM → Int64 → Prop} {v1 : Int32} (h : wpX11_findRests post M tl v1) (hp : ∀ M tl, post M tl → Φ none (WM E ad M tl)) : Tm E kX11_findRests (WM E ad M tl) [.ref (ad (81)), .int v1] Φ := by
  unfold wpX11_findRests at h
  show T E kX11_findRests 0 0 (WM E ad M tl) 0 [(0, .ref (ad (81))), (1, .int v1)] [] Φ
  refine tj_sipush (v := 4095) rfl dX11_findRests_0 (by decide) ?_
  refine tj_istore_n (l' := [(0, _), (1, _), (2, _)]) rfl dX11_findRests_3 (by decide) rfl ?_
  obtain ⟨n9, h⟩ := h
  exact bX11_findRests_4 hp  n9 _ _ _ _ h
def wX11_plan_159 (post : Int32 → MM → Int64 → Prop) (bk78 : MM → Int64 → Int32 → Int32 → Int32 → Int32 → Int32 → Prop) (bk95 : MM → Int64 → Int32 → Int32 → Int32 → Int32 → Int32 → Int32 → Prop) (M : MM) (tl : Int64) (v1 : Int32) (v2 : Int32) (v3 : Int32) (v5 : Int32) (v6 : Int32) (s0 : Int32) : Prop :=
  bk95 M tl v1 v2 v3 s0 v5 (v6 + (-1))
set_option maxHeartbeats 4000000 in
set_option maxRecDepth 20000 in
theorem bX11_plan_159 {E : EV} {ad : Nat → Nat} {M : MM} {tl : Int64} {Φ : Option Value → va_W → Prop} {post : Int32 → MM → Int64 → Prop} {bk78 : MM → Int64 → Int32 → Int32 → Int32 → Int32 → Int32 → Prop} {bk95 : MM → Int64 → Int32 → Int32 → Int32 → Int32 → Int32 → Int32 → Prop} {v1 : Int32} {v2 : Int32} {v3 : Int32} {v5 : Int32} {v6 : Int32} {s0 : Int32} (hp : ∀ r M tl, post r M tl → Φ (some (.int r)) (WM E ad M tl)) (hb78 : ∀ (M : MM) (tl : Int64) (v1 : Int32) (v2 : Int32) (v3 : Int32) (v4 : Int32) (v5 : Int32), bk78 M tl v1 v2 v3 v4 v5 → T E kX11_plan 0 0 (WM E ad M tl) 78 [(0, .ref (ad (81))), (1, .int v1), (2, .int v2), (3, .int v3), (4, .int v4), (5, .int v5)] [] Φ) (hb95 : ∀ (M : MM) (tl : Int64) (v1 : Int32) (v2 : Int32) (v3 : Int32) (v4 : Int32) (v5 : Int32) (v6 : Int32), bk95 M tl v1 v2 v3 v4 v5 v6 → T E kX11_plan 0 0 (WM E ad M tl) 95 [(0, .ref (ad (81))), (1, .int v1), (2, .int v2), (3, .int v3), (4, .int v4), (5, .int v5), (6, .int v6)] [] Φ) (h : wX11_plan_159 post bk78 bk95 M tl v1 v2 v3 v5 v6 s0) : T E kX11_plan 0 0 (WM E ad M tl) 159 [(0, .ref (ad (81))), (1, .int v1), (2, .int v2), (3, .int v3), (5, .int v5), (6, .int v6)] [.int s0] Φ := by
  unfold wX11_plan_159 at h
  refine tj_istore (l' := [(0, _), (1, _), (2, _), (3, _), (4, _), (5, _), (6, _)]) rfl dX11_plan_159 (by decide) rfl ?_
  refine tj_iinc (v := _ + (-1)) (l' := [(0, _), (1, _), (2, _), (3, _), (4, _), (5, _), (6, _)]) rfl dX11_plan_161 rfl (by decide) rfl rfl ?_
  refine tj_goto (tgt := 95) rfl dX11_plan_164 ?_
  exact hb95 _ _ _ _ _ _ _ _ h
def wX11_plan_145 (post : Int32 → MM → Int64 → Prop) (bk78 : MM → Int64 → Int32 → Int32 → Int32 → Int32 → Int32 → Prop) (bk95 : MM → Int64 → Int32 → Int32 → Int32 → Int32 → Int32 → Int32 → Prop) (M : MM) (tl : Int64) (v1 : Int32) (v2 : Int32) (v3 : Int32) (v4 : Int32) (v5 : Int32) (v6 : Int32) (s0 : Int32) : Prop :=
  (if s0 = 0 then wX11_plan_159 post bk78 bk95 M tl v1 v2 v3 v5 v6 v4 else wX11_plan_159 post bk78 bk95 M tl v1 v2 v3 v5 v6 v6)
set_option maxHeartbeats 4000000 in
set_option maxRecDepth 20000 in
theorem bX11_plan_145 {E : EV} {ad : Nat → Nat} {M : MM} {tl : Int64} {Φ : Option Value → va_W → Prop} {post : Int32 → MM → Int64 → Prop} {bk78 : MM → Int64 → Int32 → Int32 → Int32 → Int32 → Int32 → Prop} {bk95 : MM → Int64 → Int32 → Int32 → Int32 → Int32 → Int32 → Int32 → Prop} {v1 : Int32} {v2 : Int32} {v3 : Int32} {v4 : Int32} {v5 : Int32} {v6 : Int32} {s0 : Int32} (hp : ∀ r M tl, post r M tl → Φ (some (.int r)) (WM E ad M tl)) (hb78 : ∀ (M : MM) (tl : Int64) (v1 : Int32) (v2 : Int32) (v3 : Int32) (v4 : Int32) (v5 : Int32), bk78 M tl v1 v2 v3 v4 v5 → T E kX11_plan 0 0 (WM E ad M tl) 78 [(0, .ref (ad (81))), (1, .int v1), (2, .int v2), (3, .int v3), (4, .int v4), (5, .int v5)] [] Φ) (hb95 : ∀ (M : MM) (tl : Int64) (v1 : Int32) (v2 : Int32) (v3 : Int32) (v4 : Int32) (v5 : Int32) (v6 : Int32), bk95 M tl v1 v2 v3 v4 v5 v6 → T E kX11_plan 0 0 (WM E ad M tl) 95 [(0, .ref (ad (81))), (1, .int v1), (2, .int v2), (3, .int v3), (4, .int v4), (5, .int v5), (6, .int v6)] [] Φ) (h : wX11_plan_145 post bk78 bk95 M tl v1 v2 v3 v4 v5 v6 s0) : T E kX11_plan 0 0 (WM E ad M tl) 145 [(0, .ref (ad (81))), (1, .int v1), (2, .int v2), (3, .int v3), (4, .int v4), (5, .int v5), (6, .int v6)] [.int s0] Φ := by
  unfold wX11_plan_145 at h
  refine tj_istore (l' := [(0, _), (1, _), (2, _), (3, _), (4, _), (5, _), (6, _), (7, _)]) rfl dX11_plan_145 (by decide) rfl ?_
  refine tj_iload rfl dX11_plan_147 rfl ?_
  refine tj_if_eq (tgt := 157) rfl rfl dX11_plan_149 (fun hc => ?_) (fun hc => ?_)
  · rw [if_pos hc] at h
    refine tj_iload rfl dX11_plan_157 rfl ?_
    exact tj_pick (l' := [(0, _), (1, _), (2, _), (3, _), (5, _), (6, _)]) [0, 1, 2, 3, 5, 6] rfl (bX11_plan_159 hp hb78 hb95 h)
  · rw [if_neg hc] at h
    refine tj_iload rfl dX11_plan_152 rfl ?_
    refine tj_goto (tgt := 159) rfl dX11_plan_154 ?_
    exact tj_pick (l' := [(0, _), (1, _), (2, _), (3, _), (5, _), (6, _)]) [0, 1, 2, 3, 5, 6] rfl (bX11_plan_159 hp hb78 hb95 h)
def wX11_plan_144 (post : Int32 → MM → Int64 → Prop) (bk78 : MM → Int64 → Int32 → Int32 → Int32 → Int32 → Int32 → Prop) (bk95 : MM → Int64 → Int32 → Int32 → Int32 → Int32 → Int32 → Int32 → Prop) (M : MM) (tl : Int64) (v1 : Int32) (v2 : Int32) (v3 : Int32) (v4 : Int32) (v5 : Int32) (v6 : Int32) : Prop :=
  wX11_plan_145 post bk78 bk95 M tl v1 v2 v3 v4 v5 v6 0
set_option maxHeartbeats 4000000 in
set_option maxRecDepth 20000 in
theorem bX11_plan_144 {E : EV} {ad : Nat → Nat} {M : MM} {tl : Int64} {Φ : Option Value → va_W → Prop} {post : Int32 → MM → Int64 → Prop} {bk78 : MM → Int64 → Int32 → Int32 → Int32 → Int32 → Int32 → Prop} {bk95 : MM → Int64 → Int32 → Int32 → Int32 → Int32 → Int32 → Int32 → Prop} {v1 : Int32} {v2 : Int32} {v3 : Int32} {v4 : Int32} {v5 : Int32} {v6 : Int32} (hp : ∀ r M tl, post r M tl → Φ (some (.int r)) (WM E ad M tl)) (hb78 : ∀ (M : MM) (tl : Int64) (v1 : Int32) (v2 : Int32) (v3 : Int32) (v4 : Int32) (v5 : Int32), bk78 M tl v1 v2 v3 v4 v5 → T E kX11_plan 0 0 (WM E ad M tl) 78 [(0, .ref (ad (81))), (1, .int v1), (2, .int v2), (3, .int v3), (4, .int v4), (5, .int v5)] [] Φ) (hb95 : ∀ (M : MM) (tl : Int64) (v1 : Int32) (v2 : Int32) (v3 : Int32) (v4 : Int32) (v5 : Int32) (v6 : Int32), bk95 M tl v1 v2 v3 v4 v5 v6 → T E kX11_plan 0 0 (WM E ad M tl) 95 [(0, .ref (ad (81))), (1, .int v1), (2, .int v2), (3, .int v3), (4, .int v4), (5, .int v5), (6, .int v6)] [] Φ) (h : wX11_plan_144 post bk78 bk95 M tl v1 v2 v3 v4 v5 v6) : T E kX11_plan 0 0 (WM E ad M tl) 144 [(0, .ref (ad (81))), (1, .int v1), (2, .int v2), (3, .int v3), (4, .int v4), (5, .int v5), (6, .int v6)] [] Φ := by
  unfold wX11_plan_144 at h
  refine tj_iconst (v := 0) rfl dX11_plan_144 (by decide) ?_
  exact bX11_plan_145 hp hb78 hb95 h
def wX11_plan_95 (post : Int32 → MM → Int64 → Prop) (bk78 : MM → Int64 → Int32 → Int32 → Int32 → Int32 → Int32 → Prop) : Nat → MM → Int64 → Int32 → Int32 → Int32 → Int32 → Int32 → Int32 → Prop
  | 0, _, _, _, _, _, _, _, _ => False
  | n + 1, M, tl, v1, v2, v3, v4, v5, v6 =>
    (if v6 < 0 then bk78 M tl v1 v2 (v3 ||| ((1 : Int32) <<< (v4 &&& 31))) v4 (v5 + 1) else (if ((v3 >>> (v6 &&& 31)) &&& 1) = 0 then wpX11_wantCost (fun r3 M1 t2 => (vp_in (v3 ||| ((1 : Int32) <<< (v6 &&& 31))) (al 104) ∧ (vp_in v3 (al 104) ∧ (if (r3 + (M1 104 (v3 ||| ((1 : Int32) <<< (v6 &&& 31)) : Int32).toNatClampNeg)) = (M1 104 (v3 : Int32).toNatClampNeg) then wX11_plan_145 post bk78 (wX11_plan_95 post bk78 n) M1 t2 v1 v2 v3 v4 v5 v6 1 else wX11_plan_144 post bk78 (wX11_plan_95 post bk78 n) M1 t2 v1 v2 v3 v4 v5 v6)))) M tl v5 (v1 + v6) else wX11_plan_144 post bk78 (wX11_plan_95 post bk78 n) M tl v1 v2 v3 v4 v5 v6))
set_option maxHeartbeats 4000000 in
set_option maxRecDepth 20000 in
theorem bX11_plan_95 {E : EV} {ad : Nat → Nat} {Φ : Option Value → va_W → Prop} {post : Int32 → MM → Int64 → Prop} {bk78 : MM → Int64 → Int32 → Int32 → Int32 → Int32 → Int32 → Prop}  (hp : ∀ r M tl, post r M tl → Φ (some (.int r)) (WM E ad M tl)) (hb78 : ∀ (M : MM) (tl : Int64) (v1 : Int32) (v2 : Int32) (v3 : Int32) (v4 : Int32) (v5 : Int32), bk78 M tl v1 v2 v3 v4 v5 → T E kX11_plan 0 0 (WM E ad M tl) 78 [(0, .ref (ad (81))), (1, .int v1), (2, .int v2), (3, .int v3), (4, .int v4), (5, .int v5)] [] Φ) : ∀ (n : Nat) (M : MM) (tl : Int64) (v1 : Int32) (v2 : Int32) (v3 : Int32) (v4 : Int32) (v5 : Int32) (v6 : Int32), wX11_plan_95 post bk78 n M tl v1 v2 v3 v4 v5 v6 → T E kX11_plan 0 0 (WM E ad M tl) 95 [(0, .ref (ad (81))), (1, .int v1), (2, .int v2), (3, .int v3), (4, .int v4), (5, .int v5), (6, .int v6)] [] Φ := by
  intro n
  induction n with
  | zero => intro M tl v1 v2 v3 v4 v5 v6 h; exact False.elim h
  | succ n ih =>
    intro M tl v1 v2 v3 v4 v5 v6 h
    unfold wX11_plan_95 at h
    refine tj_iload rfl dX11_plan_95 rfl ?_
    refine tj_if_lt (tgt := 167) rfl rfl dX11_plan_97 (fun hc => ?_) (fun hc => ?_)
    · rw [if_pos hc] at h
      refine tj_iload_n rfl dX11_plan_167 rfl ?_
      refine tj_iconst (v := 1) rfl dX11_plan_168 (by decide) ?_
      refine tj_iload rfl dX11_plan_169 rfl ?_
      refine tj_ishl rfl dX11_plan_171 ?_
      refine tj_ior rfl dX11_plan_172 ?_
      refine tj_istore_n (l' := [(0, _), (1, _), (2, _), (3, _), (4, _), (5, _), (6, _)]) rfl dX11_plan_173 (by decide) rfl ?_
      refine tj_iinc (v := _ + 1) (l' := [(0, _), (1, _), (2, _), (3, _), (4, _), (5, _), (6, _)]) rfl dX11_plan_174 rfl (by decide) rfl rfl ?_
      refine tj_goto (tgt := 78) rfl dX11_plan_177 ?_
      exact tj_pick (l' := [(0, _), (1, _), (2, _), (3, _), (4, _), (5, _)]) [0, 1, 2, 3, 4, 5] rfl (hb78 _ _ _ _ _ _ _ h)
    · rw [if_neg hc] at h
      refine tj_iload_n rfl dX11_plan_100 rfl ?_
      refine tj_iload rfl dX11_plan_101 rfl ?_
      refine tj_ishr rfl dX11_plan_103 ?_
      refine tj_iconst (v := 1) rfl dX11_plan_104 (by decide) ?_
      refine tj_iand rfl dX11_plan_105 ?_
      refine tj_if_ne (tgt := 144) rfl rfl dX11_plan_106 (fun hc => ?_) (fun hc => ?_)
      · rw [if_neg hc] at h
        exact bX11_plan_144 hp hb78 ih h
      · rw [if_pos hc] at h
        refine tj_aload_n rfl dX11_plan_109 rfl ?_
        refine tj_iload rfl dX11_plan_110 rfl ?_
        refine tj_iload_n rfl dX11_plan_112 rfl ?_
        refine tj_iload rfl dX11_plan_113 rfl ?_
        refine tj_iadd rfl dX11_plan_115 ?_
        refine cf_V11 (a := 81) (z := kX11_wantCost) (As := [_, _]) rfl rfl dX11_plan_116 rfl ml_X11_338 okX11_wantCost rfl (rm_ok rfl) (Nat.le_of_ble_eq_true rfl) (Nat.le_of_ble_eq_true rfl) rfl rfl ?_
        refine ctX11_wantCost h (fun r3 M1 t2 h => ?_)
        refine tj_aload_n rfl dX11_plan_119 rfl ?_
        refine gf11_rests (a := 81) rfl rfl dX11_plan_120 fl_X11_77 ?_
        refine tj_iload_n rfl dX11_plan_123 rfl ?_
        refine tj_iconst (v := 1) rfl dX11_plan_124 (by decide) ?_
        refine tj_iload rfl dX11_plan_125 rfl ?_
        refine tj_ishl rfl dX11_plan_127 ?_
        refine tj_ior rfl dX11_plan_128 ?_
        obtain ⟨hi4, h⟩ := h
        refine af_iald (a := 104) rfl rfl dX11_plan_129 hi4 ?_
        refine tj_iadd rfl dX11_plan_130 ?_
        refine tj_aload_n rfl dX11_plan_131 rfl ?_
        refine gf11_rests (a := 81) rfl rfl dX11_plan_132 fl_X11_77 ?_
        refine tj_iload_n rfl dX11_plan_135 rfl ?_
        obtain ⟨hi5, h⟩ := h
        refine af_iald (a := 104) rfl rfl dX11_plan_136 hi5 ?_
        refine tj_icmp_ne (tgt := 144) rfl rfl dX11_plan_137 (fun hc => ?_) (fun hc => ?_)
        · rw [if_neg hc] at h
          exact bX11_plan_144 hp hb78 ih h
        · rw [if_pos hc] at h
          refine tj_iconst (v := 1) rfl dX11_plan_140 (by decide) ?_
          refine tj_goto (tgt := 145) rfl dX11_plan_141 ?_
          exact bX11_plan_145 hp hb78 ih h
def wX11_plan_78 (post : Int32 → MM → Int64 → Prop) : Nat → MM → Int64 → Int32 → Int32 → Int32 → Int32 → Int32 → Prop
  | 0, _, _, _, _, _, _, _ => False
  | n + 1, M, tl, v1, v2, v3, v4, v5 =>
    (if (v2 - 10) < v5 then post (v1 + v4) M tl else (∃ n9, wX11_plan_95 post (wX11_plan_78 post n) n9 M tl v1 v2 v3 (-4) v5 11))
set_option maxHeartbeats 4000000 in
set_option maxRecDepth 20000 in
theorem bX11_plan_78 {E : EV} {ad : Nat → Nat} {Φ : Option Value → va_W → Prop} {post : Int32 → MM → Int64 → Prop}  (hp : ∀ r M tl, post r M tl → Φ (some (.int r)) (WM E ad M tl)) : ∀ (n : Nat) (M : MM) (tl : Int64) (v1 : Int32) (v2 : Int32) (v3 : Int32) (v4 : Int32) (v5 : Int32), wX11_plan_78 post n M tl v1 v2 v3 v4 v5 → T E kX11_plan 0 0 (WM E ad M tl) 78 [(0, .ref (ad (81))), (1, .int v1), (2, .int v2), (3, .int v3), (4, .int v4), (5, .int v5)] [] Φ := by
  intro n
  induction n with
  | zero => intro M tl v1 v2 v3 v4 v5 h; exact False.elim h
  | succ n ih =>
    intro M tl v1 v2 v3 v4 v5 h
    unfold wX11_plan_78 at h
    refine tj_iload rfl dX11_plan_78 rfl ?_
    refine tj_iload_n rfl dX11_plan_80 rfl ?_
    refine tj_bipush (v := 10) rfl dX11_plan_81 (by decide) ?_
    refine tj_isub rfl dX11_plan_83 ?_
    refine tj_icmp_gt (tgt := 180) rfl rfl dX11_plan_84 (fun hc => ?_) (fun hc => ?_)
    · rw [if_pos hc] at h
      refine tj_iload_n rfl dX11_plan_180 rfl ?_
      refine tj_iload rfl dX11_plan_181 rfl ?_
      refine tj_iadd rfl dX11_plan_183 ?_
      exact tj_ireturn (ty := .int) dX11_plan_184 rfl rfl (Nat.zero_le _) (Nat.zero_le _) (hp _ _ _ h)
    · rw [if_neg hc] at h
      refine tj_bipush (v := -4) rfl dX11_plan_87 (by decide) ?_
      refine tj_istore (l' := [(0, _), (1, _), (2, _), (3, _), (4, _), (5, _)]) rfl dX11_plan_89 (by decide) rfl ?_
      refine tj_bipush (v := 11) rfl dX11_plan_91 (by decide) ?_
      refine tj_istore (l' := [(0, _), (1, _), (2, _), (3, _), (4, _), (5, _), (6, _)]) rfl dX11_plan_93 (by decide) rfl ?_
      obtain ⟨n9, h⟩ := h
      exact bX11_plan_95 hp ih n9 _ _ _ _ _ _ _ _ h
def wX11_plan_40 (post : Int32 → MM → Int64 → Prop) (M : MM) (tl : Int64) (v1 : Int32) (v2 : Int32) : Prop :=
  (vp_in 65 (al 82) ∧ (if (M 82 (65 : Int32).toNatClampNeg) = 0 then post (-2) M tl else wpX11_findRests (fun M2 t3 => (if v2 = 0 then (vp_in 0 (al 104) ∧ post (M2 104 (0 : Int32).toNatClampNeg) M2 t3) else (∃ n9, wX11_plan_78 post  n9 M2 t3 v1 v2 0 (-4) 0))) M tl v1))
set_option maxHeartbeats 4000000 in
set_option maxRecDepth 20000 in
theorem bX11_plan_40 {E : EV} {ad : Nat → Nat} {M : MM} {tl : Int64} {Φ : Option Value → va_W → Prop} {post : Int32 → MM → Int64 → Prop} {v1 : Int32} {v2 : Int32} (hp : ∀ r M tl, post r M tl → Φ (some (.int r)) (WM E ad M tl)) (h : wX11_plan_40 post M tl v1 v2) : T E kX11_plan 0 0 (WM E ad M tl) 40 [(0, .ref (ad (81))), (1, .int v1), (2, .int v2)] [] Φ := by
  unfold wX11_plan_40 at h
  refine tj_aload_n rfl dX11_plan_40 rfl ?_
  refine gf11_st (a := 81) rfl rfl dX11_plan_41 fl_X11_7 ?_
  refine tj_bipush (v := 65) rfl dX11_plan_44 (by decide) ?_
  obtain ⟨hi1, h⟩ := h
  refine af_iald (a := 82) rfl rfl dX11_plan_46 hi1 ?_
  refine tj_if_ne (tgt := 53) rfl rfl dX11_plan_47 (fun hc => ?_) (fun hc => ?_)
  · rw [if_neg hc] at h
    refine tj_aload_n rfl dX11_plan_53 rfl ?_
    refine tj_iload_n rfl dX11_plan_54 rfl ?_
    refine cf_V11 (a := 81) (z := kX11_findRests) (As := [_]) rfl rfl dX11_plan_55 rfl ml_X11_341 okX11_findRests rfl (rm_ok rfl) (Nat.le_of_ble_eq_true rfl) (Nat.le_of_ble_eq_true rfl) rfl rfl ?_
    refine ctX11_findRests h (fun M2 t3 h => ?_)
    refine tj_iload_n rfl dX11_plan_58 rfl ?_
    refine tj_if_ne (tgt := 69) rfl rfl dX11_plan_59 (fun hc => ?_) (fun hc => ?_)
    · rw [if_neg hc] at h
      refine tj_iconst (v := 0) rfl dX11_plan_69 (by decide) ?_
      refine tj_istore_n (l' := [(0, _), (1, _), (2, _), (3, _)]) rfl dX11_plan_70 (by decide) rfl ?_
      refine tj_bipush (v := -4) rfl dX11_plan_71 (by decide) ?_
      refine tj_istore (l' := [(0, _), (1, _), (2, _), (3, _), (4, _)]) rfl dX11_plan_73 (by decide) rfl ?_
      refine tj_iconst (v := 0) rfl dX11_plan_75 (by decide) ?_
      refine tj_istore (l' := [(0, _), (1, _), (2, _), (3, _), (4, _), (5, _)]) rfl dX11_plan_76 (by decide) rfl ?_
      obtain ⟨n9, h⟩ := h
      exact bX11_plan_78 hp  n9 _ _ _ _ _ _ _ h
    · rw [if_pos hc] at h
      refine tj_aload_n rfl dX11_plan_62 rfl ?_
      refine gf11_rests (a := 81) rfl rfl dX11_plan_63 fl_X11_77 ?_
      refine tj_iconst (v := 0) rfl dX11_plan_66 (by decide) ?_
      obtain ⟨hi4, h⟩ := h
      refine af_iald (a := 104) rfl rfl dX11_plan_67 hi4 ?_
      exact tj_ireturn (ty := .int) dX11_plan_68 rfl rfl (Nat.zero_le _) (Nat.zero_le _) (hp _ _ _ h)
  · rw [if_pos hc] at h
    refine tj_bipush (v := -2) rfl dX11_plan_50 (by decide) ?_
    exact tj_ireturn (ty := .int) dX11_plan_52 rfl rfl (Nat.zero_le _) (Nat.zero_le _) (hp _ _ _ h)
def wpX11_plan (post : Int32 → MM → Int64 → Prop) (M : MM) (tl : Int64) (v1 : Int32) (v2 : Int32) : Prop :=
  wpX11_in (fun r3 M1 t2 => (if r3 = 0 then post (-1) M1 t2 else (if v2 = 0 then wX11_plan_40 post  M1 t2 v1 v2 else (vp_in 65 (al 82) ∧ wpX11_in (fun r7 M5 t6 => (if r7 = 0 then post (-1) M5 t6 else wX11_plan_40 post  M5 t6 v1 v2)) M1 t2 ((v2 : Int32).toInt64) 10 (((9 : Int32) + (M1 82 (65 : Int32).toNatClampNeg) : Int32).toInt64))))) M tl ((v1 : Int32).toInt64) 0 3
set_option maxHeartbeats 4000000 in
set_option maxRecDepth 20000 in
theorem ctX11_plan {E : EV} {ad : Nat → Nat} {M : MM} {tl : Int64} {Φ : Option Value → va_W → Prop} {post : Int32 → MM → Int64 → Prop} {v1 : Int32} {v2 : Int32} (h : wpX11_plan post M tl v1 v2) (hp : ∀ r M tl, post r M tl → Φ (some (.int r)) (WM E ad M tl)) : Tm E kX11_plan (WM E ad M tl) [.ref (ad (81)), .int v1, .int v2] Φ := by
  unfold wpX11_plan at h
  show T E kX11_plan 0 0 (WM E ad M tl) 0 [(0, .ref (ad (81))), (1, .int v1), (2, .int v2)] [] Φ
  refine tj_iload_n rfl dX11_plan_0 rfl ?_
  refine tj_i2l rfl dX11_plan_1 ?_
  refine tj_lconst (v := 0) rfl dX11_plan_2 (by decide) ?_
  refine tj_ldc2 rfl dX11_plan_3 kl_X11_269 ?_
  refine cf_S (z := kX11_in) (As := [_, _, _]) rfl dX11_plan_6 rfl ml_X11_146 okX11_in rfl (rm_ok rfl) (Nat.le_of_ble_eq_true rfl) (Nat.le_of_ble_eq_true rfl) rfl ?_
  refine ctX11_in h (fun r3 M1 t2 h => ?_)
  refine tj_if_eq (tgt := 38) rfl rfl dX11_plan_9 (fun hc => ?_) (fun hc => ?_)
  · rw [if_pos hc] at h
    refine tj_iconst (v := -1) rfl dX11_plan_38 (by decide) ?_
    exact tj_ireturn (ty := .int) dX11_plan_39 rfl rfl (Nat.zero_le _) (Nat.zero_le _) (hp _ _ _ h)
  · rw [if_neg hc] at h
    refine tj_iload_n rfl dX11_plan_12 rfl ?_
    refine tj_if_eq (tgt := 40) rfl rfl dX11_plan_13 (fun hc => ?_) (fun hc => ?_)
    · rw [if_pos hc] at h
      exact bX11_plan_40 hp  h
    · rw [if_neg hc] at h
      refine tj_iload_n rfl dX11_plan_16 rfl ?_
      refine tj_i2l rfl dX11_plan_17 ?_
      refine tj_ldc2 rfl dX11_plan_18 kl_X11_251 ?_
      refine tj_bipush (v := 9) rfl dX11_plan_21 (by decide) ?_
      refine tj_aload_n rfl dX11_plan_23 rfl ?_
      refine gf11_st (a := 81) rfl rfl dX11_plan_24 fl_X11_7 ?_
      refine tj_bipush (v := 65) rfl dX11_plan_27 (by decide) ?_
      obtain ⟨hi4, h⟩ := h
      refine af_iald (a := 82) rfl rfl dX11_plan_29 hi4 ?_
      refine tj_iadd rfl dX11_plan_30 ?_
      refine tj_i2l rfl dX11_plan_31 ?_
      refine cf_S (z := kX11_in) (As := [_, _, _]) rfl dX11_plan_32 rfl ml_X11_146 okX11_in rfl (rm_ok rfl) (Nat.le_of_ble_eq_true rfl) (Nat.le_of_ble_eq_true rfl) rfl ?_
      refine ctX11_in h (fun r7 M5 t6 h => ?_)
      refine tj_if_ne (tgt := 40) rfl rfl dX11_plan_35 (fun hc => ?_) (fun hc => ?_)
      · rw [if_neg hc] at h
        exact bX11_plan_40 hp  h
      · rw [if_pos hc] at h
        refine tj_iconst (v := -1) rfl dX11_plan_38 (by decide) ?_
        exact tj_ireturn (ty := .int) dX11_plan_39 rfl rfl (Nat.zero_le _) (Nat.zero_le _) (hp _ _ _ h)
def wX11_cannot_83 (post : Int32 → MM → Int64 → Prop) (bk20 : MM → Int64 → Int32 → Int32 → Int32 → Int32 → Prop) (M : MM) (tl : Int64) (v1 : Int32) (v2 : Int32) (v4 : Int32) (s0 : Int32) : Prop :=
  bk20 M tl v1 v2 s0 (v4 + 1)
set_option maxHeartbeats 4000000 in
set_option maxRecDepth 20000 in
theorem bX11_cannot_83 {E : EV} {ad : Nat → Nat} {M : MM} {tl : Int64} {Φ : Option Value → va_W → Prop} {post : Int32 → MM → Int64 → Prop} {bk20 : MM → Int64 → Int32 → Int32 → Int32 → Int32 → Prop} {v1 : Int32} {v2 : Int32} {v4 : Int32} {s0 : Int32} (hp : ∀ r M tl, post r M tl → Φ (some (.int r)) (WM E ad M tl)) (hb20 : ∀ (M : MM) (tl : Int64) (v1 : Int32) (v2 : Int32) (v3 : Int32) (v4 : Int32), bk20 M tl v1 v2 v3 v4 → T E kX11_cannot 0 0 (WM E ad M tl) 20 [(0, .ref (ad (81))), (1, .int v1), (2, .int v2), (3, .int v3), (4, .int v4)] [] Φ) (h : wX11_cannot_83 post bk20 M tl v1 v2 v4 s0) : T E kX11_cannot 0 0 (WM E ad M tl) 83 [(0, .ref (ad (81))), (1, .int v1), (2, .int v2), (4, .int v4)] [.int s0] Φ := by
  unfold wX11_cannot_83 at h
  refine tj_istore_n (l' := [(0, _), (1, _), (2, _), (3, _), (4, _)]) rfl dX11_cannot_83 (by decide) rfl ?_
  refine tj_iinc (v := _ + 1) (l' := [(0, _), (1, _), (2, _), (3, _), (4, _)]) rfl dX11_cannot_84 rfl (by decide) rfl rfl ?_
  refine tj_goto (tgt := 20) rfl dX11_cannot_87 ?_
  exact hb20 _ _ _ _ _ _ h
def wX11_cannot_62 (post : Int32 → MM → Int64 → Prop) (bk20 : MM → Int64 → Int32 → Int32 → Int32 → Int32 → Prop) (M : MM) (tl : Int64) (v1 : Int32) (v2 : Int32) (v3 : Int32) (v4 : Int32) (s0 : Int32) : Prop :=
  (if s0 = 0 then wX11_cannot_83 post bk20 M tl v1 v2 v4 v3 else (vp_in ((6 : Int32) + v4) (al 85) ∧ wX11_cannot_83 post bk20 M tl v1 v2 v4 (M 85 ((6 : Int32) + v4 : Int32).toNatClampNeg)))
set_option maxHeartbeats 4000000 in
set_option maxRecDepth 20000 in
theorem bX11_cannot_62 {E : EV} {ad : Nat → Nat} {M : MM} {tl : Int64} {Φ : Option Value → va_W → Prop} {post : Int32 → MM → Int64 → Prop} {bk20 : MM → Int64 → Int32 → Int32 → Int32 → Int32 → Prop} {v1 : Int32} {v2 : Int32} {v3 : Int32} {v4 : Int32} {s0 : Int32} (hp : ∀ r M tl, post r M tl → Φ (some (.int r)) (WM E ad M tl)) (hb20 : ∀ (M : MM) (tl : Int64) (v1 : Int32) (v2 : Int32) (v3 : Int32) (v4 : Int32), bk20 M tl v1 v2 v3 v4 → T E kX11_cannot 0 0 (WM E ad M tl) 20 [(0, .ref (ad (81))), (1, .int v1), (2, .int v2), (3, .int v3), (4, .int v4)] [] Φ) (h : wX11_cannot_62 post bk20 M tl v1 v2 v3 v4 s0) : T E kX11_cannot 0 0 (WM E ad M tl) 62 [(0, .ref (ad (81))), (1, .int v1), (2, .int v2), (3, .int v3), (4, .int v4)] [.int s0] Φ := by
  unfold wX11_cannot_62 at h
  refine tj_istore (l' := [(0, _), (1, _), (2, _), (3, _), (4, _), (5, _)]) rfl dX11_cannot_62 (by decide) rfl ?_
  refine tj_iload rfl dX11_cannot_64 rfl ?_
  refine tj_if_eq (tgt := 82) rfl rfl dX11_cannot_66 (fun hc => ?_) (fun hc => ?_)
  · rw [if_pos hc] at h
    refine tj_iload_n rfl dX11_cannot_82 rfl ?_
    exact tj_pick (l' := [(0, _), (1, _), (2, _), (4, _)]) [0, 1, 2, 4] rfl (bX11_cannot_83 hp hb20 h)
  · rw [if_neg hc] at h
    refine tj_aload_n rfl dX11_cannot_69 rfl ?_
    refine gf11_cost (a := 81) rfl rfl dX11_cannot_70 fl_X11_20 ?_
    refine tj_bipush (v := 6) rfl dX11_cannot_73 (by decide) ?_
    refine tj_iload rfl dX11_cannot_75 rfl ?_
    refine tj_iadd rfl dX11_cannot_77 ?_
    obtain ⟨hi1, h⟩ := h
    refine af_iald (a := 85) rfl rfl dX11_cannot_78 hi1 ?_
    refine tj_goto (tgt := 83) rfl dX11_cannot_79 ?_
    exact tj_pick (l' := [(0, _), (1, _), (2, _), (4, _)]) [0, 1, 2, 4] rfl (bX11_cannot_83 hp hb20 h)
def wX11_cannot_57 (post : Int32 → MM → Int64 → Prop) (bk20 : MM → Int64 → Int32 → Int32 → Int32 → Int32 → Prop) (M : MM) (tl : Int64) (v1 : Int32) (v2 : Int32) (v3 : Int32) (v4 : Int32) : Prop :=
  wX11_cannot_62 post bk20 M tl v1 v2 v3 v4 1
set_option maxHeartbeats 4000000 in
set_option maxRecDepth 20000 in
theorem bX11_cannot_57 {E : EV} {ad : Nat → Nat} {M : MM} {tl : Int64} {Φ : Option Value → va_W → Prop} {post : Int32 → MM → Int64 → Prop} {bk20 : MM → Int64 → Int32 → Int32 → Int32 → Int32 → Prop} {v1 : Int32} {v2 : Int32} {v3 : Int32} {v4 : Int32} (hp : ∀ r M tl, post r M tl → Φ (some (.int r)) (WM E ad M tl)) (hb20 : ∀ (M : MM) (tl : Int64) (v1 : Int32) (v2 : Int32) (v3 : Int32) (v4 : Int32), bk20 M tl v1 v2 v3 v4 → T E kX11_cannot 0 0 (WM E ad M tl) 20 [(0, .ref (ad (81))), (1, .int v1), (2, .int v2), (3, .int v3), (4, .int v4)] [] Φ) (h : wX11_cannot_57 post bk20 M tl v1 v2 v3 v4) : T E kX11_cannot 0 0 (WM E ad M tl) 57 [(0, .ref (ad (81))), (1, .int v1), (2, .int v2), (3, .int v3), (4, .int v4)] [] Φ := by
  unfold wX11_cannot_57 at h
  refine tj_iconst (v := 1) rfl dX11_cannot_57 (by decide) ?_
  refine tj_goto (tgt := 62) rfl dX11_cannot_58 ?_
  exact bX11_cannot_62 hp hb20 h
def wX11_cannot_61 (post : Int32 → MM → Int64 → Prop) (bk20 : MM → Int64 → Int32 → Int32 → Int32 → Int32 → Prop) (M : MM) (tl : Int64) (v1 : Int32) (v2 : Int32) (v3 : Int32) (v4 : Int32) : Prop :=
  wX11_cannot_62 post bk20 M tl v1 v2 v3 v4 0
set_option maxHeartbeats 4000000 in
set_option maxRecDepth 20000 in
theorem bX11_cannot_61 {E : EV} {ad : Nat → Nat} {M : MM} {tl : Int64} {Φ : Option Value → va_W → Prop} {post : Int32 → MM → Int64 → Prop} {bk20 : MM → Int64 → Int32 → Int32 → Int32 → Int32 → Prop} {v1 : Int32} {v2 : Int32} {v3 : Int32} {v4 : Int32} (hp : ∀ r M tl, post r M tl → Φ (some (.int r)) (WM E ad M tl)) (hb20 : ∀ (M : MM) (tl : Int64) (v1 : Int32) (v2 : Int32) (v3 : Int32) (v4 : Int32), bk20 M tl v1 v2 v3 v4 → T E kX11_cannot 0 0 (WM E ad M tl) 20 [(0, .ref (ad (81))), (1, .int v1), (2, .int v2), (3, .int v3), (4, .int v4)] [] Φ) (h : wX11_cannot_61 post bk20 M tl v1 v2 v3 v4) : T E kX11_cannot 0 0 (WM E ad M tl) 61 [(0, .ref (ad (81))), (1, .int v1), (2, .int v2), (3, .int v3), (4, .int v4)] [] Φ := by
  unfold wX11_cannot_61 at h
  refine tj_iconst (v := 0) rfl dX11_cannot_61 (by decide) ?_
  exact bX11_cannot_62 hp hb20 h
def wX11_cannot_182 (post : Int32 → MM → Int64 → Prop) (bk96 : MM → Int64 → Int32 → Int32 → Int32 → Int32 → Int32 → Prop) (M : MM) (tl : Int64) (v1 : Int32) (v2 : Int32) (v3 : Int32) (v5 : Int32) (s0 : Int32) (s1 : Int32) : Prop :=
  bk96 M tl v1 v2 v3 (s0 + s1) (v5 + 1)
set_option maxHeartbeats 4000000 in
set_option maxRecDepth 20000 in
theorem bX11_cannot_182 {E : EV} {ad : Nat → Nat} {M : MM} {tl : Int64} {Φ : Option Value → va_W → Prop} {post : Int32 → MM → Int64 → Prop} {bk96 : MM → Int64 → Int32 → Int32 → Int32 → Int32 → Int32 → Prop} {v1 : Int32} {v2 : Int32} {v3 : Int32} {v5 : Int32} {s0 : Int32} {s1 : Int32} (hp : ∀ r M tl, post r M tl → Φ (some (.int r)) (WM E ad M tl)) (hb96 : ∀ (M : MM) (tl : Int64) (v1 : Int32) (v2 : Int32) (v3 : Int32) (v4 : Int32) (v5 : Int32), bk96 M tl v1 v2 v3 v4 v5 → T E kX11_cannot 0 0 (WM E ad M tl) 96 [(0, .ref (ad (81))), (1, .int v1), (2, .int v2), (3, .int v3), (4, .int v4), (5, .int v5)] [] Φ) (h : wX11_cannot_182 post bk96 M tl v1 v2 v3 v5 s0 s1) : T E kX11_cannot 0 0 (WM E ad M tl) 182 [(0, .ref (ad (81))), (1, .int v1), (2, .int v2), (3, .int v3), (5, .int v5)] [.int s1, .int s0] Φ := by
  unfold wX11_cannot_182 at h
  refine tj_iadd rfl dX11_cannot_182 ?_
  refine tj_istore (l' := [(0, _), (1, _), (2, _), (3, _), (4, _), (5, _)]) rfl dX11_cannot_183 (by decide) rfl ?_
  refine tj_iinc (v := _ + 1) (l' := [(0, _), (1, _), (2, _), (3, _), (4, _), (5, _)]) rfl dX11_cannot_185 rfl (by decide) rfl rfl ?_
  refine tj_goto (tgt := 96) rfl dX11_cannot_188 ?_
  exact hb96 _ _ _ _ _ _ _ h
def wX11_cannot_158 (post : Int32 → MM → Int64 → Prop) (bk96 : MM → Int64 → Int32 → Int32 → Int32 → Int32 → Int32 → Prop) (M : MM) (tl : Int64) (v1 : Int32) (v3 : Int32) (v4 : Int32) (v5 : Int32) (v6 : Int32) (s0 : Int32) (s1 : Int32) : Prop :=
  (vp_in v6 (al 88) ∧ wpX11_doesLack (fun r4 M2 t3 => (if r4 = 0 then wX11_cannot_182 post bk96 M2 t3 v1 (s0 ||| s1) v3 v5 v4 0 else wX11_cannot_182 post bk96 M2 t3 v1 (s0 ||| s1) v3 v5 v4 v3)) M tl 1 (M 88 (v6 : Int32).toNatClampNeg))
set_option maxHeartbeats 4000000 in
set_option maxRecDepth 20000 in
theorem bX11_cannot_158 {E : EV} {ad : Nat → Nat} {M : MM} {tl : Int64} {Φ : Option Value → va_W → Prop} {post : Int32 → MM → Int64 → Prop} {bk96 : MM → Int64 → Int32 → Int32 → Int32 → Int32 → Int32 → Prop} {v1 : Int32} {v3 : Int32} {v4 : Int32} {v5 : Int32} {v6 : Int32} {s0 : Int32} {s1 : Int32} (hp : ∀ r M tl, post r M tl → Φ (some (.int r)) (WM E ad M tl)) (hb96 : ∀ (M : MM) (tl : Int64) (v1 : Int32) (v2 : Int32) (v3 : Int32) (v4 : Int32) (v5 : Int32), bk96 M tl v1 v2 v3 v4 v5 → T E kX11_cannot 0 0 (WM E ad M tl) 96 [(0, .ref (ad (81))), (1, .int v1), (2, .int v2), (3, .int v3), (4, .int v4), (5, .int v5)] [] Φ) (h : wX11_cannot_158 post bk96 M tl v1 v3 v4 v5 v6 s0 s1) : T E kX11_cannot 0 0 (WM E ad M tl) 158 [(0, .ref (ad (81))), (1, .int v1), (3, .int v3), (4, .int v4), (5, .int v5), (6, .int v6)] [.int s1, .int s0] Φ := by
  unfold wX11_cannot_158 at h
  refine tj_ior rfl dX11_cannot_158 ?_
  refine tj_istore_n (l' := [(0, _), (1, _), (2, _), (3, _), (4, _), (5, _), (6, _)]) rfl dX11_cannot_159 (by decide) rfl ?_
  refine tj_iload rfl dX11_cannot_160 rfl ?_
  refine tj_aload_n rfl dX11_cannot_162 rfl ?_
  refine tj_iconst (v := 1) rfl dX11_cannot_163 (by decide) ?_
  refine tj_aload_n rfl dX11_cannot_164 rfl ?_
  refine gf11_twin (a := 81) rfl rfl dX11_cannot_165 fl_X11_29 ?_
  refine tj_iload rfl dX11_cannot_168 rfl ?_
  obtain ⟨hi1, h⟩ := h
  refine af_iald (a := 88) rfl rfl dX11_cannot_170 hi1 ?_
  refine cf_V11 (a := 81) (z := kX11_doesLack) (As := [_, _]) rfl rfl dX11_cannot_171 rfl ml_X11_261 okX11_doesLack rfl (rm_ok rfl) (Nat.le_of_ble_eq_true rfl) (Nat.le_of_ble_eq_true rfl) rfl rfl ?_
  refine ctX11_doesLack h (fun r4 M2 t3 h => ?_)
  refine tj_if_eq (tgt := 181) rfl rfl dX11_cannot_174 (fun hc => ?_) (fun hc => ?_)
  · rw [if_pos hc] at h
    refine tj_iconst (v := 0) rfl dX11_cannot_181 (by decide) ?_
    exact tj_pick (l' := [(0, _), (1, _), (2, _), (3, _), (5, _)]) [0, 1, 2, 3, 5] rfl (bX11_cannot_182 hp hb96 h)
  · rw [if_neg hc] at h
    refine tj_iload_n rfl dX11_cannot_177 rfl ?_
    refine tj_goto (tgt := 182) rfl dX11_cannot_178 ?_
    exact tj_pick (l' := [(0, _), (1, _), (2, _), (3, _), (5, _)]) [0, 1, 2, 3, 5] rfl (bX11_cannot_182 hp hb96 h)
def wX11_cannot_150 (post : Int32 → MM → Int64 → Prop) (bk96 : MM → Int64 → Int32 → Int32 → Int32 → Int32 → Int32 → Prop) (M : MM) (tl : Int64) (v1 : Int32) (v3 : Int32) (v4 : Int32) (v5 : Int32) (v6 : Int32) (s0 : Int32) : Prop :=
  wX11_cannot_158 post bk96 M tl v1 v3 v4 v5 v6 s0 ((1 : Int32) <<< (v6 &&& 31))
set_option maxHeartbeats 4000000 in
set_option maxRecDepth 20000 in
theorem bX11_cannot_150 {E : EV} {ad : Nat → Nat} {M : MM} {tl : Int64} {Φ : Option Value → va_W → Prop} {post : Int32 → MM → Int64 → Prop} {bk96 : MM → Int64 → Int32 → Int32 → Int32 → Int32 → Int32 → Prop} {v1 : Int32} {v3 : Int32} {v4 : Int32} {v5 : Int32} {v6 : Int32} {s0 : Int32} (hp : ∀ r M tl, post r M tl → Φ (some (.int r)) (WM E ad M tl)) (hb96 : ∀ (M : MM) (tl : Int64) (v1 : Int32) (v2 : Int32) (v3 : Int32) (v4 : Int32) (v5 : Int32), bk96 M tl v1 v2 v3 v4 v5 → T E kX11_cannot 0 0 (WM E ad M tl) 96 [(0, .ref (ad (81))), (1, .int v1), (2, .int v2), (3, .int v3), (4, .int v4), (5, .int v5)] [] Φ) (h : wX11_cannot_150 post bk96 M tl v1 v3 v4 v5 v6 s0) : T E kX11_cannot 0 0 (WM E ad M tl) 150 [(0, .ref (ad (81))), (1, .int v1), (3, .int v3), (4, .int v4), (5, .int v5), (6, .int v6)] [.int s0] Φ := by
  unfold wX11_cannot_150 at h
  refine tj_iconst (v := 1) rfl dX11_cannot_150 (by decide) ?_
  refine tj_iload rfl dX11_cannot_151 rfl ?_
  refine tj_ishl rfl dX11_cannot_153 ?_
  refine tj_goto (tgt := 158) rfl dX11_cannot_154 ?_
  exact bX11_cannot_158 hp hb96 h
def wX11_cannot_96 (post : Int32 → MM → Int64 → Prop) : Nat → MM → Int64 → Int32 → Int32 → Int32 → Int32 → Int32 → Prop
  | 0, _, _, _, _, _, _, _ => False
  | n + 1, M, tl, v1, v2, v3, v4, v5 =>
    (vp_in 65 (al 82) ∧ (if (M 82 (65 : Int32).toNatClampNeg) ≤ v5 then (if v1 = 0 then post v2 M tl else (if v3 = (-4) then post (-4) M tl else post v4 M tl)) else (vp_in (((66 : Int32) + ((2 : Int32) * v5)) + 1) (al 82) ∧ wpX11_doesLack (fun r5 M3 t4 => (if r5 = 0 then (vp_in (M 82 (((66 : Int32) + ((2 : Int32) * v5)) + 1 : Int32).toNatClampNeg) (al 88) ∧ wpX11_doesLack (fun r9 M7 t8 => (if r9 = 0 then wX11_cannot_158 post (wX11_cannot_96 post n) M7 t8 v1 v3 v4 v5 (M 82 (((66 : Int32) + ((2 : Int32) * v5)) + 1 : Int32).toNatClampNeg) v2 0 else wX11_cannot_150 post (wX11_cannot_96 post n) M7 t8 v1 v3 v4 v5 (M 82 (((66 : Int32) + ((2 : Int32) * v5)) + 1 : Int32).toNatClampNeg) v2)) M3 t4 1 (M3 88 (M 82 (((66 : Int32) + ((2 : Int32) * v5)) + 1 : Int32).toNatClampNeg : Int32).toNatClampNeg)) else wX11_cannot_150 post (wX11_cannot_96 post n) M3 t4 v1 v3 v4 v5 (M 82 (((66 : Int32) + ((2 : Int32) * v5)) + 1 : Int32).toNatClampNeg) v2)) M tl 0 (M 82 (((66 : Int32) + ((2 : Int32) * v5)) + 1 : Int32).toNatClampNeg))))
set_option maxHeartbeats 4000000 in
set_option maxRecDepth 20000 in
theorem bX11_cannot_96 {E : EV} {ad : Nat → Nat} {Φ : Option Value → va_W → Prop} {post : Int32 → MM → Int64 → Prop}  (hp : ∀ r M tl, post r M tl → Φ (some (.int r)) (WM E ad M tl)) : ∀ (n : Nat) (M : MM) (tl : Int64) (v1 : Int32) (v2 : Int32) (v3 : Int32) (v4 : Int32) (v5 : Int32), wX11_cannot_96 post n M tl v1 v2 v3 v4 v5 → T E kX11_cannot 0 0 (WM E ad M tl) 96 [(0, .ref (ad (81))), (1, .int v1), (2, .int v2), (3, .int v3), (4, .int v4), (5, .int v5)] [] Φ := by
  intro n
  induction n with
  | zero => intro M tl v1 v2 v3 v4 v5 h; exact False.elim h
  | succ n ih =>
    intro M tl v1 v2 v3 v4 v5 h
    unfold wX11_cannot_96 at h
    refine tj_iload rfl dX11_cannot_96 rfl ?_
    refine tj_aload_n rfl dX11_cannot_98 rfl ?_
    refine gf11_st (a := 81) rfl rfl dX11_cannot_99 fl_X11_7 ?_
    refine tj_bipush (v := 65) rfl dX11_cannot_102 (by decide) ?_
    obtain ⟨hi1, h⟩ := h
    refine af_iald (a := 82) rfl rfl dX11_cannot_104 hi1 ?_
    refine tj_icmp_ge (tgt := 191) rfl rfl dX11_cannot_105 (fun hc => ?_) (fun hc => ?_)
    · rw [if_pos hc] at h
      refine tj_iload_n rfl dX11_cannot_191 rfl ?_
      refine tj_if_ne (tgt := 199) rfl rfl dX11_cannot_192 (fun hc => ?_) (fun hc => ?_)
      · rw [if_neg hc] at h
        refine tj_iload_n rfl dX11_cannot_199 rfl ?_
        refine tj_bipush (v := -4) rfl dX11_cannot_200 (by decide) ?_
        refine tj_icmp_ne (tgt := 210) rfl rfl dX11_cannot_202 (fun hc => ?_) (fun hc => ?_)
        · rw [if_neg hc] at h
          refine tj_iload rfl dX11_cannot_210 rfl ?_
          exact tj_ireturn (ty := .int) dX11_cannot_212 rfl rfl (Nat.zero_le _) (Nat.zero_le _) (hp _ _ _ h)
        · rw [if_pos hc] at h
          refine tj_bipush (v := -4) rfl dX11_cannot_205 (by decide) ?_
          refine tj_goto (tgt := 212) rfl dX11_cannot_207 ?_
          exact tj_ireturn (ty := .int) dX11_cannot_212 rfl rfl (Nat.zero_le _) (Nat.zero_le _) (hp _ _ _ h)
      · rw [if_pos hc] at h
        refine tj_iload_n rfl dX11_cannot_195 rfl ?_
        refine tj_goto (tgt := 212) rfl dX11_cannot_196 ?_
        exact tj_ireturn (ty := .int) dX11_cannot_212 rfl rfl (Nat.zero_le _) (Nat.zero_le _) (hp _ _ _ h)
    · rw [if_neg hc] at h
      refine tj_aload_n rfl dX11_cannot_108 rfl ?_
      refine gf11_st (a := 81) rfl rfl dX11_cannot_109 fl_X11_7 ?_
      refine tj_bipush (v := 66) rfl dX11_cannot_112 (by decide) ?_
      refine tj_iconst (v := 2) rfl dX11_cannot_114 (by decide) ?_
      refine tj_iload rfl dX11_cannot_115 rfl ?_
      refine tj_imul rfl dX11_cannot_117 ?_
      refine tj_iadd rfl dX11_cannot_118 ?_
      refine tj_iconst (v := 1) rfl dX11_cannot_119 (by decide) ?_
      refine tj_iadd rfl dX11_cannot_120 ?_
      obtain ⟨hi2, h⟩ := h
      refine af_iald (a := 82) rfl rfl dX11_cannot_121 hi2 ?_
      refine tj_istore (l' := [(0, _), (1, _), (2, _), (3, _), (4, _), (5, _), (6, _)]) rfl dX11_cannot_122 (by decide) rfl ?_
      refine tj_iload_n rfl dX11_cannot_124 rfl ?_
      refine tj_aload_n rfl dX11_cannot_125 rfl ?_
      refine tj_iconst (v := 0) rfl dX11_cannot_126 (by decide) ?_
      refine tj_iload rfl dX11_cannot_127 rfl ?_
      refine cf_V11 (a := 81) (z := kX11_doesLack) (As := [_, _]) rfl rfl dX11_cannot_129 rfl ml_X11_261 okX11_doesLack rfl (rm_ok rfl) (Nat.le_of_ble_eq_true rfl) (Nat.le_of_ble_eq_true rfl) rfl rfl ?_
      refine ctX11_doesLack h (fun r5 M3 t4 h => ?_)
      refine tj_if_ne (tgt := 150) rfl rfl dX11_cannot_132 (fun hc => ?_) (fun hc => ?_)
      · rw [if_neg hc] at h
        exact tj_pick (l' := [(0, _), (1, _), (3, _), (4, _), (5, _), (6, _)]) [0, 1, 3, 4, 5, 6] rfl (bX11_cannot_150 hp ih h)
      · rw [if_pos hc] at h
        refine tj_aload_n rfl dX11_cannot_135 rfl ?_
        refine tj_iconst (v := 1) rfl dX11_cannot_136 (by decide) ?_
        refine tj_aload_n rfl dX11_cannot_137 rfl ?_
        refine gf11_twin (a := 81) rfl rfl dX11_cannot_138 fl_X11_29 ?_
        refine tj_iload rfl dX11_cannot_141 rfl ?_
        obtain ⟨hi6, h⟩ := h
        refine af_iald (a := 88) rfl rfl dX11_cannot_143 hi6 ?_
        refine cf_V11 (a := 81) (z := kX11_doesLack) (As := [_, _]) rfl rfl dX11_cannot_144 rfl ml_X11_261 okX11_doesLack rfl (rm_ok rfl) (Nat.le_of_ble_eq_true rfl) (Nat.le_of_ble_eq_true rfl) rfl rfl ?_
        refine ctX11_doesLack h (fun r9 M7 t8 h => ?_)
        refine tj_if_eq (tgt := 157) rfl rfl dX11_cannot_147 (fun hc => ?_) (fun hc => ?_)
        · rw [if_pos hc] at h
          refine tj_iconst (v := 0) rfl dX11_cannot_157 (by decide) ?_
          exact tj_pick (l' := [(0, _), (1, _), (3, _), (4, _), (5, _), (6, _)]) [0, 1, 3, 4, 5, 6] rfl (bX11_cannot_158 hp ih h)
        · rw [if_neg hc] at h
          exact tj_pick (l' := [(0, _), (1, _), (3, _), (4, _), (5, _), (6, _)]) [0, 1, 3, 4, 5, 6] rfl (bX11_cannot_150 hp ih h)
def wX11_cannot_20 (post : Int32 → MM → Int64 → Prop) : Nat → MM → Int64 → Int32 → Int32 → Int32 → Int32 → Prop
  | 0, _, _, _, _, _, _ => False
  | n + 1, M, tl, v1, v2, v3, v4 =>
    (if 6 ≤ v4 then (∃ n9, wX11_cannot_96 post  n9 M tl v1 v2 v3 0 0) else wpX11_doesLack (fun r3 M1 t2 => (if r3 = 0 then (if v3 = (-4) then wX11_cannot_57 post (wX11_cannot_20 post n) M1 t2 v1 v2 v3 v4 else (vp_in ((6 : Int32) + v4) (al 85) ∧ (if v3 ≤ (M1 85 ((6 : Int32) + v4 : Int32).toNatClampNeg) then wX11_cannot_61 post (wX11_cannot_20 post n) M1 t2 v1 v2 v3 v4 else wX11_cannot_57 post (wX11_cannot_20 post n) M1 t2 v1 v2 v3 v4))) else wX11_cannot_61 post (wX11_cannot_20 post n) M1 t2 v1 v2 v3 v4)) M tl 1 v4)
set_option maxHeartbeats 4000000 in
set_option maxRecDepth 20000 in
theorem bX11_cannot_20 {E : EV} {ad : Nat → Nat} {Φ : Option Value → va_W → Prop} {post : Int32 → MM → Int64 → Prop}  (hp : ∀ r M tl, post r M tl → Φ (some (.int r)) (WM E ad M tl)) : ∀ (n : Nat) (M : MM) (tl : Int64) (v1 : Int32) (v2 : Int32) (v3 : Int32) (v4 : Int32), wX11_cannot_20 post n M tl v1 v2 v3 v4 → T E kX11_cannot 0 0 (WM E ad M tl) 20 [(0, .ref (ad (81))), (1, .int v1), (2, .int v2), (3, .int v3), (4, .int v4)] [] Φ := by
  intro n
  induction n with
  | zero => intro M tl v1 v2 v3 v4 h; exact False.elim h
  | succ n ih =>
    intro M tl v1 v2 v3 v4 h
    unfold wX11_cannot_20 at h
    refine tj_iload rfl dX11_cannot_20 rfl ?_
    refine tj_bipush (v := 6) rfl dX11_cannot_22 (by decide) ?_
    refine tj_icmp_ge (tgt := 90) rfl rfl dX11_cannot_24 (fun hc => ?_) (fun hc => ?_)
    · rw [if_pos hc] at h
      refine tj_iconst (v := 0) rfl dX11_cannot_90 (by decide) ?_
      refine tj_istore (l' := [(0, _), (1, _), (2, _), (3, _), (4, _)]) rfl dX11_cannot_91 (by decide) rfl ?_
      refine tj_iconst (v := 0) rfl dX11_cannot_93 (by decide) ?_
      refine tj_istore (l' := [(0, _), (1, _), (2, _), (3, _), (4, _), (5, _)]) rfl dX11_cannot_94 (by decide) rfl ?_
      obtain ⟨n9, h⟩ := h
      exact bX11_cannot_96 hp  n9 _ _ _ _ _ _ _ h
    · rw [if_neg hc] at h
      refine tj_aload_n rfl dX11_cannot_27 rfl ?_
      refine tj_iconst (v := 1) rfl dX11_cannot_28 (by decide) ?_
      refine tj_iload rfl dX11_cannot_29 rfl ?_
      refine cf_V11 (a := 81) (z := kX11_doesLack) (As := [_, _]) rfl rfl dX11_cannot_31 rfl ml_X11_261 okX11_doesLack rfl (rm_ok rfl) (Nat.le_of_ble_eq_true rfl) (Nat.le_of_ble_eq_true rfl) rfl rfl ?_
      refine ctX11_doesLack h (fun r3 M1 t2 h => ?_)
      refine tj_if_ne (tgt := 61) rfl rfl dX11_cannot_34 (fun hc => ?_) (fun hc => ?_)
      · rw [if_neg hc] at h
        exact bX11_cannot_61 hp ih h
      · rw [if_pos hc] at h
        refine tj_iload_n rfl dX11_cannot_37 rfl ?_
        refine tj_bipush (v := -4) rfl dX11_cannot_38 (by decide) ?_
        refine tj_icmp_eq (tgt := 57) rfl rfl dX11_cannot_40 (fun hc => ?_) (fun hc => ?_)
        · rw [if_pos hc] at h
          exact bX11_cannot_57 hp ih h
        · rw [if_neg hc] at h
          refine tj_aload_n rfl dX11_cannot_43 rfl ?_
          refine gf11_cost (a := 81) rfl rfl dX11_cannot_44 fl_X11_20 ?_
          refine tj_bipush (v := 6) rfl dX11_cannot_47 (by decide) ?_
          refine tj_iload rfl dX11_cannot_49 rfl ?_
          refine tj_iadd rfl dX11_cannot_51 ?_
          obtain ⟨hi4, h⟩ := h
          refine af_iald (a := 85) rfl rfl dX11_cannot_52 hi4 ?_
          refine tj_iload_n rfl dX11_cannot_53 rfl ?_
          refine tj_icmp_ge (tgt := 61) rfl rfl dX11_cannot_54 (fun hc => ?_) (fun hc => ?_)
          · rw [if_pos hc] at h
            exact bX11_cannot_61 hp ih h
          · rw [if_neg hc] at h
            exact bX11_cannot_57 hp ih h
def wpX11_cannot (post : Int32 → MM → Int64 → Prop) (M : MM) (tl : Int64) (v1 : Int32) : Prop :=
  wpX11_in (fun r3 M1 t2 => (if r3 = 0 then post (-1) M1 t2 else (∃ n9, wX11_cannot_20 post  n9 M1 t2 v1 0 (-4) 1))) M tl ((v1 : Int32).toInt64) 0 1
set_option maxHeartbeats 4000000 in
set_option maxRecDepth 20000 in
theorem ctX11_cannot {E : EV} {ad : Nat → Nat} {M : MM} {tl : Int64} {Φ : Option Value → va_W → Prop} {post : Int32 → MM → Int64 → Prop} {v1 : Int32} (h : wpX11_cannot post M tl v1) (hp : ∀ r M tl, post r M tl → Φ (some (.int r)) (WM E ad M tl)) : Tm E kX11_cannot (WM E ad M tl) [.ref (ad (81)), .int v1] Φ := by
  unfold wpX11_cannot at h
  show T E kX11_cannot 0 0 (WM E ad M tl) 0 [(0, .ref (ad (81))), (1, .int v1)] [] Φ
  refine tj_iload_n rfl dX11_cannot_0 rfl ?_
  refine tj_i2l rfl dX11_cannot_1 ?_
  refine tj_lconst (v := 0) rfl dX11_cannot_2 (by decide) ?_
  refine tj_lconst (v := 1) rfl dX11_cannot_3 (by decide) ?_
  refine cf_S (z := kX11_in) (As := [_, _, _]) rfl dX11_cannot_4 rfl ml_X11_146 okX11_in rfl (rm_ok rfl) (Nat.le_of_ble_eq_true rfl) (Nat.le_of_ble_eq_true rfl) rfl ?_
  refine ctX11_in h (fun r3 M1 t2 h => ?_)
  refine tj_if_ne (tgt := 12) rfl rfl dX11_cannot_7 (fun hc => ?_) (fun hc => ?_)
  · rw [if_neg hc] at h
    refine tj_iconst (v := 0) rfl dX11_cannot_12 (by decide) ?_
    refine tj_istore_n (l' := [(0, _), (1, _), (2, _)]) rfl dX11_cannot_13 (by decide) rfl ?_
    refine tj_bipush (v := -4) rfl dX11_cannot_14 (by decide) ?_
    refine tj_istore_n (l' := [(0, _), (1, _), (2, _), (3, _)]) rfl dX11_cannot_16 (by decide) rfl ?_
    refine tj_iconst (v := 1) rfl dX11_cannot_17 (by decide) ?_
    refine tj_istore (l' := [(0, _), (1, _), (2, _), (3, _), (4, _)]) rfl dX11_cannot_18 (by decide) rfl ?_
    obtain ⟨n9, h⟩ := h
    exact bX11_cannot_20 hp  n9 _ _ _ _ _ _ h
  · rw [if_pos hc] at h
    refine tj_iconst (v := -1) rfl dX11_cannot_10 (by decide) ?_
    exact tj_ireturn (ty := .int) dX11_cannot_11 rfl rfl (Nat.zero_le _) (Nat.zero_le _) (hp _ _ _ h)
def wX11_fire_127 (post : Int32 → MM → Int64 → Prop) (M : MM) (tl : Int64) (s0 : Int32) : Prop :=
  wpX11_flag (fun r3 M1 t2 => post r3 M1 t2) M tl s0
set_option maxHeartbeats 4000000 in
set_option maxRecDepth 20000 in
theorem bX11_fire_127 {E : EV} {ad : Nat → Nat} {M : MM} {tl : Int64} {Φ : Option Value → va_W → Prop} {post : Int32 → MM → Int64 → Prop} {s0 : Int32} (hp : ∀ r M tl, post r M tl → Φ (some (.int r)) (WM E ad M tl)) (h : wX11_fire_127 post M tl s0) : T E kX11_fire 0 0 (WM E ad M tl) 127 [] [.int s0] Φ := by
  unfold wX11_fire_127 at h
  refine cf_S (z := kX11_flag) (As := [_]) rfl dX11_fire_127 rfl ml_X11_265 okX11_flag rfl (rm_ok rfl) (Nat.le_of_ble_eq_true rfl) (Nat.le_of_ble_eq_true rfl) rfl ?_
  refine ctX11_flag h (fun r3 M1 t2 h => ?_)
  refine tj_goto (tgt := 147) rfl dX11_fire_130 ?_
  exact tj_ireturn (ty := .int) dX11_fire_147 rfl rfl (Nat.zero_le _) (Nat.zero_le _) (hp _ _ _ h)
def wX11_fire_108 (post : Int32 → MM → Int64 → Prop) (M : MM) (tl : Int64) (v3 : Int32) (v6 : Int32) (s0 : Int32) (s1 : Int32) : Prop :=
  (if v3 = 0 then (if (s0 + s1) < v6 then wX11_fire_127 post  M tl 0 else wX11_fire_127 post  M tl 1) else (if (s0 + s1) < v6 then post (s0 + s1) M tl else post v6 M tl))
set_option maxHeartbeats 4000000 in
set_option maxRecDepth 20000 in
theorem bX11_fire_108 {E : EV} {ad : Nat → Nat} {M : MM} {tl : Int64} {Φ : Option Value → va_W → Prop} {post : Int32 → MM → Int64 → Prop} {v3 : Int32} {v6 : Int32} {s0 : Int32} {s1 : Int32} (hp : ∀ r M tl, post r M tl → Φ (some (.int r)) (WM E ad M tl)) (h : wX11_fire_108 post M tl v3 v6 s0 s1) : T E kX11_fire 0 0 (WM E ad M tl) 108 [(3, .int v3), (6, .int v6)] [.int s1, .int s0] Φ := by
  unfold wX11_fire_108 at h
  refine tj_iadd rfl dX11_fire_108 ?_
  refine tj_istore (l' := [(3, _), (6, _), (7, _)]) rfl dX11_fire_109 (by decide) rfl ?_
  refine tj_iload_n rfl dX11_fire_111 rfl ?_
  refine tj_if_ne (tgt := 133) rfl rfl dX11_fire_112 (fun hc => ?_) (fun hc => ?_)
  · rw [if_neg hc] at h
    refine tj_iload rfl dX11_fire_133 rfl ?_
    refine tj_iload rfl dX11_fire_135 rfl ?_
    refine tj_icmp_gt (tgt := 145) rfl rfl dX11_fire_137 (fun hc => ?_) (fun hc => ?_)
    · rw [if_pos hc] at h
      refine tj_iload rfl dX11_fire_145 rfl ?_
      exact tj_ireturn (ty := .int) dX11_fire_147 rfl rfl (Nat.zero_le _) (Nat.zero_le _) (hp _ _ _ h)
    · rw [if_neg hc] at h
      refine tj_iload rfl dX11_fire_140 rfl ?_
      refine tj_goto (tgt := 147) rfl dX11_fire_142 ?_
      exact tj_ireturn (ty := .int) dX11_fire_147 rfl rfl (Nat.zero_le _) (Nat.zero_le _) (hp _ _ _ h)
  · rw [if_pos hc] at h
    refine tj_iload rfl dX11_fire_115 rfl ?_
    refine tj_iload rfl dX11_fire_117 rfl ?_
    refine tj_icmp_gt (tgt := 126) rfl rfl dX11_fire_119 (fun hc => ?_) (fun hc => ?_)
    · rw [if_pos hc] at h
      refine tj_iconst (v := 0) rfl dX11_fire_126 (by decide) ?_
      exact tj_pick (l' := []) [] rfl (bX11_fire_127 hp  h)
    · rw [if_neg hc] at h
      refine tj_iconst (v := 1) rfl dX11_fire_122 (by decide) ?_
      refine tj_goto (tgt := 127) rfl dX11_fire_123 ?_
      exact tj_pick (l' := []) [] rfl (bX11_fire_127 hp  h)
def wpX11_fire (post : Int32 → MM → Int64 → Prop) (M : MM) (tl : Int64) (v1 : Int32) (v2 : Int32) (v3 : Int32) : Prop :=
  wpX11_isLot (fun r3 M1 t2 => (if r3 = 0 then post (-1) M1 t2 else wpX11_in (fun r6 M4 t5 => (if r6 = 0 then post (-1) M4 t5 else wpX11_kindThere (fun r9 M7 t8 => (if r9 = 0 then post (-2) M7 t8 else wpX11_matchOf (fun r12 M10 t11 => (vp_in (((6 : Int32) * v1) + r9) (al 85) ∧ (vp_in (((6 : Int32) * v1) + r9) (al 86) ∧ (if r12 = (-4) then wX11_fire_108 post  M10 t11 v3 (M10 85 (((6 : Int32) * v1) + r9 : Int32).toNatClampNeg) (M10 86 (((6 : Int32) * v1) + r9 : Int32).toNatClampNeg) 0 else wpX11_kindThere (fun r17 M15 t16 => (vp_in (((6 : Int32) * ((1 : Int32) - v1)) + r17) (al 86) ∧ wX11_fire_108 post  M15 t16 v3 (M10 85 (((6 : Int32) * v1) + r9 : Int32).toNatClampNeg) (M10 86 (((6 : Int32) * v1) + r9 : Int32).toNatClampNeg) ((M10 81 4) + (M15 86 (((6 : Int32) * ((1 : Int32) - v1)) + r17 : Int32).toNatClampNeg)))) M10 t11 ((1 : Int32) - v1) r12)))) M7 t8 v1 v2)) M4 t5 v1 v2)) M1 t2 ((v3 : Int32).toInt64) 0 1)) M tl v1 v2
set_option maxHeartbeats 4000000 in
set_option maxRecDepth 20000 in
theorem ctX11_fire {E : EV} {ad : Nat → Nat} {M : MM} {tl : Int64} {Φ : Option Value → va_W → Prop} {post : Int32 → MM → Int64 → Prop} {v1 : Int32} {v2 : Int32} {v3 : Int32} (h : wpX11_fire post M tl v1 v2 v3) (hp : ∀ r M tl, post r M tl → Φ (some (.int r)) (WM E ad M tl)) : Tm E kX11_fire (WM E ad M tl) [.ref (ad (81)), .int v1, .int v2, .int v3] Φ := by
  unfold wpX11_fire at h
  show T E kX11_fire 0 0 (WM E ad M tl) 0 [(0, .ref (ad (81))), (1, .int v1), (2, .int v2), (3, .int v3)] [] Φ
  refine tj_aload_n rfl dX11_fire_0 rfl ?_
  refine tj_iload_n rfl dX11_fire_1 rfl ?_
  refine tj_iload_n rfl dX11_fire_2 rfl ?_
  refine cf_V11 (a := 81) (z := kX11_isLot) (As := [_, _]) rfl rfl dX11_fire_3 rfl ml_X11_282 okX11_isLot rfl (rm_ok rfl) (Nat.le_of_ble_eq_true rfl) (Nat.le_of_ble_eq_true rfl) rfl rfl ?_
  refine ctX11_isLot h (fun r3 M1 t2 h => ?_)
  refine tj_if_eq (tgt := 19) rfl rfl dX11_fire_6 (fun hc => ?_) (fun hc => ?_)
  · rw [if_pos hc] at h
    refine tj_iconst (v := -1) rfl dX11_fire_19 (by decide) ?_
    exact tj_ireturn (ty := .int) dX11_fire_20 rfl rfl (Nat.zero_le _) (Nat.zero_le _) (hp _ _ _ h)
  · rw [if_neg hc] at h
    refine tj_iload_n rfl dX11_fire_9 rfl ?_
    refine tj_i2l rfl dX11_fire_10 ?_
    refine tj_lconst (v := 0) rfl dX11_fire_11 (by decide) ?_
    refine tj_lconst (v := 1) rfl dX11_fire_12 (by decide) ?_
    refine cf_S (z := kX11_in) (As := [_, _, _]) rfl dX11_fire_13 rfl ml_X11_146 okX11_in rfl (rm_ok rfl) (Nat.le_of_ble_eq_true rfl) (Nat.le_of_ble_eq_true rfl) rfl ?_
    refine ctX11_in h (fun r6 M4 t5 h => ?_)
    refine tj_if_ne (tgt := 21) rfl rfl dX11_fire_16 (fun hc => ?_) (fun hc => ?_)
    · rw [if_neg hc] at h
      refine tj_aload_n rfl dX11_fire_21 rfl ?_
      refine tj_iload_n rfl dX11_fire_22 rfl ?_
      refine tj_iload_n rfl dX11_fire_23 rfl ?_
      refine cf_V11 (a := 81) (z := kX11_kindThere) (As := [_, _]) rfl rfl dX11_fire_24 rfl ml_X11_320 okX11_kindThere rfl (rm_ok rfl) (Nat.le_of_ble_eq_true rfl) (Nat.le_of_ble_eq_true rfl) rfl rfl ?_
      refine ctX11_kindThere h (fun r9 M7 t8 h => ?_)
      refine tj_istore (l' := [(0, _), (1, _), (2, _), (3, _), (4, _)]) rfl dX11_fire_27 (by decide) rfl ?_
      refine tj_iload rfl dX11_fire_29 rfl ?_
      refine tj_if_ne (tgt := 37) rfl rfl dX11_fire_31 (fun hc => ?_) (fun hc => ?_)
      · rw [if_neg hc] at h
        refine tj_aload_n rfl dX11_fire_37 rfl ?_
        refine tj_iload_n rfl dX11_fire_38 rfl ?_
        refine tj_iload_n rfl dX11_fire_39 rfl ?_
        refine cf_V11 (a := 81) (z := kX11_matchOf) (As := [_, _]) rfl rfl dX11_fire_40 rfl ml_X11_289 okX11_matchOf rfl (rm_ok rfl) (Nat.le_of_ble_eq_true rfl) (Nat.le_of_ble_eq_true rfl) rfl rfl ?_
        refine ctX11_matchOf h (fun r12 M10 t11 h => ?_)
        refine tj_istore (l' := [(0, _), (1, _), (2, _), (3, _), (4, _), (5, _)]) rfl dX11_fire_43 (by decide) rfl ?_
        refine tj_aload_n rfl dX11_fire_45 rfl ?_
        refine gf11_cost (a := 81) rfl rfl dX11_fire_46 fl_X11_20 ?_
        refine tj_bipush (v := 6) rfl dX11_fire_49 (by decide) ?_
        refine tj_iload_n rfl dX11_fire_51 rfl ?_
        refine tj_imul rfl dX11_fire_52 ?_
        refine tj_iload rfl dX11_fire_53 rfl ?_
        refine tj_iadd rfl dX11_fire_55 ?_
        obtain ⟨hi13, h⟩ := h
        refine af_iald (a := 85) rfl rfl dX11_fire_56 hi13 ?_
        refine tj_istore (l' := [(0, _), (1, _), (2, _), (3, _), (4, _), (5, _), (6, _)]) rfl dX11_fire_57 (by decide) rfl ?_
        refine tj_aload_n rfl dX11_fire_59 rfl ?_
        refine gf11_taste (a := 81) rfl rfl dX11_fire_60 fl_X11_23 ?_
        refine tj_bipush (v := 6) rfl dX11_fire_63 (by decide) ?_
        refine tj_iload_n rfl dX11_fire_65 rfl ?_
        refine tj_imul rfl dX11_fire_66 ?_
        refine tj_iload rfl dX11_fire_67 rfl ?_
        refine tj_iadd rfl dX11_fire_69 ?_
        obtain ⟨hi14, h⟩ := h
        refine af_iald (a := 86) rfl rfl dX11_fire_70 hi14 ?_
        refine tj_iload rfl dX11_fire_71 rfl ?_
        refine tj_bipush (v := -4) rfl dX11_fire_73 (by decide) ?_
        refine tj_icmp_ne (tgt := 82) rfl rfl dX11_fire_75 (fun hc => ?_) (fun hc => ?_)
        · rw [if_neg hc] at h
          refine tj_aload_n rfl dX11_fire_82 rfl ?_
          refine gf11_pull (a := 81) rfl rfl dX11_fire_83 fl_X11_135 ?_
          refine tj_aload_n rfl dX11_fire_86 rfl ?_
          refine gf11_taste (a := 81) rfl rfl dX11_fire_87 fl_X11_23 ?_
          refine tj_bipush (v := 6) rfl dX11_fire_90 (by decide) ?_
          refine tj_iconst (v := 1) rfl dX11_fire_92 (by decide) ?_
          refine tj_iload_n rfl dX11_fire_93 rfl ?_
          refine tj_isub rfl dX11_fire_94 ?_
          refine tj_imul rfl dX11_fire_95 ?_
          refine tj_aload_n rfl dX11_fire_96 rfl ?_
          refine tj_iconst (v := 1) rfl dX11_fire_97 (by decide) ?_
          refine tj_iload_n rfl dX11_fire_98 rfl ?_
          refine tj_isub rfl dX11_fire_99 ?_
          refine tj_iload rfl dX11_fire_100 rfl ?_
          refine cf_V11 (a := 81) (z := kX11_kindThere) (As := [_, _]) rfl rfl dX11_fire_102 rfl ml_X11_320 okX11_kindThere rfl (rm_ok rfl) (Nat.le_of_ble_eq_true rfl) (Nat.le_of_ble_eq_true rfl) rfl rfl ?_
          refine ctX11_kindThere h (fun r17 M15 t16 h => ?_)
          refine tj_iadd rfl dX11_fire_105 ?_
          obtain ⟨hi18, h⟩ := h
          refine af_iald (a := 86) rfl rfl dX11_fire_106 hi18 ?_
          refine tj_iadd rfl dX11_fire_107 ?_
          exact tj_pick (l' := [(3, _), (6, _)]) [3, 6] rfl (bX11_fire_108 hp  h)
        · rw [if_pos hc] at h
          refine tj_iconst (v := 0) rfl dX11_fire_78 (by decide) ?_
          refine tj_goto (tgt := 108) rfl dX11_fire_79 ?_
          exact tj_pick (l' := [(3, _), (6, _)]) [3, 6] rfl (bX11_fire_108 hp  h)
      · rw [if_pos hc] at h
        refine tj_bipush (v := -2) rfl dX11_fire_34 (by decide) ?_
        exact tj_ireturn (ty := .int) dX11_fire_36 rfl rfl (Nat.zero_le _) (Nat.zero_le _) (hp _ _ _ h)
    · rw [if_pos hc] at h
      refine tj_iconst (v := -1) rfl dX11_fire_19 (by decide) ?_
      exact tj_ireturn (ty := .int) dX11_fire_20 rfl rfl (Nat.zero_le _) (Nat.zero_le _) (hp _ _ _ h)
def wX11_quarrelOf_119 (post : Int32 → MM → Int64 → Prop) (bk4 : MM → Int64 → Int32 → Int32 → Int32 → Prop) (M : MM) (tl : Int64) (v1 : Int32) (v3 : Int32) (s0 : Int32) (s1 : Int32) : Prop :=
  bk4 M tl v1 (s0 + s1) (v3 + 1)
set_option maxHeartbeats 4000000 in
set_option maxRecDepth 20000 in
theorem bX11_quarrelOf_119 {E : EV} {ad : Nat → Nat} {M : MM} {tl : Int64} {Φ : Option Value → va_W → Prop} {post : Int32 → MM → Int64 → Prop} {bk4 : MM → Int64 → Int32 → Int32 → Int32 → Prop} {v1 : Int32} {v3 : Int32} {s0 : Int32} {s1 : Int32} (hp : ∀ r M tl, post r M tl → Φ (some (.int r)) (WM E ad M tl)) (hb4 : ∀ (M : MM) (tl : Int64) (v1 : Int32) (v2 : Int32) (v3 : Int32), bk4 M tl v1 v2 v3 → T E kX11_quarrelOf 0 0 (WM E ad M tl) 4 [(0, .ref (ad (81))), (1, .int v1), (2, .int v2), (3, .int v3)] [] Φ) (h : wX11_quarrelOf_119 post bk4 M tl v1 v3 s0 s1) : T E kX11_quarrelOf 0 0 (WM E ad M tl) 119 [(0, .ref (ad (81))), (1, .int v1), (3, .int v3)] [.int s1, .int s0] Φ := by
  unfold wX11_quarrelOf_119 at h
  refine tj_iadd rfl dX11_quarrelOf_119 ?_
  refine tj_istore_n (l' := [(0, _), (1, _), (2, _), (3, _)]) rfl dX11_quarrelOf_120 (by decide) rfl ?_
  refine tj_iinc (v := _ + 1) (l' := [(0, _), (1, _), (2, _), (3, _)]) rfl dX11_quarrelOf_121 rfl (by decide) rfl rfl ?_
  refine tj_goto (tgt := 4) rfl dX11_quarrelOf_124 ?_
  exact hb4 _ _ _ _ _ h
def wX11_quarrelOf_112 (post : Int32 → MM → Int64 → Prop) (bk4 : MM → Int64 → Int32 → Int32 → Int32 → Prop) (M : MM) (tl : Int64) (v1 : Int32) (v3 : Int32) (s0 : Int32) (s1 : Int32) : Prop :=
  wpX11_flag (fun r3 M1 t2 => wX11_quarrelOf_119 post bk4 M1 t2 v1 v3 s0 r3) M tl s1
set_option maxHeartbeats 4000000 in
set_option maxRecDepth 20000 in
theorem bX11_quarrelOf_112 {E : EV} {ad : Nat → Nat} {M : MM} {tl : Int64} {Φ : Option Value → va_W → Prop} {post : Int32 → MM → Int64 → Prop} {bk4 : MM → Int64 → Int32 → Int32 → Int32 → Prop} {v1 : Int32} {v3 : Int32} {s0 : Int32} {s1 : Int32} (hp : ∀ r M tl, post r M tl → Φ (some (.int r)) (WM E ad M tl)) (hb4 : ∀ (M : MM) (tl : Int64) (v1 : Int32) (v2 : Int32) (v3 : Int32), bk4 M tl v1 v2 v3 → T E kX11_quarrelOf 0 0 (WM E ad M tl) 4 [(0, .ref (ad (81))), (1, .int v1), (2, .int v2), (3, .int v3)] [] Φ) (h : wX11_quarrelOf_112 post bk4 M tl v1 v3 s0 s1) : T E kX11_quarrelOf 0 0 (WM E ad M tl) 112 [(0, .ref (ad (81))), (1, .int v1), (3, .int v3)] [.int s1, .int s0] Φ := by
  unfold wX11_quarrelOf_112 at h
  refine cf_S (z := kX11_flag) (As := [_]) rfl dX11_quarrelOf_112 rfl ml_X11_265 okX11_flag rfl (rm_ok rfl) (Nat.le_of_ble_eq_true rfl) (Nat.le_of_ble_eq_true rfl) rfl ?_
  refine ctX11_flag h (fun r3 M1 t2 h => ?_)
  refine tj_goto (tgt := 119) rfl dX11_quarrelOf_115 ?_
  exact bX11_quarrelOf_119 hp hb4 h
def wX11_quarrelOf_80 (post : Int32 → MM → Int64 → Prop) (bk4 : MM → Int64 → Int32 → Int32 → Int32 → Prop) (M : MM) (tl : Int64) (v1 : Int32) (v3 : Int32) (s0 : Int32) (s1 : Int32) : Prop :=
  wpX11_matchBy (fun r3 M1 t2 => (if r3 = (-4) then (vp_in ((8 : Int32) + v3) (al 82) ∧ (if (M1 82 ((8 : Int32) + v3 : Int32).toNatClampNeg) = 0 then wX11_quarrelOf_112 post bk4 M1 t2 v1 v3 (s0 + s1) 0 else wX11_quarrelOf_112 post bk4 M1 t2 v1 v3 (s0 + s1) 1)) else wX11_quarrelOf_119 post bk4 M1 t2 v1 v3 (s0 + s1) 0)) M tl v1 1 v3
set_option maxHeartbeats 4000000 in
set_option maxRecDepth 20000 in
theorem bX11_quarrelOf_80 {E : EV} {ad : Nat → Nat} {M : MM} {tl : Int64} {Φ : Option Value → va_W → Prop} {post : Int32 → MM → Int64 → Prop} {bk4 : MM → Int64 → Int32 → Int32 → Int32 → Prop} {v1 : Int32} {v3 : Int32} {s0 : Int32} {s1 : Int32} (hp : ∀ r M tl, post r M tl → Φ (some (.int r)) (WM E ad M tl)) (hb4 : ∀ (M : MM) (tl : Int64) (v1 : Int32) (v2 : Int32) (v3 : Int32), bk4 M tl v1 v2 v3 → T E kX11_quarrelOf 0 0 (WM E ad M tl) 4 [(0, .ref (ad (81))), (1, .int v1), (2, .int v2), (3, .int v3)] [] Φ) (h : wX11_quarrelOf_80 post bk4 M tl v1 v3 s0 s1) : T E kX11_quarrelOf 0 0 (WM E ad M tl) 80 [(0, .ref (ad (81))), (1, .int v1), (3, .int v3)] [.int s1, .int s0] Φ := by
  unfold wX11_quarrelOf_80 at h
  refine tj_iadd rfl dX11_quarrelOf_80 ?_
  refine tj_istore_n (l' := [(0, _), (1, _), (2, _), (3, _)]) rfl dX11_quarrelOf_81 (by decide) rfl ?_
  refine tj_iload_n rfl dX11_quarrelOf_82 rfl ?_
  refine tj_aload_n rfl dX11_quarrelOf_83 rfl ?_
  refine tj_iload_n rfl dX11_quarrelOf_84 rfl ?_
  refine tj_iconst (v := 1) rfl dX11_quarrelOf_85 (by decide) ?_
  refine tj_iload_n rfl dX11_quarrelOf_86 rfl ?_
  refine cf_V11 (a := 81) (z := kX11_matchBy) (As := [_, _, _]) rfl rfl dX11_quarrelOf_87 rfl ml_X11_285 okX11_matchBy rfl (rm_ok rfl) (Nat.le_of_ble_eq_true rfl) (Nat.le_of_ble_eq_true rfl) rfl rfl ?_
  refine ctX11_matchBy h (fun r3 M1 t2 h => ?_)
  refine tj_bipush (v := -4) rfl dX11_quarrelOf_90 (by decide) ?_
  refine tj_icmp_ne (tgt := 118) rfl rfl dX11_quarrelOf_92 (fun hc => ?_) (fun hc => ?_)
  · rw [if_neg hc] at h
    refine tj_iconst (v := 0) rfl dX11_quarrelOf_118 (by decide) ?_
    exact tj_pick (l' := [(0, _), (1, _), (3, _)]) [0, 1, 3] rfl (bX11_quarrelOf_119 hp hb4 h)
  · rw [if_pos hc] at h
    refine tj_aload_n rfl dX11_quarrelOf_95 rfl ?_
    refine gf11_st (a := 81) rfl rfl dX11_quarrelOf_96 fl_X11_7 ?_
    refine tj_bipush (v := 8) rfl dX11_quarrelOf_99 (by decide) ?_
    refine tj_iload_n rfl dX11_quarrelOf_101 rfl ?_
    refine tj_iadd rfl dX11_quarrelOf_102 ?_
    obtain ⟨hi4, h⟩ := h
    refine af_iald (a := 82) rfl rfl dX11_quarrelOf_103 hi4 ?_
    refine tj_if_eq (tgt := 111) rfl rfl dX11_quarrelOf_104 (fun hc => ?_) (fun hc => ?_)
    · rw [if_pos hc] at h
      refine tj_iconst (v := 0) rfl dX11_quarrelOf_111 (by decide) ?_
      exact tj_pick (l' := [(0, _), (1, _), (3, _)]) [0, 1, 3] rfl (bX11_quarrelOf_112 hp hb4 h)
    · rw [if_neg hc] at h
      refine tj_iconst (v := 1) rfl dX11_quarrelOf_107 (by decide) ?_
      refine tj_goto (tgt := 112) rfl dX11_quarrelOf_108 ?_
      exact tj_pick (l' := [(0, _), (1, _), (3, _)]) [0, 1, 3] rfl (bX11_quarrelOf_112 hp hb4 h)
def wX11_quarrelOf_43 (post : Int32 → MM → Int64 → Prop) (bk4 : MM → Int64 → Int32 → Int32 → Int32 → Prop) (M : MM) (tl : Int64) (v1 : Int32) (v3 : Int32) (s0 : Int32) (s1 : Int32) : Prop :=
  wpX11_flag (fun r3 M1 t2 => wX11_quarrelOf_80 post bk4 M1 t2 v1 v3 s0 r3) M tl s1
set_option maxHeartbeats 4000000 in
set_option maxRecDepth 20000 in
theorem bX11_quarrelOf_43 {E : EV} {ad : Nat → Nat} {M : MM} {tl : Int64} {Φ : Option Value → va_W → Prop} {post : Int32 → MM → Int64 → Prop} {bk4 : MM → Int64 → Int32 → Int32 → Int32 → Prop} {v1 : Int32} {v3 : Int32} {s0 : Int32} {s1 : Int32} (hp : ∀ r M tl, post r M tl → Φ (some (.int r)) (WM E ad M tl)) (hb4 : ∀ (M : MM) (tl : Int64) (v1 : Int32) (v2 : Int32) (v3 : Int32), bk4 M tl v1 v2 v3 → T E kX11_quarrelOf 0 0 (WM E ad M tl) 4 [(0, .ref (ad (81))), (1, .int v1), (2, .int v2), (3, .int v3)] [] Φ) (h : wX11_quarrelOf_43 post bk4 M tl v1 v3 s0 s1) : T E kX11_quarrelOf 0 0 (WM E ad M tl) 43 [(0, .ref (ad (81))), (1, .int v1), (3, .int v3)] [.int s1, .int s0] Φ := by
  unfold wX11_quarrelOf_43 at h
  refine cf_S (z := kX11_flag) (As := [_]) rfl dX11_quarrelOf_43 rfl ml_X11_265 okX11_flag rfl (rm_ok rfl) (Nat.le_of_ble_eq_true rfl) (Nat.le_of_ble_eq_true rfl) rfl ?_
  refine ctX11_flag h (fun r3 M1 t2 h => ?_)
  refine tj_goto (tgt := 80) rfl dX11_quarrelOf_46 ?_
  exact bX11_quarrelOf_80 hp hb4 h
def wX11_quarrelOf_77 (post : Int32 → MM → Int64 → Prop) (bk4 : MM → Int64 → Int32 → Int32 → Int32 → Prop) (M : MM) (tl : Int64) (v1 : Int32) (v3 : Int32) (s0 : Int32) (s1 : Int32) : Prop :=
  wpX11_flag (fun r3 M1 t2 => wX11_quarrelOf_80 post bk4 M1 t2 v1 v3 s0 r3) M tl s1
set_option maxHeartbeats 4000000 in
set_option maxRecDepth 20000 in
theorem bX11_quarrelOf_77 {E : EV} {ad : Nat → Nat} {M : MM} {tl : Int64} {Φ : Option Value → va_W → Prop} {post : Int32 → MM → Int64 → Prop} {bk4 : MM → Int64 → Int32 → Int32 → Int32 → Prop} {v1 : Int32} {v3 : Int32} {s0 : Int32} {s1 : Int32} (hp : ∀ r M tl, post r M tl → Φ (some (.int r)) (WM E ad M tl)) (hb4 : ∀ (M : MM) (tl : Int64) (v1 : Int32) (v2 : Int32) (v3 : Int32), bk4 M tl v1 v2 v3 → T E kX11_quarrelOf 0 0 (WM E ad M tl) 4 [(0, .ref (ad (81))), (1, .int v1), (2, .int v2), (3, .int v3)] [] Φ) (h : wX11_quarrelOf_77 post bk4 M tl v1 v3 s0 s1) : T E kX11_quarrelOf 0 0 (WM E ad M tl) 77 [(0, .ref (ad (81))), (1, .int v1), (3, .int v3)] [.int s1, .int s0] Φ := by
  unfold wX11_quarrelOf_77 at h
  refine cf_S (z := kX11_flag) (As := [_]) rfl dX11_quarrelOf_77 rfl ml_X11_265 okX11_flag rfl (rm_ok rfl) (Nat.le_of_ble_eq_true rfl) (Nat.le_of_ble_eq_true rfl) rfl ?_
  refine ctX11_flag h (fun r3 M1 t2 h => ?_)
  exact bX11_quarrelOf_80 hp hb4 h
def wX11_quarrelOf_4 (post : Int32 → MM → Int64 → Prop) : Nat → MM → Int64 → Int32 → Int32 → Int32 → Prop
  | 0, _, _, _, _, _ => False
  | n + 1, M, tl, v1, v2, v3 =>
    (if (M 81 2) ≤ v3 then post v2 M tl else wpX11_matchBy (fun r3 M1 t2 => (if r3 = (-4) then (vp_in v3 (al 82) ∧ (if (M1 82 (v3 : Int32).toNatClampNeg) = 0 then wX11_quarrelOf_43 post (wX11_quarrelOf_4 post n) M1 t2 v1 v3 v2 0 else wX11_quarrelOf_43 post (wX11_quarrelOf_4 post n) M1 t2 v1 v3 v2 1)) else (vp_in ((8 : Int32) + r3) (al 82) ∧ (vp_in v3 (al 82) ∧ wpX11_mirrorOf (fun r8 M6 t7 => (if (M1 82 ((8 : Int32) + r3 : Int32).toNatClampNeg) = r8 then wX11_quarrelOf_77 post (wX11_quarrelOf_4 post n) M6 t7 v1 v3 v2 0 else wX11_quarrelOf_77 post (wX11_quarrelOf_4 post n) M6 t7 v1 v3 v2 1)) M1 t2 (M1 82 (v3 : Int32).toNatClampNeg))))) M tl v1 0 v3)
set_option maxHeartbeats 4000000 in
set_option maxRecDepth 20000 in
theorem bX11_quarrelOf_4 {E : EV} {ad : Nat → Nat} {Φ : Option Value → va_W → Prop} {post : Int32 → MM → Int64 → Prop}  (hp : ∀ r M tl, post r M tl → Φ (some (.int r)) (WM E ad M tl)) : ∀ (n : Nat) (M : MM) (tl : Int64) (v1 : Int32) (v2 : Int32) (v3 : Int32), wX11_quarrelOf_4 post n M tl v1 v2 v3 → T E kX11_quarrelOf 0 0 (WM E ad M tl) 4 [(0, .ref (ad (81))), (1, .int v1), (2, .int v2), (3, .int v3)] [] Φ := by
  intro n
  induction n with
  | zero => intro M tl v1 v2 v3 h; exact False.elim h
  | succ n ih =>
    intro M tl v1 v2 v3 h
    unfold wX11_quarrelOf_4 at h
    refine tj_iload_n rfl dX11_quarrelOf_4 rfl ?_
    refine tj_aload_n rfl dX11_quarrelOf_5 rfl ?_
    refine gf11_lots (a := 81) rfl rfl dX11_quarrelOf_6 fl_X11_129 ?_
    refine tj_icmp_ge (tgt := 127) rfl rfl dX11_quarrelOf_9 (fun hc => ?_) (fun hc => ?_)
    · rw [if_pos hc] at h
      refine tj_iload_n rfl dX11_quarrelOf_127 rfl ?_
      exact tj_ireturn (ty := .int) dX11_quarrelOf_128 rfl rfl (Nat.zero_le _) (Nat.zero_le _) (hp _ _ _ h)
    · rw [if_neg hc] at h
      refine tj_aload_n rfl dX11_quarrelOf_12 rfl ?_
      refine tj_iload_n rfl dX11_quarrelOf_13 rfl ?_
      refine tj_iconst (v := 0) rfl dX11_quarrelOf_14 (by decide) ?_
      refine tj_iload_n rfl dX11_quarrelOf_15 rfl ?_
      refine cf_V11 (a := 81) (z := kX11_matchBy) (As := [_, _, _]) rfl rfl dX11_quarrelOf_16 rfl ml_X11_285 okX11_matchBy rfl (rm_ok rfl) (Nat.le_of_ble_eq_true rfl) (Nat.le_of_ble_eq_true rfl) rfl rfl ?_
      refine ctX11_matchBy h (fun r3 M1 t2 h => ?_)
      refine tj_istore (l' := [(0, _), (1, _), (2, _), (3, _), (4, _)]) rfl dX11_quarrelOf_19 (by decide) rfl ?_
      refine tj_iload_n rfl dX11_quarrelOf_21 rfl ?_
      refine tj_iload rfl dX11_quarrelOf_22 rfl ?_
      refine tj_bipush (v := -4) rfl dX11_quarrelOf_24 (by decide) ?_
      refine tj_icmp_ne (tgt := 49) rfl rfl dX11_quarrelOf_26 (fun hc => ?_) (fun hc => ?_)
      · rw [if_neg hc] at h
        refine tj_aload_n rfl dX11_quarrelOf_49 rfl ?_
        refine gf11_st (a := 81) rfl rfl dX11_quarrelOf_50 fl_X11_7 ?_
        refine tj_bipush (v := 8) rfl dX11_quarrelOf_53 (by decide) ?_
        refine tj_iload rfl dX11_quarrelOf_55 rfl ?_
        refine tj_iadd rfl dX11_quarrelOf_57 ?_
        obtain ⟨hi4, h⟩ := h
        refine af_iald (a := 82) rfl rfl dX11_quarrelOf_58 hi4 ?_
        refine tj_aload_n rfl dX11_quarrelOf_59 rfl ?_
        refine tj_aload_n rfl dX11_quarrelOf_60 rfl ?_
        refine gf11_st (a := 81) rfl rfl dX11_quarrelOf_61 fl_X11_7 ?_
        refine tj_iload_n rfl dX11_quarrelOf_64 rfl ?_
        obtain ⟨hi5, h⟩ := h
        refine af_iald (a := 82) rfl rfl dX11_quarrelOf_65 hi5 ?_
        refine cf_V11 (a := 81) (z := kX11_mirrorOf) (As := [_]) rfl rfl dX11_quarrelOf_66 rfl ml_X11_276 okX11_mirrorOf rfl (rm_ok rfl) (Nat.le_of_ble_eq_true rfl) (Nat.le_of_ble_eq_true rfl) rfl rfl ?_
        refine ctX11_mirrorOf h (fun r8 M6 t7 h => ?_)
        refine tj_icmp_eq (tgt := 76) rfl rfl dX11_quarrelOf_69 (fun hc => ?_) (fun hc => ?_)
        · rw [if_pos hc] at h
          refine tj_iconst (v := 0) rfl dX11_quarrelOf_76 (by decide) ?_
          exact tj_pick (l' := [(0, _), (1, _), (3, _)]) [0, 1, 3] rfl (bX11_quarrelOf_77 hp ih h)
        · rw [if_neg hc] at h
          refine tj_iconst (v := 1) rfl dX11_quarrelOf_72 (by decide) ?_
          refine tj_goto (tgt := 77) rfl dX11_quarrelOf_73 ?_
          exact tj_pick (l' := [(0, _), (1, _), (3, _)]) [0, 1, 3] rfl (bX11_quarrelOf_77 hp ih h)
      · rw [if_pos hc] at h
        refine tj_aload_n rfl dX11_quarrelOf_29 rfl ?_
        refine gf11_st (a := 81) rfl rfl dX11_quarrelOf_30 fl_X11_7 ?_
        refine tj_iload_n rfl dX11_quarrelOf_33 rfl ?_
        obtain ⟨hi9, h⟩ := h
        refine af_iald (a := 82) rfl rfl dX11_quarrelOf_34 hi9 ?_
        refine tj_if_eq (tgt := 42) rfl rfl dX11_quarrelOf_35 (fun hc => ?_) (fun hc => ?_)
        · rw [if_pos hc] at h
          refine tj_iconst (v := 0) rfl dX11_quarrelOf_42 (by decide) ?_
          exact tj_pick (l' := [(0, _), (1, _), (3, _)]) [0, 1, 3] rfl (bX11_quarrelOf_43 hp ih h)
        · rw [if_neg hc] at h
          refine tj_iconst (v := 1) rfl dX11_quarrelOf_38 (by decide) ?_
          refine tj_goto (tgt := 43) rfl dX11_quarrelOf_39 ?_
          exact tj_pick (l' := [(0, _), (1, _), (3, _)]) [0, 1, 3] rfl (bX11_quarrelOf_43 hp ih h)
def wpX11_quarrelOf (post : Int32 → MM → Int64 → Prop) (M : MM) (tl : Int64) (v1 : Int32) : Prop :=
  (∃ n9, wX11_quarrelOf_4 post  n9 M tl v1 0 0)
set_option maxHeartbeats 4000000 in
set_option maxRecDepth 20000 in
theorem ctX11_quarrelOf {E : EV} {ad : Nat → Nat} {M : MM} {tl : Int64} {Φ : Option Value → va_W → Prop} {post : Int32 → MM → Int64 → Prop} {v1 : Int32} (h : wpX11_quarrelOf post M tl v1) (hp : ∀ r M tl, post r M tl → Φ (some (.int r)) (WM E ad M tl)) : Tm E kX11_quarrelOf (WM E ad M tl) [.ref (ad (81)), .int v1] Φ := by
  unfold wpX11_quarrelOf at h
  show T E kX11_quarrelOf 0 0 (WM E ad M tl) 0 [(0, .ref (ad (81))), (1, .int v1)] [] Φ
  refine tj_iconst (v := 0) rfl dX11_quarrelOf_0 (by decide) ?_
  refine tj_istore_n (l' := [(0, _), (1, _), (2, _)]) rfl dX11_quarrelOf_1 (by decide) rfl ?_
  refine tj_iconst (v := 0) rfl dX11_quarrelOf_2 (by decide) ?_
  refine tj_istore_n (l' := [(0, _), (1, _), (2, _), (3, _)]) rfl dX11_quarrelOf_3 (by decide) rfl ?_
  obtain ⟨n9, h⟩ := h
  exact bX11_quarrelOf_4 hp  n9 _ _ _ _ _ h
def wpX11_quarrel (post : Int32 → MM → Int64 → Prop) (M : MM) (tl : Int64) (v1 : Int32) : Prop :=
  wpX11_in (fun r3 M1 t2 => (if r3 = 0 then post (-1) M1 t2 else wpX11_quarrelOf (fun r6 M4 t5 => post r6 M4 t5) M1 t2 v1)) M tl ((v1 : Int32).toInt64) 0 6
set_option maxHeartbeats 4000000 in
set_option maxRecDepth 20000 in
theorem ctX11_quarrel {E : EV} {ad : Nat → Nat} {M : MM} {tl : Int64} {Φ : Option Value → va_W → Prop} {post : Int32 → MM → Int64 → Prop} {v1 : Int32} (h : wpX11_quarrel post M tl v1) (hp : ∀ r M tl, post r M tl → Φ (some (.int r)) (WM E ad M tl)) : Tm E kX11_quarrel (WM E ad M tl) [.ref (ad (81)), .int v1] Φ := by
  unfold wpX11_quarrel at h
  show T E kX11_quarrel 0 0 (WM E ad M tl) 0 [(0, .ref (ad (81))), (1, .int v1)] [] Φ
  refine tj_iload_n rfl dX11_quarrel_0 rfl ?_
  refine tj_i2l rfl dX11_quarrel_1 ?_
  refine tj_lconst (v := 0) rfl dX11_quarrel_2 (by decide) ?_
  refine tj_ldc2 rfl dX11_quarrel_3 kl_X11_344 ?_
  refine cf_S (z := kX11_in) (As := [_, _, _]) rfl dX11_quarrel_6 rfl ml_X11_146 okX11_in rfl (rm_ok rfl) (Nat.le_of_ble_eq_true rfl) (Nat.le_of_ble_eq_true rfl) rfl ?_
  refine ctX11_in h (fun r3 M1 t2 h => ?_)
  refine tj_if_eq (tgt := 20) rfl rfl dX11_quarrel_9 (fun hc => ?_) (fun hc => ?_)
  · rw [if_pos hc] at h
    refine tj_iconst (v := -1) rfl dX11_quarrel_20 (by decide) ?_
    exact tj_ireturn (ty := .int) dX11_quarrel_21 rfl rfl (Nat.zero_le _) (Nat.zero_le _) (hp _ _ _ h)
  · rw [if_neg hc] at h
    refine tj_aload_n rfl dX11_quarrel_12 rfl ?_
    refine tj_iload_n rfl dX11_quarrel_13 rfl ?_
    refine cf_V11 (a := 81) (z := kX11_quarrelOf) (As := [_]) rfl rfl dX11_quarrel_14 rfl ml_X11_346 okX11_quarrelOf rfl (rm_ok rfl) (Nat.le_of_ble_eq_true rfl) (Nat.le_of_ble_eq_true rfl) rfl rfl ?_
    refine ctX11_quarrelOf h (fun r6 M4 t5 h => ?_)
    refine tj_goto (tgt := 21) rfl dX11_quarrel_17 ?_
    exact tj_ireturn (ty := .int) dX11_quarrel_21 rfl rfl (Nat.zero_le _) (Nat.zero_le _) (hp _ _ _ h)
def wX11_bend_28 (post : Int32 → MM → Int64 → Prop) (bk4 : MM → Int64 → Int32 → Int32 → Prop) (M : MM) (tl : Int64) (v2 : Int32) (s0 : Int32) : Prop :=
  bk4 M tl s0 (v2 + 1)
set_option maxHeartbeats 4000000 in
set_option maxRecDepth 20000 in
theorem bX11_bend_28 {E : EV} {ad : Nat → Nat} {M : MM} {tl : Int64} {Φ : Option Value → va_W → Prop} {post : Int32 → MM → Int64 → Prop} {bk4 : MM → Int64 → Int32 → Int32 → Prop} {v2 : Int32} {s0 : Int32} (hp : ∀ r M tl, post r M tl → Φ (some (.int r)) (WM E ad M tl)) (hb4 : ∀ (M : MM) (tl : Int64) (v1 : Int32) (v2 : Int32), bk4 M tl v1 v2 → T E kX11_bend 0 0 (WM E ad M tl) 4 [(0, .ref (ad (81))), (1, .int v1), (2, .int v2)] [] Φ) (h : wX11_bend_28 post bk4 M tl v2 s0) : T E kX11_bend 0 0 (WM E ad M tl) 28 [(0, .ref (ad (81))), (2, .int v2)] [.int s0] Φ := by
  unfold wX11_bend_28 at h
  refine tj_istore_n (l' := [(0, _), (1, _), (2, _)]) rfl dX11_bend_28 (by decide) rfl ?_
  refine tj_iinc (v := _ + 1) (l' := [(0, _), (1, _), (2, _)]) rfl dX11_bend_29 rfl (by decide) rfl rfl ?_
  refine tj_goto (tgt := 4) rfl dX11_bend_32 ?_
  exact hb4 _ _ _ _ h
def wX11_bend_4 (post : Int32 → MM → Int64 → Prop) : Nat → MM → Int64 → Int32 → Int32 → Prop
  | 0, _, _, _, _ => False
  | n + 1, M, tl, v1, v2 =>
    (if 7 ≤ v2 then post v1 M tl else wpX11_quarrelOf (fun r3 M1 t2 => wpX11_quarrelOf (fun r6 M4 t5 => (if r6 ≤ r3 then wX11_bend_28 post (wX11_bend_4 post n) M4 t5 v2 v1 else wX11_bend_28 post (wX11_bend_4 post n) M4 t5 v2 v2)) M1 t2 v1) M tl v2)
set_option maxHeartbeats 4000000 in
set_option maxRecDepth 20000 in
theorem bX11_bend_4 {E : EV} {ad : Nat → Nat} {Φ : Option Value → va_W → Prop} {post : Int32 → MM → Int64 → Prop}  (hp : ∀ r M tl, post r M tl → Φ (some (.int r)) (WM E ad M tl)) : ∀ (n : Nat) (M : MM) (tl : Int64) (v1 : Int32) (v2 : Int32), wX11_bend_4 post n M tl v1 v2 → T E kX11_bend 0 0 (WM E ad M tl) 4 [(0, .ref (ad (81))), (1, .int v1), (2, .int v2)] [] Φ := by
  intro n
  induction n with
  | zero => intro M tl v1 v2 h; exact False.elim h
  | succ n ih =>
    intro M tl v1 v2 h
    unfold wX11_bend_4 at h
    refine tj_iload_n rfl dX11_bend_4 rfl ?_
    refine tj_bipush (v := 7) rfl dX11_bend_5 (by decide) ?_
    refine tj_icmp_ge (tgt := 35) rfl rfl dX11_bend_7 (fun hc => ?_) (fun hc => ?_)
    · rw [if_pos hc] at h
      refine tj_iload_n rfl dX11_bend_35 rfl ?_
      exact tj_ireturn (ty := .int) dX11_bend_36 rfl rfl (Nat.zero_le _) (Nat.zero_le _) (hp _ _ _ h)
    · rw [if_neg hc] at h
      refine tj_aload_n rfl dX11_bend_10 rfl ?_
      refine tj_iload_n rfl dX11_bend_11 rfl ?_
      refine cf_V11 (a := 81) (z := kX11_quarrelOf) (As := [_]) rfl rfl dX11_bend_12 rfl ml_X11_346 okX11_quarrelOf rfl (rm_ok rfl) (Nat.le_of_ble_eq_true rfl) (Nat.le_of_ble_eq_true rfl) rfl rfl ?_
      refine ctX11_quarrelOf h (fun r3 M1 t2 h => ?_)
      refine tj_aload_n rfl dX11_bend_15 rfl ?_
      refine tj_iload_n rfl dX11_bend_16 rfl ?_
      refine cf_V11 (a := 81) (z := kX11_quarrelOf) (As := [_]) rfl rfl dX11_bend_17 rfl ml_X11_346 okX11_quarrelOf rfl (rm_ok rfl) (Nat.le_of_ble_eq_true rfl) (Nat.le_of_ble_eq_true rfl) rfl rfl ?_
      refine ctX11_quarrelOf h (fun r6 M4 t5 h => ?_)
      refine tj_icmp_ge (tgt := 27) rfl rfl dX11_bend_20 (fun hc => ?_) (fun hc => ?_)
      · rw [if_pos hc] at h
        refine tj_iload_n rfl dX11_bend_27 rfl ?_
        exact tj_pick (l' := [(0, _), (2, _)]) [0, 2] rfl (bX11_bend_28 hp ih h)
      · rw [if_neg hc] at h
        refine tj_iload_n rfl dX11_bend_23 rfl ?_
        refine tj_goto (tgt := 28) rfl dX11_bend_24 ?_
        exact tj_pick (l' := [(0, _), (2, _)]) [0, 2] rfl (bX11_bend_28 hp ih h)
def wpX11_bend (post : Int32 → MM → Int64 → Prop) (M : MM) (tl : Int64) : Prop :=
  (∃ n9, wX11_bend_4 post  n9 M tl 0 1)
set_option maxHeartbeats 4000000 in
set_option maxRecDepth 20000 in
theorem ctX11_bend {E : EV} {ad : Nat → Nat} {M : MM} {tl : Int64} {Φ : Option Value → va_W → Prop} {post : Int32 → MM → Int64 → Prop} (h : wpX11_bend post M tl ) (hp : ∀ r M tl, post r M tl → Φ (some (.int r)) (WM E ad M tl)) : Tm E kX11_bend (WM E ad M tl) [.ref (ad (81))] Φ := by
  unfold wpX11_bend at h
  show T E kX11_bend 0 0 (WM E ad M tl) 0 [(0, .ref (ad (81)))] [] Φ
  refine tj_iconst (v := 0) rfl dX11_bend_0 (by decide) ?_
  refine tj_istore_n (l' := [(0, _), (1, _)]) rfl dX11_bend_1 (by decide) rfl ?_
  refine tj_iconst (v := 1) rfl dX11_bend_2 (by decide) ?_
  refine tj_istore_n (l' := [(0, _), (1, _), (2, _)]) rfl dX11_bend_3 (by decide) rfl ?_
  obtain ⟨n9, h⟩ := h
  exact bX11_bend_4 hp  n9 _ _ _ _ h
def wpX11_isShop (post : Int32 → MM → Int64 → Prop) (M : MM) (tl : Int64) (v1 : Int32) (v2 : Int32) : Prop :=
  wpX11_in (fun r3 M1 t2 => (if r3 = 0 then post 0 M1 t2 else wpX11_kindThere (fun r6 M4 t5 => (if r6 = 3 then post 1 M4 t5 else post 0 M4 t5)) M1 t2 v1 v2)) M tl ((v2 : Int32).toInt64) 0 (((M 81 2) - 1 : Int32).toInt64)
set_option maxHeartbeats 4000000 in
set_option maxRecDepth 20000 in
theorem ctX11_isShop {E : EV} {ad : Nat → Nat} {M : MM} {tl : Int64} {Φ : Option Value → va_W → Prop} {post : Int32 → MM → Int64 → Prop} {v1 : Int32} {v2 : Int32} (h : wpX11_isShop post M tl v1 v2) (hp : ∀ r M tl, post r M tl → Φ (some (.int r)) (WM E ad M tl)) : Tm E kX11_isShop (WM E ad M tl) [.ref (ad (81)), .int v1, .int v2] Φ := by
  unfold wpX11_isShop at h
  show T E kX11_isShop 0 0 (WM E ad M tl) 0 [(0, .ref (ad (81))), (1, .int v1), (2, .int v2)] [] Φ
  refine tj_iload_n rfl dX11_isShop_0 rfl ?_
  refine tj_i2l rfl dX11_isShop_1 ?_
  refine tj_lconst (v := 0) rfl dX11_isShop_2 (by decide) ?_
  refine tj_aload_n rfl dX11_isShop_3 rfl ?_
  refine gf11_lots (a := 81) rfl rfl dX11_isShop_4 fl_X11_129 ?_
  refine tj_iconst (v := 1) rfl dX11_isShop_7 (by decide) ?_
  refine tj_isub rfl dX11_isShop_8 ?_
  refine tj_i2l rfl dX11_isShop_9 ?_
  refine cf_S (z := kX11_in) (As := [_, _, _]) rfl dX11_isShop_10 rfl ml_X11_146 okX11_in rfl (rm_ok rfl) (Nat.le_of_ble_eq_true rfl) (Nat.le_of_ble_eq_true rfl) rfl ?_
  refine ctX11_in h (fun r3 M1 t2 h => ?_)
  refine tj_if_eq (tgt := 30) rfl rfl dX11_isShop_13 (fun hc => ?_) (fun hc => ?_)
  · rw [if_pos hc] at h
    refine tj_iconst (v := 0) rfl dX11_isShop_30 (by decide) ?_
    exact tj_ireturn (ty := .boolean) dX11_isShop_31 rfl rfl (Nat.zero_le _) (Nat.zero_le _) (hp _ _ _ h)
  · rw [if_neg hc] at h
    refine tj_aload_n rfl dX11_isShop_16 rfl ?_
    refine tj_iload_n rfl dX11_isShop_17 rfl ?_
    refine tj_iload_n rfl dX11_isShop_18 rfl ?_
    refine cf_V11 (a := 81) (z := kX11_kindThere) (As := [_, _]) rfl rfl dX11_isShop_19 rfl ml_X11_320 okX11_kindThere rfl (rm_ok rfl) (Nat.le_of_ble_eq_true rfl) (Nat.le_of_ble_eq_true rfl) rfl rfl ?_
    refine ctX11_kindThere h (fun r6 M4 t5 h => ?_)
    refine tj_iconst (v := 3) rfl dX11_isShop_22 (by decide) ?_
    refine tj_icmp_ne (tgt := 30) rfl rfl dX11_isShop_23 (fun hc => ?_) (fun hc => ?_)
    · rw [if_neg hc] at h
      refine tj_iconst (v := 0) rfl dX11_isShop_30 (by decide) ?_
      exact tj_ireturn (ty := .boolean) dX11_isShop_31 rfl rfl (Nat.zero_le _) (Nat.zero_le _) (hp _ _ _ h)
    · rw [if_pos hc] at h
      refine tj_iconst (v := 1) rfl dX11_isShop_26 (by decide) ?_
      refine tj_goto (tgt := 31) rfl dX11_isShop_27 ?_
      exact tj_ireturn (ty := .boolean) dX11_isShop_31 rfl rfl (Nat.zero_le _) (Nat.zero_le _) (hp _ _ _ h)
def wX11_shops_126 (post : Int32 → MM → Int64 → Prop) (bk30 : MM → Int64 → Int32 → Int32 → Int32 → Int32 → Int32 → Int32 → Prop) (M : MM) (tl : Int64) (v1 : Int32) (v2 : Int32) (v3 : Int32) (v5 : Int32) (v6 : Int32) (s0 : Int32) (s1 : Int32) : Prop :=
  bk30 M tl v1 v2 v3 (s0 + s1) v5 (v6 + 1)
set_option maxHeartbeats 4000000 in
set_option maxRecDepth 20000 in
theorem bX11_shops_126 {E : EV} {ad : Nat → Nat} {M : MM} {tl : Int64} {Φ : Option Value → va_W → Prop} {post : Int32 → MM → Int64 → Prop} {bk30 : MM → Int64 → Int32 → Int32 → Int32 → Int32 → Int32 → Int32 → Prop} {v1 : Int32} {v2 : Int32} {v3 : Int32} {v5 : Int32} {v6 : Int32} {s0 : Int32} {s1 : Int32} (hp : ∀ r M tl, post r M tl → Φ (some (.int r)) (WM E ad M tl)) (hb30 : ∀ (M : MM) (tl : Int64) (v1 : Int32) (v2 : Int32) (v3 : Int32) (v4 : Int32) (v5 : Int32) (v6 : Int32), bk30 M tl v1 v2 v3 v4 v5 v6 → T E kX11_shops 0 0 (WM E ad M tl) 30 [(0, .ref (ad (81))), (1, .int v1), (2, .int v2), (3, .int v3), (4, .int v4), (5, .int v5), (6, .int v6)] [] Φ) (h : wX11_shops_126 post bk30 M tl v1 v2 v3 v5 v6 s0 s1) : T E kX11_shops 0 0 (WM E ad M tl) 126 [(0, .ref (ad (81))), (1, .int v1), (2, .int v2), (3, .int v3), (5, .int v5), (6, .int v6)] [.int s1, .int s0] Φ := by
  unfold wX11_shops_126 at h
  refine tj_iadd rfl dX11_shops_126 ?_
  refine tj_istore (l' := [(0, _), (1, _), (2, _), (3, _), (4, _), (5, _), (6, _)]) rfl dX11_shops_127 (by decide) rfl ?_
  refine tj_iinc (v := _ + 1) (l' := [(0, _), (1, _), (2, _), (3, _), (4, _), (5, _), (6, _)]) rfl dX11_shops_129 rfl (by decide) rfl rfl ?_
  refine tj_goto (tgt := 30) rfl dX11_shops_132 ?_
  exact hb30 _ _ _ _ _ _ _ _ h
def wX11_shops_125 (post : Int32 → MM → Int64 → Prop) (bk30 : MM → Int64 → Int32 → Int32 → Int32 → Int32 → Int32 → Int32 → Prop) (M : MM) (tl : Int64) (v1 : Int32) (v2 : Int32) (v3 : Int32) (v5 : Int32) (v6 : Int32) (s0 : Int32) : Prop :=
  wX11_shops_126 post bk30 M tl v1 v2 v3 v5 v6 s0 0
set_option maxHeartbeats 4000000 in
set_option maxRecDepth 20000 in
theorem bX11_shops_125 {E : EV} {ad : Nat → Nat} {M : MM} {tl : Int64} {Φ : Option Value → va_W → Prop} {post : Int32 → MM → Int64 → Prop} {bk30 : MM → Int64 → Int32 → Int32 → Int32 → Int32 → Int32 → Int32 → Prop} {v1 : Int32} {v2 : Int32} {v3 : Int32} {v5 : Int32} {v6 : Int32} {s0 : Int32} (hp : ∀ r M tl, post r M tl → Φ (some (.int r)) (WM E ad M tl)) (hb30 : ∀ (M : MM) (tl : Int64) (v1 : Int32) (v2 : Int32) (v3 : Int32) (v4 : Int32) (v5 : Int32) (v6 : Int32), bk30 M tl v1 v2 v3 v4 v5 v6 → T E kX11_shops 0 0 (WM E ad M tl) 30 [(0, .ref (ad (81))), (1, .int v1), (2, .int v2), (3, .int v3), (4, .int v4), (5, .int v5), (6, .int v6)] [] Φ) (h : wX11_shops_125 post bk30 M tl v1 v2 v3 v5 v6 s0) : T E kX11_shops 0 0 (WM E ad M tl) 125 [(0, .ref (ad (81))), (1, .int v1), (2, .int v2), (3, .int v3), (5, .int v5), (6, .int v6)] [.int s0] Φ := by
  unfold wX11_shops_125 at h
  refine tj_iconst (v := 0) rfl dX11_shops_125 (by decide) ?_
  exact bX11_shops_126 hp hb30 h
def wX11_shops_105 (post : Int32 → MM → Int64 → Prop) (bk30 : MM → Int64 → Int32 → Int32 → Int32 → Int32 → Int32 → Int32 → Prop) (M : MM) (tl : Int64) (v1 : Int32) (v2 : Int32) (v3 : Int32) (v4 : Int32) (v6 : Int32) (s0 : Int32) : Prop :=
  (if s0 ≤ 0 then wX11_shops_125 post bk30 M tl v1 v2 v3 s0 v6 v4 else (if (s0 - s0 / 2 * 2) = 0 then wX11_shops_126 post bk30 M tl v1 v2 v3 s0 v6 v4 1 else wX11_shops_125 post bk30 M tl v1 v2 v3 s0 v6 v4))
set_option maxHeartbeats 4000000 in
set_option maxRecDepth 20000 in
theorem bX11_shops_105 {E : EV} {ad : Nat → Nat} {M : MM} {tl : Int64} {Φ : Option Value → va_W → Prop} {post : Int32 → MM → Int64 → Prop} {bk30 : MM → Int64 → Int32 → Int32 → Int32 → Int32 → Int32 → Int32 → Prop} {v1 : Int32} {v2 : Int32} {v3 : Int32} {v4 : Int32} {v6 : Int32} {s0 : Int32} (hp : ∀ r M tl, post r M tl → Φ (some (.int r)) (WM E ad M tl)) (hb30 : ∀ (M : MM) (tl : Int64) (v1 : Int32) (v2 : Int32) (v3 : Int32) (v4 : Int32) (v5 : Int32) (v6 : Int32), bk30 M tl v1 v2 v3 v4 v5 v6 → T E kX11_shops 0 0 (WM E ad M tl) 30 [(0, .ref (ad (81))), (1, .int v1), (2, .int v2), (3, .int v3), (4, .int v4), (5, .int v5), (6, .int v6)] [] Φ) (h : wX11_shops_105 post bk30 M tl v1 v2 v3 v4 v6 s0) : T E kX11_shops 0 0 (WM E ad M tl) 105 [(0, .ref (ad (81))), (1, .int v1), (2, .int v2), (3, .int v3), (4, .int v4), (6, .int v6)] [.int s0] Φ := by
  unfold wX11_shops_105 at h
  refine tj_istore (l' := [(0, _), (1, _), (2, _), (3, _), (4, _), (5, _), (6, _)]) rfl dX11_shops_105 (by decide) rfl ?_
  refine tj_iload rfl dX11_shops_107 rfl ?_
  refine tj_iload rfl dX11_shops_109 rfl ?_
  refine tj_if_le (tgt := 125) rfl rfl dX11_shops_111 (fun hc => ?_) (fun hc => ?_)
  · rw [if_pos hc] at h
    exact tj_pick (l' := [(0, _), (1, _), (2, _), (3, _), (5, _), (6, _)]) [0, 1, 2, 3, 5, 6] rfl (bX11_shops_125 hp hb30 h)
  · rw [if_neg hc] at h
    refine tj_iload rfl dX11_shops_114 rfl ?_
    refine tj_iconst (v := 2) rfl dX11_shops_116 (by decide) ?_
    refine tj_irem rfl dX11_shops_117 (by decide) ?_
    refine tj_if_ne (tgt := 125) rfl rfl dX11_shops_118 (fun hc => ?_) (fun hc => ?_)
    · rw [if_neg hc] at h
      exact tj_pick (l' := [(0, _), (1, _), (2, _), (3, _), (5, _), (6, _)]) [0, 1, 2, 3, 5, 6] rfl (bX11_shops_125 hp hb30 h)
    · rw [if_pos hc] at h
      refine tj_iconst (v := 1) rfl dX11_shops_121 (by decide) ?_
      refine tj_goto (tgt := 126) rfl dX11_shops_122 ?_
      exact tj_pick (l' := [(0, _), (1, _), (2, _), (3, _), (5, _), (6, _)]) [0, 1, 2, 3, 5, 6] rfl (bX11_shops_126 hp hb30 h)
def wX11_shops_79 (post : Int32 → MM → Int64 → Prop) (bk30 : MM → Int64 → Int32 → Int32 → Int32 → Int32 → Int32 → Int32 → Prop) (M : MM) (tl : Int64) (v1 : Int32) (v2 : Int32) (v4 : Int32) (v5 : Int32) (v6 : Int32) (s0 : Int32) (s1 : Int32) : Prop :=
  wpX11_flag (fun r3 M1 t2 => wpX11_isShop (fun r6 M4 t5 => (if r6 = 0 then wX11_shops_105 post bk30 M4 t5 v1 v2 (s0 ||| (r3 <<< (v6 &&& 31))) v4 v6 0 else wX11_shops_105 post bk30 M4 t5 v1 v2 (s0 ||| (r3 <<< (v6 &&& 31))) v4 v6 (v5 + 1))) M1 t2 v1 v6) M tl s1
set_option maxHeartbeats 4000000 in
set_option maxRecDepth 20000 in
theorem bX11_shops_79 {E : EV} {ad : Nat → Nat} {M : MM} {tl : Int64} {Φ : Option Value → va_W → Prop} {post : Int32 → MM → Int64 → Prop} {bk30 : MM → Int64 → Int32 → Int32 → Int32 → Int32 → Int32 → Int32 → Prop} {v1 : Int32} {v2 : Int32} {v4 : Int32} {v5 : Int32} {v6 : Int32} {s0 : Int32} {s1 : Int32} (hp : ∀ r M tl, post r M tl → Φ (some (.int r)) (WM E ad M tl)) (hb30 : ∀ (M : MM) (tl : Int64) (v1 : Int32) (v2 : Int32) (v3 : Int32) (v4 : Int32) (v5 : Int32) (v6 : Int32), bk30 M tl v1 v2 v3 v4 v5 v6 → T E kX11_shops 0 0 (WM E ad M tl) 30 [(0, .ref (ad (81))), (1, .int v1), (2, .int v2), (3, .int v3), (4, .int v4), (5, .int v5), (6, .int v6)] [] Φ) (h : wX11_shops_79 post bk30 M tl v1 v2 v4 v5 v6 s0 s1) : T E kX11_shops 0 0 (WM E ad M tl) 79 [(0, .ref (ad (81))), (1, .int v1), (2, .int v2), (4, .int v4), (5, .int v5), (6, .int v6)] [.int s1, .int s0] Φ := by
  unfold wX11_shops_79 at h
  refine cf_S (z := kX11_flag) (As := [_]) rfl dX11_shops_79 rfl ml_X11_265 okX11_flag rfl (rm_ok rfl) (Nat.le_of_ble_eq_true rfl) (Nat.le_of_ble_eq_true rfl) rfl ?_
  refine ctX11_flag h (fun r3 M1 t2 h => ?_)
  refine tj_iload rfl dX11_shops_82 rfl ?_
  refine tj_ishl rfl dX11_shops_84 ?_
  refine tj_ior rfl dX11_shops_85 ?_
  refine tj_istore_n (l' := [(0, _), (1, _), (2, _), (3, _), (4, _), (5, _), (6, _)]) rfl dX11_shops_86 (by decide) rfl ?_
  refine tj_aload_n rfl dX11_shops_87 rfl ?_
  refine tj_iload_n rfl dX11_shops_88 rfl ?_
  refine tj_iload rfl dX11_shops_89 rfl ?_
  refine cf_V11 (a := 81) (z := kX11_isShop) (As := [_, _]) rfl rfl dX11_shops_91 rfl ml_X11_349 okX11_isShop rfl (rm_ok rfl) (Nat.le_of_ble_eq_true rfl) (Nat.le_of_ble_eq_true rfl) rfl rfl ?_
  refine ctX11_isShop h (fun r6 M4 t5 h => ?_)
  refine tj_if_eq (tgt := 104) rfl rfl dX11_shops_94 (fun hc => ?_) (fun hc => ?_)
  · rw [if_pos hc] at h
    refine tj_iconst (v := 0) rfl dX11_shops_104 (by decide) ?_
    exact tj_pick (l' := [(0, _), (1, _), (2, _), (3, _), (4, _), (6, _)]) [0, 1, 2, 3, 4, 6] rfl (bX11_shops_105 hp hb30 h)
  · rw [if_neg hc] at h
    refine tj_iload rfl dX11_shops_97 rfl ?_
    refine tj_iconst (v := 1) rfl dX11_shops_99 (by decide) ?_
    refine tj_iadd rfl dX11_shops_100 ?_
    refine tj_goto (tgt := 105) rfl dX11_shops_101 ?_
    exact tj_pick (l' := [(0, _), (1, _), (2, _), (3, _), (4, _), (6, _)]) [0, 1, 2, 3, 4, 6] rfl (bX11_shops_105 hp hb30 h)
def wX11_shops_74 (post : Int32 → MM → Int64 → Prop) (bk30 : MM → Int64 → Int32 → Int32 → Int32 → Int32 → Int32 → Int32 → Prop) (M : MM) (tl : Int64) (v1 : Int32) (v2 : Int32) (v4 : Int32) (v5 : Int32) (v6 : Int32) (s0 : Int32) : Prop :=
  wX11_shops_79 post bk30 M tl v1 v2 v4 v5 v6 s0 1
set_option maxHeartbeats 4000000 in
set_option maxRecDepth 20000 in
theorem bX11_shops_74 {E : EV} {ad : Nat → Nat} {M : MM} {tl : Int64} {Φ : Option Value → va_W → Prop} {post : Int32 → MM → Int64 → Prop} {bk30 : MM → Int64 → Int32 → Int32 → Int32 → Int32 → Int32 → Int32 → Prop} {v1 : Int32} {v2 : Int32} {v4 : Int32} {v5 : Int32} {v6 : Int32} {s0 : Int32} (hp : ∀ r M tl, post r M tl → Φ (some (.int r)) (WM E ad M tl)) (hb30 : ∀ (M : MM) (tl : Int64) (v1 : Int32) (v2 : Int32) (v3 : Int32) (v4 : Int32) (v5 : Int32) (v6 : Int32), bk30 M tl v1 v2 v3 v4 v5 v6 → T E kX11_shops 0 0 (WM E ad M tl) 30 [(0, .ref (ad (81))), (1, .int v1), (2, .int v2), (3, .int v3), (4, .int v4), (5, .int v5), (6, .int v6)] [] Φ) (h : wX11_shops_74 post bk30 M tl v1 v2 v4 v5 v6 s0) : T E kX11_shops 0 0 (WM E ad M tl) 74 [(0, .ref (ad (81))), (1, .int v1), (2, .int v2), (4, .int v4), (5, .int v5), (6, .int v6)] [.int s0] Φ := by
  unfold wX11_shops_74 at h
  refine tj_iconst (v := 1) rfl dX11_shops_74 (by decide) ?_
  refine tj_goto (tgt := 79) rfl dX11_shops_75 ?_
  exact bX11_shops_79 hp hb30 h
def wX11_shops_78 (post : Int32 → MM → Int64 → Prop) (bk30 : MM → Int64 → Int32 → Int32 → Int32 → Int32 → Int32 → Int32 → Prop) (M : MM) (tl : Int64) (v1 : Int32) (v2 : Int32) (v4 : Int32) (v5 : Int32) (v6 : Int32) (s0 : Int32) : Prop :=
  wX11_shops_79 post bk30 M tl v1 v2 v4 v5 v6 s0 0
set_option maxHeartbeats 4000000 in
set_option maxRecDepth 20000 in
theorem bX11_shops_78 {E : EV} {ad : Nat → Nat} {M : MM} {tl : Int64} {Φ : Option Value → va_W → Prop} {post : Int32 → MM → Int64 → Prop} {bk30 : MM → Int64 → Int32 → Int32 → Int32 → Int32 → Int32 → Int32 → Prop} {v1 : Int32} {v2 : Int32} {v4 : Int32} {v5 : Int32} {v6 : Int32} {s0 : Int32} (hp : ∀ r M tl, post r M tl → Φ (some (.int r)) (WM E ad M tl)) (hb30 : ∀ (M : MM) (tl : Int64) (v1 : Int32) (v2 : Int32) (v3 : Int32) (v4 : Int32) (v5 : Int32) (v6 : Int32), bk30 M tl v1 v2 v3 v4 v5 v6 → T E kX11_shops 0 0 (WM E ad M tl) 30 [(0, .ref (ad (81))), (1, .int v1), (2, .int v2), (3, .int v3), (4, .int v4), (5, .int v5), (6, .int v6)] [] Φ) (h : wX11_shops_78 post bk30 M tl v1 v2 v4 v5 v6 s0) : T E kX11_shops 0 0 (WM E ad M tl) 78 [(0, .ref (ad (81))), (1, .int v1), (2, .int v2), (4, .int v4), (5, .int v5), (6, .int v6)] [.int s0] Φ := by
  unfold wX11_shops_78 at h
  refine tj_iconst (v := 0) rfl dX11_shops_78 (by decide) ?_
  exact bX11_shops_79 hp hb30 h
def wX11_shops_30 (post : Int32 → MM → Int64 → Prop) : Nat → MM → Int64 → Int32 → Int32 → Int32 → Int32 → Int32 → Int32 → Prop
  | 0, _, _, _, _, _, _, _, _ => False
  | n + 1, M, tl, v1, v2, v3, v4, v5, v6 =>
    (if (M 81 2) ≤ v6 then (if v2 = 0 then post v3 M tl else post v4 M tl) else wpX11_isShop (fun r3 M1 t2 => (if r3 = 0 then wX11_shops_78 post (wX11_shops_30 post n) M1 t2 v1 v2 v4 v5 v6 v3 else wpX11_isShop (fun r6 M4 t5 => (if r6 = 0 then wpX11_isShop (fun r9 M7 t8 => (if r9 = 0 then wX11_shops_78 post (wX11_shops_30 post n) M7 t8 v1 v2 v4 v5 v6 v3 else wX11_shops_74 post (wX11_shops_30 post n) M7 t8 v1 v2 v4 v5 v6 v3)) M4 t5 v1 (v6 + 1) else wX11_shops_74 post (wX11_shops_30 post n) M4 t5 v1 v2 v4 v5 v6 v3)) M1 t2 v1 (v6 - 1))) M tl v1 v6)
set_option maxHeartbeats 4000000 in
set_option maxRecDepth 20000 in
theorem bX11_shops_30 {E : EV} {ad : Nat → Nat} {Φ : Option Value → va_W → Prop} {post : Int32 → MM → Int64 → Prop}  (hp : ∀ r M tl, post r M tl → Φ (some (.int r)) (WM E ad M tl)) : ∀ (n : Nat) (M : MM) (tl : Int64) (v1 : Int32) (v2 : Int32) (v3 : Int32) (v4 : Int32) (v5 : Int32) (v6 : Int32), wX11_shops_30 post n M tl v1 v2 v3 v4 v5 v6 → T E kX11_shops 0 0 (WM E ad M tl) 30 [(0, .ref (ad (81))), (1, .int v1), (2, .int v2), (3, .int v3), (4, .int v4), (5, .int v5), (6, .int v6)] [] Φ := by
  intro n
  induction n with
  | zero => intro M tl v1 v2 v3 v4 v5 v6 h; exact False.elim h
  | succ n ih =>
    intro M tl v1 v2 v3 v4 v5 v6 h
    unfold wX11_shops_30 at h
    refine tj_iload rfl dX11_shops_30 rfl ?_
    refine tj_aload_n rfl dX11_shops_32 rfl ?_
    refine gf11_lots (a := 81) rfl rfl dX11_shops_33 fl_X11_129 ?_
    refine tj_icmp_ge (tgt := 135) rfl rfl dX11_shops_36 (fun hc => ?_) (fun hc => ?_)
    · rw [if_pos hc] at h
      refine tj_iload_n rfl dX11_shops_135 rfl ?_
      refine tj_if_ne (tgt := 143) rfl rfl dX11_shops_136 (fun hc => ?_) (fun hc => ?_)
      · rw [if_neg hc] at h
        refine tj_iload rfl dX11_shops_143 rfl ?_
        exact tj_ireturn (ty := .int) dX11_shops_145 rfl rfl (Nat.zero_le _) (Nat.zero_le _) (hp _ _ _ h)
      · rw [if_pos hc] at h
        refine tj_iload_n rfl dX11_shops_139 rfl ?_
        refine tj_goto (tgt := 145) rfl dX11_shops_140 ?_
        exact tj_ireturn (ty := .int) dX11_shops_145 rfl rfl (Nat.zero_le _) (Nat.zero_le _) (hp _ _ _ h)
    · rw [if_neg hc] at h
      refine tj_iload_n rfl dX11_shops_39 rfl ?_
      refine tj_aload_n rfl dX11_shops_40 rfl ?_
      refine tj_iload_n rfl dX11_shops_41 rfl ?_
      refine tj_iload rfl dX11_shops_42 rfl ?_
      refine cf_V11 (a := 81) (z := kX11_isShop) (As := [_, _]) rfl rfl dX11_shops_44 rfl ml_X11_349 okX11_isShop rfl (rm_ok rfl) (Nat.le_of_ble_eq_true rfl) (Nat.le_of_ble_eq_true rfl) rfl rfl ?_
      refine ctX11_isShop h (fun r3 M1 t2 h => ?_)
      refine tj_if_eq (tgt := 78) rfl rfl dX11_shops_47 (fun hc => ?_) (fun hc => ?_)
      · rw [if_pos hc] at h
        exact tj_pick (l' := [(0, _), (1, _), (2, _), (4, _), (5, _), (6, _)]) [0, 1, 2, 4, 5, 6] rfl (bX11_shops_78 hp ih h)
      · rw [if_neg hc] at h
        refine tj_aload_n rfl dX11_shops_50 rfl ?_
        refine tj_iload_n rfl dX11_shops_51 rfl ?_
        refine tj_iload rfl dX11_shops_52 rfl ?_
        refine tj_iconst (v := 1) rfl dX11_shops_54 (by decide) ?_
        refine tj_isub rfl dX11_shops_55 ?_
        refine cf_V11 (a := 81) (z := kX11_isShop) (As := [_, _]) rfl rfl dX11_shops_56 rfl ml_X11_349 okX11_isShop rfl (rm_ok rfl) (Nat.le_of_ble_eq_true rfl) (Nat.le_of_ble_eq_true rfl) rfl rfl ?_
        refine ctX11_isShop h (fun r6 M4 t5 h => ?_)
        refine tj_if_ne (tgt := 74) rfl rfl dX11_shops_59 (fun hc => ?_) (fun hc => ?_)
        · rw [if_neg hc] at h
          exact tj_pick (l' := [(0, _), (1, _), (2, _), (4, _), (5, _), (6, _)]) [0, 1, 2, 4, 5, 6] rfl (bX11_shops_74 hp ih h)
        · rw [if_pos hc] at h
          refine tj_aload_n rfl dX11_shops_62 rfl ?_
          refine tj_iload_n rfl dX11_shops_63 rfl ?_
          refine tj_iload rfl dX11_shops_64 rfl ?_
          refine tj_iconst (v := 1) rfl dX11_shops_66 (by decide) ?_
          refine tj_iadd rfl dX11_shops_67 ?_
          refine cf_V11 (a := 81) (z := kX11_isShop) (As := [_, _]) rfl rfl dX11_shops_68 rfl ml_X11_349 okX11_isShop rfl (rm_ok rfl) (Nat.le_of_ble_eq_true rfl) (Nat.le_of_ble_eq_true rfl) rfl rfl ?_
          refine ctX11_isShop h (fun r9 M7 t8 h => ?_)
          refine tj_if_eq (tgt := 78) rfl rfl dX11_shops_71 (fun hc => ?_) (fun hc => ?_)
          · rw [if_pos hc] at h
            exact tj_pick (l' := [(0, _), (1, _), (2, _), (4, _), (5, _), (6, _)]) [0, 1, 2, 4, 5, 6] rfl (bX11_shops_78 hp ih h)
          · rw [if_neg hc] at h
            exact tj_pick (l' := [(0, _), (1, _), (2, _), (4, _), (5, _), (6, _)]) [0, 1, 2, 4, 5, 6] rfl (bX11_shops_74 hp ih h)
def wpX11_shops (post : Int32 → MM → Int64 → Prop) (M : MM) (tl : Int64) (v1 : Int32) (v2 : Int32) : Prop :=
  wpX11_isBank (fun r3 M1 t2 => (if r3 = 0 then post (-1) M1 t2 else wpX11_in (fun r6 M4 t5 => (if r6 = 0 then post (-1) M4 t5 else (∃ n9, wX11_shops_30 post  n9 M4 t5 v1 v2 0 0 0 0))) M1 t2 ((v2 : Int32).toInt64) 0 1)) M tl v1
set_option maxHeartbeats 4000000 in
set_option maxRecDepth 20000 in
theorem ctX11_shops {E : EV} {ad : Nat → Nat} {M : MM} {tl : Int64} {Φ : Option Value → va_W → Prop} {post : Int32 → MM → Int64 → Prop} {v1 : Int32} {v2 : Int32} (h : wpX11_shops post M tl v1 v2) (hp : ∀ r M tl, post r M tl → Φ (some (.int r)) (WM E ad M tl)) : Tm E kX11_shops (WM E ad M tl) [.ref (ad (81)), .int v1, .int v2] Φ := by
  unfold wpX11_shops at h
  show T E kX11_shops 0 0 (WM E ad M tl) 0 [(0, .ref (ad (81))), (1, .int v1), (2, .int v2)] [] Φ
  refine tj_iload_n rfl dX11_shops_0 rfl ?_
  refine cf_S (z := kX11_isBank) (As := [_]) rfl dX11_shops_1 rfl ml_X11_279 okX11_isBank rfl (rm_ok rfl) (Nat.le_of_ble_eq_true rfl) (Nat.le_of_ble_eq_true rfl) rfl ?_
  refine ctX11_isBank h (fun r3 M1 t2 h => ?_)
  refine tj_if_eq (tgt := 17) rfl rfl dX11_shops_4 (fun hc => ?_) (fun hc => ?_)
  · rw [if_pos hc] at h
    refine tj_iconst (v := -1) rfl dX11_shops_17 (by decide) ?_
    exact tj_ireturn (ty := .int) dX11_shops_18 rfl rfl (Nat.zero_le _) (Nat.zero_le _) (hp _ _ _ h)
  · rw [if_neg hc] at h
    refine tj_iload_n rfl dX11_shops_7 rfl ?_
    refine tj_i2l rfl dX11_shops_8 ?_
    refine tj_lconst (v := 0) rfl dX11_shops_9 (by decide) ?_
    refine tj_lconst (v := 1) rfl dX11_shops_10 (by decide) ?_
    refine cf_S (z := kX11_in) (As := [_, _, _]) rfl dX11_shops_11 rfl ml_X11_146 okX11_in rfl (rm_ok rfl) (Nat.le_of_ble_eq_true rfl) (Nat.le_of_ble_eq_true rfl) rfl ?_
    refine ctX11_in h (fun r6 M4 t5 h => ?_)
    refine tj_if_ne (tgt := 19) rfl rfl dX11_shops_14 (fun hc => ?_) (fun hc => ?_)
    · rw [if_neg hc] at h
      refine tj_iconst (v := 0) rfl dX11_shops_19 (by decide) ?_
      refine tj_istore_n (l' := [(0, _), (1, _), (2, _), (3, _)]) rfl dX11_shops_20 (by decide) rfl ?_
      refine tj_iconst (v := 0) rfl dX11_shops_21 (by decide) ?_
      refine tj_istore (l' := [(0, _), (1, _), (2, _), (3, _), (4, _)]) rfl dX11_shops_22 (by decide) rfl ?_
      refine tj_iconst (v := 0) rfl dX11_shops_24 (by decide) ?_
      refine tj_istore (l' := [(0, _), (1, _), (2, _), (3, _), (4, _), (5, _)]) rfl dX11_shops_25 (by decide) rfl ?_
      refine tj_iconst (v := 0) rfl dX11_shops_27 (by decide) ?_
      refine tj_istore (l' := [(0, _), (1, _), (2, _), (3, _), (4, _), (5, _), (6, _)]) rfl dX11_shops_28 (by decide) rfl ?_
      obtain ⟨n9, h⟩ := h
      exact bX11_shops_30 hp  n9 _ _ _ _ _ _ _ _ h
    · rw [if_pos hc] at h
      refine tj_iconst (v := -1) rfl dX11_shops_17 (by decide) ?_
      exact tj_ireturn (ty := .int) dX11_shops_18 rfl rfl (Nat.zero_le _) (Nat.zero_le _) (hp _ _ _ h)
def wpX11_saw (post : Int32 → MM → Int64 → Prop) (M : MM) (tl : Int64) (v1 : Int32) (v2 : Int32) (v3 : Int32) (v4 : Int32) : Prop :=
  wpX11_isLot (fun r3 M1 t2 => (if r3 = 0 then post (-1) M1 t2 else wpX11_in (fun r6 M4 t5 => (if r6 = 0 then post (-1) M4 t5 else (vp_in 78 (al 82) ∧ (if (M4 82 (78 : Int32).toNatClampNeg) = 12 then post (-3) M4 t5 else (vp_in 78 (al 82) ∧ (vp_in ((79 : Int32) + ((4 : Int32) * (M4 82 (78 : Int32).toNatClampNeg))) (al 82) ∧ (∀ M10 : MM, M10 = mset M4 82 ((79 : Int32) + ((4 : Int32) * (M4 82 (78 : Int32).toNatClampNeg)) : Int32).toNatClampNeg v1 → (vp_in (((79 : Int32) + ((4 : Int32) * (M4 82 (78 : Int32).toNatClampNeg))) + 1) (al 82) ∧ (∀ M12 : MM, M12 = mset M10 82 (((79 : Int32) + ((4 : Int32) * (M4 82 (78 : Int32).toNatClampNeg))) + 1 : Int32).toNatClampNeg v2 → (vp_in (((79 : Int32) + ((4 : Int32) * (M4 82 (78 : Int32).toNatClampNeg))) + 2) (al 82) ∧ (∀ M14 : MM, M14 = mset M12 82 (((79 : Int32) + ((4 : Int32) * (M4 82 (78 : Int32).toNatClampNeg))) + 2 : Int32).toNatClampNeg v3 → wpX11_flag (fun r17 M15 t16 => (vp_in (((79 : Int32) + ((4 : Int32) * (M4 82 (78 : Int32).toNatClampNeg))) + 3) (al 82) ∧ (∀ M19 : MM, M19 = mset M15 82 (((79 : Int32) + ((4 : Int32) * (M4 82 (78 : Int32).toNatClampNeg))) + 3 : Int32).toNatClampNeg r17 → (vp_in 78 (al 82) ∧ (vp_in 78 (al 82) ∧ (∀ M22 : MM, M22 = mset M19 82 (78 : Int32).toNatClampNeg ((M19 82 (78 : Int32).toNatClampNeg) + 1) → (vp_in 78 (al 82) ∧ post (M22 82 (78 : Int32).toNatClampNeg) M22 t16))))))) M14 t5 v4))))))))))) M1 t2 ((v3 : Int32).toInt64) 0 23)) M tl v1 v2
set_option maxHeartbeats 4000000 in
set_option maxRecDepth 20000 in
theorem ctX11_saw {E : EV} {ad : Nat → Nat} {M : MM} {tl : Int64} {Φ : Option Value → va_W → Prop} {post : Int32 → MM → Int64 → Prop} {v1 : Int32} {v2 : Int32} {v3 : Int32} {v4 : Int32} (h : wpX11_saw post M tl v1 v2 v3 v4) (hp : ∀ r M tl, post r M tl → Φ (some (.int r)) (WM E ad M tl)) : Tm E kX11_saw (WM E ad M tl) [.ref (ad (81)), .int v1, .int v2, .int v3, .int v4] Φ := by
  unfold wpX11_saw at h
  show T E kX11_saw 0 0 (WM E ad M tl) 0 [(0, .ref (ad (81))), (1, .int v1), (2, .int v2), (3, .int v3), (4, .int v4)] [] Φ
  refine tj_aload_n rfl dX11_saw_0 rfl ?_
  refine tj_iload_n rfl dX11_saw_1 rfl ?_
  refine tj_iload_n rfl dX11_saw_2 rfl ?_
  refine cf_V11 (a := 81) (z := kX11_isLot) (As := [_, _]) rfl rfl dX11_saw_3 rfl ml_X11_282 okX11_isLot rfl (rm_ok rfl) (Nat.le_of_ble_eq_true rfl) (Nat.le_of_ble_eq_true rfl) rfl rfl ?_
  refine ctX11_isLot h (fun r3 M1 t2 h => ?_)
  refine tj_if_eq (tgt := 21) rfl rfl dX11_saw_6 (fun hc => ?_) (fun hc => ?_)
  · rw [if_pos hc] at h
    refine tj_iconst (v := -1) rfl dX11_saw_21 (by decide) ?_
    exact tj_ireturn (ty := .int) dX11_saw_22 rfl rfl (Nat.zero_le _) (Nat.zero_le _) (hp _ _ _ h)
  · rw [if_neg hc] at h
    refine tj_iload_n rfl dX11_saw_9 rfl ?_
    refine tj_i2l rfl dX11_saw_10 ?_
    refine tj_lconst (v := 0) rfl dX11_saw_11 (by decide) ?_
    refine tj_ldc2 rfl dX11_saw_12 kl_X11_318 ?_
    refine cf_S (z := kX11_in) (As := [_, _, _]) rfl dX11_saw_15 rfl ml_X11_146 okX11_in rfl (rm_ok rfl) (Nat.le_of_ble_eq_true rfl) (Nat.le_of_ble_eq_true rfl) rfl ?_
    refine ctX11_in h (fun r6 M4 t5 h => ?_)
    refine tj_if_ne (tgt := 23) rfl rfl dX11_saw_18 (fun hc => ?_) (fun hc => ?_)
    · rw [if_neg hc] at h
      refine tj_aload_n rfl dX11_saw_23 rfl ?_
      refine gf11_st (a := 81) rfl rfl dX11_saw_24 fl_X11_7 ?_
      refine tj_bipush (v := 78) rfl dX11_saw_27 (by decide) ?_
      obtain ⟨hi7, h⟩ := h
      refine af_iald (a := 82) rfl rfl dX11_saw_29 hi7 ?_
      refine tj_bipush (v := 12) rfl dX11_saw_30 (by decide) ?_
      refine tj_icmp_ne (tgt := 38) rfl rfl dX11_saw_32 (fun hc => ?_) (fun hc => ?_)
      · rw [if_neg hc] at h
        refine tj_bipush (v := 79) rfl dX11_saw_38 (by decide) ?_
        refine tj_iconst (v := 4) rfl dX11_saw_40 (by decide) ?_
        refine tj_aload_n rfl dX11_saw_41 rfl ?_
        refine gf11_st (a := 81) rfl rfl dX11_saw_42 fl_X11_7 ?_
        refine tj_bipush (v := 78) rfl dX11_saw_45 (by decide) ?_
        obtain ⟨hi8, h⟩ := h
        refine af_iald (a := 82) rfl rfl dX11_saw_47 hi8 ?_
        refine tj_imul rfl dX11_saw_48 ?_
        refine tj_iadd rfl dX11_saw_49 ?_
        refine tj_istore (l' := [(0, _), (1, _), (2, _), (3, _), (4, _), (5, _)]) rfl dX11_saw_50 (by decide) rfl ?_
        refine tj_aload_n rfl dX11_saw_52 rfl ?_
        refine gf11_st (a := 81) rfl rfl dX11_saw_53 fl_X11_7 ?_
        refine tj_iload rfl dX11_saw_56 rfl ?_
        refine tj_iload_n rfl dX11_saw_58 rfl ?_
        obtain ⟨hi9, h⟩ := h
        refine af_iast (a := 82) rfl rfl dX11_saw_59 hi9 ?_
        replace h := h _ rfl
        generalize mset M4 82 ((79 : Int32) + ((4 : Int32) * (M4 82 (78 : Int32).toNatClampNeg)) : Int32).toNatClampNeg v1 = M10 at h ⊢
        refine tj_aload_n rfl dX11_saw_60 rfl ?_
        refine gf11_st (a := 81) rfl rfl dX11_saw_61 fl_X11_7 ?_
        refine tj_iload rfl dX11_saw_64 rfl ?_
        refine tj_iconst (v := 1) rfl dX11_saw_66 (by decide) ?_
        refine tj_iadd rfl dX11_saw_67 ?_
        refine tj_iload_n rfl dX11_saw_68 rfl ?_
        obtain ⟨hi11, h⟩ := h
        refine af_iast (a := 82) rfl rfl dX11_saw_69 hi11 ?_
        replace h := h _ rfl
        generalize mset M10 82 (((79 : Int32) + ((4 : Int32) * (M4 82 (78 : Int32).toNatClampNeg))) + 1 : Int32).toNatClampNeg v2 = M12 at h ⊢
        refine tj_aload_n rfl dX11_saw_70 rfl ?_
        refine gf11_st (a := 81) rfl rfl dX11_saw_71 fl_X11_7 ?_
        refine tj_iload rfl dX11_saw_74 rfl ?_
        refine tj_iconst (v := 2) rfl dX11_saw_76 (by decide) ?_
        refine tj_iadd rfl dX11_saw_77 ?_
        refine tj_iload_n rfl dX11_saw_78 rfl ?_
        obtain ⟨hi13, h⟩ := h
        refine af_iast (a := 82) rfl rfl dX11_saw_79 hi13 ?_
        replace h := h _ rfl
        generalize mset M12 82 (((79 : Int32) + ((4 : Int32) * (M4 82 (78 : Int32).toNatClampNeg))) + 2 : Int32).toNatClampNeg v3 = M14 at h ⊢
        refine tj_aload_n rfl dX11_saw_80 rfl ?_
        refine gf11_st (a := 81) rfl rfl dX11_saw_81 fl_X11_7 ?_
        refine tj_iload rfl dX11_saw_84 rfl ?_
        refine tj_iconst (v := 3) rfl dX11_saw_86 (by decide) ?_
        refine tj_iadd rfl dX11_saw_87 ?_
        refine tj_iload rfl dX11_saw_88 rfl ?_
        refine cf_S (z := kX11_flag) (As := [_]) rfl dX11_saw_90 rfl ml_X11_265 okX11_flag rfl (rm_ok rfl) (Nat.le_of_ble_eq_true rfl) (Nat.le_of_ble_eq_true rfl) rfl ?_
        refine ctX11_flag h (fun r17 M15 t16 h => ?_)
        obtain ⟨hi18, h⟩ := h
        refine af_iast (a := 82) rfl rfl dX11_saw_93 hi18 ?_
        replace h := h _ rfl
        generalize mset M15 82 (((79 : Int32) + ((4 : Int32) * (M4 82 (78 : Int32).toNatClampNeg))) + 3 : Int32).toNatClampNeg r17 = M19 at h ⊢
        refine tj_aload_n rfl dX11_saw_94 rfl ?_
        refine gf11_st (a := 81) rfl rfl dX11_saw_95 fl_X11_7 ?_
        refine tj_bipush (v := 78) rfl dX11_saw_98 (by decide) ?_
        refine tj_dup2 rfl dX11_saw_100 rfl rfl ?_
        obtain ⟨hi20, h⟩ := h
        refine af_iald (a := 82) rfl rfl dX11_saw_101 hi20 ?_
        refine tj_iconst (v := 1) rfl dX11_saw_102 (by decide) ?_
        refine tj_iadd rfl dX11_saw_103 ?_
        obtain ⟨hi21, h⟩ := h
        refine af_iast (a := 82) rfl rfl dX11_saw_104 hi21 ?_
        replace h := h _ rfl
        generalize mset M19 82 (78 : Int32).toNatClampNeg ((M19 82 (78 : Int32).toNatClampNeg) + 1) = M22 at h ⊢
        refine tj_aload_n rfl dX11_saw_105 rfl ?_
        refine gf11_st (a := 81) rfl rfl dX11_saw_106 fl_X11_7 ?_
        refine tj_bipush (v := 78) rfl dX11_saw_109 (by decide) ?_
        obtain ⟨hi23, h⟩ := h
        refine af_iald (a := 82) rfl rfl dX11_saw_111 hi23 ?_
        exact tj_ireturn (ty := .int) dX11_saw_112 rfl rfl (Nat.zero_le _) (Nat.zero_le _) (hp _ _ _ h)
      · rw [if_pos hc] at h
        refine tj_bipush (v := -3) rfl dX11_saw_35 (by decide) ?_
        exact tj_ireturn (ty := .int) dX11_saw_37 rfl rfl (Nat.zero_le _) (Nat.zero_le _) (hp _ _ _ h)
    · rw [if_pos hc] at h
      refine tj_iconst (v := -1) rfl dX11_saw_21 (by decide) ?_
      exact tj_ireturn (ty := .int) dX11_saw_22 rfl rfl (Nat.zero_le _) (Nat.zero_le _) (hp _ _ _ h)
def wpX11_forget (post : Int32 → MM → Int64 → Prop) (M : MM) (tl : Int64) : Prop :=
  (vp_in 78 (al 82) ∧ (vp_in 78 (al 82) ∧ (∀ M3 : MM, M3 = mset M 82 (78 : Int32).toNatClampNeg 0 → post (M 82 (78 : Int32).toNatClampNeg) M3 tl)))
set_option maxHeartbeats 4000000 in
set_option maxRecDepth 20000 in
theorem ctX11_forget {E : EV} {ad : Nat → Nat} {M : MM} {tl : Int64} {Φ : Option Value → va_W → Prop} {post : Int32 → MM → Int64 → Prop} (h : wpX11_forget post M tl ) (hp : ∀ r M tl, post r M tl → Φ (some (.int r)) (WM E ad M tl)) : Tm E kX11_forget (WM E ad M tl) [.ref (ad (81))] Φ := by
  unfold wpX11_forget at h
  show T E kX11_forget 0 0 (WM E ad M tl) 0 [(0, .ref (ad (81)))] [] Φ
  refine tj_aload_n rfl dX11_forget_0 rfl ?_
  refine gf11_st (a := 81) rfl rfl dX11_forget_1 fl_X11_7 ?_
  refine tj_bipush (v := 78) rfl dX11_forget_4 (by decide) ?_
  obtain ⟨hi1, h⟩ := h
  refine af_iald (a := 82) rfl rfl dX11_forget_6 hi1 ?_
  refine tj_istore_n (l' := [(0, _), (1, _)]) rfl dX11_forget_7 (by decide) rfl ?_
  refine tj_aload_n rfl dX11_forget_8 rfl ?_
  refine gf11_st (a := 81) rfl rfl dX11_forget_9 fl_X11_7 ?_
  refine tj_bipush (v := 78) rfl dX11_forget_12 (by decide) ?_
  refine tj_iconst (v := 0) rfl dX11_forget_14 (by decide) ?_
  obtain ⟨hi2, h⟩ := h
  refine af_iast (a := 82) rfl rfl dX11_forget_15 hi2 ?_
  replace h := h _ rfl
  generalize mset M 82 (78 : Int32).toNatClampNeg 0 = M3 at h ⊢
  refine tj_iload_n rfl dX11_forget_16 rfl ?_
  exact tj_ireturn (ty := .int) dX11_forget_17 rfl rfl (Nat.zero_le _) (Nat.zero_le _) (hp _ _ _ h)
def wpX11_isTold (post : Int32 → MM → Int64 → Prop) (M : MM) (tl : Int64) (v1 : Int32) : Prop :=
  wpX11_matchOf (fun r3 M1 t2 => (if r3 = (-4) then post 0 M1 t2 else (vp_in v1 (al 82) ∧ (if (M1 82 (v1 : Int32).toNatClampNeg) = 0 then post 0 M1 t2 else (vp_in ((8 : Int32) + r3) (al 82) ∧ (vp_in v1 (al 82) ∧ wpX11_mirrorOf (fun r9 M7 t8 => (if (M1 82 ((8 : Int32) + r3 : Int32).toNatClampNeg) = r9 then post 1 M7 t8 else post 0 M7 t8)) M1 t2 (M1 82 (v1 : Int32).toNatClampNeg))))))) M tl 0 v1
set_option maxHeartbeats 4000000 in
set_option maxRecDepth 20000 in
theorem ctX11_isTold {E : EV} {ad : Nat → Nat} {M : MM} {tl : Int64} {Φ : Option Value → va_W → Prop} {post : Int32 → MM → Int64 → Prop} {v1 : Int32} (h : wpX11_isTold post M tl v1) (hp : ∀ r M tl, post r M tl → Φ (some (.int r)) (WM E ad M tl)) : Tm E kX11_isTold (WM E ad M tl) [.ref (ad (81)), .int v1] Φ := by
  unfold wpX11_isTold at h
  show T E kX11_isTold 0 0 (WM E ad M tl) 0 [(0, .ref (ad (81))), (1, .int v1)] [] Φ
  refine tj_aload_n rfl dX11_isTold_0 rfl ?_
  refine tj_iconst (v := 0) rfl dX11_isTold_1 (by decide) ?_
  refine tj_iload_n rfl dX11_isTold_2 rfl ?_
  refine cf_V11 (a := 81) (z := kX11_matchOf) (As := [_, _]) rfl rfl dX11_isTold_3 rfl ml_X11_289 okX11_matchOf rfl (rm_ok rfl) (Nat.le_of_ble_eq_true rfl) (Nat.le_of_ble_eq_true rfl) rfl rfl ?_
  refine ctX11_matchOf h (fun r3 M1 t2 h => ?_)
  refine tj_istore_n (l' := [(0, _), (1, _), (2, _)]) rfl dX11_isTold_6 (by decide) rfl ?_
  refine tj_iload_n rfl dX11_isTold_7 rfl ?_
  refine tj_bipush (v := -4) rfl dX11_isTold_8 (by decide) ?_
  refine tj_icmp_eq (tgt := 48) rfl rfl dX11_isTold_10 (fun hc => ?_) (fun hc => ?_)
  · rw [if_pos hc] at h
    refine tj_iconst (v := 0) rfl dX11_isTold_48 (by decide) ?_
    exact tj_ireturn (ty := .boolean) dX11_isTold_49 rfl rfl (Nat.zero_le _) (Nat.zero_le _) (hp _ _ _ h)
  · rw [if_neg hc] at h
    refine tj_aload_n rfl dX11_isTold_13 rfl ?_
    refine gf11_st (a := 81) rfl rfl dX11_isTold_14 fl_X11_7 ?_
    refine tj_iload_n rfl dX11_isTold_17 rfl ?_
    obtain ⟨hi4, h⟩ := h
    refine af_iald (a := 82) rfl rfl dX11_isTold_18 hi4 ?_
    refine tj_if_eq (tgt := 48) rfl rfl dX11_isTold_19 (fun hc => ?_) (fun hc => ?_)
    · rw [if_pos hc] at h
      refine tj_iconst (v := 0) rfl dX11_isTold_48 (by decide) ?_
      exact tj_ireturn (ty := .boolean) dX11_isTold_49 rfl rfl (Nat.zero_le _) (Nat.zero_le _) (hp _ _ _ h)
    · rw [if_neg hc] at h
      refine tj_aload_n rfl dX11_isTold_22 rfl ?_
      refine gf11_st (a := 81) rfl rfl dX11_isTold_23 fl_X11_7 ?_
      refine tj_bipush (v := 8) rfl dX11_isTold_26 (by decide) ?_
      refine tj_iload_n rfl dX11_isTold_28 rfl ?_
      refine tj_iadd rfl dX11_isTold_29 ?_
      obtain ⟨hi5, h⟩ := h
      refine af_iald (a := 82) rfl rfl dX11_isTold_30 hi5 ?_
      refine tj_aload_n rfl dX11_isTold_31 rfl ?_
      refine tj_aload_n rfl dX11_isTold_32 rfl ?_
      refine gf11_st (a := 81) rfl rfl dX11_isTold_33 fl_X11_7 ?_
      refine tj_iload_n rfl dX11_isTold_36 rfl ?_
      obtain ⟨hi6, h⟩ := h
      refine af_iald (a := 82) rfl rfl dX11_isTold_37 hi6 ?_
      refine cf_V11 (a := 81) (z := kX11_mirrorOf) (As := [_]) rfl rfl dX11_isTold_38 rfl ml_X11_276 okX11_mirrorOf rfl (rm_ok rfl) (Nat.le_of_ble_eq_true rfl) (Nat.le_of_ble_eq_true rfl) rfl rfl ?_
      refine ctX11_mirrorOf h (fun r9 M7 t8 h => ?_)
      refine tj_icmp_ne (tgt := 48) rfl rfl dX11_isTold_41 (fun hc => ?_) (fun hc => ?_)
      · rw [if_neg hc] at h
        refine tj_iconst (v := 0) rfl dX11_isTold_48 (by decide) ?_
        exact tj_ireturn (ty := .boolean) dX11_isTold_49 rfl rfl (Nat.zero_le _) (Nat.zero_le _) (hp _ _ _ h)
      · rw [if_pos hc] at h
        refine tj_iconst (v := 1) rfl dX11_isTold_44 (by decide) ?_
        refine tj_goto (tgt := 49) rfl dX11_isTold_45 ?_
        exact tj_ireturn (ty := .boolean) dX11_isTold_49 rfl rfl (Nat.zero_le _) (Nat.zero_le _) (hp _ _ _ h)
def wX11_fits_94 (post : Int32 → MM → Int64 → Prop) (bk6 : MM → Int64 → Int32 → Int32 → Int32 → Int32 → Int32 → Prop) (M : MM) (tl : Int64) (v1 : Int32) (v2 : Int32) (v3 : Int32) (v5 : Int32) (s0 : Int32) : Prop :=
  bk6 M tl v1 v2 v3 s0 (v5 + 1)
set_option maxHeartbeats 4000000 in
set_option maxRecDepth 20000 in
theorem bX11_fits_94 {E : EV} {ad : Nat → Nat} {M : MM} {tl : Int64} {Φ : Option Value → va_W → Prop} {post : Int32 → MM → Int64 → Prop} {bk6 : MM → Int64 → Int32 → Int32 → Int32 → Int32 → Int32 → Prop} {v1 : Int32} {v2 : Int32} {v3 : Int32} {v5 : Int32} {s0 : Int32} (hp : ∀ r M tl, post r M tl → Φ (some (.int r)) (WM E ad M tl)) (hb6 : ∀ (M : MM) (tl : Int64) (v1 : Int32) (v2 : Int32) (v3 : Int32) (v4 : Int32) (v5 : Int32), bk6 M tl v1 v2 v3 v4 v5 → T E kX11_fits 0 0 (WM E ad M tl) 6 [(0, .ref (ad (81))), (1, .int v1), (2, .int v2), (3, .int v3), (4, .int v4), (5, .int v5)] [] Φ) (h : wX11_fits_94 post bk6 M tl v1 v2 v3 v5 s0) : T E kX11_fits 0 0 (WM E ad M tl) 94 [(0, .ref (ad (81))), (1, .int v1), (2, .int v2), (3, .int v3), (5, .int v5)] [.int s0] Φ := by
  unfold wX11_fits_94 at h
  refine tj_istore (l' := [(0, _), (1, _), (2, _), (3, _), (4, _), (5, _)]) rfl dX11_fits_94 (by decide) rfl ?_
  refine tj_iinc (v := _ + 1) (l' := [(0, _), (1, _), (2, _), (3, _), (4, _), (5, _)]) rfl dX11_fits_96 rfl (by decide) rfl rfl ?_
  refine tj_goto (tgt := 6) rfl dX11_fits_99 ?_
  exact hb6 _ _ _ _ _ _ _ h
def wX11_fits_89 (post : Int32 → MM → Int64 → Prop) (bk6 : MM → Int64 → Int32 → Int32 → Int32 → Int32 → Int32 → Prop) (M : MM) (tl : Int64) (v1 : Int32) (v2 : Int32) (v3 : Int32) (v5 : Int32) : Prop :=
  wX11_fits_94 post bk6 M tl v1 v2 v3 v5 1
set_option maxHeartbeats 4000000 in
set_option maxRecDepth 20000 in
theorem bX11_fits_89 {E : EV} {ad : Nat → Nat} {M : MM} {tl : Int64} {Φ : Option Value → va_W → Prop} {post : Int32 → MM → Int64 → Prop} {bk6 : MM → Int64 → Int32 → Int32 → Int32 → Int32 → Int32 → Prop} {v1 : Int32} {v2 : Int32} {v3 : Int32} {v5 : Int32} (hp : ∀ r M tl, post r M tl → Φ (some (.int r)) (WM E ad M tl)) (hb6 : ∀ (M : MM) (tl : Int64) (v1 : Int32) (v2 : Int32) (v3 : Int32) (v4 : Int32) (v5 : Int32), bk6 M tl v1 v2 v3 v4 v5 → T E kX11_fits 0 0 (WM E ad M tl) 6 [(0, .ref (ad (81))), (1, .int v1), (2, .int v2), (3, .int v3), (4, .int v4), (5, .int v5)] [] Φ) (h : wX11_fits_89 post bk6 M tl v1 v2 v3 v5) : T E kX11_fits 0 0 (WM E ad M tl) 89 [(0, .ref (ad (81))), (1, .int v1), (2, .int v2), (3, .int v3), (5, .int v5)] [] Φ := by
  unfold wX11_fits_89 at h
  refine tj_iconst (v := 1) rfl dX11_fits_89 (by decide) ?_
  refine tj_goto (tgt := 94) rfl dX11_fits_90 ?_
  exact bX11_fits_94 hp hb6 h
def wX11_fits_93 (post : Int32 → MM → Int64 → Prop) (bk6 : MM → Int64 → Int32 → Int32 → Int32 → Int32 → Int32 → Prop) (M : MM) (tl : Int64) (v1 : Int32) (v2 : Int32) (v3 : Int32) (v5 : Int32) : Prop :=
  wX11_fits_94 post bk6 M tl v1 v2 v3 v5 0
set_option maxHeartbeats 4000000 in
set_option maxRecDepth 20000 in
theorem bX11_fits_93 {E : EV} {ad : Nat → Nat} {M : MM} {tl : Int64} {Φ : Option Value → va_W → Prop} {post : Int32 → MM → Int64 → Prop} {bk6 : MM → Int64 → Int32 → Int32 → Int32 → Int32 → Int32 → Prop} {v1 : Int32} {v2 : Int32} {v3 : Int32} {v5 : Int32} (hp : ∀ r M tl, post r M tl → Φ (some (.int r)) (WM E ad M tl)) (hb6 : ∀ (M : MM) (tl : Int64) (v1 : Int32) (v2 : Int32) (v3 : Int32) (v4 : Int32) (v5 : Int32), bk6 M tl v1 v2 v3 v4 v5 → T E kX11_fits 0 0 (WM E ad M tl) 6 [(0, .ref (ad (81))), (1, .int v1), (2, .int v2), (3, .int v3), (4, .int v4), (5, .int v5)] [] Φ) (h : wX11_fits_93 post bk6 M tl v1 v2 v3 v5) : T E kX11_fits 0 0 (WM E ad M tl) 93 [(0, .ref (ad (81))), (1, .int v1), (2, .int v2), (3, .int v3), (5, .int v5)] [] Φ := by
  unfold wX11_fits_93 at h
  refine tj_iconst (v := 0) rfl dX11_fits_93 (by decide) ?_
  exact bX11_fits_94 hp hb6 h
def wX11_fits_83 (post : Int32 → MM → Int64 → Prop) (bk6 : MM → Int64 → Int32 → Int32 → Int32 → Int32 → Int32 → Prop) (M : MM) (tl : Int64) (v1 : Int32) (v2 : Int32) (v3 : Int32) (v5 : Int32) (s0 : Int32) (s1 : Int32) : Prop :=
  wpX11_flag (fun r3 M1 t2 => (if s0 = r3 then wX11_fits_89 post bk6 M1 t2 v1 v2 v3 v5 else wX11_fits_93 post bk6 M1 t2 v1 v2 v3 v5)) M tl s1
set_option maxHeartbeats 4000000 in
set_option maxRecDepth 20000 in
theorem bX11_fits_83 {E : EV} {ad : Nat → Nat} {M : MM} {tl : Int64} {Φ : Option Value → va_W → Prop} {post : Int32 → MM → Int64 → Prop} {bk6 : MM → Int64 → Int32 → Int32 → Int32 → Int32 → Int32 → Prop} {v1 : Int32} {v2 : Int32} {v3 : Int32} {v5 : Int32} {s0 : Int32} {s1 : Int32} (hp : ∀ r M tl, post r M tl → Φ (some (.int r)) (WM E ad M tl)) (hb6 : ∀ (M : MM) (tl : Int64) (v1 : Int32) (v2 : Int32) (v3 : Int32) (v4 : Int32) (v5 : Int32), bk6 M tl v1 v2 v3 v4 v5 → T E kX11_fits 0 0 (WM E ad M tl) 6 [(0, .ref (ad (81))), (1, .int v1), (2, .int v2), (3, .int v3), (4, .int v4), (5, .int v5)] [] Φ) (h : wX11_fits_83 post bk6 M tl v1 v2 v3 v5 s0 s1) : T E kX11_fits 0 0 (WM E ad M tl) 83 [(0, .ref (ad (81))), (1, .int v1), (2, .int v2), (3, .int v3), (5, .int v5)] [.int s1, .int s0] Φ := by
  unfold wX11_fits_83 at h
  refine cf_S (z := kX11_flag) (As := [_]) rfl dX11_fits_83 rfl ml_X11_265 okX11_flag rfl (rm_ok rfl) (Nat.le_of_ble_eq_true rfl) (Nat.le_of_ble_eq_true rfl) rfl ?_
  refine ctX11_flag h (fun r3 M1 t2 h => ?_)
  refine tj_icmp_ne (tgt := 93) rfl rfl dX11_fits_86 (fun hc => ?_) (fun hc => ?_)
  · rw [if_neg hc] at h
    exact bX11_fits_93 hp hb6 h
  · rw [if_pos hc] at h
    exact bX11_fits_89 hp hb6 h
def wX11_fits_6 (post : Int32 → MM → Int64 → Prop) : Nat → MM → Int64 → Int32 → Int32 → Int32 → Int32 → Int32 → Prop
  | 0, _, _, _, _, _, _, _ => False
  | n + 1, M, tl, v1, v2, v3, v4, v5 =>
    (vp_in 78 (al 82) ∧ (if (M 82 (78 : Int32).toNatClampNeg) ≤ v5 then (narrow .boolean (.int v4) = .int v4 ∧ post v4 M tl) else (if v4 = 0 then wX11_fits_93 post (wX11_fits_6 post n) M tl v1 v2 v3 v5 else (vp_in ((79 : Int32) + ((4 : Int32) * v5)) (al 82) ∧ (if (M 82 ((79 : Int32) + ((4 : Int32) * v5) : Int32).toNatClampNeg) = v1 then (vp_in (((79 : Int32) + ((4 : Int32) * v5)) + 1) (al 82) ∧ (if (M 82 (((79 : Int32) + ((4 : Int32) * v5)) + 1 : Int32).toNatClampNeg) = v2 then (vp_in (((79 : Int32) + ((4 : Int32) * v5)) + 3) (al 82) ∧ (vp_in (((79 : Int32) + ((4 : Int32) * v5)) + 2) (al 82) ∧ (if (M 82 (((79 : Int32) + ((4 : Int32) * v5)) + 2 : Int32).toNatClampNeg) < v3 then wX11_fits_83 post (wX11_fits_6 post n) M tl v1 v2 v3 v5 (M 82 (((79 : Int32) + ((4 : Int32) * v5)) + 3 : Int32).toNatClampNeg) 0 else wX11_fits_83 post (wX11_fits_6 post n) M tl v1 v2 v3 v5 (M 82 (((79 : Int32) + ((4 : Int32) * v5)) + 3 : Int32).toNatClampNeg) 1))) else wX11_fits_89 post (wX11_fits_6 post n) M tl v1 v2 v3 v5)) else wX11_fits_89 post (wX11_fits_6 post n) M tl v1 v2 v3 v5)))))
set_option maxHeartbeats 4000000 in
set_option maxRecDepth 20000 in
theorem bX11_fits_6 {E : EV} {ad : Nat → Nat} {Φ : Option Value → va_W → Prop} {post : Int32 → MM → Int64 → Prop}  (hp : ∀ r M tl, post r M tl → Φ (some (.int r)) (WM E ad M tl)) : ∀ (n : Nat) (M : MM) (tl : Int64) (v1 : Int32) (v2 : Int32) (v3 : Int32) (v4 : Int32) (v5 : Int32), wX11_fits_6 post n M tl v1 v2 v3 v4 v5 → T E kX11_fits 0 0 (WM E ad M tl) 6 [(0, .ref (ad (81))), (1, .int v1), (2, .int v2), (3, .int v3), (4, .int v4), (5, .int v5)] [] Φ := by
  intro n
  induction n with
  | zero => intro M tl v1 v2 v3 v4 v5 h; exact False.elim h
  | succ n ih =>
    intro M tl v1 v2 v3 v4 v5 h
    unfold wX11_fits_6 at h
    refine tj_iload rfl dX11_fits_6 rfl ?_
    refine tj_aload_n rfl dX11_fits_8 rfl ?_
    refine gf11_st (a := 81) rfl rfl dX11_fits_9 fl_X11_7 ?_
    refine tj_bipush (v := 78) rfl dX11_fits_12 (by decide) ?_
    obtain ⟨hi1, h⟩ := h
    refine af_iald (a := 82) rfl rfl dX11_fits_14 hi1 ?_
    refine tj_icmp_ge (tgt := 102) rfl rfl dX11_fits_15 (fun hc => ?_) (fun hc => ?_)
    · rw [if_pos hc] at h
      refine tj_iload rfl dX11_fits_102 rfl ?_
      obtain ⟨hn2, h⟩ := h
      exact tj_ireturn (ty := .boolean) dX11_fits_104 rfl hn2 (Nat.zero_le _) (Nat.zero_le _) (hp _ _ _ h)
    · rw [if_neg hc] at h
      refine tj_bipush (v := 79) rfl dX11_fits_18 (by decide) ?_
      refine tj_iconst (v := 4) rfl dX11_fits_20 (by decide) ?_
      refine tj_iload rfl dX11_fits_21 rfl ?_
      refine tj_imul rfl dX11_fits_23 ?_
      refine tj_iadd rfl dX11_fits_24 ?_
      refine tj_istore (l' := [(0, _), (1, _), (2, _), (3, _), (4, _), (5, _), (6, _)]) rfl dX11_fits_25 (by decide) rfl ?_
      refine tj_iload rfl dX11_fits_27 rfl ?_
      refine tj_if_eq (tgt := 93) rfl rfl dX11_fits_29 (fun hc => ?_) (fun hc => ?_)
      · rw [if_pos hc] at h
        exact tj_pick (l' := [(0, _), (1, _), (2, _), (3, _), (5, _)]) [0, 1, 2, 3, 5] rfl (bX11_fits_93 hp ih h)
      · rw [if_neg hc] at h
        refine tj_aload_n rfl dX11_fits_32 rfl ?_
        refine gf11_st (a := 81) rfl rfl dX11_fits_33 fl_X11_7 ?_
        refine tj_iload rfl dX11_fits_36 rfl ?_
        obtain ⟨hi3, h⟩ := h
        refine af_iald (a := 82) rfl rfl dX11_fits_38 hi3 ?_
        refine tj_iload_n rfl dX11_fits_39 rfl ?_
        refine tj_icmp_ne (tgt := 89) rfl rfl dX11_fits_40 (fun hc => ?_) (fun hc => ?_)
        · rw [if_neg hc] at h
          exact tj_pick (l' := [(0, _), (1, _), (2, _), (3, _), (5, _)]) [0, 1, 2, 3, 5] rfl (bX11_fits_89 hp ih h)
        · rw [if_pos hc] at h
          refine tj_aload_n rfl dX11_fits_43 rfl ?_
          refine gf11_st (a := 81) rfl rfl dX11_fits_44 fl_X11_7 ?_
          refine tj_iload rfl dX11_fits_47 rfl ?_
          refine tj_iconst (v := 1) rfl dX11_fits_49 (by decide) ?_
          refine tj_iadd rfl dX11_fits_50 ?_
          obtain ⟨hi4, h⟩ := h
          refine af_iald (a := 82) rfl rfl dX11_fits_51 hi4 ?_
          refine tj_iload_n rfl dX11_fits_52 rfl ?_
          refine tj_icmp_ne (tgt := 89) rfl rfl dX11_fits_53 (fun hc => ?_) (fun hc => ?_)
          · rw [if_neg hc] at h
            exact tj_pick (l' := [(0, _), (1, _), (2, _), (3, _), (5, _)]) [0, 1, 2, 3, 5] rfl (bX11_fits_89 hp ih h)
          · rw [if_pos hc] at h
            refine tj_aload_n rfl dX11_fits_56 rfl ?_
            refine gf11_st (a := 81) rfl rfl dX11_fits_57 fl_X11_7 ?_
            refine tj_iload rfl dX11_fits_60 rfl ?_
            refine tj_iconst (v := 3) rfl dX11_fits_62 (by decide) ?_
            refine tj_iadd rfl dX11_fits_63 ?_
            obtain ⟨hi5, h⟩ := h
            refine af_iald (a := 82) rfl rfl dX11_fits_64 hi5 ?_
            refine tj_aload_n rfl dX11_fits_65 rfl ?_
            refine gf11_st (a := 81) rfl rfl dX11_fits_66 fl_X11_7 ?_
            refine tj_iload rfl dX11_fits_69 rfl ?_
            refine tj_iconst (v := 2) rfl dX11_fits_71 (by decide) ?_
            refine tj_iadd rfl dX11_fits_72 ?_
            obtain ⟨hi6, h⟩ := h
            refine af_iald (a := 82) rfl rfl dX11_fits_73 hi6 ?_
            refine tj_iload_n rfl dX11_fits_74 rfl ?_
            refine tj_icmp_lt (tgt := 82) rfl rfl dX11_fits_75 (fun hc => ?_) (fun hc => ?_)
            · rw [if_pos hc] at h
              refine tj_iconst (v := 0) rfl dX11_fits_82 (by decide) ?_
              exact tj_pick (l' := [(0, _), (1, _), (2, _), (3, _), (5, _)]) [0, 1, 2, 3, 5] rfl (bX11_fits_83 hp ih h)
            · rw [if_neg hc] at h
              refine tj_iconst (v := 1) rfl dX11_fits_78 (by decide) ?_
              refine tj_goto (tgt := 83) rfl dX11_fits_79 ?_
              exact tj_pick (l' := [(0, _), (1, _), (2, _), (3, _), (5, _)]) [0, 1, 2, 3, 5] rfl (bX11_fits_83 hp ih h)
def wpX11_fits (post : Int32 → MM → Int64 → Prop) (M : MM) (tl : Int64) (v1 : Int32) (v2 : Int32) (v3 : Int32) : Prop :=
  (∃ n9, wX11_fits_6 post  n9 M tl v1 v2 v3 1 0)
set_option maxHeartbeats 4000000 in
set_option maxRecDepth 20000 in
theorem ctX11_fits {E : EV} {ad : Nat → Nat} {M : MM} {tl : Int64} {Φ : Option Value → va_W → Prop} {post : Int32 → MM → Int64 → Prop} {v1 : Int32} {v2 : Int32} {v3 : Int32} (h : wpX11_fits post M tl v1 v2 v3) (hp : ∀ r M tl, post r M tl → Φ (some (.int r)) (WM E ad M tl)) : Tm E kX11_fits (WM E ad M tl) [.ref (ad (81)), .int v1, .int v2, .int v3] Φ := by
  unfold wpX11_fits at h
  show T E kX11_fits 0 0 (WM E ad M tl) 0 [(0, .ref (ad (81))), (1, .int v1), (2, .int v2), (3, .int v3)] [] Φ
  refine tj_iconst (v := 1) rfl dX11_fits_0 (by decide) ?_
  refine tj_istore (l' := [(0, _), (1, _), (2, _), (3, _), (4, _)]) rfl dX11_fits_1 (by decide) rfl ?_
  refine tj_iconst (v := 0) rfl dX11_fits_3 (by decide) ?_
  refine tj_istore (l' := [(0, _), (1, _), (2, _), (3, _), (4, _), (5, _)]) rfl dX11_fits_4 (by decide) rfl ?_
  obtain ⟨n9, h⟩ := h
  exact bX11_fits_6 hp  n9 _ _ _ _ _ _ _ h
def wX11_waysOf_84 (post : Int32 → MM → Int64 → Prop) (M : MM) (tl : Int64) (s0 : Int32) (s1 : Int32) : Prop :=
  wpX11_flag (fun r3 M1 t2 => post (s0 + r3) M1 t2) M tl s1
set_option maxHeartbeats 4000000 in
set_option maxRecDepth 20000 in
theorem bX11_waysOf_84 {E : EV} {ad : Nat → Nat} {M : MM} {tl : Int64} {Φ : Option Value → va_W → Prop} {post : Int32 → MM → Int64 → Prop} {s0 : Int32} {s1 : Int32} (hp : ∀ r M tl, post r M tl → Φ (some (.int r)) (WM E ad M tl)) (h : wX11_waysOf_84 post M tl s0 s1) : T E kX11_waysOf 0 0 (WM E ad M tl) 84 [] [.int s1, .int s0] Φ := by
  unfold wX11_waysOf_84 at h
  refine cf_S (z := kX11_flag) (As := [_]) rfl dX11_waysOf_84 rfl ml_X11_265 okX11_flag rfl (rm_ok rfl) (Nat.le_of_ble_eq_true rfl) (Nat.le_of_ble_eq_true rfl) rfl ?_
  refine ctX11_flag h (fun r3 M1 t2 h => ?_)
  refine tj_iadd rfl dX11_waysOf_87 ?_
  exact tj_ireturn (ty := .int) dX11_waysOf_88 rfl rfl (Nat.zero_le _) (Nat.zero_le _) (hp _ _ _ h)
def wX11_waysOf_83 (post : Int32 → MM → Int64 → Prop) (M : MM) (tl : Int64) (s0 : Int32) : Prop :=
  wX11_waysOf_84 post  M tl s0 0
set_option maxHeartbeats 4000000 in
set_option maxRecDepth 20000 in
theorem bX11_waysOf_83 {E : EV} {ad : Nat → Nat} {M : MM} {tl : Int64} {Φ : Option Value → va_W → Prop} {post : Int32 → MM → Int64 → Prop} {s0 : Int32} (hp : ∀ r M tl, post r M tl → Φ (some (.int r)) (WM E ad M tl)) (h : wX11_waysOf_83 post M tl s0) : T E kX11_waysOf 0 0 (WM E ad M tl) 83 [] [.int s0] Φ := by
  unfold wX11_waysOf_83 at h
  refine tj_iconst (v := 0) rfl dX11_waysOf_83 (by decide) ?_
  exact bX11_waysOf_84 hp  h
def wX11_waysOf_30 (post : Int32 → MM → Int64 → Prop) (M : MM) (tl : Int64) (v2 : Int32) (v3 : Int32) (v4 : Int32) (v6 : Int32) (s0 : Int32) : Prop :=
  wpX11_fits (fun r3 M1 t2 => (if r3 = 0 then post 0 M1 t2 else wpX11_fits (fun r6 M4 t5 => wpX11_flag (fun r9 M7 t8 => (if v4 ≤ v3 then wX11_waysOf_83 post  M7 t8 r9 else wpX11_fits (fun r12 M10 t11 => (if r12 = 0 then wX11_waysOf_83 post  M10 t11 r9 else wX11_waysOf_84 post  M10 t11 r9 1)) M7 t8 ((1 : Int32) - v2) s0 (v3 + 1))) M4 t5 r6) M1 t2 ((1 : Int32) - v2) s0 v3)) M tl v2 v6 v3
set_option maxHeartbeats 4000000 in
set_option maxRecDepth 20000 in
theorem bX11_waysOf_30 {E : EV} {ad : Nat → Nat} {M : MM} {tl : Int64} {Φ : Option Value → va_W → Prop} {post : Int32 → MM → Int64 → Prop} {v2 : Int32} {v3 : Int32} {v4 : Int32} {v6 : Int32} {s0 : Int32} (hp : ∀ r M tl, post r M tl → Φ (some (.int r)) (WM E ad M tl)) (h : wX11_waysOf_30 post M tl v2 v3 v4 v6 s0) : T E kX11_waysOf 0 0 (WM E ad M tl) 30 [(0, .ref (ad (81))), (2, .int v2), (3, .int v3), (4, .int v4), (6, .int v6)] [.int s0] Φ := by
  unfold wX11_waysOf_30 at h
  refine tj_istore (l' := [(0, _), (2, _), (3, _), (4, _), (6, _), (7, _)]) rfl dX11_waysOf_30 (by decide) rfl ?_
  refine tj_aload_n rfl dX11_waysOf_32 rfl ?_
  refine tj_iload_n rfl dX11_waysOf_33 rfl ?_
  refine tj_iload rfl dX11_waysOf_34 rfl ?_
  refine tj_iload_n rfl dX11_waysOf_36 rfl ?_
  refine cf_V11 (a := 81) (z := kX11_fits) (As := [_, _, _]) rfl rfl dX11_waysOf_37 rfl ml_X11_352 okX11_fits rfl (rm_ok rfl) (Nat.le_of_ble_eq_true rfl) (Nat.le_of_ble_eq_true rfl) rfl rfl ?_
  refine ctX11_fits h (fun r3 M1 t2 h => ?_)
  refine tj_if_ne (tgt := 45) rfl rfl dX11_waysOf_40 (fun hc => ?_) (fun hc => ?_)
  · rw [if_neg hc] at h
    refine tj_aload_n rfl dX11_waysOf_45 rfl ?_
    refine tj_iconst (v := 1) rfl dX11_waysOf_46 (by decide) ?_
    refine tj_iload_n rfl dX11_waysOf_47 rfl ?_
    refine tj_isub rfl dX11_waysOf_48 ?_
    refine tj_iload rfl dX11_waysOf_49 rfl ?_
    refine tj_iload_n rfl dX11_waysOf_51 rfl ?_
    refine cf_V11 (a := 81) (z := kX11_fits) (As := [_, _, _]) rfl rfl dX11_waysOf_52 rfl ml_X11_352 okX11_fits rfl (rm_ok rfl) (Nat.le_of_ble_eq_true rfl) (Nat.le_of_ble_eq_true rfl) rfl rfl ?_
    refine ctX11_fits h (fun r6 M4 t5 h => ?_)
    refine cf_S (z := kX11_flag) (As := [_]) rfl dX11_waysOf_55 rfl ml_X11_265 okX11_flag rfl (rm_ok rfl) (Nat.le_of_ble_eq_true rfl) (Nat.le_of_ble_eq_true rfl) rfl ?_
    refine ctX11_flag h (fun r9 M7 t8 h => ?_)
    refine tj_iload_n rfl dX11_waysOf_58 rfl ?_
    refine tj_iload rfl dX11_waysOf_59 rfl ?_
    refine tj_icmp_ge (tgt := 83) rfl rfl dX11_waysOf_61 (fun hc => ?_) (fun hc => ?_)
    · rw [if_pos hc] at h
      exact tj_pick (l' := []) [] rfl (bX11_waysOf_83 hp  h)
    · rw [if_neg hc] at h
      refine tj_aload_n rfl dX11_waysOf_64 rfl ?_
      refine tj_iconst (v := 1) rfl dX11_waysOf_65 (by decide) ?_
      refine tj_iload_n rfl dX11_waysOf_66 rfl ?_
      refine tj_isub rfl dX11_waysOf_67 ?_
      refine tj_iload rfl dX11_waysOf_68 rfl ?_
      refine tj_iload_n rfl dX11_waysOf_70 rfl ?_
      refine tj_iconst (v := 1) rfl dX11_waysOf_71 (by decide) ?_
      refine tj_iadd rfl dX11_waysOf_72 ?_
      refine cf_V11 (a := 81) (z := kX11_fits) (As := [_, _, _]) rfl rfl dX11_waysOf_73 rfl ml_X11_352 okX11_fits rfl (rm_ok rfl) (Nat.le_of_ble_eq_true rfl) (Nat.le_of_ble_eq_true rfl) rfl rfl ?_
      refine ctX11_fits h (fun r12 M10 t11 h => ?_)
      refine tj_if_eq (tgt := 83) rfl rfl dX11_waysOf_76 (fun hc => ?_) (fun hc => ?_)
      · rw [if_pos hc] at h
        exact tj_pick (l' := []) [] rfl (bX11_waysOf_83 hp  h)
      · rw [if_neg hc] at h
        refine tj_iconst (v := 1) rfl dX11_waysOf_79 (by decide) ?_
        refine tj_goto (tgt := 84) rfl dX11_waysOf_80 ?_
        exact tj_pick (l' := []) [] rfl (bX11_waysOf_84 hp  h)
  · rw [if_pos hc] at h
    refine tj_iconst (v := 0) rfl dX11_waysOf_43 (by decide) ?_
    exact tj_ireturn (ty := .int) dX11_waysOf_44 rfl rfl (Nat.zero_le _) (Nat.zero_le _) (hp _ _ _ h)
def wX11_waysOf_18 (post : Int32 → MM → Int64 → Prop) (M : MM) (tl : Int64) (v1 : Int32) (v2 : Int32) (v3 : Int32) (v4 : Int32) (v5 : Int32) (s0 : Int32) : Prop :=
  (if v2 = 0 then wX11_waysOf_30 post  M tl v2 v3 v4 s0 v5 else wX11_waysOf_30 post  M tl v2 v3 v4 s0 v1)
set_option maxHeartbeats 4000000 in
set_option maxRecDepth 20000 in
theorem bX11_waysOf_18 {E : EV} {ad : Nat → Nat} {M : MM} {tl : Int64} {Φ : Option Value → va_W → Prop} {post : Int32 → MM → Int64 → Prop} {v1 : Int32} {v2 : Int32} {v3 : Int32} {v4 : Int32} {v5 : Int32} {s0 : Int32} (hp : ∀ r M tl, post r M tl → Φ (some (.int r)) (WM E ad M tl)) (h : wX11_waysOf_18 post M tl v1 v2 v3 v4 v5 s0) : T E kX11_waysOf 0 0 (WM E ad M tl) 18 [(0, .ref (ad (81))), (1, .int v1), (2, .int v2), (3, .int v3), (4, .int v4), (5, .int v5)] [.int s0] Φ := by
  unfold wX11_waysOf_18 at h
  refine tj_istore (l' := [(0, _), (1, _), (2, _), (3, _), (4, _), (5, _), (6, _)]) rfl dX11_waysOf_18 (by decide) rfl ?_
  refine tj_iload_n rfl dX11_waysOf_20 rfl ?_
  refine tj_if_ne (tgt := 29) rfl rfl dX11_waysOf_21 (fun hc => ?_) (fun hc => ?_)
  · rw [if_neg hc] at h
    refine tj_iload_n rfl dX11_waysOf_29 rfl ?_
    exact tj_pick (l' := [(0, _), (2, _), (3, _), (4, _), (6, _)]) [0, 2, 3, 4, 6] rfl (bX11_waysOf_30 hp  h)
  · rw [if_pos hc] at h
    refine tj_iload rfl dX11_waysOf_24 rfl ?_
    refine tj_goto (tgt := 30) rfl dX11_waysOf_26 ?_
    exact tj_pick (l' := [(0, _), (2, _), (3, _), (4, _), (6, _)]) [0, 2, 3, 4, 6] rfl (bX11_waysOf_30 hp  h)
def wpX11_waysOf (post : Int32 → MM → Int64 → Prop) (M : MM) (tl : Int64) (v1 : Int32) (v2 : Int32) (v3 : Int32) (v4 : Int32) : Prop :=
  wpX11_matchOf (fun r3 M1 t2 => (if v2 = 0 then wX11_waysOf_18 post  M1 t2 v1 v2 v3 v4 r3 v1 else wX11_waysOf_18 post  M1 t2 v1 v2 v3 v4 r3 r3)) M tl 0 v1
set_option maxHeartbeats 4000000 in
set_option maxRecDepth 20000 in
theorem ctX11_waysOf {E : EV} {ad : Nat → Nat} {M : MM} {tl : Int64} {Φ : Option Value → va_W → Prop} {post : Int32 → MM → Int64 → Prop} {v1 : Int32} {v2 : Int32} {v3 : Int32} {v4 : Int32} (h : wpX11_waysOf post M tl v1 v2 v3 v4) (hp : ∀ r M tl, post r M tl → Φ (some (.int r)) (WM E ad M tl)) : Tm E kX11_waysOf (WM E ad M tl) [.ref (ad (81)), .int v1, .int v2, .int v3, .int v4] Φ := by
  unfold wpX11_waysOf at h
  show T E kX11_waysOf 0 0 (WM E ad M tl) 0 [(0, .ref (ad (81))), (1, .int v1), (2, .int v2), (3, .int v3), (4, .int v4)] [] Φ
  refine tj_aload_n rfl dX11_waysOf_0 rfl ?_
  refine tj_iconst (v := 0) rfl dX11_waysOf_1 (by decide) ?_
  refine tj_iload_n rfl dX11_waysOf_2 rfl ?_
  refine cf_V11 (a := 81) (z := kX11_matchOf) (As := [_, _]) rfl rfl dX11_waysOf_3 rfl ml_X11_289 okX11_matchOf rfl (rm_ok rfl) (Nat.le_of_ble_eq_true rfl) (Nat.le_of_ble_eq_true rfl) rfl rfl ?_
  refine ctX11_matchOf h (fun r3 M1 t2 h => ?_)
  refine tj_istore (l' := [(0, _), (1, _), (2, _), (3, _), (4, _), (5, _)]) rfl dX11_waysOf_6 (by decide) rfl ?_
  refine tj_iload_n rfl dX11_waysOf_8 rfl ?_
  refine tj_if_ne (tgt := 16) rfl rfl dX11_waysOf_9 (fun hc => ?_) (fun hc => ?_)
  · rw [if_neg hc] at h
    refine tj_iload rfl dX11_waysOf_16 rfl ?_
    exact bX11_waysOf_18 hp  h
  · rw [if_pos hc] at h
    refine tj_iload_n rfl dX11_waysOf_12 rfl ?_
    refine tj_goto (tgt := 18) rfl dX11_waysOf_13 ?_
    exact bX11_waysOf_18 hp  h
def wX11_histories_89 (post : Int64 → MM → Int64 → Prop) (bk21 : MM → Int64 → Int32 → Int64 → Int32 → Prop) (M : MM) (tl : Int64) (v1 : Int32) (v2 : Int64) (v4 : Int32) : Prop :=
  bk21 M tl v1 v2 (v4 + 1)
set_option maxHeartbeats 4000000 in
set_option maxRecDepth 20000 in
theorem bX11_histories_89 {E : EV} {ad : Nat → Nat} {M : MM} {tl : Int64} {Φ : Option Value → va_W → Prop} {post : Int64 → MM → Int64 → Prop} {bk21 : MM → Int64 → Int32 → Int64 → Int32 → Prop} {v1 : Int32} {v2 : Int64} {v4 : Int32} (hp : ∀ r M tl, post r M tl → Φ (some (.long r)) (WM E ad M tl)) (hb21 : ∀ (M : MM) (tl : Int64) (v1 : Int32) (v2 : Int64) (v4 : Int32), bk21 M tl v1 v2 v4 → T E kX11_histories 0 0 (WM E ad M tl) 21 [(0, .ref (ad (81))), (1, .int v1), (2, .long v2), (4, .int v4)] [] Φ) (h : wX11_histories_89 post bk21 M tl v1 v2 v4) : T E kX11_histories 0 0 (WM E ad M tl) 89 [(0, .ref (ad (81))), (1, .int v1), (2, .long v2), (4, .int v4)] [] Φ := by
  unfold wX11_histories_89 at h
  refine tj_iinc (v := _ + 1) (l' := [(0, _), (1, _), (2, _), (4, _)]) rfl dX11_histories_89 rfl (by decide) rfl rfl ?_
  refine tj_goto (tgt := 21) rfl dX11_histories_92 ?_
  exact hb21 _ _ _ _ _ h
def wX11_histories_45 (post : Int64 → MM → Int64 → Prop) (bk21 : MM → Int64 → Int32 → Int64 → Int32 → Prop) : Nat → MM → Int64 → Int32 → Int64 → Int32 → Int64 → Int32 → Prop
  | 0, _, _, _, _, _, _, _ => False
  | n + 1, M, tl, v1, v2, v4, v5, v7 =>
    (if v1 < v7 then wX11_histories_89 post bk21 M tl v1 (v2 * v5) v4 else wpX11_waysOf (fun r3 M1 t2 => wpX11_waysOf (fun r6 M4 t5 => (wX11_histories_45 post bk21 n) M4 t5 v1 v2 v4 (v5 + ((r3 + r6 : Int32).toInt64)) (v7 + 1)) M1 t2 v4 1 v7 v1) M tl v4 0 v7 v1)
set_option maxHeartbeats 4000000 in
set_option maxRecDepth 20000 in
theorem bX11_histories_45 {E : EV} {ad : Nat → Nat} {Φ : Option Value → va_W → Prop} {post : Int64 → MM → Int64 → Prop} {bk21 : MM → Int64 → Int32 → Int64 → Int32 → Prop}  (hp : ∀ r M tl, post r M tl → Φ (some (.long r)) (WM E ad M tl)) (hb21 : ∀ (M : MM) (tl : Int64) (v1 : Int32) (v2 : Int64) (v4 : Int32), bk21 M tl v1 v2 v4 → T E kX11_histories 0 0 (WM E ad M tl) 21 [(0, .ref (ad (81))), (1, .int v1), (2, .long v2), (4, .int v4)] [] Φ) : ∀ (n : Nat) (M : MM) (tl : Int64) (v1 : Int32) (v2 : Int64) (v4 : Int32) (v5 : Int64) (v7 : Int32), wX11_histories_45 post bk21 n M tl v1 v2 v4 v5 v7 → T E kX11_histories 0 0 (WM E ad M tl) 45 [(0, .ref (ad (81))), (1, .int v1), (2, .long v2), (4, .int v4), (5, .long v5), (7, .int v7)] [] Φ := by
  intro n
  induction n with
  | zero => intro M tl v1 v2 v4 v5 v7 h; exact False.elim h
  | succ n ih =>
    intro M tl v1 v2 v4 v5 v7 h
    unfold wX11_histories_45 at h
    refine tj_iload rfl dX11_histories_45 rfl ?_
    refine tj_iload_n rfl dX11_histories_47 rfl ?_
    refine tj_icmp_gt (tgt := 84) rfl rfl dX11_histories_48 (fun hc => ?_) (fun hc => ?_)
    · rw [if_pos hc] at h
      refine tj_lload_n rfl dX11_histories_84 rfl ?_
      refine tj_lload rfl dX11_histories_85 rfl ?_
      refine tj_lmul rfl dX11_histories_87 ?_
      refine tj_lstore_n (l' := [(0, _), (1, _), (2, _), (4, _), (5, _), (7, _)]) rfl dX11_histories_88 (by decide) rfl ?_
      exact tj_pick (l' := [(0, _), (1, _), (2, _), (4, _)]) [0, 1, 2, 3] rfl (bX11_histories_89 hp hb21 h)
    · rw [if_neg hc] at h
      refine tj_lload rfl dX11_histories_51 rfl ?_
      refine tj_aload_n rfl dX11_histories_53 rfl ?_
      refine tj_iload rfl dX11_histories_54 rfl ?_
      refine tj_iconst (v := 0) rfl dX11_histories_56 (by decide) ?_
      refine tj_iload rfl dX11_histories_57 rfl ?_
      refine tj_iload_n rfl dX11_histories_59 rfl ?_
      refine cf_V11 (a := 81) (z := kX11_waysOf) (As := [_, _, _, _]) rfl rfl dX11_histories_60 rfl ml_X11_360 okX11_waysOf rfl (rm_ok rfl) (Nat.le_of_ble_eq_true rfl) (Nat.le_of_ble_eq_true rfl) rfl rfl ?_
      refine ctX11_waysOf h (fun r3 M1 t2 h => ?_)
      refine tj_aload_n rfl dX11_histories_63 rfl ?_
      refine tj_iload rfl dX11_histories_64 rfl ?_
      refine tj_iconst (v := 1) rfl dX11_histories_66 (by decide) ?_
      refine tj_iload rfl dX11_histories_67 rfl ?_
      refine tj_iload_n rfl dX11_histories_69 rfl ?_
      refine cf_V11 (a := 81) (z := kX11_waysOf) (As := [_, _, _, _]) rfl rfl dX11_histories_70 rfl ml_X11_360 okX11_waysOf rfl (rm_ok rfl) (Nat.le_of_ble_eq_true rfl) (Nat.le_of_ble_eq_true rfl) rfl rfl ?_
      refine ctX11_waysOf h (fun r6 M4 t5 h => ?_)
      refine tj_iadd rfl dX11_histories_73 ?_
      refine tj_i2l rfl dX11_histories_74 ?_
      refine tj_ladd rfl dX11_histories_75 ?_
      refine tj_lstore (l' := [(0, _), (1, _), (2, _), (4, _), (5, _), (7, _)]) rfl dX11_histories_76 (by decide) rfl ?_
      refine tj_iinc (v := _ + 1) (l' := [(0, _), (1, _), (2, _), (4, _), (5, _), (7, _)]) rfl dX11_histories_78 rfl (by decide) rfl rfl ?_
      refine tj_goto (tgt := 45) rfl dX11_histories_81 ?_
      exact ih _ _ _ _ _ _ _ h
def wX11_histories_21 (post : Int64 → MM → Int64 → Prop) : Nat → MM → Int64 → Int32 → Int64 → Int32 → Prop
  | 0, _, _, _, _, _ => False
  | n + 1, M, tl, v1, v2, v4 =>
    (if (M 81 2) ≤ v4 then post v2 M tl else wpX11_isTold (fun r3 M1 t2 => (if r3 = 0 then wX11_histories_89 post (wX11_histories_21 post n) M1 t2 v1 v2 v4 else (∃ n9, wX11_histories_45 post (wX11_histories_21 post n) n9 M1 t2 v1 v2 v4 0 0))) M tl v4)
set_option maxHeartbeats 4000000 in
set_option maxRecDepth 20000 in
theorem bX11_histories_21 {E : EV} {ad : Nat → Nat} {Φ : Option Value → va_W → Prop} {post : Int64 → MM → Int64 → Prop}  (hp : ∀ r M tl, post r M tl → Φ (some (.long r)) (WM E ad M tl)) : ∀ (n : Nat) (M : MM) (tl : Int64) (v1 : Int32) (v2 : Int64) (v4 : Int32), wX11_histories_21 post n M tl v1 v2 v4 → T E kX11_histories 0 0 (WM E ad M tl) 21 [(0, .ref (ad (81))), (1, .int v1), (2, .long v2), (4, .int v4)] [] Φ := by
  intro n
  induction n with
  | zero => intro M tl v1 v2 v4 h; exact False.elim h
  | succ n ih =>
    intro M tl v1 v2 v4 h
    unfold wX11_histories_21 at h
    refine tj_iload rfl dX11_histories_21 rfl ?_
    refine tj_aload_n rfl dX11_histories_23 rfl ?_
    refine gf11_lots (a := 81) rfl rfl dX11_histories_24 fl_X11_129 ?_
    refine tj_icmp_ge (tgt := 95) rfl rfl dX11_histories_27 (fun hc => ?_) (fun hc => ?_)
    · rw [if_pos hc] at h
      refine tj_lload_n rfl dX11_histories_95 rfl ?_
      exact tj_lreturn dX11_histories_96 rfl (Nat.zero_le _) (Nat.zero_le _) (hp _ _ _ h)
    · rw [if_neg hc] at h
      refine tj_aload_n rfl dX11_histories_30 rfl ?_
      refine tj_iload rfl dX11_histories_31 rfl ?_
      refine cf_V11 (a := 81) (z := kX11_isTold) (As := [_]) rfl rfl dX11_histories_33 rfl ml_X11_357 okX11_isTold rfl (rm_ok rfl) (Nat.le_of_ble_eq_true rfl) (Nat.le_of_ble_eq_true rfl) rfl rfl ?_
      refine ctX11_isTold h (fun r3 M1 t2 h => ?_)
      refine tj_if_eq (tgt := 89) rfl rfl dX11_histories_36 (fun hc => ?_) (fun hc => ?_)
      · rw [if_pos hc] at h
        exact bX11_histories_89 hp ih h
      · rw [if_neg hc] at h
        refine tj_lconst (v := 0) rfl dX11_histories_39 (by decide) ?_
        refine tj_lstore (l' := [(0, _), (1, _), (2, _), (4, _), (5, _)]) rfl dX11_histories_40 (by decide) rfl ?_
        refine tj_iconst (v := 0) rfl dX11_histories_42 (by decide) ?_
        refine tj_istore (l' := [(0, _), (1, _), (2, _), (4, _), (5, _), (7, _)]) rfl dX11_histories_43 (by decide) rfl ?_
        obtain ⟨n9, h⟩ := h
        exact bX11_histories_45 hp ih n9 _ _ _ _ _ _ _ h
def wpX11_histories (post : Int64 → MM → Int64 → Prop) (M : MM) (tl : Int64) (v1 : Int32) : Prop :=
  wpX11_in (fun r3 M1 t2 => (if r3 = 0 then post (-1) M1 t2 else (∃ n9, wX11_histories_21 post  n9 M1 t2 v1 1 0))) M tl ((v1 : Int32).toInt64) 0 23
set_option maxHeartbeats 4000000 in
set_option maxRecDepth 20000 in
theorem ctX11_histories {E : EV} {ad : Nat → Nat} {M : MM} {tl : Int64} {Φ : Option Value → va_W → Prop} {post : Int64 → MM → Int64 → Prop} {v1 : Int32} (h : wpX11_histories post M tl v1) (hp : ∀ r M tl, post r M tl → Φ (some (.long r)) (WM E ad M tl)) : Tm E kX11_histories (WM E ad M tl) [.ref (ad (81)), .int v1] Φ := by
  unfold wpX11_histories at h
  show T E kX11_histories 0 0 (WM E ad M tl) 0 [(0, .ref (ad (81))), (1, .int v1)] [] Φ
  refine tj_iload_n rfl dX11_histories_0 rfl ?_
  refine tj_i2l rfl dX11_histories_1 ?_
  refine tj_lconst (v := 0) rfl dX11_histories_2 (by decide) ?_
  refine tj_ldc2 rfl dX11_histories_3 kl_X11_318 ?_
  refine cf_S (z := kX11_in) (As := [_, _, _]) rfl dX11_histories_6 rfl ml_X11_146 okX11_in rfl (rm_ok rfl) (Nat.le_of_ble_eq_true rfl) (Nat.le_of_ble_eq_true rfl) rfl ?_
  refine ctX11_in h (fun r3 M1 t2 h => ?_)
  refine tj_if_ne (tgt := 16) rfl rfl dX11_histories_9 (fun hc => ?_) (fun hc => ?_)
  · rw [if_neg hc] at h
    refine tj_lconst (v := 1) rfl dX11_histories_16 (by decide) ?_
    refine tj_lstore_n (l' := [(0, _), (1, _), (2, _)]) rfl dX11_histories_17 (by decide) rfl ?_
    refine tj_iconst (v := 0) rfl dX11_histories_18 (by decide) ?_
    refine tj_istore (l' := [(0, _), (1, _), (2, _), (4, _)]) rfl dX11_histories_19 (by decide) rfl ?_
    obtain ⟨n9, h⟩ := h
    exact bX11_histories_21 hp  n9 _ _ _ _ _ h
  · rw [if_pos hc] at h
    refine tj_ldc2 rfl dX11_histories_12 kl_X11_355 ?_
    exact tj_lreturn dX11_histories_15 rfl (Nat.zero_le _) (Nat.zero_le _) (hp _ _ _ h)
def wX11_began_144 (post : Int32 → MM → Int64 → Prop) (bk63 : MM → Int64 → Int32 → Int32 → Int32 → Int32 → Int32 → Int32 → Int32 → Int32 → Prop) (M : MM) (tl : Int64) (v1 : Int32) (v2 : Int32) (v3 : Int32) (v4 : Int32) (v5 : Int32) (v6 : Int32) (v8 : Int32) (s0 : Int32) : Prop :=
  bk63 M tl v1 v2 v3 v4 v5 v6 s0 (v8 + 1)
set_option maxHeartbeats 4000000 in
set_option maxRecDepth 20000 in
theorem bX11_began_144 {E : EV} {ad : Nat → Nat} {M : MM} {tl : Int64} {Φ : Option Value → va_W → Prop} {post : Int32 → MM → Int64 → Prop} {bk63 : MM → Int64 → Int32 → Int32 → Int32 → Int32 → Int32 → Int32 → Int32 → Int32 → Prop} {v1 : Int32} {v2 : Int32} {v3 : Int32} {v4 : Int32} {v5 : Int32} {v6 : Int32} {v8 : Int32} {s0 : Int32} (hp : ∀ r M tl, post r M tl → Φ (some (.int r)) (WM E ad M tl)) (hb63 : ∀ (M : MM) (tl : Int64) (v1 : Int32) (v2 : Int32) (v3 : Int32) (v4 : Int32) (v5 : Int32) (v6 : Int32) (v7 : Int32) (v8 : Int32), bk63 M tl v1 v2 v3 v4 v5 v6 v7 v8 → T E kX11_began 0 0 (WM E ad M tl) 63 [(0, .ref (ad (81))), (1, .int v1), (2, .int v2), (3, .int v3), (4, .int v4), (5, .int v5), (6, .int v6), (7, .int v7), (8, .int v8)] [] Φ) (h : wX11_began_144 post bk63 M tl v1 v2 v3 v4 v5 v6 v8 s0) : T E kX11_began 0 0 (WM E ad M tl) 144 [(0, .ref (ad (81))), (1, .int v1), (2, .int v2), (3, .int v3), (4, .int v4), (5, .int v5), (6, .int v6), (8, .int v8)] [.int s0] Φ := by
  unfold wX11_began_144 at h
  refine tj_istore (l' := [(0, _), (1, _), (2, _), (3, _), (4, _), (5, _), (6, _), (7, _), (8, _)]) rfl dX11_began_144 (by decide) rfl ?_
  refine tj_iinc (v := _ + 1) (l' := [(0, _), (1, _), (2, _), (3, _), (4, _), (5, _), (6, _), (7, _), (8, _)]) rfl dX11_began_146 rfl (by decide) rfl rfl ?_
  refine tj_goto (tgt := 63) rfl dX11_began_149 ?_
  exact hb63 _ _ _ _ _ _ _ _ _ _ h
def wX11_began_127 (post : Int32 → MM → Int64 → Prop) (bk63 : MM → Int64 → Int32 → Int32 → Int32 → Int32 → Int32 → Int32 → Int32 → Int32 → Prop) (M : MM) (tl : Int64) (v1 : Int32) (v2 : Int32) (v3 : Int32) (v4 : Int32) (v5 : Int32) (v7 : Int32) (v8 : Int32) (v9 : Int32) (v10 : Int32) (s0 : Int32) : Prop :=
  (if (v9 + v10) ≤ 0 then wX11_began_144 post bk63 M tl v1 v2 v3 v4 v5 s0 v8 v7 else wX11_began_144 post bk63 M tl v1 v2 v3 v4 v5 s0 v8 v8)
set_option maxHeartbeats 4000000 in
set_option maxRecDepth 20000 in
theorem bX11_began_127 {E : EV} {ad : Nat → Nat} {M : MM} {tl : Int64} {Φ : Option Value → va_W → Prop} {post : Int32 → MM → Int64 → Prop} {bk63 : MM → Int64 → Int32 → Int32 → Int32 → Int32 → Int32 → Int32 → Int32 → Int32 → Prop} {v1 : Int32} {v2 : Int32} {v3 : Int32} {v4 : Int32} {v5 : Int32} {v7 : Int32} {v8 : Int32} {v9 : Int32} {v10 : Int32} {s0 : Int32} (hp : ∀ r M tl, post r M tl → Φ (some (.int r)) (WM E ad M tl)) (hb63 : ∀ (M : MM) (tl : Int64) (v1 : Int32) (v2 : Int32) (v3 : Int32) (v4 : Int32) (v5 : Int32) (v6 : Int32) (v7 : Int32) (v8 : Int32), bk63 M tl v1 v2 v3 v4 v5 v6 v7 v8 → T E kX11_began 0 0 (WM E ad M tl) 63 [(0, .ref (ad (81))), (1, .int v1), (2, .int v2), (3, .int v3), (4, .int v4), (5, .int v5), (6, .int v6), (7, .int v7), (8, .int v8)] [] Φ) (h : wX11_began_127 post bk63 M tl v1 v2 v3 v4 v5 v7 v8 v9 v10 s0) : T E kX11_began 0 0 (WM E ad M tl) 127 [(0, .ref (ad (81))), (1, .int v1), (2, .int v2), (3, .int v3), (4, .int v4), (5, .int v5), (7, .int v7), (8, .int v8), (9, .int v9), (10, .int v10)] [.int s0] Φ := by
  unfold wX11_began_127 at h
  refine tj_istore (l' := [(0, _), (1, _), (2, _), (3, _), (4, _), (5, _), (6, _), (7, _), (8, _), (9, _), (10, _)]) rfl dX11_began_127 (by decide) rfl ?_
  refine tj_iload rfl dX11_began_129 rfl ?_
  refine tj_iload rfl dX11_began_131 rfl ?_
  refine tj_iadd rfl dX11_began_133 ?_
  refine tj_if_le (tgt := 142) rfl rfl dX11_began_134 (fun hc => ?_) (fun hc => ?_)
  · rw [if_pos hc] at h
    refine tj_iload rfl dX11_began_142 rfl ?_
    exact tj_pick (l' := [(0, _), (1, _), (2, _), (3, _), (4, _), (5, _), (6, _), (8, _)]) [0, 1, 2, 3, 4, 5, 6, 8] rfl (bX11_began_144 hp hb63 h)
  · rw [if_neg hc] at h
    refine tj_iload rfl dX11_began_137 rfl ?_
    refine tj_goto (tgt := 144) rfl dX11_began_139 ?_
    exact tj_pick (l' := [(0, _), (1, _), (2, _), (3, _), (4, _), (5, _), (6, _), (8, _)]) [0, 1, 2, 3, 4, 5, 6, 8] rfl (bX11_began_144 hp hb63 h)
def wX11_began_125 (post : Int32 → MM → Int64 → Prop) (bk63 : MM → Int64 → Int32 → Int32 → Int32 → Int32 → Int32 → Int32 → Int32 → Int32 → Prop) (M : MM) (tl : Int64) (v1 : Int32) (v2 : Int32) (v3 : Int32) (v4 : Int32) (v5 : Int32) (v6 : Int32) (v7 : Int32) (v8 : Int32) (v9 : Int32) (v10 : Int32) : Prop :=
  wX11_began_127 post bk63 M tl v1 v2 v3 v4 v5 v7 v8 v9 v10 v6
set_option maxHeartbeats 4000000 in
set_option maxRecDepth 20000 in
theorem bX11_began_125 {E : EV} {ad : Nat → Nat} {M : MM} {tl : Int64} {Φ : Option Value → va_W → Prop} {post : Int32 → MM → Int64 → Prop} {bk63 : MM → Int64 → Int32 → Int32 → Int32 → Int32 → Int32 → Int32 → Int32 → Int32 → Prop} {v1 : Int32} {v2 : Int32} {v3 : Int32} {v4 : Int32} {v5 : Int32} {v6 : Int32} {v7 : Int32} {v8 : Int32} {v9 : Int32} {v10 : Int32} (hp : ∀ r M tl, post r M tl → Φ (some (.int r)) (WM E ad M tl)) (hb63 : ∀ (M : MM) (tl : Int64) (v1 : Int32) (v2 : Int32) (v3 : Int32) (v4 : Int32) (v5 : Int32) (v6 : Int32) (v7 : Int32) (v8 : Int32), bk63 M tl v1 v2 v3 v4 v5 v6 v7 v8 → T E kX11_began 0 0 (WM E ad M tl) 63 [(0, .ref (ad (81))), (1, .int v1), (2, .int v2), (3, .int v3), (4, .int v4), (5, .int v5), (6, .int v6), (7, .int v7), (8, .int v8)] [] Φ) (h : wX11_began_125 post bk63 M tl v1 v2 v3 v4 v5 v6 v7 v8 v9 v10) : T E kX11_began 0 0 (WM E ad M tl) 125 [(0, .ref (ad (81))), (1, .int v1), (2, .int v2), (3, .int v3), (4, .int v4), (5, .int v5), (6, .int v6), (7, .int v7), (8, .int v8), (9, .int v9), (10, .int v10)] [] Φ := by
  unfold wX11_began_125 at h
  refine tj_iload rfl dX11_began_125 rfl ?_
  exact tj_pick (l' := [(0, _), (1, _), (2, _), (3, _), (4, _), (5, _), (7, _), (8, _), (9, _), (10, _)]) [0, 1, 2, 3, 4, 5, 7, 8, 9, 10] rfl (bX11_began_127 hp hb63 h)
def wX11_began_186 (post : Int32 → MM → Int64 → Prop) (M : MM) (tl : Int64) (v4 : Int32) (v5 : Int32) : Prop :=
  (if v5 ≤ 0 then post (-4) M tl else (if v4 = 0 then post 1 M tl else post (-4) M tl))
set_option maxHeartbeats 4000000 in
set_option maxRecDepth 20000 in
theorem bX11_began_186 {E : EV} {ad : Nat → Nat} {M : MM} {tl : Int64} {Φ : Option Value → va_W → Prop} {post : Int32 → MM → Int64 → Prop} {v4 : Int32} {v5 : Int32} (hp : ∀ r M tl, post r M tl → Φ (some (.int r)) (WM E ad M tl)) (h : wX11_began_186 post M tl v4 v5) : T E kX11_began 0 0 (WM E ad M tl) 186 [(4, .int v4), (5, .int v5)] [] Φ := by
  unfold wX11_began_186 at h
  refine tj_iload rfl dX11_began_186 rfl ?_
  refine tj_if_le (tgt := 200) rfl rfl dX11_began_188 (fun hc => ?_) (fun hc => ?_)
  · rw [if_pos hc] at h
    refine tj_bipush (v := -4) rfl dX11_began_200 (by decide) ?_
    exact tj_ireturn (ty := .int) dX11_began_202 rfl rfl (Nat.zero_le _) (Nat.zero_le _) (hp _ _ _ h)
  · rw [if_neg hc] at h
    refine tj_iload rfl dX11_began_191 rfl ?_
    refine tj_if_ne (tgt := 200) rfl rfl dX11_began_193 (fun hc => ?_) (fun hc => ?_)
    · rw [if_neg hc] at h
      refine tj_bipush (v := -4) rfl dX11_began_200 (by decide) ?_
      exact tj_ireturn (ty := .int) dX11_began_202 rfl rfl (Nat.zero_le _) (Nat.zero_le _) (hp _ _ _ h)
    · rw [if_pos hc] at h
      refine tj_iconst (v := 1) rfl dX11_began_196 (by decide) ?_
      refine tj_goto (tgt := 202) rfl dX11_began_197 ?_
      exact tj_ireturn (ty := .int) dX11_began_202 rfl rfl (Nat.zero_le _) (Nat.zero_le _) (hp _ _ _ h)
def wX11_began_63 (post : Int32 → MM → Int64 → Prop) : Nat → MM → Int64 → Int32 → Int32 → Int32 → Int32 → Int32 → Int32 → Int32 → Int32 → Prop
  | 0, _, _, _, _, _, _, _, _, _, _ => False
  | n + 1, M, tl, v1, v2, v3, v4, v5, v6, v7, v8 =>
    (if v2 < v8 then (if v3 = 1 then post v6 M tl else (if v3 = 2 then post v7 M tl else (if v4 ≤ 0 then wX11_began_186 post  M tl v4 v5 else (if v5 = 0 then post 0 M tl else wX11_began_186 post  M tl v4 v5)))) else wpX11_waysOf (fun r3 M1 t2 => wpX11_waysOf (fun r6 M4 t5 => (if v6 = (-4) then (if (r3 + r6) ≤ 0 then wX11_began_125 post (wX11_began_63 post n) M4 t5 v1 v2 v3 (v4 + r3) (v5 + r6) v6 v7 v8 r3 r6 else wX11_began_127 post (wX11_began_63 post n) M4 t5 v1 v2 v3 (v4 + r3) (v5 + r6) v7 v8 r3 r6 v8) else wX11_began_125 post (wX11_began_63 post n) M4 t5 v1 v2 v3 (v4 + r3) (v5 + r6) v6 v7 v8 r3 r6)) M1 t2 v1 1 v8 v2) M tl v1 0 v8 v2)
set_option maxHeartbeats 4000000 in
set_option maxRecDepth 20000 in
theorem bX11_began_63 {E : EV} {ad : Nat → Nat} {Φ : Option Value → va_W → Prop} {post : Int32 → MM → Int64 → Prop}  (hp : ∀ r M tl, post r M tl → Φ (some (.int r)) (WM E ad M tl)) : ∀ (n : Nat) (M : MM) (tl : Int64) (v1 : Int32) (v2 : Int32) (v3 : Int32) (v4 : Int32) (v5 : Int32) (v6 : Int32) (v7 : Int32) (v8 : Int32), wX11_began_63 post n M tl v1 v2 v3 v4 v5 v6 v7 v8 → T E kX11_began 0 0 (WM E ad M tl) 63 [(0, .ref (ad (81))), (1, .int v1), (2, .int v2), (3, .int v3), (4, .int v4), (5, .int v5), (6, .int v6), (7, .int v7), (8, .int v8)] [] Φ := by
  intro n
  induction n with
  | zero => intro M tl v1 v2 v3 v4 v5 v6 v7 v8 h; exact False.elim h
  | succ n ih =>
    intro M tl v1 v2 v3 v4 v5 v6 v7 v8 h
    unfold wX11_began_63 at h
    refine tj_iload rfl dX11_began_63 rfl ?_
    refine tj_iload_n rfl dX11_began_65 rfl ?_
    refine tj_icmp_gt (tgt := 152) rfl rfl dX11_began_66 (fun hc => ?_) (fun hc => ?_)
    · rw [if_pos hc] at h
      refine tj_iload_n rfl dX11_began_152 rfl ?_
      refine tj_iconst (v := 1) rfl dX11_began_153 (by decide) ?_
      refine tj_icmp_ne (tgt := 162) rfl rfl dX11_began_154 (fun hc => ?_) (fun hc => ?_)
      · rw [if_neg hc] at h
        refine tj_iload_n rfl dX11_began_162 rfl ?_
        refine tj_iconst (v := 2) rfl dX11_began_163 (by decide) ?_
        refine tj_icmp_ne (tgt := 172) rfl rfl dX11_began_164 (fun hc => ?_) (fun hc => ?_)
        · rw [if_neg hc] at h
          refine tj_iload rfl dX11_began_172 rfl ?_
          refine tj_if_le (tgt := 186) rfl rfl dX11_began_174 (fun hc => ?_) (fun hc => ?_)
          · rw [if_pos hc] at h
            exact tj_pick (l' := [(4, _), (5, _)]) [4, 5] rfl (bX11_began_186 hp  h)
          · rw [if_neg hc] at h
            refine tj_iload rfl dX11_began_177 rfl ?_
            refine tj_if_ne (tgt := 186) rfl rfl dX11_began_179 (fun hc => ?_) (fun hc => ?_)
            · rw [if_neg hc] at h
              exact tj_pick (l' := [(4, _), (5, _)]) [4, 5] rfl (bX11_began_186 hp  h)
            · rw [if_pos hc] at h
              refine tj_iconst (v := 0) rfl dX11_began_182 (by decide) ?_
              refine tj_goto (tgt := 202) rfl dX11_began_183 ?_
              exact tj_ireturn (ty := .int) dX11_began_202 rfl rfl (Nat.zero_le _) (Nat.zero_le _) (hp _ _ _ h)
        · rw [if_pos hc] at h
          refine tj_iload rfl dX11_began_167 rfl ?_
          refine tj_goto (tgt := 202) rfl dX11_began_169 ?_
          exact tj_ireturn (ty := .int) dX11_began_202 rfl rfl (Nat.zero_le _) (Nat.zero_le _) (hp _ _ _ h)
      · rw [if_pos hc] at h
        refine tj_iload rfl dX11_began_157 rfl ?_
        refine tj_goto (tgt := 202) rfl dX11_began_159 ?_
        exact tj_ireturn (ty := .int) dX11_began_202 rfl rfl (Nat.zero_le _) (Nat.zero_le _) (hp _ _ _ h)
    · rw [if_neg hc] at h
      refine tj_aload_n rfl dX11_began_69 rfl ?_
      refine tj_iload_n rfl dX11_began_70 rfl ?_
      refine tj_iconst (v := 0) rfl dX11_began_71 (by decide) ?_
      refine tj_iload rfl dX11_began_72 rfl ?_
      refine tj_iload_n rfl dX11_began_74 rfl ?_
      refine cf_V11 (a := 81) (z := kX11_waysOf) (As := [_, _, _, _]) rfl rfl dX11_began_75 rfl ml_X11_360 okX11_waysOf rfl (rm_ok rfl) (Nat.le_of_ble_eq_true rfl) (Nat.le_of_ble_eq_true rfl) rfl rfl ?_
      refine ctX11_waysOf h (fun r3 M1 t2 h => ?_)
      refine tj_istore (l' := [(0, _), (1, _), (2, _), (3, _), (4, _), (5, _), (6, _), (7, _), (8, _), (9, _)]) rfl dX11_began_78 (by decide) rfl ?_
      refine tj_aload_n rfl dX11_began_80 rfl ?_
      refine tj_iload_n rfl dX11_began_81 rfl ?_
      refine tj_iconst (v := 1) rfl dX11_began_82 (by decide) ?_
      refine tj_iload rfl dX11_began_83 rfl ?_
      refine tj_iload_n rfl dX11_began_85 rfl ?_
      refine cf_V11 (a := 81) (z := kX11_waysOf) (As := [_, _, _, _]) rfl rfl dX11_began_86 rfl ml_X11_360 okX11_waysOf rfl (rm_ok rfl) (Nat.le_of_ble_eq_true rfl) (Nat.le_of_ble_eq_true rfl) rfl rfl ?_
      refine ctX11_waysOf h (fun r6 M4 t5 h => ?_)
      refine tj_istore (l' := [(0, _), (1, _), (2, _), (3, _), (4, _), (5, _), (6, _), (7, _), (8, _), (9, _), (10, _)]) rfl dX11_began_89 (by decide) rfl ?_
      refine tj_iload rfl dX11_began_91 rfl ?_
      refine tj_iload rfl dX11_began_93 rfl ?_
      refine tj_iadd rfl dX11_began_95 ?_
      refine tj_istore (l' := [(0, _), (1, _), (2, _), (3, _), (4, _), (5, _), (6, _), (7, _), (8, _), (9, _), (10, _)]) rfl dX11_began_96 (by decide) rfl ?_
      refine tj_iload rfl dX11_began_98 rfl ?_
      refine tj_iload rfl dX11_began_100 rfl ?_
      refine tj_iadd rfl dX11_began_102 ?_
      refine tj_istore (l' := [(0, _), (1, _), (2, _), (3, _), (4, _), (5, _), (6, _), (7, _), (8, _), (9, _), (10, _)]) rfl dX11_began_103 (by decide) rfl ?_
      refine tj_iload rfl dX11_began_105 rfl ?_
      refine tj_bipush (v := -4) rfl dX11_began_107 (by decide) ?_
      refine tj_icmp_ne (tgt := 125) rfl rfl dX11_began_109 (fun hc => ?_) (fun hc => ?_)
      · rw [if_neg hc] at h
        exact bX11_began_125 hp ih h
      · rw [if_pos hc] at h
        refine tj_iload rfl dX11_began_112 rfl ?_
        refine tj_iload rfl dX11_began_114 rfl ?_
        refine tj_iadd rfl dX11_began_116 ?_
        refine tj_if_le (tgt := 125) rfl rfl dX11_began_117 (fun hc => ?_) (fun hc => ?_)
        · rw [if_pos hc] at h
          exact bX11_began_125 hp ih h
        · rw [if_neg hc] at h
          refine tj_iload rfl dX11_began_120 rfl ?_
          refine tj_goto (tgt := 127) rfl dX11_began_122 ?_
          exact tj_pick (l' := [(0, _), (1, _), (2, _), (3, _), (4, _), (5, _), (7, _), (8, _), (9, _), (10, _)]) [0, 1, 2, 3, 4, 5, 7, 8, 9, 10] rfl (bX11_began_127 hp ih h)
def wpX11_began (post : Int32 → MM → Int64 → Prop) (M : MM) (tl : Int64) (v1 : Int32) (v2 : Int32) (v3 : Int32) : Prop :=
  wpX11_isLot (fun r3 M1 t2 => (if r3 = 0 then post (-1) M1 t2 else wpX11_in (fun r6 M4 t5 => (if r6 = 0 then post (-1) M4 t5 else wpX11_in (fun r9 M7 t8 => (if r9 = 0 then post (-1) M7 t8 else wpX11_isTold (fun r12 M10 t11 => (if r12 = 0 then post (-2) M10 t11 else (∃ n9, wX11_began_63 post  n9 M10 t11 v1 v2 v3 0 0 (-4) (-4) 0))) M7 t8 v1)) M4 t5 ((v3 : Int32).toInt64) 0 2)) M1 t2 ((v2 : Int32).toInt64) 0 23)) M tl 0 v1
set_option maxHeartbeats 4000000 in
set_option maxRecDepth 20000 in
theorem ctX11_began {E : EV} {ad : Nat → Nat} {M : MM} {tl : Int64} {Φ : Option Value → va_W → Prop} {post : Int32 → MM → Int64 → Prop} {v1 : Int32} {v2 : Int32} {v3 : Int32} (h : wpX11_began post M tl v1 v2 v3) (hp : ∀ r M tl, post r M tl → Φ (some (.int r)) (WM E ad M tl)) : Tm E kX11_began (WM E ad M tl) [.ref (ad (81)), .int v1, .int v2, .int v3] Φ := by
  unfold wpX11_began at h
  show T E kX11_began 0 0 (WM E ad M tl) 0 [(0, .ref (ad (81))), (1, .int v1), (2, .int v2), (3, .int v3)] [] Φ
  refine tj_aload_n rfl dX11_began_0 rfl ?_
  refine tj_iconst (v := 0) rfl dX11_began_1 (by decide) ?_
  refine tj_iload_n rfl dX11_began_2 rfl ?_
  refine cf_V11 (a := 81) (z := kX11_isLot) (As := [_, _]) rfl rfl dX11_began_3 rfl ml_X11_282 okX11_isLot rfl (rm_ok rfl) (Nat.le_of_ble_eq_true rfl) (Nat.le_of_ble_eq_true rfl) rfl rfl ?_
  refine ctX11_isLot h (fun r3 M1 t2 h => ?_)
  refine tj_if_eq (tgt := 33) rfl rfl dX11_began_6 (fun hc => ?_) (fun hc => ?_)
  · rw [if_pos hc] at h
    refine tj_iconst (v := -1) rfl dX11_began_33 (by decide) ?_
    exact tj_ireturn (ty := .int) dX11_began_34 rfl rfl (Nat.zero_le _) (Nat.zero_le _) (hp _ _ _ h)
  · rw [if_neg hc] at h
    refine tj_iload_n rfl dX11_began_9 rfl ?_
    refine tj_i2l rfl dX11_began_10 ?_
    refine tj_lconst (v := 0) rfl dX11_began_11 (by decide) ?_
    refine tj_ldc2 rfl dX11_began_12 kl_X11_318 ?_
    refine cf_S (z := kX11_in) (As := [_, _, _]) rfl dX11_began_15 rfl ml_X11_146 okX11_in rfl (rm_ok rfl) (Nat.le_of_ble_eq_true rfl) (Nat.le_of_ble_eq_true rfl) rfl ?_
    refine ctX11_in h (fun r6 M4 t5 h => ?_)
    refine tj_if_eq (tgt := 33) rfl rfl dX11_began_18 (fun hc => ?_) (fun hc => ?_)
    · rw [if_pos hc] at h
      refine tj_iconst (v := -1) rfl dX11_began_33 (by decide) ?_
      exact tj_ireturn (ty := .int) dX11_began_34 rfl rfl (Nat.zero_le _) (Nat.zero_le _) (hp _ _ _ h)
    · rw [if_neg hc] at h
      refine tj_iload_n rfl dX11_began_21 rfl ?_
      refine tj_i2l rfl dX11_began_22 ?_
      refine tj_lconst (v := 0) rfl dX11_began_23 (by decide) ?_
      refine tj_ldc2 rfl dX11_began_24 kl_X11_332 ?_
      refine cf_S (z := kX11_in) (As := [_, _, _]) rfl dX11_began_27 rfl ml_X11_146 okX11_in rfl (rm_ok rfl) (Nat.le_of_ble_eq_true rfl) (Nat.le_of_ble_eq_true rfl) rfl ?_
      refine ctX11_in h (fun r9 M7 t8 h => ?_)
      refine tj_if_ne (tgt := 35) rfl rfl dX11_began_30 (fun hc => ?_) (fun hc => ?_)
      · rw [if_neg hc] at h
        refine tj_aload_n rfl dX11_began_35 rfl ?_
        refine tj_iload_n rfl dX11_began_36 rfl ?_
        refine cf_V11 (a := 81) (z := kX11_isTold) (As := [_]) rfl rfl dX11_began_37 rfl ml_X11_357 okX11_isTold rfl (rm_ok rfl) (Nat.le_of_ble_eq_true rfl) (Nat.le_of_ble_eq_true rfl) rfl rfl ?_
        refine ctX11_isTold h (fun r12 M10 t11 h => ?_)
        refine tj_if_ne (tgt := 46) rfl rfl dX11_began_40 (fun hc => ?_) (fun hc => ?_)
        · rw [if_neg hc] at h
          refine tj_iconst (v := 0) rfl dX11_began_46 (by decide) ?_
          refine tj_istore (l' := [(0, _), (1, _), (2, _), (3, _), (4, _)]) rfl dX11_began_47 (by decide) rfl ?_
          refine tj_iconst (v := 0) rfl dX11_began_49 (by decide) ?_
          refine tj_istore (l' := [(0, _), (1, _), (2, _), (3, _), (4, _), (5, _)]) rfl dX11_began_50 (by decide) rfl ?_
          refine tj_bipush (v := -4) rfl dX11_began_52 (by decide) ?_
          refine tj_istore (l' := [(0, _), (1, _), (2, _), (3, _), (4, _), (5, _), (6, _)]) rfl dX11_began_54 (by decide) rfl ?_
          refine tj_bipush (v := -4) rfl dX11_began_56 (by decide) ?_
          refine tj_istore (l' := [(0, _), (1, _), (2, _), (3, _), (4, _), (5, _), (6, _), (7, _)]) rfl dX11_began_58 (by decide) rfl ?_
          refine tj_iconst (v := 0) rfl dX11_began_60 (by decide) ?_
          refine tj_istore (l' := [(0, _), (1, _), (2, _), (3, _), (4, _), (5, _), (6, _), (7, _), (8, _)]) rfl dX11_began_61 (by decide) rfl ?_
          obtain ⟨n9, h⟩ := h
          exact bX11_began_63 hp  n9 _ _ _ _ _ _ _ _ _ _ h
        · rw [if_pos hc] at h
          refine tj_bipush (v := -2) rfl dX11_began_43 (by decide) ?_
          exact tj_ireturn (ty := .int) dX11_began_45 rfl rfl (Nat.zero_le _) (Nat.zero_le _) (hp _ _ _ h)
      · rw [if_pos hc] at h
        refine tj_iconst (v := -1) rfl dX11_began_33 (by decide) ?_
        exact tj_ireturn (ty := .int) dX11_began_34 rfl rfl (Nat.zero_le _) (Nat.zero_le _) (hp _ _ _ h)
def wX11_thingMany_25 (post : Int32 → MM → Int64 → Prop) (bk4 : MM → Int64 → Int32 → Int32 → Prop) (M : MM) (tl : Int64) (v2 : Int32) (s0 : Int32) (s1 : Int32) : Prop :=
  wpX11_flag (fun r3 M1 t2 => bk4 M1 t2 (s0 + r3) (v2 + 1)) M tl s1
set_option maxHeartbeats 4000000 in
set_option maxRecDepth 20000 in
theorem bX11_thingMany_25 {E : EV} {ad : Nat → Nat} {M : MM} {tl : Int64} {Φ : Option Value → va_W → Prop} {post : Int32 → MM → Int64 → Prop} {bk4 : MM → Int64 → Int32 → Int32 → Prop} {v2 : Int32} {s0 : Int32} {s1 : Int32} (hp : ∀ r M tl, post r M tl → Φ (some (.int r)) (WM E ad M tl)) (hb4 : ∀ (M : MM) (tl : Int64) (v1 : Int32) (v2 : Int32), bk4 M tl v1 v2 → T E kX11_thingMany 0 0 (WM E ad M tl) 4 [(0, .ref (ad (81))), (1, .int v1), (2, .int v2)] [] Φ) (h : wX11_thingMany_25 post bk4 M tl v2 s0 s1) : T E kX11_thingMany 0 0 (WM E ad M tl) 25 [(0, .ref (ad (81))), (2, .int v2)] [.int s1, .int s0] Φ := by
  unfold wX11_thingMany_25 at h
  refine cf_S (z := kX11_flag) (As := [_]) rfl dX11_thingMany_25 rfl ml_X11_265 okX11_flag rfl (rm_ok rfl) (Nat.le_of_ble_eq_true rfl) (Nat.le_of_ble_eq_true rfl) rfl ?_
  refine ctX11_flag h (fun r3 M1 t2 h => ?_)
  refine tj_iadd rfl dX11_thingMany_28 ?_
  refine tj_istore_n (l' := [(0, _), (1, _), (2, _)]) rfl dX11_thingMany_29 (by decide) rfl ?_
  refine tj_iinc (v := _ + 1) (l' := [(0, _), (1, _), (2, _)]) rfl dX11_thingMany_30 rfl (by decide) rfl rfl ?_
  refine tj_goto (tgt := 4) rfl dX11_thingMany_33 ?_
  exact hb4 _ _ _ _ h
def wX11_thingMany_4 (post : Int32 → MM → Int64 → Prop) : Nat → MM → Int64 → Int32 → Int32 → Prop
  | 0, _, _, _, _ => False
  | n + 1, M, tl, v1, v2 =>
    (if 16 ≤ v2 then post v1 M tl else (vp_in v2 (al 82) ∧ (if (M 82 (v2 : Int32).toNatClampNeg) = 0 then wX11_thingMany_25 post (wX11_thingMany_4 post n) M tl v2 v1 0 else wX11_thingMany_25 post (wX11_thingMany_4 post n) M tl v2 v1 1)))
set_option maxHeartbeats 4000000 in
set_option maxRecDepth 20000 in
theorem bX11_thingMany_4 {E : EV} {ad : Nat → Nat} {Φ : Option Value → va_W → Prop} {post : Int32 → MM → Int64 → Prop}  (hp : ∀ r M tl, post r M tl → Φ (some (.int r)) (WM E ad M tl)) : ∀ (n : Nat) (M : MM) (tl : Int64) (v1 : Int32) (v2 : Int32), wX11_thingMany_4 post n M tl v1 v2 → T E kX11_thingMany 0 0 (WM E ad M tl) 4 [(0, .ref (ad (81))), (1, .int v1), (2, .int v2)] [] Φ := by
  intro n
  induction n with
  | zero => intro M tl v1 v2 h; exact False.elim h
  | succ n ih =>
    intro M tl v1 v2 h
    unfold wX11_thingMany_4 at h
    refine tj_iload_n rfl dX11_thingMany_4 rfl ?_
    refine tj_bipush (v := 16) rfl dX11_thingMany_5 (by decide) ?_
    refine tj_icmp_ge (tgt := 36) rfl rfl dX11_thingMany_7 (fun hc => ?_) (fun hc => ?_)
    · rw [if_pos hc] at h
      refine tj_iload_n rfl dX11_thingMany_36 rfl ?_
      exact tj_ireturn (ty := .int) dX11_thingMany_37 rfl rfl (Nat.zero_le _) (Nat.zero_le _) (hp _ _ _ h)
    · rw [if_neg hc] at h
      refine tj_iload_n rfl dX11_thingMany_10 rfl ?_
      refine tj_aload_n rfl dX11_thingMany_11 rfl ?_
      refine gf11_st (a := 81) rfl rfl dX11_thingMany_12 fl_X11_7 ?_
      refine tj_iload_n rfl dX11_thingMany_15 rfl ?_
      obtain ⟨hi1, h⟩ := h
      refine af_iald (a := 82) rfl rfl dX11_thingMany_16 hi1 ?_
      refine tj_if_eq (tgt := 24) rfl rfl dX11_thingMany_17 (fun hc => ?_) (fun hc => ?_)
      · rw [if_pos hc] at h
        refine tj_iconst (v := 0) rfl dX11_thingMany_24 (by decide) ?_
        exact tj_pick (l' := [(0, _), (2, _)]) [0, 2] rfl (bX11_thingMany_25 hp ih h)
      · rw [if_neg hc] at h
        refine tj_iconst (v := 1) rfl dX11_thingMany_20 (by decide) ?_
        refine tj_goto (tgt := 25) rfl dX11_thingMany_21 ?_
        exact tj_pick (l' := [(0, _), (2, _)]) [0, 2] rfl (bX11_thingMany_25 hp ih h)
def wpX11_thingMany (post : Int32 → MM → Int64 → Prop) (M : MM) (tl : Int64) : Prop :=
  (∃ n9, wX11_thingMany_4 post  n9 M tl 0 0)
set_option maxHeartbeats 4000000 in
set_option maxRecDepth 20000 in
theorem ctX11_thingMany {E : EV} {ad : Nat → Nat} {M : MM} {tl : Int64} {Φ : Option Value → va_W → Prop} {post : Int32 → MM → Int64 → Prop} (h : wpX11_thingMany post M tl ) (hp : ∀ r M tl, post r M tl → Φ (some (.int r)) (WM E ad M tl)) : Tm E kX11_thingMany (WM E ad M tl) [.ref (ad (81))] Φ := by
  unfold wpX11_thingMany at h
  show T E kX11_thingMany 0 0 (WM E ad M tl) 0 [(0, .ref (ad (81)))] [] Φ
  refine tj_iconst (v := 0) rfl dX11_thingMany_0 (by decide) ?_
  refine tj_istore_n (l' := [(0, _), (1, _)]) rfl dX11_thingMany_1 (by decide) rfl ?_
  refine tj_iconst (v := 0) rfl dX11_thingMany_2 (by decide) ?_
  refine tj_istore_n (l' := [(0, _), (1, _), (2, _)]) rfl dX11_thingMany_3 (by decide) rfl ?_
  obtain ⟨n9, h⟩ := h
  exact bX11_thingMany_4 hp  n9 _ _ _ _ h
def wX11_copies_2 (post : MM → Int64 → Prop) : Nat → MM → Int64 → Int32 → Int32 → Int32 → Prop
  | 0, _, _, _, _, _ => False
  | n + 1, M, tl, v1, v2, v3 =>
    (if 127 ≤ v3 then post M tl else (vp_in (v2 + v3) (al 82) ∧ (vp_in (v1 + v3) (al 82) ∧ (∀ M3 : MM, M3 = mset M 82 (v1 + v3 : Int32).toNatClampNeg (M 82 (v2 + v3 : Int32).toNatClampNeg) → (wX11_copies_2 post n) M3 tl v1 v2 (v3 + 1)))))
set_option maxHeartbeats 4000000 in
set_option maxRecDepth 20000 in
theorem bX11_copies_2 {E : EV} {ad : Nat → Nat} {Φ : Option Value → va_W → Prop} {post : MM → Int64 → Prop}  (hp : ∀ M tl, post M tl → Φ none (WM E ad M tl)) : ∀ (n : Nat) (M : MM) (tl : Int64) (v1 : Int32) (v2 : Int32) (v3 : Int32), wX11_copies_2 post n M tl v1 v2 v3 → T E kX11_copies 0 0 (WM E ad M tl) 2 [(0, .ref (ad (81))), (1, .int v1), (2, .int v2), (3, .int v3)] [] Φ := by
  intro n
  induction n with
  | zero => intro M tl v1 v2 v3 h; exact False.elim h
  | succ n ih =>
    intro M tl v1 v2 v3 h
    unfold wX11_copies_2 at h
    refine tj_iload_n rfl dX11_copies_2 rfl ?_
    refine tj_bipush (v := 127) rfl dX11_copies_3 (by decide) ?_
    refine tj_icmp_ge (tgt := 30) rfl rfl dX11_copies_5 (fun hc => ?_) (fun hc => ?_)
    · rw [if_pos hc] at h
      exact tj_return dX11_copies_30 rfl (Nat.zero_le _) (Nat.zero_le _) (hp _ _ h)
    · rw [if_neg hc] at h
      refine tj_aload_n rfl dX11_copies_8 rfl ?_
      refine gf11_st (a := 81) rfl rfl dX11_copies_9 fl_X11_7 ?_
      refine tj_iload_n rfl dX11_copies_12 rfl ?_
      refine tj_iload_n rfl dX11_copies_13 rfl ?_
      refine tj_iadd rfl dX11_copies_14 ?_
      refine tj_aload_n rfl dX11_copies_15 rfl ?_
      refine gf11_st (a := 81) rfl rfl dX11_copies_16 fl_X11_7 ?_
      refine tj_iload_n rfl dX11_copies_19 rfl ?_
      refine tj_iload_n rfl dX11_copies_20 rfl ?_
      refine tj_iadd rfl dX11_copies_21 ?_
      obtain ⟨hi1, h⟩ := h
      refine af_iald (a := 82) rfl rfl dX11_copies_22 hi1 ?_
      obtain ⟨hi2, h⟩ := h
      refine af_iast (a := 82) rfl rfl dX11_copies_23 hi2 ?_
      replace h := h _ rfl
      generalize mset M 82 (v1 + v3 : Int32).toNatClampNeg (M 82 (v2 + v3 : Int32).toNatClampNeg) = M3 at h ⊢
      refine tj_iinc (v := _ + 1) (l' := [(0, _), (1, _), (2, _), (3, _)]) rfl dX11_copies_24 rfl (by decide) rfl rfl ?_
      refine tj_goto (tgt := 2) rfl dX11_copies_27 ?_
      exact ih _ _ _ _ _ h
def wpX11_copies (post : MM → Int64 → Prop) (M : MM) (tl : Int64) (v1 : Int32) (v2 : Int32) : Prop :=
  (∃ n9, wX11_copies_2 post  n9 M tl v1 v2 0)
set_option maxHeartbeats 4000000 in
set_option maxRecDepth 20000 in
theorem ctX11_copies {E : EV} {ad : Nat → Nat} {M : MM} {tl : Int64} {Φ : Option Value → va_W → Prop} {post : MM → Int64 → Prop} {v1 : Int32} {v2 : Int32} (h : wpX11_copies post M tl v1 v2) (hp : ∀ M tl, post M tl → Φ none (WM E ad M tl)) : Tm E kX11_copies (WM E ad M tl) [.ref (ad (81)), .int v1, .int v2] Φ := by
  unfold wpX11_copies at h
  show T E kX11_copies 0 0 (WM E ad M tl) 0 [(0, .ref (ad (81))), (1, .int v1), (2, .int v2)] [] Φ
  refine tj_iconst (v := 0) rfl dX11_copies_0 (by decide) ?_
  refine tj_istore_n (l' := [(0, _), (1, _), (2, _), (3, _)]) rfl dX11_copies_1 (by decide) rfl ?_
  obtain ⟨n9, h⟩ := h
  exact bX11_copies_2 hp  n9 _ _ _ _ _ h
def wpX11_keep (post : Int32 → MM → Int64 → Prop) (M : MM) (tl : Int64) (v1 : Int32) : Prop :=
  wpX11_in (fun r3 M1 t2 => (if r3 = 0 then post (-1) M1 t2 else (vp_in v1 (al 83) ∧ wpX11_flag (fun r7 M5 t6 => (vp_in v1 (al 83) ∧ (∀ M9 : MM, M9 = mset M5 83 (v1 : Int32).toNatClampNeg (vp_nar .boolean 1) → wpX11_copies (fun M10 t11 => post r7 M10 t11) M9 t6 ((127 : Int32) * (v1 + 1)) 0))) M1 t2 (M1 83 (v1 : Int32).toNatClampNeg)))) M tl ((v1 : Int32).toInt64) 0 1
set_option maxHeartbeats 4000000 in
set_option maxRecDepth 20000 in
theorem ctX11_keep {E : EV} {ad : Nat → Nat} {M : MM} {tl : Int64} {Φ : Option Value → va_W → Prop} {post : Int32 → MM → Int64 → Prop} {v1 : Int32} (h : wpX11_keep post M tl v1) (hp : ∀ r M tl, post r M tl → Φ (some (.int r)) (WM E ad M tl)) : Tm E kX11_keep (WM E ad M tl) [.ref (ad (81)), .int v1] Φ := by
  unfold wpX11_keep at h
  show T E kX11_keep 0 0 (WM E ad M tl) 0 [(0, .ref (ad (81))), (1, .int v1)] [] Φ
  refine tj_iload_n rfl dX11_keep_0 rfl ?_
  refine tj_i2l rfl dX11_keep_1 ?_
  refine tj_lconst (v := 0) rfl dX11_keep_2 (by decide) ?_
  refine tj_lconst (v := 1) rfl dX11_keep_3 (by decide) ?_
  refine cf_S (z := kX11_in) (As := [_, _, _]) rfl dX11_keep_4 rfl ml_X11_146 okX11_in rfl (rm_ok rfl) (Nat.le_of_ble_eq_true rfl) (Nat.le_of_ble_eq_true rfl) rfl ?_
  refine ctX11_in h (fun r3 M1 t2 h => ?_)
  refine tj_if_ne (tgt := 12) rfl rfl dX11_keep_7 (fun hc => ?_) (fun hc => ?_)
  · rw [if_neg hc] at h
    refine tj_aload_n rfl dX11_keep_12 rfl ?_
    refine gf11_isKept (a := 81) rfl rfl dX11_keep_13 fl_X11_13 ?_
    refine tj_iload_n rfl dX11_keep_16 rfl ?_
    obtain ⟨hi4, h⟩ := h
    refine af_zald (a := 83) rfl rfl dX11_keep_17 hi4 ?_
    refine cf_S (z := kX11_flag) (As := [_]) rfl dX11_keep_18 rfl ml_X11_265 okX11_flag rfl (rm_ok rfl) (Nat.le_of_ble_eq_true rfl) (Nat.le_of_ble_eq_true rfl) rfl ?_
    refine ctX11_flag h (fun r7 M5 t6 h => ?_)
    refine tj_istore_n (l' := [(0, _), (1, _), (2, _)]) rfl dX11_keep_21 (by decide) rfl ?_
    refine tj_aload_n rfl dX11_keep_22 rfl ?_
    refine gf11_isKept (a := 81) rfl rfl dX11_keep_23 fl_X11_13 ?_
    refine tj_iload_n rfl dX11_keep_26 rfl ?_
    refine tj_iconst (v := 1) rfl dX11_keep_27 (by decide) ?_
    obtain ⟨hi8, h⟩ := h
    refine af_zast (a := 83) rfl rfl dX11_keep_28 hi8 ?_
    replace h := h _ rfl
    generalize mset M5 83 (v1 : Int32).toNatClampNeg (vp_nar .boolean 1) = M9 at h ⊢
    refine tj_aload_n rfl dX11_keep_29 rfl ?_
    refine tj_bipush (v := 127) rfl dX11_keep_30 (by decide) ?_
    refine tj_iload_n rfl dX11_keep_32 rfl ?_
    refine tj_iconst (v := 1) rfl dX11_keep_33 (by decide) ?_
    refine tj_iadd rfl dX11_keep_34 ?_
    refine tj_imul rfl dX11_keep_35 ?_
    refine tj_iconst (v := 0) rfl dX11_keep_36 (by decide) ?_
    refine cf_V11 (a := 81) (z := kX11_copies) (As := [_, _]) rfl rfl dX11_keep_37 rfl ml_X11_364 okX11_copies rfl (rm_ok rfl) (Nat.le_of_ble_eq_true rfl) (Nat.le_of_ble_eq_true rfl) rfl rfl ?_
    refine ctX11_copies h (fun M10 t11 h => ?_)
    refine tj_iload_n rfl dX11_keep_40 rfl ?_
    exact tj_ireturn (ty := .int) dX11_keep_41 rfl rfl (Nat.zero_le _) (Nat.zero_le _) (hp _ _ _ h)
  · rw [if_pos hc] at h
    refine tj_iconst (v := -1) rfl dX11_keep_10 (by decide) ?_
    exact tj_ireturn (ty := .int) dX11_keep_11 rfl rfl (Nat.zero_le _) (Nat.zero_le _) (hp _ _ _ h)
def wpX11_back (post : Int32 → MM → Int64 → Prop) (M : MM) (tl : Int64) (v1 : Int32) : Prop :=
  wpX11_in (fun r3 M1 t2 => (if r3 = 0 then post (-1) M1 t2 else (vp_in v1 (al 83) ∧ (if (M1 83 (v1 : Int32).toNatClampNeg) = 0 then post (-2) M1 t2 else wpX11_copies (fun M5 t6 => wpX11_thingMany (fun r9 M7 t8 => post r9 M7 t8) M5 t6 ) M1 t2 0 ((127 : Int32) * (v1 + 1)))))) M tl ((v1 : Int32).toInt64) 0 1
set_option maxHeartbeats 4000000 in
set_option maxRecDepth 20000 in
theorem ctX11_back {E : EV} {ad : Nat → Nat} {M : MM} {tl : Int64} {Φ : Option Value → va_W → Prop} {post : Int32 → MM → Int64 → Prop} {v1 : Int32} (h : wpX11_back post M tl v1) (hp : ∀ r M tl, post r M tl → Φ (some (.int r)) (WM E ad M tl)) : Tm E kX11_back (WM E ad M tl) [.ref (ad (81)), .int v1] Φ := by
  unfold wpX11_back at h
  show T E kX11_back 0 0 (WM E ad M tl) 0 [(0, .ref (ad (81))), (1, .int v1)] [] Φ
  refine tj_iload_n rfl dX11_back_0 rfl ?_
  refine tj_i2l rfl dX11_back_1 ?_
  refine tj_lconst (v := 0) rfl dX11_back_2 (by decide) ?_
  refine tj_lconst (v := 1) rfl dX11_back_3 (by decide) ?_
  refine cf_S (z := kX11_in) (As := [_, _, _]) rfl dX11_back_4 rfl ml_X11_146 okX11_in rfl (rm_ok rfl) (Nat.le_of_ble_eq_true rfl) (Nat.le_of_ble_eq_true rfl) rfl ?_
  refine ctX11_in h (fun r3 M1 t2 h => ?_)
  refine tj_if_ne (tgt := 12) rfl rfl dX11_back_7 (fun hc => ?_) (fun hc => ?_)
  · rw [if_neg hc] at h
    refine tj_aload_n rfl dX11_back_12 rfl ?_
    refine gf11_isKept (a := 81) rfl rfl dX11_back_13 fl_X11_13 ?_
    refine tj_iload_n rfl dX11_back_16 rfl ?_
    obtain ⟨hi4, h⟩ := h
    refine af_zald (a := 83) rfl rfl dX11_back_17 hi4 ?_
    refine tj_if_ne (tgt := 24) rfl rfl dX11_back_18 (fun hc => ?_) (fun hc => ?_)
    · rw [if_neg hc] at h
      refine tj_aload_n rfl dX11_back_24 rfl ?_
      refine tj_iconst (v := 0) rfl dX11_back_25 (by decide) ?_
      refine tj_bipush (v := 127) rfl dX11_back_26 (by decide) ?_
      refine tj_iload_n rfl dX11_back_28 rfl ?_
      refine tj_iconst (v := 1) rfl dX11_back_29 (by decide) ?_
      refine tj_iadd rfl dX11_back_30 ?_
      refine tj_imul rfl dX11_back_31 ?_
      refine cf_V11 (a := 81) (z := kX11_copies) (As := [_, _]) rfl rfl dX11_back_32 rfl ml_X11_364 okX11_copies rfl (rm_ok rfl) (Nat.le_of_ble_eq_true rfl) (Nat.le_of_ble_eq_true rfl) rfl rfl ?_
      refine ctX11_copies h (fun M5 t6 h => ?_)
      refine tj_aload_n rfl dX11_back_35 rfl ?_
      refine cf_V11 (a := 81) (z := kX11_thingMany) (As := []) rfl rfl dX11_back_36 rfl ml_X11_368 okX11_thingMany rfl (rm_ok rfl) (Nat.le_of_ble_eq_true rfl) (Nat.le_of_ble_eq_true rfl) rfl rfl ?_
      refine ctX11_thingMany h (fun r9 M7 t8 h => ?_)
      exact tj_ireturn (ty := .int) dX11_back_39 rfl rfl (Nat.zero_le _) (Nat.zero_le _) (hp _ _ _ h)
    · rw [if_pos hc] at h
      refine tj_bipush (v := -2) rfl dX11_back_21 (by decide) ?_
      exact tj_ireturn (ty := .int) dX11_back_23 rfl rfl (Nat.zero_le _) (Nat.zero_le _) (hp _ _ _ h)
  · rw [if_pos hc] at h
    refine tj_iconst (v := -1) rfl dX11_back_10 (by decide) ?_
    exact tj_ireturn (ty := .int) dX11_back_11 rfl rfl (Nat.zero_le _) (Nat.zero_le _) (hp _ _ _ h)
def wpX11_isSheet (post : Int32 → MM → Int64 → Prop) (M : MM) (tl : Int64) (v0 : Int32) (v1 : Int32) : Prop :=
  wpX11_in (fun r3 M1 t2 => (if r3 = 0 then post 0 M1 t2 else wpX11_in (fun r6 M4 t5 => (if r6 = 0 then post 0 M4 t5 else post 1 M4 t5)) M1 t2 ((v1 : Int32).toInt64) 0 2)) M tl ((v0 : Int32).toInt64) 0 3
set_option maxHeartbeats 4000000 in
set_option maxRecDepth 20000 in
theorem ctX11_isSheet {E : EV} {ad : Nat → Nat} {M : MM} {tl : Int64} {Φ : Option Value → va_W → Prop} {post : Int32 → MM → Int64 → Prop} {v0 : Int32} {v1 : Int32} (h : wpX11_isSheet post M tl v0 v1) (hp : ∀ r M tl, post r M tl → Φ (some (.int r)) (WM E ad M tl)) : Tm E kX11_isSheet (WM E ad M tl) [.int v0, .int v1] Φ := by
  unfold wpX11_isSheet at h
  show T E kX11_isSheet 0 0 (WM E ad M tl) 0 [(0, .int v0), (1, .int v1)] [] Φ
  refine tj_iload_n rfl dX11_isSheet_0 rfl ?_
  refine tj_i2l rfl dX11_isSheet_1 ?_
  refine tj_lconst (v := 0) rfl dX11_isSheet_2 (by decide) ?_
  refine tj_ldc2 rfl dX11_isSheet_3 kl_X11_269 ?_
  refine cf_S (z := kX11_in) (As := [_, _, _]) rfl dX11_isSheet_6 rfl ml_X11_146 okX11_in rfl (rm_ok rfl) (Nat.le_of_ble_eq_true rfl) (Nat.le_of_ble_eq_true rfl) rfl ?_
  refine ctX11_in h (fun r3 M1 t2 h => ?_)
  refine tj_if_eq (tgt := 28) rfl rfl dX11_isSheet_9 (fun hc => ?_) (fun hc => ?_)
  · rw [if_pos hc] at h
    refine tj_iconst (v := 0) rfl dX11_isSheet_28 (by decide) ?_
    exact tj_ireturn (ty := .boolean) dX11_isSheet_29 rfl rfl (Nat.zero_le _) (Nat.zero_le _) (hp _ _ _ h)
  · rw [if_neg hc] at h
    refine tj_iload_n rfl dX11_isSheet_12 rfl ?_
    refine tj_i2l rfl dX11_isSheet_13 ?_
    refine tj_lconst (v := 0) rfl dX11_isSheet_14 (by decide) ?_
    refine tj_ldc2 rfl dX11_isSheet_15 kl_X11_332 ?_
    refine cf_S (z := kX11_in) (As := [_, _, _]) rfl dX11_isSheet_18 rfl ml_X11_146 okX11_in rfl (rm_ok rfl) (Nat.le_of_ble_eq_true rfl) (Nat.le_of_ble_eq_true rfl) rfl ?_
    refine ctX11_in h (fun r6 M4 t5 h => ?_)
    refine tj_if_eq (tgt := 28) rfl rfl dX11_isSheet_21 (fun hc => ?_) (fun hc => ?_)
    · rw [if_pos hc] at h
      refine tj_iconst (v := 0) rfl dX11_isSheet_28 (by decide) ?_
      exact tj_ireturn (ty := .boolean) dX11_isSheet_29 rfl rfl (Nat.zero_le _) (Nat.zero_le _) (hp _ _ _ h)
    · rw [if_neg hc] at h
      refine tj_iconst (v := 1) rfl dX11_isSheet_24 (by decide) ?_
      refine tj_goto (tgt := 29) rfl dX11_isSheet_25 ?_
      exact tj_ireturn (ty := .boolean) dX11_isSheet_29 rfl rfl (Nat.zero_le _) (Nat.zero_le _) (hp _ _ _ h)
def wX11_sheet_40 (post : Int32 → MM → Int64 → Prop) : Nat → MM → Int64 → Int32 → Int32 → Prop
  | 0, _, _, _, _ => False
  | n + 1, M, tl, v1, v4 =>
    (if 40 ≤ v4 then post 1 M tl else (vp_in (((40 : Int32) * v1) + v4) (al 107) ∧ (∀ M2 : MM, M2 = mset M 107 (((40 : Int32) * v1) + v4 : Int32).toNatClampNeg 0 → (wX11_sheet_40 post n) M2 tl v1 (v4 + 1))))
set_option maxHeartbeats 4000000 in
set_option maxRecDepth 20000 in
theorem bX11_sheet_40 {E : EV} {ad : Nat → Nat} {Φ : Option Value → va_W → Prop} {post : Int32 → MM → Int64 → Prop}  (hp : ∀ r M tl, post r M tl → Φ (some (.int r)) (WM E ad M tl)) : ∀ (n : Nat) (M : MM) (tl : Int64) (v1 : Int32) (v4 : Int32), wX11_sheet_40 post n M tl v1 v4 → T E kX11_sheet 0 0 (WM E ad M tl) 40 [(0, .ref (ad (81))), (1, .int v1), (4, .int v4)] [] Φ := by
  intro n
  induction n with
  | zero => intro M tl v1 v4 h; exact False.elim h
  | succ n ih =>
    intro M tl v1 v4 h
    unfold wX11_sheet_40 at h
    refine tj_iload rfl dX11_sheet_40 rfl ?_
    refine tj_bipush (v := 40) rfl dX11_sheet_42 (by decide) ?_
    refine tj_icmp_ge (tgt := 66) rfl rfl dX11_sheet_44 (fun hc => ?_) (fun hc => ?_)
    · rw [if_pos hc] at h
      refine tj_iconst (v := 1) rfl dX11_sheet_66 (by decide) ?_
      exact tj_ireturn (ty := .int) dX11_sheet_67 rfl rfl (Nat.zero_le _) (Nat.zero_le _) (hp _ _ _ h)
    · rw [if_neg hc] at h
      refine tj_aload_n rfl dX11_sheet_47 rfl ?_
      refine gf11_cells (a := 81) rfl rfl dX11_sheet_48 fl_X11_86 ?_
      refine tj_bipush (v := 40) rfl dX11_sheet_51 (by decide) ?_
      refine tj_iload_n rfl dX11_sheet_53 rfl ?_
      refine tj_imul rfl dX11_sheet_54 ?_
      refine tj_iload rfl dX11_sheet_55 rfl ?_
      refine tj_iadd rfl dX11_sheet_57 ?_
      refine tj_iconst (v := 0) rfl dX11_sheet_58 (by decide) ?_
      obtain ⟨hi1, h⟩ := h
      refine af_iast (a := 107) rfl rfl dX11_sheet_59 hi1 ?_
      replace h := h _ rfl
      generalize mset M 107 (((40 : Int32) * v1) + v4 : Int32).toNatClampNeg 0 = M2 at h ⊢
      refine tj_iinc (v := _ + 1) (l' := [(0, _), (1, _), (4, _)]) rfl dX11_sheet_60 rfl (by decide) rfl rfl ?_
      refine tj_goto (tgt := 40) rfl dX11_sheet_63 ?_
      exact ih _ _ _ _ h
def wpX11_sheet (post : Int32 → MM → Int64 → Prop) (M : MM) (tl : Int64) (v1 : Int32) (v2 : Int32) (v3 : Int32) : Prop :=
  wpX11_isSheet (fun r3 M1 t2 => (if r3 = 0 then post (-1) M1 t2 else (if v3 ≤ 40 then (if 0 ≤ v3 then (vp_in v1 (al 105) ∧ (∀ M5 : MM, M5 = mset M1 105 (v1 : Int32).toNatClampNeg v2 → (vp_in v1 (al 106) ∧ (∀ M7 : MM, M7 = mset M5 106 (v1 : Int32).toNatClampNeg v3 → (∃ n9, wX11_sheet_40 post  n9 M7 t2 v1 0))))) else post (-14) M1 t2) else post (-1) M1 t2))) M tl v1 v2
set_option maxHeartbeats 4000000 in
set_option maxRecDepth 20000 in
theorem ctX11_sheet {E : EV} {ad : Nat → Nat} {M : MM} {tl : Int64} {Φ : Option Value → va_W → Prop} {post : Int32 → MM → Int64 → Prop} {v1 : Int32} {v2 : Int32} {v3 : Int32} (h : wpX11_sheet post M tl v1 v2 v3) (hp : ∀ r M tl, post r M tl → Φ (some (.int r)) (WM E ad M tl)) : Tm E kX11_sheet (WM E ad M tl) [.ref (ad (81)), .int v1, .int v2, .int v3] Φ := by
  unfold wpX11_sheet at h
  show T E kX11_sheet 0 0 (WM E ad M tl) 0 [(0, .ref (ad (81))), (1, .int v1), (2, .int v2), (3, .int v3)] [] Φ
  refine tj_iload_n rfl dX11_sheet_0 rfl ?_
  refine tj_iload_n rfl dX11_sheet_1 rfl ?_
  refine cf_S (z := kX11_isSheet) (As := [_, _]) rfl dX11_sheet_2 rfl ml_X11_371 okX11_isSheet rfl (rm_ok rfl) (Nat.le_of_ble_eq_true rfl) (Nat.le_of_ble_eq_true rfl) rfl ?_
  refine ctX11_isSheet h (fun r3 M1 t2 h => ?_)
  refine tj_if_eq (tgt := 14) rfl rfl dX11_sheet_5 (fun hc => ?_) (fun hc => ?_)
  · rw [if_pos hc] at h
    refine tj_iconst (v := -1) rfl dX11_sheet_14 (by decide) ?_
    exact tj_ireturn (ty := .int) dX11_sheet_15 rfl rfl (Nat.zero_le _) (Nat.zero_le _) (hp _ _ _ h)
  · rw [if_neg hc] at h
    refine tj_iload_n rfl dX11_sheet_8 rfl ?_
    refine tj_bipush (v := 40) rfl dX11_sheet_9 (by decide) ?_
    refine tj_icmp_le (tgt := 16) rfl rfl dX11_sheet_11 (fun hc => ?_) (fun hc => ?_)
    · rw [if_pos hc] at h
      refine tj_iload_n rfl dX11_sheet_16 rfl ?_
      refine tj_if_ge (tgt := 23) rfl rfl dX11_sheet_17 (fun hc => ?_) (fun hc => ?_)
      · rw [if_pos hc] at h
        refine tj_aload_n rfl dX11_sheet_23 rfl ?_
        refine gf11_lanes (a := 81) rfl rfl dX11_sheet_24 fl_X11_80 ?_
        refine tj_iload_n rfl dX11_sheet_27 rfl ?_
        refine tj_iload_n rfl dX11_sheet_28 rfl ?_
        obtain ⟨hi4, h⟩ := h
        refine af_iast (a := 105) rfl rfl dX11_sheet_29 hi4 ?_
        replace h := h _ rfl
        generalize mset M1 105 (v1 : Int32).toNatClampNeg v2 = M5 at h ⊢
        refine tj_aload_n rfl dX11_sheet_30 rfl ?_
        refine gf11_sizes (a := 81) rfl rfl dX11_sheet_31 fl_X11_83 ?_
        refine tj_iload_n rfl dX11_sheet_34 rfl ?_
        refine tj_iload_n rfl dX11_sheet_35 rfl ?_
        obtain ⟨hi6, h⟩ := h
        refine af_iast (a := 106) rfl rfl dX11_sheet_36 hi6 ?_
        replace h := h _ rfl
        generalize mset M5 106 (v1 : Int32).toNatClampNeg v3 = M7 at h ⊢
        refine tj_iconst (v := 0) rfl dX11_sheet_37 (by decide) ?_
        refine tj_istore (l' := [(0, _), (1, _), (2, _), (3, _), (4, _)]) rfl dX11_sheet_38 (by decide) rfl ?_
        obtain ⟨n9, h⟩ := h
        exact tj_pick (l' := [(0, _), (1, _), (4, _)]) [0, 1, 4] rfl (bX11_sheet_40 hp  n9 _ _ _ _ h)
      · rw [if_neg hc] at h
        refine tj_bipush (v := -14) rfl dX11_sheet_20 (by decide) ?_
        exact tj_ireturn (ty := .int) dX11_sheet_22 rfl rfl (Nat.zero_le _) (Nat.zero_le _) (hp _ _ _ h)
    · rw [if_neg hc] at h
      refine tj_iconst (v := -1) rfl dX11_sheet_14 (by decide) ?_
      exact tj_ireturn (ty := .int) dX11_sheet_15 rfl rfl (Nat.zero_le _) (Nat.zero_le _) (hp _ _ _ h)
def wX11_lay_85 (post : Int32 → MM → Int64 → Prop) (M : MM) (tl : Int64) (s1 : Int32) (s2 : Int32) : Prop :=
  (vp_in s1 (al 107) ∧ (∀ M2 : MM, M2 = mset M 107 (s1 : Int32).toNatClampNeg s2 → post 1 M2 tl))
set_option maxHeartbeats 4000000 in
set_option maxRecDepth 20000 in
theorem bX11_lay_85 {E : EV} {ad : Nat → Nat} {M : MM} {tl : Int64} {Φ : Option Value → va_W → Prop} {post : Int32 → MM → Int64 → Prop} {s1 : Int32} {s2 : Int32} (hp : ∀ r M tl, post r M tl → Φ (some (.int r)) (WM E ad M tl)) (h : wX11_lay_85 post M tl s1 s2) : T E kX11_lay 0 0 (WM E ad M tl) 85 [] [.int s2, .int s1, .ref (ad (107))] Φ := by
  unfold wX11_lay_85 at h
  obtain ⟨hi1, h⟩ := h
  refine af_iast (a := 107) rfl rfl dX11_lay_85 hi1 ?_
  replace h := h _ rfl
  generalize mset M 107 (s1 : Int32).toNatClampNeg s2 = M2 at h ⊢
  refine tj_iconst (v := 1) rfl dX11_lay_86 (by decide) ?_
  exact tj_ireturn (ty := .int) dX11_lay_87 rfl rfl (Nat.zero_le _) (Nat.zero_le _) (hp _ _ _ h)
def wpX11_lay (post : Int32 → MM → Int64 → Prop) (M : MM) (tl : Int64) (v1 : Int32) (v2 : Int32) (v3 : Int32) : Prop :=
  wpX11_isSheet (fun r3 M1 t2 => (if r3 = 0 then post (-1) M1 t2 else (vp_in v1 (al 105) ∧ (if (M1 105 (v1 : Int32).toNatClampNeg) = (-4) then post (-11) M1 t2 else (vp_in v1 (al 106) ∧ wpX11_in (fun r8 M6 t7 => (if r8 = 0 then post (-12) M6 t7 else (vp_in v1 (al 105) ∧ (if (M6 105 (v1 : Int32).toNatClampNeg) = 0 then wX11_lay_85 post  M6 t7 (((40 : Int32) * v1) + v2) ((v3 : Int32).toInt8.toInt32) else (vp_in v1 (al 105) ∧ (if (M6 105 (v1 : Int32).toNatClampNeg) = 1 then wX11_lay_85 post  M6 t7 (((40 : Int32) * v1) + v2) ((v3 : Int32).toInt16.toInt32) else wX11_lay_85 post  M6 t7 (((40 : Int32) * v1) + v2) v3)))))) M1 t2 ((v2 : Int32).toInt64) 0 (((M1 106 (v1 : Int32).toNatClampNeg) - 1 : Int32).toInt64)))))) M tl v1 0
set_option maxHeartbeats 4000000 in
set_option maxRecDepth 20000 in
theorem ctX11_lay {E : EV} {ad : Nat → Nat} {M : MM} {tl : Int64} {Φ : Option Value → va_W → Prop} {post : Int32 → MM → Int64 → Prop} {v1 : Int32} {v2 : Int32} {v3 : Int32} (h : wpX11_lay post M tl v1 v2 v3) (hp : ∀ r M tl, post r M tl → Φ (some (.int r)) (WM E ad M tl)) : Tm E kX11_lay (WM E ad M tl) [.ref (ad (81)), .int v1, .int v2, .int v3] Φ := by
  unfold wpX11_lay at h
  show T E kX11_lay 0 0 (WM E ad M tl) 0 [(0, .ref (ad (81))), (1, .int v1), (2, .int v2), (3, .int v3)] [] Φ
  refine tj_iload_n rfl dX11_lay_0 rfl ?_
  refine tj_iconst (v := 0) rfl dX11_lay_1 (by decide) ?_
  refine cf_S (z := kX11_isSheet) (As := [_, _]) rfl dX11_lay_2 rfl ml_X11_371 okX11_isSheet rfl (rm_ok rfl) (Nat.le_of_ble_eq_true rfl) (Nat.le_of_ble_eq_true rfl) rfl ?_
  refine ctX11_isSheet h (fun r3 M1 t2 h => ?_)
  refine tj_if_ne (tgt := 10) rfl rfl dX11_lay_5 (fun hc => ?_) (fun hc => ?_)
  · rw [if_neg hc] at h
    refine tj_aload_n rfl dX11_lay_10 rfl ?_
    refine gf11_lanes (a := 81) rfl rfl dX11_lay_11 fl_X11_80 ?_
    refine tj_iload_n rfl dX11_lay_14 rfl ?_
    obtain ⟨hi4, h⟩ := h
    refine af_iald (a := 105) rfl rfl dX11_lay_15 hi4 ?_
    refine tj_bipush (v := -4) rfl dX11_lay_16 (by decide) ?_
    refine tj_icmp_ne (tgt := 24) rfl rfl dX11_lay_18 (fun hc => ?_) (fun hc => ?_)
    · rw [if_neg hc] at h
      refine tj_iload_n rfl dX11_lay_24 rfl ?_
      refine tj_i2l rfl dX11_lay_25 ?_
      refine tj_lconst (v := 0) rfl dX11_lay_26 (by decide) ?_
      refine tj_aload_n rfl dX11_lay_27 rfl ?_
      refine gf11_sizes (a := 81) rfl rfl dX11_lay_28 fl_X11_83 ?_
      refine tj_iload_n rfl dX11_lay_31 rfl ?_
      obtain ⟨hi5, h⟩ := h
      refine af_iald (a := 106) rfl rfl dX11_lay_32 hi5 ?_
      refine tj_iconst (v := 1) rfl dX11_lay_33 (by decide) ?_
      refine tj_isub rfl dX11_lay_34 ?_
      refine tj_i2l rfl dX11_lay_35 ?_
      refine cf_S (z := kX11_in) (As := [_, _, _]) rfl dX11_lay_36 rfl ml_X11_146 okX11_in rfl (rm_ok rfl) (Nat.le_of_ble_eq_true rfl) (Nat.le_of_ble_eq_true rfl) rfl ?_
      refine ctX11_in h (fun r8 M6 t7 h => ?_)
      refine tj_if_ne (tgt := 45) rfl rfl dX11_lay_39 (fun hc => ?_) (fun hc => ?_)
      · rw [if_neg hc] at h
        refine tj_aload_n rfl dX11_lay_45 rfl ?_
        refine gf11_cells (a := 81) rfl rfl dX11_lay_46 fl_X11_86 ?_
        refine tj_bipush (v := 40) rfl dX11_lay_49 (by decide) ?_
        refine tj_iload_n rfl dX11_lay_51 rfl ?_
        refine tj_imul rfl dX11_lay_52 ?_
        refine tj_iload_n rfl dX11_lay_53 rfl ?_
        refine tj_iadd rfl dX11_lay_54 ?_
        refine tj_aload_n rfl dX11_lay_55 rfl ?_
        refine gf11_lanes (a := 81) rfl rfl dX11_lay_56 fl_X11_80 ?_
        refine tj_iload_n rfl dX11_lay_59 rfl ?_
        obtain ⟨hi9, h⟩ := h
        refine af_iald (a := 105) rfl rfl dX11_lay_60 hi9 ?_
        refine tj_if_ne (tgt := 69) rfl rfl dX11_lay_61 (fun hc => ?_) (fun hc => ?_)
        · rw [if_neg hc] at h
          refine tj_aload_n rfl dX11_lay_69 rfl ?_
          refine gf11_lanes (a := 81) rfl rfl dX11_lay_70 fl_X11_80 ?_
          refine tj_iload_n rfl dX11_lay_73 rfl ?_
          obtain ⟨hi10, h⟩ := h
          refine af_iald (a := 105) rfl rfl dX11_lay_74 hi10 ?_
          refine tj_iconst (v := 1) rfl dX11_lay_75 (by decide) ?_
          refine tj_icmp_ne (tgt := 84) rfl rfl dX11_lay_76 (fun hc => ?_) (fun hc => ?_)
          · rw [if_neg hc] at h
            refine tj_iload_n rfl dX11_lay_84 rfl ?_
            exact tj_pick (l' := []) [] rfl (bX11_lay_85 hp  h)
          · rw [if_pos hc] at h
            refine tj_iload_n rfl dX11_lay_79 rfl ?_
            refine tj_i2s rfl dX11_lay_80 ?_
            refine tj_goto (tgt := 85) rfl dX11_lay_81 ?_
            exact tj_pick (l' := []) [] rfl (bX11_lay_85 hp  h)
        · rw [if_pos hc] at h
          refine tj_iload_n rfl dX11_lay_64 rfl ?_
          refine tj_i2b rfl dX11_lay_65 ?_
          refine tj_goto (tgt := 85) rfl dX11_lay_66 ?_
          exact tj_pick (l' := []) [] rfl (bX11_lay_85 hp  h)
      · rw [if_pos hc] at h
        refine tj_bipush (v := -12) rfl dX11_lay_42 (by decide) ?_
        exact tj_ireturn (ty := .int) dX11_lay_44 rfl rfl (Nat.zero_le _) (Nat.zero_le _) (hp _ _ _ h)
    · rw [if_pos hc] at h
      refine tj_bipush (v := -11) rfl dX11_lay_21 (by decide) ?_
      exact tj_ireturn (ty := .int) dX11_lay_23 rfl rfl (Nat.zero_le _) (Nat.zero_le _) (hp _ _ _ h)
  · rw [if_pos hc] at h
    refine tj_iconst (v := -1) rfl dX11_lay_8 (by decide) ?_
    exact tj_ireturn (ty := .int) dX11_lay_9 rfl rfl (Nat.zero_le _) (Nat.zero_le _) (hp _ _ _ h)
def wX11_read_126 (post : Int32 → MM → Int64 → Prop) (bk32 : MM → Int64 → Int32 → Int32 → Int32 → Int32 → Int32 → Int32 → Int32 → Prop) (bk47 : MM → Int64 → Int32 → Int32 → Int32 → Int32 → Int32 → Int32 → Int32 → Int32 → Prop) (M : MM) (tl : Int64) (v1 : Int32) (v2 : Int32) (v3 : Int32) (v4 : Int32) (v6 : Int32) (v7 : Int32) (v8 : Int32) (s0 : Int32) : Prop :=
  bk47 M tl v1 v2 v3 v4 s0 v6 v7 (v8 + 1)
set_option maxHeartbeats 4000000 in
set_option maxRecDepth 20000 in
theorem bX11_read_126 {E : EV} {ad : Nat → Nat} {M : MM} {tl : Int64} {Φ : Option Value → va_W → Prop} {post : Int32 → MM → Int64 → Prop} {bk32 : MM → Int64 → Int32 → Int32 → Int32 → Int32 → Int32 → Int32 → Int32 → Prop} {bk47 : MM → Int64 → Int32 → Int32 → Int32 → Int32 → Int32 → Int32 → Int32 → Int32 → Prop} {v1 : Int32} {v2 : Int32} {v3 : Int32} {v4 : Int32} {v6 : Int32} {v7 : Int32} {v8 : Int32} {s0 : Int32} (hp : ∀ r M tl, post r M tl → Φ (some (.int r)) (WM E ad M tl)) (hb32 : ∀ (M : MM) (tl : Int64) (v1 : Int32) (v2 : Int32) (v3 : Int32) (v4 : Int32) (v5 : Int32) (v6 : Int32) (v7 : Int32), bk32 M tl v1 v2 v3 v4 v5 v6 v7 → T E kX11_read 0 0 (WM E ad M tl) 32 [(0, .ref (ad (81))), (1, .int v1), (2, .int v2), (3, .int v3), (4, .int v4), (5, .int v5), (6, .int v6), (7, .int v7)] [] Φ) (hb47 : ∀ (M : MM) (tl : Int64) (v1 : Int32) (v2 : Int32) (v3 : Int32) (v4 : Int32) (v5 : Int32) (v6 : Int32) (v7 : Int32) (v8 : Int32), bk47 M tl v1 v2 v3 v4 v5 v6 v7 v8 → T E kX11_read 0 0 (WM E ad M tl) 47 [(0, .ref (ad (81))), (1, .int v1), (2, .int v2), (3, .int v3), (4, .int v4), (5, .int v5), (6, .int v6), (7, .int v7), (8, .int v8)] [] Φ) (h : wX11_read_126 post bk32 bk47 M tl v1 v2 v3 v4 v6 v7 v8 s0) : T E kX11_read 0 0 (WM E ad M tl) 126 [(0, .ref (ad (81))), (1, .int v1), (2, .int v2), (3, .int v3), (4, .int v4), (6, .int v6), (7, .int v7), (8, .int v8)] [.int s0] Φ := by
  unfold wX11_read_126 at h
  refine tj_istore (l' := [(0, _), (1, _), (2, _), (3, _), (4, _), (5, _), (6, _), (7, _), (8, _)]) rfl dX11_read_126 (by decide) rfl ?_
  refine tj_iinc (v := _ + 1) (l' := [(0, _), (1, _), (2, _), (3, _), (4, _), (5, _), (6, _), (7, _), (8, _)]) rfl dX11_read_128 rfl (by decide) rfl rfl ?_
  refine tj_goto (tgt := 47) rfl dX11_read_131 ?_
  exact hb47 _ _ _ _ _ _ _ _ _ _ h
def wX11_read_121 (post : Int32 → MM → Int64 → Prop) (bk32 : MM → Int64 → Int32 → Int32 → Int32 → Int32 → Int32 → Int32 → Int32 → Prop) (bk47 : MM → Int64 → Int32 → Int32 → Int32 → Int32 → Int32 → Int32 → Int32 → Int32 → Prop) (M : MM) (tl : Int64) (v1 : Int32) (v2 : Int32) (v3 : Int32) (v4 : Int32) (v6 : Int32) (v7 : Int32) (v8 : Int32) : Prop :=
  wX11_read_126 post bk32 bk47 M tl v1 v2 v3 v4 v6 v7 v8 2
set_option maxHeartbeats 4000000 in
set_option maxRecDepth 20000 in
theorem bX11_read_121 {E : EV} {ad : Nat → Nat} {M : MM} {tl : Int64} {Φ : Option Value → va_W → Prop} {post : Int32 → MM → Int64 → Prop} {bk32 : MM → Int64 → Int32 → Int32 → Int32 → Int32 → Int32 → Int32 → Int32 → Prop} {bk47 : MM → Int64 → Int32 → Int32 → Int32 → Int32 → Int32 → Int32 → Int32 → Int32 → Prop} {v1 : Int32} {v2 : Int32} {v3 : Int32} {v4 : Int32} {v6 : Int32} {v7 : Int32} {v8 : Int32} (hp : ∀ r M tl, post r M tl → Φ (some (.int r)) (WM E ad M tl)) (hb32 : ∀ (M : MM) (tl : Int64) (v1 : Int32) (v2 : Int32) (v3 : Int32) (v4 : Int32) (v5 : Int32) (v6 : Int32) (v7 : Int32), bk32 M tl v1 v2 v3 v4 v5 v6 v7 → T E kX11_read 0 0 (WM E ad M tl) 32 [(0, .ref (ad (81))), (1, .int v1), (2, .int v2), (3, .int v3), (4, .int v4), (5, .int v5), (6, .int v6), (7, .int v7)] [] Φ) (hb47 : ∀ (M : MM) (tl : Int64) (v1 : Int32) (v2 : Int32) (v3 : Int32) (v4 : Int32) (v5 : Int32) (v6 : Int32) (v7 : Int32) (v8 : Int32), bk47 M tl v1 v2 v3 v4 v5 v6 v7 v8 → T E kX11_read 0 0 (WM E ad M tl) 47 [(0, .ref (ad (81))), (1, .int v1), (2, .int v2), (3, .int v3), (4, .int v4), (5, .int v5), (6, .int v6), (7, .int v7), (8, .int v8)] [] Φ) (h : wX11_read_121 post bk32 bk47 M tl v1 v2 v3 v4 v6 v7 v8) : T E kX11_read 0 0 (WM E ad M tl) 121 [(0, .ref (ad (81))), (1, .int v1), (2, .int v2), (3, .int v3), (4, .int v4), (6, .int v6), (7, .int v7), (8, .int v8)] [] Φ := by
  unfold wX11_read_121 at h
  refine tj_iconst (v := 2) rfl dX11_read_121 (by decide) ?_
  refine tj_goto (tgt := 126) rfl dX11_read_122 ?_
  exact bX11_read_126 hp hb32 hb47 h
def wX11_read_199 (post : Int32 → MM → Int64 → Prop) (bk32 : MM → Int64 → Int32 → Int32 → Int32 → Int32 → Int32 → Int32 → Int32 → Prop) (M : MM) (tl : Int64) (v1 : Int32) (v2 : Int32) (v3 : Int32) (v4 : Int32) (v5 : Int32) (v6 : Int32) (v7 : Int32) : Prop :=
  bk32 M tl v1 v2 v3 v4 v5 v6 (v7 + 1)
set_option maxHeartbeats 4000000 in
set_option maxRecDepth 20000 in
theorem bX11_read_199 {E : EV} {ad : Nat → Nat} {M : MM} {tl : Int64} {Φ : Option Value → va_W → Prop} {post : Int32 → MM → Int64 → Prop} {bk32 : MM → Int64 → Int32 → Int32 → Int32 → Int32 → Int32 → Int32 → Int32 → Prop} {v1 : Int32} {v2 : Int32} {v3 : Int32} {v4 : Int32} {v5 : Int32} {v6 : Int32} {v7 : Int32} (hp : ∀ r M tl, post r M tl → Φ (some (.int r)) (WM E ad M tl)) (hb32 : ∀ (M : MM) (tl : Int64) (v1 : Int32) (v2 : Int32) (v3 : Int32) (v4 : Int32) (v5 : Int32) (v6 : Int32) (v7 : Int32), bk32 M tl v1 v2 v3 v4 v5 v6 v7 → T E kX11_read 0 0 (WM E ad M tl) 32 [(0, .ref (ad (81))), (1, .int v1), (2, .int v2), (3, .int v3), (4, .int v4), (5, .int v5), (6, .int v6), (7, .int v7)] [] Φ) (h : wX11_read_199 post bk32 M tl v1 v2 v3 v4 v5 v6 v7) : T E kX11_read 0 0 (WM E ad M tl) 199 [(0, .ref (ad (81))), (1, .int v1), (2, .int v2), (3, .int v3), (4, .int v4), (5, .int v5), (6, .int v6), (7, .int v7)] [] Φ := by
  unfold wX11_read_199 at h
  refine tj_iinc (v := _ + 1) (l' := [(0, _), (1, _), (2, _), (3, _), (4, _), (5, _), (6, _), (7, _)]) rfl dX11_read_199 rfl (by decide) rfl rfl ?_
  refine tj_goto (tgt := 32) rfl dX11_read_202 ?_
  exact hb32 _ _ _ _ _ _ _ _ _ h
def wX11_read_134 (post : Int32 → MM → Int64 → Prop) (bk32 : MM → Int64 → Int32 → Int32 → Int32 → Int32 → Int32 → Int32 → Int32 → Prop) (M : MM) (tl : Int64) (v1 : Int32) (v2 : Int32) (v3 : Int32) (v4 : Int32) (v5 : Int32) (v6 : Int32) (v7 : Int32) : Prop :=
  (if v5 = 0 then (vp_in ((((40 : Int32) * v1) + v3) + ((3 : Int32) * v7)) (al 107) ∧ (vp_in (((((40 : Int32) * v1) + v3) + ((3 : Int32) * v7)) + 1) (al 107) ∧ wpX11_isLot (fun r5 M3 t4 => (if r5 = 0 then post (((-20) : Int32) - v7) M3 t4 else (vp_in (((((40 : Int32) * v1) + v3) + ((3 : Int32) * v7)) + 2) (al 107) ∧ wpX11_isThing (fun r9 M7 t8 => (if r9 = 0 then post (((-20) : Int32) - v7) M7 t8 else wX11_read_199 post bk32 M7 t8 v1 v2 v3 v4 v5 (v6 + 1) v7)) M3 t4 (M3 107 (((((40 : Int32) * v1) + v3) + ((3 : Int32) * v7)) + 2 : Int32).toNatClampNeg)))) M tl (M 107 ((((40 : Int32) * v1) + v3) + ((3 : Int32) * v7) : Int32).toNatClampNeg) (M 107 (((((40 : Int32) * v1) + v3) + ((3 : Int32) * v7)) + 1 : Int32).toNatClampNeg))) else wX11_read_199 post bk32 M tl v1 v2 v3 v4 v5 v6 v7)
set_option maxHeartbeats 4000000 in
set_option maxRecDepth 20000 in
theorem bX11_read_134 {E : EV} {ad : Nat → Nat} {M : MM} {tl : Int64} {Φ : Option Value → va_W → Prop} {post : Int32 → MM → Int64 → Prop} {bk32 : MM → Int64 → Int32 → Int32 → Int32 → Int32 → Int32 → Int32 → Int32 → Prop} {v1 : Int32} {v2 : Int32} {v3 : Int32} {v4 : Int32} {v5 : Int32} {v6 : Int32} {v7 : Int32} (hp : ∀ r M tl, post r M tl → Φ (some (.int r)) (WM E ad M tl)) (hb32 : ∀ (M : MM) (tl : Int64) (v1 : Int32) (v2 : Int32) (v3 : Int32) (v4 : Int32) (v5 : Int32) (v6 : Int32) (v7 : Int32), bk32 M tl v1 v2 v3 v4 v5 v6 v7 → T E kX11_read 0 0 (WM E ad M tl) 32 [(0, .ref (ad (81))), (1, .int v1), (2, .int v2), (3, .int v3), (4, .int v4), (5, .int v5), (6, .int v6), (7, .int v7)] [] Φ) (h : wX11_read_134 post bk32 M tl v1 v2 v3 v4 v5 v6 v7) : T E kX11_read 0 0 (WM E ad M tl) 134 [(0, .ref (ad (81))), (1, .int v1), (2, .int v2), (3, .int v3), (4, .int v4), (5, .int v5), (6, .int v6), (7, .int v7)] [] Φ := by
  unfold wX11_read_134 at h
  refine tj_iload rfl dX11_read_134 rfl ?_
  refine tj_if_ne (tgt := 199) rfl rfl dX11_read_136 (fun hc => ?_) (fun hc => ?_)
  · rw [if_neg hc] at h
    exact bX11_read_199 hp hb32 h
  · rw [if_pos hc] at h
    refine tj_bipush (v := 40) rfl dX11_read_139 (by decide) ?_
    refine tj_iload_n rfl dX11_read_141 rfl ?_
    refine tj_imul rfl dX11_read_142 ?_
    refine tj_iload_n rfl dX11_read_143 rfl ?_
    refine tj_iadd rfl dX11_read_144 ?_
    refine tj_iconst (v := 3) rfl dX11_read_145 (by decide) ?_
    refine tj_iload rfl dX11_read_146 rfl ?_
    refine tj_imul rfl dX11_read_148 ?_
    refine tj_iadd rfl dX11_read_149 ?_
    refine tj_istore (l' := [(0, _), (1, _), (2, _), (3, _), (4, _), (5, _), (6, _), (7, _), (8, _)]) rfl dX11_read_150 (by decide) rfl ?_
    refine tj_aload_n rfl dX11_read_152 rfl ?_
    refine tj_aload_n rfl dX11_read_153 rfl ?_
    refine gf11_cells (a := 81) rfl rfl dX11_read_154 fl_X11_86 ?_
    refine tj_iload rfl dX11_read_157 rfl ?_
    obtain ⟨hi1, h⟩ := h
    refine af_iald (a := 107) rfl rfl dX11_read_159 hi1 ?_
    refine tj_aload_n rfl dX11_read_160 rfl ?_
    refine gf11_cells (a := 81) rfl rfl dX11_read_161 fl_X11_86 ?_
    refine tj_iload rfl dX11_read_164 rfl ?_
    refine tj_iconst (v := 1) rfl dX11_read_166 (by decide) ?_
    refine tj_iadd rfl dX11_read_167 ?_
    obtain ⟨hi2, h⟩ := h
    refine af_iald (a := 107) rfl rfl dX11_read_168 hi2 ?_
    refine cf_V11 (a := 81) (z := kX11_isLot) (As := [_, _]) rfl rfl dX11_read_169 rfl ml_X11_282 okX11_isLot rfl (rm_ok rfl) (Nat.le_of_ble_eq_true rfl) (Nat.le_of_ble_eq_true rfl) rfl rfl ?_
    refine ctX11_isLot h (fun r5 M3 t4 h => ?_)
    refine tj_if_eq (tgt := 190) rfl rfl dX11_read_172 (fun hc => ?_) (fun hc => ?_)
    · rw [if_pos hc] at h
      refine tj_bipush (v := -20) rfl dX11_read_190 (by decide) ?_
      refine tj_iload rfl dX11_read_192 rfl ?_
      refine tj_isub rfl dX11_read_194 ?_
      exact tj_ireturn (ty := .int) dX11_read_195 rfl rfl (Nat.zero_le _) (Nat.zero_le _) (hp _ _ _ h)
    · rw [if_neg hc] at h
      refine tj_aload_n rfl dX11_read_175 rfl ?_
      refine gf11_cells (a := 81) rfl rfl dX11_read_176 fl_X11_86 ?_
      refine tj_iload rfl dX11_read_179 rfl ?_
      refine tj_iconst (v := 2) rfl dX11_read_181 (by decide) ?_
      refine tj_iadd rfl dX11_read_182 ?_
      obtain ⟨hi6, h⟩ := h
      refine af_iald (a := 107) rfl rfl dX11_read_183 hi6 ?_
      refine cf_S (z := kX11_isThing) (As := [_]) rfl dX11_read_184 rfl ml_X11_273 okX11_isThing rfl (rm_ok rfl) (Nat.le_of_ble_eq_true rfl) (Nat.le_of_ble_eq_true rfl) rfl ?_
      refine ctX11_isThing h (fun r9 M7 t8 h => ?_)
      refine tj_if_ne (tgt := 196) rfl rfl dX11_read_187 (fun hc => ?_) (fun hc => ?_)
      · rw [if_neg hc] at h
        refine tj_iinc (v := _ + 1) (l' := [(0, _), (1, _), (2, _), (3, _), (4, _), (5, _), (6, _), (7, _), (8, _)]) rfl dX11_read_196 rfl (by decide) rfl rfl ?_
        exact tj_pick (l' := [(0, _), (1, _), (2, _), (3, _), (4, _), (5, _), (6, _), (7, _)]) [0, 1, 2, 3, 4, 5, 6, 7] rfl (bX11_read_199 hp hb32 h)
      · rw [if_pos hc] at h
        refine tj_bipush (v := -20) rfl dX11_read_190 (by decide) ?_
        refine tj_iload rfl dX11_read_192 rfl ?_
        refine tj_isub rfl dX11_read_194 ?_
        exact tj_ireturn (ty := .int) dX11_read_195 rfl rfl (Nat.zero_le _) (Nat.zero_le _) (hp _ _ _ h)
def wX11_read_47 (post : Int32 → MM → Int64 → Prop) (bk32 : MM → Int64 → Int32 → Int32 → Int32 → Int32 → Int32 → Int32 → Int32 → Prop) : Nat → MM → Int64 → Int32 → Int32 → Int32 → Int32 → Int32 → Int32 → Int32 → Int32 → Prop
  | 0, _, _, _, _, _, _, _, _, _, _ => False
  | n + 1, M, tl, v1, v2, v3, v4, v5, v6, v7, v8 =>
    (if 3 ≤ v8 then wX11_read_134 post bk32 M tl v1 v2 v3 v4 v5 v6 v7 else (if v5 = 0 then (vp_in v1 (al 105) ∧ (if (M 105 (v1 : Int32).toNatClampNeg) = (-4) then wX11_read_126 post bk32 (wX11_read_47 post bk32 n) M tl v1 v2 v3 v4 v6 v7 v8 1 else (vp_in v1 (al 105) ∧ (if (M 105 (v1 : Int32).toNatClampNeg) = v2 then (if (lg_cmp ((((v3 : Int32).toInt64) + (((3 : Int32) * v7 : Int32).toInt64)) + ((v8 : Int32).toInt64)) 0) < 0 then wX11_read_121 post bk32 (wX11_read_47 post bk32 n) M tl v1 v2 v3 v4 v6 v7 v8 else (vp_in v1 (al 106) ∧ (if (lg_cmp ((((v3 : Int32).toInt64) + (((3 : Int32) * v7 : Int32).toInt64)) + ((v8 : Int32).toInt64)) ((M 106 (v1 : Int32).toNatClampNeg : Int32).toInt64)) < 0 then wX11_read_126 post bk32 (wX11_read_47 post bk32 n) M tl v1 v2 v3 v4 v6 v7 v8 0 else wX11_read_121 post bk32 (wX11_read_47 post bk32 n) M tl v1 v2 v3 v4 v6 v7 v8))) else wX11_read_126 post bk32 (wX11_read_47 post bk32 n) M tl v1 v2 v3 v4 v6 v7 v8 3)))) else wX11_read_134 post bk32 M tl v1 v2 v3 v4 v5 v6 v7))
set_option maxHeartbeats 4000000 in
set_option maxRecDepth 20000 in
theorem bX11_read_47 {E : EV} {ad : Nat → Nat} {Φ : Option Value → va_W → Prop} {post : Int32 → MM → Int64 → Prop} {bk32 : MM → Int64 → Int32 → Int32 → Int32 → Int32 → Int32 → Int32 → Int32 → Prop}  (hp : ∀ r M tl, post r M tl → Φ (some (.int r)) (WM E ad M tl)) (hb32 : ∀ (M : MM) (tl : Int64) (v1 : Int32) (v2 : Int32) (v3 : Int32) (v4 : Int32) (v5 : Int32) (v6 : Int32) (v7 : Int32), bk32 M tl v1 v2 v3 v4 v5 v6 v7 → T E kX11_read 0 0 (WM E ad M tl) 32 [(0, .ref (ad (81))), (1, .int v1), (2, .int v2), (3, .int v3), (4, .int v4), (5, .int v5), (6, .int v6), (7, .int v7)] [] Φ) : ∀ (n : Nat) (M : MM) (tl : Int64) (v1 : Int32) (v2 : Int32) (v3 : Int32) (v4 : Int32) (v5 : Int32) (v6 : Int32) (v7 : Int32) (v8 : Int32), wX11_read_47 post bk32 n M tl v1 v2 v3 v4 v5 v6 v7 v8 → T E kX11_read 0 0 (WM E ad M tl) 47 [(0, .ref (ad (81))), (1, .int v1), (2, .int v2), (3, .int v3), (4, .int v4), (5, .int v5), (6, .int v6), (7, .int v7), (8, .int v8)] [] Φ := by
  intro n
  induction n with
  | zero => intro M tl v1 v2 v3 v4 v5 v6 v7 v8 h; exact False.elim h
  | succ n ih =>
    intro M tl v1 v2 v3 v4 v5 v6 v7 v8 h
    unfold wX11_read_47 at h
    refine tj_iload rfl dX11_read_47 rfl ?_
    refine tj_iconst (v := 3) rfl dX11_read_49 (by decide) ?_
    refine tj_icmp_ge (tgt := 134) rfl rfl dX11_read_50 (fun hc => ?_) (fun hc => ?_)
    · rw [if_pos hc] at h
      exact tj_pick (l' := [(0, _), (1, _), (2, _), (3, _), (4, _), (5, _), (6, _), (7, _)]) [0, 1, 2, 3, 4, 5, 6, 7] rfl (bX11_read_134 hp hb32 h)
    · rw [if_neg hc] at h
      refine tj_iload rfl dX11_read_53 rfl ?_
      refine tj_if_ne (tgt := 134) rfl rfl dX11_read_55 (fun hc => ?_) (fun hc => ?_)
      · rw [if_neg hc] at h
        exact tj_pick (l' := [(0, _), (1, _), (2, _), (3, _), (4, _), (5, _), (6, _), (7, _)]) [0, 1, 2, 3, 4, 5, 6, 7] rfl (bX11_read_134 hp hb32 h)
      · rw [if_pos hc] at h
        refine tj_iload_n rfl dX11_read_58 rfl ?_
        refine tj_i2l rfl dX11_read_59 ?_
        refine tj_iconst (v := 3) rfl dX11_read_60 (by decide) ?_
        refine tj_iload rfl dX11_read_61 rfl ?_
        refine tj_imul rfl dX11_read_63 ?_
        refine tj_i2l rfl dX11_read_64 ?_
        refine tj_ladd rfl dX11_read_65 ?_
        refine tj_iload rfl dX11_read_66 rfl ?_
        refine tj_i2l rfl dX11_read_68 ?_
        refine tj_ladd rfl dX11_read_69 ?_
        refine tj_lstore (l' := [(0, _), (1, _), (2, _), (3, _), (4, _), (5, _), (6, _), (7, _), (8, _), (9, _)]) rfl dX11_read_70 (by decide) rfl ?_
        refine tj_aload_n rfl dX11_read_72 rfl ?_
        refine gf11_lanes (a := 81) rfl rfl dX11_read_73 fl_X11_80 ?_
        refine tj_iload_n rfl dX11_read_76 rfl ?_
        obtain ⟨hi1, h⟩ := h
        refine af_iald (a := 105) rfl rfl dX11_read_77 hi1 ?_
        refine tj_bipush (v := -4) rfl dX11_read_78 (by decide) ?_
        refine tj_icmp_ne (tgt := 87) rfl rfl dX11_read_80 (fun hc => ?_) (fun hc => ?_)
        · rw [if_neg hc] at h
          refine tj_aload_n rfl dX11_read_87 rfl ?_
          refine gf11_lanes (a := 81) rfl rfl dX11_read_88 fl_X11_80 ?_
          refine tj_iload_n rfl dX11_read_91 rfl ?_
          obtain ⟨hi2, h⟩ := h
          refine af_iald (a := 105) rfl rfl dX11_read_92 hi2 ?_
          refine tj_iload_n rfl dX11_read_93 rfl ?_
          refine tj_icmp_eq (tgt := 101) rfl rfl dX11_read_94 (fun hc => ?_) (fun hc => ?_)
          · rw [if_pos hc] at h
            refine tj_lload rfl dX11_read_101 rfl ?_
            refine tj_lconst (v := 0) rfl dX11_read_103 (by decide) ?_
            refine tj_lcmp rfl dX11_read_104 ?_
            refine tj_if_lt (tgt := 121) rfl rfl dX11_read_105 (fun hc => ?_) (fun hc => ?_)
            · rw [if_pos hc] at h
              exact tj_pick (l' := [(0, _), (1, _), (2, _), (3, _), (4, _), (6, _), (7, _), (8, _)]) [0, 1, 2, 3, 4, 6, 7, 8] rfl (bX11_read_121 hp hb32 ih h)
            · rw [if_neg hc] at h
              refine tj_lload rfl dX11_read_108 rfl ?_
              refine tj_aload_n rfl dX11_read_110 rfl ?_
              refine gf11_sizes (a := 81) rfl rfl dX11_read_111 fl_X11_83 ?_
              refine tj_iload_n rfl dX11_read_114 rfl ?_
              obtain ⟨hi3, h⟩ := h
              refine af_iald (a := 106) rfl rfl dX11_read_115 hi3 ?_
              refine tj_i2l rfl dX11_read_116 ?_
              refine tj_lcmp rfl dX11_read_117 ?_
              refine tj_if_lt (tgt := 125) rfl rfl dX11_read_118 (fun hc => ?_) (fun hc => ?_)
              · rw [if_pos hc] at h
                refine tj_iconst (v := 0) rfl dX11_read_125 (by decide) ?_
                exact tj_pick (l' := [(0, _), (1, _), (2, _), (3, _), (4, _), (6, _), (7, _), (8, _)]) [0, 1, 2, 3, 4, 6, 7, 8] rfl (bX11_read_126 hp hb32 ih h)
              · rw [if_neg hc] at h
                exact tj_pick (l' := [(0, _), (1, _), (2, _), (3, _), (4, _), (6, _), (7, _), (8, _)]) [0, 1, 2, 3, 4, 6, 7, 8] rfl (bX11_read_121 hp hb32 ih h)
          · rw [if_neg hc] at h
            refine tj_iconst (v := 3) rfl dX11_read_97 (by decide) ?_
            refine tj_goto (tgt := 126) rfl dX11_read_98 ?_
            exact tj_pick (l' := [(0, _), (1, _), (2, _), (3, _), (4, _), (6, _), (7, _), (8, _)]) [0, 1, 2, 3, 4, 6, 7, 8] rfl (bX11_read_126 hp hb32 ih h)
        · rw [if_pos hc] at h
          refine tj_iconst (v := 1) rfl dX11_read_83 (by decide) ?_
          refine tj_goto (tgt := 126) rfl dX11_read_84 ?_
          exact tj_pick (l' := [(0, _), (1, _), (2, _), (3, _), (4, _), (6, _), (7, _), (8, _)]) [0, 1, 2, 3, 4, 6, 7, 8] rfl (bX11_read_126 hp hb32 ih h)
def wX11_read_214 (post : Int32 → MM → Int64 → Prop) : Nat → MM → Int64 → Int32 → Int32 → Int32 → Int32 → Prop
  | 0, _, _, _, _, _, _ => False
  | n + 1, M, tl, v1, v3, v6, v7 =>
    (if v6 ≤ v7 then post v6 M tl else (vp_in ((((40 : Int32) * v1) + v3) + ((3 : Int32) * v7)) (al 107) ∧ (vp_in (((((40 : Int32) * v1) + v3) + ((3 : Int32) * v7)) + 1) (al 107) ∧ (vp_in (((((40 : Int32) * v1) + v3) + ((3 : Int32) * v7)) + 2) (al 107) ∧ (vp_in (((8 : Int32) * (M 107 ((((40 : Int32) * v1) + v3) + ((3 : Int32) * v7) : Int32).toNatClampNeg)) + (M 107 (((((40 : Int32) * v1) + v3) + ((3 : Int32) * v7)) + 1 : Int32).toNatClampNeg)) (al 82) ∧ (∀ M5 : MM, M5 = mset M 82 (((8 : Int32) * (M 107 ((((40 : Int32) * v1) + v3) + ((3 : Int32) * v7) : Int32).toNatClampNeg)) + (M 107 (((((40 : Int32) * v1) + v3) + ((3 : Int32) * v7)) + 1 : Int32).toNatClampNeg) : Int32).toNatClampNeg (M 107 (((((40 : Int32) * v1) + v3) + ((3 : Int32) * v7)) + 2 : Int32).toNatClampNeg) → (wX11_read_214 post n) M5 tl v1 v3 v6 (v7 + 1)))))))
set_option maxHeartbeats 4000000 in
set_option maxRecDepth 20000 in
theorem bX11_read_214 {E : EV} {ad : Nat → Nat} {Φ : Option Value → va_W → Prop} {post : Int32 → MM → Int64 → Prop}  (hp : ∀ r M tl, post r M tl → Φ (some (.int r)) (WM E ad M tl)) : ∀ (n : Nat) (M : MM) (tl : Int64) (v1 : Int32) (v3 : Int32) (v6 : Int32) (v7 : Int32), wX11_read_214 post n M tl v1 v3 v6 v7 → T E kX11_read 0 0 (WM E ad M tl) 214 [(0, .ref (ad (81))), (1, .int v1), (3, .int v3), (6, .int v6), (7, .int v7)] [] Φ := by
  intro n
  induction n with
  | zero => intro M tl v1 v3 v6 v7 h; exact False.elim h
  | succ n ih =>
    intro M tl v1 v3 v6 v7 h
    unfold wX11_read_214 at h
    refine tj_iload rfl dX11_read_214 rfl ?_
    refine tj_iload rfl dX11_read_216 rfl ?_
    refine tj_icmp_ge (tgt := 274) rfl rfl dX11_read_218 (fun hc => ?_) (fun hc => ?_)
    · rw [if_pos hc] at h
      refine tj_iload rfl dX11_read_274 rfl ?_
      exact tj_ireturn (ty := .int) dX11_read_276 rfl rfl (Nat.zero_le _) (Nat.zero_le _) (hp _ _ _ h)
    · rw [if_neg hc] at h
      refine tj_bipush (v := 40) rfl dX11_read_221 (by decide) ?_
      refine tj_iload_n rfl dX11_read_223 rfl ?_
      refine tj_imul rfl dX11_read_224 ?_
      refine tj_iload_n rfl dX11_read_225 rfl ?_
      refine tj_iadd rfl dX11_read_226 ?_
      refine tj_iconst (v := 3) rfl dX11_read_227 (by decide) ?_
      refine tj_iload rfl dX11_read_228 rfl ?_
      refine tj_imul rfl dX11_read_230 ?_
      refine tj_iadd rfl dX11_read_231 ?_
      refine tj_istore (l' := [(0, _), (1, _), (3, _), (6, _), (7, _), (8, _)]) rfl dX11_read_232 (by decide) rfl ?_
      refine tj_aload_n rfl dX11_read_234 rfl ?_
      refine gf11_st (a := 81) rfl rfl dX11_read_235 fl_X11_7 ?_
      refine tj_bipush (v := 8) rfl dX11_read_238 (by decide) ?_
      refine tj_aload_n rfl dX11_read_240 rfl ?_
      refine gf11_cells (a := 81) rfl rfl dX11_read_241 fl_X11_86 ?_
      refine tj_iload rfl dX11_read_244 rfl ?_
      obtain ⟨hi1, h⟩ := h
      refine af_iald (a := 107) rfl rfl dX11_read_246 hi1 ?_
      refine tj_imul rfl dX11_read_247 ?_
      refine tj_aload_n rfl dX11_read_248 rfl ?_
      refine gf11_cells (a := 81) rfl rfl dX11_read_249 fl_X11_86 ?_
      refine tj_iload rfl dX11_read_252 rfl ?_
      refine tj_iconst (v := 1) rfl dX11_read_254 (by decide) ?_
      refine tj_iadd rfl dX11_read_255 ?_
      obtain ⟨hi2, h⟩ := h
      refine af_iald (a := 107) rfl rfl dX11_read_256 hi2 ?_
      refine tj_iadd rfl dX11_read_257 ?_
      refine tj_aload_n rfl dX11_read_258 rfl ?_
      refine gf11_cells (a := 81) rfl rfl dX11_read_259 fl_X11_86 ?_
      refine tj_iload rfl dX11_read_262 rfl ?_
      refine tj_iconst (v := 2) rfl dX11_read_264 (by decide) ?_
      refine tj_iadd rfl dX11_read_265 ?_
      obtain ⟨hi3, h⟩ := h
      refine af_iald (a := 107) rfl rfl dX11_read_266 hi3 ?_
      obtain ⟨hi4, h⟩ := h
      refine af_iast (a := 82) rfl rfl dX11_read_267 hi4 ?_
      replace h := h _ rfl
      generalize mset M 82 (((8 : Int32) * (M 107 ((((40 : Int32) * v1) + v3) + ((3 : Int32) * v7) : Int32).toNatClampNeg)) + (M 107 (((((40 : Int32) * v1) + v3) + ((3 : Int32) * v7)) + 1 : Int32).toNatClampNeg) : Int32).toNatClampNeg (M 107 (((((40 : Int32) * v1) + v3) + ((3 : Int32) * v7)) + 2 : Int32).toNatClampNeg) = M5 at h ⊢
      refine tj_iinc (v := _ + 1) (l' := [(0, _), (1, _), (3, _), (6, _), (7, _), (8, _)]) rfl dX11_read_268 rfl (by decide) rfl rfl ?_
      refine tj_goto (tgt := 214) rfl dX11_read_271 ?_
      exact tj_pick (l' := [(0, _), (1, _), (3, _), (6, _), (7, _)]) [0, 1, 2, 3, 4] rfl (ih _ _ _ _ _ _ h)
def wX11_read_205 (post : Int32 → MM → Int64 → Prop) (M : MM) (tl : Int64) (v1 : Int32) (v3 : Int32) (v5 : Int32) (v6 : Int32) : Prop :=
  (∀ M1 : MM, M1 = mset M 81 48 v5 → (∃ n9, wX11_read_214 post  n9 M1 tl v1 v3 v6 0))
set_option maxHeartbeats 4000000 in
set_option maxRecDepth 20000 in
theorem bX11_read_205 {E : EV} {ad : Nat → Nat} {M : MM} {tl : Int64} {Φ : Option Value → va_W → Prop} {post : Int32 → MM → Int64 → Prop} {v1 : Int32} {v3 : Int32} {v5 : Int32} {v6 : Int32} (hp : ∀ r M tl, post r M tl → Φ (some (.int r)) (WM E ad M tl)) (h : wX11_read_205 post M tl v1 v3 v5 v6) : T E kX11_read 0 0 (WM E ad M tl) 205 [(0, .ref (ad (81))), (1, .int v1), (3, .int v3), (5, .int v5), (6, .int v6)] [] Φ := by
  unfold wX11_read_205 at h
  refine tj_aload_n rfl dX11_read_205 rfl ?_
  refine tj_iload rfl dX11_read_206 rfl ?_
  refine pf11_torn (a := 81) rfl rfl dX11_read_208 fl_X11_374 ?_
  replace h := h _ rfl
  generalize mset M 81 48 v5 = M1 at h ⊢
  refine tj_iconst (v := 0) rfl dX11_read_211 (by decide) ?_
  refine tj_istore (l' := [(0, _), (1, _), (3, _), (5, _), (6, _), (7, _)]) rfl dX11_read_212 (by decide) rfl ?_
  obtain ⟨n9, h⟩ := h
  exact tj_pick (l' := [(0, _), (1, _), (3, _), (6, _), (7, _)]) [0, 1, 2, 4, 5] rfl (bX11_read_214 hp  n9 _ _ _ _ _ _ h)
def wX11_read_32 (post : Int32 → MM → Int64 → Prop) : Nat → MM → Int64 → Int32 → Int32 → Int32 → Int32 → Int32 → Int32 → Int32 → Prop
  | 0, _, _, _, _, _, _, _, _, _ => False
  | n + 1, M, tl, v1, v2, v3, v4, v5, v6, v7 =>
    (if v4 ≤ v7 then wX11_read_205 post  M tl v1 v3 v5 v6 else (if v5 = 0 then (∃ n9, wX11_read_47 post (wX11_read_32 post n) n9 M tl v1 v2 v3 v4 v5 v6 v7 0) else wX11_read_205 post  M tl v1 v3 v5 v6))
set_option maxHeartbeats 4000000 in
set_option maxRecDepth 20000 in
theorem bX11_read_32 {E : EV} {ad : Nat → Nat} {Φ : Option Value → va_W → Prop} {post : Int32 → MM → Int64 → Prop}  (hp : ∀ r M tl, post r M tl → Φ (some (.int r)) (WM E ad M tl)) : ∀ (n : Nat) (M : MM) (tl : Int64) (v1 : Int32) (v2 : Int32) (v3 : Int32) (v4 : Int32) (v5 : Int32) (v6 : Int32) (v7 : Int32), wX11_read_32 post n M tl v1 v2 v3 v4 v5 v6 v7 → T E kX11_read 0 0 (WM E ad M tl) 32 [(0, .ref (ad (81))), (1, .int v1), (2, .int v2), (3, .int v3), (4, .int v4), (5, .int v5), (6, .int v6), (7, .int v7)] [] Φ := by
  intro n
  induction n with
  | zero => intro M tl v1 v2 v3 v4 v5 v6 v7 h; exact False.elim h
  | succ n ih =>
    intro M tl v1 v2 v3 v4 v5 v6 v7 h
    unfold wX11_read_32 at h
    refine tj_iload rfl dX11_read_32 rfl ?_
    refine tj_iload rfl dX11_read_34 rfl ?_
    refine tj_icmp_ge (tgt := 205) rfl rfl dX11_read_36 (fun hc => ?_) (fun hc => ?_)
    · rw [if_pos hc] at h
      exact tj_pick (l' := [(0, _), (1, _), (3, _), (5, _), (6, _)]) [0, 1, 3, 5, 6] rfl (bX11_read_205 hp  h)
    · rw [if_neg hc] at h
      refine tj_iload rfl dX11_read_39 rfl ?_
      refine tj_if_ne (tgt := 205) rfl rfl dX11_read_41 (fun hc => ?_) (fun hc => ?_)
      · rw [if_neg hc] at h
        exact tj_pick (l' := [(0, _), (1, _), (3, _), (5, _), (6, _)]) [0, 1, 3, 5, 6] rfl (bX11_read_205 hp  h)
      · rw [if_pos hc] at h
        refine tj_iconst (v := 0) rfl dX11_read_44 (by decide) ?_
        refine tj_istore (l' := [(0, _), (1, _), (2, _), (3, _), (4, _), (5, _), (6, _), (7, _), (8, _)]) rfl dX11_read_45 (by decide) rfl ?_
        obtain ⟨n9, h⟩ := h
        exact bX11_read_47 hp ih n9 _ _ _ _ _ _ _ _ _ _ h
def wpX11_read (post : Int32 → MM → Int64 → Prop) (M : MM) (tl : Int64) (v1 : Int32) (v2 : Int32) (v3 : Int32) (v4 : Int32) : Prop :=
  wpX11_isSheet (fun r3 M1 t2 => (if r3 = 0 then post (-1) M1 t2 else wpX11_in (fun r6 M4 t5 => (if r6 = 0 then post (-1) M4 t5 else (∃ n9, wX11_read_32 post  n9 M4 t5 v1 v2 v3 v4 0 0 0))) M1 t2 ((v4 : Int32).toInt64) 0 13)) M tl v1 v2
set_option maxHeartbeats 4000000 in
set_option maxRecDepth 20000 in
theorem ctX11_read {E : EV} {ad : Nat → Nat} {M : MM} {tl : Int64} {Φ : Option Value → va_W → Prop} {post : Int32 → MM → Int64 → Prop} {v1 : Int32} {v2 : Int32} {v3 : Int32} {v4 : Int32} (h : wpX11_read post M tl v1 v2 v3 v4) (hp : ∀ r M tl, post r M tl → Φ (some (.int r)) (WM E ad M tl)) : Tm E kX11_read (WM E ad M tl) [.ref (ad (81)), .int v1, .int v2, .int v3, .int v4] Φ := by
  unfold wpX11_read at h
  show T E kX11_read 0 0 (WM E ad M tl) 0 [(0, .ref (ad (81))), (1, .int v1), (2, .int v2), (3, .int v3), (4, .int v4)] [] Φ
  refine tj_iload_n rfl dX11_read_0 rfl ?_
  refine tj_iload_n rfl dX11_read_1 rfl ?_
  refine cf_S (z := kX11_isSheet) (As := [_, _]) rfl dX11_read_2 rfl ml_X11_371 okX11_isSheet rfl (rm_ok rfl) (Nat.le_of_ble_eq_true rfl) (Nat.le_of_ble_eq_true rfl) rfl ?_
  refine ctX11_isSheet h (fun r3 M1 t2 h => ?_)
  refine tj_if_eq (tgt := 21) rfl rfl dX11_read_5 (fun hc => ?_) (fun hc => ?_)
  · rw [if_pos hc] at h
    refine tj_iconst (v := -1) rfl dX11_read_21 (by decide) ?_
    exact tj_ireturn (ty := .int) dX11_read_22 rfl rfl (Nat.zero_le _) (Nat.zero_le _) (hp _ _ _ h)
  · rw [if_neg hc] at h
    refine tj_iload rfl dX11_read_8 rfl ?_
    refine tj_i2l rfl dX11_read_10 ?_
    refine tj_lconst (v := 0) rfl dX11_read_11 (by decide) ?_
    refine tj_ldc2 rfl dX11_read_12 kl_X11_253 ?_
    refine cf_S (z := kX11_in) (As := [_, _, _]) rfl dX11_read_15 rfl ml_X11_146 okX11_in rfl (rm_ok rfl) (Nat.le_of_ble_eq_true rfl) (Nat.le_of_ble_eq_true rfl) rfl ?_
    refine ctX11_in h (fun r6 M4 t5 h => ?_)
    refine tj_if_ne (tgt := 23) rfl rfl dX11_read_18 (fun hc => ?_) (fun hc => ?_)
    · rw [if_neg hc] at h
      refine tj_iconst (v := 0) rfl dX11_read_23 (by decide) ?_
      refine tj_istore (l' := [(0, _), (1, _), (2, _), (3, _), (4, _), (5, _)]) rfl dX11_read_24 (by decide) rfl ?_
      refine tj_iconst (v := 0) rfl dX11_read_26 (by decide) ?_
      refine tj_istore (l' := [(0, _), (1, _), (2, _), (3, _), (4, _), (5, _), (6, _)]) rfl dX11_read_27 (by decide) rfl ?_
      refine tj_iconst (v := 0) rfl dX11_read_29 (by decide) ?_
      refine tj_istore (l' := [(0, _), (1, _), (2, _), (3, _), (4, _), (5, _), (6, _), (7, _)]) rfl dX11_read_30 (by decide) rfl ?_
      obtain ⟨n9, h⟩ := h
      exact bX11_read_32 hp  n9 _ _ _ _ _ _ _ _ _ h
    · rw [if_pos hc] at h
      refine tj_iconst (v := -1) rfl dX11_read_21 (by decide) ?_
      exact tj_ireturn (ty := .int) dX11_read_22 rfl rfl (Nat.zero_le _) (Nat.zero_le _) (hp _ _ _ h)
def wpX11_torn (post : Int32 → MM → Int64 → Prop) (M : MM) (tl : Int64) : Prop :=
  post (M 81 48) M tl
set_option maxHeartbeats 4000000 in
set_option maxRecDepth 20000 in
theorem ctX11_torn {E : EV} {ad : Nat → Nat} {M : MM} {tl : Int64} {Φ : Option Value → va_W → Prop} {post : Int32 → MM → Int64 → Prop} (h : wpX11_torn post M tl ) (hp : ∀ r M tl, post r M tl → Φ (some (.int r)) (WM E ad M tl)) : Tm E kX11_torn (WM E ad M tl) [.ref (ad (81))] Φ := by
  unfold wpX11_torn at h
  show T E kX11_torn 0 0 (WM E ad M tl) 0 [(0, .ref (ad (81)))] [] Φ
  refine tj_aload_n rfl dX11_torn_0 rfl ?_
  refine gf11_torn (a := 81) rfl rfl dX11_torn_1 fl_X11_374 ?_
  exact tj_ireturn (ty := .int) dX11_torn_4 rfl rfl (Nat.zero_le _) (Nat.zero_le _) (hp _ _ _ h)
def wX11_count_29 (post : Int32 → MM → Int64 → Prop) (bk4 : MM → Int64 → Int32 → Int32 → Int32 → Prop) (M : MM) (tl : Int64) (v1 : Int32) (v3 : Int32) (s0 : Int32) (s1 : Int32) : Prop :=
  wpX11_flag (fun r3 M1 t2 => bk4 M1 t2 v1 (s0 + r3) (v3 + 1)) M tl s1
set_option maxHeartbeats 4000000 in
set_option maxRecDepth 20000 in
theorem bX11_count_29 {E : EV} {ad : Nat → Nat} {M : MM} {tl : Int64} {Φ : Option Value → va_W → Prop} {post : Int32 → MM → Int64 → Prop} {bk4 : MM → Int64 → Int32 → Int32 → Int32 → Prop} {v1 : Int32} {v3 : Int32} {s0 : Int32} {s1 : Int32} (hp : ∀ r M tl, post r M tl → Φ (some (.int r)) (WM E ad M tl)) (hb4 : ∀ (M : MM) (tl : Int64) (v1 : Int32) (v2 : Int32) (v3 : Int32), bk4 M tl v1 v2 v3 → T E kX11_count 0 0 (WM E ad M tl) 4 [(0, .ref (ad (81))), (1, .int v1), (2, .int v2), (3, .int v3)] [] Φ) (h : wX11_count_29 post bk4 M tl v1 v3 s0 s1) : T E kX11_count 0 0 (WM E ad M tl) 29 [(0, .ref (ad (81))), (1, .int v1), (3, .int v3)] [.int s1, .int s0] Φ := by
  unfold wX11_count_29 at h
  refine cf_S (z := kX11_flag) (As := [_]) rfl dX11_count_29 rfl ml_X11_265 okX11_flag rfl (rm_ok rfl) (Nat.le_of_ble_eq_true rfl) (Nat.le_of_ble_eq_true rfl) rfl ?_
  refine ctX11_flag h (fun r3 M1 t2 h => ?_)
  refine tj_iadd rfl dX11_count_32 ?_
  refine tj_istore_n (l' := [(0, _), (1, _), (2, _), (3, _)]) rfl dX11_count_33 (by decide) rfl ?_
  refine tj_iinc (v := _ + 1) (l' := [(0, _), (1, _), (2, _), (3, _)]) rfl dX11_count_34 rfl (by decide) rfl rfl ?_
  refine tj_goto (tgt := 4) rfl dX11_count_37 ?_
  exact hb4 _ _ _ _ _ h
def wX11_count_4 (post : Int32 → MM → Int64 → Prop) : Nat → MM → Int64 → Int32 → Int32 → Int32 → Prop
  | 0, _, _, _, _, _ => False
  | n + 1, M, tl, v1, v2, v3 =>
    (if (M 81 2) ≤ v3 then (if v1 = 0 then wpX11_thingMany (fun r4 M2 t3 => post r4 M2 t3) M tl  else (if v1 = 1 then post v2 M tl else (if v1 = 2 then (vp_in 65 (al 82) ∧ post (M 82 (65 : Int32).toNatClampNeg) M tl) else (if v1 = 3 then (vp_in 78 (al 82) ∧ post (M 82 (78 : Int32).toNatClampNeg) M tl) else (if v1 = 4 then (vp_in 0 (al 83) ∧ wpX11_flag (fun r14 M12 t13 => (vp_in 1 (al 83) ∧ wpX11_flag (fun r18 M16 t17 => post (r14 + r18) M16 t17) M12 t13 (M12 83 (1 : Int32).toNatClampNeg))) M tl (M 83 (0 : Int32).toNatClampNeg)) else (if v1 = 5 then post (M 81 31) M tl else (if v1 = 6 then (vp_in 0 (al 105) ∧ (if (M 105 (0 : Int32).toNatClampNeg) = (-4) then post (-4) M tl else (vp_in 0 (al 106) ∧ post (M 106 (0 : Int32).toNatClampNeg) M tl))) else post (-1) M tl))))))) else wpX11_matchOf (fun r25 M23 t24 => (if r25 = (-4) then wX11_count_29 post (wX11_count_4 post n) M23 t24 v1 v3 v2 0 else wX11_count_29 post (wX11_count_4 post n) M23 t24 v1 v3 v2 1)) M tl 0 v3)
set_option maxHeartbeats 4000000 in
set_option maxRecDepth 20000 in
theorem bX11_count_4 {E : EV} {ad : Nat → Nat} {Φ : Option Value → va_W → Prop} {post : Int32 → MM → Int64 → Prop}  (hp : ∀ r M tl, post r M tl → Φ (some (.int r)) (WM E ad M tl)) : ∀ (n : Nat) (M : MM) (tl : Int64) (v1 : Int32) (v2 : Int32) (v3 : Int32), wX11_count_4 post n M tl v1 v2 v3 → T E kX11_count 0 0 (WM E ad M tl) 4 [(0, .ref (ad (81))), (1, .int v1), (2, .int v2), (3, .int v3)] [] Φ := by
  intro n
  induction n with
  | zero => intro M tl v1 v2 v3 h; exact False.elim h
  | succ n ih =>
    intro M tl v1 v2 v3 h
    unfold wX11_count_4 at h
    refine tj_iload_n rfl dX11_count_4 rfl ?_
    refine tj_aload_n rfl dX11_count_5 rfl ?_
    refine gf11_lots (a := 81) rfl rfl dX11_count_6 fl_X11_129 ?_
    refine tj_icmp_ge (tgt := 40) rfl rfl dX11_count_9 (fun hc => ?_) (fun hc => ?_)
    · rw [if_pos hc] at h
      refine tj_iload_n rfl dX11_count_40 rfl ?_
      by_cases hc1 : v1 = 0
      · rw [if_pos hc1] at h
        refine tj_tableIn (tgt := 84) dX11_count_41 (by rw [hc1]; decide) (by rw [hc1]; decide) (by rw [hc1]; rfl) rfl ?_
        refine tj_aload_n rfl dX11_count_84 rfl ?_
        refine cf_V11 (a := 81) (z := kX11_thingMany) (As := []) rfl rfl dX11_count_85 rfl ml_X11_368 okX11_thingMany rfl (rm_ok rfl) (Nat.le_of_ble_eq_true rfl) (Nat.le_of_ble_eq_true rfl) rfl rfl ?_
        refine ctX11_thingMany h (fun r4 M2 t3 h => ?_)
        exact tj_ireturn (ty := .int) dX11_count_88 rfl rfl (Nat.zero_le _) (Nat.zero_le _) (hp _ _ _ h)
      · rw [if_neg hc1] at h
        by_cases hc5 : v1 = 1
        · rw [if_pos hc5] at h
          refine tj_tableIn (tgt := 89) dX11_count_41 (by rw [hc5]; decide) (by rw [hc5]; decide) (by rw [hc5]; rfl) rfl ?_
          refine tj_iload_n rfl dX11_count_89 rfl ?_
          exact tj_ireturn (ty := .int) dX11_count_90 rfl rfl (Nat.zero_le _) (Nat.zero_le _) (hp _ _ _ h)
        · rw [if_neg hc5] at h
          by_cases hc6 : v1 = 2
          · rw [if_pos hc6] at h
            refine tj_tableIn (tgt := 91) dX11_count_41 (by rw [hc6]; decide) (by rw [hc6]; decide) (by rw [hc6]; rfl) rfl ?_
            refine tj_aload_n rfl dX11_count_91 rfl ?_
            refine gf11_st (a := 81) rfl rfl dX11_count_92 fl_X11_7 ?_
            refine tj_bipush (v := 65) rfl dX11_count_95 (by decide) ?_
            obtain ⟨hi7, h⟩ := h
            refine af_iald (a := 82) rfl rfl dX11_count_97 hi7 ?_
            exact tj_ireturn (ty := .int) dX11_count_98 rfl rfl (Nat.zero_le _) (Nat.zero_le _) (hp _ _ _ h)
          · rw [if_neg hc6] at h
            by_cases hc8 : v1 = 3
            · rw [if_pos hc8] at h
              refine tj_tableIn (tgt := 99) dX11_count_41 (by rw [hc8]; decide) (by rw [hc8]; decide) (by rw [hc8]; rfl) rfl ?_
              refine tj_aload_n rfl dX11_count_99 rfl ?_
              refine gf11_st (a := 81) rfl rfl dX11_count_100 fl_X11_7 ?_
              refine tj_bipush (v := 78) rfl dX11_count_103 (by decide) ?_
              obtain ⟨hi9, h⟩ := h
              refine af_iald (a := 82) rfl rfl dX11_count_105 hi9 ?_
              exact tj_ireturn (ty := .int) dX11_count_106 rfl rfl (Nat.zero_le _) (Nat.zero_le _) (hp _ _ _ h)
            · rw [if_neg hc8] at h
              by_cases hc10 : v1 = 4
              · rw [if_pos hc10] at h
                refine tj_tableIn (tgt := 107) dX11_count_41 (by rw [hc10]; decide) (by rw [hc10]; decide) (by rw [hc10]; rfl) rfl ?_
                refine tj_aload_n rfl dX11_count_107 rfl ?_
                refine gf11_isKept (a := 81) rfl rfl dX11_count_108 fl_X11_13 ?_
                refine tj_iconst (v := 0) rfl dX11_count_111 (by decide) ?_
                obtain ⟨hi11, h⟩ := h
                refine af_zald (a := 83) rfl rfl dX11_count_112 hi11 ?_
                refine cf_S (z := kX11_flag) (As := [_]) rfl dX11_count_113 rfl ml_X11_265 okX11_flag rfl (rm_ok rfl) (Nat.le_of_ble_eq_true rfl) (Nat.le_of_ble_eq_true rfl) rfl ?_
                refine ctX11_flag h (fun r14 M12 t13 h => ?_)
                refine tj_aload_n rfl dX11_count_116 rfl ?_
                refine gf11_isKept (a := 81) rfl rfl dX11_count_117 fl_X11_13 ?_
                refine tj_iconst (v := 1) rfl dX11_count_120 (by decide) ?_
                obtain ⟨hi15, h⟩ := h
                refine af_zald (a := 83) rfl rfl dX11_count_121 hi15 ?_
                refine cf_S (z := kX11_flag) (As := [_]) rfl dX11_count_122 rfl ml_X11_265 okX11_flag rfl (rm_ok rfl) (Nat.le_of_ble_eq_true rfl) (Nat.le_of_ble_eq_true rfl) rfl ?_
                refine ctX11_flag h (fun r18 M16 t17 h => ?_)
                refine tj_iadd rfl dX11_count_125 ?_
                exact tj_ireturn (ty := .int) dX11_count_126 rfl rfl (Nat.zero_le _) (Nat.zero_le _) (hp _ _ _ h)
              · rw [if_neg hc10] at h
                by_cases hc19 : v1 = 5
                · rw [if_pos hc19] at h
                  refine tj_tableIn (tgt := 127) dX11_count_41 (by rw [hc19]; decide) (by rw [hc19]; decide) (by rw [hc19]; rfl) rfl ?_
                  refine tj_aload_n rfl dX11_count_127 rfl ?_
                  refine gf11_taped (a := 81) rfl rfl dX11_count_128 fl_X11_141 ?_
                  exact tj_ireturn (ty := .int) dX11_count_131 rfl rfl (Nat.zero_le _) (Nat.zero_le _) (hp _ _ _ h)
                · rw [if_neg hc19] at h
                  by_cases hc20 : v1 = 6
                  · rw [if_pos hc20] at h
                    refine tj_tableIn (tgt := 132) dX11_count_41 (by rw [hc20]; decide) (by rw [hc20]; decide) (by rw [hc20]; rfl) rfl ?_
                    refine tj_aload_n rfl dX11_count_132 rfl ?_
                    refine gf11_lanes (a := 81) rfl rfl dX11_count_133 fl_X11_80 ?_
                    refine tj_iconst (v := 0) rfl dX11_count_136 (by decide) ?_
                    obtain ⟨hi21, h⟩ := h
                    refine af_iald (a := 105) rfl rfl dX11_count_137 hi21 ?_
                    refine tj_bipush (v := -4) rfl dX11_count_138 (by decide) ?_
                    refine tj_icmp_ne (tgt := 148) rfl rfl dX11_count_140 (fun hc => ?_) (fun hc => ?_)
                    · rw [if_neg hc] at h
                      refine tj_aload_n rfl dX11_count_148 rfl ?_
                      refine gf11_sizes (a := 81) rfl rfl dX11_count_149 fl_X11_83 ?_
                      refine tj_iconst (v := 0) rfl dX11_count_152 (by decide) ?_
                      obtain ⟨hi22, h⟩ := h
                      refine af_iald (a := 106) rfl rfl dX11_count_153 hi22 ?_
                      exact tj_ireturn (ty := .int) dX11_count_154 rfl rfl (Nat.zero_le _) (Nat.zero_le _) (hp _ _ _ h)
                    · rw [if_pos hc] at h
                      refine tj_bipush (v := -4) rfl dX11_count_143 (by decide) ?_
                      refine tj_goto (tgt := 154) rfl dX11_count_145 ?_
                      exact tj_ireturn (ty := .int) dX11_count_154 rfl rfl (Nat.zero_le _) (Nat.zero_le _) (hp _ _ _ h)
                  · rw [if_neg hc20] at h
                    have hz0 := lv_neT (a := 0) hc1 rfl
                    have hz1 := lv_neT (a := 1) hc5 rfl
                    have hz2 := lv_neT (a := 2) hc6 rfl
                    have hz3 := lv_neT (a := 3) hc8 rfl
                    have hz4 := lv_neT (a := 4) hc10 rfl
                    have hz5 := lv_neT (a := 5) hc19 rfl
                    have hz6 := lv_neT (a := 6) hc20 rfl
                    refine tj_tableOut (tgt := 155) dX11_count_41 (by omega) rfl ?_
                    refine tj_iconst (v := -1) rfl dX11_count_155 (by decide) ?_
                    exact tj_ireturn (ty := .int) dX11_count_156 rfl rfl (Nat.zero_le _) (Nat.zero_le _) (hp _ _ _ h)
    · rw [if_neg hc] at h
      refine tj_iload_n rfl dX11_count_12 rfl ?_
      refine tj_aload_n rfl dX11_count_13 rfl ?_
      refine tj_iconst (v := 0) rfl dX11_count_14 (by decide) ?_
      refine tj_iload_n rfl dX11_count_15 rfl ?_
      refine cf_V11 (a := 81) (z := kX11_matchOf) (As := [_, _]) rfl rfl dX11_count_16 rfl ml_X11_289 okX11_matchOf rfl (rm_ok rfl) (Nat.le_of_ble_eq_true rfl) (Nat.le_of_ble_eq_true rfl) rfl rfl ?_
      refine ctX11_matchOf h (fun r25 M23 t24 h => ?_)
      refine tj_bipush (v := -4) rfl dX11_count_19 (by decide) ?_
      refine tj_icmp_eq (tgt := 28) rfl rfl dX11_count_21 (fun hc => ?_) (fun hc => ?_)
      · rw [if_pos hc] at h
        refine tj_iconst (v := 0) rfl dX11_count_28 (by decide) ?_
        exact tj_pick (l' := [(0, _), (1, _), (3, _)]) [0, 1, 3] rfl (bX11_count_29 hp ih h)
      · rw [if_neg hc] at h
        refine tj_iconst (v := 1) rfl dX11_count_24 (by decide) ?_
        refine tj_goto (tgt := 29) rfl dX11_count_25 ?_
        exact tj_pick (l' := [(0, _), (1, _), (3, _)]) [0, 1, 3] rfl (bX11_count_29 hp ih h)
def wpX11_count (post : Int32 → MM → Int64 → Prop) (M : MM) (tl : Int64) (v1 : Int32) : Prop :=
  (∃ n9, wX11_count_4 post  n9 M tl v1 0 0)
set_option maxHeartbeats 4000000 in
set_option maxRecDepth 20000 in
theorem ctX11_count {E : EV} {ad : Nat → Nat} {M : MM} {tl : Int64} {Φ : Option Value → va_W → Prop} {post : Int32 → MM → Int64 → Prop} {v1 : Int32} (h : wpX11_count post M tl v1) (hp : ∀ r M tl, post r M tl → Φ (some (.int r)) (WM E ad M tl)) : Tm E kX11_count (WM E ad M tl) [.ref (ad (81)), .int v1] Φ := by
  unfold wpX11_count at h
  show T E kX11_count 0 0 (WM E ad M tl) 0 [(0, .ref (ad (81))), (1, .int v1)] [] Φ
  refine tj_iconst (v := 0) rfl dX11_count_0 (by decide) ?_
  refine tj_istore_n (l' := [(0, _), (1, _), (2, _)]) rfl dX11_count_1 (by decide) rfl ?_
  refine tj_iconst (v := 0) rfl dX11_count_2 (by decide) ?_
  refine tj_istore_n (l' := [(0, _), (1, _), (2, _), (3, _)]) rfl dX11_count_3 (by decide) rfl ?_
  obtain ⟨n9, h⟩ := h
  exact bX11_count_4 hp  n9 _ _ _ _ _ h
