def wpX4_restart (post : MM → Int64 → Prop) (M : MM) (tl : Int64) : Prop :=
  wpX1_setFirst (fun M1 t2 => wpX7_clear (fun M3 t4 => (∀ M5 : MM, M5 = mset M3 22 2 0 → (∀ M6 : MM, M6 = mset M5 22 3 0 → (∀ M7 : MM, M7 = mset M6 22 4 0 → (∀ M8 : MM, M8 = mset M7 22 6 0 → post M8 0))))) M1 t2 34) M tl 23
set_option maxHeartbeats 4000000 in
set_option maxRecDepth 20000 in
theorem ctX4_restart {E : EV} {ad : Nat → Nat} {M : MM} {tl : Int64} {Φ : Option Value → va_W → Prop} {post : MM → Int64 → Prop} (h : wpX4_restart post M tl ) (hp : ∀ M tl, post M tl → Φ none (WM E ad M tl)) : Tm E kX4_restart (WM E ad M tl) [.ref (ad (22))] Φ := by
  unfold wpX4_restart at h
  show T E kX4_restart 0 0 (WM E ad M tl) 0 [(0, .ref (ad (22)))] [] Φ
  refine tj_aload_n rfl dX4_restart_0 rfl ?_
  refine gf4_law (a := 22) rfl rfl dX4_restart_1 fl_X4_12 ?_
  refine cf_V1 (a := 23) (z := kX1_setFirst) (As := []) rfl rfl dX4_restart_4 rfl ml_X4_64 okX1_setFirst rfl (rm_ok rfl) (Nat.le_of_ble_eq_true rfl) (Nat.le_of_ble_eq_true rfl) rfl rfl ?_
  refine ctX1_setFirst h (fun M1 t2 h => ?_)
  refine tj_aload_n rfl dX4_restart_7 rfl ?_
  refine gf4_scene (a := 22) rfl rfl dX4_restart_8 fl_X4_21 ?_
  refine cf_V7 (a := 34) (z := kX7_clear) (As := []) rfl rfl dX4_restart_11 rfl ml_X4_67 okX7_clear rfl (rm_ok rfl) (Nat.le_of_ble_eq_true rfl) (Nat.le_of_ble_eq_true rfl) rfl rfl ?_
  refine ctX7_clear h (fun M3 t4 h => ?_)
  refine tj_aload_n rfl dX4_restart_14 rfl ?_
  refine tj_iconst (v := 0) rfl dX4_restart_15 (by decide) ?_
  refine pf4_fault (a := 22) rfl rfl dX4_restart_16 fl_X4_35 ?_
  replace h := h _ rfl
  generalize mset M3 22 2 0 = M5 at h ⊢
  refine tj_aload_n rfl dX4_restart_19 rfl ?_
  refine tj_iconst (v := 0) rfl dX4_restart_20 (by decide) ?_
  refine pf4_place (a := 22) rfl rfl dX4_restart_21 fl_X4_70 ?_
  replace h := h _ rfl
  generalize mset M5 22 3 0 = M6 at h ⊢
  refine tj_aload_n rfl dX4_restart_24 rfl ?_
  refine tj_iconst (v := 0) rfl dX4_restart_25 (by decide) ?_
  refine pf4_lines (a := 22) rfl rfl dX4_restart_26 fl_X4_48 ?_
  replace h := h _ rfl
  generalize mset M6 22 4 0 = M7 at h ⊢
  refine tj_aload_n rfl dX4_restart_29 rfl ?_
  refine tj_iconst (v := 0) rfl dX4_restart_30 (by decide) ?_
  refine pf4_next (a := 22) rfl rfl dX4_restart_31 fl_X4_73 ?_
  replace h := h _ rfl
  generalize mset M7 22 6 0 = M8 at h ⊢
  refine tj_aload_n rfl dX4_restart_34 rfl ?_
  refine tj_lconst (v := 0) rfl dX4_restart_35 (by decide) ?_
  refine pf4_told (a := 22) rfl rfl dX4_restart_36 fl_X4_76 ?_
  exact tj_return dX4_restart_39 rfl (Nat.zero_le _) (Nat.zero_le _) (hp _ _ h)
def wX4_typeOf_34 (post : Int32 → MM → Int64 → Prop) (M : MM) (tl : Int64) (v0 : Int32) : Prop :=
  (if v0 = 59 then post 3 M tl else post 4 M tl)
set_option maxHeartbeats 4000000 in
set_option maxRecDepth 20000 in
theorem bX4_typeOf_34 {E : EV} {ad : Nat → Nat} {M : MM} {tl : Int64} {Φ : Option Value → va_W → Prop} {post : Int32 → MM → Int64 → Prop} {v0 : Int32} (hp : ∀ r M tl, post r M tl → Φ (some (.int r)) (WM E ad M tl)) (h : wX4_typeOf_34 post M tl v0) : T E kX4_typeOf 0 0 (WM E ad M tl) 34 [(0, .int v0)] [] Φ := by
  unfold wX4_typeOf_34 at h
  refine tj_iload_n rfl dX4_typeOf_34 rfl ?_
  refine tj_bipush (v := 59) rfl dX4_typeOf_35 (by decide) ?_
  refine tj_icmp_ne (tgt := 44) rfl rfl dX4_typeOf_37 (fun hc => ?_) (fun hc => ?_)
  · rw [if_neg hc] at h
    refine tj_iconst (v := 4) rfl dX4_typeOf_44 (by decide) ?_
    exact tj_ireturn (ty := .int) dX4_typeOf_45 rfl rfl (Nat.zero_le _) (Nat.zero_le _) (hp _ _ _ h)
  · rw [if_pos hc] at h
    refine tj_iconst (v := 3) rfl dX4_typeOf_40 (by decide) ?_
    refine tj_goto (tgt := 45) rfl dX4_typeOf_41 ?_
    exact tj_ireturn (ty := .int) dX4_typeOf_45 rfl rfl (Nat.zero_le _) (Nat.zero_le _) (hp _ _ _ h)
def wX4_typeOf_20 (post : Int32 → MM → Int64 → Prop) (M : MM) (tl : Int64) (v0 : Int32) : Prop :=
  (if v0 < 48 then wX4_typeOf_34 post  M tl v0 else (if 57 < v0 then wX4_typeOf_34 post  M tl v0 else post 2 M tl))
set_option maxHeartbeats 4000000 in
set_option maxRecDepth 20000 in
theorem bX4_typeOf_20 {E : EV} {ad : Nat → Nat} {M : MM} {tl : Int64} {Φ : Option Value → va_W → Prop} {post : Int32 → MM → Int64 → Prop} {v0 : Int32} (hp : ∀ r M tl, post r M tl → Φ (some (.int r)) (WM E ad M tl)) (h : wX4_typeOf_20 post M tl v0) : T E kX4_typeOf 0 0 (WM E ad M tl) 20 [(0, .int v0)] [] Φ := by
  unfold wX4_typeOf_20 at h
  refine tj_iload_n rfl dX4_typeOf_20 rfl ?_
  refine tj_bipush (v := 48) rfl dX4_typeOf_21 (by decide) ?_
  refine tj_icmp_lt (tgt := 34) rfl rfl dX4_typeOf_23 (fun hc => ?_) (fun hc => ?_)
  · rw [if_pos hc] at h
    exact bX4_typeOf_34 hp  h
  · rw [if_neg hc] at h
    refine tj_iload_n rfl dX4_typeOf_26 rfl ?_
    refine tj_bipush (v := 57) rfl dX4_typeOf_27 (by decide) ?_
    refine tj_icmp_gt (tgt := 34) rfl rfl dX4_typeOf_29 (fun hc => ?_) (fun hc => ?_)
    · rw [if_pos hc] at h
      exact bX4_typeOf_34 hp  h
    · rw [if_neg hc] at h
      refine tj_iconst (v := 2) rfl dX4_typeOf_32 (by decide) ?_
      exact tj_ireturn (ty := .int) dX4_typeOf_33 rfl rfl (Nat.zero_le _) (Nat.zero_le _) (hp _ _ _ h)
def wpX4_typeOf (post : Int32 → MM → Int64 → Prop) (M : MM) (tl : Int64) (v0 : Int32) : Prop :=
  (if 0 ≤ v0 then (if v0 < 97 then wX4_typeOf_20 post  M tl v0 else (if 122 < v0 then wX4_typeOf_20 post  M tl v0 else post 1 M tl)) else post 0 M tl)
set_option maxHeartbeats 4000000 in
set_option maxRecDepth 20000 in
theorem ctX4_typeOf {E : EV} {ad : Nat → Nat} {M : MM} {tl : Int64} {Φ : Option Value → va_W → Prop} {post : Int32 → MM → Int64 → Prop} {v0 : Int32} (h : wpX4_typeOf post M tl v0) (hp : ∀ r M tl, post r M tl → Φ (some (.int r)) (WM E ad M tl)) : Tm E kX4_typeOf (WM E ad M tl) [.int v0] Φ := by
  unfold wpX4_typeOf at h
  show T E kX4_typeOf 0 0 (WM E ad M tl) 0 [(0, .int v0)] [] Φ
  refine tj_iload_n rfl dX4_typeOf_0 rfl ?_
  refine tj_if_ge (tgt := 6) rfl rfl dX4_typeOf_1 (fun hc => ?_) (fun hc => ?_)
  · rw [if_pos hc] at h
    refine tj_iload_n rfl dX4_typeOf_6 rfl ?_
    refine tj_bipush (v := 97) rfl dX4_typeOf_7 (by decide) ?_
    refine tj_icmp_lt (tgt := 20) rfl rfl dX4_typeOf_9 (fun hc => ?_) (fun hc => ?_)
    · rw [if_pos hc] at h
      exact bX4_typeOf_20 hp  h
    · rw [if_neg hc] at h
      refine tj_iload_n rfl dX4_typeOf_12 rfl ?_
      refine tj_bipush (v := 122) rfl dX4_typeOf_13 (by decide) ?_
      refine tj_icmp_gt (tgt := 20) rfl rfl dX4_typeOf_15 (fun hc => ?_) (fun hc => ?_)
      · rw [if_pos hc] at h
        exact bX4_typeOf_20 hp  h
      · rw [if_neg hc] at h
        refine tj_iconst (v := 1) rfl dX4_typeOf_18 (by decide) ?_
        exact tj_ireturn (ty := .int) dX4_typeOf_19 rfl rfl (Nat.zero_le _) (Nat.zero_le _) (hp _ _ _ h)
  · rw [if_neg hc] at h
    refine tj_iconst (v := 0) rfl dX4_typeOf_4 (by decide) ?_
    exact tj_ireturn (ty := .int) dX4_typeOf_5 rfl rfl (Nat.zero_le _) (Nat.zero_le _) (hp _ _ _ h)
def wpX4_fail (post : Int32 → MM → Int64 → Prop) (M : MM) (tl : Int64) (v1 : Int32) (v2 : Int32) : Prop :=
  (∀ M1 : MM, M1 = mset M 22 2 v1 → (∀ M2 : MM, M2 = mset M1 22 3 v2 → post (-1) M2 tl))
set_option maxHeartbeats 4000000 in
set_option maxRecDepth 20000 in
theorem ctX4_fail {E : EV} {ad : Nat → Nat} {M : MM} {tl : Int64} {Φ : Option Value → va_W → Prop} {post : Int32 → MM → Int64 → Prop} {v1 : Int32} {v2 : Int32} (h : wpX4_fail post M tl v1 v2) (hp : ∀ r M tl, post r M tl → Φ (some (.int r)) (WM E ad M tl)) : Tm E kX4_fail (WM E ad M tl) [.ref (ad (22)), .int v1, .int v2] Φ := by
  unfold wpX4_fail at h
  show T E kX4_fail 0 0 (WM E ad M tl) 0 [(0, .ref (ad (22))), (1, .int v1), (2, .int v2)] [] Φ
  refine tj_aload_n rfl dX4_fail_0 rfl ?_
  refine tj_iload_n rfl dX4_fail_1 rfl ?_
  refine pf4_fault (a := 22) rfl rfl dX4_fail_2 fl_X4_35 ?_
  replace h := h _ rfl
  generalize mset M 22 2 v1 = M1 at h ⊢
  refine tj_aload_n rfl dX4_fail_5 rfl ?_
  refine tj_iload_n rfl dX4_fail_6 rfl ?_
  refine pf4_place (a := 22) rfl rfl dX4_fail_7 fl_X4_70 ?_
  replace h := h _ rfl
  generalize mset M1 22 3 v2 = M2 at h ⊢
  refine tj_iconst (v := -1) rfl dX4_fail_10 (by decide) ?_
  exact tj_ireturn (ty := .int) dX4_fail_11 rfl rfl (Nat.zero_le _) (Nat.zero_le _) (hp _ _ _ h)
def wX4_takeToken_186 (post : MM → Int64 → Prop) (bk100 : MM → Int64 → Prop) (M : MM) (tl : Int64) (s1 : Int32) : Prop :=
  (∀ M1 : MM, M1 = mset M 22 9 s1 → (∀ M2 : MM, M2 = mset M1 22 6 ((M1 22 6) + 1) → bk100 M2 tl))
set_option maxHeartbeats 4000000 in
set_option maxRecDepth 20000 in
theorem bX4_takeToken_186 {E : EV} {ad : Nat → Nat} {M : MM} {tl : Int64} {Φ : Option Value → va_W → Prop} {post : MM → Int64 → Prop} {bk100 : MM → Int64 → Prop} {s1 : Int32} (hp : ∀ M tl, post M tl → Φ none (WM E ad M tl)) (hb100 : ∀ (M : MM) (tl : Int64) , bk100 M tl  → T E kX4_takeToken 0 0 (WM E ad M tl) 100 [(0, .ref (ad (22)))] [] Φ) (h : wX4_takeToken_186 post bk100 M tl s1) : T E kX4_takeToken 0 0 (WM E ad M tl) 186 [(0, .ref (ad (22)))] [.int s1, .ref (ad (22))] Φ := by
  unfold wX4_takeToken_186 at h
  refine pf4_figures (a := 22) rfl rfl dX4_takeToken_186 fl_X4_90 ?_
  replace h := h _ rfl
  generalize mset M 22 9 s1 = M1 at h ⊢
  refine tj_aload_n rfl dX4_takeToken_189 rfl ?_
  refine tj_dup rfl dX4_takeToken_190 rfl ?_
  refine gf4_next (a := 22) rfl rfl dX4_takeToken_191 fl_X4_73 ?_
  refine tj_iconst (v := 1) rfl dX4_takeToken_194 (by decide) ?_
  refine tj_iadd rfl dX4_takeToken_195 ?_
  refine pf4_next (a := 22) rfl rfl dX4_takeToken_196 fl_X4_73 ?_
  replace h := h _ rfl
  generalize mset M1 22 6 ((M1 22 6) + 1) = M2 at h ⊢
  refine tj_goto (tgt := 100) rfl dX4_takeToken_199 ?_
  exact hb100 _ _ h
def wX4_takeToken_231 (post : MM → Int64 → Prop) (M : MM) (tl : Int64) : Prop :=
  wpX4_fail (fun r3 M1 t2 => post M1 t2) M tl 1 (M 22 7)
set_option maxHeartbeats 4000000 in
set_option maxRecDepth 20000 in
theorem bX4_takeToken_231 {E : EV} {ad : Nat → Nat} {M : MM} {tl : Int64} {Φ : Option Value → va_W → Prop} {post : MM → Int64 → Prop} (hp : ∀ M tl, post M tl → Φ none (WM E ad M tl)) (h : wX4_takeToken_231 post M tl ) : T E kX4_takeToken 0 0 (WM E ad M tl) 231 [(0, .ref (ad (22)))] [] Φ := by
  unfold wX4_takeToken_231 at h
  refine tj_aload_n rfl dX4_takeToken_231 rfl ?_
  refine tj_iconst (v := 1) rfl dX4_takeToken_232 (by decide) ?_
  refine tj_aload_n rfl dX4_takeToken_233 rfl ?_
  refine gf4_start (a := 22) rfl rfl dX4_takeToken_234 fl_X4_84 ?_
  refine cf_V4 (a := 22) (z := kX4_fail) (As := [_, _]) rfl rfl dX4_takeToken_237 rfl ml_X4_60 okX4_fail rfl (rm_ok rfl) (Nat.le_of_ble_eq_true rfl) (Nat.le_of_ble_eq_true rfl) rfl rfl ?_
  refine ctX4_fail h (fun r3 M1 t2 h => ?_)
  refine tj_pop rfl dX4_takeToken_240 rfl ?_
  exact tj_return dX4_takeToken_241 rfl (Nat.zero_le _) (Nat.zero_le _) (hp _ _ h)
def wX4_takeToken_202 (post : MM → Int64 → Prop) (M : MM) (tl : Int64) : Prop :=
  (if (M 22 8) = 4 then wX4_takeToken_231 post  M tl else (if (M 22 8) = 2 then (if ((M 22 6) - (M 22 7)) ≤ 2 then post M tl else wX4_takeToken_231 post  M tl) else post M tl))
set_option maxHeartbeats 4000000 in
set_option maxRecDepth 20000 in
theorem bX4_takeToken_202 {E : EV} {ad : Nat → Nat} {M : MM} {tl : Int64} {Φ : Option Value → va_W → Prop} {post : MM → Int64 → Prop} (hp : ∀ M tl, post M tl → Φ none (WM E ad M tl)) (h : wX4_takeToken_202 post M tl ) : T E kX4_takeToken 0 0 (WM E ad M tl) 202 [(0, .ref (ad (22)))] [] Φ := by
  unfold wX4_takeToken_202 at h
  refine tj_aload_n rfl dX4_takeToken_202 rfl ?_
  refine gf4_type (a := 22) rfl rfl dX4_takeToken_203 fl_X4_39 ?_
  refine tj_iconst (v := 4) rfl dX4_takeToken_206 (by decide) ?_
  refine tj_icmp_eq (tgt := 231) rfl rfl dX4_takeToken_207 (fun hc => ?_) (fun hc => ?_)
  · rw [if_pos hc] at h
    exact bX4_takeToken_231 hp  h
  · rw [if_neg hc] at h
    refine tj_aload_n rfl dX4_takeToken_210 rfl ?_
    refine gf4_type (a := 22) rfl rfl dX4_takeToken_211 fl_X4_39 ?_
    refine tj_iconst (v := 2) rfl dX4_takeToken_214 (by decide) ?_
    refine tj_icmp_ne (tgt := 241) rfl rfl dX4_takeToken_215 (fun hc => ?_) (fun hc => ?_)
    · rw [if_neg hc] at h
      exact tj_return dX4_takeToken_241 rfl (Nat.zero_le _) (Nat.zero_le _) (hp _ _ h)
    · rw [if_pos hc] at h
      refine tj_aload_n rfl dX4_takeToken_218 rfl ?_
      refine gf4_next (a := 22) rfl rfl dX4_takeToken_219 fl_X4_73 ?_
      refine tj_aload_n rfl dX4_takeToken_222 rfl ?_
      refine gf4_start (a := 22) rfl rfl dX4_takeToken_223 fl_X4_84 ?_
      refine tj_isub rfl dX4_takeToken_226 ?_
      refine tj_iconst (v := 2) rfl dX4_takeToken_227 (by decide) ?_
      refine tj_icmp_le (tgt := 241) rfl rfl dX4_takeToken_228 (fun hc => ?_) (fun hc => ?_)
      · rw [if_pos hc] at h
        exact tj_return dX4_takeToken_241 rfl (Nat.zero_le _) (Nat.zero_le _) (hp _ _ h)
      · rw [if_neg hc] at h
        exact bX4_takeToken_231 hp  h
def wX4_takeToken_130 (post : MM → Int64 → Prop) (bk100 : MM → Int64 → Prop) (M : MM) (tl : Int64) : Prop :=
  wpX9_byteAt (fun r3 M1 t2 => wpX4_typeOf (fun r6 M4 t5 => (if r6 = (M4 22 8) then (if (M4 22 8) = 2 then wpX9_byteAt (fun r9 M7 t8 => wX4_takeToken_186 post bk100 M7 t8 ((((10 : Int32) * (M4 22 9)) + r9) - 48)) M4 t5 (M4 22 6) else wX4_takeToken_186 post bk100 M4 t5 0) else wX4_takeToken_202 post  M4 t5)) M1 t2 r3) M tl (M 22 6)
set_option maxHeartbeats 4000000 in
set_option maxRecDepth 20000 in
theorem bX4_takeToken_130 {E : EV} {ad : Nat → Nat} {M : MM} {tl : Int64} {Φ : Option Value → va_W → Prop} {post : MM → Int64 → Prop} {bk100 : MM → Int64 → Prop} (hp : ∀ M tl, post M tl → Φ none (WM E ad M tl)) (hb100 : ∀ (M : MM) (tl : Int64) , bk100 M tl  → T E kX4_takeToken 0 0 (WM E ad M tl) 100 [(0, .ref (ad (22)))] [] Φ) (h : wX4_takeToken_130 post bk100 M tl ) : T E kX4_takeToken 0 0 (WM E ad M tl) 130 [(0, .ref (ad (22)))] [] Φ := by
  unfold wX4_takeToken_130 at h
  refine tj_aload_n rfl dX4_takeToken_130 rfl ?_
  refine gf4_tape (a := 22) rfl rfl dX4_takeToken_131 fl_X4_25 ?_
  refine tj_aload_n rfl dX4_takeToken_134 rfl ?_
  refine gf4_next (a := 22) rfl rfl dX4_takeToken_135 fl_X4_73 ?_
  refine cf_V9 (a := 1) (z := kX9_byteAt) (As := [_]) rfl rfl dX4_takeToken_138 rfl ml_X4_80 okX9_byteAt rfl (rm_ok rfl) (Nat.le_of_ble_eq_true rfl) (Nat.le_of_ble_eq_true rfl) rfl rfl ?_
  refine ctX9_byteAt h (fun r3 M1 t2 h => ?_)
  refine cf_S (z := kX4_typeOf) (As := [_]) rfl dX4_takeToken_141 rfl ml_X4_87 okX4_typeOf rfl (rm_ok rfl) (Nat.le_of_ble_eq_true rfl) (Nat.le_of_ble_eq_true rfl) rfl ?_
  refine ctX4_typeOf h (fun r6 M4 t5 h => ?_)
  refine tj_aload_n rfl dX4_takeToken_144 rfl ?_
  refine gf4_type (a := 22) rfl rfl dX4_takeToken_145 fl_X4_39 ?_
  refine tj_icmp_ne (tgt := 202) rfl rfl dX4_takeToken_148 (fun hc => ?_) (fun hc => ?_)
  · rw [if_neg hc] at h
    exact bX4_takeToken_202 hp  h
  · rw [if_pos hc] at h
    refine tj_aload_n rfl dX4_takeToken_151 rfl ?_
    refine tj_aload_n rfl dX4_takeToken_152 rfl ?_
    refine gf4_type (a := 22) rfl rfl dX4_takeToken_153 fl_X4_39 ?_
    refine tj_iconst (v := 2) rfl dX4_takeToken_156 (by decide) ?_
    refine tj_icmp_ne (tgt := 185) rfl rfl dX4_takeToken_157 (fun hc => ?_) (fun hc => ?_)
    · rw [if_neg hc] at h
      refine tj_iconst (v := 0) rfl dX4_takeToken_185 (by decide) ?_
      exact bX4_takeToken_186 hp hb100 h
    · rw [if_pos hc] at h
      refine tj_bipush (v := 10) rfl dX4_takeToken_160 (by decide) ?_
      refine tj_aload_n rfl dX4_takeToken_162 rfl ?_
      refine gf4_figures (a := 22) rfl rfl dX4_takeToken_163 fl_X4_90 ?_
      refine tj_imul rfl dX4_takeToken_166 ?_
      refine tj_aload_n rfl dX4_takeToken_167 rfl ?_
      refine gf4_tape (a := 22) rfl rfl dX4_takeToken_168 fl_X4_25 ?_
      refine tj_aload_n rfl dX4_takeToken_171 rfl ?_
      refine gf4_next (a := 22) rfl rfl dX4_takeToken_172 fl_X4_73 ?_
      refine cf_V9 (a := 1) (z := kX9_byteAt) (As := [_]) rfl rfl dX4_takeToken_175 rfl ml_X4_80 okX9_byteAt rfl (rm_ok rfl) (Nat.le_of_ble_eq_true rfl) (Nat.le_of_ble_eq_true rfl) rfl rfl ?_
      refine ctX9_byteAt h (fun r9 M7 t8 h => ?_)
      refine tj_iadd rfl dX4_takeToken_178 ?_
      refine tj_bipush (v := 48) rfl dX4_takeToken_179 (by decide) ?_
      refine tj_isub rfl dX4_takeToken_181 ?_
      refine tj_goto (tgt := 186) rfl dX4_takeToken_182 ?_
      exact bX4_takeToken_186 hp hb100 h
def wX4_takeToken_100 (post : MM → Int64 → Prop) : Nat → MM → Int64 → Prop
  | 0, _, _ => False
  | n + 1, M, tl =>
    (if (M 1 1) ≤ (M 22 6) then wX4_takeToken_202 post  M tl else (if (M 22 8) = 1 then wX4_takeToken_130 post (wX4_takeToken_100 post n) M tl else (if (M 22 8) = 2 then wX4_takeToken_130 post (wX4_takeToken_100 post n) M tl else wX4_takeToken_202 post  M tl)))
set_option maxHeartbeats 4000000 in
set_option maxRecDepth 20000 in
theorem bX4_takeToken_100 {E : EV} {ad : Nat → Nat} {Φ : Option Value → va_W → Prop} {post : MM → Int64 → Prop}  (hp : ∀ M tl, post M tl → Φ none (WM E ad M tl)) : ∀ (n : Nat) (M : MM) (tl : Int64), wX4_takeToken_100 post n M tl  → T E kX4_takeToken 0 0 (WM E ad M tl) 100 [(0, .ref (ad (22)))] [] Φ := by
  intro n
  induction n with
  | zero => intro M tl  h; exact False.elim h
  | succ n ih =>
    intro M tl  h
    unfold wX4_takeToken_100 at h
    refine tj_aload_n rfl dX4_takeToken_100 rfl ?_
    refine gf4_next (a := 22) rfl rfl dX4_takeToken_101 fl_X4_73 ?_
    refine tj_aload_n rfl dX4_takeToken_104 rfl ?_
    refine gf4_tape (a := 22) rfl rfl dX4_takeToken_105 fl_X4_25 ?_
    refine gf9_size (a := 1) rfl rfl dX4_takeToken_108 fl_X4_55 ?_
    refine tj_icmp_ge (tgt := 202) rfl rfl dX4_takeToken_111 (fun hc => ?_) (fun hc => ?_)
    · rw [if_pos hc] at h
      exact bX4_takeToken_202 hp  h
    · rw [if_neg hc] at h
      refine tj_aload_n rfl dX4_takeToken_114 rfl ?_
      refine gf4_type (a := 22) rfl rfl dX4_takeToken_115 fl_X4_39 ?_
      refine tj_iconst (v := 1) rfl dX4_takeToken_118 (by decide) ?_
      refine tj_icmp_eq (tgt := 130) rfl rfl dX4_takeToken_119 (fun hc => ?_) (fun hc => ?_)
      · rw [if_pos hc] at h
        exact bX4_takeToken_130 hp ih h
      · rw [if_neg hc] at h
        refine tj_aload_n rfl dX4_takeToken_122 rfl ?_
        refine gf4_type (a := 22) rfl rfl dX4_takeToken_123 fl_X4_39 ?_
        refine tj_iconst (v := 2) rfl dX4_takeToken_126 (by decide) ?_
        refine tj_icmp_ne (tgt := 202) rfl rfl dX4_takeToken_127 (fun hc => ?_) (fun hc => ?_)
        · rw [if_neg hc] at h
          exact bX4_takeToken_202 hp  h
        · rw [if_pos hc] at h
          exact bX4_takeToken_130 hp ih h
def wX4_takeToken_51 (post : MM → Int64 → Prop) (M : MM) (tl : Int64) : Prop :=
  (∀ M1 : MM, M1 = mset M 22 7 (M 22 6) → wpX9_byteAt (fun r4 M2 t3 => wpX4_typeOf (fun r7 M5 t6 => (∀ M8 : MM, M8 = mset M5 22 8 r7 → (∀ M9 : MM, M9 = mset M8 22 9 0 → (if (M9 22 8) = 3 then (∀ M10 : MM, M10 = mset M9 22 6 ((M9 22 6) + 1) → (∃ n9, wX4_takeToken_100 post  n9 M10 t6)) else (∃ n9, wX4_takeToken_100 post  n9 M9 t6))))) M2 t3 r4) M1 tl (M1 22 6))
set_option maxHeartbeats 4000000 in
set_option maxRecDepth 20000 in
theorem bX4_takeToken_51 {E : EV} {ad : Nat → Nat} {M : MM} {tl : Int64} {Φ : Option Value → va_W → Prop} {post : MM → Int64 → Prop} (hp : ∀ M tl, post M tl → Φ none (WM E ad M tl)) (h : wX4_takeToken_51 post M tl ) : T E kX4_takeToken 0 0 (WM E ad M tl) 51 [(0, .ref (ad (22)))] [] Φ := by
  unfold wX4_takeToken_51 at h
  refine tj_aload_n rfl dX4_takeToken_51 rfl ?_
  refine tj_aload_n rfl dX4_takeToken_52 rfl ?_
  refine gf4_next (a := 22) rfl rfl dX4_takeToken_53 fl_X4_73 ?_
  refine pf4_start (a := 22) rfl rfl dX4_takeToken_56 fl_X4_84 ?_
  replace h := h _ rfl
  generalize mset M 22 7 (M 22 6) = M1 at h ⊢
  refine tj_aload_n rfl dX4_takeToken_59 rfl ?_
  refine tj_aload_n rfl dX4_takeToken_60 rfl ?_
  refine gf4_tape (a := 22) rfl rfl dX4_takeToken_61 fl_X4_25 ?_
  refine tj_aload_n rfl dX4_takeToken_64 rfl ?_
  refine gf4_next (a := 22) rfl rfl dX4_takeToken_65 fl_X4_73 ?_
  refine cf_V9 (a := 1) (z := kX9_byteAt) (As := [_]) rfl rfl dX4_takeToken_68 rfl ml_X4_80 okX9_byteAt rfl (rm_ok rfl) (Nat.le_of_ble_eq_true rfl) (Nat.le_of_ble_eq_true rfl) rfl rfl ?_
  refine ctX9_byteAt h (fun r4 M2 t3 h => ?_)
  refine cf_S (z := kX4_typeOf) (As := [_]) rfl dX4_takeToken_71 rfl ml_X4_87 okX4_typeOf rfl (rm_ok rfl) (Nat.le_of_ble_eq_true rfl) (Nat.le_of_ble_eq_true rfl) rfl ?_
  refine ctX4_typeOf h (fun r7 M5 t6 h => ?_)
  refine pf4_type (a := 22) rfl rfl dX4_takeToken_74 fl_X4_39 ?_
  replace h := h _ rfl
  generalize mset M5 22 8 r7 = M8 at h ⊢
  refine tj_aload_n rfl dX4_takeToken_77 rfl ?_
  refine tj_iconst (v := 0) rfl dX4_takeToken_78 (by decide) ?_
  refine pf4_figures (a := 22) rfl rfl dX4_takeToken_79 fl_X4_90 ?_
  replace h := h _ rfl
  generalize mset M8 22 9 0 = M9 at h ⊢
  refine tj_aload_n rfl dX4_takeToken_82 rfl ?_
  refine gf4_type (a := 22) rfl rfl dX4_takeToken_83 fl_X4_39 ?_
  refine tj_iconst (v := 3) rfl dX4_takeToken_86 (by decide) ?_
  refine tj_icmp_ne (tgt := 100) rfl rfl dX4_takeToken_87 (fun hc => ?_) (fun hc => ?_)
  · rw [if_neg hc] at h
    obtain ⟨n9, h⟩ := h
    exact bX4_takeToken_100 hp  n9 _ _ h
  · rw [if_pos hc] at h
    refine tj_aload_n rfl dX4_takeToken_90 rfl ?_
    refine tj_dup rfl dX4_takeToken_91 rfl ?_
    refine gf4_next (a := 22) rfl rfl dX4_takeToken_92 fl_X4_73 ?_
    refine tj_iconst (v := 1) rfl dX4_takeToken_95 (by decide) ?_
    refine tj_iadd rfl dX4_takeToken_96 ?_
    refine pf4_next (a := 22) rfl rfl dX4_takeToken_97 fl_X4_73 ?_
    replace h := h _ rfl
    generalize mset M9 22 6 ((M9 22 6) + 1) = M10 at h ⊢
    obtain ⟨n9, h⟩ := h
    exact bX4_takeToken_100 hp  n9 _ _ h
def wX4_takeToken_8 (post : MM → Int64 → Prop) : Nat → MM → Int64 → Prop
  | 0, _, _ => False
  | n + 1, M, tl =>
    (if (M 1 1) ≤ (M 22 6) then wX4_takeToken_51 post  M tl else wpX9_byteAt (fun r3 M1 t2 => (if r3 = 32 then (∀ M4 : MM, M4 = mset M1 22 6 ((M1 22 6) + 1) → (wX4_takeToken_8 post n) M4 t2) else wX4_takeToken_51 post  M1 t2)) M tl (M 22 6))
set_option maxHeartbeats 4000000 in
set_option maxRecDepth 20000 in
theorem bX4_takeToken_8 {E : EV} {ad : Nat → Nat} {Φ : Option Value → va_W → Prop} {post : MM → Int64 → Prop}  (hp : ∀ M tl, post M tl → Φ none (WM E ad M tl)) : ∀ (n : Nat) (M : MM) (tl : Int64), wX4_takeToken_8 post n M tl  → T E kX4_takeToken 0 0 (WM E ad M tl) 8 [(0, .ref (ad (22)))] [] Φ := by
  intro n
  induction n with
  | zero => intro M tl  h; exact False.elim h
  | succ n ih =>
    intro M tl  h
    unfold wX4_takeToken_8 at h
    refine tj_aload_n rfl dX4_takeToken_8 rfl ?_
    refine gf4_next (a := 22) rfl rfl dX4_takeToken_9 fl_X4_73 ?_
    refine tj_aload_n rfl dX4_takeToken_12 rfl ?_
    refine gf4_tape (a := 22) rfl rfl dX4_takeToken_13 fl_X4_25 ?_
    refine gf9_size (a := 1) rfl rfl dX4_takeToken_16 fl_X4_55 ?_
    refine tj_icmp_ge (tgt := 51) rfl rfl dX4_takeToken_19 (fun hc => ?_) (fun hc => ?_)
    · rw [if_pos hc] at h
      exact bX4_takeToken_51 hp  h
    · rw [if_neg hc] at h
      refine tj_aload_n rfl dX4_takeToken_22 rfl ?_
      refine gf4_tape (a := 22) rfl rfl dX4_takeToken_23 fl_X4_25 ?_
      refine tj_aload_n rfl dX4_takeToken_26 rfl ?_
      refine gf4_next (a := 22) rfl rfl dX4_takeToken_27 fl_X4_73 ?_
      refine cf_V9 (a := 1) (z := kX9_byteAt) (As := [_]) rfl rfl dX4_takeToken_30 rfl ml_X4_80 okX9_byteAt rfl (rm_ok rfl) (Nat.le_of_ble_eq_true rfl) (Nat.le_of_ble_eq_true rfl) rfl rfl ?_
      refine ctX9_byteAt h (fun r3 M1 t2 h => ?_)
      refine tj_bipush (v := 32) rfl dX4_takeToken_33 (by decide) ?_
      refine tj_icmp_ne (tgt := 51) rfl rfl dX4_takeToken_35 (fun hc => ?_) (fun hc => ?_)
      · rw [if_neg hc] at h
        exact bX4_takeToken_51 hp  h
      · rw [if_pos hc] at h
        refine tj_aload_n rfl dX4_takeToken_38 rfl ?_
        refine tj_dup rfl dX4_takeToken_39 rfl ?_
        refine gf4_next (a := 22) rfl rfl dX4_takeToken_40 fl_X4_73 ?_
        refine tj_iconst (v := 1) rfl dX4_takeToken_43 (by decide) ?_
        refine tj_iadd rfl dX4_takeToken_44 ?_
        refine pf4_next (a := 22) rfl rfl dX4_takeToken_45 fl_X4_73 ?_
        replace h := h _ rfl
        generalize mset M1 22 6 ((M1 22 6) + 1) = M4 at h ⊢
        refine tj_goto (tgt := 8) rfl dX4_takeToken_48 ?_
        exact ih _ _ h
def wpX4_takeToken (post : MM → Int64 → Prop) (M : MM) (tl : Int64) : Prop :=
  (if (M 22 2) = 0 then (∃ n9, wX4_takeToken_8 post  n9 M tl) else post M tl)
set_option maxHeartbeats 4000000 in
set_option maxRecDepth 20000 in
theorem ctX4_takeToken {E : EV} {ad : Nat → Nat} {M : MM} {tl : Int64} {Φ : Option Value → va_W → Prop} {post : MM → Int64 → Prop} (h : wpX4_takeToken post M tl ) (hp : ∀ M tl, post M tl → Φ none (WM E ad M tl)) : Tm E kX4_takeToken (WM E ad M tl) [.ref (ad (22))] Φ := by
  unfold wpX4_takeToken at h
  show T E kX4_takeToken 0 0 (WM E ad M tl) 0 [(0, .ref (ad (22)))] [] Φ
  refine tj_aload_n rfl dX4_takeToken_0 rfl ?_
  refine gf4_fault (a := 22) rfl rfl dX4_takeToken_1 fl_X4_35 ?_
  refine tj_if_eq (tgt := 8) rfl rfl dX4_takeToken_4 (fun hc => ?_) (fun hc => ?_)
  · rw [if_pos hc] at h
    obtain ⟨n9, h⟩ := h
    exact bX4_takeToken_8 hp  n9 _ _ h
  · rw [if_neg hc] at h
    exact tj_return dX4_takeToken_7 rfl (Nat.zero_le _) (Nat.zero_le _) (hp _ _ h)
def wX4_nameAmong_135 (post : Int32 → MM → Int64 → Prop) (bk25 : MM → Int64 → Nat → Int32 → Int32 → Int32 → Int32 → Prop) (M : MM) (tl : Int64) (v1 : Nat) (v2 : Int32) (v3 : Int32) (v4 : Int32) (v5 : Int32) : Prop :=
  bk25 M tl v1 v2 v3 v4 (v5 + 1)
set_option maxHeartbeats 4000000 in
set_option maxRecDepth 20000 in
theorem bX4_nameAmong_135 {E : EV} {ad : Nat → Nat} {M : MM} {tl : Int64} {Φ : Option Value → va_W → Prop} {post : Int32 → MM → Int64 → Prop} {bk25 : MM → Int64 → Nat → Int32 → Int32 → Int32 → Int32 → Prop} {v1 : Nat} {v2 : Int32} {v3 : Int32} {v4 : Int32} {v5 : Int32} (hp : ∀ r M tl, post r M tl → Φ (some (.int r)) (WM E ad M tl)) (hb25 : ∀ (M : MM) (tl : Int64) (v1 : Nat) (v2 : Int32) (v3 : Int32) (v4 : Int32) (v5 : Int32), bk25 M tl v1 v2 v3 v4 v5 → T E kX4_nameAmong 0 0 (WM E ad M tl) 25 [(0, .ref (ad (22))), (1, .ref (E.2.2.1 (v1))), (2, .int v2), (3, .int v3), (4, .int v4), (5, .int v5)] [] Φ) (h : wX4_nameAmong_135 post bk25 M tl v1 v2 v3 v4 v5) : T E kX4_nameAmong 0 0 (WM E ad M tl) 135 [(0, .ref (ad (22))), (1, .ref (E.2.2.1 (v1))), (2, .int v2), (3, .int v3), (4, .int v4), (5, .int v5)] [] Φ := by
  unfold wX4_nameAmong_135 at h
  refine tj_iinc (v := _ + 1) (l' := [(0, _), (1, _), (2, _), (3, _), (4, _), (5, _)]) rfl dX4_nameAmong_135 rfl (by decide) rfl rfl ?_
  refine tj_goto (tgt := 25) rfl dX4_nameAmong_138 ?_
  exact hb25 _ _ _ _ _ _ _ h
def wX4_nameAmong_90 (post : Int32 → MM → Int64 → Prop) (bk25 : MM → Int64 → Nat → Int32 → Int32 → Int32 → Int32 → Prop) (M : MM) (tl : Int64) (v1 : Nat) (v2 : Int32) (v3 : Int32) (v5 : Int32) (s0 : Int32) : Prop :=
  wX4_nameAmong_135 post bk25 M tl v1 v2 v3 s0 v5
set_option maxHeartbeats 4000000 in
set_option maxRecDepth 20000 in
theorem bX4_nameAmong_90 {E : EV} {ad : Nat → Nat} {M : MM} {tl : Int64} {Φ : Option Value → va_W → Prop} {post : Int32 → MM → Int64 → Prop} {bk25 : MM → Int64 → Nat → Int32 → Int32 → Int32 → Int32 → Prop} {v1 : Nat} {v2 : Int32} {v3 : Int32} {v5 : Int32} {s0 : Int32} (hp : ∀ r M tl, post r M tl → Φ (some (.int r)) (WM E ad M tl)) (hb25 : ∀ (M : MM) (tl : Int64) (v1 : Nat) (v2 : Int32) (v3 : Int32) (v4 : Int32) (v5 : Int32), bk25 M tl v1 v2 v3 v4 v5 → T E kX4_nameAmong 0 0 (WM E ad M tl) 25 [(0, .ref (ad (22))), (1, .ref (E.2.2.1 (v1))), (2, .int v2), (3, .int v3), (4, .int v4), (5, .int v5)] [] Φ) (h : wX4_nameAmong_90 post bk25 M tl v1 v2 v3 v5 s0) : T E kX4_nameAmong 0 0 (WM E ad M tl) 90 [(0, .ref (ad (22))), (1, .ref (E.2.2.1 (v1))), (2, .int v2), (3, .int v3), (5, .int v5)] [.int s0] Φ := by
  unfold wX4_nameAmong_90 at h
  refine tj_istore (l' := [(0, _), (1, _), (2, _), (3, _), (4, _), (5, _)]) rfl dX4_nameAmong_90 (by decide) rfl ?_
  refine tj_goto (tgt := 135) rfl dX4_nameAmong_92 ?_
  exact bX4_nameAmong_135 hp hb25 h
def wX4_nameAmong_69 (post : Int32 → MM → Int64 → Prop) (bk25 : MM → Int64 → Nat → Int32 → Int32 → Int32 → Int32 → Prop) (M : MM) (tl : Int64) (v1 : Nat) (v2 : Int32) (v5 : Int32) : Prop :=
  (if (M 22 8) = 1 then wX4_nameAmong_90 post bk25 M tl v1 (v2 + 1) (M 22 7) v5 1 else wX4_nameAmong_90 post bk25 M tl v1 (v2 + 1) (M 22 7) v5 0)
set_option maxHeartbeats 4000000 in
set_option maxRecDepth 20000 in
theorem bX4_nameAmong_69 {E : EV} {ad : Nat → Nat} {M : MM} {tl : Int64} {Φ : Option Value → va_W → Prop} {post : Int32 → MM → Int64 → Prop} {bk25 : MM → Int64 → Nat → Int32 → Int32 → Int32 → Int32 → Prop} {v1 : Nat} {v2 : Int32} {v5 : Int32} (hp : ∀ r M tl, post r M tl → Φ (some (.int r)) (WM E ad M tl)) (hb25 : ∀ (M : MM) (tl : Int64) (v1 : Nat) (v2 : Int32) (v3 : Int32) (v4 : Int32) (v5 : Int32), bk25 M tl v1 v2 v3 v4 v5 → T E kX4_nameAmong 0 0 (WM E ad M tl) 25 [(0, .ref (ad (22))), (1, .ref (E.2.2.1 (v1))), (2, .int v2), (3, .int v3), (4, .int v4), (5, .int v5)] [] Φ) (h : wX4_nameAmong_69 post bk25 M tl v1 v2 v5) : T E kX4_nameAmong 0 0 (WM E ad M tl) 69 [(0, .ref (ad (22))), (1, .ref (E.2.2.1 (v1))), (2, .int v2), (5, .int v5)] [] Φ := by
  unfold wX4_nameAmong_69 at h
  refine tj_iinc (v := _ + 1) (l' := [(0, _), (1, _), (2, _), (5, _)]) rfl dX4_nameAmong_69 rfl (by decide) rfl rfl ?_
  refine tj_aload_n rfl dX4_nameAmong_72 rfl ?_
  refine gf4_start (a := 22) rfl rfl dX4_nameAmong_73 fl_X4_84 ?_
  refine tj_istore_n (l' := [(0, _), (1, _), (2, _), (3, _), (5, _)]) rfl dX4_nameAmong_76 (by decide) rfl ?_
  refine tj_aload_n rfl dX4_nameAmong_77 rfl ?_
  refine gf4_type (a := 22) rfl rfl dX4_nameAmong_78 fl_X4_39 ?_
  refine tj_iconst (v := 1) rfl dX4_nameAmong_81 (by decide) ?_
  refine tj_icmp_ne (tgt := 89) rfl rfl dX4_nameAmong_82 (fun hc => ?_) (fun hc => ?_)
  · rw [if_neg hc] at h
    refine tj_iconst (v := 0) rfl dX4_nameAmong_89 (by decide) ?_
    exact bX4_nameAmong_90 hp hb25 h
  · rw [if_pos hc] at h
    refine tj_iconst (v := 1) rfl dX4_nameAmong_85 (by decide) ?_
    refine tj_goto (tgt := 90) rfl dX4_nameAmong_86 ?_
    exact bX4_nameAmong_90 hp hb25 h
def wX4_nameAmong_54 (post : Int32 → MM → Int64 → Prop) (bk25 : MM → Int64 → Nat → Int32 → Int32 → Int32 → Int32 → Prop) (M : MM) (tl : Int64) (v1 : Nat) (v2 : Int32) (v3 : Int32) (v4 : Int32) (v5 : Int32) : Prop :=
  (if v4 = 0 then wX4_nameAmong_69 post bk25 M tl v1 v2 v5 else (if v3 = (M 22 6) then post v2 M tl else wX4_nameAmong_69 post bk25 M tl v1 v2 v5))
set_option maxHeartbeats 4000000 in
set_option maxRecDepth 20000 in
theorem bX4_nameAmong_54 {E : EV} {ad : Nat → Nat} {M : MM} {tl : Int64} {Φ : Option Value → va_W → Prop} {post : Int32 → MM → Int64 → Prop} {bk25 : MM → Int64 → Nat → Int32 → Int32 → Int32 → Int32 → Prop} {v1 : Nat} {v2 : Int32} {v3 : Int32} {v4 : Int32} {v5 : Int32} (hp : ∀ r M tl, post r M tl → Φ (some (.int r)) (WM E ad M tl)) (hb25 : ∀ (M : MM) (tl : Int64) (v1 : Nat) (v2 : Int32) (v3 : Int32) (v4 : Int32) (v5 : Int32), bk25 M tl v1 v2 v3 v4 v5 → T E kX4_nameAmong 0 0 (WM E ad M tl) 25 [(0, .ref (ad (22))), (1, .ref (E.2.2.1 (v1))), (2, .int v2), (3, .int v3), (4, .int v4), (5, .int v5)] [] Φ) (h : wX4_nameAmong_54 post bk25 M tl v1 v2 v3 v4 v5) : T E kX4_nameAmong 0 0 (WM E ad M tl) 54 [(0, .ref (ad (22))), (1, .ref (E.2.2.1 (v1))), (2, .int v2), (3, .int v3), (4, .int v4), (5, .int v5)] [] Φ := by
  unfold wX4_nameAmong_54 at h
  refine tj_iload rfl dX4_nameAmong_54 rfl ?_
  refine tj_if_eq (tgt := 69) rfl rfl dX4_nameAmong_56 (fun hc => ?_) (fun hc => ?_)
  · rw [if_pos hc] at h
    exact tj_pick (l' := [(0, _), (1, _), (2, _), (5, _)]) [0, 1, 2, 5] rfl (bX4_nameAmong_69 hp hb25 h)
  · rw [if_neg hc] at h
    refine tj_iload_n rfl dX4_nameAmong_59 rfl ?_
    refine tj_aload_n rfl dX4_nameAmong_60 rfl ?_
    refine gf4_next (a := 22) rfl rfl dX4_nameAmong_61 fl_X4_73 ?_
    refine tj_icmp_ne (tgt := 69) rfl rfl dX4_nameAmong_64 (fun hc => ?_) (fun hc => ?_)
    · rw [if_neg hc] at h
      exact tj_pick (l' := [(0, _), (1, _), (2, _), (5, _)]) [0, 1, 2, 5] rfl (bX4_nameAmong_69 hp hb25 h)
    · rw [if_pos hc] at h
      refine tj_iload_n rfl dX4_nameAmong_67 rfl ?_
      exact tj_ireturn (ty := .int) dX4_nameAmong_68 rfl rfl (Nat.zero_le _) (Nat.zero_le _) (hp _ _ _ h)
def wX4_nameAmong_130 (post : Int32 → MM → Int64 → Prop) (bk25 : MM → Int64 → Nat → Int32 → Int32 → Int32 → Int32 → Prop) (M : MM) (tl : Int64) (v1 : Nat) (v2 : Int32) (v3 : Int32) (v5 : Int32) (s0 : Int32) : Prop :=
  wX4_nameAmong_135 post bk25 M tl v1 v2 (v3 + 1) s0 v5
set_option maxHeartbeats 4000000 in
set_option maxRecDepth 20000 in
theorem bX4_nameAmong_130 {E : EV} {ad : Nat → Nat} {M : MM} {tl : Int64} {Φ : Option Value → va_W → Prop} {post : Int32 → MM → Int64 → Prop} {bk25 : MM → Int64 → Nat → Int32 → Int32 → Int32 → Int32 → Prop} {v1 : Nat} {v2 : Int32} {v3 : Int32} {v5 : Int32} {s0 : Int32} (hp : ∀ r M tl, post r M tl → Φ (some (.int r)) (WM E ad M tl)) (hb25 : ∀ (M : MM) (tl : Int64) (v1 : Nat) (v2 : Int32) (v3 : Int32) (v4 : Int32) (v5 : Int32), bk25 M tl v1 v2 v3 v4 v5 → T E kX4_nameAmong 0 0 (WM E ad M tl) 25 [(0, .ref (ad (22))), (1, .ref (E.2.2.1 (v1))), (2, .int v2), (3, .int v3), (4, .int v4), (5, .int v5)] [] Φ) (h : wX4_nameAmong_130 post bk25 M tl v1 v2 v3 v5 s0) : T E kX4_nameAmong 0 0 (WM E ad M tl) 130 [(0, .ref (ad (22))), (1, .ref (E.2.2.1 (v1))), (2, .int v2), (3, .int v3), (5, .int v5)] [.int s0] Φ := by
  unfold wX4_nameAmong_130 at h
  refine tj_istore (l' := [(0, _), (1, _), (2, _), (3, _), (4, _), (5, _)]) rfl dX4_nameAmong_130 (by decide) rfl ?_
  refine tj_iinc (v := _ + 1) (l' := [(0, _), (1, _), (2, _), (3, _), (4, _), (5, _)]) rfl dX4_nameAmong_132 rfl (by decide) rfl rfl ?_
  exact bX4_nameAmong_135 hp hb25 h
def wX4_nameAmong_129 (post : Int32 → MM → Int64 → Prop) (bk25 : MM → Int64 → Nat → Int32 → Int32 → Int32 → Int32 → Prop) (M : MM) (tl : Int64) (v1 : Nat) (v2 : Int32) (v3 : Int32) (v5 : Int32) : Prop :=
  wX4_nameAmong_130 post bk25 M tl v1 v2 v3 v5 0
set_option maxHeartbeats 4000000 in
set_option maxRecDepth 20000 in
theorem bX4_nameAmong_129 {E : EV} {ad : Nat → Nat} {M : MM} {tl : Int64} {Φ : Option Value → va_W → Prop} {post : Int32 → MM → Int64 → Prop} {bk25 : MM → Int64 → Nat → Int32 → Int32 → Int32 → Int32 → Prop} {v1 : Nat} {v2 : Int32} {v3 : Int32} {v5 : Int32} (hp : ∀ r M tl, post r M tl → Φ (some (.int r)) (WM E ad M tl)) (hb25 : ∀ (M : MM) (tl : Int64) (v1 : Nat) (v2 : Int32) (v3 : Int32) (v4 : Int32) (v5 : Int32), bk25 M tl v1 v2 v3 v4 v5 → T E kX4_nameAmong 0 0 (WM E ad M tl) 25 [(0, .ref (ad (22))), (1, .ref (E.2.2.1 (v1))), (2, .int v2), (3, .int v3), (4, .int v4), (5, .int v5)] [] Φ) (h : wX4_nameAmong_129 post bk25 M tl v1 v2 v3 v5) : T E kX4_nameAmong 0 0 (WM E ad M tl) 129 [(0, .ref (ad (22))), (1, .ref (E.2.2.1 (v1))), (2, .int v2), (3, .int v3), (5, .int v5)] [] Φ := by
  unfold wX4_nameAmong_129 at h
  refine tj_iconst (v := 0) rfl dX4_nameAmong_129 (by decide) ?_
  exact bX4_nameAmong_130 hp hb25 h
def wX4_nameAmong_25 (post : Int32 → MM → Int64 → Prop) : Nat → MM → Int64 → Nat → Int32 → Int32 → Int32 → Int32 → Prop
  | 0, _, _, _, _, _, _, _ => False
  | n + 1, M, tl, v1, v2, v3, v4, v5 =>
    (v1 < 4 ∧ (if (nI (lenJS.getD v1 0)) < v5 then post (-1) M tl else (v1 < 4 ∧ (if v5 = (nI (lenJS.getD v1 0)) then wX4_nameAmong_54 post (wX4_nameAmong_25 post n) M tl v1 v2 v3 v4 v5 else (v1 < 4 ∧ (vp_in v5 (lenJS.getD v1 0) ∧ (if ((bytJS.getD v1 []).getD (v5 : Int32).toNatClampNeg 0) = 32 then wX4_nameAmong_54 post (wX4_nameAmong_25 post n) M tl v1 v2 v3 v4 v5 else (if v4 = 0 then wX4_nameAmong_129 post (wX4_nameAmong_25 post n) M tl v1 v2 v3 v5 else (if (M 22 6) ≤ v3 then wX4_nameAmong_129 post (wX4_nameAmong_25 post n) M tl v1 v2 v3 v5 else (v1 < 4 ∧ (vp_in v5 (lenJS.getD v1 0) ∧ wpX9_byteAt (fun r9 M7 t8 => (if ((bytJS.getD v1 []).getD (v5 : Int32).toNatClampNeg 0) = r9 then wX4_nameAmong_130 post (wX4_nameAmong_25 post n) M7 t8 v1 v2 v3 v5 1 else wX4_nameAmong_129 post (wX4_nameAmong_25 post n) M7 t8 v1 v2 v3 v5)) M tl v3)))))))))))
set_option maxHeartbeats 4000000 in
set_option maxRecDepth 20000 in
theorem bX4_nameAmong_25 {E : EV} {ad : Nat → Nat} {Φ : Option Value → va_W → Prop} {post : Int32 → MM → Int64 → Prop}  (hp : ∀ r M tl, post r M tl → Φ (some (.int r)) (WM E ad M tl)) : ∀ (n : Nat) (M : MM) (tl : Int64) (v1 : Nat) (v2 : Int32) (v3 : Int32) (v4 : Int32) (v5 : Int32), wX4_nameAmong_25 post n M tl v1 v2 v3 v4 v5 → T E kX4_nameAmong 0 0 (WM E ad M tl) 25 [(0, .ref (ad (22))), (1, .ref (E.2.2.1 (v1))), (2, .int v2), (3, .int v3), (4, .int v4), (5, .int v5)] [] Φ := by
  intro n
  induction n with
  | zero => intro M tl v1 v2 v3 v4 v5 h; exact False.elim h
  | succ n ih =>
    intro M tl v1 v2 v3 v4 v5 h
    unfold wX4_nameAmong_25 at h
    refine tj_iload rfl dX4_nameAmong_25 rfl ?_
    refine tj_aload_n rfl dX4_nameAmong_27 rfl ?_
    obtain ⟨hs1, h⟩ := h
    refine tj_strlen (i := v1) hs1 rfl dX4_nameAmong_28 rfl ml_X4_93 (rm_ok rfl) (Nat.le_of_ble_eq_true rfl) ?_
    refine tj_icmp_gt (tgt := 141) rfl rfl dX4_nameAmong_31 (fun hc => ?_) (fun hc => ?_)
    · rw [if_pos hc] at h
      refine tj_iconst (v := -1) rfl dX4_nameAmong_141 (by decide) ?_
      exact tj_ireturn (ty := .int) dX4_nameAmong_142 rfl rfl (Nat.zero_le _) (Nat.zero_le _) (hp _ _ _ h)
    · rw [if_neg hc] at h
      refine tj_iload rfl dX4_nameAmong_34 rfl ?_
      refine tj_aload_n rfl dX4_nameAmong_36 rfl ?_
      obtain ⟨hs2, h⟩ := h
      refine tj_strlen (i := v1) hs2 rfl dX4_nameAmong_37 rfl ml_X4_93 (rm_ok rfl) (Nat.le_of_ble_eq_true rfl) ?_
      refine tj_icmp_eq (tgt := 54) rfl rfl dX4_nameAmong_40 (fun hc => ?_) (fun hc => ?_)
      · rw [if_pos hc] at h
        exact bX4_nameAmong_54 hp ih h
      · rw [if_neg hc] at h
        refine tj_aload_n rfl dX4_nameAmong_43 rfl ?_
        refine tj_iload rfl dX4_nameAmong_44 rfl ?_
        obtain ⟨hs3, h⟩ := h
        obtain ⟨hi4, h⟩ := h
        refine tj_charAt (i := v1) hs3 rfl dX4_nameAmong_46 rfl ml_X4_99 (rm_ok rfl) (Nat.le_of_ble_eq_true rfl) hi4 ?_
        refine tj_bipush (v := 32) rfl dX4_nameAmong_49 (by decide) ?_
        refine tj_icmp_ne (tgt := 95) rfl rfl dX4_nameAmong_51 (fun hc => ?_) (fun hc => ?_)
        · rw [if_neg hc] at h
          refine tj_iload rfl dX4_nameAmong_95 rfl ?_
          refine tj_if_eq (tgt := 129) rfl rfl dX4_nameAmong_97 (fun hc => ?_) (fun hc => ?_)
          · rw [if_pos hc] at h
            exact tj_pick (l' := [(0, _), (1, _), (2, _), (3, _), (5, _)]) [0, 1, 2, 3, 5] rfl (bX4_nameAmong_129 hp ih h)
          · rw [if_neg hc] at h
            refine tj_iload_n rfl dX4_nameAmong_100 rfl ?_
            refine tj_aload_n rfl dX4_nameAmong_101 rfl ?_
            refine gf4_next (a := 22) rfl rfl dX4_nameAmong_102 fl_X4_73 ?_
            refine tj_icmp_ge (tgt := 129) rfl rfl dX4_nameAmong_105 (fun hc => ?_) (fun hc => ?_)
            · rw [if_pos hc] at h
              exact tj_pick (l' := [(0, _), (1, _), (2, _), (3, _), (5, _)]) [0, 1, 2, 3, 5] rfl (bX4_nameAmong_129 hp ih h)
            · rw [if_neg hc] at h
              refine tj_aload_n rfl dX4_nameAmong_108 rfl ?_
              refine tj_iload rfl dX4_nameAmong_109 rfl ?_
              obtain ⟨hs5, h⟩ := h
              obtain ⟨hi6, h⟩ := h
              refine tj_charAt (i := v1) hs5 rfl dX4_nameAmong_111 rfl ml_X4_99 (rm_ok rfl) (Nat.le_of_ble_eq_true rfl) hi6 ?_
              refine tj_aload_n rfl dX4_nameAmong_114 rfl ?_
              refine gf4_tape (a := 22) rfl rfl dX4_nameAmong_115 fl_X4_25 ?_
              refine tj_iload_n rfl dX4_nameAmong_118 rfl ?_
              refine cf_V9 (a := 1) (z := kX9_byteAt) (As := [_]) rfl rfl dX4_nameAmong_119 rfl ml_X4_80 okX9_byteAt rfl (rm_ok rfl) (Nat.le_of_ble_eq_true rfl) (Nat.le_of_ble_eq_true rfl) rfl rfl ?_
              refine ctX9_byteAt h (fun r9 M7 t8 h => ?_)
              refine tj_icmp_ne (tgt := 129) rfl rfl dX4_nameAmong_122 (fun hc => ?_) (fun hc => ?_)
              · rw [if_neg hc] at h
                exact tj_pick (l' := [(0, _), (1, _), (2, _), (3, _), (5, _)]) [0, 1, 2, 3, 5] rfl (bX4_nameAmong_129 hp ih h)
              · rw [if_pos hc] at h
                refine tj_iconst (v := 1) rfl dX4_nameAmong_125 (by decide) ?_
                refine tj_goto (tgt := 130) rfl dX4_nameAmong_126 ?_
                exact tj_pick (l' := [(0, _), (1, _), (2, _), (3, _), (5, _)]) [0, 1, 2, 3, 5] rfl (bX4_nameAmong_130 hp ih h)
        · rw [if_pos hc] at h
          exact bX4_nameAmong_54 hp ih h
def wX4_nameAmong_20 (post : Int32 → MM → Int64 → Prop) (M : MM) (tl : Int64) (v1 : Nat) (v2 : Int32) (v3 : Int32) (s0 : Int32) : Prop :=
  (∃ n9, wX4_nameAmong_25 post  n9 M tl v1 v2 v3 s0 0)
set_option maxHeartbeats 4000000 in
set_option maxRecDepth 20000 in
theorem bX4_nameAmong_20 {E : EV} {ad : Nat → Nat} {M : MM} {tl : Int64} {Φ : Option Value → va_W → Prop} {post : Int32 → MM → Int64 → Prop} {v1 : Nat} {v2 : Int32} {v3 : Int32} {s0 : Int32} (hp : ∀ r M tl, post r M tl → Φ (some (.int r)) (WM E ad M tl)) (h : wX4_nameAmong_20 post M tl v1 v2 v3 s0) : T E kX4_nameAmong 0 0 (WM E ad M tl) 20 [(0, .ref (ad (22))), (1, .ref (E.2.2.1 (v1))), (2, .int v2), (3, .int v3)] [.int s0] Φ := by
  unfold wX4_nameAmong_20 at h
  refine tj_istore (l' := [(0, _), (1, _), (2, _), (3, _), (4, _)]) rfl dX4_nameAmong_20 (by decide) rfl ?_
  refine tj_iconst (v := 0) rfl dX4_nameAmong_22 (by decide) ?_
  refine tj_istore (l' := [(0, _), (1, _), (2, _), (3, _), (4, _), (5, _)]) rfl dX4_nameAmong_23 (by decide) rfl ?_
  obtain ⟨n9, h⟩ := h
  exact bX4_nameAmong_25 hp  n9 _ _ _ _ _ _ _ h
def wpX4_nameAmong (post : Int32 → MM → Int64 → Prop) (M : MM) (tl : Int64) (v1 : Nat) : Prop :=
  (if (M 22 8) = 1 then wX4_nameAmong_20 post  M tl v1 0 (M 22 7) 1 else wX4_nameAmong_20 post  M tl v1 0 (M 22 7) 0)
set_option maxHeartbeats 4000000 in
set_option maxRecDepth 20000 in
theorem ctX4_nameAmong {E : EV} {ad : Nat → Nat} {M : MM} {tl : Int64} {Φ : Option Value → va_W → Prop} {post : Int32 → MM → Int64 → Prop} {v1 : Nat} (h : wpX4_nameAmong post M tl v1) (hp : ∀ r M tl, post r M tl → Φ (some (.int r)) (WM E ad M tl)) : Tm E kX4_nameAmong (WM E ad M tl) [.ref (ad (22)), .ref (E.2.2.1 (v1))] Φ := by
  unfold wpX4_nameAmong at h
  show T E kX4_nameAmong 0 0 (WM E ad M tl) 0 [(0, .ref (ad (22))), (1, .ref (E.2.2.1 (v1)))] [] Φ
  refine tj_iconst (v := 0) rfl dX4_nameAmong_0 (by decide) ?_
  refine tj_istore_n (l' := [(0, _), (1, _), (2, _)]) rfl dX4_nameAmong_1 (by decide) rfl ?_
  refine tj_aload_n rfl dX4_nameAmong_2 rfl ?_
  refine gf4_start (a := 22) rfl rfl dX4_nameAmong_3 fl_X4_84 ?_
  refine tj_istore_n (l' := [(0, _), (1, _), (2, _), (3, _)]) rfl dX4_nameAmong_6 (by decide) rfl ?_
  refine tj_aload_n rfl dX4_nameAmong_7 rfl ?_
  refine gf4_type (a := 22) rfl rfl dX4_nameAmong_8 fl_X4_39 ?_
  refine tj_iconst (v := 1) rfl dX4_nameAmong_11 (by decide) ?_
  refine tj_icmp_ne (tgt := 19) rfl rfl dX4_nameAmong_12 (fun hc => ?_) (fun hc => ?_)
  · rw [if_neg hc] at h
    refine tj_iconst (v := 0) rfl dX4_nameAmong_19 (by decide) ?_
    exact bX4_nameAmong_20 hp  h
  · rw [if_pos hc] at h
    refine tj_iconst (v := 1) rfl dX4_nameAmong_15 (by decide) ?_
    refine tj_goto (tgt := 20) rfl dX4_nameAmong_16 ?_
    exact bX4_nameAmong_20 hp  h
def wX4_tellOnce_31 (post : MM → Int64 → Prop) (M : MM) (tl : Int64) (v1 : Int32) : Prop :=
  post M (tl ||| ((1 : Int64) <<< ((v1 : Int32).toInt64 &&& 63)))
set_option maxHeartbeats 4000000 in
set_option maxRecDepth 20000 in
theorem bX4_tellOnce_31 {E : EV} {ad : Nat → Nat} {M : MM} {tl : Int64} {Φ : Option Value → va_W → Prop} {post : MM → Int64 → Prop} {v1 : Int32} (hp : ∀ M tl, post M tl → Φ none (WM E ad M tl)) (h : wX4_tellOnce_31 post M tl v1) : T E kX4_tellOnce 0 0 (WM E ad M tl) 31 [(0, .ref (ad (22))), (1, .int v1)] [] Φ := by
  unfold wX4_tellOnce_31 at h
  refine tj_aload_n rfl dX4_tellOnce_31 rfl ?_
  refine tj_dup rfl dX4_tellOnce_32 rfl ?_
  refine gf4_told (a := 22) rfl rfl dX4_tellOnce_33 fl_X4_76 ?_
  refine tj_lconst (v := 1) rfl dX4_tellOnce_36 (by decide) ?_
  refine tj_iload_n rfl dX4_tellOnce_37 rfl ?_
  refine tj_lshl rfl dX4_tellOnce_38 ?_
  refine tj_lor rfl dX4_tellOnce_39 ?_
  refine pf4_told (a := 22) rfl rfl dX4_tellOnce_40 fl_X4_76 ?_
  exact tj_return dX4_tellOnce_43 rfl (Nat.zero_le _) (Nat.zero_le _) (hp _ _ h)
def wpX4_tellOnce (post : MM → Int64 → Prop) (M : MM) (tl : Int64) (v1 : Int32) : Prop :=
  (if (M 22 2) = 0 then (if (lg_cmp ((tl >>> ((v1 : Int32).toInt64 &&& 63)) &&& 1) 0) = 0 then wX4_tellOnce_31 post  M tl v1 else wpX4_fail (fun r3 M1 t2 => wX4_tellOnce_31 post  M1 t2 v1) M tl 4 (M 22 7)) else post M tl)
set_option maxHeartbeats 4000000 in
set_option maxRecDepth 20000 in
theorem ctX4_tellOnce {E : EV} {ad : Nat → Nat} {M : MM} {tl : Int64} {Φ : Option Value → va_W → Prop} {post : MM → Int64 → Prop} {v1 : Int32} (h : wpX4_tellOnce post M tl v1) (hp : ∀ M tl, post M tl → Φ none (WM E ad M tl)) : Tm E kX4_tellOnce (WM E ad M tl) [.ref (ad (22)), .int v1] Φ := by
  unfold wpX4_tellOnce at h
  show T E kX4_tellOnce 0 0 (WM E ad M tl) 0 [(0, .ref (ad (22))), (1, .int v1)] [] Φ
  refine tj_aload_n rfl dX4_tellOnce_0 rfl ?_
  refine gf4_fault (a := 22) rfl rfl dX4_tellOnce_1 fl_X4_35 ?_
  refine tj_if_eq (tgt := 8) rfl rfl dX4_tellOnce_4 (fun hc => ?_) (fun hc => ?_)
  · rw [if_pos hc] at h
    refine tj_aload_n rfl dX4_tellOnce_8 rfl ?_
    refine gf4_told (a := 22) rfl rfl dX4_tellOnce_9 fl_X4_76 ?_
    refine tj_iload_n rfl dX4_tellOnce_12 rfl ?_
    refine tj_lshr rfl dX4_tellOnce_13 ?_
    refine tj_lconst (v := 1) rfl dX4_tellOnce_14 (by decide) ?_
    refine tj_land rfl dX4_tellOnce_15 ?_
    refine tj_lconst (v := 0) rfl dX4_tellOnce_16 (by decide) ?_
    refine tj_lcmp rfl dX4_tellOnce_17 ?_
    refine tj_if_eq (tgt := 31) rfl rfl dX4_tellOnce_18 (fun hc => ?_) (fun hc => ?_)
    · rw [if_pos hc] at h
      exact bX4_tellOnce_31 hp  h
    · rw [if_neg hc] at h
      refine tj_aload_n rfl dX4_tellOnce_21 rfl ?_
      refine tj_iconst (v := 4) rfl dX4_tellOnce_22 (by decide) ?_
      refine tj_aload_n rfl dX4_tellOnce_23 rfl ?_
      refine gf4_start (a := 22) rfl rfl dX4_tellOnce_24 fl_X4_84 ?_
      refine cf_V4 (a := 22) (z := kX4_fail) (As := [_, _]) rfl rfl dX4_tellOnce_27 rfl ml_X4_60 okX4_fail rfl (rm_ok rfl) (Nat.le_of_ble_eq_true rfl) (Nat.le_of_ble_eq_true rfl) rfl rfl ?_
      refine ctX4_fail h (fun r3 M1 t2 h => ?_)
      refine tj_pop rfl dX4_tellOnce_30 rfl ?_
      exact bX4_tellOnce_31 hp  h
  · rw [if_neg hc] at h
    exact tj_return dX4_tellOnce_7 rfl (Nat.zero_le _) (Nat.zero_le _) (hp _ _ h)
def wX4_takeNumber_47 (post : Int32 → MM → Int64 → Prop) (M : MM) (tl : Int64) : Prop :=
  wpX4_fail (fun r3 M1 t2 => post r3 M1 t2) M tl 3 (M 22 7)
set_option maxHeartbeats 4000000 in
set_option maxRecDepth 20000 in
theorem bX4_takeNumber_47 {E : EV} {ad : Nat → Nat} {M : MM} {tl : Int64} {Φ : Option Value → va_W → Prop} {post : Int32 → MM → Int64 → Prop} (hp : ∀ r M tl, post r M tl → Φ (some (.int r)) (WM E ad M tl)) (h : wX4_takeNumber_47 post M tl ) : T E kX4_takeNumber 0 0 (WM E ad M tl) 47 [(0, .ref (ad (22)))] [] Φ := by
  unfold wX4_takeNumber_47 at h
  refine tj_aload_n rfl dX4_takeNumber_47 rfl ?_
  refine tj_iconst (v := 3) rfl dX4_takeNumber_48 (by decide) ?_
  refine tj_aload_n rfl dX4_takeNumber_49 rfl ?_
  refine gf4_start (a := 22) rfl rfl dX4_takeNumber_50 fl_X4_84 ?_
  refine cf_V4 (a := 22) (z := kX4_fail) (As := [_, _]) rfl rfl dX4_takeNumber_53 rfl ml_X4_60 okX4_fail rfl (rm_ok rfl) (Nat.le_of_ble_eq_true rfl) (Nat.le_of_ble_eq_true rfl) rfl rfl ?_
  refine ctX4_fail h (fun r3 M1 t2 h => ?_)
  refine tj_goto (tgt := 63) rfl dX4_takeNumber_56 ?_
  exact tj_ireturn (ty := .int) dX4_takeNumber_63 rfl rfl (Nat.zero_le _) (Nat.zero_le _) (hp _ _ _ h)
def wpX4_takeNumber (post : Int32 → MM → Int64 → Prop) (M : MM) (tl : Int64) (v1 : Int32) (v2 : Int32) : Prop :=
  wpX4_takeToken (fun M1 t2 => (if (M1 22 2) = 0 then (if (M1 22 8) = 2 then (if (M1 22 9) < v1 then wX4_takeNumber_47 post  M1 t2 else (if (M1 22 9) ≤ v2 then post (M1 22 9) M1 t2 else wX4_takeNumber_47 post  M1 t2)) else wpX4_fail (fun r5 M3 t4 => post r5 M3 t4) M1 t2 2 (M1 22 7)) else post (-1) M1 t2)) M tl 
set_option maxHeartbeats 4000000 in
set_option maxRecDepth 20000 in
theorem ctX4_takeNumber {E : EV} {ad : Nat → Nat} {M : MM} {tl : Int64} {Φ : Option Value → va_W → Prop} {post : Int32 → MM → Int64 → Prop} {v1 : Int32} {v2 : Int32} (h : wpX4_takeNumber post M tl v1 v2) (hp : ∀ r M tl, post r M tl → Φ (some (.int r)) (WM E ad M tl)) : Tm E kX4_takeNumber (WM E ad M tl) [.ref (ad (22)), .int v1, .int v2] Φ := by
  unfold wpX4_takeNumber at h
  show T E kX4_takeNumber 0 0 (WM E ad M tl) 0 [(0, .ref (ad (22))), (1, .int v1), (2, .int v2)] [] Φ
  refine tj_aload_n rfl dX4_takeNumber_0 rfl ?_
  refine cf_V4 (a := 22) (z := kX4_takeToken) (As := []) rfl rfl dX4_takeNumber_1 rfl ml_X4_32 okX4_takeToken rfl (rm_ok rfl) (Nat.le_of_ble_eq_true rfl) (Nat.le_of_ble_eq_true rfl) rfl rfl ?_
  refine ctX4_takeToken h (fun M1 t2 h => ?_)
  refine tj_aload_n rfl dX4_takeNumber_4 rfl ?_
  refine gf4_fault (a := 22) rfl rfl dX4_takeNumber_5 fl_X4_35 ?_
  refine tj_if_eq (tgt := 13) rfl rfl dX4_takeNumber_8 (fun hc => ?_) (fun hc => ?_)
  · rw [if_pos hc] at h
    refine tj_aload_n rfl dX4_takeNumber_13 rfl ?_
    refine gf4_type (a := 22) rfl rfl dX4_takeNumber_14 fl_X4_39 ?_
    refine tj_iconst (v := 2) rfl dX4_takeNumber_17 (by decide) ?_
    refine tj_icmp_eq (tgt := 31) rfl rfl dX4_takeNumber_18 (fun hc => ?_) (fun hc => ?_)
    · rw [if_pos hc] at h
      refine tj_aload_n rfl dX4_takeNumber_31 rfl ?_
      refine gf4_figures (a := 22) rfl rfl dX4_takeNumber_32 fl_X4_90 ?_
      refine tj_iload_n rfl dX4_takeNumber_35 rfl ?_
      refine tj_icmp_lt (tgt := 47) rfl rfl dX4_takeNumber_36 (fun hc => ?_) (fun hc => ?_)
      · rw [if_pos hc] at h
        exact tj_pick (l' := [(0, _)]) [0] rfl (bX4_takeNumber_47 hp  h)
      · rw [if_neg hc] at h
        refine tj_aload_n rfl dX4_takeNumber_39 rfl ?_
        refine gf4_figures (a := 22) rfl rfl dX4_takeNumber_40 fl_X4_90 ?_
        refine tj_iload_n rfl dX4_takeNumber_43 rfl ?_
        refine tj_icmp_le (tgt := 59) rfl rfl dX4_takeNumber_44 (fun hc => ?_) (fun hc => ?_)
        · rw [if_pos hc] at h
          refine tj_aload_n rfl dX4_takeNumber_59 rfl ?_
          refine gf4_figures (a := 22) rfl rfl dX4_takeNumber_60 fl_X4_90 ?_
          exact tj_ireturn (ty := .int) dX4_takeNumber_63 rfl rfl (Nat.zero_le _) (Nat.zero_le _) (hp _ _ _ h)
        · rw [if_neg hc] at h
          exact tj_pick (l' := [(0, _)]) [0] rfl (bX4_takeNumber_47 hp  h)
    · rw [if_neg hc] at h
      refine tj_aload_n rfl dX4_takeNumber_21 rfl ?_
      refine tj_iconst (v := 2) rfl dX4_takeNumber_22 (by decide) ?_
      refine tj_aload_n rfl dX4_takeNumber_23 rfl ?_
      refine gf4_start (a := 22) rfl rfl dX4_takeNumber_24 fl_X4_84 ?_
      refine cf_V4 (a := 22) (z := kX4_fail) (As := [_, _]) rfl rfl dX4_takeNumber_27 rfl ml_X4_60 okX4_fail rfl (rm_ok rfl) (Nat.le_of_ble_eq_true rfl) (Nat.le_of_ble_eq_true rfl) rfl rfl ?_
      refine ctX4_fail h (fun r5 M3 t4 h => ?_)
      exact tj_ireturn (ty := .int) dX4_takeNumber_30 rfl rfl (Nat.zero_le _) (Nat.zero_le _) (hp _ _ _ h)
  · rw [if_neg hc] at h
    refine tj_iconst (v := -1) rfl dX4_takeNumber_11 (by decide) ?_
    exact tj_ireturn (ty := .int) dX4_takeNumber_12 rfl rfl (Nat.zero_le _) (Nat.zero_le _) (hp _ _ _ h)
def wX4_readPrices_2 (post : MM → Int64 → Prop) : Nat → MM → Int64 → Int32 → Prop
  | 0, _, _, _ => False
  | n + 1, M, tl, v1 =>
    (if 4 ≤ v1 then post M tl else (if (M 22 2) = 0 then wpX4_takeNumber (fun r3 M1 t2 => (vp_in v1 (al 24) ∧ (∀ M5 : MM, M5 = mset M1 24 (v1 : Int32).toNatClampNeg r3 → (wX4_readPrices_2 post n) M5 t2 (v1 + 1)))) M tl 1 9 else post M tl))
set_option maxHeartbeats 4000000 in
set_option maxRecDepth 20000 in
theorem bX4_readPrices_2 {E : EV} {ad : Nat → Nat} {Φ : Option Value → va_W → Prop} {post : MM → Int64 → Prop}  (hp : ∀ M tl, post M tl → Φ none (WM E ad M tl)) : ∀ (n : Nat) (M : MM) (tl : Int64) (v1 : Int32), wX4_readPrices_2 post n M tl v1 → T E kX4_readPrices 0 0 (WM E ad M tl) 2 [(0, .ref (ad (22))), (1, .int v1)] [] Φ := by
  intro n
  induction n with
  | zero => intro M tl v1 h; exact False.elim h
  | succ n ih =>
    intro M tl v1 h
    unfold wX4_readPrices_2 at h
    refine tj_iload_n rfl dX4_readPrices_2 rfl ?_
    refine tj_iconst (v := 4) rfl dX4_readPrices_3 (by decide) ?_
    refine tj_icmp_ge (tgt := 36) rfl rfl dX4_readPrices_4 (fun hc => ?_) (fun hc => ?_)
    · rw [if_pos hc] at h
      exact tj_return dX4_readPrices_36 rfl (Nat.zero_le _) (Nat.zero_le _) (hp _ _ h)
    · rw [if_neg hc] at h
      refine tj_aload_n rfl dX4_readPrices_7 rfl ?_
      refine gf4_fault (a := 22) rfl rfl dX4_readPrices_8 fl_X4_35 ?_
      refine tj_if_ne (tgt := 36) rfl rfl dX4_readPrices_11 (fun hc => ?_) (fun hc => ?_)
      · rw [if_neg hc] at h
        exact tj_return dX4_readPrices_36 rfl (Nat.zero_le _) (Nat.zero_le _) (hp _ _ h)
      · rw [if_pos hc] at h
        refine tj_aload_n rfl dX4_readPrices_14 rfl ?_
        refine gf4_law (a := 22) rfl rfl dX4_readPrices_15 fl_X4_12 ?_
        refine gf1_price (a := 23) rfl rfl dX4_readPrices_18 fl_X4_164 ?_
        refine tj_iload_n rfl dX4_readPrices_21 rfl ?_
        refine tj_aload_n rfl dX4_readPrices_22 rfl ?_
        refine tj_iconst (v := 1) rfl dX4_readPrices_23 (by decide) ?_
        refine tj_bipush (v := 9) rfl dX4_readPrices_24 (by decide) ?_
        refine cf_V4 (a := 22) (z := kX4_takeNumber) (As := [_, _]) rfl rfl dX4_readPrices_26 rfl ml_X4_103 okX4_takeNumber rfl (rm_ok rfl) (Nat.le_of_ble_eq_true rfl) (Nat.le_of_ble_eq_true rfl) rfl rfl ?_
        refine ctX4_takeNumber h (fun r3 M1 t2 h => ?_)
        obtain ⟨hi4, h⟩ := h
        refine af_iast (a := 24) rfl rfl dX4_readPrices_29 hi4 ?_
        replace h := h _ rfl
        generalize mset M1 24 (v1 : Int32).toNatClampNeg r3 = M5 at h ⊢
        refine tj_iinc (v := _ + 1) (l' := [(0, _), (1, _)]) rfl dX4_readPrices_30 rfl (by decide) rfl rfl ?_
        refine tj_goto (tgt := 2) rfl dX4_readPrices_33 ?_
        exact ih _ _ _ h
def wpX4_readPrices (post : MM → Int64 → Prop) (M : MM) (tl : Int64) : Prop :=
  (∃ n9, wX4_readPrices_2 post  n9 M tl 0)
set_option maxHeartbeats 4000000 in
set_option maxRecDepth 20000 in
theorem ctX4_readPrices {E : EV} {ad : Nat → Nat} {M : MM} {tl : Int64} {Φ : Option Value → va_W → Prop} {post : MM → Int64 → Prop} (h : wpX4_readPrices post M tl ) (hp : ∀ M tl, post M tl → Φ none (WM E ad M tl)) : Tm E kX4_readPrices (WM E ad M tl) [.ref (ad (22))] Φ := by
  unfold wpX4_readPrices at h
  show T E kX4_readPrices 0 0 (WM E ad M tl) 0 [(0, .ref (ad (22)))] [] Φ
  refine tj_iconst (v := 0) rfl dX4_readPrices_0 (by decide) ?_
  refine tj_istore_n (l' := [(0, _), (1, _)]) rfl dX4_readPrices_1 (by decide) rfl ?_
  obtain ⟨n9, h⟩ := h
  exact bX4_readPrices_2 hp  n9 _ _ _ h
def wpX4_takeBank (post : Int32 → MM → Int64 → Prop) (M : MM) (tl : Int64) : Prop :=
  wpX4_takeNumber (fun r3 M1 t2 => post r3 M1 t2) M tl 0 1
set_option maxHeartbeats 4000000 in
set_option maxRecDepth 20000 in
theorem ctX4_takeBank {E : EV} {ad : Nat → Nat} {M : MM} {tl : Int64} {Φ : Option Value → va_W → Prop} {post : Int32 → MM → Int64 → Prop} (h : wpX4_takeBank post M tl ) (hp : ∀ r M tl, post r M tl → Φ (some (.int r)) (WM E ad M tl)) : Tm E kX4_takeBank (WM E ad M tl) [.ref (ad (22))] Φ := by
  unfold wpX4_takeBank at h
  show T E kX4_takeBank 0 0 (WM E ad M tl) 0 [(0, .ref (ad (22)))] [] Φ
  refine tj_aload_n rfl dX4_takeBank_0 rfl ?_
  refine tj_iconst (v := 0) rfl dX4_takeBank_1 (by decide) ?_
  refine tj_iconst (v := 1) rfl dX4_takeBank_2 (by decide) ?_
  refine cf_V4 (a := 22) (z := kX4_takeNumber) (As := [_, _]) rfl rfl dX4_takeBank_3 rfl ml_X4_103 okX4_takeNumber rfl (rm_ok rfl) (Nat.le_of_ble_eq_true rfl) (Nat.le_of_ble_eq_true rfl) rfl rfl ?_
  refine ctX4_takeNumber h (fun r3 M1 t2 h => ?_)
  exact tj_ireturn (ty := .int) dX4_takeBank_6 rfl rfl (Nat.zero_le _) (Nat.zero_le _) (hp _ _ _ h)
def wX4_readOfKinds_15 (post : MM → Int64 → Prop) : Nat → MM → Int64 → Nat → Int32 → Int32 → Prop
  | 0, _, _, _, _, _ => False
  | n + 1, M, tl, v1, v3, v4 =>
    (if 6 ≤ v4 then post M tl else (if (M 22 2) = 0 then (kd (v1) = 16 ∧ (vp_in v3 2 ∧ wpX4_takeNumber (fun r5 M3 t4 => (kd (v1 + 1 + (v3 : Int32).toNatClampNeg) = 12 ∧ (vp_in v4 (al (v1 + 1 + (v3 : Int32).toNatClampNeg)) ∧ (∀ M8 : MM, M8 = mset M3 (v1 + 1 + (v3 : Int32).toNatClampNeg) (v4 : Int32).toNatClampNeg r5 → (wX4_readOfKinds_15 post n) M8 t4 v1 v3 (v4 + 1))))) M tl 0 20)) else post M tl))
set_option maxHeartbeats 4000000 in
set_option maxRecDepth 20000 in
theorem bX4_readOfKinds_15 {E : EV} {ad : Nat → Nat} {Φ : Option Value → va_W → Prop} {post : MM → Int64 → Prop}  (hp : ∀ M tl, post M tl → Φ none (WM E ad M tl)) : ∀ (n : Nat) (M : MM) (tl : Int64) (v1 : Nat) (v3 : Int32) (v4 : Int32), wX4_readOfKinds_15 post n M tl v1 v3 v4 → T E kX4_readOfKinds 0 0 (WM E ad M tl) 15 [(0, .ref (ad (22))), (1, .ref (ad (v1))), (3, .int v3), (4, .int v4)] [] Φ := by
  intro n
  induction n with
  | zero => intro M tl v1 v3 v4 h; exact False.elim h
  | succ n ih =>
    intro M tl v1 v3 v4 h
    unfold wX4_readOfKinds_15 at h
    refine tj_iload rfl dX4_readOfKinds_15 rfl ?_
    refine tj_bipush (v := 6) rfl dX4_readOfKinds_17 (by decide) ?_
    refine tj_icmp_ge (tgt := 48) rfl rfl dX4_readOfKinds_19 (fun hc => ?_) (fun hc => ?_)
    · rw [if_pos hc] at h
      exact tj_return dX4_readOfKinds_48 rfl (Nat.zero_le _) (Nat.zero_le _) (hp _ _ h)
    · rw [if_neg hc] at h
      refine tj_aload_n rfl dX4_readOfKinds_22 rfl ?_
      refine gf4_fault (a := 22) rfl rfl dX4_readOfKinds_23 fl_X4_35 ?_
      refine tj_if_ne (tgt := 48) rfl rfl dX4_readOfKinds_26 (fun hc => ?_) (fun hc => ?_)
      · rw [if_neg hc] at h
        exact tj_return dX4_readOfKinds_48 rfl (Nat.zero_le _) (Nat.zero_le _) (hp _ _ h)
      · rw [if_pos hc] at h
        refine tj_aload_n rfl dX4_readOfKinds_29 rfl ?_
        refine tj_iload_n rfl dX4_readOfKinds_30 rfl ?_
        obtain ⟨hk2, h⟩ := h
        obtain ⟨hi1, h⟩ := h
        refine af_two (a := v1) hk2 rfl dX4_readOfKinds_31 hi1 ?_
        refine tj_iload rfl dX4_readOfKinds_32 rfl ?_
        refine tj_aload_n rfl dX4_readOfKinds_34 rfl ?_
        refine tj_iconst (v := 0) rfl dX4_readOfKinds_35 (by decide) ?_
        refine tj_bipush (v := 20) rfl dX4_readOfKinds_36 (by decide) ?_
        refine cf_V4 (a := 22) (z := kX4_takeNumber) (As := [_, _]) rfl rfl dX4_readOfKinds_38 rfl ml_X4_103 okX4_takeNumber rfl (rm_ok rfl) (Nat.le_of_ble_eq_true rfl) (Nat.le_of_ble_eq_true rfl) rfl rfl ?_
        refine ctX4_takeNumber h (fun r5 M3 t4 h => ?_)
        obtain ⟨hk6, h⟩ := h
        obtain ⟨hi7, h⟩ := h
        refine af_iast (a := v1 + 1 + (v3 : Int32).toNatClampNeg) hk6 rfl dX4_readOfKinds_41 hi7 ?_
        replace h := h _ rfl
        generalize mset M3 (v1 + 1 + (v3 : Int32).toNatClampNeg) (v4 : Int32).toNatClampNeg r5 = M8 at h ⊢
        refine tj_iinc (v := _ + 1) (l' := [(0, _), (1, _), (3, _), (4, _)]) rfl dX4_readOfKinds_42 rfl (by decide) rfl rfl ?_
        refine tj_goto (tgt := 15) rfl dX4_readOfKinds_45 ?_
        exact ih _ _ _ _ _ h
def wpX4_readOfKinds (post : MM → Int64 → Prop) (M : MM) (tl : Int64) (v1 : Nat) (v2 : Int32) : Prop :=
  wpX4_takeBank (fun r3 M1 t2 => wpX4_tellOnce (fun M4 t5 => (∃ n9, wX4_readOfKinds_15 post  n9 M4 t5 v1 r3 1)) M1 t2 (v2 + r3)) M tl 
set_option maxHeartbeats 4000000 in
set_option maxRecDepth 20000 in
theorem ctX4_readOfKinds {E : EV} {ad : Nat → Nat} {M : MM} {tl : Int64} {Φ : Option Value → va_W → Prop} {post : MM → Int64 → Prop} {v1 : Nat} {v2 : Int32} (h : wpX4_readOfKinds post M tl v1 v2) (hp : ∀ M tl, post M tl → Φ none (WM E ad M tl)) : Tm E kX4_readOfKinds (WM E ad M tl) [.ref (ad (22)), .ref (ad (v1)), .int v2] Φ := by
  unfold wpX4_readOfKinds at h
  show T E kX4_readOfKinds 0 0 (WM E ad M tl) 0 [(0, .ref (ad (22))), (1, .ref (ad (v1))), (2, .int v2)] [] Φ
  refine tj_aload_n rfl dX4_readOfKinds_0 rfl ?_
  refine cf_V4 (a := 22) (z := kX4_takeBank) (As := []) rfl rfl dX4_readOfKinds_1 rfl ml_X4_168 okX4_takeBank rfl (rm_ok rfl) (Nat.le_of_ble_eq_true rfl) (Nat.le_of_ble_eq_true rfl) rfl rfl ?_
  refine ctX4_takeBank h (fun r3 M1 t2 h => ?_)
  refine tj_istore_n (l' := [(0, _), (1, _), (2, _), (3, _)]) rfl dX4_readOfKinds_4 (by decide) rfl ?_
  refine tj_aload_n rfl dX4_readOfKinds_5 rfl ?_
  refine tj_iload_n rfl dX4_readOfKinds_6 rfl ?_
  refine tj_iload_n rfl dX4_readOfKinds_7 rfl ?_
  refine tj_iadd rfl dX4_readOfKinds_8 ?_
  refine cf_V4 (a := 22) (z := kX4_tellOnce) (As := [_]) rfl rfl dX4_readOfKinds_9 rfl ml_X4_119 okX4_tellOnce rfl (rm_ok rfl) (Nat.le_of_ble_eq_true rfl) (Nat.le_of_ble_eq_true rfl) rfl rfl ?_
  refine ctX4_tellOnce h (fun M4 t5 h => ?_)
  refine tj_iconst (v := 1) rfl dX4_readOfKinds_12 (by decide) ?_
  refine tj_istore (l' := [(0, _), (1, _), (2, _), (3, _), (4, _)]) rfl dX4_readOfKinds_13 (by decide) rfl ?_
  obtain ⟨n9, h⟩ := h
  exact tj_pick (l' := [(0, _), (1, _), (3, _), (4, _)]) [0, 1, 3, 4] rfl (bX4_readOfKinds_15 hp  n9 _ _ _ _ _ h)
def wpX4_takeNameOf (post : Int32 → MM → Int64 → Prop) (M : MM) (tl : Int64) (v1 : Nat) : Prop :=
  wpX4_takeToken (fun M1 t2 => (if (M1 22 2) = 0 then wpX4_nameAmong (fun r5 M3 t4 => (if 0 ≤ r5 then post r5 M3 t4 else wpX4_fail (fun r8 M6 t7 => post r8 M6 t7) M3 t4 2 (M3 22 7))) M1 t2 v1 else post (-1) M1 t2)) M tl 
set_option maxHeartbeats 4000000 in
set_option maxRecDepth 20000 in
theorem ctX4_takeNameOf {E : EV} {ad : Nat → Nat} {M : MM} {tl : Int64} {Φ : Option Value → va_W → Prop} {post : Int32 → MM → Int64 → Prop} {v1 : Nat} (h : wpX4_takeNameOf post M tl v1) (hp : ∀ r M tl, post r M tl → Φ (some (.int r)) (WM E ad M tl)) : Tm E kX4_takeNameOf (WM E ad M tl) [.ref (ad (22)), .ref (E.2.2.1 (v1))] Φ := by
  unfold wpX4_takeNameOf at h
  show T E kX4_takeNameOf 0 0 (WM E ad M tl) 0 [(0, .ref (ad (22))), (1, .ref (E.2.2.1 (v1)))] [] Φ
  refine tj_aload_n rfl dX4_takeNameOf_0 rfl ?_
  refine cf_V4 (a := 22) (z := kX4_takeToken) (As := []) rfl rfl dX4_takeNameOf_1 rfl ml_X4_32 okX4_takeToken rfl (rm_ok rfl) (Nat.le_of_ble_eq_true rfl) (Nat.le_of_ble_eq_true rfl) rfl rfl ?_
  refine ctX4_takeToken h (fun M1 t2 h => ?_)
  refine tj_aload_n rfl dX4_takeNameOf_4 rfl ?_
  refine gf4_fault (a := 22) rfl rfl dX4_takeNameOf_5 fl_X4_35 ?_
  refine tj_if_eq (tgt := 13) rfl rfl dX4_takeNameOf_8 (fun hc => ?_) (fun hc => ?_)
  · rw [if_pos hc] at h
    refine tj_aload_n rfl dX4_takeNameOf_13 rfl ?_
    refine tj_aload_n rfl dX4_takeNameOf_14 rfl ?_
    refine cf_V4 (a := 22) (z := kX4_nameAmong) (As := [_]) rfl rfl dX4_takeNameOf_15 rfl ml_X4_106 okX4_nameAmong rfl (rm_ok rfl) (Nat.le_of_ble_eq_true rfl) (Nat.le_of_ble_eq_true rfl) rfl rfl ?_
    refine ctX4_nameAmong h (fun r5 M3 t4 h => ?_)
    refine tj_istore_n (l' := [(0, _), (1, _), (2, _)]) rfl dX4_takeNameOf_18 (by decide) rfl ?_
    refine tj_iload_n rfl dX4_takeNameOf_19 rfl ?_
    refine tj_if_ge (tgt := 35) rfl rfl dX4_takeNameOf_20 (fun hc => ?_) (fun hc => ?_)
    · rw [if_pos hc] at h
      refine tj_iload_n rfl dX4_takeNameOf_35 rfl ?_
      exact tj_ireturn (ty := .int) dX4_takeNameOf_36 rfl rfl (Nat.zero_le _) (Nat.zero_le _) (hp _ _ _ h)
    · rw [if_neg hc] at h
      refine tj_aload_n rfl dX4_takeNameOf_23 rfl ?_
      refine tj_iconst (v := 2) rfl dX4_takeNameOf_24 (by decide) ?_
      refine tj_aload_n rfl dX4_takeNameOf_25 rfl ?_
      refine gf4_start (a := 22) rfl rfl dX4_takeNameOf_26 fl_X4_84 ?_
      refine cf_V4 (a := 22) (z := kX4_fail) (As := [_, _]) rfl rfl dX4_takeNameOf_29 rfl ml_X4_60 okX4_fail rfl (rm_ok rfl) (Nat.le_of_ble_eq_true rfl) (Nat.le_of_ble_eq_true rfl) rfl rfl ?_
      refine ctX4_fail h (fun r8 M6 t7 h => ?_)
      refine tj_goto (tgt := 36) rfl dX4_takeNameOf_32 ?_
      exact tj_ireturn (ty := .int) dX4_takeNameOf_36 rfl rfl (Nat.zero_le _) (Nat.zero_le _) (hp _ _ _ h)
  · rw [if_neg hc] at h
    refine tj_iconst (v := -1) rfl dX4_takeNameOf_11 (by decide) ?_
    exact tj_ireturn (ty := .int) dX4_takeNameOf_12 rfl rfl (Nat.zero_le _) (Nat.zero_le _) (hp _ _ _ h)
def wpX4_readLack (post : MM → Int64 → Prop) (M : MM) (tl : Int64) : Prop :=
  wpX4_takeBank (fun r3 M1 t2 => wpX4_takeNameOf (fun r6 M4 t5 => (if (M4 22 2) = 0 then (vp_in r3 (al 31) ∧ (vp_in r3 (al 31) ∧ (∀ M9 : MM, M9 = mset M4 31 (r3 : Int32).toNatClampNeg ((M4 31 (r3 : Int32).toNatClampNeg) ||| ((1 : Int32) <<< ((r6 + 1) &&& 31))) → post M9 t5))) else post M4 t5)) M1 t2 1) M tl 
set_option maxHeartbeats 4000000 in
set_option maxRecDepth 20000 in
theorem ctX4_readLack {E : EV} {ad : Nat → Nat} {M : MM} {tl : Int64} {Φ : Option Value → va_W → Prop} {post : MM → Int64 → Prop} (h : wpX4_readLack post M tl ) (hp : ∀ M tl, post M tl → Φ none (WM E ad M tl)) : Tm E kX4_readLack (WM E ad M tl) [.ref (ad (22))] Φ := by
  unfold wpX4_readLack at h
  show T E kX4_readLack 0 0 (WM E ad M tl) 0 [(0, .ref (ad (22)))] [] Φ
  refine tj_aload_n rfl dX4_readLack_0 rfl ?_
  refine cf_V4 (a := 22) (z := kX4_takeBank) (As := []) rfl rfl dX4_readLack_1 rfl ml_X4_168 okX4_takeBank rfl (rm_ok rfl) (Nat.le_of_ble_eq_true rfl) (Nat.le_of_ble_eq_true rfl) rfl rfl ?_
  refine ctX4_takeBank h (fun r3 M1 t2 h => ?_)
  refine tj_istore_n (l' := [(0, _), (1, _)]) rfl dX4_readLack_4 (by decide) rfl ?_
  refine tj_aload_n rfl dX4_readLack_5 rfl ?_
  refine tj_ldcS (i := 1) rfl dX4_readLack_6 (by decide) rfl rfl ?_
  refine cf_V4 (a := 22) (z := kX4_takeNameOf) (As := [_]) rfl rfl dX4_readLack_8 rfl ml_X4_112 okX4_takeNameOf rfl (rm_ok rfl) (Nat.le_of_ble_eq_true rfl) (Nat.le_of_ble_eq_true rfl) rfl rfl ?_
  refine ctX4_takeNameOf h (fun r6 M4 t5 h => ?_)
  refine tj_iconst (v := 1) rfl dX4_readLack_11 (by decide) ?_
  refine tj_iadd rfl dX4_readLack_12 ?_
  refine tj_istore_n (l' := [(0, _), (1, _), (2, _)]) rfl dX4_readLack_13 (by decide) rfl ?_
  refine tj_aload_n rfl dX4_readLack_14 rfl ?_
  refine gf4_fault (a := 22) rfl rfl dX4_readLack_15 fl_X4_35 ?_
  refine tj_if_ne (tgt := 36) rfl rfl dX4_readLack_18 (fun hc => ?_) (fun hc => ?_)
  · rw [if_neg hc] at h
    exact tj_return dX4_readLack_36 rfl (Nat.zero_le _) (Nat.zero_le _) (hp _ _ h)
  · rw [if_pos hc] at h
    refine tj_aload_n rfl dX4_readLack_21 rfl ?_
    refine gf4_law (a := 22) rfl rfl dX4_readLack_22 fl_X4_12 ?_
    refine gf1_lackedKinds (a := 23) rfl rfl dX4_readLack_25 fl_X4_173 ?_
    refine tj_iload_n rfl dX4_readLack_28 rfl ?_
    refine tj_dup2 rfl dX4_readLack_29 rfl rfl ?_
    obtain ⟨hi7, h⟩ := h
    refine af_iald (a := 31) rfl rfl dX4_readLack_30 hi7 ?_
    refine tj_iconst (v := 1) rfl dX4_readLack_31 (by decide) ?_
    refine tj_iload_n rfl dX4_readLack_32 rfl ?_
    refine tj_ishl rfl dX4_readLack_33 ?_
    refine tj_ior rfl dX4_readLack_34 ?_
    obtain ⟨hi8, h⟩ := h
    refine af_iast (a := 31) rfl rfl dX4_readLack_35 hi8 ?_
    replace h := h _ rfl
    generalize mset M4 31 (r3 : Int32).toNatClampNeg ((M4 31 (r3 : Int32).toNatClampNeg) ||| ((1 : Int32) <<< ((r6 + 1) &&& 31))) = M9 at h ⊢
    exact tj_return dX4_readLack_36 rfl (Nat.zero_le _) (Nat.zero_le _) (hp _ _ h)
def wpX4_readTwins (post : MM → Int64 → Prop) (M : MM) (tl : Int64) : Prop :=
  wpX4_takeNameOf (fun r3 M1 t2 => wpX4_tellOnce (fun M4 t5 => wpX4_takeNameOf (fun r8 M6 t7 => wpX4_tellOnce (fun M9 t10 => (if (M9 22 2) = 0 then (vp_in (r3 + 1) (al 32) ∧ (∀ M12 : MM, M12 = mset M9 32 (r3 + 1 : Int32).toNatClampNeg (r8 + 1) → (vp_in (r8 + 1) (al 32) ∧ (∀ M14 : MM, M14 = mset M12 32 (r8 + 1 : Int32).toNatClampNeg (r3 + 1) → post M14 t10)))) else post M9 t10)) M6 t7 ((8 : Int32) + (r8 + 1))) M4 t5 1) M1 t2 ((8 : Int32) + (r3 + 1))) M tl 1
set_option maxHeartbeats 4000000 in
set_option maxRecDepth 20000 in
theorem ctX4_readTwins {E : EV} {ad : Nat → Nat} {M : MM} {tl : Int64} {Φ : Option Value → va_W → Prop} {post : MM → Int64 → Prop} (h : wpX4_readTwins post M tl ) (hp : ∀ M tl, post M tl → Φ none (WM E ad M tl)) : Tm E kX4_readTwins (WM E ad M tl) [.ref (ad (22))] Φ := by
  unfold wpX4_readTwins at h
  show T E kX4_readTwins 0 0 (WM E ad M tl) 0 [(0, .ref (ad (22)))] [] Φ
  refine tj_aload_n rfl dX4_readTwins_0 rfl ?_
  refine tj_ldcS (i := 1) rfl dX4_readTwins_1 (by decide) rfl rfl ?_
  refine cf_V4 (a := 22) (z := kX4_takeNameOf) (As := [_]) rfl rfl dX4_readTwins_3 rfl ml_X4_112 okX4_takeNameOf rfl (rm_ok rfl) (Nat.le_of_ble_eq_true rfl) (Nat.le_of_ble_eq_true rfl) rfl rfl ?_
  refine ctX4_takeNameOf h (fun r3 M1 t2 h => ?_)
  refine tj_iconst (v := 1) rfl dX4_readTwins_6 (by decide) ?_
  refine tj_iadd rfl dX4_readTwins_7 ?_
  refine tj_istore_n (l' := [(0, _), (1, _)]) rfl dX4_readTwins_8 (by decide) rfl ?_
  refine tj_aload_n rfl dX4_readTwins_9 rfl ?_
  refine tj_bipush (v := 8) rfl dX4_readTwins_10 (by decide) ?_
  refine tj_iload_n rfl dX4_readTwins_12 rfl ?_
  refine tj_iadd rfl dX4_readTwins_13 ?_
  refine cf_V4 (a := 22) (z := kX4_tellOnce) (As := [_]) rfl rfl dX4_readTwins_14 rfl ml_X4_119 okX4_tellOnce rfl (rm_ok rfl) (Nat.le_of_ble_eq_true rfl) (Nat.le_of_ble_eq_true rfl) rfl rfl ?_
  refine ctX4_tellOnce h (fun M4 t5 h => ?_)
  refine tj_aload_n rfl dX4_readTwins_17 rfl ?_
  refine tj_ldcS (i := 1) rfl dX4_readTwins_18 (by decide) rfl rfl ?_
  refine cf_V4 (a := 22) (z := kX4_takeNameOf) (As := [_]) rfl rfl dX4_readTwins_20 rfl ml_X4_112 okX4_takeNameOf rfl (rm_ok rfl) (Nat.le_of_ble_eq_true rfl) (Nat.le_of_ble_eq_true rfl) rfl rfl ?_
  refine ctX4_takeNameOf h (fun r8 M6 t7 h => ?_)
  refine tj_iconst (v := 1) rfl dX4_readTwins_23 (by decide) ?_
  refine tj_iadd rfl dX4_readTwins_24 ?_
  refine tj_istore_n (l' := [(0, _), (1, _), (2, _)]) rfl dX4_readTwins_25 (by decide) rfl ?_
  refine tj_aload_n rfl dX4_readTwins_26 rfl ?_
  refine tj_bipush (v := 8) rfl dX4_readTwins_27 (by decide) ?_
  refine tj_iload_n rfl dX4_readTwins_29 rfl ?_
  refine tj_iadd rfl dX4_readTwins_30 ?_
  refine cf_V4 (a := 22) (z := kX4_tellOnce) (As := [_]) rfl rfl dX4_readTwins_31 rfl ml_X4_119 okX4_tellOnce rfl (rm_ok rfl) (Nat.le_of_ble_eq_true rfl) (Nat.le_of_ble_eq_true rfl) rfl rfl ?_
  refine ctX4_tellOnce h (fun M9 t10 h => ?_)
  refine tj_aload_n rfl dX4_readTwins_34 rfl ?_
  refine gf4_fault (a := 22) rfl rfl dX4_readTwins_35 fl_X4_35 ?_
  refine tj_if_ne (tgt := 61) rfl rfl dX4_readTwins_38 (fun hc => ?_) (fun hc => ?_)
  · rw [if_neg hc] at h
    exact tj_return dX4_readTwins_61 rfl (Nat.zero_le _) (Nat.zero_le _) (hp _ _ h)
  · rw [if_pos hc] at h
    refine tj_aload_n rfl dX4_readTwins_41 rfl ?_
    refine gf4_law (a := 22) rfl rfl dX4_readTwins_42 fl_X4_12 ?_
    refine gf1_twin (a := 23) rfl rfl dX4_readTwins_45 fl_X4_176 ?_
    refine tj_iload_n rfl dX4_readTwins_48 rfl ?_
    refine tj_iload_n rfl dX4_readTwins_49 rfl ?_
    obtain ⟨hi11, h⟩ := h
    refine af_iast (a := 32) rfl rfl dX4_readTwins_50 hi11 ?_
    replace h := h _ rfl
    generalize mset M9 32 (r3 + 1 : Int32).toNatClampNeg (r8 + 1) = M12 at h ⊢
    refine tj_aload_n rfl dX4_readTwins_51 rfl ?_
    refine gf4_law (a := 22) rfl rfl dX4_readTwins_52 fl_X4_12 ?_
    refine gf1_twin (a := 23) rfl rfl dX4_readTwins_55 fl_X4_176 ?_
    refine tj_iload_n rfl dX4_readTwins_58 rfl ?_
    refine tj_iload_n rfl dX4_readTwins_59 rfl ?_
    obtain ⟨hi13, h⟩ := h
    refine af_iast (a := 32) rfl rfl dX4_readTwins_60 hi13 ?_
    replace h := h _ rfl
    generalize mset M12 32 (r8 + 1 : Int32).toNatClampNeg (r3 + 1) = M14 at h ⊢
    exact tj_return dX4_readTwins_61 rfl (Nat.zero_le _) (Nat.zero_le _) (hp _ _ h)
def wpX4_readPaint (post : MM → Int64 → Prop) (M : MM) (tl : Int64) : Prop :=
  wpX4_takeNumber (fun r3 M1 t2 => wpX4_tellOnce (fun M4 t5 => wpX4_takeNumber (fun r8 M6 t7 => wpX4_tellOnce (fun M9 t10 => (if (M9 22 2) = 0 then (vp_in r3 (al 33) ∧ (∀ M12 : MM, M12 = mset M9 33 (r3 : Int32).toNatClampNeg r8 → (vp_in r8 (al 33) ∧ (∀ M14 : MM, M14 = mset M12 33 (r8 : Int32).toNatClampNeg r3 → post M14 t10)))) else post M9 t10)) M6 t7 ((14 : Int32) + r8)) M4 t5 0 3) M1 t2 ((14 : Int32) + r3)) M tl 0 3
set_option maxHeartbeats 4000000 in
set_option maxRecDepth 20000 in
theorem ctX4_readPaint {E : EV} {ad : Nat → Nat} {M : MM} {tl : Int64} {Φ : Option Value → va_W → Prop} {post : MM → Int64 → Prop} (h : wpX4_readPaint post M tl ) (hp : ∀ M tl, post M tl → Φ none (WM E ad M tl)) : Tm E kX4_readPaint (WM E ad M tl) [.ref (ad (22))] Φ := by
  unfold wpX4_readPaint at h
  show T E kX4_readPaint 0 0 (WM E ad M tl) 0 [(0, .ref (ad (22)))] [] Φ
  refine tj_aload_n rfl dX4_readPaint_0 rfl ?_
  refine tj_iconst (v := 0) rfl dX4_readPaint_1 (by decide) ?_
  refine tj_iconst (v := 3) rfl dX4_readPaint_2 (by decide) ?_
  refine cf_V4 (a := 22) (z := kX4_takeNumber) (As := [_, _]) rfl rfl dX4_readPaint_3 rfl ml_X4_103 okX4_takeNumber rfl (rm_ok rfl) (Nat.le_of_ble_eq_true rfl) (Nat.le_of_ble_eq_true rfl) rfl rfl ?_
  refine ctX4_takeNumber h (fun r3 M1 t2 h => ?_)
  refine tj_istore_n (l' := [(0, _), (1, _)]) rfl dX4_readPaint_6 (by decide) rfl ?_
  refine tj_aload_n rfl dX4_readPaint_7 rfl ?_
  refine tj_bipush (v := 14) rfl dX4_readPaint_8 (by decide) ?_
  refine tj_iload_n rfl dX4_readPaint_10 rfl ?_
  refine tj_iadd rfl dX4_readPaint_11 ?_
  refine cf_V4 (a := 22) (z := kX4_tellOnce) (As := [_]) rfl rfl dX4_readPaint_12 rfl ml_X4_119 okX4_tellOnce rfl (rm_ok rfl) (Nat.le_of_ble_eq_true rfl) (Nat.le_of_ble_eq_true rfl) rfl rfl ?_
  refine ctX4_tellOnce h (fun M4 t5 h => ?_)
  refine tj_aload_n rfl dX4_readPaint_15 rfl ?_
  refine tj_iconst (v := 0) rfl dX4_readPaint_16 (by decide) ?_
  refine tj_iconst (v := 3) rfl dX4_readPaint_17 (by decide) ?_
  refine cf_V4 (a := 22) (z := kX4_takeNumber) (As := [_, _]) rfl rfl dX4_readPaint_18 rfl ml_X4_103 okX4_takeNumber rfl (rm_ok rfl) (Nat.le_of_ble_eq_true rfl) (Nat.le_of_ble_eq_true rfl) rfl rfl ?_
  refine ctX4_takeNumber h (fun r8 M6 t7 h => ?_)
  refine tj_istore_n (l' := [(0, _), (1, _), (2, _)]) rfl dX4_readPaint_21 (by decide) rfl ?_
  refine tj_aload_n rfl dX4_readPaint_22 rfl ?_
  refine tj_bipush (v := 14) rfl dX4_readPaint_23 (by decide) ?_
  refine tj_iload_n rfl dX4_readPaint_25 rfl ?_
  refine tj_iadd rfl dX4_readPaint_26 ?_
  refine cf_V4 (a := 22) (z := kX4_tellOnce) (As := [_]) rfl rfl dX4_readPaint_27 rfl ml_X4_119 okX4_tellOnce rfl (rm_ok rfl) (Nat.le_of_ble_eq_true rfl) (Nat.le_of_ble_eq_true rfl) rfl rfl ?_
  refine ctX4_tellOnce h (fun M9 t10 h => ?_)
  refine tj_aload_n rfl dX4_readPaint_30 rfl ?_
  refine gf4_fault (a := 22) rfl rfl dX4_readPaint_31 fl_X4_35 ?_
  refine tj_if_ne (tgt := 57) rfl rfl dX4_readPaint_34 (fun hc => ?_) (fun hc => ?_)
  · rw [if_neg hc] at h
    exact tj_return dX4_readPaint_57 rfl (Nat.zero_le _) (Nat.zero_le _) (hp _ _ h)
  · rw [if_pos hc] at h
    refine tj_aload_n rfl dX4_readPaint_37 rfl ?_
    refine gf4_law (a := 22) rfl rfl dX4_readPaint_38 fl_X4_12 ?_
    refine gf1_paint (a := 23) rfl rfl dX4_readPaint_41 fl_X4_179 ?_
    refine tj_iload_n rfl dX4_readPaint_44 rfl ?_
    refine tj_iload_n rfl dX4_readPaint_45 rfl ?_
    obtain ⟨hi11, h⟩ := h
    refine af_iast (a := 33) rfl rfl dX4_readPaint_46 hi11 ?_
    replace h := h _ rfl
    generalize mset M9 33 (r3 : Int32).toNatClampNeg r8 = M12 at h ⊢
    refine tj_aload_n rfl dX4_readPaint_47 rfl ?_
    refine gf4_law (a := 22) rfl rfl dX4_readPaint_48 fl_X4_12 ?_
    refine gf1_paint (a := 23) rfl rfl dX4_readPaint_51 fl_X4_179 ?_
    refine tj_iload_n rfl dX4_readPaint_54 rfl ?_
    refine tj_iload_n rfl dX4_readPaint_55 rfl ?_
    obtain ⟨hi13, h⟩ := h
    refine af_iast (a := 33) rfl rfl dX4_readPaint_56 hi13 ?_
    replace h := h _ rfl
    generalize mset M12 33 (r8 : Int32).toNatClampNeg r3 = M14 at h ⊢
    exact tj_return dX4_readPaint_57 rfl (Nat.zero_le _) (Nat.zero_le _) (hp _ _ h)
def wpX4_readRight (post : MM → Int64 → Prop) (M : MM) (tl : Int64) : Prop :=
  wpX4_takeNameOf (fun r3 M1 t2 => (if (M1 22 2) = 0 then (∀ M4 : MM, M4 = mset M1 23 3 ((M1 23 3) ||| ((1 : Int32) <<< ((r3 + 1) &&& 31))) → post M4 t2) else post M1 t2)) M tl 1
set_option maxHeartbeats 4000000 in
set_option maxRecDepth 20000 in
theorem ctX4_readRight {E : EV} {ad : Nat → Nat} {M : MM} {tl : Int64} {Φ : Option Value → va_W → Prop} {post : MM → Int64 → Prop} (h : wpX4_readRight post M tl ) (hp : ∀ M tl, post M tl → Φ none (WM E ad M tl)) : Tm E kX4_readRight (WM E ad M tl) [.ref (ad (22))] Φ := by
  unfold wpX4_readRight at h
  show T E kX4_readRight 0 0 (WM E ad M tl) 0 [(0, .ref (ad (22)))] [] Φ
  refine tj_aload_n rfl dX4_readRight_0 rfl ?_
  refine tj_ldcS (i := 1) rfl dX4_readRight_1 (by decide) rfl rfl ?_
  refine cf_V4 (a := 22) (z := kX4_takeNameOf) (As := [_]) rfl rfl dX4_readRight_3 rfl ml_X4_112 okX4_takeNameOf rfl (rm_ok rfl) (Nat.le_of_ble_eq_true rfl) (Nat.le_of_ble_eq_true rfl) rfl rfl ?_
  refine ctX4_takeNameOf h (fun r3 M1 t2 h => ?_)
  refine tj_iconst (v := 1) rfl dX4_readRight_6 (by decide) ?_
  refine tj_iadd rfl dX4_readRight_7 ?_
  refine tj_istore_n (l' := [(0, _), (1, _)]) rfl dX4_readRight_8 (by decide) rfl ?_
  refine tj_aload_n rfl dX4_readRight_9 rfl ?_
  refine gf4_fault (a := 22) rfl rfl dX4_readRight_10 fl_X4_35 ?_
  refine tj_if_ne (tgt := 31) rfl rfl dX4_readRight_13 (fun hc => ?_) (fun hc => ?_)
  · rw [if_neg hc] at h
    exact tj_return dX4_readRight_31 rfl (Nat.zero_le _) (Nat.zero_le _) (hp _ _ h)
  · rw [if_pos hc] at h
    refine tj_aload_n rfl dX4_readRight_16 rfl ?_
    refine gf4_law (a := 22) rfl rfl dX4_readRight_17 fl_X4_12 ?_
    refine tj_dup rfl dX4_readRight_20 rfl ?_
    refine gf1_rightKinds (a := 23) rfl rfl dX4_readRight_21 fl_X4_182 ?_
    refine tj_iconst (v := 1) rfl dX4_readRight_24 (by decide) ?_
    refine tj_iload_n rfl dX4_readRight_25 rfl ?_
    refine tj_ishl rfl dX4_readRight_26 ?_
    refine tj_ior rfl dX4_readRight_27 ?_
    refine pf1_rightKinds (a := 23) rfl rfl dX4_readRight_28 fl_X4_182 ?_
    replace h := h _ rfl
    generalize mset M1 23 3 ((M1 23 3) ||| ((1 : Int32) <<< ((r3 + 1) &&& 31))) = M4 at h ⊢
    exact tj_return dX4_readRight_31 rfl (Nat.zero_le _) (Nat.zero_le _) (hp _ _ h)
def wpX4_takeThing (post : Int32 → MM → Int64 → Prop) (M : MM) (tl : Int64) : Prop :=
  wpX4_takeNameOf (fun r3 M1 t2 => (if 0 < r3 then wpX4_takeNumber (fun r6 M4 t5 => wpX4_takeNameOf (fun r9 M7 t8 => (if (M7 22 2) = 0 then post ((r3 + ((8 : Int32) * r6)) + ((32 : Int32) * r9)) M7 t8 else post (-1) M7 t8)) M4 t5 3) M1 t2 0 3 else post r3 M1 t2)) M tl 2
set_option maxHeartbeats 4000000 in
set_option maxRecDepth 20000 in
theorem ctX4_takeThing {E : EV} {ad : Nat → Nat} {M : MM} {tl : Int64} {Φ : Option Value → va_W → Prop} {post : Int32 → MM → Int64 → Prop} (h : wpX4_takeThing post M tl ) (hp : ∀ r M tl, post r M tl → Φ (some (.int r)) (WM E ad M tl)) : Tm E kX4_takeThing (WM E ad M tl) [.ref (ad (22))] Φ := by
  unfold wpX4_takeThing at h
  show T E kX4_takeThing 0 0 (WM E ad M tl) 0 [(0, .ref (ad (22)))] [] Φ
  refine tj_aload_n rfl dX4_takeThing_0 rfl ?_
  refine tj_ldcS (i := 2) rfl dX4_takeThing_1 (by decide) rfl rfl ?_
  refine cf_V4 (a := 22) (z := kX4_takeNameOf) (As := [_]) rfl rfl dX4_takeThing_3 rfl ml_X4_112 okX4_takeNameOf rfl (rm_ok rfl) (Nat.le_of_ble_eq_true rfl) (Nat.le_of_ble_eq_true rfl) rfl rfl ?_
  refine ctX4_takeNameOf h (fun r3 M1 t2 h => ?_)
  refine tj_istore_n (l' := [(0, _), (1, _)]) rfl dX4_takeThing_6 (by decide) rfl ?_
  refine tj_iload_n rfl dX4_takeThing_7 rfl ?_
  refine tj_if_gt (tgt := 13) rfl rfl dX4_takeThing_8 (fun hc => ?_) (fun hc => ?_)
  · rw [if_pos hc] at h
    refine tj_aload_n rfl dX4_takeThing_13 rfl ?_
    refine tj_iconst (v := 0) rfl dX4_takeThing_14 (by decide) ?_
    refine tj_iconst (v := 3) rfl dX4_takeThing_15 (by decide) ?_
    refine cf_V4 (a := 22) (z := kX4_takeNumber) (As := [_, _]) rfl rfl dX4_takeThing_16 rfl ml_X4_103 okX4_takeNumber rfl (rm_ok rfl) (Nat.le_of_ble_eq_true rfl) (Nat.le_of_ble_eq_true rfl) rfl rfl ?_
    refine ctX4_takeNumber h (fun r6 M4 t5 h => ?_)
    refine tj_istore_n (l' := [(0, _), (1, _), (2, _)]) rfl dX4_takeThing_19 (by decide) rfl ?_
    refine tj_aload_n rfl dX4_takeThing_20 rfl ?_
    refine tj_ldcS (i := 3) rfl dX4_takeThing_21 (by decide) rfl rfl ?_
    refine cf_V4 (a := 22) (z := kX4_takeNameOf) (As := [_]) rfl rfl dX4_takeThing_23 rfl ml_X4_112 okX4_takeNameOf rfl (rm_ok rfl) (Nat.le_of_ble_eq_true rfl) (Nat.le_of_ble_eq_true rfl) rfl rfl ?_
    refine ctX4_takeNameOf h (fun r9 M7 t8 h => ?_)
    refine tj_istore_n (l' := [(0, _), (1, _), (2, _), (3, _)]) rfl dX4_takeThing_26 (by decide) rfl ?_
    refine tj_aload_n rfl dX4_takeThing_27 rfl ?_
    refine gf4_fault (a := 22) rfl rfl dX4_takeThing_28 fl_X4_35 ?_
    refine tj_if_ne (tgt := 48) rfl rfl dX4_takeThing_31 (fun hc => ?_) (fun hc => ?_)
    · rw [if_neg hc] at h
      refine tj_iconst (v := -1) rfl dX4_takeThing_48 (by decide) ?_
      exact tj_ireturn (ty := .int) dX4_takeThing_49 rfl rfl (Nat.zero_le _) (Nat.zero_le _) (hp _ _ _ h)
    · rw [if_pos hc] at h
      refine tj_iload_n rfl dX4_takeThing_34 rfl ?_
      refine tj_bipush (v := 8) rfl dX4_takeThing_35 (by decide) ?_
      refine tj_iload_n rfl dX4_takeThing_37 rfl ?_
      refine tj_imul rfl dX4_takeThing_38 ?_
      refine tj_iadd rfl dX4_takeThing_39 ?_
      refine tj_bipush (v := 32) rfl dX4_takeThing_40 (by decide) ?_
      refine tj_iload_n rfl dX4_takeThing_42 rfl ?_
      refine tj_imul rfl dX4_takeThing_43 ?_
      refine tj_iadd rfl dX4_takeThing_44 ?_
      refine tj_goto (tgt := 49) rfl dX4_takeThing_45 ?_
      exact tj_ireturn (ty := .int) dX4_takeThing_49 rfl rfl (Nat.zero_le _) (Nat.zero_le _) (hp _ _ _ h)
  · rw [if_neg hc] at h
    refine tj_iload_n rfl dX4_takeThing_11 rfl ?_
    exact tj_ireturn (ty := .int) dX4_takeThing_12 rfl rfl (Nat.zero_le _) (Nat.zero_le _) (hp _ _ _ h)
def wpX4_readThing (post : MM → Int64 → Prop) (M : MM) (tl : Int64) : Prop :=
  wpX4_takeBank (fun r3 M1 t2 => wpX4_takeNumber (fun r6 M4 t5 => wpX10_slot (fun r9 M7 t8 => wpX4_tellOnce (fun M10 t11 => wpX4_takeThing (fun r14 M12 t13 => (if (M12 22 2) = 0 then wpX7_setThing (fun M15 t16 => post M15 t16) M12 t13 34 r3 r6 r14 else post M12 t13)) M10 t11 ) M7 t8 ((18 : Int32) + r9)) M4 t5 r3 r6) M1 t2 0 7) M tl 
set_option maxHeartbeats 4000000 in
set_option maxRecDepth 20000 in
theorem ctX4_readThing {E : EV} {ad : Nat → Nat} {M : MM} {tl : Int64} {Φ : Option Value → va_W → Prop} {post : MM → Int64 → Prop} (h : wpX4_readThing post M tl ) (hp : ∀ M tl, post M tl → Φ none (WM E ad M tl)) : Tm E kX4_readThing (WM E ad M tl) [.ref (ad (22))] Φ := by
  unfold wpX4_readThing at h
  show T E kX4_readThing 0 0 (WM E ad M tl) 0 [(0, .ref (ad (22)))] [] Φ
  refine tj_aload_n rfl dX4_readThing_0 rfl ?_
  refine cf_V4 (a := 22) (z := kX4_takeBank) (As := []) rfl rfl dX4_readThing_1 rfl ml_X4_168 okX4_takeBank rfl (rm_ok rfl) (Nat.le_of_ble_eq_true rfl) (Nat.le_of_ble_eq_true rfl) rfl rfl ?_
  refine ctX4_takeBank h (fun r3 M1 t2 h => ?_)
  refine tj_istore_n (l' := [(0, _), (1, _)]) rfl dX4_readThing_4 (by decide) rfl ?_
  refine tj_aload_n rfl dX4_readThing_5 rfl ?_
  refine tj_iconst (v := 0) rfl dX4_readThing_6 (by decide) ?_
  refine tj_bipush (v := 7) rfl dX4_readThing_7 (by decide) ?_
  refine cf_V4 (a := 22) (z := kX4_takeNumber) (As := [_, _]) rfl rfl dX4_readThing_9 rfl ml_X4_103 okX4_takeNumber rfl (rm_ok rfl) (Nat.le_of_ble_eq_true rfl) (Nat.le_of_ble_eq_true rfl) rfl rfl ?_
  refine ctX4_takeNumber h (fun r6 M4 t5 h => ?_)
  refine tj_istore_n (l' := [(0, _), (1, _), (2, _)]) rfl dX4_readThing_12 (by decide) rfl ?_
  refine tj_aload_n rfl dX4_readThing_13 rfl ?_
  refine tj_bipush (v := 18) rfl dX4_readThing_14 (by decide) ?_
  refine tj_iload_n rfl dX4_readThing_16 rfl ?_
  refine tj_iload_n rfl dX4_readThing_17 rfl ?_
  refine cf_SN (z := kX10_slot) (As := [_, _]) rfl dX4_readThing_18 rfl nl_X4_185 okX10_slot rfl (rm_ok rfl) (Nat.le_of_ble_eq_true rfl) (Nat.le_of_ble_eq_true rfl) rfl ?_
  refine ctX10_slot h (fun r9 M7 t8 h => ?_)
  refine tj_iadd rfl dX4_readThing_21 ?_
  refine cf_V4 (a := 22) (z := kX4_tellOnce) (As := [_]) rfl rfl dX4_readThing_22 rfl ml_X4_119 okX4_tellOnce rfl (rm_ok rfl) (Nat.le_of_ble_eq_true rfl) (Nat.le_of_ble_eq_true rfl) rfl rfl ?_
  refine ctX4_tellOnce h (fun M10 t11 h => ?_)
  refine tj_aload_n rfl dX4_readThing_25 rfl ?_
  refine cf_V4 (a := 22) (z := kX4_takeThing) (As := []) rfl rfl dX4_readThing_26 rfl ml_X4_188 okX4_takeThing rfl (rm_ok rfl) (Nat.le_of_ble_eq_true rfl) (Nat.le_of_ble_eq_true rfl) rfl rfl ?_
  refine ctX4_takeThing h (fun r14 M12 t13 h => ?_)
  refine tj_istore_n (l' := [(0, _), (1, _), (2, _), (3, _)]) rfl dX4_readThing_29 (by decide) rfl ?_
  refine tj_aload_n rfl dX4_readThing_30 rfl ?_
  refine gf4_fault (a := 22) rfl rfl dX4_readThing_31 fl_X4_35 ?_
  refine tj_if_ne (tgt := 47) rfl rfl dX4_readThing_34 (fun hc => ?_) (fun hc => ?_)
  · rw [if_neg hc] at h
    exact tj_return dX4_readThing_47 rfl (Nat.zero_le _) (Nat.zero_le _) (hp _ _ h)
  · rw [if_pos hc] at h
    refine tj_aload_n rfl dX4_readThing_37 rfl ?_
    refine gf4_scene (a := 22) rfl rfl dX4_readThing_38 fl_X4_21 ?_
    refine tj_iload_n rfl dX4_readThing_41 rfl ?_
    refine tj_iload_n rfl dX4_readThing_42 rfl ?_
    refine tj_iload_n rfl dX4_readThing_43 rfl ?_
    refine cf_V7 (a := 34) (z := kX7_setThing) (As := [_, _, _]) rfl rfl dX4_readThing_44 rfl ml_X4_191 okX7_setThing rfl (rm_ok rfl) (Nat.le_of_ble_eq_true rfl) (Nat.le_of_ble_eq_true rfl) rfl rfl ?_
    refine ctX7_setThing h (fun M15 t16 h => ?_)
    exact tj_return dX4_readThing_47 rfl (Nat.zero_le _) (Nat.zero_le _) (hp _ _ h)
def wX4_readWork_23 (post : MM → Int64 → Prop) (M : MM) (tl : Int64) : Prop :=
  wpX7_lastMonth (fun r3 M1 t2 => wpX4_takeNumber (fun r6 M4 t5 => wpX4_takeBank (fun r9 M7 t8 => wpX4_takeNumber (fun r12 M10 t11 => wpX4_takeThing (fun r15 M13 t14 => (if (M13 22 2) = 0 then wpX5_addRow (fun M16 t17 => post M16 t17) M13 t14 36 r6 r9 r12 r15 else post M13 t14)) M10 t11 ) M7 t8 0 7) M4 t5 ) M1 t2 r3 23) M tl 34
set_option maxHeartbeats 4000000 in
set_option maxRecDepth 20000 in
theorem bX4_readWork_23 {E : EV} {ad : Nat → Nat} {M : MM} {tl : Int64} {Φ : Option Value → va_W → Prop} {post : MM → Int64 → Prop} (hp : ∀ M tl, post M tl → Φ none (WM E ad M tl)) (h : wX4_readWork_23 post M tl ) : T E kX4_readWork 0 0 (WM E ad M tl) 23 [(0, .ref (ad (22)))] [] Φ := by
  unfold wX4_readWork_23 at h
  refine tj_aload_n rfl dX4_readWork_23 rfl ?_
  refine tj_aload_n rfl dX4_readWork_24 rfl ?_
  refine gf4_scene (a := 22) rfl rfl dX4_readWork_25 fl_X4_21 ?_
  refine cf_V7 (a := 34) (z := kX7_lastMonth) (As := []) rfl rfl dX4_readWork_28 rfl ml_X4_204 okX7_lastMonth rfl (rm_ok rfl) (Nat.le_of_ble_eq_true rfl) (Nat.le_of_ble_eq_true rfl) rfl rfl ?_
  refine ctX7_lastMonth h (fun r3 M1 t2 h => ?_)
  refine tj_bipush (v := 23) rfl dX4_readWork_31 (by decide) ?_
  refine cf_V4 (a := 22) (z := kX4_takeNumber) (As := [_, _]) rfl rfl dX4_readWork_33 rfl ml_X4_103 okX4_takeNumber rfl (rm_ok rfl) (Nat.le_of_ble_eq_true rfl) (Nat.le_of_ble_eq_true rfl) rfl rfl ?_
  refine ctX4_takeNumber h (fun r6 M4 t5 h => ?_)
  refine tj_istore_n (l' := [(0, _), (1, _)]) rfl dX4_readWork_36 (by decide) rfl ?_
  refine tj_aload_n rfl dX4_readWork_37 rfl ?_
  refine cf_V4 (a := 22) (z := kX4_takeBank) (As := []) rfl rfl dX4_readWork_38 rfl ml_X4_168 okX4_takeBank rfl (rm_ok rfl) (Nat.le_of_ble_eq_true rfl) (Nat.le_of_ble_eq_true rfl) rfl rfl ?_
  refine ctX4_takeBank h (fun r9 M7 t8 h => ?_)
  refine tj_istore_n (l' := [(0, _), (1, _), (2, _)]) rfl dX4_readWork_41 (by decide) rfl ?_
  refine tj_aload_n rfl dX4_readWork_42 rfl ?_
  refine tj_iconst (v := 0) rfl dX4_readWork_43 (by decide) ?_
  refine tj_bipush (v := 7) rfl dX4_readWork_44 (by decide) ?_
  refine cf_V4 (a := 22) (z := kX4_takeNumber) (As := [_, _]) rfl rfl dX4_readWork_46 rfl ml_X4_103 okX4_takeNumber rfl (rm_ok rfl) (Nat.le_of_ble_eq_true rfl) (Nat.le_of_ble_eq_true rfl) rfl rfl ?_
  refine ctX4_takeNumber h (fun r12 M10 t11 h => ?_)
  refine tj_istore_n (l' := [(0, _), (1, _), (2, _), (3, _)]) rfl dX4_readWork_49 (by decide) rfl ?_
  refine tj_aload_n rfl dX4_readWork_50 rfl ?_
  refine cf_V4 (a := 22) (z := kX4_takeThing) (As := []) rfl rfl dX4_readWork_51 rfl ml_X4_188 okX4_takeThing rfl (rm_ok rfl) (Nat.le_of_ble_eq_true rfl) (Nat.le_of_ble_eq_true rfl) rfl rfl ?_
  refine ctX4_takeThing h (fun r15 M13 t14 h => ?_)
  refine tj_istore (l' := [(0, _), (1, _), (2, _), (3, _), (4, _)]) rfl dX4_readWork_54 (by decide) rfl ?_
  refine tj_aload_n rfl dX4_readWork_56 rfl ?_
  refine gf4_fault (a := 22) rfl rfl dX4_readWork_57 fl_X4_35 ?_
  refine tj_if_ne (tgt := 78) rfl rfl dX4_readWork_60 (fun hc => ?_) (fun hc => ?_)
  · rw [if_neg hc] at h
    exact tj_return dX4_readWork_78 rfl (Nat.zero_le _) (Nat.zero_le _) (hp _ _ h)
  · rw [if_pos hc] at h
    refine tj_aload_n rfl dX4_readWork_63 rfl ?_
    refine gf4_scene (a := 22) rfl rfl dX4_readWork_64 fl_X4_21 ?_
    refine gf7_works (a := 34) rfl rfl dX4_readWork_67 fl_X4_195 ?_
    refine tj_iload_n rfl dX4_readWork_70 rfl ?_
    refine tj_iload_n rfl dX4_readWork_71 rfl ?_
    refine tj_iload_n rfl dX4_readWork_72 rfl ?_
    refine tj_iload rfl dX4_readWork_73 rfl ?_
    refine cf_V5 (a := 36) (z := kX5_addRow) (As := [_, _, _, _]) rfl rfl dX4_readWork_75 rfl ml_X4_207 okX5_addRow rfl (rm_ok rfl) (Nat.le_of_ble_eq_true rfl) (Nat.le_of_ble_eq_true rfl) rfl rfl ?_
    refine ctX5_addRow h (fun M16 t17 h => ?_)
    exact tj_return dX4_readWork_78 rfl (Nat.zero_le _) (Nat.zero_le _) (hp _ _ h)
def wpX4_readWork (post : MM → Int64 → Prop) (M : MM) (tl : Int64) : Prop :=
  wpX5_isFull (fun r3 M1 t2 => (if r3 = 0 then wX4_readWork_23 post  M1 t2 else wpX4_fail (fun r6 M4 t5 => wX4_readWork_23 post  M4 t5) M1 t2 5 (M1 22 7))) M tl 36
set_option maxHeartbeats 4000000 in
set_option maxRecDepth 20000 in
theorem ctX4_readWork {E : EV} {ad : Nat → Nat} {M : MM} {tl : Int64} {Φ : Option Value → va_W → Prop} {post : MM → Int64 → Prop} (h : wpX4_readWork post M tl ) (hp : ∀ M tl, post M tl → Φ none (WM E ad M tl)) : Tm E kX4_readWork (WM E ad M tl) [.ref (ad (22))] Φ := by
  unfold wpX4_readWork at h
  show T E kX4_readWork 0 0 (WM E ad M tl) 0 [(0, .ref (ad (22)))] [] Φ
  refine tj_aload_n rfl dX4_readWork_0 rfl ?_
  refine gf4_scene (a := 22) rfl rfl dX4_readWork_1 fl_X4_21 ?_
  refine gf7_works (a := 34) rfl rfl dX4_readWork_4 fl_X4_195 ?_
  refine cf_V5 (a := 36) (z := kX5_isFull) (As := []) rfl rfl dX4_readWork_7 rfl ml_X4_199 okX5_isFull rfl (rm_ok rfl) (Nat.le_of_ble_eq_true rfl) (Nat.le_of_ble_eq_true rfl) rfl rfl ?_
  refine ctX5_isFull h (fun r3 M1 t2 h => ?_)
  refine tj_if_eq (tgt := 23) rfl rfl dX4_readWork_10 (fun hc => ?_) (fun hc => ?_)
  · rw [if_pos hc] at h
    exact bX4_readWork_23 hp  h
  · rw [if_neg hc] at h
    refine tj_aload_n rfl dX4_readWork_13 rfl ?_
    refine tj_iconst (v := 5) rfl dX4_readWork_14 (by decide) ?_
    refine tj_aload_n rfl dX4_readWork_15 rfl ?_
    refine gf4_start (a := 22) rfl rfl dX4_readWork_16 fl_X4_84 ?_
    refine cf_V4 (a := 22) (z := kX4_fail) (As := [_, _]) rfl rfl dX4_readWork_19 rfl ml_X4_60 okX4_fail rfl (rm_ok rfl) (Nat.le_of_ble_eq_true rfl) (Nat.le_of_ble_eq_true rfl) rfl rfl ?_
    refine ctX4_fail h (fun r6 M4 t5 h => ?_)
    refine tj_pop rfl dX4_readWork_22 rfl ?_
    exact bX4_readWork_23 hp  h
def wX4_readLine_21 (post : MM → Int64 → Prop) (M : MM) (tl : Int64) (v1 : Int32) : Prop :=
  (if v1 = 0 then wpX4_tellOnce (fun M2 t3 => wpX4_takeNumber (fun r6 M4 t5 => (∀ M7 : MM, M7 = mset M4 23 0 r6 → post M7 t5)) M2 t3 1 8) M tl 0 else (if v1 = 1 then wpX4_tellOnce (fun M9 t10 => wpX4_takeNumber (fun r13 M11 t12 => (∀ M14 : MM, M14 = mset M11 23 1 r13 → post M14 t12)) M9 t10 0 6) M tl 1 else (if v1 = 2 then wpX4_tellOnce (fun M16 t17 => wpX4_takeNumber (fun r20 M18 t19 => (∀ M21 : MM, M21 = mset M18 23 2 r20 → post M21 t19)) M16 t17 0 20) M tl 2 else (if v1 = 3 then wpX4_tellOnce (fun M23 t24 => wpX4_readPrices (fun M25 t26 => post M25 t26) M23 t24 ) M tl 3 else (if v1 = 4 then wpX4_readOfKinds (fun M28 t29 => post M28 t29) M tl 25 4 else (if v1 = 5 then wpX4_readOfKinds (fun M31 t32 => post M31 t32) M tl 28 6 else (if v1 = 6 then wpX4_readLack (fun M34 t35 => post M34 t35) M tl  else (if v1 = 7 then wpX4_readTwins (fun M37 t38 => post M37 t38) M tl  else (if v1 = 8 then wpX4_readPaint (fun M40 t41 => post M40 t41) M tl  else (if v1 = 9 then wpX4_readRight (fun M43 t44 => post M43 t44) M tl  else (if v1 = 10 then wpX4_readThing (fun M46 t47 => post M46 t47) M tl  else (if v1 = 11 then wpX4_readWork (fun M49 t50 => post M49 t50) M tl  else post M tl))))))))))))
set_option maxHeartbeats 4000000 in
set_option maxRecDepth 20000 in
theorem bX4_readLine_21 {E : EV} {ad : Nat → Nat} {M : MM} {tl : Int64} {Φ : Option Value → va_W → Prop} {post : MM → Int64 → Prop} {v1 : Int32} (hp : ∀ M tl, post M tl → Φ none (WM E ad M tl)) (h : wX4_readLine_21 post M tl v1) : T E kX4_readLine 0 0 (WM E ad M tl) 21 [(0, .ref (ad (22))), (1, .int v1)] [] Φ := by
  unfold wX4_readLine_21 at h
  refine tj_iload_n rfl dX4_readLine_21 rfl ?_
  by_cases hc1 : v1 = 0
  · rw [if_pos hc1] at h
    refine tj_tableIn (tgt := 84) dX4_readLine_22 (by rw [hc1]; decide) (by rw [hc1]; decide) (by rw [hc1]; rfl) rfl ?_
    refine tj_aload_n rfl dX4_readLine_84 rfl ?_
    refine tj_iconst (v := 0) rfl dX4_readLine_85 (by decide) ?_
    refine cf_V4 (a := 22) (z := kX4_tellOnce) (As := [_]) rfl rfl dX4_readLine_86 rfl ml_X4_119 okX4_tellOnce rfl (rm_ok rfl) (Nat.le_of_ble_eq_true rfl) (Nat.le_of_ble_eq_true rfl) rfl rfl ?_
    refine ctX4_tellOnce h (fun M2 t3 h => ?_)
    refine tj_aload_n rfl dX4_readLine_89 rfl ?_
    refine gf4_law (a := 22) rfl rfl dX4_readLine_90 fl_X4_12 ?_
    refine tj_aload_n rfl dX4_readLine_93 rfl ?_
    refine tj_iconst (v := 1) rfl dX4_readLine_94 (by decide) ?_
    refine tj_bipush (v := 8) rfl dX4_readLine_95 (by decide) ?_
    refine cf_V4 (a := 22) (z := kX4_takeNumber) (As := [_, _]) rfl rfl dX4_readLine_97 rfl ml_X4_103 okX4_takeNumber rfl (rm_ok rfl) (Nat.le_of_ble_eq_true rfl) (Nat.le_of_ble_eq_true rfl) rfl rfl ?_
    refine ctX4_takeNumber h (fun r6 M4 t5 h => ?_)
    refine pf1_lots (a := 23) rfl rfl dX4_readLine_100 fl_X4_123 ?_
    replace h := h _ rfl
    generalize mset M4 23 0 r6 = M7 at h ⊢
    refine tj_goto (tgt := 235) rfl dX4_readLine_103 ?_
    exact tj_return dX4_readLine_235 rfl (Nat.zero_le _) (Nat.zero_le _) (hp _ _ h)
  · rw [if_neg hc1] at h
    by_cases hc8 : v1 = 1
    · rw [if_pos hc8] at h
      refine tj_tableIn (tgt := 106) dX4_readLine_22 (by rw [hc8]; decide) (by rw [hc8]; decide) (by rw [hc8]; rfl) rfl ?_
      refine tj_aload_n rfl dX4_readLine_106 rfl ?_
      refine tj_iconst (v := 1) rfl dX4_readLine_107 (by decide) ?_
      refine cf_V4 (a := 22) (z := kX4_tellOnce) (As := [_]) rfl rfl dX4_readLine_108 rfl ml_X4_119 okX4_tellOnce rfl (rm_ok rfl) (Nat.le_of_ble_eq_true rfl) (Nat.le_of_ble_eq_true rfl) rfl rfl ?_
      refine ctX4_tellOnce h (fun M9 t10 h => ?_)
      refine tj_aload_n rfl dX4_readLine_111 rfl ?_
      refine gf4_law (a := 22) rfl rfl dX4_readLine_112 fl_X4_12 ?_
      refine tj_aload_n rfl dX4_readLine_115 rfl ?_
      refine tj_iconst (v := 0) rfl dX4_readLine_116 (by decide) ?_
      refine tj_bipush (v := 6) rfl dX4_readLine_117 (by decide) ?_
      refine cf_V4 (a := 22) (z := kX4_takeNumber) (As := [_, _]) rfl rfl dX4_readLine_119 rfl ml_X4_103 okX4_takeNumber rfl (rm_ok rfl) (Nat.le_of_ble_eq_true rfl) (Nat.le_of_ble_eq_true rfl) rfl rfl ?_
      refine ctX4_takeNumber h (fun r13 M11 t12 h => ?_)
      refine pf1_bend (a := 23) rfl rfl dX4_readLine_122 fl_X4_126 ?_
      replace h := h _ rfl
      generalize mset M11 23 1 r13 = M14 at h ⊢
      refine tj_goto (tgt := 235) rfl dX4_readLine_125 ?_
      exact tj_return dX4_readLine_235 rfl (Nat.zero_le _) (Nat.zero_le _) (hp _ _ h)
    · rw [if_neg hc8] at h
      by_cases hc15 : v1 = 2
      · rw [if_pos hc15] at h
        refine tj_tableIn (tgt := 128) dX4_readLine_22 (by rw [hc15]; decide) (by rw [hc15]; decide) (by rw [hc15]; rfl) rfl ?_
        refine tj_aload_n rfl dX4_readLine_128 rfl ?_
        refine tj_iconst (v := 2) rfl dX4_readLine_129 (by decide) ?_
        refine cf_V4 (a := 22) (z := kX4_tellOnce) (As := [_]) rfl rfl dX4_readLine_130 rfl ml_X4_119 okX4_tellOnce rfl (rm_ok rfl) (Nat.le_of_ble_eq_true rfl) (Nat.le_of_ble_eq_true rfl) rfl rfl ?_
        refine ctX4_tellOnce h (fun M16 t17 h => ?_)
        refine tj_aload_n rfl dX4_readLine_133 rfl ?_
        refine gf4_law (a := 22) rfl rfl dX4_readLine_134 fl_X4_12 ?_
        refine tj_aload_n rfl dX4_readLine_137 rfl ?_
        refine tj_iconst (v := 0) rfl dX4_readLine_138 (by decide) ?_
        refine tj_bipush (v := 20) rfl dX4_readLine_139 (by decide) ?_
        refine cf_V4 (a := 22) (z := kX4_takeNumber) (As := [_, _]) rfl rfl dX4_readLine_141 rfl ml_X4_103 okX4_takeNumber rfl (rm_ok rfl) (Nat.le_of_ble_eq_true rfl) (Nat.le_of_ble_eq_true rfl) rfl rfl ?_
        refine ctX4_takeNumber h (fun r20 M18 t19 h => ?_)
        refine pf1_pull (a := 23) rfl rfl dX4_readLine_144 fl_X4_129 ?_
        replace h := h _ rfl
        generalize mset M18 23 2 r20 = M21 at h ⊢
        refine tj_goto (tgt := 235) rfl dX4_readLine_147 ?_
        exact tj_return dX4_readLine_235 rfl (Nat.zero_le _) (Nat.zero_le _) (hp _ _ h)
      · rw [if_neg hc15] at h
        by_cases hc22 : v1 = 3
        · rw [if_pos hc22] at h
          refine tj_tableIn (tgt := 150) dX4_readLine_22 (by rw [hc22]; decide) (by rw [hc22]; decide) (by rw [hc22]; rfl) rfl ?_
          refine tj_aload_n rfl dX4_readLine_150 rfl ?_
          refine tj_iconst (v := 3) rfl dX4_readLine_151 (by decide) ?_
          refine cf_V4 (a := 22) (z := kX4_tellOnce) (As := [_]) rfl rfl dX4_readLine_152 rfl ml_X4_119 okX4_tellOnce rfl (rm_ok rfl) (Nat.le_of_ble_eq_true rfl) (Nat.le_of_ble_eq_true rfl) rfl rfl ?_
          refine ctX4_tellOnce h (fun M23 t24 h => ?_)
          refine tj_aload_n rfl dX4_readLine_155 rfl ?_
          refine cf_V4 (a := 22) (z := kX4_readPrices) (As := []) rfl rfl dX4_readLine_156 rfl ml_X4_132 okX4_readPrices rfl (rm_ok rfl) (Nat.le_of_ble_eq_true rfl) (Nat.le_of_ble_eq_true rfl) rfl rfl ?_
          refine ctX4_readPrices h (fun M25 t26 h => ?_)
          refine tj_goto (tgt := 235) rfl dX4_readLine_159 ?_
          exact tj_return dX4_readLine_235 rfl (Nat.zero_le _) (Nat.zero_le _) (hp _ _ h)
        · rw [if_neg hc22] at h
          by_cases hc27 : v1 = 4
          · rw [if_pos hc27] at h
            refine tj_tableIn (tgt := 162) dX4_readLine_22 (by rw [hc27]; decide) (by rw [hc27]; decide) (by rw [hc27]; rfl) rfl ?_
            refine tj_aload_n rfl dX4_readLine_162 rfl ?_
            refine tj_aload_n rfl dX4_readLine_163 rfl ?_
            refine gf4_law (a := 22) rfl rfl dX4_readLine_164 fl_X4_12 ?_
            refine gf1_cost (a := 23) rfl rfl dX4_readLine_167 fl_X4_135 ?_
            refine tj_iconst (v := 4) rfl dX4_readLine_170 (by decide) ?_
            refine cf_V4 (a := 22) (z := kX4_readOfKinds) (As := [_, _]) rfl rfl dX4_readLine_171 rfl ml_X4_139 okX4_readOfKinds rfl (rm_ok rfl) (Nat.le_of_ble_eq_true rfl) (Nat.le_of_ble_eq_true rfl) rfl rfl ?_
            refine ctX4_readOfKinds h (fun M28 t29 h => ?_)
            refine tj_goto (tgt := 235) rfl dX4_readLine_174 ?_
            exact tj_return dX4_readLine_235 rfl (Nat.zero_le _) (Nat.zero_le _) (hp _ _ h)
          · rw [if_neg hc27] at h
            by_cases hc30 : v1 = 5
            · rw [if_pos hc30] at h
              refine tj_tableIn (tgt := 177) dX4_readLine_22 (by rw [hc30]; decide) (by rw [hc30]; decide) (by rw [hc30]; rfl) rfl ?_
              refine tj_aload_n rfl dX4_readLine_177 rfl ?_
              refine tj_aload_n rfl dX4_readLine_178 rfl ?_
              refine gf4_law (a := 22) rfl rfl dX4_readLine_179 fl_X4_12 ?_
              refine gf1_taste (a := 23) rfl rfl dX4_readLine_182 fl_X4_143 ?_
              refine tj_bipush (v := 6) rfl dX4_readLine_185 (by decide) ?_
              refine cf_V4 (a := 22) (z := kX4_readOfKinds) (As := [_, _]) rfl rfl dX4_readLine_187 rfl ml_X4_139 okX4_readOfKinds rfl (rm_ok rfl) (Nat.le_of_ble_eq_true rfl) (Nat.le_of_ble_eq_true rfl) rfl rfl ?_
              refine ctX4_readOfKinds h (fun M31 t32 h => ?_)
              refine tj_goto (tgt := 235) rfl dX4_readLine_190 ?_
              exact tj_return dX4_readLine_235 rfl (Nat.zero_le _) (Nat.zero_le _) (hp _ _ h)
            · rw [if_neg hc30] at h
              by_cases hc33 : v1 = 6
              · rw [if_pos hc33] at h
                refine tj_tableIn (tgt := 193) dX4_readLine_22 (by rw [hc33]; decide) (by rw [hc33]; decide) (by rw [hc33]; rfl) rfl ?_
                refine tj_aload_n rfl dX4_readLine_193 rfl ?_
                refine cf_V4 (a := 22) (z := kX4_readLack) (As := []) rfl rfl dX4_readLine_194 rfl ml_X4_146 okX4_readLack rfl (rm_ok rfl) (Nat.le_of_ble_eq_true rfl) (Nat.le_of_ble_eq_true rfl) rfl rfl ?_
                refine ctX4_readLack h (fun M34 t35 h => ?_)
                refine tj_goto (tgt := 235) rfl dX4_readLine_197 ?_
                exact tj_return dX4_readLine_235 rfl (Nat.zero_le _) (Nat.zero_le _) (hp _ _ h)
              · rw [if_neg hc33] at h
                by_cases hc36 : v1 = 7
                · rw [if_pos hc36] at h
                  refine tj_tableIn (tgt := 200) dX4_readLine_22 (by rw [hc36]; decide) (by rw [hc36]; decide) (by rw [hc36]; rfl) rfl ?_
                  refine tj_aload_n rfl dX4_readLine_200 rfl ?_
                  refine cf_V4 (a := 22) (z := kX4_readTwins) (As := []) rfl rfl dX4_readLine_201 rfl ml_X4_149 okX4_readTwins rfl (rm_ok rfl) (Nat.le_of_ble_eq_true rfl) (Nat.le_of_ble_eq_true rfl) rfl rfl ?_
                  refine ctX4_readTwins h (fun M37 t38 h => ?_)
                  refine tj_goto (tgt := 235) rfl dX4_readLine_204 ?_
                  exact tj_return dX4_readLine_235 rfl (Nat.zero_le _) (Nat.zero_le _) (hp _ _ h)
                · rw [if_neg hc36] at h
                  by_cases hc39 : v1 = 8
                  · rw [if_pos hc39] at h
                    refine tj_tableIn (tgt := 207) dX4_readLine_22 (by rw [hc39]; decide) (by rw [hc39]; decide) (by rw [hc39]; rfl) rfl ?_
                    refine tj_aload_n rfl dX4_readLine_207 rfl ?_
                    refine cf_V4 (a := 22) (z := kX4_readPaint) (As := []) rfl rfl dX4_readLine_208 rfl ml_X4_152 okX4_readPaint rfl (rm_ok rfl) (Nat.le_of_ble_eq_true rfl) (Nat.le_of_ble_eq_true rfl) rfl rfl ?_
                    refine ctX4_readPaint h (fun M40 t41 h => ?_)
                    refine tj_goto (tgt := 235) rfl dX4_readLine_211 ?_
                    exact tj_return dX4_readLine_235 rfl (Nat.zero_le _) (Nat.zero_le _) (hp _ _ h)
                  · rw [if_neg hc39] at h
                    by_cases hc42 : v1 = 9
                    · rw [if_pos hc42] at h
                      refine tj_tableIn (tgt := 214) dX4_readLine_22 (by rw [hc42]; decide) (by rw [hc42]; decide) (by rw [hc42]; rfl) rfl ?_
                      refine tj_aload_n rfl dX4_readLine_214 rfl ?_
                      refine cf_V4 (a := 22) (z := kX4_readRight) (As := []) rfl rfl dX4_readLine_215 rfl ml_X4_155 okX4_readRight rfl (rm_ok rfl) (Nat.le_of_ble_eq_true rfl) (Nat.le_of_ble_eq_true rfl) rfl rfl ?_
                      refine ctX4_readRight h (fun M43 t44 h => ?_)
                      refine tj_goto (tgt := 235) rfl dX4_readLine_218 ?_
                      exact tj_return dX4_readLine_235 rfl (Nat.zero_le _) (Nat.zero_le _) (hp _ _ h)
                    · rw [if_neg hc42] at h
                      by_cases hc45 : v1 = 10
                      · rw [if_pos hc45] at h
                        refine tj_tableIn (tgt := 221) dX4_readLine_22 (by rw [hc45]; decide) (by rw [hc45]; decide) (by rw [hc45]; rfl) rfl ?_
                        refine tj_aload_n rfl dX4_readLine_221 rfl ?_
                        refine cf_V4 (a := 22) (z := kX4_readThing) (As := []) rfl rfl dX4_readLine_222 rfl ml_X4_158 okX4_readThing rfl (rm_ok rfl) (Nat.le_of_ble_eq_true rfl) (Nat.le_of_ble_eq_true rfl) rfl rfl ?_
                        refine ctX4_readThing h (fun M46 t47 h => ?_)
                        refine tj_goto (tgt := 235) rfl dX4_readLine_225 ?_
                        exact tj_return dX4_readLine_235 rfl (Nat.zero_le _) (Nat.zero_le _) (hp _ _ h)
                      · rw [if_neg hc45] at h
                        by_cases hc48 : v1 = 11
                        · rw [if_pos hc48] at h
                          refine tj_tableIn (tgt := 228) dX4_readLine_22 (by rw [hc48]; decide) (by rw [hc48]; decide) (by rw [hc48]; rfl) rfl ?_
                          refine tj_aload_n rfl dX4_readLine_228 rfl ?_
                          refine cf_V4 (a := 22) (z := kX4_readWork) (As := []) rfl rfl dX4_readLine_229 rfl ml_X4_161 okX4_readWork rfl (rm_ok rfl) (Nat.le_of_ble_eq_true rfl) (Nat.le_of_ble_eq_true rfl) rfl rfl ?_
                          refine ctX4_readWork h (fun M49 t50 h => ?_)
                          refine tj_goto (tgt := 235) rfl dX4_readLine_232 ?_
                          exact tj_return dX4_readLine_235 rfl (Nat.zero_le _) (Nat.zero_le _) (hp _ _ h)
                        · rw [if_neg hc48] at h
                          have hz0 := lv_neT (a := 0) hc1 rfl
                          have hz1 := lv_neT (a := 1) hc8 rfl
                          have hz2 := lv_neT (a := 2) hc15 rfl
                          have hz3 := lv_neT (a := 3) hc22 rfl
                          have hz4 := lv_neT (a := 4) hc27 rfl
                          have hz5 := lv_neT (a := 5) hc30 rfl
                          have hz6 := lv_neT (a := 6) hc33 rfl
                          have hz7 := lv_neT (a := 7) hc36 rfl
                          have hz8 := lv_neT (a := 8) hc39 rfl
                          have hz9 := lv_neT (a := 9) hc42 rfl
                          have hz10 := lv_neT (a := 10) hc45 rfl
                          have hz11 := lv_neT (a := 11) hc48 rfl
                          refine tj_tableOut (tgt := 235) dX4_readLine_22 (by omega) rfl ?_
                          exact tj_return dX4_readLine_235 rfl (Nat.zero_le _) (Nat.zero_le _) (hp _ _ h)
def wpX4_readLine (post : MM → Int64 → Prop) (M : MM) (tl : Int64) : Prop :=
  wpX4_nameAmong (fun r3 M1 t2 => (if 0 ≤ r3 then wX4_readLine_21 post  M1 t2 r3 else wpX4_fail (fun r6 M4 t5 => wX4_readLine_21 post  M4 t5 r3) M1 t2 2 (M1 22 7))) M tl 0
set_option maxHeartbeats 4000000 in
set_option maxRecDepth 20000 in
theorem ctX4_readLine {E : EV} {ad : Nat → Nat} {M : MM} {tl : Int64} {Φ : Option Value → va_W → Prop} {post : MM → Int64 → Prop} (h : wpX4_readLine post M tl ) (hp : ∀ M tl, post M tl → Φ none (WM E ad M tl)) : Tm E kX4_readLine (WM E ad M tl) [.ref (ad (22))] Φ := by
  unfold wpX4_readLine at h
  show T E kX4_readLine 0 0 (WM E ad M tl) 0 [(0, .ref (ad (22)))] [] Φ
  refine tj_aload_n rfl dX4_readLine_0 rfl ?_
  refine tj_ldcS (i := 0) rfl dX4_readLine_1 (by decide) rfl rfl ?_
  refine cf_V4 (a := 22) (z := kX4_nameAmong) (As := [_]) rfl rfl dX4_readLine_3 rfl ml_X4_106 okX4_nameAmong rfl (rm_ok rfl) (Nat.le_of_ble_eq_true rfl) (Nat.le_of_ble_eq_true rfl) rfl rfl ?_
  refine ctX4_nameAmong h (fun r3 M1 t2 h => ?_)
  refine tj_istore_n (l' := [(0, _), (1, _)]) rfl dX4_readLine_6 (by decide) rfl ?_
  refine tj_iload_n rfl dX4_readLine_7 rfl ?_
  refine tj_if_ge (tgt := 21) rfl rfl dX4_readLine_8 (fun hc => ?_) (fun hc => ?_)
  · rw [if_pos hc] at h
    exact bX4_readLine_21 hp  h
  · rw [if_neg hc] at h
    refine tj_aload_n rfl dX4_readLine_11 rfl ?_
    refine tj_iconst (v := 2) rfl dX4_readLine_12 (by decide) ?_
    refine tj_aload_n rfl dX4_readLine_13 rfl ?_
    refine gf4_start (a := 22) rfl rfl dX4_readLine_14 fl_X4_84 ?_
    refine cf_V4 (a := 22) (z := kX4_fail) (As := [_, _]) rfl rfl dX4_readLine_17 rfl ml_X4_60 okX4_fail rfl (rm_ok rfl) (Nat.le_of_ble_eq_true rfl) (Nat.le_of_ble_eq_true rfl) rfl rfl ?_
    refine ctX4_fail h (fun r6 M4 t5 h => ?_)
    refine tj_pop rfl dX4_readLine_20 rfl ?_
    exact bX4_readLine_21 hp  h
def wpX4_takeStop (post : MM → Int64 → Prop) (M : MM) (tl : Int64) : Prop :=
  wpX4_takeToken (fun M1 t2 => (if (M1 22 2) = 0 then (if (M1 22 8) = 3 then post M1 t2 else wpX4_fail (fun r5 M3 t4 => post M3 t4) M1 t2 2 (M1 22 7)) else post M1 t2)) M tl 
set_option maxHeartbeats 4000000 in
set_option maxRecDepth 20000 in
theorem ctX4_takeStop {E : EV} {ad : Nat → Nat} {M : MM} {tl : Int64} {Φ : Option Value → va_W → Prop} {post : MM → Int64 → Prop} (h : wpX4_takeStop post M tl ) (hp : ∀ M tl, post M tl → Φ none (WM E ad M tl)) : Tm E kX4_takeStop (WM E ad M tl) [.ref (ad (22))] Φ := by
  unfold wpX4_takeStop at h
  show T E kX4_takeStop 0 0 (WM E ad M tl) 0 [(0, .ref (ad (22)))] [] Φ
  refine tj_aload_n rfl dX4_takeStop_0 rfl ?_
  refine cf_V4 (a := 22) (z := kX4_takeToken) (As := []) rfl rfl dX4_takeStop_1 rfl ml_X4_32 okX4_takeToken rfl (rm_ok rfl) (Nat.le_of_ble_eq_true rfl) (Nat.le_of_ble_eq_true rfl) rfl rfl ?_
  refine ctX4_takeToken h (fun M1 t2 h => ?_)
  refine tj_aload_n rfl dX4_takeStop_4 rfl ?_
  refine gf4_fault (a := 22) rfl rfl dX4_takeStop_5 fl_X4_35 ?_
  refine tj_if_ne (tgt := 29) rfl rfl dX4_takeStop_8 (fun hc => ?_) (fun hc => ?_)
  · rw [if_neg hc] at h
    exact tj_return dX4_takeStop_29 rfl (Nat.zero_le _) (Nat.zero_le _) (hp _ _ h)
  · rw [if_pos hc] at h
    refine tj_aload_n rfl dX4_takeStop_11 rfl ?_
    refine gf4_type (a := 22) rfl rfl dX4_takeStop_12 fl_X4_39 ?_
    refine tj_iconst (v := 3) rfl dX4_takeStop_15 (by decide) ?_
    refine tj_icmp_eq (tgt := 29) rfl rfl dX4_takeStop_16 (fun hc => ?_) (fun hc => ?_)
    · rw [if_pos hc] at h
      exact tj_return dX4_takeStop_29 rfl (Nat.zero_le _) (Nat.zero_le _) (hp _ _ h)
    · rw [if_neg hc] at h
      refine tj_aload_n rfl dX4_takeStop_19 rfl ?_
      refine tj_iconst (v := 2) rfl dX4_takeStop_20 (by decide) ?_
      refine tj_aload_n rfl dX4_takeStop_21 rfl ?_
      refine gf4_start (a := 22) rfl rfl dX4_takeStop_22 fl_X4_84 ?_
      refine cf_V4 (a := 22) (z := kX4_fail) (As := [_, _]) rfl rfl dX4_takeStop_25 rfl ml_X4_60 okX4_fail rfl (rm_ok rfl) (Nat.le_of_ble_eq_true rfl) (Nat.le_of_ble_eq_true rfl) rfl rfl ?_
      refine ctX4_fail h (fun r5 M3 t4 h => ?_)
      refine tj_pop rfl dX4_takeStop_28 rfl ?_
      exact tj_return dX4_takeStop_29 rfl (Nat.zero_le _) (Nat.zero_le _) (hp _ _ h)
def wX4_allLotsAre_15 (post : Int32 → MM → Int64 → Prop) (bk2 : MM → Int64 → Int32 → Prop) : Nat → MM → Int64 → Int32 → Int32 → Prop
  | 0, _, _, _, _ => False
  | n + 1, M, tl, v1, v2 =>
    (if 8 ≤ v2 then bk2 M tl (v1 + 1) else wpX10_slot (fun r3 M1 t2 => (if (lg_cmp ((tl >>> (((18 : Int32) + r3 : Int32).toInt64 &&& 63)) &&& 1) 0) = 0 then (wX4_allLotsAre_15 post bk2 n) M1 t2 v1 (v2 + 1) else post 0 M1 t2)) M tl v1 v2)
set_option maxHeartbeats 4000000 in
set_option maxRecDepth 20000 in
theorem bX4_allLotsAre_15 {E : EV} {ad : Nat → Nat} {Φ : Option Value → va_W → Prop} {post : Int32 → MM → Int64 → Prop} {bk2 : MM → Int64 → Int32 → Prop}  (hp : ∀ r M tl, post r M tl → Φ (some (.int r)) (WM E ad M tl)) (hb2 : ∀ (M : MM) (tl : Int64) (v1 : Int32), bk2 M tl v1 → T E kX4_allLotsAre 0 0 (WM E ad M tl) 2 [(0, .ref (ad (22))), (1, .int v1)] [] Φ) : ∀ (n : Nat) (M : MM) (tl : Int64) (v1 : Int32) (v2 : Int32), wX4_allLotsAre_15 post bk2 n M tl v1 v2 → T E kX4_allLotsAre 0 0 (WM E ad M tl) 15 [(0, .ref (ad (22))), (1, .int v1), (2, .int v2)] [] Φ := by
  intro n
  induction n with
  | zero => intro M tl v1 v2 h; exact False.elim h
  | succ n ih =>
    intro M tl v1 v2 h
    unfold wX4_allLotsAre_15 at h
    refine tj_iload_n rfl dX4_allLotsAre_15 rfl ?_
    refine tj_bipush (v := 8) rfl dX4_allLotsAre_16 (by decide) ?_
    refine tj_icmp_ge (tgt := 49) rfl rfl dX4_allLotsAre_18 (fun hc => ?_) (fun hc => ?_)
    · rw [if_pos hc] at h
      refine tj_iinc (v := _ + 1) (l' := [(0, _), (1, _), (2, _)]) rfl dX4_allLotsAre_49 rfl (by decide) rfl rfl ?_
      refine tj_goto (tgt := 2) rfl dX4_allLotsAre_52 ?_
      exact tj_pick (l' := [(0, _), (1, _)]) [0, 1] rfl (hb2 _ _ _ h)
    · rw [if_neg hc] at h
      refine tj_aload_n rfl dX4_allLotsAre_21 rfl ?_
      refine gf4_told (a := 22) rfl rfl dX4_allLotsAre_22 fl_X4_76 ?_
      refine tj_bipush (v := 18) rfl dX4_allLotsAre_25 (by decide) ?_
      refine tj_iload_n rfl dX4_allLotsAre_27 rfl ?_
      refine tj_iload_n rfl dX4_allLotsAre_28 rfl ?_
      refine cf_SN (z := kX10_slot) (As := [_, _]) rfl dX4_allLotsAre_29 rfl nl_X4_185 okX10_slot rfl (rm_ok rfl) (Nat.le_of_ble_eq_true rfl) (Nat.le_of_ble_eq_true rfl) rfl ?_
      refine ctX10_slot h (fun r3 M1 t2 h => ?_)
      refine tj_iadd rfl dX4_allLotsAre_32 ?_
      refine tj_lshr rfl dX4_allLotsAre_33 ?_
      refine tj_lconst (v := 1) rfl dX4_allLotsAre_34 (by decide) ?_
      refine tj_land rfl dX4_allLotsAre_35 ?_
      refine tj_lconst (v := 0) rfl dX4_allLotsAre_36 (by decide) ?_
      refine tj_lcmp rfl dX4_allLotsAre_37 ?_
      refine tj_if_eq (tgt := 43) rfl rfl dX4_allLotsAre_38 (fun hc => ?_) (fun hc => ?_)
      · rw [if_pos hc] at h
        refine tj_iinc (v := _ + 1) (l' := [(0, _), (1, _), (2, _)]) rfl dX4_allLotsAre_43 rfl (by decide) rfl rfl ?_
        refine tj_goto (tgt := 15) rfl dX4_allLotsAre_46 ?_
        exact ih _ _ _ _ h
      · rw [if_neg hc] at h
        refine tj_iconst (v := 0) rfl dX4_allLotsAre_41 (by decide) ?_
        exact tj_ireturn (ty := .boolean) dX4_allLotsAre_42 rfl rfl (Nat.zero_le _) (Nat.zero_le _) (hp _ _ _ h)
def wX4_allLotsAre_57 (post : Int32 → MM → Int64 → Prop) : Nat → MM → Int64 → Int32 → Prop
  | 0, _, _, _ => False
  | n + 1, M, tl, v1 =>
    (if (M 36 3) ≤ v1 then post 1 M tl else wpX5_cell (fun r3 M1 t2 => (if r3 < (M1 23 0) then (wX4_allLotsAre_57 post n) M1 t2 (v1 + 1) else post 0 M1 t2)) M tl 36 v1 2)
set_option maxHeartbeats 4000000 in
set_option maxRecDepth 20000 in
theorem bX4_allLotsAre_57 {E : EV} {ad : Nat → Nat} {Φ : Option Value → va_W → Prop} {post : Int32 → MM → Int64 → Prop}  (hp : ∀ r M tl, post r M tl → Φ (some (.int r)) (WM E ad M tl)) : ∀ (n : Nat) (M : MM) (tl : Int64) (v1 : Int32), wX4_allLotsAre_57 post n M tl v1 → T E kX4_allLotsAre 0 0 (WM E ad M tl) 57 [(0, .ref (ad (22))), (1, .int v1)] [] Φ := by
  intro n
  induction n with
  | zero => intro M tl v1 h; exact False.elim h
  | succ n ih =>
    intro M tl v1 h
    unfold wX4_allLotsAre_57 at h
    refine tj_iload_n rfl dX4_allLotsAre_57 rfl ?_
    refine tj_aload_n rfl dX4_allLotsAre_58 rfl ?_
    refine gf4_scene (a := 22) rfl rfl dX4_allLotsAre_59 fl_X4_21 ?_
    refine gf7_works (a := 34) rfl rfl dX4_allLotsAre_62 fl_X4_195 ?_
    refine gf5_size (a := 36) rfl rfl dX4_allLotsAre_65 fl_X4_211 ?_
    refine tj_icmp_ge (tgt := 101) rfl rfl dX4_allLotsAre_68 (fun hc => ?_) (fun hc => ?_)
    · rw [if_pos hc] at h
      refine tj_iconst (v := 1) rfl dX4_allLotsAre_101 (by decide) ?_
      exact tj_ireturn (ty := .boolean) dX4_allLotsAre_102 rfl rfl (Nat.zero_le _) (Nat.zero_le _) (hp _ _ _ h)
    · rw [if_neg hc] at h
      refine tj_aload_n rfl dX4_allLotsAre_71 rfl ?_
      refine gf4_scene (a := 22) rfl rfl dX4_allLotsAre_72 fl_X4_21 ?_
      refine gf7_works (a := 34) rfl rfl dX4_allLotsAre_75 fl_X4_195 ?_
      refine tj_iload_n rfl dX4_allLotsAre_78 rfl ?_
      refine tj_iconst (v := 2) rfl dX4_allLotsAre_79 (by decide) ?_
      refine cf_V5 (a := 36) (z := kX5_cell) (As := [_, _]) rfl rfl dX4_allLotsAre_80 rfl ml_X4_212 okX5_cell rfl (rm_ok rfl) (Nat.le_of_ble_eq_true rfl) (Nat.le_of_ble_eq_true rfl) rfl rfl ?_
      refine ctX5_cell h (fun r3 M1 t2 h => ?_)
      refine tj_aload_n rfl dX4_allLotsAre_83 rfl ?_
      refine gf4_law (a := 22) rfl rfl dX4_allLotsAre_84 fl_X4_12 ?_
      refine gf1_lots (a := 23) rfl rfl dX4_allLotsAre_87 fl_X4_123 ?_
      refine tj_icmp_lt (tgt := 95) rfl rfl dX4_allLotsAre_90 (fun hc => ?_) (fun hc => ?_)
      · rw [if_pos hc] at h
        refine tj_iinc (v := _ + 1) (l' := [(0, _), (1, _)]) rfl dX4_allLotsAre_95 rfl (by decide) rfl rfl ?_
        refine tj_goto (tgt := 57) rfl dX4_allLotsAre_98 ?_
        exact ih _ _ _ h
      · rw [if_neg hc] at h
        refine tj_iconst (v := 0) rfl dX4_allLotsAre_93 (by decide) ?_
        exact tj_ireturn (ty := .boolean) dX4_allLotsAre_94 rfl rfl (Nat.zero_le _) (Nat.zero_le _) (hp _ _ _ h)
def wX4_allLotsAre_2 (post : Int32 → MM → Int64 → Prop) : Nat → MM → Int64 → Int32 → Prop
  | 0, _, _, _ => False
  | n + 1, M, tl, v1 =>
    (if 2 ≤ v1 then (∃ n9, wX4_allLotsAre_57 post  n9 M tl 0) else (∃ n9, wX4_allLotsAre_15 post (wX4_allLotsAre_2 post n) n9 M tl v1 (M 23 0)))
set_option maxHeartbeats 4000000 in
set_option maxRecDepth 20000 in
theorem bX4_allLotsAre_2 {E : EV} {ad : Nat → Nat} {Φ : Option Value → va_W → Prop} {post : Int32 → MM → Int64 → Prop}  (hp : ∀ r M tl, post r M tl → Φ (some (.int r)) (WM E ad M tl)) : ∀ (n : Nat) (M : MM) (tl : Int64) (v1 : Int32), wX4_allLotsAre_2 post n M tl v1 → T E kX4_allLotsAre 0 0 (WM E ad M tl) 2 [(0, .ref (ad (22))), (1, .int v1)] [] Φ := by
  intro n
  induction n with
  | zero => intro M tl v1 h; exact False.elim h
  | succ n ih =>
    intro M tl v1 h
    unfold wX4_allLotsAre_2 at h
    refine tj_iload_n rfl dX4_allLotsAre_2 rfl ?_
    refine tj_iconst (v := 2) rfl dX4_allLotsAre_3 (by decide) ?_
    refine tj_icmp_ge (tgt := 55) rfl rfl dX4_allLotsAre_4 (fun hc => ?_) (fun hc => ?_)
    · rw [if_pos hc] at h
      refine tj_iconst (v := 0) rfl dX4_allLotsAre_55 (by decide) ?_
      refine tj_istore_n (l' := [(0, _), (1, _)]) rfl dX4_allLotsAre_56 (by decide) rfl ?_
      obtain ⟨n9, h⟩ := h
      exact bX4_allLotsAre_57 hp  n9 _ _ _ h
    · rw [if_neg hc] at h
      refine tj_aload_n rfl dX4_allLotsAre_7 rfl ?_
      refine gf4_law (a := 22) rfl rfl dX4_allLotsAre_8 fl_X4_12 ?_
      refine gf1_lots (a := 23) rfl rfl dX4_allLotsAre_11 fl_X4_123 ?_
      refine tj_istore_n (l' := [(0, _), (1, _), (2, _)]) rfl dX4_allLotsAre_14 (by decide) rfl ?_
      obtain ⟨n9, h⟩ := h
      exact bX4_allLotsAre_15 hp ih n9 _ _ _ _ h
def wpX4_allLotsAre (post : Int32 → MM → Int64 → Prop) (M : MM) (tl : Int64) : Prop :=
  (∃ n9, wX4_allLotsAre_2 post  n9 M tl 0)
set_option maxHeartbeats 4000000 in
set_option maxRecDepth 20000 in
theorem ctX4_allLotsAre {E : EV} {ad : Nat → Nat} {M : MM} {tl : Int64} {Φ : Option Value → va_W → Prop} {post : Int32 → MM → Int64 → Prop} (h : wpX4_allLotsAre post M tl ) (hp : ∀ r M tl, post r M tl → Φ (some (.int r)) (WM E ad M tl)) : Tm E kX4_allLotsAre (WM E ad M tl) [.ref (ad (22))] Φ := by
  unfold wpX4_allLotsAre at h
  show T E kX4_allLotsAre 0 0 (WM E ad M tl) 0 [(0, .ref (ad (22)))] [] Φ
  refine tj_iconst (v := 0) rfl dX4_allLotsAre_0 (by decide) ?_
  refine tj_istore_n (l' := [(0, _), (1, _)]) rfl dX4_allLotsAre_1 (by decide) rfl ?_
  obtain ⟨n9, h⟩ := h
  exact bX4_allLotsAre_2 hp  n9 _ _ _ h
def wX4_readAll_59 (post : MM → Int64 → Prop) (M : MM) (tl : Int64) : Prop :=
  (if (M 22 2) = 0 then wpX4_allLotsAre (fun r3 M1 t2 => (if r3 = 0 then wpX4_fail (fun r6 M4 t5 => post M4 t5) M1 t2 6 (M1 1 1) else post M1 t2)) M tl  else post M tl)
set_option maxHeartbeats 4000000 in
set_option maxRecDepth 20000 in
theorem bX4_readAll_59 {E : EV} {ad : Nat → Nat} {M : MM} {tl : Int64} {Φ : Option Value → va_W → Prop} {post : MM → Int64 → Prop} (hp : ∀ M tl, post M tl → Φ none (WM E ad M tl)) (h : wX4_readAll_59 post M tl ) : T E kX4_readAll 0 0 (WM E ad M tl) 59 [(0, .ref (ad (22)))] [] Φ := by
  unfold wX4_readAll_59 at h
  refine tj_aload_n rfl dX4_readAll_59 rfl ?_
  refine gf4_fault (a := 22) rfl rfl dX4_readAll_60 fl_X4_35 ?_
  refine tj_if_ne (tgt := 87) rfl rfl dX4_readAll_63 (fun hc => ?_) (fun hc => ?_)
  · rw [if_neg hc] at h
    exact tj_return dX4_readAll_87 rfl (Nat.zero_le _) (Nat.zero_le _) (hp _ _ h)
  · rw [if_pos hc] at h
    refine tj_aload_n rfl dX4_readAll_66 rfl ?_
    refine cf_V4 (a := 22) (z := kX4_allLotsAre) (As := []) rfl rfl dX4_readAll_67 rfl ml_X4_51 okX4_allLotsAre rfl (rm_ok rfl) (Nat.le_of_ble_eq_true rfl) (Nat.le_of_ble_eq_true rfl) rfl rfl ?_
    refine ctX4_allLotsAre h (fun r3 M1 t2 h => ?_)
    refine tj_if_ne (tgt := 87) rfl rfl dX4_readAll_70 (fun hc => ?_) (fun hc => ?_)
    · rw [if_neg hc] at h
      exact tj_return dX4_readAll_87 rfl (Nat.zero_le _) (Nat.zero_le _) (hp _ _ h)
    · rw [if_pos hc] at h
      refine tj_aload_n rfl dX4_readAll_73 rfl ?_
      refine tj_bipush (v := 6) rfl dX4_readAll_74 (by decide) ?_
      refine tj_aload_n rfl dX4_readAll_76 rfl ?_
      refine gf4_tape (a := 22) rfl rfl dX4_readAll_77 fl_X4_25 ?_
      refine gf9_size (a := 1) rfl rfl dX4_readAll_80 fl_X4_55 ?_
      refine cf_V4 (a := 22) (z := kX4_fail) (As := [_, _]) rfl rfl dX4_readAll_83 rfl ml_X4_60 okX4_fail rfl (rm_ok rfl) (Nat.le_of_ble_eq_true rfl) (Nat.le_of_ble_eq_true rfl) rfl rfl ?_
      refine ctX4_fail h (fun r6 M4 t5 h => ?_)
      refine tj_pop rfl dX4_readAll_86 rfl ?_
      exact tj_return dX4_readAll_87 rfl (Nat.zero_le _) (Nat.zero_le _) (hp _ _ h)
def wX4_readAll_10 (post : MM → Int64 → Prop) : Nat → MM → Int64 → Int32 → Prop
  | 0, _, _, _ => False
  | n + 1, M, tl, v1 =>
    (if 400 ≤ v1 then wX4_readAll_59 post  M tl else (if (M 22 2) = 0 then (if (M 22 8) = 0 then wX4_readAll_59 post  M tl else wpX4_readLine (fun M1 t2 => wpX4_takeStop (fun M3 t4 => wpX4_takeToken (fun M5 t6 => (∀ M7 : MM, M7 = mset M5 22 4 ((M5 22 4) + 1) → (wX4_readAll_10 post n) M7 t6 (v1 + 1))) M3 t4 ) M1 t2 ) M tl ) else wX4_readAll_59 post  M tl))
set_option maxHeartbeats 4000000 in
set_option maxRecDepth 20000 in
theorem bX4_readAll_10 {E : EV} {ad : Nat → Nat} {Φ : Option Value → va_W → Prop} {post : MM → Int64 → Prop}  (hp : ∀ M tl, post M tl → Φ none (WM E ad M tl)) : ∀ (n : Nat) (M : MM) (tl : Int64) (v1 : Int32), wX4_readAll_10 post n M tl v1 → T E kX4_readAll 0 0 (WM E ad M tl) 10 [(0, .ref (ad (22))), (1, .int v1)] [] Φ := by
  intro n
  induction n with
  | zero => intro M tl v1 h; exact False.elim h
  | succ n ih =>
    intro M tl v1 h
    unfold wX4_readAll_10 at h
    refine tj_iload_n rfl dX4_readAll_10 rfl ?_
    refine tj_sipush (v := 400) rfl dX4_readAll_11 (by decide) ?_
    refine tj_icmp_ge (tgt := 59) rfl rfl dX4_readAll_14 (fun hc => ?_) (fun hc => ?_)
    · rw [if_pos hc] at h
      exact tj_pick (l' := [(0, _)]) [0] rfl (bX4_readAll_59 hp  h)
    · rw [if_neg hc] at h
      refine tj_aload_n rfl dX4_readAll_17 rfl ?_
      refine gf4_fault (a := 22) rfl rfl dX4_readAll_18 fl_X4_35 ?_
      refine tj_if_ne (tgt := 59) rfl rfl dX4_readAll_21 (fun hc => ?_) (fun hc => ?_)
      · rw [if_neg hc] at h
        exact tj_pick (l' := [(0, _)]) [0] rfl (bX4_readAll_59 hp  h)
      · rw [if_pos hc] at h
        refine tj_aload_n rfl dX4_readAll_24 rfl ?_
        refine gf4_type (a := 22) rfl rfl dX4_readAll_25 fl_X4_39 ?_
        refine tj_if_eq (tgt := 59) rfl rfl dX4_readAll_28 (fun hc => ?_) (fun hc => ?_)
        · rw [if_pos hc] at h
          exact tj_pick (l' := [(0, _)]) [0] rfl (bX4_readAll_59 hp  h)
        · rw [if_neg hc] at h
          refine tj_aload_n rfl dX4_readAll_31 rfl ?_
          refine cf_V4 (a := 22) (z := kX4_readLine) (As := []) rfl rfl dX4_readAll_32 rfl ml_X4_42 okX4_readLine rfl (rm_ok rfl) (Nat.le_of_ble_eq_true rfl) (Nat.le_of_ble_eq_true rfl) rfl rfl ?_
          refine ctX4_readLine h (fun M1 t2 h => ?_)
          refine tj_aload_n rfl dX4_readAll_35 rfl ?_
          refine cf_V4 (a := 22) (z := kX4_takeStop) (As := []) rfl rfl dX4_readAll_36 rfl ml_X4_45 okX4_takeStop rfl (rm_ok rfl) (Nat.le_of_ble_eq_true rfl) (Nat.le_of_ble_eq_true rfl) rfl rfl ?_
          refine ctX4_takeStop h (fun M3 t4 h => ?_)
          refine tj_aload_n rfl dX4_readAll_39 rfl ?_
          refine cf_V4 (a := 22) (z := kX4_takeToken) (As := []) rfl rfl dX4_readAll_40 rfl ml_X4_32 okX4_takeToken rfl (rm_ok rfl) (Nat.le_of_ble_eq_true rfl) (Nat.le_of_ble_eq_true rfl) rfl rfl ?_
          refine ctX4_takeToken h (fun M5 t6 h => ?_)
          refine tj_aload_n rfl dX4_readAll_43 rfl ?_
          refine tj_dup rfl dX4_readAll_44 rfl ?_
          refine gf4_lines (a := 22) rfl rfl dX4_readAll_45 fl_X4_48 ?_
          refine tj_iconst (v := 1) rfl dX4_readAll_48 (by decide) ?_
          refine tj_iadd rfl dX4_readAll_49 ?_
          refine pf4_lines (a := 22) rfl rfl dX4_readAll_50 fl_X4_48 ?_
          replace h := h _ rfl
          generalize mset M5 22 4 ((M5 22 4) + 1) = M7 at h ⊢
          refine tj_iinc (v := _ + 1) (l' := [(0, _), (1, _)]) rfl dX4_readAll_53 rfl (by decide) rfl rfl ?_
          refine tj_goto (tgt := 10) rfl dX4_readAll_56 ?_
          exact ih _ _ _ h
def wpX4_readAll (post : MM → Int64 → Prop) (M : MM) (tl : Int64) : Prop :=
  wpX4_restart (fun M1 t2 => wpX4_takeToken (fun M3 t4 => (∃ n9, wX4_readAll_10 post  n9 M3 t4 0)) M1 t2 ) M tl 
set_option maxHeartbeats 4000000 in
set_option maxRecDepth 20000 in
theorem ctX4_readAll {E : EV} {ad : Nat → Nat} {M : MM} {tl : Int64} {Φ : Option Value → va_W → Prop} {post : MM → Int64 → Prop} (h : wpX4_readAll post M tl ) (hp : ∀ M tl, post M tl → Φ none (WM E ad M tl)) : Tm E kX4_readAll (WM E ad M tl) [.ref (ad (22))] Φ := by
  unfold wpX4_readAll at h
  show T E kX4_readAll 0 0 (WM E ad M tl) 0 [(0, .ref (ad (22)))] [] Φ
  refine tj_aload_n rfl dX4_readAll_0 rfl ?_
  refine cf_V4 (a := 22) (z := kX4_restart) (As := []) rfl rfl dX4_readAll_1 rfl ml_X4_29 okX4_restart rfl (rm_ok rfl) (Nat.le_of_ble_eq_true rfl) (Nat.le_of_ble_eq_true rfl) rfl rfl ?_
  refine ctX4_restart h (fun M1 t2 h => ?_)
  refine tj_aload_n rfl dX4_readAll_4 rfl ?_
  refine cf_V4 (a := 22) (z := kX4_takeToken) (As := []) rfl rfl dX4_readAll_5 rfl ml_X4_32 okX4_takeToken rfl (rm_ok rfl) (Nat.le_of_ble_eq_true rfl) (Nat.le_of_ble_eq_true rfl) rfl rfl ?_
  refine ctX4_takeToken h (fun M3 t4 h => ?_)
  refine tj_iconst (v := 0) rfl dX4_readAll_8 (by decide) ?_
  refine tj_istore_n (l' := [(0, _), (1, _)]) rfl dX4_readAll_9 (by decide) rfl ?_
  obtain ⟨n9, h⟩ := h
  exact bX4_readAll_10 hp  n9 _ _ _ h
def wX10_text_77 (post : Int32 → MM → Int64 → Prop) : Nat → MM → Int64 → Int32 → Prop
  | 0, _, _, _ => False
  | n + 1, M, tl, v1 =>
    (if 2 ≤ v1 then post (M 22 4) M tl else (vp_in v1 (al 55) ∧ (∀ M2 : MM, M2 = mset M 55 (v1 : Int32).toNatClampNeg (vp_nar .boolean 0) → (wX10_text_77 post n) M2 tl (v1 + 1))))
set_option maxHeartbeats 4000000 in
set_option maxRecDepth 20000 in
theorem bX10_text_77 {E : EV} {ad : Nat → Nat} {Φ : Option Value → va_W → Prop} {post : Int32 → MM → Int64 → Prop}  (hp : ∀ r M tl, post r M tl → Φ (some (.int r)) (WM E ad M tl)) : ∀ (n : Nat) (M : MM) (tl : Int64) (v1 : Int32), wX10_text_77 post n M tl v1 → T E kX10_text 0 0 (WM E ad M tl) 77 [(0, .ref (ad (0))), (1, .int v1)] [] Φ := by
  intro n
  induction n with
  | zero => intro M tl v1 h; exact False.elim h
  | succ n ih =>
    intro M tl v1 h
    unfold wX10_text_77 at h
    refine tj_iload_n rfl dX10_text_77 rfl ?_
    refine tj_iconst (v := 2) rfl dX10_text_78 (by decide) ?_
    refine tj_icmp_ge (tgt := 95) rfl rfl dX10_text_79 (fun hc => ?_) (fun hc => ?_)
    · rw [if_pos hc] at h
      refine tj_aload_n rfl dX10_text_95 rfl ?_
      refine gf10_reader (a := 0) rfl rfl dX10_text_96 fl_X10_35 ?_
      refine gf4_lines (a := 22) rfl rfl dX10_text_99 fl_X10_113 ?_
      exact tj_ireturn (ty := .int) dX10_text_102 rfl rfl (Nat.zero_le _) (Nat.zero_le _) (hp _ _ _ h)
    · rw [if_neg hc] at h
      refine tj_aload_n rfl dX10_text_82 rfl ?_
      refine gf10_imageKept (a := 0) rfl rfl dX10_text_83 fl_X10_73 ?_
      refine tj_iload_n rfl dX10_text_86 rfl ?_
      refine tj_iconst (v := 0) rfl dX10_text_87 (by decide) ?_
      obtain ⟨hi1, h⟩ := h
      refine af_zast (a := 55) rfl rfl dX10_text_88 hi1 ?_
      replace h := h _ rfl
      generalize mset M 55 (v1 : Int32).toNatClampNeg (vp_nar .boolean 0) = M2 at h ⊢
      refine tj_iinc (v := _ + 1) (l' := [(0, _), (1, _)]) rfl dX10_text_89 rfl (by decide) rfl rfl ?_
      refine tj_goto (tgt := 77) rfl dX10_text_92 ?_
      exact ih _ _ _ h
def wpX10_text (post : Int32 → MM → Int64 → Prop) (M : MM) (tl : Int64) : Prop :=
  wpX4_readAll (fun M1 t2 => (∀ M3 : MM, M3 = mset M1 1 1 0 → (∀ M4 : MM, M4 = mset M3 0 11 (M3 22 2) → (if (M4 22 2) = 0 then wpX1_copyFrom (fun M5 t6 => wpX7_copyFrom (fun M7 t8 => (∃ n9, wX10_text_77 post  n9 M7 t8 0)) M5 t6 14 34) M4 t2 3 23 else post (((-10) : Int32) - (M4 22 3)) M4 t2)))) M tl 
set_option maxHeartbeats 4000000 in
set_option maxRecDepth 20000 in
theorem ctX10_text {E : EV} {ad : Nat → Nat} {M : MM} {tl : Int64} {Φ : Option Value → va_W → Prop} {post : Int32 → MM → Int64 → Prop} (h : wpX10_text post M tl ) (hp : ∀ r M tl, post r M tl → Φ (some (.int r)) (WM E ad M tl)) : Tm E kX10_text (WM E ad M tl) [.ref (ad (0))] Φ := by
  unfold wpX10_text at h
  show T E kX10_text 0 0 (WM E ad M tl) 0 [(0, .ref (ad (0)))] [] Φ
  refine tj_aload_n rfl dX10_text_0 rfl ?_
  refine gf10_reader (a := 0) rfl rfl dX10_text_1 fl_X10_35 ?_
  refine cf_V4 (a := 22) (z := kX4_readAll) (As := []) rfl rfl dX10_text_4 rfl ml_X10_92 okX4_readAll rfl (rm_ok rfl) (Nat.le_of_ble_eq_true rfl) (Nat.le_of_ble_eq_true rfl) rfl rfl ?_
  refine ctX4_readAll h (fun M1 t2 h => ?_)
  refine tj_aload_n rfl dX10_text_7 rfl ?_
  refine gf10_tape (a := 0) rfl rfl dX10_text_8 fl_X10_10 ?_
  refine tj_iconst (v := 0) rfl dX10_text_11 (by decide) ?_
  refine pf9_size (a := 1) rfl rfl dX10_text_12 fl_X10_84 ?_
  replace h := h _ rfl
  generalize mset M1 1 1 0 = M3 at h ⊢
  refine tj_aload_n rfl dX10_text_15 rfl ?_
  refine tj_aload_n rfl dX10_text_16 rfl ?_
  refine gf10_reader (a := 0) rfl rfl dX10_text_17 fl_X10_35 ?_
  refine gf4_fault (a := 22) rfl rfl dX10_text_20 fl_X10_95 ?_
  refine pf10_textFault (a := 0) rfl rfl dX10_text_23 fl_X10_98 ?_
  replace h := h _ rfl
  generalize mset M3 0 11 (M3 22 2) = M4 at h ⊢
  refine tj_aload_n rfl dX10_text_26 rfl ?_
  refine gf10_reader (a := 0) rfl rfl dX10_text_27 fl_X10_35 ?_
  refine gf4_fault (a := 22) rfl rfl dX10_text_30 fl_X10_95 ?_
  refine tj_if_eq (tgt := 47) rfl rfl dX10_text_33 (fun hc => ?_) (fun hc => ?_)
  · rw [if_pos hc] at h
    refine tj_aload_n rfl dX10_text_47 rfl ?_
    refine gf10_law (a := 0) rfl rfl dX10_text_48 fl_X10_19 ?_
    refine tj_aload_n rfl dX10_text_51 rfl ?_
    refine gf10_reader (a := 0) rfl rfl dX10_text_52 fl_X10_35 ?_
    refine gf4_law (a := 22) rfl rfl dX10_text_55 fl_X10_104 ?_
    refine cf_V1 (a := 3) (z := kX1_copyFrom) (As := [_]) rfl rfl dX10_text_58 rfl ml_X10_105 okX1_copyFrom rfl (rm_ok rfl) (Nat.le_of_ble_eq_true rfl) (Nat.le_of_ble_eq_true rfl) rfl rfl ?_
    refine ctX1_copyFrom h (fun M5 t6 h => ?_)
    refine tj_aload_n rfl dX10_text_61 rfl ?_
    refine gf10_scene (a := 0) rfl rfl dX10_text_62 fl_X10_26 ?_
    refine tj_aload_n rfl dX10_text_65 rfl ?_
    refine gf10_reader (a := 0) rfl rfl dX10_text_66 fl_X10_35 ?_
    refine gf4_scene (a := 22) rfl rfl dX10_text_69 fl_X10_109 ?_
    refine cf_V7 (a := 14) (z := kX7_copyFrom) (As := [_]) rfl rfl dX10_text_72 rfl ml_X10_110 okX7_copyFrom rfl (rm_ok rfl) (Nat.le_of_ble_eq_true rfl) (Nat.le_of_ble_eq_true rfl) rfl rfl ?_
    refine ctX7_copyFrom h (fun M7 t8 h => ?_)
    refine tj_iconst (v := 0) rfl dX10_text_75 (by decide) ?_
    refine tj_istore_n (l' := [(0, _), (1, _)]) rfl dX10_text_76 (by decide) rfl ?_
    obtain ⟨n9, h⟩ := h
    exact bX10_text_77 hp  n9 _ _ _ h
  · rw [if_neg hc] at h
    refine tj_bipush (v := -10) rfl dX10_text_36 (by decide) ?_
    refine tj_aload_n rfl dX10_text_38 rfl ?_
    refine gf10_reader (a := 0) rfl rfl dX10_text_39 fl_X10_35 ?_
    refine gf4_place (a := 22) rfl rfl dX10_text_42 fl_X10_101 ?_
    refine tj_isub rfl dX10_text_45 ?_
    exact tj_ireturn (ty := .int) dX10_text_46 rfl rfl (Nat.zero_le _) (Nat.zero_le _) (hp _ _ _ h)
