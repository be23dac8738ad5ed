theorem tj_pop2 {E : EV} {k : MD} {cu su : Nat} {ws : va_W} {pc : Nat} {l : List (Nat × Value)} {st : List Value} {Φ : Option Value → va_W → Prop} {v : Value} {n : Nat} (hn : pc + 1 = n) (hd : decode k.2.1 pc = .ok (.pop2, 1)) (hv : v.category = 2) (kk : T E k cu su ws n l (st) Φ) : T E k cu su ws pc l (v :: st) Φ := by
  subst hn
  intro p L e s m args below meth c A Q H locs ls hC hE hA hP hD hS hl hF
  exact lv_pop2_2 hC.1 hC.2.1 hd hv (kk p L e s m args below meth c A Q H locs ls hC hE hA hP hD hS hl hF)
abbrev kL_law : MD := (yL_law, cL_law, 4, some .boolean, 14, 526, 600000, 7302250)
theorem rm_law {z : MD} {cu su : Nat} (hcu : cu ≤ 600000) (hsu : su ≤ 7302250) (h : (Nat.ble (z.2.2.2.2.1 + 1) 14 && (Nat.ble (8 + (z.2.2.1 + 11) + z.2.2.2.2.2.1) 526 && (Nat.ble z.2.2.2.2.2.2.1 0 && Nat.ble z.2.2.2.2.2.2.2 0))) = true) : RoomOk kL_law z cu su := by
  simp only [Bool.and_eq_true] at h
  have h1 := Nat.le_of_ble_eq_true h.2.2.1
  have h2 := Nat.le_of_ble_eq_true h.2.2.2
  exact ⟨⟨Nat.le_of_ble_eq_true h.1, Nat.le_of_ble_eq_true h.2.1⟩, by show cu + _ ≤ 600000; omega, by show su + _ ≤ 7302250; omega⟩
def wL_law_1562 (L0 : Nat) (xs : Nat → Int32) (post : Int32 → MM → Int64 → Prop) (bk18 : MM → Int64 → Int32 → Prop) (M : MM) (tl : Int64) (v3 : Int32) : Prop :=
  bk18 M tl (v3 + 5)
set_option maxHeartbeats 4000000 in
set_option maxRecDepth 20000 in
theorem bL_law_1562 {E : EV} {ad : Nat → Nat} {M : MM} {tl : Int64} {Φ : Option Value → va_W → Prop} {post : Int32 → MM → Int64 → Prop} {bk18 : MM → Int64 → Int32 → Prop} {v3 : Int32} {b L0 cu su : Nat} {xs : Nat → Int32} (hsc : E.2.2.2.2 = some (b, L0, xs)) (hcu : cu ≤ 600000) (hsu : su ≤ 7302250) (hp : ∀ r M tl, post r M tl → Φ (some (.int r)) (WM E ad M tl)) (hb18 : ∀ (M : MM) (tl : Int64) (v3 : Int32), bk18 M tl v3 → T E kL_law cu su (WM E ad M tl) 18 [(0, .ref b), (1, .ref (ad (0))), (2, .ref (ad (81))), (3, .int v3)] [] Φ) (h : wL_law_1562 L0 xs post bk18 M tl v3) : T E kL_law cu su (WM E ad M tl) 1562 [(0, .ref b), (1, .ref (ad (0))), (2, .ref (ad (81))), (3, .int v3)] [] Φ := by
  unfold wL_law_1562 at h
  refine tj_iinc (v := _ + 5) (l' := [(0, _), (1, _), (2, _), (3, _)]) rfl dL_law_1562 rfl (by decide) rfl rfl ?_
  refine tj_goto (tgt := 18) rfl dL_law_1565 ?_
  exact hb18 _ _ _ h
def wL_law_1255 (L0 : Nat) (xs : Nat → Int32) (post : Int32 → MM → Int64 → Prop) (bk18 : MM → Int64 → Int32 → Prop) (M : MM) (tl : Int64) (v3 : Int32) (s1 : Int32) (s2 : Int32) (s3 : Int32) (s4 : Int32) : Prop :=
  wpX11_saw (fun r3 M1 t2 => wL_law_1562 L0 xs post bk18 M1 t2 v3) M tl s1 s2 s3 s4
set_option maxHeartbeats 4000000 in
set_option maxRecDepth 20000 in
theorem bL_law_1255 {E : EV} {ad : Nat → Nat} {M : MM} {tl : Int64} {Φ : Option Value → va_W → Prop} {post : Int32 → MM → Int64 → Prop} {bk18 : MM → Int64 → Int32 → Prop} {v3 : Int32} {s1 : Int32} {s2 : Int32} {s3 : Int32} {s4 : Int32} {b L0 cu su : Nat} {xs : Nat → Int32} (hsc : E.2.2.2.2 = some (b, L0, xs)) (hcu : cu ≤ 600000) (hsu : su ≤ 7302250) (hp : ∀ r M tl, post r M tl → Φ (some (.int r)) (WM E ad M tl)) (hb18 : ∀ (M : MM) (tl : Int64) (v3 : Int32), bk18 M tl v3 → T E kL_law cu su (WM E ad M tl) 18 [(0, .ref b), (1, .ref (ad (0))), (2, .ref (ad (81))), (3, .int v3)] [] Φ) (h : wL_law_1255 L0 xs post bk18 M tl v3 s1 s2 s3 s4) : T E kL_law cu su (WM E ad M tl) 1255 [(0, .ref b), (1, .ref (ad (0))), (2, .ref (ad (81))), (3, .int v3)] [.int s4, .int s3, .int s2, .int s1, .ref (ad (81))] Φ := by
  unfold wL_law_1255 at h
  refine cf_V11 (a := 81) (z := kX11_saw) (As := [_, _, _, _]) rfl rfl dL_law_1255 rfl ml_L_157 okX11_saw rfl (rm_law hcu hsu rfl) (Nat.le_of_ble_eq_true rfl) (Nat.le_of_ble_eq_true rfl) rfl rfl ?_
  refine ctX11_saw h (fun r3 M1 t2 h => ?_)
  refine tj_pop rfl dL_law_1258 rfl ?_
  refine tj_goto (tgt := 1562) rfl dL_law_1259 ?_
  exact bL_law_1562 hsc hcu hsu hp hb18 h
def wL_law_1222 (L0 : Nat) (xs : Nat → Int32) (post : Int32 → MM → Int64 → Prop) (bk18 : MM → Int64 → Int32 → Prop) (M : MM) (tl : Int64) (v3 : Int32) (s1 : Int32) (s2 : Int32) (s3 : Int32) (s4 : Int32) : Prop :=
  wpX10_saw (fun r3 M1 t2 => (vp_in (v3 + 1) L0 ∧ (vp_in (v3 + 2) L0 ∧ (vp_in (v3 + 3) L0 ∧ (vp_in (v3 + 4) L0 ∧ (if (xs (v3 + 4 : Int32).toNatClampNeg) = 0 then wL_law_1255 L0 xs post bk18 M1 t2 v3 (xs (v3 + 1 : Int32).toNatClampNeg) (xs (v3 + 2 : Int32).toNatClampNeg) (xs (v3 + 3 : Int32).toNatClampNeg) 0 else wL_law_1255 L0 xs post bk18 M1 t2 v3 (xs (v3 + 1 : Int32).toNatClampNeg) (xs (v3 + 2 : Int32).toNatClampNeg) (xs (v3 + 3 : Int32).toNatClampNeg) 1)))))) M tl s1 s2 s3 s4
set_option maxHeartbeats 4000000 in
set_option maxRecDepth 20000 in
theorem bL_law_1222 {E : EV} {ad : Nat → Nat} {M : MM} {tl : Int64} {Φ : Option Value → va_W → Prop} {post : Int32 → MM → Int64 → Prop} {bk18 : MM → Int64 → Int32 → Prop} {v3 : Int32} {s1 : Int32} {s2 : Int32} {s3 : Int32} {s4 : Int32} {b L0 cu su : Nat} {xs : Nat → Int32} (hsc : E.2.2.2.2 = some (b, L0, xs)) (hcu : cu ≤ 600000) (hsu : su ≤ 7302250) (hp : ∀ r M tl, post r M tl → Φ (some (.int r)) (WM E ad M tl)) (hb18 : ∀ (M : MM) (tl : Int64) (v3 : Int32), bk18 M tl v3 → T E kL_law cu su (WM E ad M tl) 18 [(0, .ref b), (1, .ref (ad (0))), (2, .ref (ad (81))), (3, .int v3)] [] Φ) (h : wL_law_1222 L0 xs post bk18 M tl v3 s1 s2 s3 s4) : T E kL_law cu su (WM E ad M tl) 1222 [(0, .ref b), (1, .ref (ad (0))), (2, .ref (ad (81))), (3, .int v3)] [.int s4, .int s3, .int s2, .int s1, .ref (ad (0))] Φ := by
  unfold wL_law_1222 at h
  refine cf_V10 (a := 0) (z := kX10_saw) (As := [_, _, _, _]) rfl rfl dL_law_1222 rfl ml_L_153 okX10_saw rfl (rm_law hcu hsu rfl) (Nat.le_of_ble_eq_true rfl) (Nat.le_of_ble_eq_true rfl) rfl rfl ?_
  refine ctX10_saw h (fun r3 M1 t2 h => ?_)
  refine tj_pop rfl dL_law_1225 rfl ?_
  refine tj_aload_n rfl dL_law_1226 rfl ?_
  refine tj_aload_n rfl dL_law_1227 rfl ?_
  refine tj_iload_n rfl dL_law_1228 rfl ?_
  refine tj_iconst (v := 1) rfl dL_law_1229 (by decide) ?_
  refine tj_iadd rfl dL_law_1230 ?_
  obtain ⟨hi4, h⟩ := h
  refine tj_sld hsc rfl dL_law_1231 hi4 ?_
  refine tj_aload_n rfl dL_law_1232 rfl ?_
  refine tj_iload_n rfl dL_law_1233 rfl ?_
  refine tj_iconst (v := 2) rfl dL_law_1234 (by decide) ?_
  refine tj_iadd rfl dL_law_1235 ?_
  obtain ⟨hi5, h⟩ := h
  refine tj_sld hsc rfl dL_law_1236 hi5 ?_
  refine tj_aload_n rfl dL_law_1237 rfl ?_
  refine tj_iload_n rfl dL_law_1238 rfl ?_
  refine tj_iconst (v := 3) rfl dL_law_1239 (by decide) ?_
  refine tj_iadd rfl dL_law_1240 ?_
  obtain ⟨hi6, h⟩ := h
  refine tj_sld hsc rfl dL_law_1241 hi6 ?_
  refine tj_aload_n rfl dL_law_1242 rfl ?_
  refine tj_iload_n rfl dL_law_1243 rfl ?_
  refine tj_iconst (v := 4) rfl dL_law_1244 (by decide) ?_
  refine tj_iadd rfl dL_law_1245 ?_
  obtain ⟨hi7, h⟩ := h
  refine tj_sld hsc rfl dL_law_1246 hi7 ?_
  refine tj_if_eq (tgt := 1254) rfl rfl dL_law_1247 (fun hc => ?_) (fun hc => ?_)
  · rw [if_pos hc] at h
    refine tj_iconst (v := 0) rfl dL_law_1254 (by decide) ?_
    exact bL_law_1255 hsc hcu hsu hp hb18 h
  · rw [if_neg hc] at h
    refine tj_iconst (v := 1) rfl dL_law_1250 (by decide) ?_
    refine tj_goto (tgt := 1255) rfl dL_law_1251 ?_
    exact bL_law_1255 hsc hcu hsu hp hb18 h
def wL_law_18 (L0 : Nat) (xs : Nat → Int32) (post : Int32 → MM → Int64 → Prop) : Nat → MM → Int64 → Int32 → Prop
  | 0, _, _, _ => False
  | n + 1, M, tl, v3 =>
    (if ((Int32.ofNat L0) - 5) < v3 then post 1 M tl else (vp_in v3 L0 ∧ (if ((xs (v3 : Int32).toNatClampNeg) &&& 63) = 0 then (vp_in (v3 + 1) L0 ∧ (vp_in (v3 + 2) L0 ∧ wpX10_feed (fun r7 M5 t6 => (vp_in (v3 + 1) L0 ∧ (vp_in (v3 + 2) L0 ∧ wpX11_feed (fun r12 M10 t11 => wL_law_1562 L0 xs post (wL_law_18 L0 xs post n) M10 t11 v3) M5 t6 ((((xs (v3 + 1 : Int32).toNatClampNeg : Int32).toInt64) <<< ((32 : Int32).toInt64 &&& 63)) ||| (((xs (v3 + 2 : Int32).toNatClampNeg : Int32).toInt64) &&& 4294967295))))) M tl ((((xs (v3 + 1 : Int32).toNatClampNeg : Int32).toInt64) <<< ((32 : Int32).toInt64 &&& 63)) ||| (((xs (v3 + 2 : Int32).toNatClampNeg : Int32).toInt64) &&& 4294967295)))) else (if ((xs (v3 : Int32).toNatClampNeg) &&& 63) = 1 then (vp_in (v3 + 1) L0 ∧ wpX10_end (fun r17 M15 t16 => (vp_in (v3 + 1) L0 ∧ wpX11_end (fun r21 M19 t20 => wL_law_1562 L0 xs post (wL_law_18 L0 xs post n) M19 t20 v3) M15 t16 (xs (v3 + 1 : Int32).toNatClampNeg))) M tl (xs (v3 + 1 : Int32).toNatClampNeg)) else (if ((xs (v3 : Int32).toNatClampNeg) &&& 63) = 2 then wpX10_text (fun r25 M23 t24 => wpX11_text (fun r28 M26 t27 => wL_law_1562 L0 xs post (wL_law_18 L0 xs post n) M26 t27 v3) M23 t24 ) M tl  else (if ((xs (v3 : Int32).toNatClampNeg) &&& 63) = 3 then wpX10_fault (fun r32 M30 t31 => wpX11_fault (fun r35 M33 t34 => wL_law_1562 L0 xs post (wL_law_18 L0 xs post n) M33 t34 v3) M30 t31 ) M tl  else (if ((xs (v3 : Int32).toNatClampNeg) &&& 63) = 4 then (vp_in (v3 + 1) L0 ∧ wpX10_rule (fun r40 M38 t39 => (vp_in (v3 + 1) L0 ∧ wpX11_rule (fun r44 M42 t43 => wL_law_1562 L0 xs post (wL_law_18 L0 xs post n) M42 t43 v3) M38 t39 (xs (v3 + 1 : Int32).toNatClampNeg))) M tl (xs (v3 + 1 : Int32).toNatClampNeg)) else (if ((xs (v3 : Int32).toNatClampNeg) &&& 63) = 5 then (vp_in (v3 + 1) L0 ∧ (vp_in (v3 + 2) L0 ∧ wpX10_kind (fun r50 M48 t49 => (vp_in (v3 + 1) L0 ∧ (vp_in (v3 + 2) L0 ∧ wpX11_kind (fun r55 M53 t54 => wL_law_1562 L0 xs post (wL_law_18 L0 xs post n) M53 t54 v3) M48 t49 (xs (v3 + 1 : Int32).toNatClampNeg) (xs (v3 + 2 : Int32).toNatClampNeg)))) M tl (xs (v3 + 1 : Int32).toNatClampNeg) (xs (v3 + 2 : Int32).toNatClampNeg))) else (if ((xs (v3 : Int32).toNatClampNeg) &&& 63) = 6 then (vp_in (v3 + 1) L0 ∧ wpX10_colour (fun r60 M58 t59 => (vp_in (v3 + 1) L0 ∧ wpX11_colour (fun r64 M62 t63 => wL_law_1562 L0 xs post (wL_law_18 L0 xs post n) M62 t63 v3) M58 t59 (xs (v3 + 1 : Int32).toNatClampNeg))) M tl (xs (v3 + 1 : Int32).toNatClampNeg)) else (if ((xs (v3 : Int32).toNatClampNeg) &&& 63) = 7 then (vp_in (v3 + 1) L0 ∧ wpX10_mirror (fun r69 M67 t68 => (vp_in (v3 + 1) L0 ∧ wpX11_mirror (fun r73 M71 t72 => wL_law_1562 L0 xs post (wL_law_18 L0 xs post n) M71 t72 v3) M67 t68 (xs (v3 + 1 : Int32).toNatClampNeg))) M tl (xs (v3 + 1 : Int32).toNatClampNeg)) else (if ((xs (v3 : Int32).toNatClampNeg) &&& 63) = 8 then (vp_in (v3 + 1) L0 ∧ (vp_in (v3 + 2) L0 ∧ wpX10_work (fun r79 M77 t78 => (vp_in (v3 + 1) L0 ∧ (vp_in (v3 + 2) L0 ∧ wpX11_work (fun r84 M82 t83 => wL_law_1562 L0 xs post (wL_law_18 L0 xs post n) M82 t83 v3) M77 t78 (xs (v3 + 1 : Int32).toNatClampNeg) (xs (v3 + 2 : Int32).toNatClampNeg)))) M tl (xs (v3 + 1 : Int32).toNatClampNeg) (xs (v3 + 2 : Int32).toNatClampNeg))) else (if ((xs (v3 : Int32).toNatClampNeg) &&& 63) = 9 then (vp_in (v3 + 1) L0 ∧ (vp_in (v3 + 2) L0 ∧ wpX10_thing (fun r90 M88 t89 => (vp_in (v3 + 1) L0 ∧ (vp_in (v3 + 2) L0 ∧ wpX11_thing (fun r95 M93 t94 => wL_law_1562 L0 xs post (wL_law_18 L0 xs post n) M93 t94 v3) M88 t89 (xs (v3 + 1 : Int32).toNatClampNeg) (xs (v3 + 2 : Int32).toNatClampNeg)))) M tl (xs (v3 + 1 : Int32).toNatClampNeg) (xs (v3 + 2 : Int32).toNatClampNeg))) else (if ((xs (v3 : Int32).toNatClampNeg) &&& 63) = 10 then (vp_in (v3 + 1) L0 ∧ (vp_in (v3 + 2) L0 ∧ (vp_in (v3 + 3) L0 ∧ wpX10_put (fun r102 M100 t101 => (vp_in (v3 + 1) L0 ∧ (vp_in (v3 + 2) L0 ∧ (vp_in (v3 + 3) L0 ∧ wpX11_put (fun r108 M106 t107 => wL_law_1562 L0 xs post (wL_law_18 L0 xs post n) M106 t107 v3) M100 t101 (xs (v3 + 1 : Int32).toNatClampNeg) (xs (v3 + 2 : Int32).toNatClampNeg) (xs (v3 + 3 : Int32).toNatClampNeg))))) M tl (xs (v3 + 1 : Int32).toNatClampNeg) (xs (v3 + 2 : Int32).toNatClampNeg) (xs (v3 + 3 : Int32).toNatClampNeg)))) else (if ((xs (v3 : Int32).toNatClampNeg) &&& 63) = 11 then (vp_in (v3 + 1) L0 ∧ (vp_in (v3 + 2) L0 ∧ wpX10_match (fun r114 M112 t113 => (vp_in (v3 + 1) L0 ∧ (vp_in (v3 + 2) L0 ∧ wpX11_match (fun r119 M117 t118 => wL_law_1562 L0 xs post (wL_law_18 L0 xs post n) M117 t118 v3) M112 t113 (xs (v3 + 1 : Int32).toNatClampNeg) (xs (v3 + 2 : Int32).toNatClampNeg)))) M tl (xs (v3 + 1 : Int32).toNatClampNeg) (xs (v3 + 2 : Int32).toNatClampNeg))) else (if ((xs (v3 : Int32).toNatClampNeg) &&& 63) = 12 then wpX10_odd (fun r123 M121 t122 => wpX11_odd (fun r126 M124 t125 => wL_law_1562 L0 xs post (wL_law_18 L0 xs post n) M124 t125 v3) M121 t122 ) M tl  else (if ((xs (v3 : Int32).toNatClampNeg) &&& 63) = 13 then (vp_in (v3 + 1) L0 ∧ wpX10_third (fun r131 M129 t130 => (vp_in (v3 + 1) L0 ∧ wpX11_third (fun r135 M133 t134 => wL_law_1562 L0 xs post (wL_law_18 L0 xs post n) M133 t134 v3) M129 t130 (xs (v3 + 1 : Int32).toNatClampNeg))) M tl (xs (v3 + 1 : Int32).toNatClampNeg)) else (if ((xs (v3 : Int32).toNatClampNeg) &&& 63) = 14 then (vp_in (v3 + 1) L0 ∧ (vp_in (v3 + 2) L0 ∧ (vp_in (v3 + 3) L0 ∧ wpX10_after (fun r142 M140 t141 => (vp_in (v3 + 1) L0 ∧ (vp_in (v3 + 2) L0 ∧ (vp_in (v3 + 3) L0 ∧ wpX11_after (fun r148 M146 t147 => wL_law_1562 L0 xs post (wL_law_18 L0 xs post n) M146 t147 v3) M140 t141 (xs (v3 + 1 : Int32).toNatClampNeg) (xs (v3 + 2 : Int32).toNatClampNeg) (xs (v3 + 3 : Int32).toNatClampNeg))))) M tl (xs (v3 + 1 : Int32).toNatClampNeg) (xs (v3 + 2 : Int32).toNatClampNeg) (xs (v3 + 3 : Int32).toNatClampNeg)))) else (if ((xs (v3 : Int32).toNatClampNeg) &&& 63) = 15 then (vp_in (v3 + 1) L0 ∧ (vp_in (v3 + 2) L0 ∧ wpX10_paid (fun r154 M152 t153 => (vp_in (v3 + 1) L0 ∧ (vp_in (v3 + 2) L0 ∧ wpX11_paid (fun r159 M157 t158 => wL_law_1562 L0 xs post (wL_law_18 L0 xs post n) M157 t158 v3) M152 t153 (xs (v3 + 1 : Int32).toNatClampNeg) (xs (v3 + 2 : Int32).toNatClampNeg)))) M tl (xs (v3 + 1 : Int32).toNatClampNeg) (xs (v3 + 2 : Int32).toNatClampNeg))) else (if ((xs (v3 : Int32).toNatClampNeg) &&& 63) = 16 then (vp_in (v3 + 1) L0 ∧ (vp_in (v3 + 2) L0 ∧ wpX10_owes (fun r165 M163 t164 => (vp_in (v3 + 1) L0 ∧ (vp_in (v3 + 2) L0 ∧ wpX11_owes (fun r170 M168 t169 => wL_law_1562 L0 xs post (wL_law_18 L0 xs post n) M168 t169 v3) M163 t164 (xs (v3 + 1 : Int32).toNatClampNeg) (xs (v3 + 2 : Int32).toNatClampNeg)))) M tl (xs (v3 + 1 : Int32).toNatClampNeg) (xs (v3 + 2 : Int32).toNatClampNeg))) else (if ((xs (v3 : Int32).toNatClampNeg) &&& 63) = 17 then (vp_in (v3 + 1) L0 ∧ wpX10_fate (fun r175 M173 t174 => (vp_in (v3 + 1) L0 ∧ wpX11_fate (fun r179 M177 t178 => wL_law_1562 L0 xs post (wL_law_18 L0 xs post n) M177 t178 v3) M173 t174 (xs (v3 + 1 : Int32).toNatClampNeg))) M tl (xs (v3 + 1 : Int32).toNatClampNeg)) else (if ((xs (v3 : Int32).toNatClampNeg) &&& 63) = 18 then (vp_in (v3 + 1) L0 ∧ wpX10_uneven (fun r184 M182 t183 => (vp_in (v3 + 1) L0 ∧ wpX11_uneven (fun r188 M186 t187 => wL_law_1562 L0 xs post (wL_law_18 L0 xs post n) M186 t187 v3) M182 t183 (xs (v3 + 1 : Int32).toNatClampNeg))) M tl (xs (v3 + 1 : Int32).toNatClampNeg)) else (if ((xs (v3 : Int32).toNatClampNeg) &&& 63) = 19 then wpX10_go (fun r192 M190 t191 => wpX11_go (fun r195 M193 t194 => wL_law_1562 L0 xs post (wL_law_18 L0 xs post n) M193 t194 v3) M190 t191 ) M tl  else (if ((xs (v3 : Int32).toNatClampNeg) &&& 63) = 20 then (vp_in (v3 + 1) L0 ∧ (vp_in (v3 + 2) L0 ∧ (vp_in (v3 + 3) L0 ∧ (vp_in (v3 + 4) L0 ∧ wpX10_plot (fun r203 M201 t202 => (vp_in (v3 + 1) L0 ∧ (vp_in (v3 + 2) L0 ∧ (vp_in (v3 + 3) L0 ∧ (vp_in (v3 + 4) L0 ∧ wpX11_plot (fun r210 M208 t209 => wL_law_1562 L0 xs post (wL_law_18 L0 xs post n) M208 t209 v3) M201 t202 (xs (v3 + 1 : Int32).toNatClampNeg) (xs (v3 + 2 : Int32).toNatClampNeg) (xs (v3 + 3 : Int32).toNatClampNeg) (xs (v3 + 4 : Int32).toNatClampNeg)))))) M tl (xs (v3 + 1 : Int32).toNatClampNeg) (xs (v3 + 2 : Int32).toNatClampNeg) (xs (v3 + 3 : Int32).toNatClampNeg) (xs (v3 + 4 : Int32).toNatClampNeg))))) else (if ((xs (v3 : Int32).toNatClampNeg) &&& 63) = 21 then (vp_in (v3 + 1) L0 ∧ (vp_in (v3 + 2) L0 ∧ (vp_in (v3 + 3) L0 ∧ wpX10_gain (fun r217 M215 t216 => (vp_in (v3 + 1) L0 ∧ (vp_in (v3 + 2) L0 ∧ (vp_in (v3 + 3) L0 ∧ wpX11_gain (fun r223 M221 t222 => wL_law_1562 L0 xs post (wL_law_18 L0 xs post n) M221 t222 v3) M215 t216 (xs (v3 + 1 : Int32).toNatClampNeg) (xs (v3 + 2 : Int32).toNatClampNeg) (xs (v3 + 3 : Int32).toNatClampNeg))))) M tl (xs (v3 + 1 : Int32).toNatClampNeg) (xs (v3 + 2 : Int32).toNatClampNeg) (xs (v3 + 3 : Int32).toNatClampNeg)))) else (if ((xs (v3 : Int32).toNatClampNeg) &&& 63) = 22 then (vp_in (v3 + 1) L0 ∧ (vp_in (v3 + 2) L0 ∧ (vp_in (v3 + 3) L0 ∧ wpX10_begin (fun r230 M228 t229 => (vp_in (v3 + 1) L0 ∧ (vp_in (v3 + 2) L0 ∧ (vp_in (v3 + 3) L0 ∧ wpX11_begin (fun r236 M234 t235 => wL_law_1562 L0 xs post (wL_law_18 L0 xs post n) M234 t235 v3) M228 t229 (xs (v3 + 1 : Int32).toNatClampNeg) (xs (v3 + 2 : Int32).toNatClampNeg) (xs (v3 + 3 : Int32).toNatClampNeg))))) M tl (xs (v3 + 1 : Int32).toNatClampNeg) (xs (v3 + 2 : Int32).toNatClampNeg) (xs (v3 + 3 : Int32).toNatClampNeg)))) else (if ((xs (v3 : Int32).toNatClampNeg) &&& 63) = 23 then (vp_in (v3 + 1) L0 ∧ (vp_in (v3 + 2) L0 ∧ wpX10_waits (fun r242 M240 t241 => (vp_in (v3 + 1) L0 ∧ (vp_in (v3 + 2) L0 ∧ wpX11_waits (fun r247 M245 t246 => wL_law_1562 L0 xs post (wL_law_18 L0 xs post n) M245 t246 v3) M240 t241 (xs (v3 + 1 : Int32).toNatClampNeg) (xs (v3 + 2 : Int32).toNatClampNeg)))) M tl (xs (v3 + 1 : Int32).toNatClampNeg) (xs (v3 + 2 : Int32).toNatClampNeg))) else (if ((xs (v3 : Int32).toNatClampNeg) &&& 63) = 24 then (vp_in (v3 + 1) L0 ∧ (vp_in (v3 + 2) L0 ∧ wpX10_vex (fun r253 M251 t252 => (vp_in (v3 + 1) L0 ∧ (vp_in (v3 + 2) L0 ∧ wpX11_vex (fun r258 M256 t257 => wL_law_1562 L0 xs post (wL_law_18 L0 xs post n) M256 t257 v3) M251 t252 (xs (v3 + 1 : Int32).toNatClampNeg) (xs (v3 + 2 : Int32).toNatClampNeg)))) M tl (xs (v3 + 1 : Int32).toNatClampNeg) (xs (v3 + 2 : Int32).toNatClampNeg))) else (if ((xs (v3 : Int32).toNatClampNeg) &&& 63) = 25 then (vp_in (v3 + 1) L0 ∧ (vp_in (v3 + 2) L0 ∧ wpX10_want (fun r264 M262 t263 => (vp_in (v3 + 1) L0 ∧ (vp_in (v3 + 2) L0 ∧ wpX11_want (fun r269 M267 t268 => wL_law_1562 L0 xs post (wL_law_18 L0 xs post n) M267 t268 v3) M262 t263 (xs (v3 + 1 : Int32).toNatClampNeg) (xs (v3 + 2 : Int32).toNatClampNeg)))) M tl (xs (v3 + 1 : Int32).toNatClampNeg) (xs (v3 + 2 : Int32).toNatClampNeg))) else (if ((xs (v3 : Int32).toNatClampNeg) &&& 63) = 26 then wpX10_content (fun r273 M271 t272 => wpX11_content (fun r276 M274 t275 => wL_law_1562 L0 xs post (wL_law_18 L0 xs post n) M274 t275 v3) M271 t272 ) M tl  else (if ((xs (v3 : Int32).toNatClampNeg) &&& 63) = 27 then (vp_in (v3 + 1) L0 ∧ (vp_in (v3 + 2) L0 ∧ wpX10_plan (fun r282 M280 t281 => (vp_in (v3 + 1) L0 ∧ (vp_in (v3 + 2) L0 ∧ wpX11_plan (fun r287 M285 t286 => wL_law_1562 L0 xs post (wL_law_18 L0 xs post n) M285 t286 v3) M280 t281 (xs (v3 + 1 : Int32).toNatClampNeg) (xs (v3 + 2 : Int32).toNatClampNeg)))) M tl (xs (v3 + 1 : Int32).toNatClampNeg) (xs (v3 + 2 : Int32).toNatClampNeg))) else (if ((xs (v3 : Int32).toNatClampNeg) &&& 63) = 28 then (vp_in (v3 + 1) L0 ∧ wpX10_cannot (fun r292 M290 t291 => (vp_in (v3 + 1) L0 ∧ wpX11_cannot (fun r296 M294 t295 => wL_law_1562 L0 xs post (wL_law_18 L0 xs post n) M294 t295 v3) M290 t291 (xs (v3 + 1 : Int32).toNatClampNeg))) M tl (xs (v3 + 1 : Int32).toNatClampNeg)) else (if ((xs (v3 : Int32).toNatClampNeg) &&& 63) = 29 then (vp_in (v3 + 1) L0 ∧ (vp_in (v3 + 2) L0 ∧ (vp_in (v3 + 3) L0 ∧ wpX10_fire (fun r303 M301 t302 => (vp_in (v3 + 1) L0 ∧ (vp_in (v3 + 2) L0 ∧ (vp_in (v3 + 3) L0 ∧ wpX11_fire (fun r309 M307 t308 => wL_law_1562 L0 xs post (wL_law_18 L0 xs post n) M307 t308 v3) M301 t302 (xs (v3 + 1 : Int32).toNatClampNeg) (xs (v3 + 2 : Int32).toNatClampNeg) (xs (v3 + 3 : Int32).toNatClampNeg))))) M tl (xs (v3 + 1 : Int32).toNatClampNeg) (xs (v3 + 2 : Int32).toNatClampNeg) (xs (v3 + 3 : Int32).toNatClampNeg)))) else (if ((xs (v3 : Int32).toNatClampNeg) &&& 63) = 30 then (vp_in (v3 + 1) L0 ∧ wpX10_quarrel (fun r314 M312 t313 => (vp_in (v3 + 1) L0 ∧ wpX11_quarrel (fun r318 M316 t317 => wL_law_1562 L0 xs post (wL_law_18 L0 xs post n) M316 t317 v3) M312 t313 (xs (v3 + 1 : Int32).toNatClampNeg))) M tl (xs (v3 + 1 : Int32).toNatClampNeg)) else (if ((xs (v3 : Int32).toNatClampNeg) &&& 63) = 31 then wpX10_bend (fun r322 M320 t321 => wpX11_bend (fun r325 M323 t324 => wL_law_1562 L0 xs post (wL_law_18 L0 xs post n) M323 t324 v3) M320 t321 ) M tl  else (if ((xs (v3 : Int32).toNatClampNeg) &&& 63) = 32 then (vp_in (v3 + 1) L0 ∧ (vp_in (v3 + 2) L0 ∧ wpX10_shops (fun r331 M329 t330 => (vp_in (v3 + 1) L0 ∧ (vp_in (v3 + 2) L0 ∧ wpX11_shops (fun r336 M334 t335 => wL_law_1562 L0 xs post (wL_law_18 L0 xs post n) M334 t335 v3) M329 t330 (xs (v3 + 1 : Int32).toNatClampNeg) (xs (v3 + 2 : Int32).toNatClampNeg)))) M tl (xs (v3 + 1 : Int32).toNatClampNeg) (xs (v3 + 2 : Int32).toNatClampNeg))) else (if ((xs (v3 : Int32).toNatClampNeg) &&& 63) = 33 then (vp_in (v3 + 1) L0 ∧ (vp_in (v3 + 2) L0 ∧ (vp_in (v3 + 3) L0 ∧ (vp_in (v3 + 4) L0 ∧ (if (xs (v3 + 4 : Int32).toNatClampNeg) = 0 then wL_law_1222 L0 xs post (wL_law_18 L0 xs post n) M tl v3 (xs (v3 + 1 : Int32).toNatClampNeg) (xs (v3 + 2 : Int32).toNatClampNeg) (xs (v3 + 3 : Int32).toNatClampNeg) 0 else wL_law_1222 L0 xs post (wL_law_18 L0 xs post n) M tl v3 (xs (v3 + 1 : Int32).toNatClampNeg) (xs (v3 + 2 : Int32).toNatClampNeg) (xs (v3 + 3 : Int32).toNatClampNeg) 1))))) else (if ((xs (v3 : Int32).toNatClampNeg) &&& 63) = 34 then wpX10_forget (fun r345 M343 t344 => wpX11_forget (fun r348 M346 t347 => wL_law_1562 L0 xs post (wL_law_18 L0 xs post n) M346 t347 v3) M343 t344 ) M tl  else (if ((xs (v3 : Int32).toNatClampNeg) &&& 63) = 35 then (vp_in (v3 + 1) L0 ∧ wpX10_histories (fun r353 M351 t352 => (vp_in (v3 + 1) L0 ∧ wpX11_histories (fun r357 M355 t356 => wL_law_1562 L0 xs post (wL_law_18 L0 xs post n) M355 t356 v3) M351 t352 (xs (v3 + 1 : Int32).toNatClampNeg))) M tl (xs (v3 + 1 : Int32).toNatClampNeg)) else (if ((xs (v3 : Int32).toNatClampNeg) &&& 63) = 36 then (vp_in (v3 + 1) L0 ∧ (vp_in (v3 + 2) L0 ∧ (vp_in (v3 + 3) L0 ∧ wpX10_began (fun r364 M362 t363 => (vp_in (v3 + 1) L0 ∧ (vp_in (v3 + 2) L0 ∧ (vp_in (v3 + 3) L0 ∧ wpX11_began (fun r370 M368 t369 => wL_law_1562 L0 xs post (wL_law_18 L0 xs post n) M368 t369 v3) M362 t363 (xs (v3 + 1 : Int32).toNatClampNeg) (xs (v3 + 2 : Int32).toNatClampNeg) (xs (v3 + 3 : Int32).toNatClampNeg))))) M tl (xs (v3 + 1 : Int32).toNatClampNeg) (xs (v3 + 2 : Int32).toNatClampNeg) (xs (v3 + 3 : Int32).toNatClampNeg)))) else (if ((xs (v3 : Int32).toNatClampNeg) &&& 63) = 37 then (vp_in (v3 + 1) L0 ∧ wpX10_keep (fun r375 M373 t374 => (vp_in (v3 + 1) L0 ∧ wpX11_keep (fun r379 M377 t378 => wL_law_1562 L0 xs post (wL_law_18 L0 xs post n) M377 t378 v3) M373 t374 (xs (v3 + 1 : Int32).toNatClampNeg))) M tl (xs (v3 + 1 : Int32).toNatClampNeg)) else (if ((xs (v3 : Int32).toNatClampNeg) &&& 63) = 38 then (vp_in (v3 + 1) L0 ∧ wpX10_back (fun r384 M382 t383 => (vp_in (v3 + 1) L0 ∧ wpX11_back (fun r388 M386 t387 => wL_law_1562 L0 xs post (wL_law_18 L0 xs post n) M386 t387 v3) M382 t383 (xs (v3 + 1 : Int32).toNatClampNeg))) M tl (xs (v3 + 1 : Int32).toNatClampNeg)) else (if ((xs (v3 : Int32).toNatClampNeg) &&& 63) = 39 then (vp_in (v3 + 1) L0 ∧ (vp_in (v3 + 2) L0 ∧ (vp_in (v3 + 3) L0 ∧ wpX10_sheet (fun r395 M393 t394 => (vp_in (v3 + 1) L0 ∧ (vp_in (v3 + 2) L0 ∧ (vp_in (v3 + 3) L0 ∧ wpX11_sheet (fun r401 M399 t400 => wL_law_1562 L0 xs post (wL_law_18 L0 xs post n) M399 t400 v3) M393 t394 (xs (v3 + 1 : Int32).toNatClampNeg) (xs (v3 + 2 : Int32).toNatClampNeg) (xs (v3 + 3 : Int32).toNatClampNeg))))) M tl (xs (v3 + 1 : Int32).toNatClampNeg) (xs (v3 + 2 : Int32).toNatClampNeg) (xs (v3 + 3 : Int32).toNatClampNeg)))) else (if ((xs (v3 : Int32).toNatClampNeg) &&& 63) = 40 then (vp_in (v3 + 1) L0 ∧ (vp_in (v3 + 2) L0 ∧ (vp_in (v3 + 3) L0 ∧ wpX10_lay (fun r408 M406 t407 => (vp_in (v3 + 1) L0 ∧ (vp_in (v3 + 2) L0 ∧ (vp_in (v3 + 3) L0 ∧ wpX11_lay (fun r414 M412 t413 => wL_law_1562 L0 xs post (wL_law_18 L0 xs post n) M412 t413 v3) M406 t407 (xs (v3 + 1 : Int32).toNatClampNeg) (xs (v3 + 2 : Int32).toNatClampNeg) (xs (v3 + 3 : Int32).toNatClampNeg))))) M tl (xs (v3 + 1 : Int32).toNatClampNeg) (xs (v3 + 2 : Int32).toNatClampNeg) (xs (v3 + 3 : Int32).toNatClampNeg)))) else (if ((xs (v3 : Int32).toNatClampNeg) &&& 63) = 41 then (vp_in (v3 + 1) L0 ∧ (vp_in (v3 + 2) L0 ∧ (vp_in (v3 + 3) L0 ∧ (vp_in (v3 + 4) L0 ∧ wpX10_read (fun r422 M420 t421 => (vp_in (v3 + 1) L0 ∧ (vp_in (v3 + 2) L0 ∧ (vp_in (v3 + 3) L0 ∧ (vp_in (v3 + 4) L0 ∧ wpX11_read (fun r429 M427 t428 => wL_law_1562 L0 xs post (wL_law_18 L0 xs post n) M427 t428 v3) M420 t421 (xs (v3 + 1 : Int32).toNatClampNeg) (xs (v3 + 2 : Int32).toNatClampNeg) (xs (v3 + 3 : Int32).toNatClampNeg) (xs (v3 + 4 : Int32).toNatClampNeg)))))) M tl (xs (v3 + 1 : Int32).toNatClampNeg) (xs (v3 + 2 : Int32).toNatClampNeg) (xs (v3 + 3 : Int32).toNatClampNeg) (xs (v3 + 4 : Int32).toNatClampNeg))))) else (if ((xs (v3 : Int32).toNatClampNeg) &&& 63) = 42 then wpX10_torn (fun r433 M431 t432 => wpX11_torn (fun r436 M434 t435 => (if r433 = r436 then wL_law_1562 L0 xs post (wL_law_18 L0 xs post n) M434 t435 v3 else post 0 M434 t435)) M431 t432 ) M tl  else (if ((xs (v3 : Int32).toNatClampNeg) &&& 63) = 43 then (vp_in (v3 + 1) L0 ∧ wpX10_count (fun r441 M439 t440 => (vp_in (v3 + 1) L0 ∧ wpX11_count (fun r445 M443 t444 => wL_law_1562 L0 xs post (wL_law_18 L0 xs post n) M443 t444 v3) M439 t440 (xs (v3 + 1 : Int32).toNatClampNeg))) M tl (xs (v3 + 1 : Int32).toNatClampNeg)) else wL_law_1562 L0 xs post (wL_law_18 L0 xs post n) M tl v3))))))))))))))))))))))))))))))))))))))))))))))
set_option maxHeartbeats 4000000 in
set_option maxRecDepth 20000 in
theorem bL_law_18 {E : EV} {ad : Nat → Nat} {Φ : Option Value → va_W → Prop} {post : Int32 → MM → Int64 → Prop}  {b L0 cu su : Nat} {xs : Nat → Int32} (hsc : E.2.2.2.2 = some (b, L0, xs)) (hcu : cu ≤ 600000) (hsu : su ≤ 7302250) (hp : ∀ r M tl, post r M tl → Φ (some (.int r)) (WM E ad M tl)) : ∀ (n : Nat) (M : MM) (tl : Int64) (v3 : Int32), wL_law_18 L0 xs post n M tl v3 → T E kL_law cu su (WM E ad M tl) 18 [(0, .ref b), (1, .ref (ad (0))), (2, .ref (ad (81))), (3, .int v3)] [] Φ := by
  intro n
  induction n with
  | zero => intro M tl v3 h; exact False.elim h
  | succ n ih =>
    intro M tl v3 h
    unfold wL_law_18 at h
    refine tj_iload_n rfl dL_law_18 rfl ?_
    refine tj_aload_n rfl dL_law_19 rfl ?_
    refine tj_slen hsc rfl dL_law_20 ?_
    refine tj_iconst (v := 5) rfl dL_law_21 (by decide) ?_
    refine tj_isub rfl dL_law_22 ?_
    refine tj_icmp_gt (tgt := 1568) rfl rfl dL_law_23 (fun hc => ?_) (fun hc => ?_)
    · rw [if_pos hc] at h
      refine tj_iconst (v := 1) rfl dL_law_1568 (by decide) ?_
      exact tj_ireturn (ty := .boolean) dL_law_1569 rfl rfl hcu hsu (hp _ _ _ h)
    · rw [if_neg hc] at h
      refine tj_aload_n rfl dL_law_26 rfl ?_
      refine tj_iload_n rfl dL_law_27 rfl ?_
      obtain ⟨hi1, h⟩ := h
      refine tj_sld hsc rfl dL_law_28 hi1 ?_
      refine tj_bipush (v := 63) rfl dL_law_29 (by decide) ?_
      refine tj_iand rfl dL_law_31 ?_
      by_cases hc2 : ((xs (v3 : Int32).toNatClampNeg) &&& 63) = 0
      · rw [if_pos hc2] at h
        refine tj_tableIn (tgt := 224) dL_law_32 (by rw [hc2]; decide) (by rw [hc2]; decide) (by rw [hc2]; rfl) rfl ?_
        refine tj_aload_n rfl dL_law_224 rfl ?_
        refine tj_aload_n rfl dL_law_225 rfl ?_
        refine tj_iload_n rfl dL_law_226 rfl ?_
        refine tj_iconst (v := 1) rfl dL_law_227 (by decide) ?_
        refine tj_iadd rfl dL_law_228 ?_
        obtain ⟨hi3, h⟩ := h
        refine tj_sld hsc rfl dL_law_229 hi3 ?_
        refine tj_i2l rfl dL_law_230 ?_
        refine tj_bipush (v := 32) rfl dL_law_231 (by decide) ?_
        refine tj_lshl rfl dL_law_233 ?_
        refine tj_aload_n rfl dL_law_234 rfl ?_
        refine tj_iload_n rfl dL_law_235 rfl ?_
        refine tj_iconst (v := 2) rfl dL_law_236 (by decide) ?_
        refine tj_iadd rfl dL_law_237 ?_
        obtain ⟨hi4, h⟩ := h
        refine tj_sld hsc rfl dL_law_238 hi4 ?_
        refine tj_i2l rfl dL_law_239 ?_
        refine tj_ldc2 rfl dL_law_240 kl_L_13 ?_
        refine tj_land rfl dL_law_243 ?_
        refine tj_lor rfl dL_law_244 ?_
        refine cf_V10 (a := 0) (z := kX10_feed) (As := [_]) rfl rfl dL_law_245 rfl ml_L_15 okX10_feed rfl (rm_law hcu hsu rfl) (Nat.le_of_ble_eq_true rfl) (Nat.le_of_ble_eq_true rfl) rfl rfl ?_
        refine ctX10_feed h (fun r7 M5 t6 h => ?_)
        refine tj_pop rfl dL_law_248 rfl ?_
        refine tj_aload_n rfl dL_law_249 rfl ?_
        refine tj_aload_n rfl dL_law_250 rfl ?_
        refine tj_iload_n rfl dL_law_251 rfl ?_
        refine tj_iconst (v := 1) rfl dL_law_252 (by decide) ?_
        refine tj_iadd rfl dL_law_253 ?_
        obtain ⟨hi8, h⟩ := h
        refine tj_sld hsc rfl dL_law_254 hi8 ?_
        refine tj_i2l rfl dL_law_255 ?_
        refine tj_bipush (v := 32) rfl dL_law_256 (by decide) ?_
        refine tj_lshl rfl dL_law_258 ?_
        refine tj_aload_n rfl dL_law_259 rfl ?_
        refine tj_iload_n rfl dL_law_260 rfl ?_
        refine tj_iconst (v := 2) rfl dL_law_261 (by decide) ?_
        refine tj_iadd rfl dL_law_262 ?_
        obtain ⟨hi9, h⟩ := h
        refine tj_sld hsc rfl dL_law_263 hi9 ?_
        refine tj_i2l rfl dL_law_264 ?_
        refine tj_ldc2 rfl dL_law_265 kl_L_13 ?_
        refine tj_land rfl dL_law_268 ?_
        refine tj_lor rfl dL_law_269 ?_
        refine cf_V11 (a := 81) (z := kX11_feed) (As := [_]) rfl rfl dL_law_270 rfl ml_L_19 okX11_feed rfl (rm_law hcu hsu rfl) (Nat.le_of_ble_eq_true rfl) (Nat.le_of_ble_eq_true rfl) rfl rfl ?_
        refine ctX11_feed h (fun r12 M10 t11 h => ?_)
        refine tj_pop rfl dL_law_273 rfl ?_
        refine tj_goto (tgt := 1562) rfl dL_law_274 ?_
        exact bL_law_1562 hsc hcu hsu hp ih h
      · rw [if_neg hc2] at h
        by_cases hc13 : ((xs (v3 : Int32).toNatClampNeg) &&& 63) = 1
        · rw [if_pos hc13] at h
          refine tj_tableIn (tgt := 277) dL_law_32 (by rw [hc13]; decide) (by rw [hc13]; decide) (by rw [hc13]; rfl) rfl ?_
          refine tj_aload_n rfl dL_law_277 rfl ?_
          refine tj_aload_n rfl dL_law_278 rfl ?_
          refine tj_iload_n rfl dL_law_279 rfl ?_
          refine tj_iconst (v := 1) rfl dL_law_280 (by decide) ?_
          refine tj_iadd rfl dL_law_281 ?_
          obtain ⟨hi14, h⟩ := h
          refine tj_sld hsc rfl dL_law_282 hi14 ?_
          refine cf_V10 (a := 0) (z := kX10_end) (As := [_]) rfl rfl dL_law_283 rfl ml_L_20 okX10_end rfl (rm_law hcu hsu rfl) (Nat.le_of_ble_eq_true rfl) (Nat.le_of_ble_eq_true rfl) rfl rfl ?_
          refine ctX10_end h (fun r17 M15 t16 h => ?_)
          refine tj_pop rfl dL_law_286 rfl ?_
          refine tj_aload_n rfl dL_law_287 rfl ?_
          refine tj_aload_n rfl dL_law_288 rfl ?_
          refine tj_iload_n rfl dL_law_289 rfl ?_
          refine tj_iconst (v := 1) rfl dL_law_290 (by decide) ?_
          refine tj_iadd rfl dL_law_291 ?_
          obtain ⟨hi18, h⟩ := h
          refine tj_sld hsc rfl dL_law_292 hi18 ?_
          refine cf_V11 (a := 81) (z := kX11_end) (As := [_]) rfl rfl dL_law_293 rfl ml_L_24 okX11_end rfl (rm_law hcu hsu rfl) (Nat.le_of_ble_eq_true rfl) (Nat.le_of_ble_eq_true rfl) rfl rfl ?_
          refine ctX11_end h (fun r21 M19 t20 h => ?_)
          refine tj_pop rfl dL_law_296 rfl ?_
          refine tj_goto (tgt := 1562) rfl dL_law_297 ?_
          exact bL_law_1562 hsc hcu hsu hp ih h
        · rw [if_neg hc13] at h
          by_cases hc22 : ((xs (v3 : Int32).toNatClampNeg) &&& 63) = 2
          · rw [if_pos hc22] at h
            refine tj_tableIn (tgt := 300) dL_law_32 (by rw [hc22]; decide) (by rw [hc22]; decide) (by rw [hc22]; rfl) rfl ?_
            refine tj_aload_n rfl dL_law_300 rfl ?_
            refine cf_V10 (a := 0) (z := kX10_text) (As := []) rfl rfl dL_law_301 rfl ml_L_25 okX10_text rfl (rm_law hcu hsu rfl) (Nat.le_of_ble_eq_true rfl) (Nat.le_of_ble_eq_true rfl) rfl rfl ?_
            refine ctX10_text h (fun r25 M23 t24 h => ?_)
            refine tj_pop rfl dL_law_304 rfl ?_
            refine tj_aload_n rfl dL_law_305 rfl ?_
            refine cf_V11 (a := 81) (z := kX11_text) (As := []) rfl rfl dL_law_306 rfl ml_L_29 okX11_text rfl (rm_law hcu hsu rfl) (Nat.le_of_ble_eq_true rfl) (Nat.le_of_ble_eq_true rfl) rfl rfl ?_
            refine ctX11_text h (fun r28 M26 t27 h => ?_)
            refine tj_pop rfl dL_law_309 rfl ?_
            refine tj_goto (tgt := 1562) rfl dL_law_310 ?_
            exact bL_law_1562 hsc hcu hsu hp ih h
          · rw [if_neg hc22] at h
            by_cases hc29 : ((xs (v3 : Int32).toNatClampNeg) &&& 63) = 3
            · rw [if_pos hc29] at h
              refine tj_tableIn (tgt := 313) dL_law_32 (by rw [hc29]; decide) (by rw [hc29]; decide) (by rw [hc29]; rfl) rfl ?_
              refine tj_aload_n rfl dL_law_313 rfl ?_
              refine cf_V10 (a := 0) (z := kX10_fault) (As := []) rfl rfl dL_law_314 rfl ml_L_30 okX10_fault rfl (rm_law hcu hsu rfl) (Nat.le_of_ble_eq_true rfl) (Nat.le_of_ble_eq_true rfl) rfl rfl ?_
              refine ctX10_fault h (fun r32 M30 t31 h => ?_)
              refine tj_pop rfl dL_law_317 rfl ?_
              refine tj_aload_n rfl dL_law_318 rfl ?_
              refine cf_V11 (a := 81) (z := kX11_fault) (As := []) rfl rfl dL_law_319 rfl ml_L_33 okX11_fault rfl (rm_law hcu hsu rfl) (Nat.le_of_ble_eq_true rfl) (Nat.le_of_ble_eq_true rfl) rfl rfl ?_
              refine ctX11_fault h (fun r35 M33 t34 h => ?_)
              refine tj_pop rfl dL_law_322 rfl ?_
              refine tj_goto (tgt := 1562) rfl dL_law_323 ?_
              exact bL_law_1562 hsc hcu hsu hp ih h
            · rw [if_neg hc29] at h
              by_cases hc36 : ((xs (v3 : Int32).toNatClampNeg) &&& 63) = 4
              · rw [if_pos hc36] at h
                refine tj_tableIn (tgt := 326) dL_law_32 (by rw [hc36]; decide) (by rw [hc36]; decide) (by rw [hc36]; rfl) rfl ?_
                refine tj_aload_n rfl dL_law_326 rfl ?_
                refine tj_aload_n rfl dL_law_327 rfl ?_
                refine tj_iload_n rfl dL_law_328 rfl ?_
                refine tj_iconst (v := 1) rfl dL_law_329 (by decide) ?_
                refine tj_iadd rfl dL_law_330 ?_
                obtain ⟨hi37, h⟩ := h
                refine tj_sld hsc rfl dL_law_331 hi37 ?_
                refine cf_V10 (a := 0) (z := kX10_rule) (As := [_]) rfl rfl dL_law_332 rfl ml_L_34 okX10_rule rfl (rm_law hcu hsu rfl) (Nat.le_of_ble_eq_true rfl) (Nat.le_of_ble_eq_true rfl) rfl rfl ?_
                refine ctX10_rule h (fun r40 M38 t39 h => ?_)
                refine tj_pop rfl dL_law_335 rfl ?_
                refine tj_aload_n rfl dL_law_336 rfl ?_
                refine tj_aload_n rfl dL_law_337 rfl ?_
                refine tj_iload_n rfl dL_law_338 rfl ?_
                refine tj_iconst (v := 1) rfl dL_law_339 (by decide) ?_
                refine tj_iadd rfl dL_law_340 ?_
                obtain ⟨hi41, h⟩ := h
                refine tj_sld hsc rfl dL_law_341 hi41 ?_
                refine cf_V11 (a := 81) (z := kX11_rule) (As := [_]) rfl rfl dL_law_342 rfl ml_L_37 okX11_rule rfl (rm_law hcu hsu rfl) (Nat.le_of_ble_eq_true rfl) (Nat.le_of_ble_eq_true rfl) rfl rfl ?_
                refine ctX11_rule h (fun r44 M42 t43 h => ?_)
                refine tj_pop rfl dL_law_345 rfl ?_
                refine tj_goto (tgt := 1562) rfl dL_law_346 ?_
                exact bL_law_1562 hsc hcu hsu hp ih h
              · rw [if_neg hc36] at h
                by_cases hc45 : ((xs (v3 : Int32).toNatClampNeg) &&& 63) = 5
                · rw [if_pos hc45] at h
                  refine tj_tableIn (tgt := 349) dL_law_32 (by rw [hc45]; decide) (by rw [hc45]; decide) (by rw [hc45]; rfl) rfl ?_
                  refine tj_aload_n rfl dL_law_349 rfl ?_
                  refine tj_aload_n rfl dL_law_350 rfl ?_
                  refine tj_iload_n rfl dL_law_351 rfl ?_
                  refine tj_iconst (v := 1) rfl dL_law_352 (by decide) ?_
                  refine tj_iadd rfl dL_law_353 ?_
                  obtain ⟨hi46, h⟩ := h
                  refine tj_sld hsc rfl dL_law_354 hi46 ?_
                  refine tj_aload_n rfl dL_law_355 rfl ?_
                  refine tj_iload_n rfl dL_law_356 rfl ?_
                  refine tj_iconst (v := 2) rfl dL_law_357 (by decide) ?_
                  refine tj_iadd rfl dL_law_358 ?_
                  obtain ⟨hi47, h⟩ := h
                  refine tj_sld hsc rfl dL_law_359 hi47 ?_
                  refine cf_V10 (a := 0) (z := kX10_kind) (As := [_, _]) rfl rfl dL_law_360 rfl ml_L_38 okX10_kind rfl (rm_law hcu hsu rfl) (Nat.le_of_ble_eq_true rfl) (Nat.le_of_ble_eq_true rfl) rfl rfl ?_
                  refine ctX10_kind h (fun r50 M48 t49 h => ?_)
                  refine tj_pop rfl dL_law_363 rfl ?_
                  refine tj_aload_n rfl dL_law_364 rfl ?_
                  refine tj_aload_n rfl dL_law_365 rfl ?_
                  refine tj_iload_n rfl dL_law_366 rfl ?_
                  refine tj_iconst (v := 1) rfl dL_law_367 (by decide) ?_
                  refine tj_iadd rfl dL_law_368 ?_
                  obtain ⟨hi51, h⟩ := h
                  refine tj_sld hsc rfl dL_law_369 hi51 ?_
                  refine tj_aload_n rfl dL_law_370 rfl ?_
                  refine tj_iload_n rfl dL_law_371 rfl ?_
                  refine tj_iconst (v := 2) rfl dL_law_372 (by decide) ?_
                  refine tj_iadd rfl dL_law_373 ?_
                  obtain ⟨hi52, h⟩ := h
                  refine tj_sld hsc rfl dL_law_374 hi52 ?_
                  refine cf_V11 (a := 81) (z := kX11_kind) (As := [_, _]) rfl rfl dL_law_375 rfl ml_L_42 okX11_kind rfl (rm_law hcu hsu rfl) (Nat.le_of_ble_eq_true rfl) (Nat.le_of_ble_eq_true rfl) rfl rfl ?_
                  refine ctX11_kind h (fun r55 M53 t54 h => ?_)
                  refine tj_pop rfl dL_law_378 rfl ?_
                  refine tj_goto (tgt := 1562) rfl dL_law_379 ?_
                  exact bL_law_1562 hsc hcu hsu hp ih h
                · rw [if_neg hc45] at h
                  by_cases hc56 : ((xs (v3 : Int32).toNatClampNeg) &&& 63) = 6
                  · rw [if_pos hc56] at h
                    refine tj_tableIn (tgt := 382) dL_law_32 (by rw [hc56]; decide) (by rw [hc56]; decide) (by rw [hc56]; rfl) rfl ?_
                    refine tj_aload_n rfl dL_law_382 rfl ?_
                    refine tj_aload_n rfl dL_law_383 rfl ?_
                    refine tj_iload_n rfl dL_law_384 rfl ?_
                    refine tj_iconst (v := 1) rfl dL_law_385 (by decide) ?_
                    refine tj_iadd rfl dL_law_386 ?_
                    obtain ⟨hi57, h⟩ := h
                    refine tj_sld hsc rfl dL_law_387 hi57 ?_
                    refine cf_V10 (a := 0) (z := kX10_colour) (As := [_]) rfl rfl dL_law_388 rfl ml_L_43 okX10_colour rfl (rm_law hcu hsu rfl) (Nat.le_of_ble_eq_true rfl) (Nat.le_of_ble_eq_true rfl) rfl rfl ?_
                    refine ctX10_colour h (fun r60 M58 t59 h => ?_)
                    refine tj_pop rfl dL_law_391 rfl ?_
                    refine tj_aload_n rfl dL_law_392 rfl ?_
                    refine tj_aload_n rfl dL_law_393 rfl ?_
                    refine tj_iload_n rfl dL_law_394 rfl ?_
                    refine tj_iconst (v := 1) rfl dL_law_395 (by decide) ?_
                    refine tj_iadd rfl dL_law_396 ?_
                    obtain ⟨hi61, h⟩ := h
                    refine tj_sld hsc rfl dL_law_397 hi61 ?_
                    refine cf_V11 (a := 81) (z := kX11_colour) (As := [_]) rfl rfl dL_law_398 rfl ml_L_46 okX11_colour rfl (rm_law hcu hsu rfl) (Nat.le_of_ble_eq_true rfl) (Nat.le_of_ble_eq_true rfl) rfl rfl ?_
                    refine ctX11_colour h (fun r64 M62 t63 h => ?_)
                    refine tj_pop rfl dL_law_401 rfl ?_
                    refine tj_goto (tgt := 1562) rfl dL_law_402 ?_
                    exact bL_law_1562 hsc hcu hsu hp ih h
                  · rw [if_neg hc56] at h
                    by_cases hc65 : ((xs (v3 : Int32).toNatClampNeg) &&& 63) = 7
                    · rw [if_pos hc65] at h
                      refine tj_tableIn (tgt := 405) dL_law_32 (by rw [hc65]; decide) (by rw [hc65]; decide) (by rw [hc65]; rfl) rfl ?_
                      refine tj_aload_n rfl dL_law_405 rfl ?_
                      refine tj_aload_n rfl dL_law_406 rfl ?_
                      refine tj_iload_n rfl dL_law_407 rfl ?_
                      refine tj_iconst (v := 1) rfl dL_law_408 (by decide) ?_
                      refine tj_iadd rfl dL_law_409 ?_
                      obtain ⟨hi66, h⟩ := h
                      refine tj_sld hsc rfl dL_law_410 hi66 ?_
                      refine cf_V10 (a := 0) (z := kX10_mirror) (As := [_]) rfl rfl dL_law_411 rfl ml_L_47 okX10_mirror rfl (rm_law hcu hsu rfl) (Nat.le_of_ble_eq_true rfl) (Nat.le_of_ble_eq_true rfl) rfl rfl ?_
                      refine ctX10_mirror h (fun r69 M67 t68 h => ?_)
                      refine tj_pop rfl dL_law_414 rfl ?_
                      refine tj_aload_n rfl dL_law_415 rfl ?_
                      refine tj_aload_n rfl dL_law_416 rfl ?_
                      refine tj_iload_n rfl dL_law_417 rfl ?_
                      refine tj_iconst (v := 1) rfl dL_law_418 (by decide) ?_
                      refine tj_iadd rfl dL_law_419 ?_
                      obtain ⟨hi70, h⟩ := h
                      refine tj_sld hsc rfl dL_law_420 hi70 ?_
                      refine cf_V11 (a := 81) (z := kX11_mirror) (As := [_]) rfl rfl dL_law_421 rfl ml_L_50 okX11_mirror rfl (rm_law hcu hsu rfl) (Nat.le_of_ble_eq_true rfl) (Nat.le_of_ble_eq_true rfl) rfl rfl ?_
                      refine ctX11_mirror h (fun r73 M71 t72 h => ?_)
                      refine tj_pop rfl dL_law_424 rfl ?_
                      refine tj_goto (tgt := 1562) rfl dL_law_425 ?_
                      exact bL_law_1562 hsc hcu hsu hp ih h
                    · rw [if_neg hc65] at h
                      by_cases hc74 : ((xs (v3 : Int32).toNatClampNeg) &&& 63) = 8
                      · rw [if_pos hc74] at h
                        refine tj_tableIn (tgt := 428) dL_law_32 (by rw [hc74]; decide) (by rw [hc74]; decide) (by rw [hc74]; rfl) rfl ?_
                        refine tj_aload_n rfl dL_law_428 rfl ?_
                        refine tj_aload_n rfl dL_law_429 rfl ?_
                        refine tj_iload_n rfl dL_law_430 rfl ?_
                        refine tj_iconst (v := 1) rfl dL_law_431 (by decide) ?_
                        refine tj_iadd rfl dL_law_432 ?_
                        obtain ⟨hi75, h⟩ := h
                        refine tj_sld hsc rfl dL_law_433 hi75 ?_
                        refine tj_aload_n rfl dL_law_434 rfl ?_
                        refine tj_iload_n rfl dL_law_435 rfl ?_
                        refine tj_iconst (v := 2) rfl dL_law_436 (by decide) ?_
                        refine tj_iadd rfl dL_law_437 ?_
                        obtain ⟨hi76, h⟩ := h
                        refine tj_sld hsc rfl dL_law_438 hi76 ?_
                        refine cf_V10 (a := 0) (z := kX10_work) (As := [_, _]) rfl rfl dL_law_439 rfl ml_L_51 okX10_work rfl (rm_law hcu hsu rfl) (Nat.le_of_ble_eq_true rfl) (Nat.le_of_ble_eq_true rfl) rfl rfl ?_
                        refine ctX10_work h (fun r79 M77 t78 h => ?_)
                        refine tj_pop rfl dL_law_442 rfl ?_
                        refine tj_aload_n rfl dL_law_443 rfl ?_
                        refine tj_aload_n rfl dL_law_444 rfl ?_
                        refine tj_iload_n rfl dL_law_445 rfl ?_
                        refine tj_iconst (v := 1) rfl dL_law_446 (by decide) ?_
                        refine tj_iadd rfl dL_law_447 ?_
                        obtain ⟨hi80, h⟩ := h
                        refine tj_sld hsc rfl dL_law_448 hi80 ?_
                        refine tj_aload_n rfl dL_law_449 rfl ?_
                        refine tj_iload_n rfl dL_law_450 rfl ?_
                        refine tj_iconst (v := 2) rfl dL_law_451 (by decide) ?_
                        refine tj_iadd rfl dL_law_452 ?_
                        obtain ⟨hi81, h⟩ := h
                        refine tj_sld hsc rfl dL_law_453 hi81 ?_
                        refine cf_V11 (a := 81) (z := kX11_work) (As := [_, _]) rfl rfl dL_law_454 rfl ml_L_54 okX11_work rfl (rm_law hcu hsu rfl) (Nat.le_of_ble_eq_true rfl) (Nat.le_of_ble_eq_true rfl) rfl rfl ?_
                        refine ctX11_work h (fun r84 M82 t83 h => ?_)
                        refine tj_pop rfl dL_law_457 rfl ?_
                        refine tj_goto (tgt := 1562) rfl dL_law_458 ?_
                        exact bL_law_1562 hsc hcu hsu hp ih h
                      · rw [if_neg hc74] at h
                        by_cases hc85 : ((xs (v3 : Int32).toNatClampNeg) &&& 63) = 9
                        · rw [if_pos hc85] at h
                          refine tj_tableIn (tgt := 461) dL_law_32 (by rw [hc85]; decide) (by rw [hc85]; decide) (by rw [hc85]; rfl) rfl ?_
                          refine tj_aload_n rfl dL_law_461 rfl ?_
                          refine tj_aload_n rfl dL_law_462 rfl ?_
                          refine tj_iload_n rfl dL_law_463 rfl ?_
                          refine tj_iconst (v := 1) rfl dL_law_464 (by decide) ?_
                          refine tj_iadd rfl dL_law_465 ?_
                          obtain ⟨hi86, h⟩ := h
                          refine tj_sld hsc rfl dL_law_466 hi86 ?_
                          refine tj_aload_n rfl dL_law_467 rfl ?_
                          refine tj_iload_n rfl dL_law_468 rfl ?_
                          refine tj_iconst (v := 2) rfl dL_law_469 (by decide) ?_
                          refine tj_iadd rfl dL_law_470 ?_
                          obtain ⟨hi87, h⟩ := h
                          refine tj_sld hsc rfl dL_law_471 hi87 ?_
                          refine cf_V10 (a := 0) (z := kX10_thing) (As := [_, _]) rfl rfl dL_law_472 rfl ml_L_55 okX10_thing rfl (rm_law hcu hsu rfl) (Nat.le_of_ble_eq_true rfl) (Nat.le_of_ble_eq_true rfl) rfl rfl ?_
                          refine ctX10_thing h (fun r90 M88 t89 h => ?_)
                          refine tj_pop rfl dL_law_475 rfl ?_
                          refine tj_aload_n rfl dL_law_476 rfl ?_
                          refine tj_aload_n rfl dL_law_477 rfl ?_
                          refine tj_iload_n rfl dL_law_478 rfl ?_
                          refine tj_iconst (v := 1) rfl dL_law_479 (by decide) ?_
                          refine tj_iadd rfl dL_law_480 ?_
                          obtain ⟨hi91, h⟩ := h
                          refine tj_sld hsc rfl dL_law_481 hi91 ?_
                          refine tj_aload_n rfl dL_law_482 rfl ?_
                          refine tj_iload_n rfl dL_law_483 rfl ?_
                          refine tj_iconst (v := 2) rfl dL_law_484 (by decide) ?_
                          refine tj_iadd rfl dL_law_485 ?_
                          obtain ⟨hi92, h⟩ := h
                          refine tj_sld hsc rfl dL_law_486 hi92 ?_
                          refine cf_V11 (a := 81) (z := kX11_thing) (As := [_, _]) rfl rfl dL_law_487 rfl ml_L_58 okX11_thing rfl (rm_law hcu hsu rfl) (Nat.le_of_ble_eq_true rfl) (Nat.le_of_ble_eq_true rfl) rfl rfl ?_
                          refine ctX11_thing h (fun r95 M93 t94 h => ?_)
                          refine tj_pop rfl dL_law_490 rfl ?_
                          refine tj_goto (tgt := 1562) rfl dL_law_491 ?_
                          exact bL_law_1562 hsc hcu hsu hp ih h
                        · rw [if_neg hc85] at h
                          by_cases hc96 : ((xs (v3 : Int32).toNatClampNeg) &&& 63) = 10
                          · rw [if_pos hc96] at h
                            refine tj_tableIn (tgt := 494) dL_law_32 (by rw [hc96]; decide) (by rw [hc96]; decide) (by rw [hc96]; rfl) rfl ?_
                            refine tj_aload_n rfl dL_law_494 rfl ?_
                            refine tj_aload_n rfl dL_law_495 rfl ?_
                            refine tj_iload_n rfl dL_law_496 rfl ?_
                            refine tj_iconst (v := 1) rfl dL_law_497 (by decide) ?_
                            refine tj_iadd rfl dL_law_498 ?_
                            obtain ⟨hi97, h⟩ := h
                            refine tj_sld hsc rfl dL_law_499 hi97 ?_
                            refine tj_aload_n rfl dL_law_500 rfl ?_
                            refine tj_iload_n rfl dL_law_501 rfl ?_
                            refine tj_iconst (v := 2) rfl dL_law_502 (by decide) ?_
                            refine tj_iadd rfl dL_law_503 ?_
                            obtain ⟨hi98, h⟩ := h
                            refine tj_sld hsc rfl dL_law_504 hi98 ?_
                            refine tj_aload_n rfl dL_law_505 rfl ?_
                            refine tj_iload_n rfl dL_law_506 rfl ?_
                            refine tj_iconst (v := 3) rfl dL_law_507 (by decide) ?_
                            refine tj_iadd rfl dL_law_508 ?_
                            obtain ⟨hi99, h⟩ := h
                            refine tj_sld hsc rfl dL_law_509 hi99 ?_
                            refine cf_V10 (a := 0) (z := kX10_put) (As := [_, _, _]) rfl rfl dL_law_510 rfl ml_L_59 okX10_put rfl (rm_law hcu hsu rfl) (Nat.le_of_ble_eq_true rfl) (Nat.le_of_ble_eq_true rfl) rfl rfl ?_
                            refine ctX10_put h (fun r102 M100 t101 h => ?_)
                            refine tj_pop rfl dL_law_513 rfl ?_
                            refine tj_aload_n rfl dL_law_514 rfl ?_
                            refine tj_aload_n rfl dL_law_515 rfl ?_
                            refine tj_iload_n rfl dL_law_516 rfl ?_
                            refine tj_iconst (v := 1) rfl dL_law_517 (by decide) ?_
                            refine tj_iadd rfl dL_law_518 ?_
                            obtain ⟨hi103, h⟩ := h
                            refine tj_sld hsc rfl dL_law_519 hi103 ?_
                            refine tj_aload_n rfl dL_law_520 rfl ?_
                            refine tj_iload_n rfl dL_law_521 rfl ?_
                            refine tj_iconst (v := 2) rfl dL_law_522 (by decide) ?_
                            refine tj_iadd rfl dL_law_523 ?_
                            obtain ⟨hi104, h⟩ := h
                            refine tj_sld hsc rfl dL_law_524 hi104 ?_
                            refine tj_aload_n rfl dL_law_525 rfl ?_
                            refine tj_iload_n rfl dL_law_526 rfl ?_
                            refine tj_iconst (v := 3) rfl dL_law_527 (by decide) ?_
                            refine tj_iadd rfl dL_law_528 ?_
                            obtain ⟨hi105, h⟩ := h
                            refine tj_sld hsc rfl dL_law_529 hi105 ?_
                            refine cf_V11 (a := 81) (z := kX11_put) (As := [_, _, _]) rfl rfl dL_law_530 rfl ml_L_63 okX11_put rfl (rm_law hcu hsu rfl) (Nat.le_of_ble_eq_true rfl) (Nat.le_of_ble_eq_true rfl) rfl rfl ?_
                            refine ctX11_put h (fun r108 M106 t107 h => ?_)
                            refine tj_pop rfl dL_law_533 rfl ?_
                            refine tj_goto (tgt := 1562) rfl dL_law_534 ?_
                            exact bL_law_1562 hsc hcu hsu hp ih h
                          · rw [if_neg hc96] at h
                            by_cases hc109 : ((xs (v3 : Int32).toNatClampNeg) &&& 63) = 11
                            · rw [if_pos hc109] at h
                              refine tj_tableIn (tgt := 537) dL_law_32 (by rw [hc109]; decide) (by rw [hc109]; decide) (by rw [hc109]; rfl) rfl ?_
                              refine tj_aload_n rfl dL_law_537 rfl ?_
                              refine tj_aload_n rfl dL_law_538 rfl ?_
                              refine tj_iload_n rfl dL_law_539 rfl ?_
                              refine tj_iconst (v := 1) rfl dL_law_540 (by decide) ?_
                              refine tj_iadd rfl dL_law_541 ?_
                              obtain ⟨hi110, h⟩ := h
                              refine tj_sld hsc rfl dL_law_542 hi110 ?_
                              refine tj_aload_n rfl dL_law_543 rfl ?_
                              refine tj_iload_n rfl dL_law_544 rfl ?_
                              refine tj_iconst (v := 2) rfl dL_law_545 (by decide) ?_
                              refine tj_iadd rfl dL_law_546 ?_
                              obtain ⟨hi111, h⟩ := h
                              refine tj_sld hsc rfl dL_law_547 hi111 ?_
                              refine cf_V10 (a := 0) (z := kX10_match) (As := [_, _]) rfl rfl dL_law_548 rfl ml_L_64 okX10_match rfl (rm_law hcu hsu rfl) (Nat.le_of_ble_eq_true rfl) (Nat.le_of_ble_eq_true rfl) rfl rfl ?_
                              refine ctX10_match h (fun r114 M112 t113 h => ?_)
                              refine tj_pop rfl dL_law_551 rfl ?_
                              refine tj_aload_n rfl dL_law_552 rfl ?_
                              refine tj_aload_n rfl dL_law_553 rfl ?_
                              refine tj_iload_n rfl dL_law_554 rfl ?_
                              refine tj_iconst (v := 1) rfl dL_law_555 (by decide) ?_
                              refine tj_iadd rfl dL_law_556 ?_
                              obtain ⟨hi115, h⟩ := h
                              refine tj_sld hsc rfl dL_law_557 hi115 ?_
                              refine tj_aload_n rfl dL_law_558 rfl ?_
                              refine tj_iload_n rfl dL_law_559 rfl ?_
                              refine tj_iconst (v := 2) rfl dL_law_560 (by decide) ?_
                              refine tj_iadd rfl dL_law_561 ?_
                              obtain ⟨hi116, h⟩ := h
                              refine tj_sld hsc rfl dL_law_562 hi116 ?_
                              refine cf_V11 (a := 81) (z := kX11_match) (As := [_, _]) rfl rfl dL_law_563 rfl ml_L_67 okX11_match rfl (rm_law hcu hsu rfl) (Nat.le_of_ble_eq_true rfl) (Nat.le_of_ble_eq_true rfl) rfl rfl ?_
                              refine ctX11_match h (fun r119 M117 t118 h => ?_)
                              refine tj_pop rfl dL_law_566 rfl ?_
                              refine tj_goto (tgt := 1562) rfl dL_law_567 ?_
                              exact bL_law_1562 hsc hcu hsu hp ih h
                            · rw [if_neg hc109] at h
                              by_cases hc120 : ((xs (v3 : Int32).toNatClampNeg) &&& 63) = 12
                              · rw [if_pos hc120] at h
                                refine tj_tableIn (tgt := 570) dL_law_32 (by rw [hc120]; decide) (by rw [hc120]; decide) (by rw [hc120]; rfl) rfl ?_
                                refine tj_aload_n rfl dL_law_570 rfl ?_
                                refine cf_V10 (a := 0) (z := kX10_odd) (As := []) rfl rfl dL_law_571 rfl ml_L_68 okX10_odd rfl (rm_law hcu hsu rfl) (Nat.le_of_ble_eq_true rfl) (Nat.le_of_ble_eq_true rfl) rfl rfl ?_
                                refine ctX10_odd h (fun r123 M121 t122 h => ?_)
                                refine tj_pop rfl dL_law_574 rfl ?_
                                refine tj_aload_n rfl dL_law_575 rfl ?_
                                refine cf_V11 (a := 81) (z := kX11_odd) (As := []) rfl rfl dL_law_576 rfl ml_L_71 okX11_odd rfl (rm_law hcu hsu rfl) (Nat.le_of_ble_eq_true rfl) (Nat.le_of_ble_eq_true rfl) rfl rfl ?_
                                refine ctX11_odd h (fun r126 M124 t125 h => ?_)
                                refine tj_pop rfl dL_law_579 rfl ?_
                                refine tj_goto (tgt := 1562) rfl dL_law_580 ?_
                                exact bL_law_1562 hsc hcu hsu hp ih h
                              · rw [if_neg hc120] at h
                                by_cases hc127 : ((xs (v3 : Int32).toNatClampNeg) &&& 63) = 13
                                · rw [if_pos hc127] at h
                                  refine tj_tableIn (tgt := 583) dL_law_32 (by rw [hc127]; decide) (by rw [hc127]; decide) (by rw [hc127]; rfl) rfl ?_
                                  refine tj_aload_n rfl dL_law_583 rfl ?_
                                  refine tj_aload_n rfl dL_law_584 rfl ?_
                                  refine tj_iload_n rfl dL_law_585 rfl ?_
                                  refine tj_iconst (v := 1) rfl dL_law_586 (by decide) ?_
                                  refine tj_iadd rfl dL_law_587 ?_
                                  obtain ⟨hi128, h⟩ := h
                                  refine tj_sld hsc rfl dL_law_588 hi128 ?_
                                  refine cf_V10 (a := 0) (z := kX10_third) (As := [_]) rfl rfl dL_law_589 rfl ml_L_72 okX10_third rfl (rm_law hcu hsu rfl) (Nat.le_of_ble_eq_true rfl) (Nat.le_of_ble_eq_true rfl) rfl rfl ?_
                                  refine ctX10_third h (fun r131 M129 t130 h => ?_)
                                  refine tj_pop rfl dL_law_592 rfl ?_
                                  refine tj_aload_n rfl dL_law_593 rfl ?_
                                  refine tj_aload_n rfl dL_law_594 rfl ?_
                                  refine tj_iload_n rfl dL_law_595 rfl ?_
                                  refine tj_iconst (v := 1) rfl dL_law_596 (by decide) ?_
                                  refine tj_iadd rfl dL_law_597 ?_
                                  obtain ⟨hi132, h⟩ := h
                                  refine tj_sld hsc rfl dL_law_598 hi132 ?_
                                  refine cf_V11 (a := 81) (z := kX11_third) (As := [_]) rfl rfl dL_law_599 rfl ml_L_75 okX11_third rfl (rm_law hcu hsu rfl) (Nat.le_of_ble_eq_true rfl) (Nat.le_of_ble_eq_true rfl) rfl rfl ?_
                                  refine ctX11_third h (fun r135 M133 t134 h => ?_)
                                  refine tj_pop rfl dL_law_602 rfl ?_
                                  refine tj_goto (tgt := 1562) rfl dL_law_603 ?_
                                  exact bL_law_1562 hsc hcu hsu hp ih h
                                · rw [if_neg hc127] at h
                                  by_cases hc136 : ((xs (v3 : Int32).toNatClampNeg) &&& 63) = 14
                                  · rw [if_pos hc136] at h
                                    refine tj_tableIn (tgt := 606) dL_law_32 (by rw [hc136]; decide) (by rw [hc136]; decide) (by rw [hc136]; rfl) rfl ?_
                                    refine tj_aload_n rfl dL_law_606 rfl ?_
                                    refine tj_aload_n rfl dL_law_607 rfl ?_
                                    refine tj_iload_n rfl dL_law_608 rfl ?_
                                    refine tj_iconst (v := 1) rfl dL_law_609 (by decide) ?_
                                    refine tj_iadd rfl dL_law_610 ?_
                                    obtain ⟨hi137, h⟩ := h
                                    refine tj_sld hsc rfl dL_law_611 hi137 ?_
                                    refine tj_aload_n rfl dL_law_612 rfl ?_
                                    refine tj_iload_n rfl dL_law_613 rfl ?_
                                    refine tj_iconst (v := 2) rfl dL_law_614 (by decide) ?_
                                    refine tj_iadd rfl dL_law_615 ?_
                                    obtain ⟨hi138, h⟩ := h
                                    refine tj_sld hsc rfl dL_law_616 hi138 ?_
                                    refine tj_aload_n rfl dL_law_617 rfl ?_
                                    refine tj_iload_n rfl dL_law_618 rfl ?_
                                    refine tj_iconst (v := 3) rfl dL_law_619 (by decide) ?_
                                    refine tj_iadd rfl dL_law_620 ?_
                                    obtain ⟨hi139, h⟩ := h
                                    refine tj_sld hsc rfl dL_law_621 hi139 ?_
                                    refine cf_V10 (a := 0) (z := kX10_after) (As := [_, _, _]) rfl rfl dL_law_622 rfl ml_L_76 okX10_after rfl (rm_law hcu hsu rfl) (Nat.le_of_ble_eq_true rfl) (Nat.le_of_ble_eq_true rfl) rfl rfl ?_
                                    refine ctX10_after h (fun r142 M140 t141 h => ?_)
                                    refine tj_pop rfl dL_law_625 rfl ?_
                                    refine tj_aload_n rfl dL_law_626 rfl ?_
                                    refine tj_aload_n rfl dL_law_627 rfl ?_
                                    refine tj_iload_n rfl dL_law_628 rfl ?_
                                    refine tj_iconst (v := 1) rfl dL_law_629 (by decide) ?_
                                    refine tj_iadd rfl dL_law_630 ?_
                                    obtain ⟨hi143, h⟩ := h
                                    refine tj_sld hsc rfl dL_law_631 hi143 ?_
                                    refine tj_aload_n rfl dL_law_632 rfl ?_
                                    refine tj_iload_n rfl dL_law_633 rfl ?_
                                    refine tj_iconst (v := 2) rfl dL_law_634 (by decide) ?_
                                    refine tj_iadd rfl dL_law_635 ?_
                                    obtain ⟨hi144, h⟩ := h
                                    refine tj_sld hsc rfl dL_law_636 hi144 ?_
                                    refine tj_aload_n rfl dL_law_637 rfl ?_
                                    refine tj_iload_n rfl dL_law_638 rfl ?_
                                    refine tj_iconst (v := 3) rfl dL_law_639 (by decide) ?_
                                    refine tj_iadd rfl dL_law_640 ?_
                                    obtain ⟨hi145, h⟩ := h
                                    refine tj_sld hsc rfl dL_law_641 hi145 ?_
                                    refine cf_V11 (a := 81) (z := kX11_after) (As := [_, _, _]) rfl rfl dL_law_642 rfl ml_L_79 okX11_after rfl (rm_law hcu hsu rfl) (Nat.le_of_ble_eq_true rfl) (Nat.le_of_ble_eq_true rfl) rfl rfl ?_
                                    refine ctX11_after h (fun r148 M146 t147 h => ?_)
                                    refine tj_pop rfl dL_law_645 rfl ?_
                                    refine tj_goto (tgt := 1562) rfl dL_law_646 ?_
                                    exact bL_law_1562 hsc hcu hsu hp ih h
                                  · rw [if_neg hc136] at h
                                    by_cases hc149 : ((xs (v3 : Int32).toNatClampNeg) &&& 63) = 15
                                    · rw [if_pos hc149] at h
                                      refine tj_tableIn (tgt := 649) dL_law_32 (by rw [hc149]; decide) (by rw [hc149]; decide) (by rw [hc149]; rfl) rfl ?_
                                      refine tj_aload_n rfl dL_law_649 rfl ?_
                                      refine tj_aload_n rfl dL_law_650 rfl ?_
                                      refine tj_iload_n rfl dL_law_651 rfl ?_
                                      refine tj_iconst (v := 1) rfl dL_law_652 (by decide) ?_
                                      refine tj_iadd rfl dL_law_653 ?_
                                      obtain ⟨hi150, h⟩ := h
                                      refine tj_sld hsc rfl dL_law_654 hi150 ?_
                                      refine tj_aload_n rfl dL_law_655 rfl ?_
                                      refine tj_iload_n rfl dL_law_656 rfl ?_
                                      refine tj_iconst (v := 2) rfl dL_law_657 (by decide) ?_
                                      refine tj_iadd rfl dL_law_658 ?_
                                      obtain ⟨hi151, h⟩ := h
                                      refine tj_sld hsc rfl dL_law_659 hi151 ?_
                                      refine cf_V10 (a := 0) (z := kX10_paid) (As := [_, _]) rfl rfl dL_law_660 rfl ml_L_80 okX10_paid rfl (rm_law hcu hsu rfl) (Nat.le_of_ble_eq_true rfl) (Nat.le_of_ble_eq_true rfl) rfl rfl ?_
                                      refine ctX10_paid h (fun r154 M152 t153 h => ?_)
                                      refine tj_pop rfl dL_law_663 rfl ?_
                                      refine tj_aload_n rfl dL_law_664 rfl ?_
                                      refine tj_aload_n rfl dL_law_665 rfl ?_
                                      refine tj_iload_n rfl dL_law_666 rfl ?_
                                      refine tj_iconst (v := 1) rfl dL_law_667 (by decide) ?_
                                      refine tj_iadd rfl dL_law_668 ?_
                                      obtain ⟨hi155, h⟩ := h
                                      refine tj_sld hsc rfl dL_law_669 hi155 ?_
                                      refine tj_aload_n rfl dL_law_670 rfl ?_
                                      refine tj_iload_n rfl dL_law_671 rfl ?_
                                      refine tj_iconst (v := 2) rfl dL_law_672 (by decide) ?_
                                      refine tj_iadd rfl dL_law_673 ?_
                                      obtain ⟨hi156, h⟩ := h
                                      refine tj_sld hsc rfl dL_law_674 hi156 ?_
                                      refine cf_V11 (a := 81) (z := kX11_paid) (As := [_, _]) rfl rfl dL_law_675 rfl ml_L_83 okX11_paid rfl (rm_law hcu hsu rfl) (Nat.le_of_ble_eq_true rfl) (Nat.le_of_ble_eq_true rfl) rfl rfl ?_
                                      refine ctX11_paid h (fun r159 M157 t158 h => ?_)
                                      refine tj_pop rfl dL_law_678 rfl ?_
                                      refine tj_goto (tgt := 1562) rfl dL_law_679 ?_
                                      exact bL_law_1562 hsc hcu hsu hp ih h
                                    · rw [if_neg hc149] at h
                                      by_cases hc160 : ((xs (v3 : Int32).toNatClampNeg) &&& 63) = 16
                                      · rw [if_pos hc160] at h
                                        refine tj_tableIn (tgt := 682) dL_law_32 (by rw [hc160]; decide) (by rw [hc160]; decide) (by rw [hc160]; rfl) rfl ?_
                                        refine tj_aload_n rfl dL_law_682 rfl ?_
                                        refine tj_aload_n rfl dL_law_683 rfl ?_
                                        refine tj_iload_n rfl dL_law_684 rfl ?_
                                        refine tj_iconst (v := 1) rfl dL_law_685 (by decide) ?_
                                        refine tj_iadd rfl dL_law_686 ?_
                                        obtain ⟨hi161, h⟩ := h
                                        refine tj_sld hsc rfl dL_law_687 hi161 ?_
                                        refine tj_aload_n rfl dL_law_688 rfl ?_
                                        refine tj_iload_n rfl dL_law_689 rfl ?_
                                        refine tj_iconst (v := 2) rfl dL_law_690 (by decide) ?_
                                        refine tj_iadd rfl dL_law_691 ?_
                                        obtain ⟨hi162, h⟩ := h
                                        refine tj_sld hsc rfl dL_law_692 hi162 ?_
                                        refine cf_V10 (a := 0) (z := kX10_owes) (As := [_, _]) rfl rfl dL_law_693 rfl ml_L_84 okX10_owes rfl (rm_law hcu hsu rfl) (Nat.le_of_ble_eq_true rfl) (Nat.le_of_ble_eq_true rfl) rfl rfl ?_
                                        refine ctX10_owes h (fun r165 M163 t164 h => ?_)
                                        refine tj_pop rfl dL_law_696 rfl ?_
                                        refine tj_aload_n rfl dL_law_697 rfl ?_
                                        refine tj_aload_n rfl dL_law_698 rfl ?_
                                        refine tj_iload_n rfl dL_law_699 rfl ?_
                                        refine tj_iconst (v := 1) rfl dL_law_700 (by decide) ?_
                                        refine tj_iadd rfl dL_law_701 ?_
                                        obtain ⟨hi166, h⟩ := h
                                        refine tj_sld hsc rfl dL_law_702 hi166 ?_
                                        refine tj_aload_n rfl dL_law_703 rfl ?_
                                        refine tj_iload_n rfl dL_law_704 rfl ?_
                                        refine tj_iconst (v := 2) rfl dL_law_705 (by decide) ?_
                                        refine tj_iadd rfl dL_law_706 ?_
                                        obtain ⟨hi167, h⟩ := h
                                        refine tj_sld hsc rfl dL_law_707 hi167 ?_
                                        refine cf_V11 (a := 81) (z := kX11_owes) (As := [_, _]) rfl rfl dL_law_708 rfl ml_L_87 okX11_owes rfl (rm_law hcu hsu rfl) (Nat.le_of_ble_eq_true rfl) (Nat.le_of_ble_eq_true rfl) rfl rfl ?_
                                        refine ctX11_owes h (fun r170 M168 t169 h => ?_)
                                        refine tj_pop rfl dL_law_711 rfl ?_
                                        refine tj_goto (tgt := 1562) rfl dL_law_712 ?_
                                        exact bL_law_1562 hsc hcu hsu hp ih h
                                      · rw [if_neg hc160] at h
                                        by_cases hc171 : ((xs (v3 : Int32).toNatClampNeg) &&& 63) = 17
                                        · rw [if_pos hc171] at h
                                          refine tj_tableIn (tgt := 715) dL_law_32 (by rw [hc171]; decide) (by rw [hc171]; decide) (by rw [hc171]; rfl) rfl ?_
                                          refine tj_aload_n rfl dL_law_715 rfl ?_
                                          refine tj_aload_n rfl dL_law_716 rfl ?_
                                          refine tj_iload_n rfl dL_law_717 rfl ?_
                                          refine tj_iconst (v := 1) rfl dL_law_718 (by decide) ?_
                                          refine tj_iadd rfl dL_law_719 ?_
                                          obtain ⟨hi172, h⟩ := h
                                          refine tj_sld hsc rfl dL_law_720 hi172 ?_
                                          refine cf_V10 (a := 0) (z := kX10_fate) (As := [_]) rfl rfl dL_law_721 rfl ml_L_88 okX10_fate rfl (rm_law hcu hsu rfl) (Nat.le_of_ble_eq_true rfl) (Nat.le_of_ble_eq_true rfl) rfl rfl ?_
                                          refine ctX10_fate h (fun r175 M173 t174 h => ?_)
                                          refine tj_pop rfl dL_law_724 rfl ?_
                                          refine tj_aload_n rfl dL_law_725 rfl ?_
                                          refine tj_aload_n rfl dL_law_726 rfl ?_
                                          refine tj_iload_n rfl dL_law_727 rfl ?_
                                          refine tj_iconst (v := 1) rfl dL_law_728 (by decide) ?_
                                          refine tj_iadd rfl dL_law_729 ?_
                                          obtain ⟨hi176, h⟩ := h
                                          refine tj_sld hsc rfl dL_law_730 hi176 ?_
                                          refine cf_V11 (a := 81) (z := kX11_fate) (As := [_]) rfl rfl dL_law_731 rfl ml_L_91 okX11_fate rfl (rm_law hcu hsu rfl) (Nat.le_of_ble_eq_true rfl) (Nat.le_of_ble_eq_true rfl) rfl rfl ?_
                                          refine ctX11_fate h (fun r179 M177 t178 h => ?_)
                                          refine tj_pop rfl dL_law_734 rfl ?_
                                          refine tj_goto (tgt := 1562) rfl dL_law_735 ?_
                                          exact bL_law_1562 hsc hcu hsu hp ih h
                                        · rw [if_neg hc171] at h
                                          by_cases hc180 : ((xs (v3 : Int32).toNatClampNeg) &&& 63) = 18
                                          · rw [if_pos hc180] at h
                                            refine tj_tableIn (tgt := 738) dL_law_32 (by rw [hc180]; decide) (by rw [hc180]; decide) (by rw [hc180]; rfl) rfl ?_
                                            refine tj_aload_n rfl dL_law_738 rfl ?_
                                            refine tj_aload_n rfl dL_law_739 rfl ?_
                                            refine tj_iload_n rfl dL_law_740 rfl ?_
                                            refine tj_iconst (v := 1) rfl dL_law_741 (by decide) ?_
                                            refine tj_iadd rfl dL_law_742 ?_
                                            obtain ⟨hi181, h⟩ := h
                                            refine tj_sld hsc rfl dL_law_743 hi181 ?_
                                            refine cf_V10 (a := 0) (z := kX10_uneven) (As := [_]) rfl rfl dL_law_744 rfl ml_L_92 okX10_uneven rfl (rm_law hcu hsu rfl) (Nat.le_of_ble_eq_true rfl) (Nat.le_of_ble_eq_true rfl) rfl rfl ?_
                                            refine ctX10_uneven h (fun r184 M182 t183 h => ?_)
                                            refine tj_pop rfl dL_law_747 rfl ?_
                                            refine tj_aload_n rfl dL_law_748 rfl ?_
                                            refine tj_aload_n rfl dL_law_749 rfl ?_
                                            refine tj_iload_n rfl dL_law_750 rfl ?_
                                            refine tj_iconst (v := 1) rfl dL_law_751 (by decide) ?_
                                            refine tj_iadd rfl dL_law_752 ?_
                                            obtain ⟨hi185, h⟩ := h
                                            refine tj_sld hsc rfl dL_law_753 hi185 ?_
                                            refine cf_V11 (a := 81) (z := kX11_uneven) (As := [_]) rfl rfl dL_law_754 rfl ml_L_95 okX11_uneven rfl (rm_law hcu hsu rfl) (Nat.le_of_ble_eq_true rfl) (Nat.le_of_ble_eq_true rfl) rfl rfl ?_
                                            refine ctX11_uneven h (fun r188 M186 t187 h => ?_)
                                            refine tj_pop rfl dL_law_757 rfl ?_
                                            refine tj_goto (tgt := 1562) rfl dL_law_758 ?_
                                            exact bL_law_1562 hsc hcu hsu hp ih h
                                          · rw [if_neg hc180] at h
                                            by_cases hc189 : ((xs (v3 : Int32).toNatClampNeg) &&& 63) = 19
                                            · rw [if_pos hc189] at h
                                              refine tj_tableIn (tgt := 761) dL_law_32 (by rw [hc189]; decide) (by rw [hc189]; decide) (by rw [hc189]; rfl) rfl ?_
                                              refine tj_aload_n rfl dL_law_761 rfl ?_
                                              refine cf_V10 (a := 0) (z := kX10_go) (As := []) rfl rfl dL_law_762 rfl ml_L_96 okX10_go rfl (rm_law hcu hsu rfl) (Nat.le_of_ble_eq_true rfl) (Nat.le_of_ble_eq_true rfl) rfl rfl ?_
                                              refine ctX10_go h (fun r192 M190 t191 h => ?_)
                                              refine tj_pop rfl dL_law_765 rfl ?_
                                              refine tj_aload_n rfl dL_law_766 rfl ?_
                                              refine cf_V11 (a := 81) (z := kX11_go) (As := []) rfl rfl dL_law_767 rfl ml_L_99 okX11_go rfl (rm_law hcu hsu rfl) (Nat.le_of_ble_eq_true rfl) (Nat.le_of_ble_eq_true rfl) rfl rfl ?_
                                              refine ctX11_go h (fun r195 M193 t194 h => ?_)
                                              refine tj_pop rfl dL_law_770 rfl ?_
                                              refine tj_goto (tgt := 1562) rfl dL_law_771 ?_
                                              exact bL_law_1562 hsc hcu hsu hp ih h
                                            · rw [if_neg hc189] at h
                                              by_cases hc196 : ((xs (v3 : Int32).toNatClampNeg) &&& 63) = 20
                                              · rw [if_pos hc196] at h
                                                refine tj_tableIn (tgt := 774) dL_law_32 (by rw [hc196]; decide) (by rw [hc196]; decide) (by rw [hc196]; rfl) rfl ?_
                                                refine tj_aload_n rfl dL_law_774 rfl ?_
                                                refine tj_aload_n rfl dL_law_775 rfl ?_
                                                refine tj_iload_n rfl dL_law_776 rfl ?_
                                                refine tj_iconst (v := 1) rfl dL_law_777 (by decide) ?_
                                                refine tj_iadd rfl dL_law_778 ?_
                                                obtain ⟨hi197, h⟩ := h
                                                refine tj_sld hsc rfl dL_law_779 hi197 ?_
                                                refine tj_aload_n rfl dL_law_780 rfl ?_
                                                refine tj_iload_n rfl dL_law_781 rfl ?_
                                                refine tj_iconst (v := 2) rfl dL_law_782 (by decide) ?_
                                                refine tj_iadd rfl dL_law_783 ?_
                                                obtain ⟨hi198, h⟩ := h
                                                refine tj_sld hsc rfl dL_law_784 hi198 ?_
                                                refine tj_aload_n rfl dL_law_785 rfl ?_
                                                refine tj_iload_n rfl dL_law_786 rfl ?_
                                                refine tj_iconst (v := 3) rfl dL_law_787 (by decide) ?_
                                                refine tj_iadd rfl dL_law_788 ?_
                                                obtain ⟨hi199, h⟩ := h
                                                refine tj_sld hsc rfl dL_law_789 hi199 ?_
                                                refine tj_aload_n rfl dL_law_790 rfl ?_
                                                refine tj_iload_n rfl dL_law_791 rfl ?_
                                                refine tj_iconst (v := 4) rfl dL_law_792 (by decide) ?_
                                                refine tj_iadd rfl dL_law_793 ?_
                                                obtain ⟨hi200, h⟩ := h
                                                refine tj_sld hsc rfl dL_law_794 hi200 ?_
                                                refine cf_V10 (a := 0) (z := kX10_plot) (As := [_, _, _, _]) rfl rfl dL_law_795 rfl ml_L_100 okX10_plot rfl (rm_law hcu hsu rfl) (Nat.le_of_ble_eq_true rfl) (Nat.le_of_ble_eq_true rfl) rfl rfl ?_
                                                refine ctX10_plot h (fun r203 M201 t202 h => ?_)
                                                refine tj_pop rfl dL_law_798 rfl ?_
                                                refine tj_aload_n rfl dL_law_799 rfl ?_
                                                refine tj_aload_n rfl dL_law_800 rfl ?_
                                                refine tj_iload_n rfl dL_law_801 rfl ?_
                                                refine tj_iconst (v := 1) rfl dL_law_802 (by decide) ?_
                                                refine tj_iadd rfl dL_law_803 ?_
                                                obtain ⟨hi204, h⟩ := h
                                                refine tj_sld hsc rfl dL_law_804 hi204 ?_
                                                refine tj_aload_n rfl dL_law_805 rfl ?_
                                                refine tj_iload_n rfl dL_law_806 rfl ?_
                                                refine tj_iconst (v := 2) rfl dL_law_807 (by decide) ?_
                                                refine tj_iadd rfl dL_law_808 ?_
                                                obtain ⟨hi205, h⟩ := h
                                                refine tj_sld hsc rfl dL_law_809 hi205 ?_
                                                refine tj_aload_n rfl dL_law_810 rfl ?_
                                                refine tj_iload_n rfl dL_law_811 rfl ?_
                                                refine tj_iconst (v := 3) rfl dL_law_812 (by decide) ?_
                                                refine tj_iadd rfl dL_law_813 ?_
                                                obtain ⟨hi206, h⟩ := h
                                                refine tj_sld hsc rfl dL_law_814 hi206 ?_
                                                refine tj_aload_n rfl dL_law_815 rfl ?_
                                                refine tj_iload_n rfl dL_law_816 rfl ?_
                                                refine tj_iconst (v := 4) rfl dL_law_817 (by decide) ?_
                                                refine tj_iadd rfl dL_law_818 ?_
                                                obtain ⟨hi207, h⟩ := h
                                                refine tj_sld hsc rfl dL_law_819 hi207 ?_
                                                refine cf_V11 (a := 81) (z := kX11_plot) (As := [_, _, _, _]) rfl rfl dL_law_820 rfl ml_L_104 okX11_plot rfl (rm_law hcu hsu rfl) (Nat.le_of_ble_eq_true rfl) (Nat.le_of_ble_eq_true rfl) rfl rfl ?_
                                                refine ctX11_plot h (fun r210 M208 t209 h => ?_)
                                                refine tj_pop rfl dL_law_823 rfl ?_
                                                refine tj_goto (tgt := 1562) rfl dL_law_824 ?_
                                                exact bL_law_1562 hsc hcu hsu hp ih h
                                              · rw [if_neg hc196] at h
                                                by_cases hc211 : ((xs (v3 : Int32).toNatClampNeg) &&& 63) = 21
                                                · rw [if_pos hc211] at h
                                                  refine tj_tableIn (tgt := 827) dL_law_32 (by rw [hc211]; decide) (by rw [hc211]; decide) (by rw [hc211]; rfl) rfl ?_
                                                  refine tj_aload_n rfl dL_law_827 rfl ?_
                                                  refine tj_aload_n rfl dL_law_828 rfl ?_
                                                  refine tj_iload_n rfl dL_law_829 rfl ?_
                                                  refine tj_iconst (v := 1) rfl dL_law_830 (by decide) ?_
                                                  refine tj_iadd rfl dL_law_831 ?_
                                                  obtain ⟨hi212, h⟩ := h
                                                  refine tj_sld hsc rfl dL_law_832 hi212 ?_
                                                  refine tj_aload_n rfl dL_law_833 rfl ?_
                                                  refine tj_iload_n rfl dL_law_834 rfl ?_
                                                  refine tj_iconst (v := 2) rfl dL_law_835 (by decide) ?_
                                                  refine tj_iadd rfl dL_law_836 ?_
                                                  obtain ⟨hi213, h⟩ := h
                                                  refine tj_sld hsc rfl dL_law_837 hi213 ?_
                                                  refine tj_aload_n rfl dL_law_838 rfl ?_
                                                  refine tj_iload_n rfl dL_law_839 rfl ?_
                                                  refine tj_iconst (v := 3) rfl dL_law_840 (by decide) ?_
                                                  refine tj_iadd rfl dL_law_841 ?_
                                                  obtain ⟨hi214, h⟩ := h
                                                  refine tj_sld hsc rfl dL_law_842 hi214 ?_
                                                  refine cf_V10 (a := 0) (z := kX10_gain) (As := [_, _, _]) rfl rfl dL_law_843 rfl ml_L_105 okX10_gain rfl (rm_law hcu hsu rfl) (Nat.le_of_ble_eq_true rfl) (Nat.le_of_ble_eq_true rfl) rfl rfl ?_
                                                  refine ctX10_gain h (fun r217 M215 t216 h => ?_)
                                                  refine tj_pop rfl dL_law_846 rfl ?_
                                                  refine tj_aload_n rfl dL_law_847 rfl ?_
                                                  refine tj_aload_n rfl dL_law_848 rfl ?_
                                                  refine tj_iload_n rfl dL_law_849 rfl ?_
                                                  refine tj_iconst (v := 1) rfl dL_law_850 (by decide) ?_
                                                  refine tj_iadd rfl dL_law_851 ?_
                                                  obtain ⟨hi218, h⟩ := h
                                                  refine tj_sld hsc rfl dL_law_852 hi218 ?_
                                                  refine tj_aload_n rfl dL_law_853 rfl ?_
                                                  refine tj_iload_n rfl dL_law_854 rfl ?_
                                                  refine tj_iconst (v := 2) rfl dL_law_855 (by decide) ?_
                                                  refine tj_iadd rfl dL_law_856 ?_
                                                  obtain ⟨hi219, h⟩ := h
                                                  refine tj_sld hsc rfl dL_law_857 hi219 ?_
                                                  refine tj_aload_n rfl dL_law_858 rfl ?_
                                                  refine tj_iload_n rfl dL_law_859 rfl ?_
                                                  refine tj_iconst (v := 3) rfl dL_law_860 (by decide) ?_
                                                  refine tj_iadd rfl dL_law_861 ?_
                                                  obtain ⟨hi220, h⟩ := h
                                                  refine tj_sld hsc rfl dL_law_862 hi220 ?_
                                                  refine cf_V11 (a := 81) (z := kX11_gain) (As := [_, _, _]) rfl rfl dL_law_863 rfl ml_L_108 okX11_gain rfl (rm_law hcu hsu rfl) (Nat.le_of_ble_eq_true rfl) (Nat.le_of_ble_eq_true rfl) rfl rfl ?_
                                                  refine ctX11_gain h (fun r223 M221 t222 h => ?_)
                                                  refine tj_pop rfl dL_law_866 rfl ?_
                                                  refine tj_goto (tgt := 1562) rfl dL_law_867 ?_
                                                  exact bL_law_1562 hsc hcu hsu hp ih h
                                                · rw [if_neg hc211] at h
                                                  by_cases hc224 : ((xs (v3 : Int32).toNatClampNeg) &&& 63) = 22
                                                  · rw [if_pos hc224] at h
                                                    refine tj_tableIn (tgt := 870) dL_law_32 (by rw [hc224]; decide) (by rw [hc224]; decide) (by rw [hc224]; rfl) rfl ?_
                                                    refine tj_aload_n rfl dL_law_870 rfl ?_
                                                    refine tj_aload_n rfl dL_law_871 rfl ?_
                                                    refine tj_iload_n rfl dL_law_872 rfl ?_
                                                    refine tj_iconst (v := 1) rfl dL_law_873 (by decide) ?_
                                                    refine tj_iadd rfl dL_law_874 ?_
                                                    obtain ⟨hi225, h⟩ := h
                                                    refine tj_sld hsc rfl dL_law_875 hi225 ?_
                                                    refine tj_aload_n rfl dL_law_876 rfl ?_
                                                    refine tj_iload_n rfl dL_law_877 rfl ?_
                                                    refine tj_iconst (v := 2) rfl dL_law_878 (by decide) ?_
                                                    refine tj_iadd rfl dL_law_879 ?_
                                                    obtain ⟨hi226, h⟩ := h
                                                    refine tj_sld hsc rfl dL_law_880 hi226 ?_
                                                    refine tj_aload_n rfl dL_law_881 rfl ?_
                                                    refine tj_iload_n rfl dL_law_882 rfl ?_
                                                    refine tj_iconst (v := 3) rfl dL_law_883 (by decide) ?_
                                                    refine tj_iadd rfl dL_law_884 ?_
                                                    obtain ⟨hi227, h⟩ := h
                                                    refine tj_sld hsc rfl dL_law_885 hi227 ?_
                                                    refine cf_V10 (a := 0) (z := kX10_begin) (As := [_, _, _]) rfl rfl dL_law_886 rfl ml_L_109 okX10_begin rfl (rm_law hcu hsu rfl) (Nat.le_of_ble_eq_true rfl) (Nat.le_of_ble_eq_true rfl) rfl rfl ?_
                                                    refine ctX10_begin h (fun r230 M228 t229 h => ?_)
                                                    refine tj_pop rfl dL_law_889 rfl ?_
                                                    refine tj_aload_n rfl dL_law_890 rfl ?_
                                                    refine tj_aload_n rfl dL_law_891 rfl ?_
                                                    refine tj_iload_n rfl dL_law_892 rfl ?_
                                                    refine tj_iconst (v := 1) rfl dL_law_893 (by decide) ?_
                                                    refine tj_iadd rfl dL_law_894 ?_
                                                    obtain ⟨hi231, h⟩ := h
                                                    refine tj_sld hsc rfl dL_law_895 hi231 ?_
                                                    refine tj_aload_n rfl dL_law_896 rfl ?_
                                                    refine tj_iload_n rfl dL_law_897 rfl ?_
                                                    refine tj_iconst (v := 2) rfl dL_law_898 (by decide) ?_
                                                    refine tj_iadd rfl dL_law_899 ?_
                                                    obtain ⟨hi232, h⟩ := h
                                                    refine tj_sld hsc rfl dL_law_900 hi232 ?_
                                                    refine tj_aload_n rfl dL_law_901 rfl ?_
                                                    refine tj_iload_n rfl dL_law_902 rfl ?_
                                                    refine tj_iconst (v := 3) rfl dL_law_903 (by decide) ?_
                                                    refine tj_iadd rfl dL_law_904 ?_
                                                    obtain ⟨hi233, h⟩ := h
                                                    refine tj_sld hsc rfl dL_law_905 hi233 ?_
                                                    refine cf_V11 (a := 81) (z := kX11_begin) (As := [_, _, _]) rfl rfl dL_law_906 rfl ml_L_112 okX11_begin rfl (rm_law hcu hsu rfl) (Nat.le_of_ble_eq_true rfl) (Nat.le_of_ble_eq_true rfl) rfl rfl ?_
                                                    refine ctX11_begin h (fun r236 M234 t235 h => ?_)
                                                    refine tj_pop rfl dL_law_909 rfl ?_
                                                    refine tj_goto (tgt := 1562) rfl dL_law_910 ?_
                                                    exact bL_law_1562 hsc hcu hsu hp ih h
                                                  · rw [if_neg hc224] at h
                                                    by_cases hc237 : ((xs (v3 : Int32).toNatClampNeg) &&& 63) = 23
                                                    · rw [if_pos hc237] at h
                                                      refine tj_tableIn (tgt := 913) dL_law_32 (by rw [hc237]; decide) (by rw [hc237]; decide) (by rw [hc237]; rfl) rfl ?_
                                                      refine tj_aload_n rfl dL_law_913 rfl ?_
                                                      refine tj_aload_n rfl dL_law_914 rfl ?_
                                                      refine tj_iload_n rfl dL_law_915 rfl ?_
                                                      refine tj_iconst (v := 1) rfl dL_law_916 (by decide) ?_
                                                      refine tj_iadd rfl dL_law_917 ?_
                                                      obtain ⟨hi238, h⟩ := h
                                                      refine tj_sld hsc rfl dL_law_918 hi238 ?_
                                                      refine tj_aload_n rfl dL_law_919 rfl ?_
                                                      refine tj_iload_n rfl dL_law_920 rfl ?_
                                                      refine tj_iconst (v := 2) rfl dL_law_921 (by decide) ?_
                                                      refine tj_iadd rfl dL_law_922 ?_
                                                      obtain ⟨hi239, h⟩ := h
                                                      refine tj_sld hsc rfl dL_law_923 hi239 ?_
                                                      refine cf_V10 (a := 0) (z := kX10_waits) (As := [_, _]) rfl rfl dL_law_924 rfl ml_L_113 okX10_waits rfl (rm_law hcu hsu rfl) (Nat.le_of_ble_eq_true rfl) (Nat.le_of_ble_eq_true rfl) rfl rfl ?_
                                                      refine ctX10_waits h (fun r242 M240 t241 h => ?_)
                                                      refine tj_pop rfl dL_law_927 rfl ?_
                                                      refine tj_aload_n rfl dL_law_928 rfl ?_
                                                      refine tj_aload_n rfl dL_law_929 rfl ?_
                                                      refine tj_iload_n rfl dL_law_930 rfl ?_
                                                      refine tj_iconst (v := 1) rfl dL_law_931 (by decide) ?_
                                                      refine tj_iadd rfl dL_law_932 ?_
                                                      obtain ⟨hi243, h⟩ := h
                                                      refine tj_sld hsc rfl dL_law_933 hi243 ?_
                                                      refine tj_aload_n rfl dL_law_934 rfl ?_
                                                      refine tj_iload_n rfl dL_law_935 rfl ?_
                                                      refine tj_iconst (v := 2) rfl dL_law_936 (by decide) ?_
                                                      refine tj_iadd rfl dL_law_937 ?_
                                                      obtain ⟨hi244, h⟩ := h
                                                      refine tj_sld hsc rfl dL_law_938 hi244 ?_
                                                      refine cf_V11 (a := 81) (z := kX11_waits) (As := [_, _]) rfl rfl dL_law_939 rfl ml_L_116 okX11_waits rfl (rm_law hcu hsu rfl) (Nat.le_of_ble_eq_true rfl) (Nat.le_of_ble_eq_true rfl) rfl rfl ?_
                                                      refine ctX11_waits h (fun r247 M245 t246 h => ?_)
                                                      refine tj_pop rfl dL_law_942 rfl ?_
                                                      refine tj_goto (tgt := 1562) rfl dL_law_943 ?_
                                                      exact bL_law_1562 hsc hcu hsu hp ih h
                                                    · rw [if_neg hc237] at h
                                                      by_cases hc248 : ((xs (v3 : Int32).toNatClampNeg) &&& 63) = 24
                                                      · rw [if_pos hc248] at h
                                                        refine tj_tableIn (tgt := 946) dL_law_32 (by rw [hc248]; decide) (by rw [hc248]; decide) (by rw [hc248]; rfl) rfl ?_
                                                        refine tj_aload_n rfl dL_law_946 rfl ?_
                                                        refine tj_aload_n rfl dL_law_947 rfl ?_
                                                        refine tj_iload_n rfl dL_law_948 rfl ?_
                                                        refine tj_iconst (v := 1) rfl dL_law_949 (by decide) ?_
                                                        refine tj_iadd rfl dL_law_950 ?_
                                                        obtain ⟨hi249, h⟩ := h
                                                        refine tj_sld hsc rfl dL_law_951 hi249 ?_
                                                        refine tj_aload_n rfl dL_law_952 rfl ?_
                                                        refine tj_iload_n rfl dL_law_953 rfl ?_
                                                        refine tj_iconst (v := 2) rfl dL_law_954 (by decide) ?_
                                                        refine tj_iadd rfl dL_law_955 ?_
                                                        obtain ⟨hi250, h⟩ := h
                                                        refine tj_sld hsc rfl dL_law_956 hi250 ?_
                                                        refine cf_V10 (a := 0) (z := kX10_vex) (As := [_, _]) rfl rfl dL_law_957 rfl ml_L_117 okX10_vex rfl (rm_law hcu hsu rfl) (Nat.le_of_ble_eq_true rfl) (Nat.le_of_ble_eq_true rfl) rfl rfl ?_
                                                        refine ctX10_vex h (fun r253 M251 t252 h => ?_)
                                                        refine tj_pop rfl dL_law_960 rfl ?_
                                                        refine tj_aload_n rfl dL_law_961 rfl ?_
                                                        refine tj_aload_n rfl dL_law_962 rfl ?_
                                                        refine tj_iload_n rfl dL_law_963 rfl ?_
                                                        refine tj_iconst (v := 1) rfl dL_law_964 (by decide) ?_
                                                        refine tj_iadd rfl dL_law_965 ?_
                                                        obtain ⟨hi254, h⟩ := h
                                                        refine tj_sld hsc rfl dL_law_966 hi254 ?_
                                                        refine tj_aload_n rfl dL_law_967 rfl ?_
                                                        refine tj_iload_n rfl dL_law_968 rfl ?_
                                                        refine tj_iconst (v := 2) rfl dL_law_969 (by decide) ?_
                                                        refine tj_iadd rfl dL_law_970 ?_
                                                        obtain ⟨hi255, h⟩ := h
                                                        refine tj_sld hsc rfl dL_law_971 hi255 ?_
                                                        refine cf_V11 (a := 81) (z := kX11_vex) (As := [_, _]) rfl rfl dL_law_972 rfl ml_L_120 okX11_vex rfl (rm_law hcu hsu rfl) (Nat.le_of_ble_eq_true rfl) (Nat.le_of_ble_eq_true rfl) rfl rfl ?_
                                                        refine ctX11_vex h (fun r258 M256 t257 h => ?_)
                                                        refine tj_pop rfl dL_law_975 rfl ?_
                                                        refine tj_goto (tgt := 1562) rfl dL_law_976 ?_
                                                        exact bL_law_1562 hsc hcu hsu hp ih h
                                                      · rw [if_neg hc248] at h
                                                        by_cases hc259 : ((xs (v3 : Int32).toNatClampNeg) &&& 63) = 25
                                                        · rw [if_pos hc259] at h
                                                          refine tj_tableIn (tgt := 979) dL_law_32 (by rw [hc259]; decide) (by rw [hc259]; decide) (by rw [hc259]; rfl) rfl ?_
                                                          refine tj_aload_n rfl dL_law_979 rfl ?_
                                                          refine tj_aload_n rfl dL_law_980 rfl ?_
                                                          refine tj_iload_n rfl dL_law_981 rfl ?_
                                                          refine tj_iconst (v := 1) rfl dL_law_982 (by decide) ?_
                                                          refine tj_iadd rfl dL_law_983 ?_
                                                          obtain ⟨hi260, h⟩ := h
                                                          refine tj_sld hsc rfl dL_law_984 hi260 ?_
                                                          refine tj_aload_n rfl dL_law_985 rfl ?_
                                                          refine tj_iload_n rfl dL_law_986 rfl ?_
                                                          refine tj_iconst (v := 2) rfl dL_law_987 (by decide) ?_
                                                          refine tj_iadd rfl dL_law_988 ?_
                                                          obtain ⟨hi261, h⟩ := h
                                                          refine tj_sld hsc rfl dL_law_989 hi261 ?_
                                                          refine cf_V10 (a := 0) (z := kX10_want) (As := [_, _]) rfl rfl dL_law_990 rfl ml_L_121 okX10_want rfl (rm_law hcu hsu rfl) (Nat.le_of_ble_eq_true rfl) (Nat.le_of_ble_eq_true rfl) rfl rfl ?_
                                                          refine ctX10_want h (fun r264 M262 t263 h => ?_)
                                                          refine tj_pop rfl dL_law_993 rfl ?_
                                                          refine tj_aload_n rfl dL_law_994 rfl ?_
                                                          refine tj_aload_n rfl dL_law_995 rfl ?_
                                                          refine tj_iload_n rfl dL_law_996 rfl ?_
                                                          refine tj_iconst (v := 1) rfl dL_law_997 (by decide) ?_
                                                          refine tj_iadd rfl dL_law_998 ?_
                                                          obtain ⟨hi265, h⟩ := h
                                                          refine tj_sld hsc rfl dL_law_999 hi265 ?_
                                                          refine tj_aload_n rfl dL_law_1000 rfl ?_
                                                          refine tj_iload_n rfl dL_law_1001 rfl ?_
                                                          refine tj_iconst (v := 2) rfl dL_law_1002 (by decide) ?_
                                                          refine tj_iadd rfl dL_law_1003 ?_
                                                          obtain ⟨hi266, h⟩ := h
                                                          refine tj_sld hsc rfl dL_law_1004 hi266 ?_
                                                          refine cf_V11 (a := 81) (z := kX11_want) (As := [_, _]) rfl rfl dL_law_1005 rfl ml_L_124 okX11_want rfl (rm_law hcu hsu rfl) (Nat.le_of_ble_eq_true rfl) (Nat.le_of_ble_eq_true rfl) rfl rfl ?_
                                                          refine ctX11_want h (fun r269 M267 t268 h => ?_)
                                                          refine tj_pop rfl dL_law_1008 rfl ?_
                                                          refine tj_goto (tgt := 1562) rfl dL_law_1009 ?_
                                                          exact bL_law_1562 hsc hcu hsu hp ih h
                                                        · rw [if_neg hc259] at h
                                                          by_cases hc270 : ((xs (v3 : Int32).toNatClampNeg) &&& 63) = 26
                                                          · rw [if_pos hc270] at h
                                                            refine tj_tableIn (tgt := 1012) dL_law_32 (by rw [hc270]; decide) (by rw [hc270]; decide) (by rw [hc270]; rfl) rfl ?_
                                                            refine tj_aload_n rfl dL_law_1012 rfl ?_
                                                            refine cf_V10 (a := 0) (z := kX10_content) (As := []) rfl rfl dL_law_1013 rfl ml_L_125 okX10_content rfl (rm_law hcu hsu rfl) (Nat.le_of_ble_eq_true rfl) (Nat.le_of_ble_eq_true rfl) rfl rfl ?_
                                                            refine ctX10_content h (fun r273 M271 t272 h => ?_)
                                                            refine tj_pop rfl dL_law_1016 rfl ?_
                                                            refine tj_aload_n rfl dL_law_1017 rfl ?_
                                                            refine cf_V11 (a := 81) (z := kX11_content) (As := []) rfl rfl dL_law_1018 rfl ml_L_128 okX11_content rfl (rm_law hcu hsu rfl) (Nat.le_of_ble_eq_true rfl) (Nat.le_of_ble_eq_true rfl) rfl rfl ?_
                                                            refine ctX11_content h (fun r276 M274 t275 h => ?_)
                                                            refine tj_pop rfl dL_law_1021 rfl ?_
                                                            refine tj_goto (tgt := 1562) rfl dL_law_1022 ?_
                                                            exact bL_law_1562 hsc hcu hsu hp ih h
                                                          · rw [if_neg hc270] at h
                                                            by_cases hc277 : ((xs (v3 : Int32).toNatClampNeg) &&& 63) = 27
                                                            · rw [if_pos hc277] at h
                                                              refine tj_tableIn (tgt := 1025) dL_law_32 (by rw [hc277]; decide) (by rw [hc277]; decide) (by rw [hc277]; rfl) rfl ?_
                                                              refine tj_aload_n rfl dL_law_1025 rfl ?_
                                                              refine tj_aload_n rfl dL_law_1026 rfl ?_
                                                              refine tj_iload_n rfl dL_law_1027 rfl ?_
                                                              refine tj_iconst (v := 1) rfl dL_law_1028 (by decide) ?_
                                                              refine tj_iadd rfl dL_law_1029 ?_
                                                              obtain ⟨hi278, h⟩ := h
                                                              refine tj_sld hsc rfl dL_law_1030 hi278 ?_
                                                              refine tj_aload_n rfl dL_law_1031 rfl ?_
                                                              refine tj_iload_n rfl dL_law_1032 rfl ?_
                                                              refine tj_iconst (v := 2) rfl dL_law_1033 (by decide) ?_
                                                              refine tj_iadd rfl dL_law_1034 ?_
                                                              obtain ⟨hi279, h⟩ := h
                                                              refine tj_sld hsc rfl dL_law_1035 hi279 ?_
                                                              refine cf_V10 (a := 0) (z := kX10_plan) (As := [_, _]) rfl rfl dL_law_1036 rfl ml_L_129 okX10_plan rfl (rm_law hcu hsu rfl) (Nat.le_of_ble_eq_true rfl) (Nat.le_of_ble_eq_true rfl) rfl rfl ?_
                                                              refine ctX10_plan h (fun r282 M280 t281 h => ?_)
                                                              refine tj_pop rfl dL_law_1039 rfl ?_
                                                              refine tj_aload_n rfl dL_law_1040 rfl ?_
                                                              refine tj_aload_n rfl dL_law_1041 rfl ?_
                                                              refine tj_iload_n rfl dL_law_1042 rfl ?_
                                                              refine tj_iconst (v := 1) rfl dL_law_1043 (by decide) ?_
                                                              refine tj_iadd rfl dL_law_1044 ?_
                                                              obtain ⟨hi283, h⟩ := h
                                                              refine tj_sld hsc rfl dL_law_1045 hi283 ?_
                                                              refine tj_aload_n rfl dL_law_1046 rfl ?_
                                                              refine tj_iload_n rfl dL_law_1047 rfl ?_
                                                              refine tj_iconst (v := 2) rfl dL_law_1048 (by decide) ?_
                                                              refine tj_iadd rfl dL_law_1049 ?_
                                                              obtain ⟨hi284, h⟩ := h
                                                              refine tj_sld hsc rfl dL_law_1050 hi284 ?_
                                                              refine cf_V11 (a := 81) (z := kX11_plan) (As := [_, _]) rfl rfl dL_law_1051 rfl ml_L_132 okX11_plan rfl (rm_law hcu hsu rfl) (Nat.le_of_ble_eq_true rfl) (Nat.le_of_ble_eq_true rfl) rfl rfl ?_
                                                              refine ctX11_plan h (fun r287 M285 t286 h => ?_)
                                                              refine tj_pop rfl dL_law_1054 rfl ?_
                                                              refine tj_goto (tgt := 1562) rfl dL_law_1055 ?_
                                                              exact bL_law_1562 hsc hcu hsu hp ih h
                                                            · rw [if_neg hc277] at h
                                                              by_cases hc288 : ((xs (v3 : Int32).toNatClampNeg) &&& 63) = 28
                                                              · rw [if_pos hc288] at h
                                                                refine tj_tableIn (tgt := 1058) dL_law_32 (by rw [hc288]; decide) (by rw [hc288]; decide) (by rw [hc288]; rfl) rfl ?_
                                                                refine tj_aload_n rfl dL_law_1058 rfl ?_
                                                                refine tj_aload_n rfl dL_law_1059 rfl ?_
                                                                refine tj_iload_n rfl dL_law_1060 rfl ?_
                                                                refine tj_iconst (v := 1) rfl dL_law_1061 (by decide) ?_
                                                                refine tj_iadd rfl dL_law_1062 ?_
                                                                obtain ⟨hi289, h⟩ := h
                                                                refine tj_sld hsc rfl dL_law_1063 hi289 ?_
                                                                refine cf_V10 (a := 0) (z := kX10_cannot) (As := [_]) rfl rfl dL_law_1064 rfl ml_L_133 okX10_cannot rfl (rm_law hcu hsu rfl) (Nat.le_of_ble_eq_true rfl) (Nat.le_of_ble_eq_true rfl) rfl rfl ?_
                                                                refine ctX10_cannot h (fun r292 M290 t291 h => ?_)
                                                                refine tj_pop rfl dL_law_1067 rfl ?_
                                                                refine tj_aload_n rfl dL_law_1068 rfl ?_
                                                                refine tj_aload_n rfl dL_law_1069 rfl ?_
                                                                refine tj_iload_n rfl dL_law_1070 rfl ?_
                                                                refine tj_iconst (v := 1) rfl dL_law_1071 (by decide) ?_
                                                                refine tj_iadd rfl dL_law_1072 ?_
                                                                obtain ⟨hi293, h⟩ := h
                                                                refine tj_sld hsc rfl dL_law_1073 hi293 ?_
                                                                refine cf_V11 (a := 81) (z := kX11_cannot) (As := [_]) rfl rfl dL_law_1074 rfl ml_L_136 okX11_cannot rfl (rm_law hcu hsu rfl) (Nat.le_of_ble_eq_true rfl) (Nat.le_of_ble_eq_true rfl) rfl rfl ?_
                                                                refine ctX11_cannot h (fun r296 M294 t295 h => ?_)
                                                                refine tj_pop rfl dL_law_1077 rfl ?_
                                                                refine tj_goto (tgt := 1562) rfl dL_law_1078 ?_
                                                                exact bL_law_1562 hsc hcu hsu hp ih h
                                                              · rw [if_neg hc288] at h
                                                                by_cases hc297 : ((xs (v3 : Int32).toNatClampNeg) &&& 63) = 29
                                                                · rw [if_pos hc297] at h
                                                                  refine tj_tableIn (tgt := 1081) dL_law_32 (by rw [hc297]; decide) (by rw [hc297]; decide) (by rw [hc297]; rfl) rfl ?_
                                                                  refine tj_aload_n rfl dL_law_1081 rfl ?_
                                                                  refine tj_aload_n rfl dL_law_1082 rfl ?_
                                                                  refine tj_iload_n rfl dL_law_1083 rfl ?_
                                                                  refine tj_iconst (v := 1) rfl dL_law_1084 (by decide) ?_
                                                                  refine tj_iadd rfl dL_law_1085 ?_
                                                                  obtain ⟨hi298, h⟩ := h
                                                                  refine tj_sld hsc rfl dL_law_1086 hi298 ?_
                                                                  refine tj_aload_n rfl dL_law_1087 rfl ?_
                                                                  refine tj_iload_n rfl dL_law_1088 rfl ?_
                                                                  refine tj_iconst (v := 2) rfl dL_law_1089 (by decide) ?_
                                                                  refine tj_iadd rfl dL_law_1090 ?_
                                                                  obtain ⟨hi299, h⟩ := h
                                                                  refine tj_sld hsc rfl dL_law_1091 hi299 ?_
                                                                  refine tj_aload_n rfl dL_law_1092 rfl ?_
                                                                  refine tj_iload_n rfl dL_law_1093 rfl ?_
                                                                  refine tj_iconst (v := 3) rfl dL_law_1094 (by decide) ?_
                                                                  refine tj_iadd rfl dL_law_1095 ?_
                                                                  obtain ⟨hi300, h⟩ := h
                                                                  refine tj_sld hsc rfl dL_law_1096 hi300 ?_
                                                                  refine cf_V10 (a := 0) (z := kX10_fire) (As := [_, _, _]) rfl rfl dL_law_1097 rfl ml_L_137 okX10_fire rfl (rm_law hcu hsu rfl) (Nat.le_of_ble_eq_true rfl) (Nat.le_of_ble_eq_true rfl) rfl rfl ?_
                                                                  refine ctX10_fire h (fun r303 M301 t302 h => ?_)
                                                                  refine tj_pop rfl dL_law_1100 rfl ?_
                                                                  refine tj_aload_n rfl dL_law_1101 rfl ?_
                                                                  refine tj_aload_n rfl dL_law_1102 rfl ?_
                                                                  refine tj_iload_n rfl dL_law_1103 rfl ?_
                                                                  refine tj_iconst (v := 1) rfl dL_law_1104 (by decide) ?_
                                                                  refine tj_iadd rfl dL_law_1105 ?_
                                                                  obtain ⟨hi304, h⟩ := h
                                                                  refine tj_sld hsc rfl dL_law_1106 hi304 ?_
                                                                  refine tj_aload_n rfl dL_law_1107 rfl ?_
                                                                  refine tj_iload_n rfl dL_law_1108 rfl ?_
                                                                  refine tj_iconst (v := 2) rfl dL_law_1109 (by decide) ?_
                                                                  refine tj_iadd rfl dL_law_1110 ?_
                                                                  obtain ⟨hi305, h⟩ := h
                                                                  refine tj_sld hsc rfl dL_law_1111 hi305 ?_
                                                                  refine tj_aload_n rfl dL_law_1112 rfl ?_
                                                                  refine tj_iload_n rfl dL_law_1113 rfl ?_
                                                                  refine tj_iconst (v := 3) rfl dL_law_1114 (by decide) ?_
                                                                  refine tj_iadd rfl dL_law_1115 ?_
                                                                  obtain ⟨hi306, h⟩ := h
                                                                  refine tj_sld hsc rfl dL_law_1116 hi306 ?_
                                                                  refine cf_V11 (a := 81) (z := kX11_fire) (As := [_, _, _]) rfl rfl dL_law_1117 rfl ml_L_140 okX11_fire rfl (rm_law hcu hsu rfl) (Nat.le_of_ble_eq_true rfl) (Nat.le_of_ble_eq_true rfl) rfl rfl ?_
                                                                  refine ctX11_fire h (fun r309 M307 t308 h => ?_)
                                                                  refine tj_pop rfl dL_law_1120 rfl ?_
                                                                  refine tj_goto (tgt := 1562) rfl dL_law_1121 ?_
                                                                  exact bL_law_1562 hsc hcu hsu hp ih h
                                                                · rw [if_neg hc297] at h
                                                                  by_cases hc310 : ((xs (v3 : Int32).toNatClampNeg) &&& 63) = 30
                                                                  · rw [if_pos hc310] at h
                                                                    refine tj_tableIn (tgt := 1124) dL_law_32 (by rw [hc310]; decide) (by rw [hc310]; decide) (by rw [hc310]; rfl) rfl ?_
                                                                    refine tj_aload_n rfl dL_law_1124 rfl ?_
                                                                    refine tj_aload_n rfl dL_law_1125 rfl ?_
                                                                    refine tj_iload_n rfl dL_law_1126 rfl ?_
                                                                    refine tj_iconst (v := 1) rfl dL_law_1127 (by decide) ?_
                                                                    refine tj_iadd rfl dL_law_1128 ?_
                                                                    obtain ⟨hi311, h⟩ := h
                                                                    refine tj_sld hsc rfl dL_law_1129 hi311 ?_
                                                                    refine cf_V10 (a := 0) (z := kX10_quarrel) (As := [_]) rfl rfl dL_law_1130 rfl ml_L_141 okX10_quarrel rfl (rm_law hcu hsu rfl) (Nat.le_of_ble_eq_true rfl) (Nat.le_of_ble_eq_true rfl) rfl rfl ?_
                                                                    refine ctX10_quarrel h (fun r314 M312 t313 h => ?_)
                                                                    refine tj_pop rfl dL_law_1133 rfl ?_
                                                                    refine tj_aload_n rfl dL_law_1134 rfl ?_
                                                                    refine tj_aload_n rfl dL_law_1135 rfl ?_
                                                                    refine tj_iload_n rfl dL_law_1136 rfl ?_
                                                                    refine tj_iconst (v := 1) rfl dL_law_1137 (by decide) ?_
                                                                    refine tj_iadd rfl dL_law_1138 ?_
                                                                    obtain ⟨hi315, h⟩ := h
                                                                    refine tj_sld hsc rfl dL_law_1139 hi315 ?_
                                                                    refine cf_V11 (a := 81) (z := kX11_quarrel) (As := [_]) rfl rfl dL_law_1140 rfl ml_L_144 okX11_quarrel rfl (rm_law hcu hsu rfl) (Nat.le_of_ble_eq_true rfl) (Nat.le_of_ble_eq_true rfl) rfl rfl ?_
                                                                    refine ctX11_quarrel h (fun r318 M316 t317 h => ?_)
                                                                    refine tj_pop rfl dL_law_1143 rfl ?_
                                                                    refine tj_goto (tgt := 1562) rfl dL_law_1144 ?_
                                                                    exact bL_law_1562 hsc hcu hsu hp ih h
                                                                  · rw [if_neg hc310] at h
                                                                    by_cases hc319 : ((xs (v3 : Int32).toNatClampNeg) &&& 63) = 31
                                                                    · rw [if_pos hc319] at h
                                                                      refine tj_tableIn (tgt := 1147) dL_law_32 (by rw [hc319]; decide) (by rw [hc319]; decide) (by rw [hc319]; rfl) rfl ?_
                                                                      refine tj_aload_n rfl dL_law_1147 rfl ?_
                                                                      refine cf_V10 (a := 0) (z := kX10_bend) (As := []) rfl rfl dL_law_1148 rfl ml_L_145 okX10_bend rfl (rm_law hcu hsu rfl) (Nat.le_of_ble_eq_true rfl) (Nat.le_of_ble_eq_true rfl) rfl rfl ?_
                                                                      refine ctX10_bend h (fun r322 M320 t321 h => ?_)
                                                                      refine tj_pop rfl dL_law_1151 rfl ?_
                                                                      refine tj_aload_n rfl dL_law_1152 rfl ?_
                                                                      refine cf_V11 (a := 81) (z := kX11_bend) (As := []) rfl rfl dL_law_1153 rfl ml_L_148 okX11_bend rfl (rm_law hcu hsu rfl) (Nat.le_of_ble_eq_true rfl) (Nat.le_of_ble_eq_true rfl) rfl rfl ?_
                                                                      refine ctX11_bend h (fun r325 M323 t324 h => ?_)
                                                                      refine tj_pop rfl dL_law_1156 rfl ?_
                                                                      refine tj_goto (tgt := 1562) rfl dL_law_1157 ?_
                                                                      exact bL_law_1562 hsc hcu hsu hp ih h
                                                                    · rw [if_neg hc319] at h
                                                                      by_cases hc326 : ((xs (v3 : Int32).toNatClampNeg) &&& 63) = 32
                                                                      · rw [if_pos hc326] at h
                                                                        refine tj_tableIn (tgt := 1160) dL_law_32 (by rw [hc326]; decide) (by rw [hc326]; decide) (by rw [hc326]; rfl) rfl ?_
                                                                        refine tj_aload_n rfl dL_law_1160 rfl ?_
                                                                        refine tj_aload_n rfl dL_law_1161 rfl ?_
                                                                        refine tj_iload_n rfl dL_law_1162 rfl ?_
                                                                        refine tj_iconst (v := 1) rfl dL_law_1163 (by decide) ?_
                                                                        refine tj_iadd rfl dL_law_1164 ?_
                                                                        obtain ⟨hi327, h⟩ := h
                                                                        refine tj_sld hsc rfl dL_law_1165 hi327 ?_
                                                                        refine tj_aload_n rfl dL_law_1166 rfl ?_
                                                                        refine tj_iload_n rfl dL_law_1167 rfl ?_
                                                                        refine tj_iconst (v := 2) rfl dL_law_1168 (by decide) ?_
                                                                        refine tj_iadd rfl dL_law_1169 ?_
                                                                        obtain ⟨hi328, h⟩ := h
                                                                        refine tj_sld hsc rfl dL_law_1170 hi328 ?_
                                                                        refine cf_V10 (a := 0) (z := kX10_shops) (As := [_, _]) rfl rfl dL_law_1171 rfl ml_L_149 okX10_shops rfl (rm_law hcu hsu rfl) (Nat.le_of_ble_eq_true rfl) (Nat.le_of_ble_eq_true rfl) rfl rfl ?_
                                                                        refine ctX10_shops h (fun r331 M329 t330 h => ?_)
                                                                        refine tj_pop rfl dL_law_1174 rfl ?_
                                                                        refine tj_aload_n rfl dL_law_1175 rfl ?_
                                                                        refine tj_aload_n rfl dL_law_1176 rfl ?_
                                                                        refine tj_iload_n rfl dL_law_1177 rfl ?_
                                                                        refine tj_iconst (v := 1) rfl dL_law_1178 (by decide) ?_
                                                                        refine tj_iadd rfl dL_law_1179 ?_
                                                                        obtain ⟨hi332, h⟩ := h
                                                                        refine tj_sld hsc rfl dL_law_1180 hi332 ?_
                                                                        refine tj_aload_n rfl dL_law_1181 rfl ?_
                                                                        refine tj_iload_n rfl dL_law_1182 rfl ?_
                                                                        refine tj_iconst (v := 2) rfl dL_law_1183 (by decide) ?_
                                                                        refine tj_iadd rfl dL_law_1184 ?_
                                                                        obtain ⟨hi333, h⟩ := h
                                                                        refine tj_sld hsc rfl dL_law_1185 hi333 ?_
                                                                        refine cf_V11 (a := 81) (z := kX11_shops) (As := [_, _]) rfl rfl dL_law_1186 rfl ml_L_152 okX11_shops rfl (rm_law hcu hsu rfl) (Nat.le_of_ble_eq_true rfl) (Nat.le_of_ble_eq_true rfl) rfl rfl ?_
                                                                        refine ctX11_shops h (fun r336 M334 t335 h => ?_)
                                                                        refine tj_pop rfl dL_law_1189 rfl ?_
                                                                        refine tj_goto (tgt := 1562) rfl dL_law_1190 ?_
                                                                        exact bL_law_1562 hsc hcu hsu hp ih h
                                                                      · rw [if_neg hc326] at h
                                                                        by_cases hc337 : ((xs (v3 : Int32).toNatClampNeg) &&& 63) = 33
                                                                        · rw [if_pos hc337] at h
                                                                          refine tj_tableIn (tgt := 1193) dL_law_32 (by rw [hc337]; decide) (by rw [hc337]; decide) (by rw [hc337]; rfl) rfl ?_
                                                                          refine tj_aload_n rfl dL_law_1193 rfl ?_
                                                                          refine tj_aload_n rfl dL_law_1194 rfl ?_
                                                                          refine tj_iload_n rfl dL_law_1195 rfl ?_
                                                                          refine tj_iconst (v := 1) rfl dL_law_1196 (by decide) ?_
                                                                          refine tj_iadd rfl dL_law_1197 ?_
                                                                          obtain ⟨hi338, h⟩ := h
                                                                          refine tj_sld hsc rfl dL_law_1198 hi338 ?_
                                                                          refine tj_aload_n rfl dL_law_1199 rfl ?_
                                                                          refine tj_iload_n rfl dL_law_1200 rfl ?_
                                                                          refine tj_iconst (v := 2) rfl dL_law_1201 (by decide) ?_
                                                                          refine tj_iadd rfl dL_law_1202 ?_
                                                                          obtain ⟨hi339, h⟩ := h
                                                                          refine tj_sld hsc rfl dL_law_1203 hi339 ?_
                                                                          refine tj_aload_n rfl dL_law_1204 rfl ?_
                                                                          refine tj_iload_n rfl dL_law_1205 rfl ?_
                                                                          refine tj_iconst (v := 3) rfl dL_law_1206 (by decide) ?_
                                                                          refine tj_iadd rfl dL_law_1207 ?_
                                                                          obtain ⟨hi340, h⟩ := h
                                                                          refine tj_sld hsc rfl dL_law_1208 hi340 ?_
                                                                          refine tj_aload_n rfl dL_law_1209 rfl ?_
                                                                          refine tj_iload_n rfl dL_law_1210 rfl ?_
                                                                          refine tj_iconst (v := 4) rfl dL_law_1211 (by decide) ?_
                                                                          refine tj_iadd rfl dL_law_1212 ?_
                                                                          obtain ⟨hi341, h⟩ := h
                                                                          refine tj_sld hsc rfl dL_law_1213 hi341 ?_
                                                                          refine tj_if_eq (tgt := 1221) rfl rfl dL_law_1214 (fun hc => ?_) (fun hc => ?_)
                                                                          · rw [if_pos hc] at h
                                                                            refine tj_iconst (v := 0) rfl dL_law_1221 (by decide) ?_
                                                                            exact bL_law_1222 hsc hcu hsu hp ih h
                                                                          · rw [if_neg hc] at h
                                                                            refine tj_iconst (v := 1) rfl dL_law_1217 (by decide) ?_
                                                                            refine tj_goto (tgt := 1222) rfl dL_law_1218 ?_
                                                                            exact bL_law_1222 hsc hcu hsu hp ih h
                                                                        · rw [if_neg hc337] at h
                                                                          by_cases hc342 : ((xs (v3 : Int32).toNatClampNeg) &&& 63) = 34
                                                                          · rw [if_pos hc342] at h
                                                                            refine tj_tableIn (tgt := 1262) dL_law_32 (by rw [hc342]; decide) (by rw [hc342]; decide) (by rw [hc342]; rfl) rfl ?_
                                                                            refine tj_aload_n rfl dL_law_1262 rfl ?_
                                                                            refine cf_V10 (a := 0) (z := kX10_forget) (As := []) rfl rfl dL_law_1263 rfl ml_L_158 okX10_forget rfl (rm_law hcu hsu rfl) (Nat.le_of_ble_eq_true rfl) (Nat.le_of_ble_eq_true rfl) rfl rfl ?_
                                                                            refine ctX10_forget h (fun r345 M343 t344 h => ?_)
                                                                            refine tj_pop rfl dL_law_1266 rfl ?_
                                                                            refine tj_aload_n rfl dL_law_1267 rfl ?_
                                                                            refine cf_V11 (a := 81) (z := kX11_forget) (As := []) rfl rfl dL_law_1268 rfl ml_L_161 okX11_forget rfl (rm_law hcu hsu rfl) (Nat.le_of_ble_eq_true rfl) (Nat.le_of_ble_eq_true rfl) rfl rfl ?_
                                                                            refine ctX11_forget h (fun r348 M346 t347 h => ?_)
                                                                            refine tj_pop rfl dL_law_1271 rfl ?_
                                                                            refine tj_goto (tgt := 1562) rfl dL_law_1272 ?_
                                                                            exact bL_law_1562 hsc hcu hsu hp ih h
                                                                          · rw [if_neg hc342] at h
                                                                            by_cases hc349 : ((xs (v3 : Int32).toNatClampNeg) &&& 63) = 35
                                                                            · rw [if_pos hc349] at h
                                                                              refine tj_tableIn (tgt := 1275) dL_law_32 (by rw [hc349]; decide) (by rw [hc349]; decide) (by rw [hc349]; rfl) rfl ?_
                                                                              refine tj_aload_n rfl dL_law_1275 rfl ?_
                                                                              refine tj_aload_n rfl dL_law_1276 rfl ?_
                                                                              refine tj_iload_n rfl dL_law_1277 rfl ?_
                                                                              refine tj_iconst (v := 1) rfl dL_law_1278 (by decide) ?_
                                                                              refine tj_iadd rfl dL_law_1279 ?_
                                                                              obtain ⟨hi350, h⟩ := h
                                                                              refine tj_sld hsc rfl dL_law_1280 hi350 ?_
                                                                              refine cf_V10 (a := 0) (z := kX10_histories) (As := [_]) rfl rfl dL_law_1281 rfl ml_L_162 okX10_histories rfl (rm_law hcu hsu rfl) (Nat.le_of_ble_eq_true rfl) (Nat.le_of_ble_eq_true rfl) rfl rfl ?_
                                                                              refine ctX10_histories h (fun r353 M351 t352 h => ?_)
                                                                              refine tj_pop2 rfl dL_law_1284 rfl ?_
                                                                              refine tj_aload_n rfl dL_law_1285 rfl ?_
                                                                              refine tj_aload_n rfl dL_law_1286 rfl ?_
                                                                              refine tj_iload_n rfl dL_law_1287 rfl ?_
                                                                              refine tj_iconst (v := 1) rfl dL_law_1288 (by decide) ?_
                                                                              refine tj_iadd rfl dL_law_1289 ?_
                                                                              obtain ⟨hi354, h⟩ := h
                                                                              refine tj_sld hsc rfl dL_law_1290 hi354 ?_
                                                                              refine cf_V11 (a := 81) (z := kX11_histories) (As := [_]) rfl rfl dL_law_1291 rfl ml_L_166 okX11_histories rfl (rm_law hcu hsu rfl) (Nat.le_of_ble_eq_true rfl) (Nat.le_of_ble_eq_true rfl) rfl rfl ?_
                                                                              refine ctX11_histories h (fun r357 M355 t356 h => ?_)
                                                                              refine tj_pop2 rfl dL_law_1294 rfl ?_
                                                                              refine tj_goto (tgt := 1562) rfl dL_law_1295 ?_
                                                                              exact bL_law_1562 hsc hcu hsu hp ih h
                                                                            · rw [if_neg hc349] at h
                                                                              by_cases hc358 : ((xs (v3 : Int32).toNatClampNeg) &&& 63) = 36
                                                                              · rw [if_pos hc358] at h
                                                                                refine tj_tableIn (tgt := 1298) dL_law_32 (by rw [hc358]; decide) (by rw [hc358]; decide) (by rw [hc358]; rfl) rfl ?_
                                                                                refine tj_aload_n rfl dL_law_1298 rfl ?_
                                                                                refine tj_aload_n rfl dL_law_1299 rfl ?_
                                                                                refine tj_iload_n rfl dL_law_1300 rfl ?_
                                                                                refine tj_iconst (v := 1) rfl dL_law_1301 (by decide) ?_
                                                                                refine tj_iadd rfl dL_law_1302 ?_
                                                                                obtain ⟨hi359, h⟩ := h
                                                                                refine tj_sld hsc rfl dL_law_1303 hi359 ?_
                                                                                refine tj_aload_n rfl dL_law_1304 rfl ?_
                                                                                refine tj_iload_n rfl dL_law_1305 rfl ?_
                                                                                refine tj_iconst (v := 2) rfl dL_law_1306 (by decide) ?_
                                                                                refine tj_iadd rfl dL_law_1307 ?_
                                                                                obtain ⟨hi360, h⟩ := h
                                                                                refine tj_sld hsc rfl dL_law_1308 hi360 ?_
                                                                                refine tj_aload_n rfl dL_law_1309 rfl ?_
                                                                                refine tj_iload_n rfl dL_law_1310 rfl ?_
                                                                                refine tj_iconst (v := 3) rfl dL_law_1311 (by decide) ?_
                                                                                refine tj_iadd rfl dL_law_1312 ?_
                                                                                obtain ⟨hi361, h⟩ := h
                                                                                refine tj_sld hsc rfl dL_law_1313 hi361 ?_
                                                                                refine cf_V10 (a := 0) (z := kX10_began) (As := [_, _, _]) rfl rfl dL_law_1314 rfl ml_L_167 okX10_began rfl (rm_law hcu hsu rfl) (Nat.le_of_ble_eq_true rfl) (Nat.le_of_ble_eq_true rfl) rfl rfl ?_
                                                                                refine ctX10_began h (fun r364 M362 t363 h => ?_)
                                                                                refine tj_pop rfl dL_law_1317 rfl ?_
                                                                                refine tj_aload_n rfl dL_law_1318 rfl ?_
                                                                                refine tj_aload_n rfl dL_law_1319 rfl ?_
                                                                                refine tj_iload_n rfl dL_law_1320 rfl ?_
                                                                                refine tj_iconst (v := 1) rfl dL_law_1321 (by decide) ?_
                                                                                refine tj_iadd rfl dL_law_1322 ?_
                                                                                obtain ⟨hi365, h⟩ := h
                                                                                refine tj_sld hsc rfl dL_law_1323 hi365 ?_
                                                                                refine tj_aload_n rfl dL_law_1324 rfl ?_
                                                                                refine tj_iload_n rfl dL_law_1325 rfl ?_
                                                                                refine tj_iconst (v := 2) rfl dL_law_1326 (by decide) ?_
                                                                                refine tj_iadd rfl dL_law_1327 ?_
                                                                                obtain ⟨hi366, h⟩ := h
                                                                                refine tj_sld hsc rfl dL_law_1328 hi366 ?_
                                                                                refine tj_aload_n rfl dL_law_1329 rfl ?_
                                                                                refine tj_iload_n rfl dL_law_1330 rfl ?_
                                                                                refine tj_iconst (v := 3) rfl dL_law_1331 (by decide) ?_
                                                                                refine tj_iadd rfl dL_law_1332 ?_
                                                                                obtain ⟨hi367, h⟩ := h
                                                                                refine tj_sld hsc rfl dL_law_1333 hi367 ?_
                                                                                refine cf_V11 (a := 81) (z := kX11_began) (As := [_, _, _]) rfl rfl dL_law_1334 rfl ml_L_170 okX11_began rfl (rm_law hcu hsu rfl) (Nat.le_of_ble_eq_true rfl) (Nat.le_of_ble_eq_true rfl) rfl rfl ?_
                                                                                refine ctX11_began h (fun r370 M368 t369 h => ?_)
                                                                                refine tj_pop rfl dL_law_1337 rfl ?_
                                                                                refine tj_goto (tgt := 1562) rfl dL_law_1338 ?_
                                                                                exact bL_law_1562 hsc hcu hsu hp ih h
                                                                              · rw [if_neg hc358] at h
                                                                                by_cases hc371 : ((xs (v3 : Int32).toNatClampNeg) &&& 63) = 37
                                                                                · rw [if_pos hc371] at h
                                                                                  refine tj_tableIn (tgt := 1341) dL_law_32 (by rw [hc371]; decide) (by rw [hc371]; decide) (by rw [hc371]; rfl) rfl ?_
                                                                                  refine tj_aload_n rfl dL_law_1341 rfl ?_
                                                                                  refine tj_aload_n rfl dL_law_1342 rfl ?_
                                                                                  refine tj_iload_n rfl dL_law_1343 rfl ?_
                                                                                  refine tj_iconst (v := 1) rfl dL_law_1344 (by decide) ?_
                                                                                  refine tj_iadd rfl dL_law_1345 ?_
                                                                                  obtain ⟨hi372, h⟩ := h
                                                                                  refine tj_sld hsc rfl dL_law_1346 hi372 ?_
                                                                                  refine cf_V10 (a := 0) (z := kX10_keep) (As := [_]) rfl rfl dL_law_1347 rfl ml_L_171 okX10_keep rfl (rm_law hcu hsu rfl) (Nat.le_of_ble_eq_true rfl) (Nat.le_of_ble_eq_true rfl) rfl rfl ?_
                                                                                  refine ctX10_keep h (fun r375 M373 t374 h => ?_)
                                                                                  refine tj_pop rfl dL_law_1350 rfl ?_
                                                                                  refine tj_aload_n rfl dL_law_1351 rfl ?_
                                                                                  refine tj_aload_n rfl dL_law_1352 rfl ?_
                                                                                  refine tj_iload_n rfl dL_law_1353 rfl ?_
                                                                                  refine tj_iconst (v := 1) rfl dL_law_1354 (by decide) ?_
                                                                                  refine tj_iadd rfl dL_law_1355 ?_
                                                                                  obtain ⟨hi376, h⟩ := h
                                                                                  refine tj_sld hsc rfl dL_law_1356 hi376 ?_
                                                                                  refine cf_V11 (a := 81) (z := kX11_keep) (As := [_]) rfl rfl dL_law_1357 rfl ml_L_174 okX11_keep rfl (rm_law hcu hsu rfl) (Nat.le_of_ble_eq_true rfl) (Nat.le_of_ble_eq_true rfl) rfl rfl ?_
                                                                                  refine ctX11_keep h (fun r379 M377 t378 h => ?_)
                                                                                  refine tj_pop rfl dL_law_1360 rfl ?_
                                                                                  refine tj_goto (tgt := 1562) rfl dL_law_1361 ?_
                                                                                  exact bL_law_1562 hsc hcu hsu hp ih h
                                                                                · rw [if_neg hc371] at h
                                                                                  by_cases hc380 : ((xs (v3 : Int32).toNatClampNeg) &&& 63) = 38
                                                                                  · rw [if_pos hc380] at h
                                                                                    refine tj_tableIn (tgt := 1364) dL_law_32 (by rw [hc380]; decide) (by rw [hc380]; decide) (by rw [hc380]; rfl) rfl ?_
                                                                                    refine tj_aload_n rfl dL_law_1364 rfl ?_
                                                                                    refine tj_aload_n rfl dL_law_1365 rfl ?_
                                                                                    refine tj_iload_n rfl dL_law_1366 rfl ?_
                                                                                    refine tj_iconst (v := 1) rfl dL_law_1367 (by decide) ?_
                                                                                    refine tj_iadd rfl dL_law_1368 ?_
                                                                                    obtain ⟨hi381, h⟩ := h
                                                                                    refine tj_sld hsc rfl dL_law_1369 hi381 ?_
                                                                                    refine cf_V10 (a := 0) (z := kX10_back) (As := [_]) rfl rfl dL_law_1370 rfl ml_L_175 okX10_back rfl (rm_law hcu hsu rfl) (Nat.le_of_ble_eq_true rfl) (Nat.le_of_ble_eq_true rfl) rfl rfl ?_
                                                                                    refine ctX10_back h (fun r384 M382 t383 h => ?_)
                                                                                    refine tj_pop rfl dL_law_1373 rfl ?_
                                                                                    refine tj_aload_n rfl dL_law_1374 rfl ?_
                                                                                    refine tj_aload_n rfl dL_law_1375 rfl ?_
                                                                                    refine tj_iload_n rfl dL_law_1376 rfl ?_
                                                                                    refine tj_iconst (v := 1) rfl dL_law_1377 (by decide) ?_
                                                                                    refine tj_iadd rfl dL_law_1378 ?_
                                                                                    obtain ⟨hi385, h⟩ := h
                                                                                    refine tj_sld hsc rfl dL_law_1379 hi385 ?_
                                                                                    refine cf_V11 (a := 81) (z := kX11_back) (As := [_]) rfl rfl dL_law_1380 rfl ml_L_178 okX11_back rfl (rm_law hcu hsu rfl) (Nat.le_of_ble_eq_true rfl) (Nat.le_of_ble_eq_true rfl) rfl rfl ?_
                                                                                    refine ctX11_back h (fun r388 M386 t387 h => ?_)
                                                                                    refine tj_pop rfl dL_law_1383 rfl ?_
                                                                                    refine tj_goto (tgt := 1562) rfl dL_law_1384 ?_
                                                                                    exact bL_law_1562 hsc hcu hsu hp ih h
                                                                                  · rw [if_neg hc380] at h
                                                                                    by_cases hc389 : ((xs (v3 : Int32).toNatClampNeg) &&& 63) = 39
                                                                                    · rw [if_pos hc389] at h
                                                                                      refine tj_tableIn (tgt := 1387) dL_law_32 (by rw [hc389]; decide) (by rw [hc389]; decide) (by rw [hc389]; rfl) rfl ?_
                                                                                      refine tj_aload_n rfl dL_law_1387 rfl ?_
                                                                                      refine tj_aload_n rfl dL_law_1388 rfl ?_
                                                                                      refine tj_iload_n rfl dL_law_1389 rfl ?_
                                                                                      refine tj_iconst (v := 1) rfl dL_law_1390 (by decide) ?_
                                                                                      refine tj_iadd rfl dL_law_1391 ?_
                                                                                      obtain ⟨hi390, h⟩ := h
                                                                                      refine tj_sld hsc rfl dL_law_1392 hi390 ?_
                                                                                      refine tj_aload_n rfl dL_law_1393 rfl ?_
                                                                                      refine tj_iload_n rfl dL_law_1394 rfl ?_
                                                                                      refine tj_iconst (v := 2) rfl dL_law_1395 (by decide) ?_
                                                                                      refine tj_iadd rfl dL_law_1396 ?_
                                                                                      obtain ⟨hi391, h⟩ := h
                                                                                      refine tj_sld hsc rfl dL_law_1397 hi391 ?_
                                                                                      refine tj_aload_n rfl dL_law_1398 rfl ?_
                                                                                      refine tj_iload_n rfl dL_law_1399 rfl ?_
                                                                                      refine tj_iconst (v := 3) rfl dL_law_1400 (by decide) ?_
                                                                                      refine tj_iadd rfl dL_law_1401 ?_
                                                                                      obtain ⟨hi392, h⟩ := h
                                                                                      refine tj_sld hsc rfl dL_law_1402 hi392 ?_
                                                                                      refine cf_V10 (a := 0) (z := kX10_sheet) (As := [_, _, _]) rfl rfl dL_law_1403 rfl ml_L_179 okX10_sheet rfl (rm_law hcu hsu rfl) (Nat.le_of_ble_eq_true rfl) (Nat.le_of_ble_eq_true rfl) rfl rfl ?_
                                                                                      refine ctX10_sheet h (fun r395 M393 t394 h => ?_)
                                                                                      refine tj_pop rfl dL_law_1406 rfl ?_
                                                                                      refine tj_aload_n rfl dL_law_1407 rfl ?_
                                                                                      refine tj_aload_n rfl dL_law_1408 rfl ?_
                                                                                      refine tj_iload_n rfl dL_law_1409 rfl ?_
                                                                                      refine tj_iconst (v := 1) rfl dL_law_1410 (by decide) ?_
                                                                                      refine tj_iadd rfl dL_law_1411 ?_
                                                                                      obtain ⟨hi396, h⟩ := h
                                                                                      refine tj_sld hsc rfl dL_law_1412 hi396 ?_
                                                                                      refine tj_aload_n rfl dL_law_1413 rfl ?_
                                                                                      refine tj_iload_n rfl dL_law_1414 rfl ?_
                                                                                      refine tj_iconst (v := 2) rfl dL_law_1415 (by decide) ?_
                                                                                      refine tj_iadd rfl dL_law_1416 ?_
                                                                                      obtain ⟨hi397, h⟩ := h
                                                                                      refine tj_sld hsc rfl dL_law_1417 hi397 ?_
                                                                                      refine tj_aload_n rfl dL_law_1418 rfl ?_
                                                                                      refine tj_iload_n rfl dL_law_1419 rfl ?_
                                                                                      refine tj_iconst (v := 3) rfl dL_law_1420 (by decide) ?_
                                                                                      refine tj_iadd rfl dL_law_1421 ?_
                                                                                      obtain ⟨hi398, h⟩ := h
                                                                                      refine tj_sld hsc rfl dL_law_1422 hi398 ?_
                                                                                      refine cf_V11 (a := 81) (z := kX11_sheet) (As := [_, _, _]) rfl rfl dL_law_1423 rfl ml_L_182 okX11_sheet rfl (rm_law hcu hsu rfl) (Nat.le_of_ble_eq_true rfl) (Nat.le_of_ble_eq_true rfl) rfl rfl ?_
                                                                                      refine ctX11_sheet h (fun r401 M399 t400 h => ?_)
                                                                                      refine tj_pop rfl dL_law_1426 rfl ?_
                                                                                      refine tj_goto (tgt := 1562) rfl dL_law_1427 ?_
                                                                                      exact bL_law_1562 hsc hcu hsu hp ih h
                                                                                    · rw [if_neg hc389] at h
                                                                                      by_cases hc402 : ((xs (v3 : Int32).toNatClampNeg) &&& 63) = 40
                                                                                      · rw [if_pos hc402] at h
                                                                                        refine tj_tableIn (tgt := 1430) dL_law_32 (by rw [hc402]; decide) (by rw [hc402]; decide) (by rw [hc402]; rfl) rfl ?_
                                                                                        refine tj_aload_n rfl dL_law_1430 rfl ?_
                                                                                        refine tj_aload_n rfl dL_law_1431 rfl ?_
                                                                                        refine tj_iload_n rfl dL_law_1432 rfl ?_
                                                                                        refine tj_iconst (v := 1) rfl dL_law_1433 (by decide) ?_
                                                                                        refine tj_iadd rfl dL_law_1434 ?_
                                                                                        obtain ⟨hi403, h⟩ := h
                                                                                        refine tj_sld hsc rfl dL_law_1435 hi403 ?_
                                                                                        refine tj_aload_n rfl dL_law_1436 rfl ?_
                                                                                        refine tj_iload_n rfl dL_law_1437 rfl ?_
                                                                                        refine tj_iconst (v := 2) rfl dL_law_1438 (by decide) ?_
                                                                                        refine tj_iadd rfl dL_law_1439 ?_
                                                                                        obtain ⟨hi404, h⟩ := h
                                                                                        refine tj_sld hsc rfl dL_law_1440 hi404 ?_
                                                                                        refine tj_aload_n rfl dL_law_1441 rfl ?_
                                                                                        refine tj_iload_n rfl dL_law_1442 rfl ?_
                                                                                        refine tj_iconst (v := 3) rfl dL_law_1443 (by decide) ?_
                                                                                        refine tj_iadd rfl dL_law_1444 ?_
                                                                                        obtain ⟨hi405, h⟩ := h
                                                                                        refine tj_sld hsc rfl dL_law_1445 hi405 ?_
                                                                                        refine cf_V10 (a := 0) (z := kX10_lay) (As := [_, _, _]) rfl rfl dL_law_1446 rfl ml_L_183 okX10_lay rfl (rm_law hcu hsu rfl) (Nat.le_of_ble_eq_true rfl) (Nat.le_of_ble_eq_true rfl) rfl rfl ?_
                                                                                        refine ctX10_lay h (fun r408 M406 t407 h => ?_)
                                                                                        refine tj_pop rfl dL_law_1449 rfl ?_
                                                                                        refine tj_aload_n rfl dL_law_1450 rfl ?_
                                                                                        refine tj_aload_n rfl dL_law_1451 rfl ?_
                                                                                        refine tj_iload_n rfl dL_law_1452 rfl ?_
                                                                                        refine tj_iconst (v := 1) rfl dL_law_1453 (by decide) ?_
                                                                                        refine tj_iadd rfl dL_law_1454 ?_
                                                                                        obtain ⟨hi409, h⟩ := h
                                                                                        refine tj_sld hsc rfl dL_law_1455 hi409 ?_
                                                                                        refine tj_aload_n rfl dL_law_1456 rfl ?_
                                                                                        refine tj_iload_n rfl dL_law_1457 rfl ?_
                                                                                        refine tj_iconst (v := 2) rfl dL_law_1458 (by decide) ?_
                                                                                        refine tj_iadd rfl dL_law_1459 ?_
                                                                                        obtain ⟨hi410, h⟩ := h
                                                                                        refine tj_sld hsc rfl dL_law_1460 hi410 ?_
                                                                                        refine tj_aload_n rfl dL_law_1461 rfl ?_
                                                                                        refine tj_iload_n rfl dL_law_1462 rfl ?_
                                                                                        refine tj_iconst (v := 3) rfl dL_law_1463 (by decide) ?_
                                                                                        refine tj_iadd rfl dL_law_1464 ?_
                                                                                        obtain ⟨hi411, h⟩ := h
                                                                                        refine tj_sld hsc rfl dL_law_1465 hi411 ?_
                                                                                        refine cf_V11 (a := 81) (z := kX11_lay) (As := [_, _, _]) rfl rfl dL_law_1466 rfl ml_L_186 okX11_lay rfl (rm_law hcu hsu rfl) (Nat.le_of_ble_eq_true rfl) (Nat.le_of_ble_eq_true rfl) rfl rfl ?_
                                                                                        refine ctX11_lay h (fun r414 M412 t413 h => ?_)
                                                                                        refine tj_pop rfl dL_law_1469 rfl ?_
                                                                                        refine tj_goto (tgt := 1562) rfl dL_law_1470 ?_
                                                                                        exact bL_law_1562 hsc hcu hsu hp ih h
                                                                                      · rw [if_neg hc402] at h
                                                                                        by_cases hc415 : ((xs (v3 : Int32).toNatClampNeg) &&& 63) = 41
                                                                                        · rw [if_pos hc415] at h
                                                                                          refine tj_tableIn (tgt := 1473) dL_law_32 (by rw [hc415]; decide) (by rw [hc415]; decide) (by rw [hc415]; rfl) rfl ?_
                                                                                          refine tj_aload_n rfl dL_law_1473 rfl ?_
                                                                                          refine tj_aload_n rfl dL_law_1474 rfl ?_
                                                                                          refine tj_iload_n rfl dL_law_1475 rfl ?_
                                                                                          refine tj_iconst (v := 1) rfl dL_law_1476 (by decide) ?_
                                                                                          refine tj_iadd rfl dL_law_1477 ?_
                                                                                          obtain ⟨hi416, h⟩ := h
                                                                                          refine tj_sld hsc rfl dL_law_1478 hi416 ?_
                                                                                          refine tj_aload_n rfl dL_law_1479 rfl ?_
                                                                                          refine tj_iload_n rfl dL_law_1480 rfl ?_
                                                                                          refine tj_iconst (v := 2) rfl dL_law_1481 (by decide) ?_
                                                                                          refine tj_iadd rfl dL_law_1482 ?_
                                                                                          obtain ⟨hi417, h⟩ := h
                                                                                          refine tj_sld hsc rfl dL_law_1483 hi417 ?_
                                                                                          refine tj_aload_n rfl dL_law_1484 rfl ?_
                                                                                          refine tj_iload_n rfl dL_law_1485 rfl ?_
                                                                                          refine tj_iconst (v := 3) rfl dL_law_1486 (by decide) ?_
                                                                                          refine tj_iadd rfl dL_law_1487 ?_
                                                                                          obtain ⟨hi418, h⟩ := h
                                                                                          refine tj_sld hsc rfl dL_law_1488 hi418 ?_
                                                                                          refine tj_aload_n rfl dL_law_1489 rfl ?_
                                                                                          refine tj_iload_n rfl dL_law_1490 rfl ?_
                                                                                          refine tj_iconst (v := 4) rfl dL_law_1491 (by decide) ?_
                                                                                          refine tj_iadd rfl dL_law_1492 ?_
                                                                                          obtain ⟨hi419, h⟩ := h
                                                                                          refine tj_sld hsc rfl dL_law_1493 hi419 ?_
                                                                                          refine cf_V10 (a := 0) (z := kX10_read) (As := [_, _, _, _]) rfl rfl dL_law_1494 rfl ml_L_187 okX10_read rfl (rm_law hcu hsu rfl) (Nat.le_of_ble_eq_true rfl) (Nat.le_of_ble_eq_true rfl) rfl rfl ?_
                                                                                          refine ctX10_read h (fun r422 M420 t421 h => ?_)
                                                                                          refine tj_pop rfl dL_law_1497 rfl ?_
                                                                                          refine tj_aload_n rfl dL_law_1498 rfl ?_
                                                                                          refine tj_aload_n rfl dL_law_1499 rfl ?_
                                                                                          refine tj_iload_n rfl dL_law_1500 rfl ?_
                                                                                          refine tj_iconst (v := 1) rfl dL_law_1501 (by decide) ?_
                                                                                          refine tj_iadd rfl dL_law_1502 ?_
                                                                                          obtain ⟨hi423, h⟩ := h
                                                                                          refine tj_sld hsc rfl dL_law_1503 hi423 ?_
                                                                                          refine tj_aload_n rfl dL_law_1504 rfl ?_
                                                                                          refine tj_iload_n rfl dL_law_1505 rfl ?_
                                                                                          refine tj_iconst (v := 2) rfl dL_law_1506 (by decide) ?_
                                                                                          refine tj_iadd rfl dL_law_1507 ?_
                                                                                          obtain ⟨hi424, h⟩ := h
                                                                                          refine tj_sld hsc rfl dL_law_1508 hi424 ?_
                                                                                          refine tj_aload_n rfl dL_law_1509 rfl ?_
                                                                                          refine tj_iload_n rfl dL_law_1510 rfl ?_
                                                                                          refine tj_iconst (v := 3) rfl dL_law_1511 (by decide) ?_
                                                                                          refine tj_iadd rfl dL_law_1512 ?_
                                                                                          obtain ⟨hi425, h⟩ := h
                                                                                          refine tj_sld hsc rfl dL_law_1513 hi425 ?_
                                                                                          refine tj_aload_n rfl dL_law_1514 rfl ?_
                                                                                          refine tj_iload_n rfl dL_law_1515 rfl ?_
                                                                                          refine tj_iconst (v := 4) rfl dL_law_1516 (by decide) ?_
                                                                                          refine tj_iadd rfl dL_law_1517 ?_
                                                                                          obtain ⟨hi426, h⟩ := h
                                                                                          refine tj_sld hsc rfl dL_law_1518 hi426 ?_
                                                                                          refine cf_V11 (a := 81) (z := kX11_read) (As := [_, _, _, _]) rfl rfl dL_law_1519 rfl ml_L_190 okX11_read rfl (rm_law hcu hsu rfl) (Nat.le_of_ble_eq_true rfl) (Nat.le_of_ble_eq_true rfl) rfl rfl ?_
                                                                                          refine ctX11_read h (fun r429 M427 t428 h => ?_)
                                                                                          refine tj_pop rfl dL_law_1522 rfl ?_
                                                                                          refine tj_goto (tgt := 1562) rfl dL_law_1523 ?_
                                                                                          exact bL_law_1562 hsc hcu hsu hp ih h
                                                                                        · rw [if_neg hc415] at h
                                                                                          by_cases hc430 : ((xs (v3 : Int32).toNatClampNeg) &&& 63) = 42
                                                                                          · rw [if_pos hc430] at h
                                                                                            refine tj_tableIn (tgt := 1526) dL_law_32 (by rw [hc430]; decide) (by rw [hc430]; decide) (by rw [hc430]; rfl) rfl ?_
                                                                                            refine tj_aload_n rfl dL_law_1526 rfl ?_
                                                                                            refine cf_V10 (a := 0) (z := kX10_torn) (As := []) rfl rfl dL_law_1527 rfl ml_L_191 okX10_torn rfl (rm_law hcu hsu rfl) (Nat.le_of_ble_eq_true rfl) (Nat.le_of_ble_eq_true rfl) rfl rfl ?_
                                                                                            refine ctX10_torn h (fun r433 M431 t432 h => ?_)
                                                                                            refine tj_aload_n rfl dL_law_1530 rfl ?_
                                                                                            refine cf_V11 (a := 81) (z := kX11_torn) (As := []) rfl rfl dL_law_1531 rfl ml_L_194 okX11_torn rfl (rm_law hcu hsu rfl) (Nat.le_of_ble_eq_true rfl) (Nat.le_of_ble_eq_true rfl) rfl rfl ?_
                                                                                            refine ctX11_torn h (fun r436 M434 t435 h => ?_)
                                                                                            refine tj_icmp_eq (tgt := 1562) rfl rfl dL_law_1534 (fun hc => ?_) (fun hc => ?_)
                                                                                            · rw [if_pos hc] at h
                                                                                              exact bL_law_1562 hsc hcu hsu hp ih h
                                                                                            · rw [if_neg hc] at h
                                                                                              refine tj_iconst (v := 0) rfl dL_law_1537 (by decide) ?_
                                                                                              exact tj_ireturn (ty := .boolean) dL_law_1538 rfl rfl hcu hsu (hp _ _ _ h)
                                                                                          · rw [if_neg hc430] at h
                                                                                            by_cases hc437 : ((xs (v3 : Int32).toNatClampNeg) &&& 63) = 43
                                                                                            · rw [if_pos hc437] at h
                                                                                              refine tj_tableIn (tgt := 1539) dL_law_32 (by rw [hc437]; decide) (by rw [hc437]; decide) (by rw [hc437]; rfl) rfl ?_
                                                                                              refine tj_aload_n rfl dL_law_1539 rfl ?_
                                                                                              refine tj_aload_n rfl dL_law_1540 rfl ?_
                                                                                              refine tj_iload_n rfl dL_law_1541 rfl ?_
                                                                                              refine tj_iconst (v := 1) rfl dL_law_1542 (by decide) ?_
                                                                                              refine tj_iadd rfl dL_law_1543 ?_
                                                                                              obtain ⟨hi438, h⟩ := h
                                                                                              refine tj_sld hsc rfl dL_law_1544 hi438 ?_
                                                                                              refine cf_V10 (a := 0) (z := kX10_count) (As := [_]) rfl rfl dL_law_1545 rfl ml_L_195 okX10_count rfl (rm_law hcu hsu rfl) (Nat.le_of_ble_eq_true rfl) (Nat.le_of_ble_eq_true rfl) rfl rfl ?_
                                                                                              refine ctX10_count h (fun r441 M439 t440 h => ?_)
                                                                                              refine tj_pop rfl dL_law_1548 rfl ?_
                                                                                              refine tj_aload_n rfl dL_law_1549 rfl ?_
                                                                                              refine tj_aload_n rfl dL_law_1550 rfl ?_
                                                                                              refine tj_iload_n rfl dL_law_1551 rfl ?_
                                                                                              refine tj_iconst (v := 1) rfl dL_law_1552 (by decide) ?_
                                                                                              refine tj_iadd rfl dL_law_1553 ?_
                                                                                              obtain ⟨hi442, h⟩ := h
                                                                                              refine tj_sld hsc rfl dL_law_1554 hi442 ?_
                                                                                              refine cf_V11 (a := 81) (z := kX11_count) (As := [_]) rfl rfl dL_law_1555 rfl ml_L_198 okX11_count rfl (rm_law hcu hsu rfl) (Nat.le_of_ble_eq_true rfl) (Nat.le_of_ble_eq_true rfl) rfl rfl ?_
                                                                                              refine ctX11_count h (fun r445 M443 t444 h => ?_)
                                                                                              refine tj_pop rfl dL_law_1558 rfl ?_
                                                                                              refine tj_goto (tgt := 1562) rfl dL_law_1559 ?_
                                                                                              exact bL_law_1562 hsc hcu hsu hp ih h
                                                                                            · rw [if_neg hc437] at h
                                                                                              have hz0 := lv_neT (a := 0) hc2 rfl
                                                                                              have hz1 := lv_neT (a := 1) hc13 rfl
                                                                                              have hz2 := lv_neT (a := 2) hc22 rfl
                                                                                              have hz3 := lv_neT (a := 3) hc29 rfl
                                                                                              have hz4 := lv_neT (a := 4) hc36 rfl
                                                                                              have hz5 := lv_neT (a := 5) hc45 rfl
                                                                                              have hz6 := lv_neT (a := 6) hc56 rfl
                                                                                              have hz7 := lv_neT (a := 7) hc65 rfl
                                                                                              have hz8 := lv_neT (a := 8) hc74 rfl
                                                                                              have hz9 := lv_neT (a := 9) hc85 rfl
                                                                                              have hz10 := lv_neT (a := 10) hc96 rfl
                                                                                              have hz11 := lv_neT (a := 11) hc109 rfl
                                                                                              have hz12 := lv_neT (a := 12) hc120 rfl
                                                                                              have hz13 := lv_neT (a := 13) hc127 rfl
                                                                                              have hz14 := lv_neT (a := 14) hc136 rfl
                                                                                              have hz15 := lv_neT (a := 15) hc149 rfl
                                                                                              have hz16 := lv_neT (a := 16) hc160 rfl
                                                                                              have hz17 := lv_neT (a := 17) hc171 rfl
                                                                                              have hz18 := lv_neT (a := 18) hc180 rfl
                                                                                              have hz19 := lv_neT (a := 19) hc189 rfl
                                                                                              have hz20 := lv_neT (a := 20) hc196 rfl
                                                                                              have hz21 := lv_neT (a := 21) hc211 rfl
                                                                                              have hz22 := lv_neT (a := 22) hc224 rfl
                                                                                              have hz23 := lv_neT (a := 23) hc237 rfl
                                                                                              have hz24 := lv_neT (a := 24) hc248 rfl
                                                                                              have hz25 := lv_neT (a := 25) hc259 rfl
                                                                                              have hz26 := lv_neT (a := 26) hc270 rfl
                                                                                              have hz27 := lv_neT (a := 27) hc277 rfl
                                                                                              have hz28 := lv_neT (a := 28) hc288 rfl
                                                                                              have hz29 := lv_neT (a := 29) hc297 rfl
                                                                                              have hz30 := lv_neT (a := 30) hc310 rfl
                                                                                              have hz31 := lv_neT (a := 31) hc319 rfl
                                                                                              have hz32 := lv_neT (a := 32) hc326 rfl
                                                                                              have hz33 := lv_neT (a := 33) hc337 rfl
                                                                                              have hz34 := lv_neT (a := 34) hc342 rfl
                                                                                              have hz35 := lv_neT (a := 35) hc349 rfl
                                                                                              have hz36 := lv_neT (a := 36) hc358 rfl
                                                                                              have hz37 := lv_neT (a := 37) hc371 rfl
                                                                                              have hz38 := lv_neT (a := 38) hc380 rfl
                                                                                              have hz39 := lv_neT (a := 39) hc389 rfl
                                                                                              have hz40 := lv_neT (a := 40) hc402 rfl
                                                                                              have hz41 := lv_neT (a := 41) hc415 rfl
                                                                                              have hz42 := lv_neT (a := 42) hc430 rfl
                                                                                              have hz43 := lv_neT (a := 43) hc437 rfl
                                                                                              refine tj_tableOut (tgt := 1562) dL_law_32 (by omega) rfl ?_
                                                                                              exact bL_law_1562 hsc hcu hsu hp ih h
