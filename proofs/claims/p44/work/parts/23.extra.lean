set_option maxRecDepth 100000 in
theorem min_st : Cond.static Lib.Math.min.name ∈ TB := in_t3 115 rfl rfl
set_option maxRecDepth 100000 in
theorem min_in : Cond.initialized "java/lang/Math" ∈ TB := in_t1 18 rfl rfl
set_option maxRecDepth 100000 in
theorem min_co : Cond.code Lib.Math.min.name Lib.Math.min.code 2 (some .int) ∈ TB := in_t3 116 (by decide +kernel) rfl
set_option maxRecDepth 100000 in
theorem cpy_na : Cond.native arraycopyName ∈ TB := in_t3 104 rfl rfl
set_option maxRecDepth 100000 in
theorem cpy_st : Cond.static arraycopyName ∈ TB := in_t3 103 rfl rfl
set_option maxRecDepth 100000 in
theorem cpy_in : Cond.initialized "java/lang/System" ∈ TB := in_t1 17 rfl rfl
set_option maxRecDepth 100000 in
theorem ml_X1_48 : Cond.methodLink RX1 48 arraycopyName ∈ TB := in_t3 102 rfl rfl
set_option maxRecDepth 100000 in
theorem ml_X7_34 : Cond.methodLink RX7 34 arraycopyName ∈ TB := in_t3 109 rfl rfl
set_option maxRecDepth 100000 in
theorem ml_X5_37 : Cond.methodLink RX5 37 arraycopyName ∈ TB := in_t3 117 rfl rfl
set_option maxRecDepth 100000 in
theorem ml_X10_226 : Cond.methodLink RX10 226 arraycopyName ∈ TB := in_t4 68 rfl rfl
set_option maxRecDepth 100000 in
theorem cpy_w : nativeFrameWords "java/lang/System" "arraycopy" 5 + 11 + 8 ≤ 68 := by decide +kernel
/-! more rules: fewer locals by places, Math.min, System.arraycopy (printed by wip/whole/gen/extra.py) -/
section TX
variable {E : EV} {k : MD} {cu su : Nat} {ws : va_W} {pc idx n : Nat} {l l' : List (Nat × Value)} {st rest : List Value} {Φ : Option Value → va_W → Prop} {ad : Nat → Nat} {M : Nat → Nat → Int32} {tl : Int64}
theorem tj_pick (ks : List Nat) (hl' : lv_pick l ks = l') (kk : T E k cu su ws pc l' st Φ) : T E k cu su ws pc l st Φ := by
  intro p L e s m args below meth c A Q H locs ls hC hE hA hP hD hS hl hF
  exact kk p L e s m args below meth c A Q H locs ls hC hE hA hP hD hS (lv_sub hl ks hl') hF
theorem tj_min {x y : Int32} (hlk : Cond.methodLink k.1.cls idx yJ9_min_7cf53 ∈ TB) (hn : pc + 3 = n) (hd : decode k.2.1 pc = .ok (.invokestatic idx, 3)) (hfr : 1 ≤ k.2.2.2.2.1) (hlo : (st.map fun v => v.category).sum + 13 ≤ k.2.2.2.2.2.1) (hcu : cu ≤ k.2.2.2.2.2.2.1) (hsu : su ≤ k.2.2.2.2.2.2.2)
    (kk : T E k cu su ws n l (.int (if y < x then y else x) :: st) Φ) : T E k cu su ws pc l (.int y :: .int x :: st) Φ := by
  subst hn
  intro p L e s m args below meth c A Q H locs ls hC hE hA hP hD hS hl hF
  have hts := hC.2.2.2.2.1
  exact va_mmin hC.1 hC.2.1 (hC.2.2.1.trans hl.1.symm) hC.2.2.2.1 (hts _ hlk) (hts _ min_st) (hts _ min_in) (hts _ min_co) hfr hlo hcu hsu hd (kk p L e s m args below meth c A Q H locs ls hC hE hA hP hD hS hl hF)
theorem tj_copy {a0 a1 : Nat} {sp dp z : Int32} (hk0 : kd a0 = 12) (hk1 : kd a1 = 12) (hlk : Cond.methodLink k.1.cls idx arraycopyName ∈ TB) (hn : pc + 3 = n) (hd : decode k.2.1 pc = .ok (.invokestatic idx, 3)) (h1 : ¬ sp < 0) (h2 : ¬ dp < 0) (h3 : ¬ z < 0) (h4 : sp.toNatClampNeg + z.toNatClampNeg ≤ al a0) (h5 : dp.toNatClampNeg + z.toNatClampNeg ≤ al a1)
    (hfr : 1 ≤ k.2.2.2.2.1) (hlo : (st.map fun v => v.category).sum + (nativeFrameWords "java/lang/System" "arraycopy" 5 + 11) ≤ k.2.2.2.2.2.1)
    (kk : T E k cu su (WM E ad (mrow M a1 (va_cpy (M a0) (M a1) sp.toNatClampNeg dp.toNatClampNeg z.toNatClampNeg)) tl) n l st Φ) : T E k cu su (WM E ad M tl) pc l (.int z :: .int dp :: .ref (ad a1) :: .int sp :: .ref (ad a0) :: st) Φ := by
  subst hn
  intro p L e s m args below meth c A Q H locs ls hC hE hA hP hD hS hl hF
  have hts := hC.2.2.2.2.1
  exact va_copyi hC.1 hC.2.1 (hC.2.2.1.trans hl.1.symm) hC.2.2.2.1 (hts _ hlk) (hts _ cpy_na) (hts _ cpy_st) (hts _ cpy_in) hE.1 hP hD hS a0 a1 0 0 (wm_at hk0 (by decide) (ce12 hk0)) (wm_at hk1 (by decide) (ce12 hk1)) rfl rfl rfl h1 h2 h3 h4 h5 (fun _ _ => rfl) hfr hlo hd
    (fun H1 locs1 hP1 hD1 hS1 => by
      rw [wm_setI (f := va_cpy (M a0) (M a1) sp.toNatClampNeg dp.toNatClampNeg z.toNatClampNeg) hk1 (by decide) (ce12 hk1)] at hP1 hD1
      exact kk p L e s m args below meth c A Q H1 locs1 ls hC hE hA hP1 hD1 hS1 hl hF)
end TX

