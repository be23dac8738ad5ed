/-! NUMBERS BY CODES: an int as a Nat (nI), a long as a Nat (i64), all numbers of the world as one Nat (dM): programs that the kernel runs. (printed by wip/p1/gen/enum.py) -/
def i64 (n : Nat) : Int64 := Int64.ofNat n
def c32 (x : Int32) : Nat := x.toUInt32.toNat
def c64 (x : Int64) : Nat := x.toUInt64.toNat
theorem nI_bv (n : Nat) : (nI n).toBitVec = BitVec.ofNat 32 n := rfl
theorem i64_bv (n : Nat) : (i64 n).toBitVec = BitVec.ofNat 64 n := rfl
theorem nI_c (x : Int32) : x = nI (c32 x) := by
  apply Int32.toBitVec_inj.mp
  show x.toBitVec = BitVec.ofNat 32 x.toBitVec.toNat
  simp
theorem i64_c (x : Int64) : x = i64 (c64 x) := by
  apply Int64.toBitVec_inj.mp
  show x.toBitVec = BitVec.ofNat 64 x.toBitVec.toNat
  simp
theorem nI_int (n : Nat) : (nI n).toInt = (((n + 2147483648) % 4294967296 : Nat) : Int) - 2147483648 := by
  show (BitVec.ofNat 32 n).toInt = _
  rw [BitVec.toInt_eq_toNat_cond, BitVec.toNat_ofNat]
  split <;> omega
theorem i64_int (n : Nat) : (i64 n).toInt = (((n + 9223372036854775808) % 18446744073709551616 : Nat) : Int) - 9223372036854775808 := by
  show (BitVec.ofNat 64 n).toInt = _
  rw [BitVec.toInt_eq_toNat_cond, BitVec.toNat_ofNat]
  split <;> omega
theorem nI_md {n m : Nat} (h : n % 4294967296 = m % 4294967296) : nI n = nI m := by
  apply Int32.toInt_inj.mp
  rw [nI_int, nI_int]
  omega
theorem i64_md {n m : Nat} (h : n % 18446744073709551616 = m % 18446744073709551616) : i64 n = i64 m := by
  apply Int64.toInt_inj.mp
  rw [i64_int, i64_int]
  omega
def aN (n m : Nat) : Nat := Nat.mod (Nat.add m n) 4294967296
def sN (n m : Nat) : Nat := Nat.mod (Nat.add (Nat.sub 4294967296 (Nat.mod m 4294967296)) n) 4294967296
def mN (n m : Nat) : Nat := Nat.mod (Nat.mul n m) 4294967296
section RN
variable {x y : Int32} {n m : Nat}
theorem r_add (hx : x = nI n) (hy : y = nI m) : x + y = nI (aN n m) := by
  subst hx; subst hy
  apply Int32.toBitVec_inj.mp
  show BitVec.ofNat 32 n + BitVec.ofNat 32 m = BitVec.ofNat 32 ((m + n) % 4294967296)
  apply BitVec.eq_of_toNat_eq
  simp only [BitVec.toNat_add, BitVec.toNat_ofNat]
  omega
theorem r_sub (hx : x = nI n) (hy : y = nI m) : x - y = nI (sN n m) := by
  subst hx; subst hy
  apply Int32.toBitVec_inj.mp
  show BitVec.ofNat 32 n - BitVec.ofNat 32 m = BitVec.ofNat 32 (((4294967296 - m % 4294967296) + n) % 4294967296)
  apply BitVec.eq_of_toNat_eq
  simp only [BitVec.toNat_sub, BitVec.toNat_ofNat]
  omega
theorem r_mul (hx : x = nI n) (hy : y = nI m) : x * y = nI (mN n m) := by
  subst hx; subst hy
  apply Int32.toBitVec_inj.mp
  show BitVec.ofNat 32 n * BitVec.ofNat 32 m = BitVec.ofNat 32 ((n * m) % 4294967296)
  apply BitVec.eq_of_toNat_eq
  simp only [BitVec.toNat_mul, BitVec.toNat_ofNat]
  rw [← Nat.mul_mod]
  omega
theorem r_and (hx : x = nI n) (hy : y = nI m) : x &&& y = nI (Nat.land n m) := by
  subst hx; subst hy
  apply Int32.toBitVec_inj.mp
  show BitVec.ofNat 32 n &&& BitVec.ofNat 32 m = BitVec.ofNat 32 (n &&& m)
  apply BitVec.eq_of_toNat_eq
  simp only [BitVec.toNat_and, BitVec.toNat_ofNat]
  rw [Nat.and_mod_two_pow]
theorem r_or (hx : x = nI n) (hy : y = nI m) : x ||| y = nI (Nat.lor n m) := by
  subst hx; subst hy
  apply Int32.toBitVec_inj.mp
  show BitVec.ofNat 32 n ||| BitVec.ofNat 32 m = BitVec.ofNat 32 (n ||| m)
  apply BitVec.eq_of_toNat_eq
  simp only [BitVec.toNat_or, BitVec.toNat_ofNat]
  rw [Nat.or_mod_two_pow]
theorem r_xor (hx : x = nI n) (hy : y = nI m) : x ^^^ y = nI (Nat.xor n m) := by
  subst hx; subst hy
  apply Int32.toBitVec_inj.mp
  show BitVec.ofNat 32 n ^^^ BitVec.ofNat 32 m = BitVec.ofNat 32 (n ^^^ m)
  apply BitVec.eq_of_toNat_eq
  simp only [BitVec.toNat_xor, BitVec.toNat_ofNat]
  rw [Nat.xor_mod_two_pow]
def b1 (f : Int32 → Int32) (n : Nat) : Nat := c32 (f (nI n))
def b2 (f : Int32 → Int32 → Int32) (n m : Nat) : Nat := c32 (f (nI n) (nI m))
theorem r_b1 (f : Int32 → Int32) (hx : x = nI n) : f x = nI (b1 f n) := by subst hx; exact nI_c _
theorem r_b2 (f : Int32 → Int32 → Int32) (hx : x = nI n) (hy : y = nI m) : f x y = nI (b2 f n m) := by subst hx; subst hy; exact nI_c _
def f_shl (x y : Int32) : Int32 := x <<< (y &&& 31)
def f_shr (x y : Int32) : Int32 := x >>> (y &&& 31)
def f_div (x y : Int32) : Int32 := x / y
def f_i8 (x : Int32) : Int32 := x.toInt8.toInt32
def f_i16 (x : Int32) : Int32 := x.toInt16.toInt32
theorem r_nI {a b : Nat} (h : a = b) : nI a = nI b := congrArg nI h
noncomputable def tN (n : Nat) : Nat := @Bool.rec (fun _ => Nat) 0 (Nat.mod n 4294967296) (Nat.ble (Nat.mod n 4294967296) 2147483647)
theorem tN_eq (n : Nat) : tN n = if n % 4294967296 ≤ 2147483647 then n % 4294967296 else 0 := by
  show @Bool.rec (fun _ => Nat) 0 (n % 4294967296) (Nat.ble (n % 4294967296) 2147483647) = _
  cases h : Nat.ble (n % 4294967296) 2147483647 with
  | true => rw [if_pos (Nat.le_of_ble_eq_true h)]
  | false => rw [if_neg (fun q => by rw [Nat.ble_eq_true_of_le q] at h; cases h)]
theorem r_nat (hx : x = nI n) : x.toNatClampNeg = tN n := by
  subst hx
  show (nI n).toInt.toNat = _
  rw [tN_eq, nI_int]
  split <;> omega
def ltN (n m : Nat) : Bool := Nat.ble (Nat.succ (Nat.mod (Nat.add 2147483648 n) 4294967296)) (Nat.mod (Nat.add 2147483648 m) 4294967296)
def leN (n m : Nat) : Bool := Nat.ble (Nat.mod (Nat.add 2147483648 n) 4294967296) (Nat.mod (Nat.add 2147483648 m) 4294967296)
def eqN (n m : Nat) : Bool := Nat.beq (Nat.mod n 4294967296) (Nat.mod m 4294967296)
theorem ble_iff {a b : Nat} : Nat.ble a b = true ↔ a ≤ b := ⟨Nat.le_of_ble_eq_true, Nat.ble_eq_true_of_le⟩
theorem beq_iff {a b : Nat} : Nat.beq a b = true ↔ a = b := ⟨Nat.eq_of_beq_eq_true, fun h => by rw [h]; exact Nat.beq_refl b⟩
theorem c_lt (hx : x = nI n) (hy : y = nI m) : x < y ↔ ltN n m = true := by
  subst hx; subst hy
  rw [Int32.lt_iff_toInt_lt, nI_int, nI_int]
  show _ ↔ Nat.ble ((2147483648 + n) % 4294967296 + 1) ((2147483648 + m) % 4294967296) = true
  rw [ble_iff]
  omega
theorem c_le (hx : x = nI n) (hy : y = nI m) : x ≤ y ↔ leN n m = true := by
  subst hx; subst hy
  rw [Int32.le_iff_toInt_le, nI_int, nI_int]
  show _ ↔ Nat.ble ((2147483648 + n) % 4294967296) ((2147483648 + m) % 4294967296) = true
  rw [ble_iff]
  omega
theorem c_eq (hx : x = nI n) (hy : y = nI m) : x = y ↔ eqN n m = true := by
  subst hx; subst hy
  rw [← Int32.toInt_inj, nI_int, nI_int]
  show _ ↔ Nat.beq (n % 4294967296) (m % 4294967296) = true
  rw [beq_iff]
  omega
noncomputable def inN (n L : Nat) : Bool := @Bool.rec (fun _ => Bool) false (Nat.ble (Nat.succ (Nat.mod n 4294967296)) L) (Nat.ble (Nat.mod n 4294967296) 2147483647)
theorem and_rec {a b : Bool} (h : @Bool.rec (fun _ => Bool) false b a = true) : a = true ∧ b = true := by
  cases a with
  | true => exact ⟨rfl, h⟩
  | false => exact Bool.noConfusion h
theorem k_in {L L' : Nat} (hx : x = nI n) (hL : L = L') (h : inN n L' = true) : vp_in x L := by
  subst hx; subst hL
  obtain ⟨h1, h2⟩ := and_rec h
  have h1 : n % 4294967296 ≤ 2147483647 := ble_iff.mp h1
  have h2 : n % 4294967296 + 1 ≤ L := ble_iff.mp h2
  unfold vp_in
  rw [Int32.lt_iff_toInt_lt, nI_int, r_nat rfl, tN_eq, if_pos h1]
  show ¬ (_ < (0 : Int) ∨ _)
  omega
theorem r_ite {c : Prop} [Decidable c] {b : Bool} (hc : c ↔ b = true) (hx : x = nI n) (hy : y = nI m) : (if c then x else y) = nI (@Bool.rec (fun _ => Nat) m n b) := by
  cases b with
  | true => rw [if_pos (hc.mpr rfl)]; exact hx
  | false => rw [if_neg (fun q => Bool.noConfusion (hc.mp q))]; exact hy
theorem k_nar (hx : x = nI n) (h : Nat.ble n 1 = true) : narrow .boolean (.int x) = .int x := by
  subst hx
  have h := ble_iff.mp h
  match n, h with
  | 0, _ => rfl
  | 1, _ => rfl
theorem k_not {c : Prop} {b : Bool} (hc : c ↔ b = true) (h : Bool.not b = true) : ¬ c := fun q => by rw [hc.mp q] at h; exact Bool.noConfusion h
theorem k_lt {a a' b b' : Nat} (ha : a = a') (hb : b = b') (h : Nat.blt a' b' = true) : a < b := by subst ha; subst hb; exact ble_iff.mp h
theorem k_le {a a' b b' : Nat} (ha : a = a') (hb : b = b') (h : Nat.ble a' b' = true) : a ≤ b := by subst ha; subst hb; exact ble_iff.mp h
theorem n_add {a a' b b' : Nat} (ha : a = a') (hb : b = b') : a + b = Nat.add a' b' := by subst ha; subst hb; rfl
theorem n_mul {a a' b b' : Nat} (ha : a = a') (hb : b = b') : a * b = Nat.mul a' b' := by subst ha; subst hb; rfl
end RN
section RL
variable {x y : Int64} {z : Int32} {n m : Nat}
noncomputable def xN (n : Nat) : Nat := @Bool.rec (fun _ => Nat) (Nat.add (Nat.mod n 4294967296) 18446744069414584320) (Nat.mod n 4294967296) (Nat.ble (Nat.mod n 4294967296) 2147483647)
theorem r_ext (hz : z = nI n) : z.toInt64 = i64 (xN n) := by
  subst hz
  apply Int64.toInt_inj.mp
  rw [Int32.toInt_toInt64, nI_int, i64_int]
  have e : xN n = if n % 4294967296 ≤ 2147483647 then n % 4294967296 else n % 4294967296 + 18446744069414584320 := by
    show @Bool.rec (fun _ => Nat) _ _ (Nat.ble (n % 4294967296) 2147483647) = _
    cases h : Nat.ble (n % 4294967296) 2147483647 with
    | true => rw [if_pos (Nat.le_of_ble_eq_true h)]; rfl
    | false => rw [if_neg (fun q => by rw [Nat.ble_eq_true_of_le q] at h; cases h)]; rfl
  rw [e]
  split <;> omega
def sh64 (n : Nat) : Nat := Nat.mod (Nat.add 9223372036854775808 n) 18446744073709551616
theorem sh64_eq (n : Nat) : sh64 n = (9223372036854775808 + n) % 18446744073709551616 := rfl
noncomputable def lcN (n m : Nat) : Nat := @Bool.rec (fun _ => Nat) (@Bool.rec (fun _ => Nat) 4294967295 0 (Nat.beq (sh64 n) (sh64 m))) 1 (Nat.ble (Nat.succ (sh64 m)) (sh64 n))
theorem i64_sh (n : Nat) : (i64 n).toInt = (sh64 n : Int) - 9223372036854775808 := by rw [sh64_eq, Nat.add_comm]; exact i64_int n
theorem cmp_1 (n m : Nat) : i64 n > i64 m ↔ Nat.ble (Nat.succ (sh64 m)) (sh64 n) = true := by
  rw [gt_iff_lt, Int64.lt_iff_toInt_lt, i64_sh, i64_sh, ble_iff]
  generalize sh64 n = a
  generalize sh64 m = b
  omega
theorem cmp_2 (n m : Nat) : i64 n = i64 m ↔ Nat.beq (sh64 n) (sh64 m) = true := by
  rw [← Int64.toInt_inj, i64_sh, i64_sh, beq_iff]
  generalize sh64 n = a
  generalize sh64 m = b
  omega
theorem cmp_m : (-1 : Int32) = nI 4294967295 := by decide
theorem r_cmp (hx : x = i64 n) (hy : y = i64 m) : lg_cmp x y = nI (lcN n m) := by
  rw [hx, hy]
  have c1 := cmp_1 n m
  have c2 := cmp_2 n m
  unfold lg_cmp lcN
  revert c1 c2
  generalize Nat.ble (Nat.succ (sh64 m)) (sh64 n) = u1
  generalize Nat.beq (sh64 n) (sh64 m) = u2
  intro c1 c2
  by_cases h1 : i64 n > i64 m
  · rw [if_pos h1, c1.mp h1]
    rfl
  · rw [if_neg h1]
    have e1 : u1 = false := by
      cases u1 with
      | true => exact absurd (c1.mpr rfl) h1
      | false => rfl
    rw [e1]
    by_cases h2 : i64 n = i64 m
    · rw [if_pos h2, c2.mp h2]
      rfl
    · rw [if_neg h2]
      have e2 : u2 = false := by
        cases u2 with
        | true => exact absurd (c2.mpr rfl) h2
        | false => rfl
      rw [e2]
      exact cmp_m
def tr32 (n : Nat) : Nat := n
theorem r_tr (hx : x = i64 n) : x.toInt32 = nI (tr32 n) := by
  subst hx
  apply Int32.toInt_inj.mp
  rw [Int64.toInt_toInt32, i64_int, tr32, nI_int]
  simp only [Int.bmod]
  split <;> omega
def b64 (f : Int64 → Int64 → Int64) (n m : Nat) : Nat := c64 (f (i64 n) (i64 m))
def b64i (f : Int64 → Int32 → Int64) (n m : Nat) : Nat := c64 (f (i64 n) (nI m))
theorem r_b64 (f : Int64 → Int64 → Int64) (hx : x = i64 n) (hy : y = i64 m) : f x y = i64 (b64 f n m) := by subst hx; subst hy; exact i64_c _
theorem r_b64i (f : Int64 → Int32 → Int64) (hx : x = i64 n) (hy : z = nI m) : f x z = i64 (b64i f n m) := by subst hx; subst hy; exact i64_c _
def f_lshl (x : Int64) (y : Int32) : Int64 := x <<< (y.toInt64 &&& 63)
def f_lshr (x : Int64) (y : Int32) : Int64 := x >>> (y.toInt64 &&& 63)
def f_lushr (x : Int64) (y : Int32) : Int64 := ((x.toUInt64 >>> (y.toInt64.toUInt64 &&& Int64.toUInt64 63)).toInt64)
def f_ladd (x y : Int64) : Int64 := x + y
def f_lsub (x y : Int64) : Int64 := x - y
def f_lmul (x y : Int64) : Int64 := x * y
def f_land (x y : Int64) : Int64 := x &&& y
def f_lor (x y : Int64) : Int64 := x ||| y
end RL
theorem r_len {a b : Nat} (h : a = b) : lenJS.getD a 0 = lenJS.getD b 0 := by subst h; rfl
theorem r_byt {a b j k : Nat} (h : a = b) (hj : j = k) : (bytJS.getD a []).getD j 0 = nI (c32 ((bytJS.getD b []).getD k 0)) := by subst h; subst hj; exact nI_c _
/-! tables -/
def kdT : Nat := 5788383798735823293343118552862485587497527588573374616552645549342891591807338570344609850493895325859975223991061876772835396578998431551953821746242454756125869104697314293245513758217637422559108546940926859080912433990128118719054437302698799899788183818
def alT : Nat := 36937944554421810733200141885012715843782822160413906029794408940014210946607451766496897976922779277612566583467885438454386808575184152132634687713179366582124237826238430330354180240496572560641386437852156814038906212818387162510754121320809141697462402011723759230537488484622662491618810949752634795784677276069628178451198583582348845769732285766777045757742816660920151109769663331248640173093192929160931666840435441076267496738593582260620304976662325280666024133617908831557484122142404674688290864895098880
def nfT : Nat := 36937944554421810733200141885012715843782822160413906029794408940014210946607451766496897976922779277612566583467885438454386875420420095419063046385308215731354605453261105890994587464071823182160126073934513296180098308759349220557072493233652545588123923425913672478018932231206181339671010942549415243485324760956807663717437121858098795638383652177022035265647204399793999335159618545915701429577294240377603031860826949860902593983776789633707379092922037646193296529625545062415821802178584216850525814752673805
def bsT : Nat := 262725025196477462350442269373842985918499317203174759768090638173427313212512681508829387731616921424433762114329806494828057228751360115157022459744023892368009789777020048866911412926523679536601963148911028900652938315534623834956923387873058072339749538752512046569304662420042630588902558990901693526934669505889559242134386074864290286492350896711735433238867452556542724414097005313073213996470107511589576317276252896002779676473322451075588627481388684603063977232343182455902246855056070823834277779679805440
noncomputable def kdB (a c : Nat) : Bool := @Bool.rec (fun _ => Bool) false (Nat.beq (Nat.mod (Nat.shiftRight kdT (Nat.mul 8 a)) 256) c) (Nat.ble a 107)
theorem kdF_ok : ∀ a, a < 108 → Nat.mod (Nat.shiftRight kdT (Nat.mul 8 a)) 256 = kd a := by decide +kernel
theorem k_kd {a a' c : Nat} (ha : a = a') (h : kdB a' c = true) : kd a = c := by
  subst ha
  obtain ⟨h1, h2⟩ := and_rec h
  rw [← kdF_ok a (Nat.lt_succ_of_le (ble_iff.mp h1))]
  exact beq_iff.mp h2
def alF (a : Nat) : Nat := Nat.mod (Nat.shiftRight alT (Nat.mul 16 a)) 65536
def nfF (a : Nat) : Nat := Nat.mod (Nat.shiftRight nfT (Nat.mul 16 a)) 65536
def bsF (a : Nat) : Nat := Nat.mod (Nat.shiftRight bsT (Nat.mul 16 a)) 65536
theorem tab_out {t a : Nat} (ht : t < 2 ^ 1728) (ha : 108 ≤ a) : Nat.mod (Nat.shiftRight t (Nat.mul 16 a)) 65536 = 0 := by
  show (t >>> (16 * a)) % 65536 = 0
  rw [Nat.shiftRight_eq_div_pow, Nat.div_eq_of_lt (Nat.lt_of_lt_of_le ht (Nat.pow_le_pow_right (by decide) (by omega)))]
theorem alF_in : ∀ a, a < 108 → alF a = al a := by decide +kernel
theorem r_al {a a' : Nat} (h : a = a') : al a = alF a' := by
  subst h
  by_cases ha : a < 108
  · exact (alF_in a ha).symm
  · have h1 : alF a = 0 := tab_out (by decide +kernel) (by omega)
    rw [h1]
    unfold al
    rw [List.getD_eq_getElem?_getD, List.getElem?_eq_none (by show 108 ≤ a; omega)]
    rfl
def wdF (a : Nat) : Nat := Nat.div (alF (Nat.add a 1)) (alF a)
theorem r_wd {a a' : Nat} (h : a = a') : wd a = wdF a' := by
  subst h
  show al (a + 1) / al a = alF (a + 1) / alF a
  rw [r_al rfl, r_al rfl]
theorem nf_lt {a j : Nat} (h : j < nfF a) : a < 108 := by
  by_cases ha : a < 108
  · exact ha
  · have h1 : nfF a = 0 := tab_out (by decide +kernel) (by omega)
    omega
def disB (a b : Nat) : Bool := Nat.beq a b || (Nat.ble (bsF a + nfF a) (bsF b) || Nat.ble (bsF b + nfF b) (bsF a))
theorem dis_all : ∀ a, a < 108 → ∀ b, b < 108 → disB a b = true := by decide +kernel
/-! the memory -/
noncomputable def rd (μ a j : Nat) : Nat := @Bool.rec (fun _ => Nat) 0 (Nat.mod (Nat.shiftRight μ (Nat.mul 32 (Nat.add (bsF a) j))) 4294967296) (Nat.ble (Nat.succ j) (nfF a))
noncomputable def dM (μ : Nat) : MM := fun a j => nI (rd μ a j)
def wrK (μ K v : Nat) : Nat := Nat.xor μ (Nat.shiftLeft (Nat.xor (Nat.mod (Nat.shiftRight μ K) 4294967296) (Nat.mod v 4294967296)) K)
noncomputable def wrB (Q : Nat → Bool) (μ a j v : Nat) : Bool := @Bool.rec (fun _ => Bool) false (Q (wrK μ (Nat.mul 32 (Nat.add (bsF a) j)) v)) (Nat.ble (Nat.succ j) (nfF a))
theorem wrK_at (μ x y v : Nat) : Nat.mod (Nat.shiftRight (wrK μ (32 * x) v) (32 * y)) 4294967296 = if x = y then v % 4294967296 else (μ >>> (32 * y)) % 4294967296 := by
  show ((μ ^^^ ((((μ >>> (32 * x)) % 2 ^ 32) ^^^ (v % 2 ^ 32)) <<< (32 * x))) >>> (32 * y)) % 2 ^ 32 = if x = y then v % 2 ^ 32 else (μ >>> (32 * y)) % 2 ^ 32
  apply Nat.eq_of_testBit_eq
  intro i
  by_cases hxy : x = y
  · subst hxy
    rw [if_pos rfl]
    simp only [Nat.testBit_mod_two_pow, Nat.testBit_shiftRight, Nat.testBit_xor, Nat.testBit_shiftLeft]
    by_cases hi : i < 32
    · simp [hi]
    · simp [hi]
  · rw [if_neg hxy]
    simp only [Nat.testBit_mod_two_pow, Nat.testBit_shiftRight, Nat.testBit_xor, Nat.testBit_shiftLeft]
    by_cases hi : i < 32
    · by_cases h1 : 32 * x ≤ 32 * y + i
      · have h2 : ¬ 32 * y + i - 32 * x < 32 := by omega
        simp [hi, h1, h2]
      · simp [hi, h1]
    · simp [hi]
theorem rd_eq (μ a j : Nat) : rd μ a j = if j < nfF a then (μ >>> (32 * (bsF a + j))) % 4294967296 else 0 := by
  show @Bool.rec (fun _ => Nat) 0 _ (Nat.ble (j + 1) (nfF a)) = _
  cases h : Nat.ble (j + 1) (nfF a) with
  | true => rw [if_pos (show j < nfF a from ble_iff.mp h)]; rfl
  | false => rw [if_neg (fun q => by rw [Nat.ble_eq_true_of_le (show j + 1 ≤ nfF a from q)] at h; cases h)]
theorem dM_wr {μ a j v : Nat} (hj : j < nfF a) : dM (wrK μ (Nat.mul 32 (Nat.add (bsF a) j)) v) = mset (dM μ) a j (nI v) := by
  funext a' j'
  rw [mset_if]
  show nI (rd _ a' j') = _
  rw [rd_eq]
  by_cases hj' : j' < nfF a'
  · rw [if_pos hj']
    have e := wrK_at μ (bsF a + j) (bsF a' + j') v
    have e2 : ((wrK μ (Nat.mul 32 (Nat.add (bsF a) j)) v) >>> (32 * (bsF a' + j'))) % 4294967296 = if bsF a + j = bsF a' + j' then v % 4294967296 else (μ >>> (32 * (bsF a' + j'))) % 4294967296 := e
    rw [e2]
    by_cases hh : a' = a ∧ j' = j
    · obtain ⟨rfl, rfl⟩ := hh
      rw [if_pos rfl, if_pos ⟨rfl, rfl⟩]
      exact nI_md (by omega)
    · rw [if_neg hh]
      have hne : ¬ bsF a + j = bsF a' + j' := by
        have hd := dis_all a (nf_lt hj) a' (nf_lt hj')
        unfold disB at hd
        simp only [Bool.or_eq_true, ble_iff, beq_iff] at hd
        intro q
        rcases hd with hd | hd | hd
        · subst hd
          exact hh ⟨rfl, by omega⟩
        · omega
        · omega
      rw [if_neg hne]
      show _ = nI (rd μ a' j')
      rw [rd_eq, if_pos hj']
  · rw [if_neg hj']
    have hh : ¬ (a' = a ∧ j' = j) := fun q => by obtain ⟨rfl, rfl⟩ := q; exact hj' hj
    rw [if_neg hh]
    show _ = nI (rd μ a' j')
    rw [rd_eq, if_neg hj']
theorem r_rd {M : MM} {μ a a' j j' : Nat} (hM : M = dM μ) (ha : a = a') (hj : j = j') : M a j = nI (rd μ a' j') := by subst hM; subst ha; subst hj; rfl
theorem e_wr {M : MM} {P : MM → Prop} {Q : Nat → Bool} {μ a a' j j' v' : Nat} {v : Int32} (h : wrB Q μ a' j' v' = true) (hM : M = dM μ) (ha : a = a') (hj : j = j') (hv : v = nI v') (k : ∀ (M' : MM) (μ' : Nat), M' = dM μ' → Q μ' = true → P M') : ∀ M' : MM, M' = mset M a j v → P M' := by
  subst hM; subst ha; subst hj; subst hv
  obtain ⟨h1, h2⟩ := and_rec h
  intro M' hM'
  exact k M' _ (hM'.trans (dM_wr (ble_iff.mp h1)).symm) h2
noncomputable def cpN (μ a0 a1 n : Nat) : Nat := @Nat.rec (fun _ => Nat) μ (fun j r => wrK r (Nat.mul 32 (Nat.add (bsF a1) j)) (rd μ a0 j)) n
theorem dM_cp {μ a0 a1 : Nat} : ∀ n : Nat, n ≤ nfF a1 → dM (cpN μ a0 a1 n) = mrow (dM μ) a1 (va_cpy (dM μ a0) (dM μ a1) 0 0 n)
  | 0, _ => by
    show dM μ = _
    funext a j
    by_cases h : a = a1
    · subst h
      rw [mrow_same]
      unfold va_cpy
      rw [if_neg (by omega)]
    · rw [mrow_ne h]
  | n + 1, h => by
    have e : dM (cpN μ a0 a1 (n + 1)) = mset (dM (cpN μ a0 a1 n)) a1 n (nI (rd μ a0 n)) := dM_wr (by omega)
    rw [e, dM_cp n (by omega)]
    funext a j
    rw [mset_if]
    by_cases ha : a = a1
    · subst ha
      rw [mrow_same, mrow_same]
      unfold va_cpy
      by_cases hj : j = n
      · subst hj
        rw [if_pos ⟨rfl, rfl⟩, if_pos (by omega)]
        show nI (rd μ a0 j) = nI (rd μ a0 (0 + (j - 0)))
        congr 2
        omega
      · rw [if_neg (fun q => hj q.2)]
        by_cases h2 : j < n
        · rw [if_pos (by omega), if_pos (by omega)]
        · rw [if_neg (by omega), if_neg (by omega)]
    · rw [if_neg (fun q => ha q.1), mrow_ne ha, mrow_ne ha]
noncomputable def cpB (Q : Nat → Bool) (μ a0 a1 n : Nat) : Bool := @Bool.rec (fun _ => Bool) false (Q (cpN μ a0 a1 n)) (Nat.ble n (nfF a1))
theorem e_cp {M : MM} {P : MM → Prop} {Q : Nat → Bool} {μ a0 a0' a1 a1' n n' : Nat} (h : cpB Q μ a0' a1' n' = true) (hM : M = dM μ) (h0 : a0 = a0') (h1 : a1 = a1') (hn : n = n') (k : ∀ (M' : MM) (μ' : Nat), M' = dM μ' → Q μ' = true → P M') : ∀ M' : MM, M' = mrow M a1 (va_cpy (M a0) (M a1) (0 : Int32).toNatClampNeg (0 : Int32).toNatClampNeg n) → P M' := by
  subst hM; subst h0; subst h1; subst hn
  obtain ⟨h1, h2⟩ := and_rec h
  intro M' hM'
  exact k M' _ (hM'.trans (dM_cp n (ble_iff.mp h1)).symm) h2
theorem e_ite {c : Prop} [Decidable c] {A B : Prop} {b A' B' : Bool} (hc : c ↔ b = true) (h : @Bool.rec (fun _ => Bool) B' A' b = true) (h1 : A' = true → A) (h2 : B' = true → B) : if c then A else B := by
  cases b with
  | true => rw [if_pos (hc.mpr rfl)]; exact h1 h
  | false => rw [if_neg (fun q => Bool.noConfusion (hc.mp q))]; exact h2 h
theorem e_and {A B : Prop} {a b : Bool} (hA : a = true → A) (h : @Bool.rec (fun _ => Bool) false b a = true) (hB : b = true → B) : A ∧ B := by
  obtain ⟨h1, h2⟩ := and_rec h
  exact ⟨hA h1, hB h2⟩
noncomputable def kdSB (b n a c : Nat) : Bool := @Bool.rec (fun _ => Bool) false (@Bool.rec (fun _ => Bool) false (kdB a c) (Nat.ble (Nat.succ a) (Nat.add b n))) (Nat.ble b a)
theorem k_kds {b n a a' c : Nat} (ha : a = a') (h : kdSB b n a' c = true) : kdS b n a = c := by
  subst ha
  obtain ⟨h1, h2⟩ := and_rec h
  obtain ⟨h3, h4⟩ := and_rec h2
  have h3' : Nat.blt a (b + n) = true := h3
  unfold kdS
  rw [h1, h3', show (true && true) = true from rfl, if_pos rfl]
  exact k_kd rfl h4
