/-! BITS of ints and longs -/
def bI (x : Int32) (k : Nat) : Bool := x.toBitVec.getLsbD k
def bL (x : Int64) (k : Nat) : Bool := x.toBitVec.getLsbD k
theorem shI_all : ∀ k, k < 32 → (((nI k &&& 31 : Int32).toBitVec).smod 32).toNat = k := by decide +kernel
theorem shL_all : ∀ k, k < 64 → ((((nI k).toInt64 &&& 63 : Int64).toBitVec).smod 64).toNat = k := by decide +kernel
theorem oneI_all : ∀ k, k < 32 → ∀ j, j < 32 → ((1 : Int32) <<< (nI k &&& 31)).toBitVec.getLsbD j = decide (j = k) := by decide +kernel
theorem oneL_all : ∀ k, k < 64 → ∀ j, j < 64 → ((1 : Int64) <<< ((nI k).toInt64 &&& 63)).toBitVec.getLsbD j = decide (j = k) := by decide +kernel
theorem shrI (x : Int32) {k : Nat} (hk : k < 32) : (x >>> (nI k &&& 31)).toBitVec = x.toBitVec.sshiftRight k := by
  show x.toBitVec.sshiftRight' (((nI k &&& 31 : Int32).toBitVec).smod 32) = _
  unfold BitVec.sshiftRight'
  rw [shI_all k hk]
theorem shrL (x : Int64) {k : Nat} (hk : k < 64) : (x >>> ((nI k).toInt64 &&& 63)).toBitVec = x.toBitVec.sshiftRight k := by
  show x.toBitVec.sshiftRight' ((((nI k).toInt64 &&& 63 : Int64).toBitVec).smod 64) = _
  unfold BitVec.sshiftRight'
  rw [shL_all k hk]
theorem and1_32 (b : BitVec 32) : (b &&& 1#32 = 0#32) ↔ b.getLsbD 0 = false := by
  constructor
  · intro h
    have := congrArg (fun z => BitVec.getLsbD z 0) h
    simpa using this
  · intro h
    apply BitVec.eq_of_getLsbD_eq
    intro i hi
    rw [BitVec.getLsbD_and]
    by_cases e : i = 0
    · subst e; rw [h]; simp
    · simp [e]
theorem and1_64 (b : BitVec 64) : (b &&& 1#64 = 0#64) ↔ b.getLsbD 0 = false := by
  constructor
  · intro h
    have := congrArg (fun z => BitVec.getLsbD z 0) h
    simpa using this
  · intro h
    apply BitVec.eq_of_getLsbD_eq
    intro i hi
    rw [BitVec.getLsbD_and]
    by_cases e : i = 0
    · subst e; rw [h]; simp
    · simp [e]
theorem bI_test (x : Int32) {k : Nat} (hk : k < 32) : (((x >>> (nI k &&& 31)) &&& 1) = 0) ↔ bI x k = false := by
  have e : (((x >>> (nI k &&& 31)) &&& 1) = 0) ↔ ((x >>> (nI k &&& 31)).toBitVec &&& 1#32 = 0#32) := by
    constructor
    · intro h; exact congrArg Int32.toBitVec h
    · intro h; exact Int32.toBitVec_inj.mp h
  rw [e, and1_32, shrI x hk, BitVec.getLsbD_sshiftRight]
  unfold bI
  simp [hk]
theorem bL_test (x : Int64) {k : Nat} (hk : k < 64) : (((x >>> ((nI k).toInt64 &&& 63)) &&& 1) = 0) ↔ bL x k = false := by
  have e : (((x >>> ((nI k).toInt64 &&& 63)) &&& 1) = 0) ↔ ((x >>> ((nI k).toInt64 &&& 63)).toBitVec &&& 1#64 = 0#64) := by
    constructor
    · intro h; exact congrArg Int64.toBitVec h
    · intro h; exact Int64.toBitVec_inj.mp h
  rw [e, and1_64, shrL x hk, BitVec.getLsbD_sshiftRight]
  unfold bL
  simp [hk]
theorem bI_or (x : Int32) {k j : Nat} (hk : k < 32) (hj : j < 32) : bI (x ||| ((1 : Int32) <<< (nI k &&& 31))) j = (bI x j || decide (j = k)) := by
  show (x.toBitVec ||| ((1 : Int32) <<< (nI k &&& 31)).toBitVec).getLsbD j = _
  rw [BitVec.getLsbD_or, oneI_all k hk j hj]
  rfl
theorem bL_or (x : Int64) {k j : Nat} (hk : k < 64) (hj : j < 64) : bL (x ||| ((1 : Int64) <<< ((nI k).toInt64 &&& 63))) j = (bL x j || decide (j = k)) := by
  show (x.toBitVec ||| ((1 : Int64) <<< ((nI k).toInt64 &&& 63)).toBitVec).getLsbD j = _
  rw [BitVec.getLsbD_or, oneL_all k hk j hj]
  rfl
theorem lgc_0 (x : Int64) : (lg_cmp x 0 = 0) ↔ x = 0 := by
  unfold lg_cmp
  by_cases h1 : x > 0
  · rw [if_pos h1]
    exact ⟨fun q => absurd q (by decide), fun q => by subst q; exact absurd h1 (by decide)⟩
  · rw [if_neg h1]
    by_cases h2 : x = 0
    · rw [if_pos h2]; exact ⟨fun _ => h2, fun _ => rfl⟩
    · rw [if_neg h2]; exact ⟨fun q => absurd q (by decide), fun q => absurd q h2⟩
theorem bI_0 (k : Nat) : bI 0 k = false := by
  show (0#32).getLsbD k = false
  simp
theorem bL_0 (k : Nat) : bL 0 k = false := by
  show (0#64).getLsbD k = false
  simp
