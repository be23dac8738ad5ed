/-! FEED, exactly, on both sides -/
def bC (v : Int64) (s : Int32) : Int32 := ((((v : Int64).toUInt64 >>> ((s : Int32).toInt64.toUInt64 &&& Int64.toUInt64 63)).toInt64 : Int64).toInt32) &&& 255
def bR (v : Int64) (s : Int32) : Int32 := ((v >>> ((s : Int32).toInt64 &&& 63)) &&& 255 : Int64).toInt32
def sv (i : Nat) : Int32 := 56 - 8 * nI i
theorem sv_s : ∀ i, i < 8 → sv (i + 1) = sv i + (-8) := by decide +kernel
theorem sv_0 : sv 0 = 56 := by decide +kernel
theorem sv_nI : ∀ i, i < 8 → sv i = nI (56 - 8 * i) := by decide +kernel
theorem sv_ge : ∀ i, i < 8 → ¬ sv i < 0 := by decide +kernel
theorem sv_8 : sv 8 < 0 := by decide +kernel
theorem shU_all : ∀ k, k < 64 → (UInt64.mod ((nI k).toInt64.toUInt64 &&& Int64.toUInt64 63) 64).toBitVec.toNat = k := by decide +kernel
theorem m255 : ∀ j, j < 32 → (255#32).getLsbD j = decide (j < 8) ∧ (255#64).getLsbD j = decide (j < 8) := by decide +kernel
theorem byte_eq (v : Int64) {i : Nat} (hi : i < 8) : bC v (sv i) = bR v (sv i) := by
  rw [sv_nI i hi]
  have hk : 56 - 8 * i ≤ 56 := by omega
  generalize 56 - 8 * i = k at hk
  unfold bC bR
  apply Int32.toBitVec_inj.mp
  apply BitVec.eq_of_getLsbD_eq
  intro j hj
  have m := m255 j hj
  show ((BitVec.signExtend 32 (v.toBitVec >>> (UInt64.mod ((nI k).toInt64.toUInt64 &&& Int64.toUInt64 63) 64).toBitVec)) &&& 255#32).getLsbD j = (BitVec.signExtend 32 ((v >>> ((nI k).toInt64 &&& 63)).toBitVec &&& 255#64)).getLsbD j
  rw [shrL v (by omega), BitVec.getLsbD_and, BitVec.getLsbD_signExtend, BitVec.getLsbD_signExtend, BitVec.getLsbD_and, m.1, m.2]
  rw [if_pos (by omega), if_pos (by omega), BitVec.getLsbD_sshiftRight]
  have e : (v.toBitVec >>> (UInt64.mod ((nI k).toInt64.toUInt64 &&& Int64.toUInt64 63) 64).toBitVec).getLsbD j = v.toBitVec.getLsbD (k + j) := by
    rw [BitVec.ushiftRight_eq', shU_all k (by omega), BitVec.getLsbD_ushiftRight]
  rw [e]
  by_cases q : j < 8
  · have a : k + j < 64 := by omega
    have b : ¬ 64 ≤ j := by omega
    simp [q, hj, a, b]
  · simp [q]
theorem byte_nn (v : Int64) (s : Int32) : 0 ≤ bC v s := by
  unfold bC
  generalize ((((v : Int64).toUInt64 >>> ((s : Int32).toInt64.toUInt64 &&& Int64.toUInt64 63)).toInt64 : Int64).toInt32) = x
  apply Int32.le_iff_toInt_le.mpr
  show (0 : Int) ≤ (x.toBitVec &&& 255#32).toInt
  have h : (x.toBitVec &&& 255#32).toNat ≤ 255 := by
    rw [BitVec.toNat_and]
    exact Nat.and_le_right
  rw [BitVec.toInt_eq_toNat_of_lt (by omega)]
  omega
theorem ap_ex {post : MM → Int64 → Prop} {v tl : Int64} {k : Nat} (hk : k + 8 ≤ 400) : ∀ (d i : Nat), i + d = 8 → ∀ M : MM, M 1 1 = nI (k + i) → (∀ M1 : MM, M1 1 1 = nI (k + 8) → (∀ x, M1 2 x = if k + i ≤ x ∧ x < k + 8 then bC v (sv (x - k)) else M 2 x) → post M1 tl) → wX9_append_3 post (d + 1) M tl v (sv i) := by
  intro d
  induction d with
  | zero =>
    intro i hi M h hp
    have hi : i = 8 := by omega
    subst hi
    unfold wX9_append_3
    refine ifp sv_8 (hp M h (fun x => ?_))
    rw [if_neg (by omega)]
  | succ d ih =>
    intro i hi M h hp
    have hi' : i + 1 + d = 8 := by omega
    have q := ih (i + 1) hi'
    unfold wX9_append_3
    refine ifn (sv_ge i (by omega)) (ifn ?_ (And.intro ?_ ?_))
    · rw [h]; exact i_nge (k := 400) (by decide) (by rw [nI_sm (by omega)]; omega)
    · rw [h]; exact vp_of (by rw [nI_sm (by omega)]; omega) (by rw [nI_sm (by omega)]; show ((k + i : Nat) : Int) < (400 : Nat); omega)
    intro A eA B eB
    rw [← sv_s i (by omega)]
    refine q B ?_ (fun M1 e1 f1 => hp M1 e1 (fun x => ?_))
    · rw [eB, mset_at, eA, mset_ne (by decide), h, nI_s1]; rfl
    · rw [f1 x, eB, mset_ne (by decide), eA, h, tn_nI (by omega), mset_if]
      by_cases q : x = k + i
      · have y : x - k = i := by omega
        rw [if_neg (by omega), if_pos ⟨rfl, q⟩, if_pos (by omega), y]
        rfl
      · rw [if_neg (c := 2 = 2 ∧ x = k + i) (fun z => q z.2)]
        by_cases z : k + (i + 1) ≤ x ∧ x < k + 8
        · rw [if_pos z, if_pos (by omega)]
        · rw [if_neg z, if_neg (by omega)]
theorem fd_ex {post : Int32 → MM → Int64 → Prop} {v tl : Int64} {k : Nat} (hk : k + 8 ≤ 400) : ∀ (d i : Nat), i + d = 8 → ∀ M : MM, M 81 31 = nI (k + i) → (∀ M1 : MM, M1 81 31 = nI (k + 8) → (∀ x, M1 97 x = if k + i ≤ x ∧ x < k + 8 then bR v (sv (x - k)) else M 97 x) → post (nI (k + 8)) M1 tl) → wX11_feed_19 post (d + 1) M tl v (sv i) := by
  intro d
  induction d with
  | zero =>
    intro i hi M h hp
    have hi : i = 8 := by omega
    subst hi
    unfold wX11_feed_19
    refine ifp sv_8 ?_
    have := hp M h (fun x => ?_)
    · rw [h]; exact this
    · rw [if_neg (by omega)]
  | succ d ih =>
    intro i hi M h hp
    have hi' : i + 1 + d = 8 := by omega
    have q := ih (i + 1) hi'
    unfold wX11_feed_19
    refine ifn (sv_ge i (by omega)) (And.intro ?_ ?_)
    · rw [h]; exact vp_of (by rw [nI_sm (by omega)]; omega) (by rw [nI_sm (by omega)]; show ((k + i : Nat) : Int) < (400 : Nat); omega)
    intro A eA B eB
    rw [← sv_s i (by omega)]
    refine q B ?_ (fun M1 e1 f1 => hp M1 e1 (fun x => ?_))
    · rw [eB, mset_at, eA, mset_ne (by decide), h, nI_s1]; rfl
    · rw [f1 x, eB, mset_ne (by decide), eA, h, tn_nI (by omega), mset_if]
      by_cases q : x = k + i
      · have y : x - k = i := by omega
        rw [if_neg (by omega), if_pos ⟨rfl, q⟩, if_pos (by omega), y]
        rfl
      · rw [if_neg (c := 97 = 97 ∧ x = k + i) (fun z => q z.2)]
        by_cases z : k + (i + 1) ≤ x ∧ x < k + 8
        · rw [if_pos z, if_pos (by omega)]
        · rw [if_neg z, if_neg (by omega)]
