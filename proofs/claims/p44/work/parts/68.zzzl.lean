/-! the tape after FEED, and what the law's calls keep of it -/
theorem n_ex {n : Int32} (h0 : 0 ≤ n) (h1 : n ≤ 400) : ∃ k, k ≤ 400 ∧ n = nI k := by
  have a := i_ge_to (k := 0) (by decide) h0
  have b : n.toInt ≤ 400 := Int32.le_iff_toInt_le.mp h1
  refine ⟨n.toInt.toNat, by omega, ?_⟩
  apply Int32.toInt_inj.mp
  rw [nI_sm (by omega)]
  omega
def FT (T T1 : Nat → Int32) (n : Int32) (v : Int64) : Prop := (n ≤ 392 → ∀ k, k ≤ 392 → n = nI k → ∀ x, T1 x = if k ≤ x ∧ x < k + 8 then bC v (sv (x - k)) else T x) ∧ (¬ n ≤ 392 → T1 = T)
theorem ft_c {post : Int32 → MM → Int64 → Prop} {M : MM} {tl v : Int64} (hI : Inv M) (hp : ∀ (r : Int32) (M1 : MM) (t1 : Int64), FT (M 2) (M1 2) (M 1 1) v → post r M1 t1) : wpX10_feed post M tl v := by
  have b := iv_1_1 hI
  obtain ⟨k, hk, e⟩ := n_ex b.1 b.2
  unfold wpX10_feed
  refine ifs (fun c => ?_) (fun c => ?_)
  · have hk8 : k + 8 ≤ 400 := by
      have := i_le_to (k := 400) (by decide) c
      have e8 : M 1 1 + 8 = nI (k + 8) := by rw [e]; exact (r_add rfl (rfl : (8 : Int32) = nI 8)).trans (nI_md (by show (8 + k) % 4294967296 % 4294967296 = _; omega))
      rw [e8, nI_sm (by omega)] at this
      omega
    unfold wpX9_append
    refine ⟨9, ?_⟩
    rw [← sv_0]
    refine ap_ex hk8 8 0 rfl M e (fun M1 e1 f1 => hp _ _ _ ⟨fun _ j hj ej x => ?_, fun z => absurd ?_ z⟩)
    · have : j = k := nI_inj (by omega) (by omega) (ej.symm.trans e)
      subst this
      rw [f1 x]
      rfl
    · lia
  · exact hp _ _ _ ⟨fun z => absurd (by lia) c, fun _ => rfl⟩
theorem ft_r {post : Int32 → MM → Int64 → Prop} {M : MM} {tl v : Int64} (hI : Inv M) (hp : ∀ (r : Int32) (M1 : MM) (t1 : Int64), FT (M 97) (M1 97) (M 81 31) v → post r M1 t1) : wpX11_feed post M tl v := by
  have b := iv_81_31 hI
  obtain ⟨k, hk, e⟩ := n_ex b.1 b.2
  unfold wpX11_feed
  refine ifs (fun c => ?_) (fun c => ?_)
  · have hk8 : k + 8 ≤ 400 := by
      have := i_le_to (k := 400) (by decide) c
      have e8 : M 81 31 + 8 = nI (k + 8) := by rw [e]; exact (r_add rfl (rfl : (8 : Int32) = nI 8)).trans (nI_md (by show (8 + k) % 4294967296 % 4294967296 = _; omega))
      rw [e8, nI_sm (by omega)] at this
      omega
    refine ⟨9, ?_⟩
    rw [← sv_0]
    refine fd_ex hk8 8 0 rfl M e (fun M1 e1 f1 => hp _ _ _ ⟨fun _ j hj ej x => ?_, fun z => absurd ?_ z⟩)
    · have : j = k := nI_inj (by omega) (by omega) (ej.symm.trans e)
      subst this
      rw [f1 x]
      by_cases q : j ≤ x ∧ x < j + 8
      · rw [if_pos (by omega), if_pos q, byte_eq v (by omega)]
      · rw [if_neg (by omega), if_neg q]
    · lia
  · exact hp _ _ _ ⟨fun z => absurd (by lia) c, fun _ => rfl⟩
theorem ft_eq {T T1 U U1 : Nat → Int32} {n : Int32} {v : Int64} (h0 : 0 ≤ n) (h1 : n ≤ 400) (a : FT T T1 n v) (b : FT U U1 n v) (e : T = U) : T1 = U1 := by
  subst e
  by_cases q : n ≤ 392
  · obtain ⟨k, hk, en⟩ := n_ex h0 h1
    have hk2 : k ≤ 392 := by
      have := i_le_to (k := 392) (by decide) q
      rw [en, nI_sm (by omega)] at this
      omega
    funext x
    rw [a.1 q k hk2 en x, b.1 q k hk2 en x]
  · rw [a.2 q, b.2 q]
theorem ft_nn {T T1 : Nat → Int32} {n : Int32} {v : Int64} (h0 : 0 ≤ n) (h1 : n ≤ 400) (a : FT T T1 n v) (e : ∀ x, 0 ≤ T x) (x : Nat) : 0 ≤ T1 x := by
  by_cases q : n ≤ 392
  · obtain ⟨k, hk, en⟩ := n_ex h0 h1
    have hk2 : k ≤ 392 := by
      have := i_le_to (k := 392) (by decide) q
      rw [en, nI_sm (by omega)] at this
      omega
    rw [a.1 q k hk2 en x]
    by_cases z : k ≤ x ∧ x < k + 8
    · rw [if_pos z]; exact byte_nn _ _
    · rw [if_neg z]; exact e x
  · rw [a.2 q]; exact e x
/-- the tapes alike, no byte below 0, the last text's fault alike -/
def RT (M : MM) : Prop := M 2 = M 97 ∧ HB M ∧ M 0 11 = M 81 36
theorem rt_eq {M M2 : MM} (h : RT M) (e1 : M2 2 = M 2) (e2 : M2 97 = M 97) (e3 : M2 0 11 = M 0 11) (e4 : M2 81 36 = M 81 36) : RT M2 := ⟨by rw [e1, e2]; exact h.1, fun x => by rw [e1]; exact h.2.1 x, by rw [e3, e4]; exact h.2.2⟩
