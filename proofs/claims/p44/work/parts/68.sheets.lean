/-! SHEETS: sheet and lay exactly; the relation of the sheets (printed by wip/gen/sheets.py) -/
/-- the class's sheet k is the object 73 + 2 k -/
def shz (M : MM) (k : Nat) : Prop := ((M (73 + 2 * k) 0 = -1 ∧ M 105 k = -4) ∨ (0 ≤ M (73 + 2 * k) 0 ∧ M 105 k ≠ -4 ∧ M 106 k = M (73 + 2 * k) 0 ∧ M 105 k = M (73 + 2 * k) 1)) ∧ ∀ i, i < 40 → M (74 + 2 * k) i = M 107 (40 * k + i)
def RSh (M : MM) : Prop := ∀ k, k < 4 → shz M k
theorem shz_eq {M M1 : MM} {k : Nat} (h : shz M k) (e0 : M1 (73 + 2 * k) 0 = M (73 + 2 * k) 0) (e1 : M1 (73 + 2 * k) 1 = M (73 + 2 * k) 1) (e2 : M1 (74 + 2 * k) = M (74 + 2 * k)) (e3 : M1 105 k = M 105 k) (e4 : M1 106 k = M 106 k) (e5 : ∀ i, i < 40 → M1 107 (40 * k + i) = M 107 (40 * k + i)) : shz M1 k := by
  unfold shz
  rw [e0, e1, e2, e3, e4]
  exact ⟨h.1, fun i hi => by rw [e5 i hi]; exact h.2 i hi⟩
def LY (r k s i : Int32) : Prop := (s < 0 ∧ r = -11) ∨ (0 ≤ s ∧ ¬ (0 ≤ i ∧ i < s) ∧ r = -12) ∨ (0 ≤ i ∧ i < s ∧ r = 1)
def nrl (l v : Int32) : Int32 := if l = 0 then v.toInt8.toInt32 else if l = 1 then v.toInt16.toInt32 else v
theorem sy_renew17_73 {post : MM → Int64 → Prop} {M0 : MM} (hp : ∀ (M1 : MM) (t1 : Int64), Inv M1 → Fr [74] [] M0 M1 → (∀ i, i < 40 → M1 74 i = 0) → post M1 t1) : ∀ v3 : Int32, 0 ≤ v3 → v3 ≤ 40 → ∃ n, ∀ (M : MM) (tl : Int64), Inv M → Fr [74] [] M0 M → (∀ x : Int32, 0 ≤ x → x < v3 → M 74 x.toNatClampNeg = 0) → wX8_renew_17 post n M tl 73 v3 := by
  refine up_ex (P := fun d v3 => ∀ (M : MM) (tl : Int64), Inv M → Fr [74] [] M0 M → (∀ x : Int32, 0 ≤ x → x < v3 → M 74 x.toNatClampNeg = 0) → wX8_renew_17 post d M tl 73 v3) 0 40 ?_
  intro d v3 hlo hhi rc M tl hI hF hz
  unfold wX8_renew_17
  refine ifs (fun c => hp _ _ hI hF (fun i hi => ?_)) (fun c => ?_)
  · have e : (nI i).toNatClampNeg = i := tn_of (nI_sm (by omega))
    have q := hz (nI i) (nJ_ge0 (by omega)) (Int32.lt_iff_toInt_lt.mpr (by have := i_ge_to (k := 40) (by decide) c; rw [nI_sm (by omega)]; omega))
    rw [e] at q
    exact q
  · refine And.intro (by decide) (And.intro (by decide) (And.intro (vpI (c := 40) (by decide) (by lia) (by lia)) ?_))
    intro W e
    refine rc (by lia) _ _ (by rw [e]; exact inv_set hI (i_any _)) (by rw [e]; exact fr_arr hF (by decide)) ?_
    intro x x0 x1
    rw [e, mset_if]
    by_cases q : x = v3
    · rw [q, if_pos ⟨rfl, rfl⟩]
    · rw [if_neg (fun z => tn_ne x0 hlo q z.2)]
      exact hz x x0 (by lia)
theorem sy_renew_73 {post : MM → Int64 → Prop} {M : MM} {tl : Int64} {v1 v2 : Int32} (hI : Inv M) (h2 : 0 ≤ v2 ∧ v2 ≤ 40) (hp : ∀ (M1 : MM) (t1 : Int64), Inv M1 → Fr [74] [(73, 0), (73, 1)] M M1 → M1 73 0 = v2 → M1 73 1 = v1 → (∀ i, i < 40 → M1 74 i = 0) → post M1 t1) : wpX8_renew post M tl 73 v1 v2 := by
  unfold wpX8_renew
  refine And.intro (by decide) ?_
  intro W e
  refine And.intro (by decide) ?_
  intro W2 e2
  rw [if_neg (by lia)] at e2
  have i2 : Inv W2 := by rw [e2, e]; exact inv_set (inv_set hI (i_any _)) (show -1 ≤ v2 ∧ v2 ≤ 40 from ⟨by lia, h2.2⟩)
  have f2 : Fr [74] [(73, 0), (73, 1)] M W2 := by rw [e2, e]; exact fr_fld (fr_fld fr_rfl (by decide)) (by decide)
  have z0 : W2 73 0 = v2 := by rw [e2]; exact mset_at _ _ _ _
  have z1 : W2 73 1 = v1 := by rw [e2, mset_nk (by decide), e]; exact mset_at _ _ _ _
  obtain ⟨n, hn⟩ := sy_renew17_73 (post := post) (M0 := W2) (fun M1 t1 i1 f1 q1 => hp M1 t1 i1 (fr_call f2 f1 (by decide) (by decide)) (by rw [f1 73 0 (by decide) (by decide)]; exact z0) (by rw [f1 73 1 (by decide) (by decide)]; exact z1) q1) 0 (by decide) (by decide)
  exact ⟨n, hn _ _ i2 fr_rfl (fun x x0 x1 => absurd x1 (by lia))⟩
theorem sy_fault_73 {post : Int32 → MM → Int64 → Prop} {M : MM} {tl : Int64} {v1 : Int32} (hp : ∀ r : Int32, ((M 73 0 < 0 ∧ r = 1) ∨ (0 ≤ M 73 0 ∧ ¬ (0 ≤ v1 ∧ v1 < M 73 0) ∧ r = 2) ∨ (0 ≤ v1 ∧ v1 < M 73 0 ∧ r = 0)) → post r M tl) : wpX8_faultAt post M tl 73 v1 := by
  unfold wpX8_faultAt
  refine And.intro (by decide) ?_
  refine ifs (fun c => ifs (fun c2 => hp _ (by lia)) (fun c2 => And.intro (by decide) (ifs (fun c3 => hp _ (by lia)) (fun c3 => hp _ (by lia))))) (fun c => hp _ (by lia))
theorem sy_setCell_73 {post : MM → Int64 → Prop} {M : MM} {tl : Int64} {v1 v2 : Int32} (hI : Inv M) (h0 : 0 ≤ v1 ∧ v1 < M 73 0) (hp : ∀ (M1 : MM) (t1 : Int64), M1 = mset M 74 v1.toNatClampNeg (nrl (M 73 1) v2) → post M1 t1) : wpX8_setCell post M tl 73 v1 v2 := by
  unfold wpX8_setCell
  have hs := iv_73_0 hI
  have key : ∀ t s, s = nrl (M 73 1) v2 → wX8_setCell_39 post M t (73 + 1) v1 s := by
    intro t s es
    unfold wX8_setCell_39
    refine And.intro (by decide) (And.intro (vpI (c := 40) (by decide) (by lia) (by lia)) ?_)
    intro W e
    rw [es] at e
    exact hp _ _ e
  refine And.intro (by decide) ?_
  refine sy_fault_73 (fun r hr => ?_)
  refine ifp (by lia) ?_
  refine And.intro (by decide) (And.intro (by decide) ?_)
  refine ifs (fun c => key _ _ (by unfold nrl; rw [if_pos c])) (fun c => And.intro (by decide) ?_)
  exact ifs (fun c2 => key _ _ (by unfold nrl; rw [if_neg c, if_pos c2])) (fun c2 => key _ _ (by unfold nrl; rw [if_neg c, if_neg c2]))
theorem sy_renew17_75 {post : MM → Int64 → Prop} {M0 : MM} (hp : ∀ (M1 : MM) (t1 : Int64), Inv M1 → Fr [76] [] M0 M1 → (∀ i, i < 40 → M1 76 i = 0) → post M1 t1) : ∀ v3 : Int32, 0 ≤ v3 → v3 ≤ 40 → ∃ n, ∀ (M : MM) (tl : Int64), Inv M → Fr [76] [] M0 M → (∀ x : Int32, 0 ≤ x → x < v3 → M 76 x.toNatClampNeg = 0) → wX8_renew_17 post n M tl 75 v3 := by
  refine up_ex (P := fun d v3 => ∀ (M : MM) (tl : Int64), Inv M → Fr [76] [] M0 M → (∀ x : Int32, 0 ≤ x → x < v3 → M 76 x.toNatClampNeg = 0) → wX8_renew_17 post d M tl 75 v3) 0 40 ?_
  intro d v3 hlo hhi rc M tl hI hF hz
  unfold wX8_renew_17
  refine ifs (fun c => hp _ _ hI hF (fun i hi => ?_)) (fun c => ?_)
  · have e : (nI i).toNatClampNeg = i := tn_of (nI_sm (by omega))
    have q := hz (nI i) (nJ_ge0 (by omega)) (Int32.lt_iff_toInt_lt.mpr (by have := i_ge_to (k := 40) (by decide) c; rw [nI_sm (by omega)]; omega))
    rw [e] at q
    exact q
  · refine And.intro (by decide) (And.intro (by decide) (And.intro (vpI (c := 40) (by decide) (by lia) (by lia)) ?_))
    intro W e
    refine rc (by lia) _ _ (by rw [e]; exact inv_set hI (i_any _)) (by rw [e]; exact fr_arr hF (by decide)) ?_
    intro x x0 x1
    rw [e, mset_if]
    by_cases q : x = v3
    · rw [q, if_pos ⟨rfl, rfl⟩]
    · rw [if_neg (fun z => tn_ne x0 hlo q z.2)]
      exact hz x x0 (by lia)
theorem sy_renew_75 {post : MM → Int64 → Prop} {M : MM} {tl : Int64} {v1 v2 : Int32} (hI : Inv M) (h2 : 0 ≤ v2 ∧ v2 ≤ 40) (hp : ∀ (M1 : MM) (t1 : Int64), Inv M1 → Fr [76] [(75, 0), (75, 1)] M M1 → M1 75 0 = v2 → M1 75 1 = v1 → (∀ i, i < 40 → M1 76 i = 0) → post M1 t1) : wpX8_renew post M tl 75 v1 v2 := by
  unfold wpX8_renew
  refine And.intro (by decide) ?_
  intro W e
  refine And.intro (by decide) ?_
  intro W2 e2
  rw [if_neg (by lia)] at e2
  have i2 : Inv W2 := by rw [e2, e]; exact inv_set (inv_set hI (i_any _)) (show -1 ≤ v2 ∧ v2 ≤ 40 from ⟨by lia, h2.2⟩)
  have f2 : Fr [76] [(75, 0), (75, 1)] M W2 := by rw [e2, e]; exact fr_fld (fr_fld fr_rfl (by decide)) (by decide)
  have z0 : W2 75 0 = v2 := by rw [e2]; exact mset_at _ _ _ _
  have z1 : W2 75 1 = v1 := by rw [e2, mset_nk (by decide), e]; exact mset_at _ _ _ _
  obtain ⟨n, hn⟩ := sy_renew17_75 (post := post) (M0 := W2) (fun M1 t1 i1 f1 q1 => hp M1 t1 i1 (fr_call f2 f1 (by decide) (by decide)) (by rw [f1 75 0 (by decide) (by decide)]; exact z0) (by rw [f1 75 1 (by decide) (by decide)]; exact z1) q1) 0 (by decide) (by decide)
  exact ⟨n, hn _ _ i2 fr_rfl (fun x x0 x1 => absurd x1 (by lia))⟩
theorem sy_fault_75 {post : Int32 → MM → Int64 → Prop} {M : MM} {tl : Int64} {v1 : Int32} (hp : ∀ r : Int32, ((M 75 0 < 0 ∧ r = 1) ∨ (0 ≤ M 75 0 ∧ ¬ (0 ≤ v1 ∧ v1 < M 75 0) ∧ r = 2) ∨ (0 ≤ v1 ∧ v1 < M 75 0 ∧ r = 0)) → post r M tl) : wpX8_faultAt post M tl 75 v1 := by
  unfold wpX8_faultAt
  refine And.intro (by decide) ?_
  refine ifs (fun c => ifs (fun c2 => hp _ (by lia)) (fun c2 => And.intro (by decide) (ifs (fun c3 => hp _ (by lia)) (fun c3 => hp _ (by lia))))) (fun c => hp _ (by lia))
theorem sy_setCell_75 {post : MM → Int64 → Prop} {M : MM} {tl : Int64} {v1 v2 : Int32} (hI : Inv M) (h0 : 0 ≤ v1 ∧ v1 < M 75 0) (hp : ∀ (M1 : MM) (t1 : Int64), M1 = mset M 76 v1.toNatClampNeg (nrl (M 75 1) v2) → post M1 t1) : wpX8_setCell post M tl 75 v1 v2 := by
  unfold wpX8_setCell
  have hs := iv_75_0 hI
  have key : ∀ t s, s = nrl (M 75 1) v2 → wX8_setCell_39 post M t (75 + 1) v1 s := by
    intro t s es
    unfold wX8_setCell_39
    refine And.intro (by decide) (And.intro (vpI (c := 40) (by decide) (by lia) (by lia)) ?_)
    intro W e
    rw [es] at e
    exact hp _ _ e
  refine And.intro (by decide) ?_
  refine sy_fault_75 (fun r hr => ?_)
  refine ifp (by lia) ?_
  refine And.intro (by decide) (And.intro (by decide) ?_)
  refine ifs (fun c => key _ _ (by unfold nrl; rw [if_pos c])) (fun c => And.intro (by decide) ?_)
  exact ifs (fun c2 => key _ _ (by unfold nrl; rw [if_neg c, if_pos c2])) (fun c2 => key _ _ (by unfold nrl; rw [if_neg c, if_neg c2]))
theorem sy_renew17_77 {post : MM → Int64 → Prop} {M0 : MM} (hp : ∀ (M1 : MM) (t1 : Int64), Inv M1 → Fr [78] [] M0 M1 → (∀ i, i < 40 → M1 78 i = 0) → post M1 t1) : ∀ v3 : Int32, 0 ≤ v3 → v3 ≤ 40 → ∃ n, ∀ (M : MM) (tl : Int64), Inv M → Fr [78] [] M0 M → (∀ x : Int32, 0 ≤ x → x < v3 → M 78 x.toNatClampNeg = 0) → wX8_renew_17 post n M tl 77 v3 := by
  refine up_ex (P := fun d v3 => ∀ (M : MM) (tl : Int64), Inv M → Fr [78] [] M0 M → (∀ x : Int32, 0 ≤ x → x < v3 → M 78 x.toNatClampNeg = 0) → wX8_renew_17 post d M tl 77 v3) 0 40 ?_
  intro d v3 hlo hhi rc M tl hI hF hz
  unfold wX8_renew_17
  refine ifs (fun c => hp _ _ hI hF (fun i hi => ?_)) (fun c => ?_)
  · have e : (nI i).toNatClampNeg = i := tn_of (nI_sm (by omega))
    have q := hz (nI i) (nJ_ge0 (by omega)) (Int32.lt_iff_toInt_lt.mpr (by have := i_ge_to (k := 40) (by decide) c; rw [nI_sm (by omega)]; omega))
    rw [e] at q
    exact q
  · refine And.intro (by decide) (And.intro (by decide) (And.intro (vpI (c := 40) (by decide) (by lia) (by lia)) ?_))
    intro W e
    refine rc (by lia) _ _ (by rw [e]; exact inv_set hI (i_any _)) (by rw [e]; exact fr_arr hF (by decide)) ?_
    intro x x0 x1
    rw [e, mset_if]
    by_cases q : x = v3
    · rw [q, if_pos ⟨rfl, rfl⟩]
    · rw [if_neg (fun z => tn_ne x0 hlo q z.2)]
      exact hz x x0 (by lia)
theorem sy_renew_77 {post : MM → Int64 → Prop} {M : MM} {tl : Int64} {v1 v2 : Int32} (hI : Inv M) (h2 : 0 ≤ v2 ∧ v2 ≤ 40) (hp : ∀ (M1 : MM) (t1 : Int64), Inv M1 → Fr [78] [(77, 0), (77, 1)] M M1 → M1 77 0 = v2 → M1 77 1 = v1 → (∀ i, i < 40 → M1 78 i = 0) → post M1 t1) : wpX8_renew post M tl 77 v1 v2 := by
  unfold wpX8_renew
  refine And.intro (by decide) ?_
  intro W e
  refine And.intro (by decide) ?_
  intro W2 e2
  rw [if_neg (by lia)] at e2
  have i2 : Inv W2 := by rw [e2, e]; exact inv_set (inv_set hI (i_any _)) (show -1 ≤ v2 ∧ v2 ≤ 40 from ⟨by lia, h2.2⟩)
  have f2 : Fr [78] [(77, 0), (77, 1)] M W2 := by rw [e2, e]; exact fr_fld (fr_fld fr_rfl (by decide)) (by decide)
  have z0 : W2 77 0 = v2 := by rw [e2]; exact mset_at _ _ _ _
  have z1 : W2 77 1 = v1 := by rw [e2, mset_nk (by decide), e]; exact mset_at _ _ _ _
  obtain ⟨n, hn⟩ := sy_renew17_77 (post := post) (M0 := W2) (fun M1 t1 i1 f1 q1 => hp M1 t1 i1 (fr_call f2 f1 (by decide) (by decide)) (by rw [f1 77 0 (by decide) (by decide)]; exact z0) (by rw [f1 77 1 (by decide) (by decide)]; exact z1) q1) 0 (by decide) (by decide)
  exact ⟨n, hn _ _ i2 fr_rfl (fun x x0 x1 => absurd x1 (by lia))⟩
theorem sy_fault_77 {post : Int32 → MM → Int64 → Prop} {M : MM} {tl : Int64} {v1 : Int32} (hp : ∀ r : Int32, ((M 77 0 < 0 ∧ r = 1) ∨ (0 ≤ M 77 0 ∧ ¬ (0 ≤ v1 ∧ v1 < M 77 0) ∧ r = 2) ∨ (0 ≤ v1 ∧ v1 < M 77 0 ∧ r = 0)) → post r M tl) : wpX8_faultAt post M tl 77 v1 := by
  unfold wpX8_faultAt
  refine And.intro (by decide) ?_
  refine ifs (fun c => ifs (fun c2 => hp _ (by lia)) (fun c2 => And.intro (by decide) (ifs (fun c3 => hp _ (by lia)) (fun c3 => hp _ (by lia))))) (fun c => hp _ (by lia))
theorem sy_setCell_77 {post : MM → Int64 → Prop} {M : MM} {tl : Int64} {v1 v2 : Int32} (hI : Inv M) (h0 : 0 ≤ v1 ∧ v1 < M 77 0) (hp : ∀ (M1 : MM) (t1 : Int64), M1 = mset M 78 v1.toNatClampNeg (nrl (M 77 1) v2) → post M1 t1) : wpX8_setCell post M tl 77 v1 v2 := by
  unfold wpX8_setCell
  have hs := iv_77_0 hI
  have key : ∀ t s, s = nrl (M 77 1) v2 → wX8_setCell_39 post M t (77 + 1) v1 s := by
    intro t s es
    unfold wX8_setCell_39
    refine And.intro (by decide) (And.intro (vpI (c := 40) (by decide) (by lia) (by lia)) ?_)
    intro W e
    rw [es] at e
    exact hp _ _ e
  refine And.intro (by decide) ?_
  refine sy_fault_77 (fun r hr => ?_)
  refine ifp (by lia) ?_
  refine And.intro (by decide) (And.intro (by decide) ?_)
  refine ifs (fun c => key _ _ (by unfold nrl; rw [if_pos c])) (fun c => And.intro (by decide) ?_)
  exact ifs (fun c2 => key _ _ (by unfold nrl; rw [if_neg c, if_pos c2])) (fun c2 => key _ _ (by unfold nrl; rw [if_neg c, if_neg c2]))
theorem sy_renew17_79 {post : MM → Int64 → Prop} {M0 : MM} (hp : ∀ (M1 : MM) (t1 : Int64), Inv M1 → Fr [80] [] M0 M1 → (∀ i, i < 40 → M1 80 i = 0) → post M1 t1) : ∀ v3 : Int32, 0 ≤ v3 → v3 ≤ 40 → ∃ n, ∀ (M : MM) (tl : Int64), Inv M → Fr [80] [] M0 M → (∀ x : Int32, 0 ≤ x → x < v3 → M 80 x.toNatClampNeg = 0) → wX8_renew_17 post n M tl 79 v3 := by
  refine up_ex (P := fun d v3 => ∀ (M : MM) (tl : Int64), Inv M → Fr [80] [] M0 M → (∀ x : Int32, 0 ≤ x → x < v3 → M 80 x.toNatClampNeg = 0) → wX8_renew_17 post d M tl 79 v3) 0 40 ?_
  intro d v3 hlo hhi rc M tl hI hF hz
  unfold wX8_renew_17
  refine ifs (fun c => hp _ _ hI hF (fun i hi => ?_)) (fun c => ?_)
  · have e : (nI i).toNatClampNeg = i := tn_of (nI_sm (by omega))
    have q := hz (nI i) (nJ_ge0 (by omega)) (Int32.lt_iff_toInt_lt.mpr (by have := i_ge_to (k := 40) (by decide) c; rw [nI_sm (by omega)]; omega))
    rw [e] at q
    exact q
  · refine And.intro (by decide) (And.intro (by decide) (And.intro (vpI (c := 40) (by decide) (by lia) (by lia)) ?_))
    intro W e
    refine rc (by lia) _ _ (by rw [e]; exact inv_set hI (i_any _)) (by rw [e]; exact fr_arr hF (by decide)) ?_
    intro x x0 x1
    rw [e, mset_if]
    by_cases q : x = v3
    · rw [q, if_pos ⟨rfl, rfl⟩]
    · rw [if_neg (fun z => tn_ne x0 hlo q z.2)]
      exact hz x x0 (by lia)
theorem sy_renew_79 {post : MM → Int64 → Prop} {M : MM} {tl : Int64} {v1 v2 : Int32} (hI : Inv M) (h2 : 0 ≤ v2 ∧ v2 ≤ 40) (hp : ∀ (M1 : MM) (t1 : Int64), Inv M1 → Fr [80] [(79, 0), (79, 1)] M M1 → M1 79 0 = v2 → M1 79 1 = v1 → (∀ i, i < 40 → M1 80 i = 0) → post M1 t1) : wpX8_renew post M tl 79 v1 v2 := by
  unfold wpX8_renew
  refine And.intro (by decide) ?_
  intro W e
  refine And.intro (by decide) ?_
  intro W2 e2
  rw [if_neg (by lia)] at e2
  have i2 : Inv W2 := by rw [e2, e]; exact inv_set (inv_set hI (i_any _)) (show -1 ≤ v2 ∧ v2 ≤ 40 from ⟨by lia, h2.2⟩)
  have f2 : Fr [80] [(79, 0), (79, 1)] M W2 := by rw [e2, e]; exact fr_fld (fr_fld fr_rfl (by decide)) (by decide)
  have z0 : W2 79 0 = v2 := by rw [e2]; exact mset_at _ _ _ _
  have z1 : W2 79 1 = v1 := by rw [e2, mset_nk (by decide), e]; exact mset_at _ _ _ _
  obtain ⟨n, hn⟩ := sy_renew17_79 (post := post) (M0 := W2) (fun M1 t1 i1 f1 q1 => hp M1 t1 i1 (fr_call f2 f1 (by decide) (by decide)) (by rw [f1 79 0 (by decide) (by decide)]; exact z0) (by rw [f1 79 1 (by decide) (by decide)]; exact z1) q1) 0 (by decide) (by decide)
  exact ⟨n, hn _ _ i2 fr_rfl (fun x x0 x1 => absurd x1 (by lia))⟩
theorem sy_fault_79 {post : Int32 → MM → Int64 → Prop} {M : MM} {tl : Int64} {v1 : Int32} (hp : ∀ r : Int32, ((M 79 0 < 0 ∧ r = 1) ∨ (0 ≤ M 79 0 ∧ ¬ (0 ≤ v1 ∧ v1 < M 79 0) ∧ r = 2) ∨ (0 ≤ v1 ∧ v1 < M 79 0 ∧ r = 0)) → post r M tl) : wpX8_faultAt post M tl 79 v1 := by
  unfold wpX8_faultAt
  refine And.intro (by decide) ?_
  refine ifs (fun c => ifs (fun c2 => hp _ (by lia)) (fun c2 => And.intro (by decide) (ifs (fun c3 => hp _ (by lia)) (fun c3 => hp _ (by lia))))) (fun c => hp _ (by lia))
theorem sy_setCell_79 {post : MM → Int64 → Prop} {M : MM} {tl : Int64} {v1 v2 : Int32} (hI : Inv M) (h0 : 0 ≤ v1 ∧ v1 < M 79 0) (hp : ∀ (M1 : MM) (t1 : Int64), M1 = mset M 80 v1.toNatClampNeg (nrl (M 79 1) v2) → post M1 t1) : wpX8_setCell post M tl 79 v1 v2 := by
  unfold wpX8_setCell
  have hs := iv_79_0 hI
  have key : ∀ t s, s = nrl (M 79 1) v2 → wX8_setCell_39 post M t (79 + 1) v1 s := by
    intro t s es
    unfold wX8_setCell_39
    refine And.intro (by decide) (And.intro (vpI (c := 40) (by decide) (by lia) (by lia)) ?_)
    intro W e
    rw [es] at e
    exact hp _ _ e
  refine And.intro (by decide) ?_
  refine sy_fault_79 (fun r hr => ?_)
  refine ifp (by lia) ?_
  refine And.intro (by decide) (And.intro (by decide) ?_)
  refine ifs (fun c => key _ _ (by unfold nrl; rw [if_pos c])) (fun c => And.intro (by decide) ?_)
  exact ifs (fun c2 => key _ _ (by unfold nrl; rw [if_neg c, if_pos c2])) (fun c2 => key _ _ (by unfold nrl; rw [if_neg c, if_neg c2]))
/-- what sheet leaves -/
def ShQ (M M1 : MM) (r v1 v2 v3 : Int32) : Prop := (r ≠ 1 ∧ M1 = M) ∨ (r = 1 ∧ ∃ k, k < 4 ∧ v1 = nI k ∧ M1 (73 + 2 * k) 0 = v3 ∧ M1 (73 + 2 * k) 1 = v2 ∧ (∀ i, i < 40 → M1 (74 + 2 * k) i = 0) ∧ Fr [74 + 2 * k] [(73 + 2 * k, 0), (73 + 2 * k, 1)] M M1)
theorem cs4k {v : Int32} (h : 0 ≤ v ∧ v < 4) : v = nI 0 ∨ v = nI 1 ∨ v = nI 2 ∨ v = nI 3 := cs4 h.1 h.2
theorem sy_X10_sheet {post : Int32 → MM → Int64 → Prop} {M : MM} {tl : Int64} {v1 v2 v3 : Int32} (hI : Inv M) (hp : ∀ (r : Int32) (M1 : MM) (t1 : Int64), Inv M1 → SH r v1 v2 v3 → ShQ M M1 r v1 v2 v3 → post r M1 t1) : wpX10_sheet post M tl v1 v2 v3 := by
  unfold wpX10_sheet
  refine sf_X10_isSheet hI (fun r hr => ?_)
  refine ifs (fun c => hp _ _ _ hI (Or.inl ⟨rfl, by lia⟩) (Or.inl ⟨by decide, rfl⟩)) (fun c => ?_)
  refine sf_X10_isLane hI (fun r2 hr2 => ?_)
  refine ifs (fun c2 => hp _ _ _ hI (Or.inl ⟨rfl, by lia⟩) (Or.inl ⟨by decide, rfl⟩)) (fun c2 => ?_)
  have k : 0 ≤ v1 ∧ v1 < 4 ∧ 0 ≤ v2 ∧ v2 < 3 := by lia
  refine ifs (fun c3 => ?_) (fun c3 => hp _ _ _ hI (Or.inl ⟨rfl, by lia⟩) (Or.inl ⟨by decide, rfl⟩))
  refine ifs (fun c4 => ?_) (fun c4 => hp _ _ _ hI (Or.inr (Or.inl ⟨rfl, k, by lia⟩)) (Or.inl ⟨by decide, rfl⟩))
  have sh : SH 1 v1 v2 v3 := Or.inr (Or.inr ⟨rfl, k, c4, c3⟩)
  refine And.intro (vpI (c := 4) (by decide) k.1 k.2.1) ?_
  rcases cs4k ⟨k.1, k.2.1⟩ with e | e | e | e
  · have e2 : v1.toNatClampNeg = 0 := by rw [e]; rfl
    rw [e2]
    exact And.intro (by decide) (sy_renew_73 hI ⟨c4, c3⟩ (fun M1 t1 i1 f1 q0 q1 q2 => hp _ _ _ i1 sh (Or.inr ⟨rfl, 0, by decide, e, q0, q1, q2, f1⟩)))
  · have e2 : v1.toNatClampNeg = 1 := by rw [e]; rfl
    rw [e2]
    exact And.intro (by decide) (sy_renew_75 hI ⟨c4, c3⟩ (fun M1 t1 i1 f1 q0 q1 q2 => hp _ _ _ i1 sh (Or.inr ⟨rfl, 1, by decide, e, q0, q1, q2, f1⟩)))
  · have e2 : v1.toNatClampNeg = 2 := by rw [e]; rfl
    rw [e2]
    exact And.intro (by decide) (sy_renew_77 hI ⟨c4, c3⟩ (fun M1 t1 i1 f1 q0 q1 q2 => hp _ _ _ i1 sh (Or.inr ⟨rfl, 2, by decide, e, q0, q1, q2, f1⟩)))
  · have e2 : v1.toNatClampNeg = 3 := by rw [e]; rfl
    rw [e2]
    exact And.intro (by decide) (sy_renew_79 hI ⟨c4, c3⟩ (fun M1 t1 i1 f1 q0 q1 q2 => hp _ _ _ i1 sh (Or.inr ⟨rfl, 3, by decide, e, q0, q1, q2, f1⟩)))

/-- what lay leaves -/
def LyQ (M M1 : MM) (r v1 v2 v3 : Int32) : Prop := (¬ (0 ≤ v1 ∧ v1 < 4) ∧ r = -1 ∧ M1 = M) ∨ ∃ k, k < 4 ∧ v1 = nI k ∧ LY r v1 (M (73 + 2 * k) 0) v2 ∧ ((r ≠ 1 ∧ M1 = M) ∨ (r = 1 ∧ M1 = mset M (74 + 2 * k) v2.toNatClampNeg (nrl (M (73 + 2 * k) 1) v3)))
theorem sy_X10_lay {post : Int32 → MM → Int64 → Prop} {M : MM} {tl : Int64} {v1 v2 v3 : Int32} (hI : Inv M) (hp : ∀ (r : Int32) (M1 : MM) (t1 : Int64), Inv M1 → LyQ M M1 r v1 v2 v3 → post r M1 t1) : wpX10_lay post M tl v1 v2 v3 := by
  unfold wpX10_lay
  refine sf_X10_isSheet hI (fun r hr => ?_)
  refine ifs (fun c => hp _ _ _ hI (Or.inl ⟨by lia, rfl, rfl⟩)) (fun c => ?_)
  have k : 0 ≤ v1 ∧ v1 < 4 := by lia
  refine And.intro (vpI (c := 4) (by decide) k.1 k.2) ?_
  rcases cs4k k with e | e | e | e
  · have e2 : v1.toNatClampNeg = 0 := by rw [e]; rfl
    rw [e2]
    refine And.intro (by decide) (sy_fault_73 (fun r8 h8 => ?_))
    refine ifs (fun c8 => ?_) (fun c8 => ?_)
    · refine And.intro (vpI (c := 4) (by decide) k.1 k.2) (And.intro (by decide) ?_)
      have h9 : 0 ≤ v2 ∧ v2 < M 73 0 := by lia
      refine sy_setCell_73 hI h9 (fun M1 t1 e1 => ?_)
      exact hp _ _ _ (by rw [e1]; exact inv_set hI (i_any _)) (Or.inr ⟨0, by decide, e, Or.inr (Or.inr ⟨h9.1, h9.2, rfl⟩), Or.inr ⟨rfl, e1⟩⟩)
    · refine hp _ _ _ hI (Or.inr ⟨0, by decide, e, ?_, Or.inl ⟨by lia, rfl⟩⟩)
      show LY (-10 - r8) v1 (M 73 0) v2
      unfold LY
      lia
  · have e2 : v1.toNatClampNeg = 1 := by rw [e]; rfl
    rw [e2]
    refine And.intro (by decide) (sy_fault_75 (fun r8 h8 => ?_))
    refine ifs (fun c8 => ?_) (fun c8 => ?_)
    · refine And.intro (vpI (c := 4) (by decide) k.1 k.2) (And.intro (by decide) ?_)
      have h9 : 0 ≤ v2 ∧ v2 < M 75 0 := by lia
      refine sy_setCell_75 hI h9 (fun M1 t1 e1 => ?_)
      exact hp _ _ _ (by rw [e1]; exact inv_set hI (i_any _)) (Or.inr ⟨1, by decide, e, Or.inr (Or.inr ⟨h9.1, h9.2, rfl⟩), Or.inr ⟨rfl, e1⟩⟩)
    · refine hp _ _ _ hI (Or.inr ⟨1, by decide, e, ?_, Or.inl ⟨by lia, rfl⟩⟩)
      show LY (-10 - r8) v1 (M 75 0) v2
      unfold LY
      lia
  · have e2 : v1.toNatClampNeg = 2 := by rw [e]; rfl
    rw [e2]
    refine And.intro (by decide) (sy_fault_77 (fun r8 h8 => ?_))
    refine ifs (fun c8 => ?_) (fun c8 => ?_)
    · refine And.intro (vpI (c := 4) (by decide) k.1 k.2) (And.intro (by decide) ?_)
      have h9 : 0 ≤ v2 ∧ v2 < M 77 0 := by lia
      refine sy_setCell_77 hI h9 (fun M1 t1 e1 => ?_)
      exact hp _ _ _ (by rw [e1]; exact inv_set hI (i_any _)) (Or.inr ⟨2, by decide, e, Or.inr (Or.inr ⟨h9.1, h9.2, rfl⟩), Or.inr ⟨rfl, e1⟩⟩)
    · refine hp _ _ _ hI (Or.inr ⟨2, by decide, e, ?_, Or.inl ⟨by lia, rfl⟩⟩)
      show LY (-10 - r8) v1 (M 77 0) v2
      unfold LY
      lia
  · have e2 : v1.toNatClampNeg = 3 := by rw [e]; rfl
    rw [e2]
    refine And.intro (by decide) (sy_fault_79 (fun r8 h8 => ?_))
    refine ifs (fun c8 => ?_) (fun c8 => ?_)
    · refine And.intro (vpI (c := 4) (by decide) k.1 k.2) (And.intro (by decide) ?_)
      have h9 : 0 ≤ v2 ∧ v2 < M 79 0 := by lia
      refine sy_setCell_79 hI h9 (fun M1 t1 e1 => ?_)
      exact hp _ _ _ (by rw [e1]; exact inv_set hI (i_any _)) (Or.inr ⟨3, by decide, e, Or.inr (Or.inr ⟨h9.1, h9.2, rfl⟩), Or.inr ⟨rfl, e1⟩⟩)
    · refine hp _ _ _ hI (Or.inr ⟨3, by decide, e, ?_, Or.inl ⟨by lia, rfl⟩⟩)
      show LY (-10 - r8) v1 (M 79 0) v2
      unfold LY
      lia

/-- the reference's -/
def ShR (M M1 : MM) (r v1 v2 v3 : Int32) : Prop := (r ≠ 1 ∧ M1 = M) ∨ (r = 1 ∧ ∃ k, k < 4 ∧ v1 = nI k ∧ M1 106 k = v3 ∧ M1 105 k = v2 ∧ (∀ i, i < 40 → M1 107 (40 * k + i) = 0) ∧ (∀ j, j ≠ k → M1 105 j = M 105 j ∧ M1 106 j = M 106 j) ∧ (∀ j, (j < 40 * k ∨ 40 * k + 40 ≤ j) → M1 107 j = M 107 j) ∧ Fr [105, 106, 107] [] M M1)
theorem c40 {k : Nat} (hk : k < 4) {v : Int32} (h0 : 0 ≤ v) (h1 : v < 40) : (((40 : Int32) * nI k) + v).toNatClampNeg = 40 * k + v.toInt.toNat := by
  have a0 := i_ge_to (k := 0) (by decide) h0
  have a1 := i_lt_to (k := 40) (by decide) h1
  apply tn_of
  rw [Int32.toInt_add, Int32.toInt_mul, nI_sm (by omega), show (40 : Int32).toInt = 40 from rfl]
  simp only [Int.bmod_def]
  repeat' split
  all_goals omega
theorem sy_sheet40 {post : Int32 → MM → Int64 → Prop} {M0 : MM} {k : Nat} (hk : k < 4) (hp : ∀ (M1 : MM) (t1 : Int64), Inv M1 → Fr [107] [] M0 M1 → (∀ i, i < 40 → M1 107 (40 * k + i) = 0) → (∀ j, (j < 40 * k ∨ 40 * k + 40 ≤ j) → M1 107 j = M0 107 j) → post 1 M1 t1) : ∀ v4 : Int32, 0 ≤ v4 → v4 ≤ 40 → ∃ n, ∀ (M : MM) (tl : Int64), Inv M → Fr [107] [] M0 M → (∀ i : Nat, (i : Int) < v4.toInt → M 107 (40 * k + i) = 0) → (∀ j, (j < 40 * k ∨ 40 * k + 40 ≤ j) → M 107 j = M0 107 j) → wX11_sheet_40 post n M tl (nI k) v4 := by
  refine up_ex (P := fun d v4 => ∀ (M : MM) (tl : Int64), Inv M → Fr [107] [] M0 M → (∀ i : Nat, (i : Int) < v4.toInt → M 107 (40 * k + i) = 0) → (∀ j, (j < 40 * k ∨ 40 * k + 40 ≤ j) → M 107 j = M0 107 j) → wX11_sheet_40 post d M tl (nI k) v4) 0 40 ?_
  intro d v4 hlo hhi rc M tl hI hF hz ho
  unfold wX11_sheet_40
  refine ifs (fun c => hp _ _ hI hF (fun i hi => hz i (by have := i_ge_to (k := 40) (by decide) c; omega)) ho) (fun c => ?_)
  have c40' : v4 < 40 := by lia
  have e0 := c40 hk hlo c40'
  have a0 := i_ge_to (k := 0) (by decide) hlo
  have a1 := i_lt_to (k := 40) (by decide) c40'
  have this : ((40 : Int32) * nI k + v4).toInt = 40 * k + v4.toInt := by
    rw [Int32.toInt_add, Int32.toInt_mul, nI_sm (by omega), show (40 : Int32).toInt = 40 from rfl]
    simp only [Int.bmod_def]
    repeat' split
    all_goals omega
  refine And.intro (vp_of (v := ((40 : Int32) * nI k) + v4) (by rw [this]; omega) (by rw [this]; show 40 * (k : Int) + v4.toInt < (160 : Nat); omega)) ?_
  intro W e
  rw [e0] at e
  refine rc c40' _ _ (by rw [e]; exact inv_set hI (i_any _)) (by rw [e]; exact fr_arr hF (by decide)) ?_ ?_
  · intro i hi
    rw [ad1 c40'] at hi
    rw [e, mset_if]
    by_cases q : 40 * k + i = 40 * k + v4.toInt.toNat
    · rw [if_pos ⟨rfl, q⟩]
    · rw [if_neg (fun z => q z.2)]
      exact hz i (by omega)
  · intro j hj
    rw [e, mset_nk (by omega)]
    exact ho j hj
theorem sy_X11_sheet {post : Int32 → MM → Int64 → Prop} {M : MM} {tl : Int64} {v1 v2 v3 : Int32} (hI : Inv M) (hp : ∀ (r : Int32) (M1 : MM) (t1 : Int64), Inv M1 → SH r v1 v2 v3 → ShR M M1 r v1 v2 v3 → post r M1 t1) : wpX11_sheet post M tl v1 v2 v3 := by
  unfold wpX11_sheet
  refine sf_X11_isSheet hI (fun r hr => ?_)
  refine ifs (fun c => hp _ _ _ hI (Or.inl ⟨rfl, by lia⟩) (Or.inl ⟨by decide, rfl⟩)) (fun c => ?_)
  have k : 0 ≤ v1 ∧ v1 < 4 ∧ 0 ≤ v2 ∧ v2 < 3 := by lia
  refine ifs (fun c2 => ?_) (fun c2 => hp _ _ _ hI (Or.inl ⟨rfl, by lia⟩) (Or.inl ⟨by decide, rfl⟩))
  refine ifs (fun c3 => ?_) (fun c3 => hp _ _ _ hI (Or.inr (Or.inl ⟨rfl, k, by lia⟩)) (Or.inl ⟨by decide, rfl⟩))
  obtain ⟨n, en, hn⟩ := code_of (hi := 3) (v := v1) ⟨i_ge_to (k := 0) (by decide) k.1, i_le_to (c := 3) (k := 3) (by decide) (by lia)⟩ (by decide)
  have tn : v1.toNatClampNeg = n := by rw [en]; exact tn_of (nI_sm (by omega))
  refine And.intro (vpI (c := 4) (by decide) (by lia) (by lia)) ?_
  intro W e
  refine And.intro (vpI (c := 4) (by decide) (by lia) (by lia)) ?_
  intro W2 e2
  rw [tn] at e e2
  subst e
  have i2 : Inv W2 := by rw [e2]; exact inv_set (inv_set hI (i_any _)) (show 0 ≤ v3 ∧ v3 ≤ 40 from ⟨c3, c2⟩)
  have f2 : Fr [105, 106, 107] [] M W2 := by rw [e2]; exact fr_arr (fr_arr fr_rfl (by decide)) (by decide)
  have z1 : W2 106 n = v3 := by rw [e2]; exact mset_at _ _ _ _
  have z2 : W2 105 n = v2 := by rw [e2, mset_ne (by decide)]; exact mset_at _ _ _ _
  have z3 : ∀ j, j ≠ n → W2 105 j = M 105 j ∧ W2 106 j = M 106 j := fun j hj => ⟨by rw [e2, mset_ne (by decide), mset_nk hj], by rw [e2, mset_nk hj, mset_ne (by decide)]⟩
  have z4 : W2 107 = M 107 := by rw [e2, mset_ne (by decide), mset_ne (by decide)]
  obtain ⟨d, hd⟩ := sy_sheet40 (post := post) (M0 := W2) (k := n) hn (fun M1 t1 i1 f1 q1 q2 => hp _ _ _ i1 (Or.inr (Or.inr ⟨rfl, k, c3, c2⟩)) (Or.inr ⟨rfl, n, hn, en, by rw [f1 106 n (by decide) (by simp)]; exact z1, by rw [f1 105 n (by decide) (by simp)]; exact z2, q1, fun j hj => ⟨by rw [f1 105 j (by decide) (by simp)]; exact (z3 j hj).1, by rw [f1 106 j (by decide) (by simp)]; exact (z3 j hj).2⟩, fun j hj => by rw [q2 j hj, z4], fr_call f2 f1 (by decide) (by decide)⟩)) 0 (by decide) (by decide)
  refine ⟨d, ?_⟩
  rw [en]
  exact hd _ _ i2 fr_rfl (fun i hi => absurd hi (by have : (0 : Int32).toInt = 0 := rfl; omega)) (fun j _ => rfl)
def LyR (M M1 : MM) (r v1 v2 v3 : Int32) : Prop := (¬ (0 ≤ v1 ∧ v1 < 4) ∧ r = -1 ∧ M1 = M) ∨ ∃ k, k < 4 ∧ v1 = nI k ∧ ((M 105 k = -4 ∧ r = -11 ∧ M1 = M) ∨ (M 105 k ≠ -4 ∧ ¬ (0 ≤ v2 ∧ v2 < M 106 k) ∧ r = -12 ∧ M1 = M) ∨ (M 105 k ≠ -4 ∧ 0 ≤ v2 ∧ v2 < M 106 k ∧ r = 1 ∧ M1 = mset M 107 (40 * k + v2.toInt.toNat) (nrl (M 105 k) v3)))
theorem sy_X11_lay {post : Int32 → MM → Int64 → Prop} {M : MM} {tl : Int64} {v1 v2 v3 : Int32} (hI : Inv M) (hp : ∀ (r : Int32) (M1 : MM) (t1 : Int64), Inv M1 → LyR M M1 r v1 v2 v3 → post r M1 t1) : wpX11_lay post M tl v1 v2 v3 := by
  unfold wpX11_lay
  refine sf_X11_isSheet hI (fun r hr => ?_)
  refine ifs (fun c => hp _ _ _ hI (Or.inl ⟨by lia, rfl, rfl⟩)) (fun c => ?_)
  have k : 0 ≤ v1 ∧ v1 < 4 := by lia
  obtain ⟨n, en, hn⟩ := code_of (hi := 3) (v := v1) ⟨i_ge_to (k := 0) (by decide) k.1, i_le_to (c := 3) (k := 3) (by decide) (by lia)⟩ (by decide)
  have tn : v1.toNatClampNeg = n := by rw [en]; exact tn_of (nI_sm (by omega))
  have hs := iv_106 hI n
  refine And.intro (vpI (c := 4) (by decide) k.1 k.2) ?_
  rw [tn]
  refine ifs (fun c2 => hp _ _ _ hI (Or.inr ⟨n, hn, en, Or.inl ⟨c2, rfl, rfl⟩⟩)) (fun c2 => ?_)
  refine And.intro (vpI (c := 4) (by decide) k.1 k.2) ?_
  refine m_in (v := v2) (lo := 0) (hi := M 106 n - 1) rfl rfl rfl (fun a b => ?_) (fun a => ?_)
  · refine ifn (by decide) ?_
    have h2 : 0 ≤ v2 ∧ v2 < M 106 n := ⟨a, by lia⟩
    have h40 : v2 < 40 := by lia
    have key : ∀ t s, s = nrl (M 105 n) v3 → wX11_lay_85 post M t (((40 : Int32) * v1) + v2) s := by
      intro t s es
      unfold wX11_lay_85
      refine And.intro (vpI (c := 160) (by decide) (by lia) (by lia)) ?_
      intro W e
      have e0 := c40 hn a h40
      rw [← en] at e0
      rw [e0, es] at e
      exact hp _ _ _ (by rw [e]; exact inv_set hI (i_any _)) (Or.inr ⟨n, hn, en, Or.inr (Or.inr ⟨c2, h2.1, h2.2, rfl, e⟩)⟩)
    refine And.intro (vpI (c := 4) (by decide) k.1 k.2) ?_
    refine ifs (fun c3 => key _ _ (by unfold nrl; rw [if_pos c3])) (fun c3 => And.intro (vpI (c := 4) (by decide) k.1 k.2) ?_)
    exact ifs (fun c4 => key _ _ (by unfold nrl; rw [if_neg c3, if_pos c4])) (fun c4 => key _ _ (by unfold nrl; rw [if_neg c3, if_neg c4]))
  · refine ifp rfl (hp _ _ _ hI (Or.inr ⟨n, hn, en, Or.inr (Or.inl ⟨c2, by lia, rfl, rfl⟩)⟩))
