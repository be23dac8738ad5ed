/-! NAMES exactly (printed by wip/gen/names.py) -/
def Wd (T : Nat → Int32) (n s e : Int32) (w : List Nat) : Prop := e = s + nI w.length ∧ ∀ i, i < w.length → bya T n (s + nI i) = nI (w.getD i 0)
def IsW (M : MM) (w : List Nat) : Prop := M 22 8 = 1 ∧ Wd (M 2) (M 1 1) (M 22 7) (M 22 6) w
def PF (M : MM) (w : List Nat) (k : Nat) : Prop := M 22 8 = 1 ∧ ∀ i, i < k → M 22 7 + nI i < M 22 6 ∧ bya (M 2) (M 1 1) (M 22 7 + nI i) = nI (w.getD i 0)
theorem pf_succ {M : MM} {w : List Nat} {k : Nat} : PF M w (k + 1) ↔ PF M w k ∧ M 22 7 + nI k < M 22 6 ∧ bya (M 2) (M 1 1) (M 22 7 + nI k) = nI (w.getD k 0) := by
  constructor
  · intro h
    exact ⟨⟨h.1, fun i hi => h.2 i (by omega)⟩, h.2 k (by omega)⟩
  · intro h
    refine ⟨h.1.1, fun i hi => ?_⟩
    by_cases e : i = k
    · subst e; exact h.2
    · exact h.1.2 i (by omega)
theorem pf_zero {M : MM} {w : List Nat} (h : M 22 8 = 1) : PF M w 0 := ⟨h, fun i hi => absurd hi (by omega)⟩
theorem nI_lt8 {i : Nat} (h : i < 100) : 0 ≤ nI i ∧ nI i < 100 := ⟨nJ_ge0 (by omega), Int32.lt_iff_toInt_lt.mpr (by rw [nI_sm (by omega)]; show (i : Int) < 100; omega)⟩
theorem nI_ltl {i k : Nat} (h : i < k) (hk : k < 100) : nI i < nI k := Int32.lt_iff_toInt_lt.mpr (by rw [nI_sm (by omega), nI_sm (by omega)]; omega)
theorem isw_of {M : MM} {w : List Nat} (h : PF M w w.length) (e : M 22 7 + nI w.length = M 22 6) : IsW M w := ⟨h.1, e.symm, fun i hi => (h.2 i hi).2⟩
theorem pf_of {M : MM} {w : List Nat} (hs : 0 ≤ M 22 7 ∧ M 22 7 ≤ 400) (hl : w.length < 100) (h : IsW M w) : PF M w w.length ∧ M 22 7 + nI w.length = M 22 6 := by
  refine ⟨⟨h.1, fun i hi => ⟨?_, h.2.2 i hi⟩⟩, h.2.1.symm⟩
  rw [h.2.1]
  have a := nI_lt8 (i := i) (by omega)
  have b := nI_lt8 (i := w.length) hl
  have c := nI_ltl hi hl
  clear h
  generalize nI i = x at a c ⊢
  generalize nI w.length = y at b c ⊢
  lia
def NQ (M : MM) (ws : List (List Nat)) (r : Int32) : Prop := (r = -1 ∧ ∀ j, j < ws.length → ¬ IsW M (ws.getD j [])) ∨ ∃ j, j < ws.length ∧ r = nI j ∧ IsW M (ws.getD j [])
theorem nx1 (k : Nat) (v : Int32) : v + nI k + 1 = v + nI (k + 1) := by rw [← nI_s1]; grind
theorem nx0 (v : Int32) : v = v + nI 0 := by show v = v + 0; grind
def ws0 : List (List Nat) := [[108, 111, 116, 115], [98, 101, 110, 100], [112, 117, 108, 108], [112, 114, 105, 99, 101], [99, 111, 115, 116], [116, 97, 115, 116, 101], [108, 97, 99, 107], [116, 119, 105, 110], [112, 97, 105, 110, 116], [114, 105, 103, 104, 116], [116, 104, 105, 110, 103], [119, 111, 114, 107]]
def ws1 : List (List Nat) := [[104, 111, 117, 115, 101], [103, 97, 114, 100, 101, 110], [115, 104, 111, 112], [116, 111, 119, 101, 114], [115, 104, 114, 105, 110, 101]]
def ws2 : List (List Nat) := [[110, 111, 116, 104, 105, 110, 103], [104, 111, 117, 115, 101], [103, 97, 114, 100, 101, 110], [115, 104, 111, 112], [116, 111, 119, 101, 114], [115, 104, 114, 105, 110, 101]]
def ws3 : List (List Nat) := [[108, 101, 102, 116], [114, 105, 103, 104, 116]]
theorem ne_0_65 {post : Int32 → MM → Int64 → Prop} {M : MM} {tl : Int64} (hI : Inv M) (hs : 0 ≤ M 22 7 ∧ M 22 7 ≤ 400) (hp : ∀ (r : Int32), NQ M ws0 r → post r M tl) (v3 v4 : Int32) (hn : ∀ j, j < 12 → ¬ IsW M (ws0.getD j [])) : wX4_nameAmong_25 post (0 + 1) M tl 0 12 v3 v4 65 := by
  unfold wX4_nameAmong_25
  exact And.intro (by decide) (ifp (by decide) (hp _ (Or.inl ⟨rfl, hn⟩)))
theorem ne_0_64 {post : Int32 → MM → Int64 → Prop} {M : MM} {tl : Int64} (hI : Inv M) (hs : 0 ≤ M 22 7 ∧ M 22 7 ≤ 400) (hp : ∀ (r : Int32), NQ M ws0 r → post r M tl) (v3 v4 : Int32) (e3 : v3 = M 22 7 + nI 4) (h4 : (v4 = 1 ∧ PF M [119, 111, 114, 107] 4) ∨ (v4 = 0 ∧ ¬ PF M [119, 111, 114, 107] 4)) (hn : ∀ j, j < 11 → ¬ IsW M (ws0.getD j [])) : wX4_nameAmong_25 post (1 + 1) M tl 0 11 v3 v4 64 := by
  unfold wX4_nameAmong_25
  refine And.intro (by decide) (ifn (by decide) (And.intro (by decide) (ifp (by decide) ?_)))
  unfold wX4_nameAmong_54
  have q : ¬ IsW M [119, 111, 114, 107] → wX4_nameAmong_69 post (wX4_nameAmong_25 post 1) M tl 0 11 64 := by
    intro nz
    have hn2 : ∀ j, j < 12 → ¬ IsW M (ws0.getD j []) := fun j hj => by
      by_cases e : j = 11
      · subst e; exact nz
      · exact hn j (by omega)
    unfold wX4_nameAmong_69
    exact ifs (fun c => ne_0_65 hI hs hp (M 22 7) 1 hn2) (fun c => ne_0_65 hI hs hp (M 22 7) 0 hn2)
  refine ifs (fun c => q (fun z => ?_)) (fun c => ifs (fun c2 => hp _ (Or.inr ⟨11, (by decide), rfl, ?_⟩)) (fun c2 => q (fun z => ?_)))
  · rcases h4 with y | y
    · rw [y.1] at c; exact absurd c (by decide)
    · exact y.2 (pf_of hs (by decide) z).1
  · rcases h4 with y | y
    · exact isw_of y.2 (e3.symm.trans c2)
    · exact absurd y.1 c
  · exact c2 (e3.trans (pf_of hs (by decide) z).2)
theorem ne_0_63 {post : Int32 → MM → Int64 → Prop} {M : MM} {tl : Int64} (hI : Inv M) (hs : 0 ≤ M 22 7 ∧ M 22 7 ≤ 400) (hp : ∀ (r : Int32), NQ M ws0 r → post r M tl) (v3 v4 : Int32) (e3 : v3 = M 22 7 + nI 3) (h4 : (v4 = 1 ∧ PF M [119, 111, 114, 107] 3) ∨ (v4 = 0 ∧ ¬ PF M [119, 111, 114, 107] 3)) (hn : ∀ j, j < 11 → ¬ IsW M (ws0.getD j [])) : wX4_nameAmong_25 post (2 + 1) M tl 0 11 v3 v4 63 := by
  unfold wX4_nameAmong_25
  refine And.intro (by decide) (ifn (by decide) (And.intro (by decide) (ifn (by decide) (And.intro (by decide) (And.intro (by unfold vp_in; decide) (ifn (by decide) ?_))))))
  have q : ¬ PF M [119, 111, 114, 107] 4 → wX4_nameAmong_129 post (wX4_nameAmong_25 post 2) M tl 0 11 v3 63 := fun z => ne_0_64 hI hs hp (v3 + 1) 0 (by rw [e3]; exact nx1 3 _) (Or.inr ⟨rfl, z⟩) hn
  refine ifs (fun c => q (fun z => ?_)) (fun c => ifs (fun c2 => q (fun z => ?_)) (fun c2 => And.intro (by decide) (And.intro (by unfold vp_in; decide) ?_)))
  · rcases h4 with y | y
    · rw [y.1] at c; exact absurd c (by decide)
    · exact y.2 (pf_succ.mp z).1
  · have l := (pf_succ.mp z).2.1
    rw [← e3] at l
    exact absurd l (by clear z q hn h4; lia)
  · refine by_c hI (by rw [e3]; have := nI_lt8 (i := 3) (by decide); clear q hn h4 c2; lia) (ifs (fun c3 => ?_) (fun c3 => q (fun z => ?_)))
    · refine ne_0_64 hI hs hp (v3 + 1) 1 (by rw [e3]; exact nx1 3 _) (Or.inl ⟨rfl, pf_succ.mpr ⟨?_, ?_, ?_⟩⟩) hn
      · rcases h4 with y | y
        · exact y.2
        · exact absurd y.1 c
      · rw [← e3]; clear q hn h4; lia
      · rw [← e3]; exact c3.symm
    · have l := (pf_succ.mp z).2.2
      rw [← e3] at l
      exact c3 l.symm
theorem ne_0_62 {post : Int32 → MM → Int64 → Prop} {M : MM} {tl : Int64} (hI : Inv M) (hs : 0 ≤ M 22 7 ∧ M 22 7 ≤ 400) (hp : ∀ (r : Int32), NQ M ws0 r → post r M tl) (v3 v4 : Int32) (e3 : v3 = M 22 7 + nI 2) (h4 : (v4 = 1 ∧ PF M [119, 111, 114, 107] 2) ∨ (v4 = 0 ∧ ¬ PF M [119, 111, 114, 107] 2)) (hn : ∀ j, j < 11 → ¬ IsW M (ws0.getD j [])) : wX4_nameAmong_25 post (3 + 1) M tl 0 11 v3 v4 62 := by
  unfold wX4_nameAmong_25
  refine And.intro (by decide) (ifn (by decide) (And.intro (by decide) (ifn (by decide) (And.intro (by decide) (And.intro (by unfold vp_in; decide) (ifn (by decide) ?_))))))
  have q : ¬ PF M [119, 111, 114, 107] 3 → wX4_nameAmong_129 post (wX4_nameAmong_25 post 3) M tl 0 11 v3 62 := fun z => ne_0_63 hI hs hp (v3 + 1) 0 (by rw [e3]; exact nx1 2 _) (Or.inr ⟨rfl, z⟩) hn
  refine ifs (fun c => q (fun z => ?_)) (fun c => ifs (fun c2 => q (fun z => ?_)) (fun c2 => And.intro (by decide) (And.intro (by unfold vp_in; decide) ?_)))
  · rcases h4 with y | y
    · rw [y.1] at c; exact absurd c (by decide)
    · exact y.2 (pf_succ.mp z).1
  · have l := (pf_succ.mp z).2.1
    rw [← e3] at l
    exact absurd l (by clear z q hn h4; lia)
  · refine by_c hI (by rw [e3]; have := nI_lt8 (i := 2) (by decide); clear q hn h4 c2; lia) (ifs (fun c3 => ?_) (fun c3 => q (fun z => ?_)))
    · refine ne_0_63 hI hs hp (v3 + 1) 1 (by rw [e3]; exact nx1 2 _) (Or.inl ⟨rfl, pf_succ.mpr ⟨?_, ?_, ?_⟩⟩) hn
      · rcases h4 with y | y
        · exact y.2
        · exact absurd y.1 c
      · rw [← e3]; clear q hn h4; lia
      · rw [← e3]; exact c3.symm
    · have l := (pf_succ.mp z).2.2
      rw [← e3] at l
      exact c3 l.symm
theorem ne_0_61 {post : Int32 → MM → Int64 → Prop} {M : MM} {tl : Int64} (hI : Inv M) (hs : 0 ≤ M 22 7 ∧ M 22 7 ≤ 400) (hp : ∀ (r : Int32), NQ M ws0 r → post r M tl) (v3 v4 : Int32) (e3 : v3 = M 22 7 + nI 1) (h4 : (v4 = 1 ∧ PF M [119, 111, 114, 107] 1) ∨ (v4 = 0 ∧ ¬ PF M [119, 111, 114, 107] 1)) (hn : ∀ j, j < 11 → ¬ IsW M (ws0.getD j [])) : wX4_nameAmong_25 post (4 + 1) M tl 0 11 v3 v4 61 := by
  unfold wX4_nameAmong_25
  refine And.intro (by decide) (ifn (by decide) (And.intro (by decide) (ifn (by decide) (And.intro (by decide) (And.intro (by unfold vp_in; decide) (ifn (by decide) ?_))))))
  have q : ¬ PF M [119, 111, 114, 107] 2 → wX4_nameAmong_129 post (wX4_nameAmong_25 post 4) M tl 0 11 v3 61 := fun z => ne_0_62 hI hs hp (v3 + 1) 0 (by rw [e3]; exact nx1 1 _) (Or.inr ⟨rfl, z⟩) hn
  refine ifs (fun c => q (fun z => ?_)) (fun c => ifs (fun c2 => q (fun z => ?_)) (fun c2 => And.intro (by decide) (And.intro (by unfold vp_in; decide) ?_)))
  · rcases h4 with y | y
    · rw [y.1] at c; exact absurd c (by decide)
    · exact y.2 (pf_succ.mp z).1
  · have l := (pf_succ.mp z).2.1
    rw [← e3] at l
    exact absurd l (by clear z q hn h4; lia)
  · refine by_c hI (by rw [e3]; have := nI_lt8 (i := 1) (by decide); clear q hn h4 c2; lia) (ifs (fun c3 => ?_) (fun c3 => q (fun z => ?_)))
    · refine ne_0_62 hI hs hp (v3 + 1) 1 (by rw [e3]; exact nx1 1 _) (Or.inl ⟨rfl, pf_succ.mpr ⟨?_, ?_, ?_⟩⟩) hn
      · rcases h4 with y | y
        · exact y.2
        · exact absurd y.1 c
      · rw [← e3]; clear q hn h4; lia
      · rw [← e3]; exact c3.symm
    · have l := (pf_succ.mp z).2.2
      rw [← e3] at l
      exact c3 l.symm
theorem ne_0_60 {post : Int32 → MM → Int64 → Prop} {M : MM} {tl : Int64} (hI : Inv M) (hs : 0 ≤ M 22 7 ∧ M 22 7 ≤ 400) (hp : ∀ (r : Int32), NQ M ws0 r → post r M tl) (v3 v4 : Int32) (e3 : v3 = M 22 7 + nI 0) (h4 : (v4 = 1 ∧ PF M [119, 111, 114, 107] 0) ∨ (v4 = 0 ∧ ¬ PF M [119, 111, 114, 107] 0)) (hn : ∀ j, j < 11 → ¬ IsW M (ws0.getD j [])) : wX4_nameAmong_25 post (5 + 1) M tl 0 11 v3 v4 60 := by
  unfold wX4_nameAmong_25
  refine And.intro (by decide) (ifn (by decide) (And.intro (by decide) (ifn (by decide) (And.intro (by decide) (And.intro (by unfold vp_in; decide) (ifn (by decide) ?_))))))
  have q : ¬ PF M [119, 111, 114, 107] 1 → wX4_nameAmong_129 post (wX4_nameAmong_25 post 5) M tl 0 11 v3 60 := fun z => ne_0_61 hI hs hp (v3 + 1) 0 (by rw [e3]; exact nx1 0 _) (Or.inr ⟨rfl, z⟩) hn
  refine ifs (fun c => q (fun z => ?_)) (fun c => ifs (fun c2 => q (fun z => ?_)) (fun c2 => And.intro (by decide) (And.intro (by unfold vp_in; decide) ?_)))
  · rcases h4 with y | y
    · rw [y.1] at c; exact absurd c (by decide)
    · exact y.2 (pf_succ.mp z).1
  · have l := (pf_succ.mp z).2.1
    rw [← e3] at l
    exact absurd l (by clear z q hn h4; lia)
  · refine by_c hI (by rw [e3]; have := nI_lt8 (i := 0) (by decide); clear q hn h4 c2; lia) (ifs (fun c3 => ?_) (fun c3 => q (fun z => ?_)))
    · refine ne_0_61 hI hs hp (v3 + 1) 1 (by rw [e3]; exact nx1 0 _) (Or.inl ⟨rfl, pf_succ.mpr ⟨?_, ?_, ?_⟩⟩) hn
      · rcases h4 with y | y
        · exact y.2
        · exact absurd y.1 c
      · rw [← e3]; clear q hn h4; lia
      · rw [← e3]; exact c3.symm
    · have l := (pf_succ.mp z).2.2
      rw [← e3] at l
      exact c3 l.symm
theorem ne_0_59 {post : Int32 → MM → Int64 → Prop} {M : MM} {tl : Int64} (hI : Inv M) (hs : 0 ≤ M 22 7 ∧ M 22 7 ≤ 400) (hp : ∀ (r : Int32), NQ M ws0 r → post r M tl) (v3 v4 : Int32) (e3 : v3 = M 22 7 + nI 5) (h4 : (v4 = 1 ∧ PF M [116, 104, 105, 110, 103] 5) ∨ (v4 = 0 ∧ ¬ PF M [116, 104, 105, 110, 103] 5)) (hn : ∀ j, j < 10 → ¬ IsW M (ws0.getD j [])) : wX4_nameAmong_25 post (6 + 1) M tl 0 10 v3 v4 59 := by
  unfold wX4_nameAmong_25
  refine And.intro (by decide) (ifn (by decide) (And.intro (by decide) (ifn (by decide) (And.intro (by decide) (And.intro (by unfold vp_in; decide) (ifp (by decide) ?_))))))
  unfold wX4_nameAmong_54
  have q : ¬ IsW M [116, 104, 105, 110, 103] → wX4_nameAmong_69 post (wX4_nameAmong_25 post 6) M tl 0 10 59 := by
    intro nz
    have hn2 : ∀ j, j < 11 → ¬ IsW M (ws0.getD j []) := fun j hj => by
      by_cases e : j = 10
      · subst e; exact nz
      · exact hn j (by omega)
    unfold wX4_nameAmong_69
    exact ifs (fun c => ne_0_60 hI hs hp (M 22 7) 1 (nx0 _) (Or.inl ⟨rfl, pf_zero c⟩) hn2) (fun c => ne_0_60 hI hs hp (M 22 7) 0 (nx0 _) (Or.inr ⟨rfl, fun z => c z.1⟩) hn2)
  refine ifs (fun c => q (fun z => ?_)) (fun c => ifs (fun c2 => hp _ (Or.inr ⟨10, (by decide), rfl, ?_⟩)) (fun c2 => q (fun z => ?_)))
  · rcases h4 with y | y
    · rw [y.1] at c; exact absurd c (by decide)
    · exact y.2 (pf_of hs (by decide) z).1
  · rcases h4 with y | y
    · exact isw_of y.2 (e3.symm.trans c2)
    · exact absurd y.1 c
  · exact c2 (e3.trans (pf_of hs (by decide) z).2)
theorem ne_0_58 {post : Int32 → MM → Int64 → Prop} {M : MM} {tl : Int64} (hI : Inv M) (hs : 0 ≤ M 22 7 ∧ M 22 7 ≤ 400) (hp : ∀ (r : Int32), NQ M ws0 r → post r M tl) (v3 v4 : Int32) (e3 : v3 = M 22 7 + nI 4) (h4 : (v4 = 1 ∧ PF M [116, 104, 105, 110, 103] 4) ∨ (v4 = 0 ∧ ¬ PF M [116, 104, 105, 110, 103] 4)) (hn : ∀ j, j < 10 → ¬ IsW M (ws0.getD j [])) : wX4_nameAmong_25 post (7 + 1) M tl 0 10 v3 v4 58 := by
  unfold wX4_nameAmong_25
  refine And.intro (by decide) (ifn (by decide) (And.intro (by decide) (ifn (by decide) (And.intro (by decide) (And.intro (by unfold vp_in; decide) (ifn (by decide) ?_))))))
  have q : ¬ PF M [116, 104, 105, 110, 103] 5 → wX4_nameAmong_129 post (wX4_nameAmong_25 post 7) M tl 0 10 v3 58 := fun z => ne_0_59 hI hs hp (v3 + 1) 0 (by rw [e3]; exact nx1 4 _) (Or.inr ⟨rfl, z⟩) hn
  refine ifs (fun c => q (fun z => ?_)) (fun c => ifs (fun c2 => q (fun z => ?_)) (fun c2 => And.intro (by decide) (And.intro (by unfold vp_in; decide) ?_)))
  · rcases h4 with y | y
    · rw [y.1] at c; exact absurd c (by decide)
    · exact y.2 (pf_succ.mp z).1
  · have l := (pf_succ.mp z).2.1
    rw [← e3] at l
    exact absurd l (by clear z q hn h4; lia)
  · refine by_c hI (by rw [e3]; have := nI_lt8 (i := 4) (by decide); clear q hn h4 c2; lia) (ifs (fun c3 => ?_) (fun c3 => q (fun z => ?_)))
    · refine ne_0_59 hI hs hp (v3 + 1) 1 (by rw [e3]; exact nx1 4 _) (Or.inl ⟨rfl, pf_succ.mpr ⟨?_, ?_, ?_⟩⟩) hn
      · rcases h4 with y | y
        · exact y.2
        · exact absurd y.1 c
      · rw [← e3]; clear q hn h4; lia
      · rw [← e3]; exact c3.symm
    · have l := (pf_succ.mp z).2.2
      rw [← e3] at l
      exact c3 l.symm
theorem ne_0_57 {post : Int32 → MM → Int64 → Prop} {M : MM} {tl : Int64} (hI : Inv M) (hs : 0 ≤ M 22 7 ∧ M 22 7 ≤ 400) (hp : ∀ (r : Int32), NQ M ws0 r → post r M tl) (v3 v4 : Int32) (e3 : v3 = M 22 7 + nI 3) (h4 : (v4 = 1 ∧ PF M [116, 104, 105, 110, 103] 3) ∨ (v4 = 0 ∧ ¬ PF M [116, 104, 105, 110, 103] 3)) (hn : ∀ j, j < 10 → ¬ IsW M (ws0.getD j [])) : wX4_nameAmong_25 post (8 + 1) M tl 0 10 v3 v4 57 := by
  unfold wX4_nameAmong_25
  refine And.intro (by decide) (ifn (by decide) (And.intro (by decide) (ifn (by decide) (And.intro (by decide) (And.intro (by unfold vp_in; decide) (ifn (by decide) ?_))))))
  have q : ¬ PF M [116, 104, 105, 110, 103] 4 → wX4_nameAmong_129 post (wX4_nameAmong_25 post 8) M tl 0 10 v3 57 := fun z => ne_0_58 hI hs hp (v3 + 1) 0 (by rw [e3]; exact nx1 3 _) (Or.inr ⟨rfl, z⟩) hn
  refine ifs (fun c => q (fun z => ?_)) (fun c => ifs (fun c2 => q (fun z => ?_)) (fun c2 => And.intro (by decide) (And.intro (by unfold vp_in; decide) ?_)))
  · rcases h4 with y | y
    · rw [y.1] at c; exact absurd c (by decide)
    · exact y.2 (pf_succ.mp z).1
  · have l := (pf_succ.mp z).2.1
    rw [← e3] at l
    exact absurd l (by clear z q hn h4; lia)
  · refine by_c hI (by rw [e3]; have := nI_lt8 (i := 3) (by decide); clear q hn h4 c2; lia) (ifs (fun c3 => ?_) (fun c3 => q (fun z => ?_)))
    · refine ne_0_58 hI hs hp (v3 + 1) 1 (by rw [e3]; exact nx1 3 _) (Or.inl ⟨rfl, pf_succ.mpr ⟨?_, ?_, ?_⟩⟩) hn
      · rcases h4 with y | y
        · exact y.2
        · exact absurd y.1 c
      · rw [← e3]; clear q hn h4; lia
      · rw [← e3]; exact c3.symm
    · have l := (pf_succ.mp z).2.2
      rw [← e3] at l
      exact c3 l.symm
theorem ne_0_56 {post : Int32 → MM → Int64 → Prop} {M : MM} {tl : Int64} (hI : Inv M) (hs : 0 ≤ M 22 7 ∧ M 22 7 ≤ 400) (hp : ∀ (r : Int32), NQ M ws0 r → post r M tl) (v3 v4 : Int32) (e3 : v3 = M 22 7 + nI 2) (h4 : (v4 = 1 ∧ PF M [116, 104, 105, 110, 103] 2) ∨ (v4 = 0 ∧ ¬ PF M [116, 104, 105, 110, 103] 2)) (hn : ∀ j, j < 10 → ¬ IsW M (ws0.getD j [])) : wX4_nameAmong_25 post (9 + 1) M tl 0 10 v3 v4 56 := by
  unfold wX4_nameAmong_25
  refine And.intro (by decide) (ifn (by decide) (And.intro (by decide) (ifn (by decide) (And.intro (by decide) (And.intro (by unfold vp_in; decide) (ifn (by decide) ?_))))))
  have q : ¬ PF M [116, 104, 105, 110, 103] 3 → wX4_nameAmong_129 post (wX4_nameAmong_25 post 9) M tl 0 10 v3 56 := fun z => ne_0_57 hI hs hp (v3 + 1) 0 (by rw [e3]; exact nx1 2 _) (Or.inr ⟨rfl, z⟩) hn
  refine ifs (fun c => q (fun z => ?_)) (fun c => ifs (fun c2 => q (fun z => ?_)) (fun c2 => And.intro (by decide) (And.intro (by unfold vp_in; decide) ?_)))
  · rcases h4 with y | y
    · rw [y.1] at c; exact absurd c (by decide)
    · exact y.2 (pf_succ.mp z).1
  · have l := (pf_succ.mp z).2.1
    rw [← e3] at l
    exact absurd l (by clear z q hn h4; lia)
  · refine by_c hI (by rw [e3]; have := nI_lt8 (i := 2) (by decide); clear q hn h4 c2; lia) (ifs (fun c3 => ?_) (fun c3 => q (fun z => ?_)))
    · refine ne_0_57 hI hs hp (v3 + 1) 1 (by rw [e3]; exact nx1 2 _) (Or.inl ⟨rfl, pf_succ.mpr ⟨?_, ?_, ?_⟩⟩) hn
      · rcases h4 with y | y
        · exact y.2
        · exact absurd y.1 c
      · rw [← e3]; clear q hn h4; lia
      · rw [← e3]; exact c3.symm
    · have l := (pf_succ.mp z).2.2
      rw [← e3] at l
      exact c3 l.symm
theorem ne_0_55 {post : Int32 → MM → Int64 → Prop} {M : MM} {tl : Int64} (hI : Inv M) (hs : 0 ≤ M 22 7 ∧ M 22 7 ≤ 400) (hp : ∀ (r : Int32), NQ M ws0 r → post r M tl) (v3 v4 : Int32) (e3 : v3 = M 22 7 + nI 1) (h4 : (v4 = 1 ∧ PF M [116, 104, 105, 110, 103] 1) ∨ (v4 = 0 ∧ ¬ PF M [116, 104, 105, 110, 103] 1)) (hn : ∀ j, j < 10 → ¬ IsW M (ws0.getD j [])) : wX4_nameAmong_25 post (10 + 1) M tl 0 10 v3 v4 55 := by
  unfold wX4_nameAmong_25
  refine And.intro (by decide) (ifn (by decide) (And.intro (by decide) (ifn (by decide) (And.intro (by decide) (And.intro (by unfold vp_in; decide) (ifn (by decide) ?_))))))
  have q : ¬ PF M [116, 104, 105, 110, 103] 2 → wX4_nameAmong_129 post (wX4_nameAmong_25 post 10) M tl 0 10 v3 55 := fun z => ne_0_56 hI hs hp (v3 + 1) 0 (by rw [e3]; exact nx1 1 _) (Or.inr ⟨rfl, z⟩) hn
  refine ifs (fun c => q (fun z => ?_)) (fun c => ifs (fun c2 => q (fun z => ?_)) (fun c2 => And.intro (by decide) (And.intro (by unfold vp_in; decide) ?_)))
  · rcases h4 with y | y
    · rw [y.1] at c; exact absurd c (by decide)
    · exact y.2 (pf_succ.mp z).1
  · have l := (pf_succ.mp z).2.1
    rw [← e3] at l
    exact absurd l (by clear z q hn h4; lia)
  · refine by_c hI (by rw [e3]; have := nI_lt8 (i := 1) (by decide); clear q hn h4 c2; lia) (ifs (fun c3 => ?_) (fun c3 => q (fun z => ?_)))
    · refine ne_0_56 hI hs hp (v3 + 1) 1 (by rw [e3]; exact nx1 1 _) (Or.inl ⟨rfl, pf_succ.mpr ⟨?_, ?_, ?_⟩⟩) hn
      · rcases h4 with y | y
        · exact y.2
        · exact absurd y.1 c
      · rw [← e3]; clear q hn h4; lia
      · rw [← e3]; exact c3.symm
    · have l := (pf_succ.mp z).2.2
      rw [← e3] at l
      exact c3 l.symm
theorem ne_0_54 {post : Int32 → MM → Int64 → Prop} {M : MM} {tl : Int64} (hI : Inv M) (hs : 0 ≤ M 22 7 ∧ M 22 7 ≤ 400) (hp : ∀ (r : Int32), NQ M ws0 r → post r M tl) (v3 v4 : Int32) (e3 : v3 = M 22 7 + nI 0) (h4 : (v4 = 1 ∧ PF M [116, 104, 105, 110, 103] 0) ∨ (v4 = 0 ∧ ¬ PF M [116, 104, 105, 110, 103] 0)) (hn : ∀ j, j < 10 → ¬ IsW M (ws0.getD j [])) : wX4_nameAmong_25 post (11 + 1) M tl 0 10 v3 v4 54 := by
  unfold wX4_nameAmong_25
  refine And.intro (by decide) (ifn (by decide) (And.intro (by decide) (ifn (by decide) (And.intro (by decide) (And.intro (by unfold vp_in; decide) (ifn (by decide) ?_))))))
  have q : ¬ PF M [116, 104, 105, 110, 103] 1 → wX4_nameAmong_129 post (wX4_nameAmong_25 post 11) M tl 0 10 v3 54 := fun z => ne_0_55 hI hs hp (v3 + 1) 0 (by rw [e3]; exact nx1 0 _) (Or.inr ⟨rfl, z⟩) hn
  refine ifs (fun c => q (fun z => ?_)) (fun c => ifs (fun c2 => q (fun z => ?_)) (fun c2 => And.intro (by decide) (And.intro (by unfold vp_in; decide) ?_)))
  · rcases h4 with y | y
    · rw [y.1] at c; exact absurd c (by decide)
    · exact y.2 (pf_succ.mp z).1
  · have l := (pf_succ.mp z).2.1
    rw [← e3] at l
    exact absurd l (by clear z q hn h4; lia)
  · refine by_c hI (by rw [e3]; have := nI_lt8 (i := 0) (by decide); clear q hn h4 c2; lia) (ifs (fun c3 => ?_) (fun c3 => q (fun z => ?_)))
    · refine ne_0_55 hI hs hp (v3 + 1) 1 (by rw [e3]; exact nx1 0 _) (Or.inl ⟨rfl, pf_succ.mpr ⟨?_, ?_, ?_⟩⟩) hn
      · rcases h4 with y | y
        · exact y.2
        · exact absurd y.1 c
      · rw [← e3]; clear q hn h4; lia
      · rw [← e3]; exact c3.symm
    · have l := (pf_succ.mp z).2.2
      rw [← e3] at l
      exact c3 l.symm
theorem ne_0_53 {post : Int32 → MM → Int64 → Prop} {M : MM} {tl : Int64} (hI : Inv M) (hs : 0 ≤ M 22 7 ∧ M 22 7 ≤ 400) (hp : ∀ (r : Int32), NQ M ws0 r → post r M tl) (v3 v4 : Int32) (e3 : v3 = M 22 7 + nI 5) (h4 : (v4 = 1 ∧ PF M [114, 105, 103, 104, 116] 5) ∨ (v4 = 0 ∧ ¬ PF M [114, 105, 103, 104, 116] 5)) (hn : ∀ j, j < 9 → ¬ IsW M (ws0.getD j [])) : wX4_nameAmong_25 post (12 + 1) M tl 0 9 v3 v4 53 := by
  unfold wX4_nameAmong_25
  refine And.intro (by decide) (ifn (by decide) (And.intro (by decide) (ifn (by decide) (And.intro (by decide) (And.intro (by unfold vp_in; decide) (ifp (by decide) ?_))))))
  unfold wX4_nameAmong_54
  have q : ¬ IsW M [114, 105, 103, 104, 116] → wX4_nameAmong_69 post (wX4_nameAmong_25 post 12) M tl 0 9 53 := by
    intro nz
    have hn2 : ∀ j, j < 10 → ¬ IsW M (ws0.getD j []) := fun j hj => by
      by_cases e : j = 9
      · subst e; exact nz
      · exact hn j (by omega)
    unfold wX4_nameAmong_69
    exact ifs (fun c => ne_0_54 hI hs hp (M 22 7) 1 (nx0 _) (Or.inl ⟨rfl, pf_zero c⟩) hn2) (fun c => ne_0_54 hI hs hp (M 22 7) 0 (nx0 _) (Or.inr ⟨rfl, fun z => c z.1⟩) hn2)
  refine ifs (fun c => q (fun z => ?_)) (fun c => ifs (fun c2 => hp _ (Or.inr ⟨9, (by decide), rfl, ?_⟩)) (fun c2 => q (fun z => ?_)))
  · rcases h4 with y | y
    · rw [y.1] at c; exact absurd c (by decide)
    · exact y.2 (pf_of hs (by decide) z).1
  · rcases h4 with y | y
    · exact isw_of y.2 (e3.symm.trans c2)
    · exact absurd y.1 c
  · exact c2 (e3.trans (pf_of hs (by decide) z).2)
theorem ne_0_52 {post : Int32 → MM → Int64 → Prop} {M : MM} {tl : Int64} (hI : Inv M) (hs : 0 ≤ M 22 7 ∧ M 22 7 ≤ 400) (hp : ∀ (r : Int32), NQ M ws0 r → post r M tl) (v3 v4 : Int32) (e3 : v3 = M 22 7 + nI 4) (h4 : (v4 = 1 ∧ PF M [114, 105, 103, 104, 116] 4) ∨ (v4 = 0 ∧ ¬ PF M [114, 105, 103, 104, 116] 4)) (hn : ∀ j, j < 9 → ¬ IsW M (ws0.getD j [])) : wX4_nameAmong_25 post (13 + 1) M tl 0 9 v3 v4 52 := by
  unfold wX4_nameAmong_25
  refine And.intro (by decide) (ifn (by decide) (And.intro (by decide) (ifn (by decide) (And.intro (by decide) (And.intro (by unfold vp_in; decide) (ifn (by decide) ?_))))))
  have q : ¬ PF M [114, 105, 103, 104, 116] 5 → wX4_nameAmong_129 post (wX4_nameAmong_25 post 13) M tl 0 9 v3 52 := fun z => ne_0_53 hI hs hp (v3 + 1) 0 (by rw [e3]; exact nx1 4 _) (Or.inr ⟨rfl, z⟩) hn
  refine ifs (fun c => q (fun z => ?_)) (fun c => ifs (fun c2 => q (fun z => ?_)) (fun c2 => And.intro (by decide) (And.intro (by unfold vp_in; decide) ?_)))
  · rcases h4 with y | y
    · rw [y.1] at c; exact absurd c (by decide)
    · exact y.2 (pf_succ.mp z).1
  · have l := (pf_succ.mp z).2.1
    rw [← e3] at l
    exact absurd l (by clear z q hn h4; lia)
  · refine by_c hI (by rw [e3]; have := nI_lt8 (i := 4) (by decide); clear q hn h4 c2; lia) (ifs (fun c3 => ?_) (fun c3 => q (fun z => ?_)))
    · refine ne_0_53 hI hs hp (v3 + 1) 1 (by rw [e3]; exact nx1 4 _) (Or.inl ⟨rfl, pf_succ.mpr ⟨?_, ?_, ?_⟩⟩) hn
      · rcases h4 with y | y
        · exact y.2
        · exact absurd y.1 c
      · rw [← e3]; clear q hn h4; lia
      · rw [← e3]; exact c3.symm
    · have l := (pf_succ.mp z).2.2
      rw [← e3] at l
      exact c3 l.symm
theorem ne_0_51 {post : Int32 → MM → Int64 → Prop} {M : MM} {tl : Int64} (hI : Inv M) (hs : 0 ≤ M 22 7 ∧ M 22 7 ≤ 400) (hp : ∀ (r : Int32), NQ M ws0 r → post r M tl) (v3 v4 : Int32) (e3 : v3 = M 22 7 + nI 3) (h4 : (v4 = 1 ∧ PF M [114, 105, 103, 104, 116] 3) ∨ (v4 = 0 ∧ ¬ PF M [114, 105, 103, 104, 116] 3)) (hn : ∀ j, j < 9 → ¬ IsW M (ws0.getD j [])) : wX4_nameAmong_25 post (14 + 1) M tl 0 9 v3 v4 51 := by
  unfold wX4_nameAmong_25
  refine And.intro (by decide) (ifn (by decide) (And.intro (by decide) (ifn (by decide) (And.intro (by decide) (And.intro (by unfold vp_in; decide) (ifn (by decide) ?_))))))
  have q : ¬ PF M [114, 105, 103, 104, 116] 4 → wX4_nameAmong_129 post (wX4_nameAmong_25 post 14) M tl 0 9 v3 51 := fun z => ne_0_52 hI hs hp (v3 + 1) 0 (by rw [e3]; exact nx1 3 _) (Or.inr ⟨rfl, z⟩) hn
  refine ifs (fun c => q (fun z => ?_)) (fun c => ifs (fun c2 => q (fun z => ?_)) (fun c2 => And.intro (by decide) (And.intro (by unfold vp_in; decide) ?_)))
  · rcases h4 with y | y
    · rw [y.1] at c; exact absurd c (by decide)
    · exact y.2 (pf_succ.mp z).1
  · have l := (pf_succ.mp z).2.1
    rw [← e3] at l
    exact absurd l (by clear z q hn h4; lia)
  · refine by_c hI (by rw [e3]; have := nI_lt8 (i := 3) (by decide); clear q hn h4 c2; lia) (ifs (fun c3 => ?_) (fun c3 => q (fun z => ?_)))
    · refine ne_0_52 hI hs hp (v3 + 1) 1 (by rw [e3]; exact nx1 3 _) (Or.inl ⟨rfl, pf_succ.mpr ⟨?_, ?_, ?_⟩⟩) hn
      · rcases h4 with y | y
        · exact y.2
        · exact absurd y.1 c
      · rw [← e3]; clear q hn h4; lia
      · rw [← e3]; exact c3.symm
    · have l := (pf_succ.mp z).2.2
      rw [← e3] at l
      exact c3 l.symm
theorem ne_0_50 {post : Int32 → MM → Int64 → Prop} {M : MM} {tl : Int64} (hI : Inv M) (hs : 0 ≤ M 22 7 ∧ M 22 7 ≤ 400) (hp : ∀ (r : Int32), NQ M ws0 r → post r M tl) (v3 v4 : Int32) (e3 : v3 = M 22 7 + nI 2) (h4 : (v4 = 1 ∧ PF M [114, 105, 103, 104, 116] 2) ∨ (v4 = 0 ∧ ¬ PF M [114, 105, 103, 104, 116] 2)) (hn : ∀ j, j < 9 → ¬ IsW M (ws0.getD j [])) : wX4_nameAmong_25 post (15 + 1) M tl 0 9 v3 v4 50 := by
  unfold wX4_nameAmong_25
  refine And.intro (by decide) (ifn (by decide) (And.intro (by decide) (ifn (by decide) (And.intro (by decide) (And.intro (by unfold vp_in; decide) (ifn (by decide) ?_))))))
  have q : ¬ PF M [114, 105, 103, 104, 116] 3 → wX4_nameAmong_129 post (wX4_nameAmong_25 post 15) M tl 0 9 v3 50 := fun z => ne_0_51 hI hs hp (v3 + 1) 0 (by rw [e3]; exact nx1 2 _) (Or.inr ⟨rfl, z⟩) hn
  refine ifs (fun c => q (fun z => ?_)) (fun c => ifs (fun c2 => q (fun z => ?_)) (fun c2 => And.intro (by decide) (And.intro (by unfold vp_in; decide) ?_)))
  · rcases h4 with y | y
    · rw [y.1] at c; exact absurd c (by decide)
    · exact y.2 (pf_succ.mp z).1
  · have l := (pf_succ.mp z).2.1
    rw [← e3] at l
    exact absurd l (by clear z q hn h4; lia)
  · refine by_c hI (by rw [e3]; have := nI_lt8 (i := 2) (by decide); clear q hn h4 c2; lia) (ifs (fun c3 => ?_) (fun c3 => q (fun z => ?_)))
    · refine ne_0_51 hI hs hp (v3 + 1) 1 (by rw [e3]; exact nx1 2 _) (Or.inl ⟨rfl, pf_succ.mpr ⟨?_, ?_, ?_⟩⟩) hn
      · rcases h4 with y | y
        · exact y.2
        · exact absurd y.1 c
      · rw [← e3]; clear q hn h4; lia
      · rw [← e3]; exact c3.symm
    · have l := (pf_succ.mp z).2.2
      rw [← e3] at l
      exact c3 l.symm
theorem ne_0_49 {post : Int32 → MM → Int64 → Prop} {M : MM} {tl : Int64} (hI : Inv M) (hs : 0 ≤ M 22 7 ∧ M 22 7 ≤ 400) (hp : ∀ (r : Int32), NQ M ws0 r → post r M tl) (v3 v4 : Int32) (e3 : v3 = M 22 7 + nI 1) (h4 : (v4 = 1 ∧ PF M [114, 105, 103, 104, 116] 1) ∨ (v4 = 0 ∧ ¬ PF M [114, 105, 103, 104, 116] 1)) (hn : ∀ j, j < 9 → ¬ IsW M (ws0.getD j [])) : wX4_nameAmong_25 post (16 + 1) M tl 0 9 v3 v4 49 := by
  unfold wX4_nameAmong_25
  refine And.intro (by decide) (ifn (by decide) (And.intro (by decide) (ifn (by decide) (And.intro (by decide) (And.intro (by unfold vp_in; decide) (ifn (by decide) ?_))))))
  have q : ¬ PF M [114, 105, 103, 104, 116] 2 → wX4_nameAmong_129 post (wX4_nameAmong_25 post 16) M tl 0 9 v3 49 := fun z => ne_0_50 hI hs hp (v3 + 1) 0 (by rw [e3]; exact nx1 1 _) (Or.inr ⟨rfl, z⟩) hn
  refine ifs (fun c => q (fun z => ?_)) (fun c => ifs (fun c2 => q (fun z => ?_)) (fun c2 => And.intro (by decide) (And.intro (by unfold vp_in; decide) ?_)))
  · rcases h4 with y | y
    · rw [y.1] at c; exact absurd c (by decide)
    · exact y.2 (pf_succ.mp z).1
  · have l := (pf_succ.mp z).2.1
    rw [← e3] at l
    exact absurd l (by clear z q hn h4; lia)
  · refine by_c hI (by rw [e3]; have := nI_lt8 (i := 1) (by decide); clear q hn h4 c2; lia) (ifs (fun c3 => ?_) (fun c3 => q (fun z => ?_)))
    · refine ne_0_50 hI hs hp (v3 + 1) 1 (by rw [e3]; exact nx1 1 _) (Or.inl ⟨rfl, pf_succ.mpr ⟨?_, ?_, ?_⟩⟩) hn
      · rcases h4 with y | y
        · exact y.2
        · exact absurd y.1 c
      · rw [← e3]; clear q hn h4; lia
      · rw [← e3]; exact c3.symm
    · have l := (pf_succ.mp z).2.2
      rw [← e3] at l
      exact c3 l.symm
theorem ne_0_48 {post : Int32 → MM → Int64 → Prop} {M : MM} {tl : Int64} (hI : Inv M) (hs : 0 ≤ M 22 7 ∧ M 22 7 ≤ 400) (hp : ∀ (r : Int32), NQ M ws0 r → post r M tl) (v3 v4 : Int32) (e3 : v3 = M 22 7 + nI 0) (h4 : (v4 = 1 ∧ PF M [114, 105, 103, 104, 116] 0) ∨ (v4 = 0 ∧ ¬ PF M [114, 105, 103, 104, 116] 0)) (hn : ∀ j, j < 9 → ¬ IsW M (ws0.getD j [])) : wX4_nameAmong_25 post (17 + 1) M tl 0 9 v3 v4 48 := by
  unfold wX4_nameAmong_25
  refine And.intro (by decide) (ifn (by decide) (And.intro (by decide) (ifn (by decide) (And.intro (by decide) (And.intro (by unfold vp_in; decide) (ifn (by decide) ?_))))))
  have q : ¬ PF M [114, 105, 103, 104, 116] 1 → wX4_nameAmong_129 post (wX4_nameAmong_25 post 17) M tl 0 9 v3 48 := fun z => ne_0_49 hI hs hp (v3 + 1) 0 (by rw [e3]; exact nx1 0 _) (Or.inr ⟨rfl, z⟩) hn
  refine ifs (fun c => q (fun z => ?_)) (fun c => ifs (fun c2 => q (fun z => ?_)) (fun c2 => And.intro (by decide) (And.intro (by unfold vp_in; decide) ?_)))
  · rcases h4 with y | y
    · rw [y.1] at c; exact absurd c (by decide)
    · exact y.2 (pf_succ.mp z).1
  · have l := (pf_succ.mp z).2.1
    rw [← e3] at l
    exact absurd l (by clear z q hn h4; lia)
  · refine by_c hI (by rw [e3]; have := nI_lt8 (i := 0) (by decide); clear q hn h4 c2; lia) (ifs (fun c3 => ?_) (fun c3 => q (fun z => ?_)))
    · refine ne_0_49 hI hs hp (v3 + 1) 1 (by rw [e3]; exact nx1 0 _) (Or.inl ⟨rfl, pf_succ.mpr ⟨?_, ?_, ?_⟩⟩) hn
      · rcases h4 with y | y
        · exact y.2
        · exact absurd y.1 c
      · rw [← e3]; clear q hn h4; lia
      · rw [← e3]; exact c3.symm
    · have l := (pf_succ.mp z).2.2
      rw [← e3] at l
      exact c3 l.symm
theorem ne_0_47 {post : Int32 → MM → Int64 → Prop} {M : MM} {tl : Int64} (hI : Inv M) (hs : 0 ≤ M 22 7 ∧ M 22 7 ≤ 400) (hp : ∀ (r : Int32), NQ M ws0 r → post r M tl) (v3 v4 : Int32) (e3 : v3 = M 22 7 + nI 5) (h4 : (v4 = 1 ∧ PF M [112, 97, 105, 110, 116] 5) ∨ (v4 = 0 ∧ ¬ PF M [112, 97, 105, 110, 116] 5)) (hn : ∀ j, j < 8 → ¬ IsW M (ws0.getD j [])) : wX4_nameAmong_25 post (18 + 1) M tl 0 8 v3 v4 47 := by
  unfold wX4_nameAmong_25
  refine And.intro (by decide) (ifn (by decide) (And.intro (by decide) (ifn (by decide) (And.intro (by decide) (And.intro (by unfold vp_in; decide) (ifp (by decide) ?_))))))
  unfold wX4_nameAmong_54
  have q : ¬ IsW M [112, 97, 105, 110, 116] → wX4_nameAmong_69 post (wX4_nameAmong_25 post 18) M tl 0 8 47 := by
    intro nz
    have hn2 : ∀ j, j < 9 → ¬ IsW M (ws0.getD j []) := fun j hj => by
      by_cases e : j = 8
      · subst e; exact nz
      · exact hn j (by omega)
    unfold wX4_nameAmong_69
    exact ifs (fun c => ne_0_48 hI hs hp (M 22 7) 1 (nx0 _) (Or.inl ⟨rfl, pf_zero c⟩) hn2) (fun c => ne_0_48 hI hs hp (M 22 7) 0 (nx0 _) (Or.inr ⟨rfl, fun z => c z.1⟩) hn2)
  refine ifs (fun c => q (fun z => ?_)) (fun c => ifs (fun c2 => hp _ (Or.inr ⟨8, (by decide), rfl, ?_⟩)) (fun c2 => q (fun z => ?_)))
  · rcases h4 with y | y
    · rw [y.1] at c; exact absurd c (by decide)
    · exact y.2 (pf_of hs (by decide) z).1
  · rcases h4 with y | y
    · exact isw_of y.2 (e3.symm.trans c2)
    · exact absurd y.1 c
  · exact c2 (e3.trans (pf_of hs (by decide) z).2)
theorem ne_0_46 {post : Int32 → MM → Int64 → Prop} {M : MM} {tl : Int64} (hI : Inv M) (hs : 0 ≤ M 22 7 ∧ M 22 7 ≤ 400) (hp : ∀ (r : Int32), NQ M ws0 r → post r M tl) (v3 v4 : Int32) (e3 : v3 = M 22 7 + nI 4) (h4 : (v4 = 1 ∧ PF M [112, 97, 105, 110, 116] 4) ∨ (v4 = 0 ∧ ¬ PF M [112, 97, 105, 110, 116] 4)) (hn : ∀ j, j < 8 → ¬ IsW M (ws0.getD j [])) : wX4_nameAmong_25 post (19 + 1) M tl 0 8 v3 v4 46 := by
  unfold wX4_nameAmong_25
  refine And.intro (by decide) (ifn (by decide) (And.intro (by decide) (ifn (by decide) (And.intro (by decide) (And.intro (by unfold vp_in; decide) (ifn (by decide) ?_))))))
  have q : ¬ PF M [112, 97, 105, 110, 116] 5 → wX4_nameAmong_129 post (wX4_nameAmong_25 post 19) M tl 0 8 v3 46 := fun z => ne_0_47 hI hs hp (v3 + 1) 0 (by rw [e3]; exact nx1 4 _) (Or.inr ⟨rfl, z⟩) hn
  refine ifs (fun c => q (fun z => ?_)) (fun c => ifs (fun c2 => q (fun z => ?_)) (fun c2 => And.intro (by decide) (And.intro (by unfold vp_in; decide) ?_)))
  · rcases h4 with y | y
    · rw [y.1] at c; exact absurd c (by decide)
    · exact y.2 (pf_succ.mp z).1
  · have l := (pf_succ.mp z).2.1
    rw [← e3] at l
    exact absurd l (by clear z q hn h4; lia)
  · refine by_c hI (by rw [e3]; have := nI_lt8 (i := 4) (by decide); clear q hn h4 c2; lia) (ifs (fun c3 => ?_) (fun c3 => q (fun z => ?_)))
    · refine ne_0_47 hI hs hp (v3 + 1) 1 (by rw [e3]; exact nx1 4 _) (Or.inl ⟨rfl, pf_succ.mpr ⟨?_, ?_, ?_⟩⟩) hn
      · rcases h4 with y | y
        · exact y.2
        · exact absurd y.1 c
      · rw [← e3]; clear q hn h4; lia
      · rw [← e3]; exact c3.symm
    · have l := (pf_succ.mp z).2.2
      rw [← e3] at l
      exact c3 l.symm
theorem ne_0_45 {post : Int32 → MM → Int64 → Prop} {M : MM} {tl : Int64} (hI : Inv M) (hs : 0 ≤ M 22 7 ∧ M 22 7 ≤ 400) (hp : ∀ (r : Int32), NQ M ws0 r → post r M tl) (v3 v4 : Int32) (e3 : v3 = M 22 7 + nI 3) (h4 : (v4 = 1 ∧ PF M [112, 97, 105, 110, 116] 3) ∨ (v4 = 0 ∧ ¬ PF M [112, 97, 105, 110, 116] 3)) (hn : ∀ j, j < 8 → ¬ IsW M (ws0.getD j [])) : wX4_nameAmong_25 post (20 + 1) M tl 0 8 v3 v4 45 := by
  unfold wX4_nameAmong_25
  refine And.intro (by decide) (ifn (by decide) (And.intro (by decide) (ifn (by decide) (And.intro (by decide) (And.intro (by unfold vp_in; decide) (ifn (by decide) ?_))))))
  have q : ¬ PF M [112, 97, 105, 110, 116] 4 → wX4_nameAmong_129 post (wX4_nameAmong_25 post 20) M tl 0 8 v3 45 := fun z => ne_0_46 hI hs hp (v3 + 1) 0 (by rw [e3]; exact nx1 3 _) (Or.inr ⟨rfl, z⟩) hn
  refine ifs (fun c => q (fun z => ?_)) (fun c => ifs (fun c2 => q (fun z => ?_)) (fun c2 => And.intro (by decide) (And.intro (by unfold vp_in; decide) ?_)))
  · rcases h4 with y | y
    · rw [y.1] at c; exact absurd c (by decide)
    · exact y.2 (pf_succ.mp z).1
  · have l := (pf_succ.mp z).2.1
    rw [← e3] at l
    exact absurd l (by clear z q hn h4; lia)
  · refine by_c hI (by rw [e3]; have := nI_lt8 (i := 3) (by decide); clear q hn h4 c2; lia) (ifs (fun c3 => ?_) (fun c3 => q (fun z => ?_)))
    · refine ne_0_46 hI hs hp (v3 + 1) 1 (by rw [e3]; exact nx1 3 _) (Or.inl ⟨rfl, pf_succ.mpr ⟨?_, ?_, ?_⟩⟩) hn
      · rcases h4 with y | y
        · exact y.2
        · exact absurd y.1 c
      · rw [← e3]; clear q hn h4; lia
      · rw [← e3]; exact c3.symm
    · have l := (pf_succ.mp z).2.2
      rw [← e3] at l
      exact c3 l.symm
theorem ne_0_44 {post : Int32 → MM → Int64 → Prop} {M : MM} {tl : Int64} (hI : Inv M) (hs : 0 ≤ M 22 7 ∧ M 22 7 ≤ 400) (hp : ∀ (r : Int32), NQ M ws0 r → post r M tl) (v3 v4 : Int32) (e3 : v3 = M 22 7 + nI 2) (h4 : (v4 = 1 ∧ PF M [112, 97, 105, 110, 116] 2) ∨ (v4 = 0 ∧ ¬ PF M [112, 97, 105, 110, 116] 2)) (hn : ∀ j, j < 8 → ¬ IsW M (ws0.getD j [])) : wX4_nameAmong_25 post (21 + 1) M tl 0 8 v3 v4 44 := by
  unfold wX4_nameAmong_25
  refine And.intro (by decide) (ifn (by decide) (And.intro (by decide) (ifn (by decide) (And.intro (by decide) (And.intro (by unfold vp_in; decide) (ifn (by decide) ?_))))))
  have q : ¬ PF M [112, 97, 105, 110, 116] 3 → wX4_nameAmong_129 post (wX4_nameAmong_25 post 21) M tl 0 8 v3 44 := fun z => ne_0_45 hI hs hp (v3 + 1) 0 (by rw [e3]; exact nx1 2 _) (Or.inr ⟨rfl, z⟩) hn
  refine ifs (fun c => q (fun z => ?_)) (fun c => ifs (fun c2 => q (fun z => ?_)) (fun c2 => And.intro (by decide) (And.intro (by unfold vp_in; decide) ?_)))
  · rcases h4 with y | y
    · rw [y.1] at c; exact absurd c (by decide)
    · exact y.2 (pf_succ.mp z).1
  · have l := (pf_succ.mp z).2.1
    rw [← e3] at l
    exact absurd l (by clear z q hn h4; lia)
  · refine by_c hI (by rw [e3]; have := nI_lt8 (i := 2) (by decide); clear q hn h4 c2; lia) (ifs (fun c3 => ?_) (fun c3 => q (fun z => ?_)))
    · refine ne_0_45 hI hs hp (v3 + 1) 1 (by rw [e3]; exact nx1 2 _) (Or.inl ⟨rfl, pf_succ.mpr ⟨?_, ?_, ?_⟩⟩) hn
      · rcases h4 with y | y
        · exact y.2
        · exact absurd y.1 c
      · rw [← e3]; clear q hn h4; lia
      · rw [← e3]; exact c3.symm
    · have l := (pf_succ.mp z).2.2
      rw [← e3] at l
      exact c3 l.symm
theorem ne_0_43 {post : Int32 → MM → Int64 → Prop} {M : MM} {tl : Int64} (hI : Inv M) (hs : 0 ≤ M 22 7 ∧ M 22 7 ≤ 400) (hp : ∀ (r : Int32), NQ M ws0 r → post r M tl) (v3 v4 : Int32) (e3 : v3 = M 22 7 + nI 1) (h4 : (v4 = 1 ∧ PF M [112, 97, 105, 110, 116] 1) ∨ (v4 = 0 ∧ ¬ PF M [112, 97, 105, 110, 116] 1)) (hn : ∀ j, j < 8 → ¬ IsW M (ws0.getD j [])) : wX4_nameAmong_25 post (22 + 1) M tl 0 8 v3 v4 43 := by
  unfold wX4_nameAmong_25
  refine And.intro (by decide) (ifn (by decide) (And.intro (by decide) (ifn (by decide) (And.intro (by decide) (And.intro (by unfold vp_in; decide) (ifn (by decide) ?_))))))
  have q : ¬ PF M [112, 97, 105, 110, 116] 2 → wX4_nameAmong_129 post (wX4_nameAmong_25 post 22) M tl 0 8 v3 43 := fun z => ne_0_44 hI hs hp (v3 + 1) 0 (by rw [e3]; exact nx1 1 _) (Or.inr ⟨rfl, z⟩) hn
  refine ifs (fun c => q (fun z => ?_)) (fun c => ifs (fun c2 => q (fun z => ?_)) (fun c2 => And.intro (by decide) (And.intro (by unfold vp_in; decide) ?_)))
  · rcases h4 with y | y
    · rw [y.1] at c; exact absurd c (by decide)
    · exact y.2 (pf_succ.mp z).1
  · have l := (pf_succ.mp z).2.1
    rw [← e3] at l
    exact absurd l (by clear z q hn h4; lia)
  · refine by_c hI (by rw [e3]; have := nI_lt8 (i := 1) (by decide); clear q hn h4 c2; lia) (ifs (fun c3 => ?_) (fun c3 => q (fun z => ?_)))
    · refine ne_0_44 hI hs hp (v3 + 1) 1 (by rw [e3]; exact nx1 1 _) (Or.inl ⟨rfl, pf_succ.mpr ⟨?_, ?_, ?_⟩⟩) hn
      · rcases h4 with y | y
        · exact y.2
        · exact absurd y.1 c
      · rw [← e3]; clear q hn h4; lia
      · rw [← e3]; exact c3.symm
    · have l := (pf_succ.mp z).2.2
      rw [← e3] at l
      exact c3 l.symm
theorem ne_0_42 {post : Int32 → MM → Int64 → Prop} {M : MM} {tl : Int64} (hI : Inv M) (hs : 0 ≤ M 22 7 ∧ M 22 7 ≤ 400) (hp : ∀ (r : Int32), NQ M ws0 r → post r M tl) (v3 v4 : Int32) (e3 : v3 = M 22 7 + nI 0) (h4 : (v4 = 1 ∧ PF M [112, 97, 105, 110, 116] 0) ∨ (v4 = 0 ∧ ¬ PF M [112, 97, 105, 110, 116] 0)) (hn : ∀ j, j < 8 → ¬ IsW M (ws0.getD j [])) : wX4_nameAmong_25 post (23 + 1) M tl 0 8 v3 v4 42 := by
  unfold wX4_nameAmong_25
  refine And.intro (by decide) (ifn (by decide) (And.intro (by decide) (ifn (by decide) (And.intro (by decide) (And.intro (by unfold vp_in; decide) (ifn (by decide) ?_))))))
  have q : ¬ PF M [112, 97, 105, 110, 116] 1 → wX4_nameAmong_129 post (wX4_nameAmong_25 post 23) M tl 0 8 v3 42 := fun z => ne_0_43 hI hs hp (v3 + 1) 0 (by rw [e3]; exact nx1 0 _) (Or.inr ⟨rfl, z⟩) hn
  refine ifs (fun c => q (fun z => ?_)) (fun c => ifs (fun c2 => q (fun z => ?_)) (fun c2 => And.intro (by decide) (And.intro (by unfold vp_in; decide) ?_)))
  · rcases h4 with y | y
    · rw [y.1] at c; exact absurd c (by decide)
    · exact y.2 (pf_succ.mp z).1
  · have l := (pf_succ.mp z).2.1
    rw [← e3] at l
    exact absurd l (by clear z q hn h4; lia)
  · refine by_c hI (by rw [e3]; have := nI_lt8 (i := 0) (by decide); clear q hn h4 c2; lia) (ifs (fun c3 => ?_) (fun c3 => q (fun z => ?_)))
    · refine ne_0_43 hI hs hp (v3 + 1) 1 (by rw [e3]; exact nx1 0 _) (Or.inl ⟨rfl, pf_succ.mpr ⟨?_, ?_, ?_⟩⟩) hn
      · rcases h4 with y | y
        · exact y.2
        · exact absurd y.1 c
      · rw [← e3]; clear q hn h4; lia
      · rw [← e3]; exact c3.symm
    · have l := (pf_succ.mp z).2.2
      rw [← e3] at l
      exact c3 l.symm
theorem ne_0_41 {post : Int32 → MM → Int64 → Prop} {M : MM} {tl : Int64} (hI : Inv M) (hs : 0 ≤ M 22 7 ∧ M 22 7 ≤ 400) (hp : ∀ (r : Int32), NQ M ws0 r → post r M tl) (v3 v4 : Int32) (e3 : v3 = M 22 7 + nI 4) (h4 : (v4 = 1 ∧ PF M [116, 119, 105, 110] 4) ∨ (v4 = 0 ∧ ¬ PF M [116, 119, 105, 110] 4)) (hn : ∀ j, j < 7 → ¬ IsW M (ws0.getD j [])) : wX4_nameAmong_25 post (24 + 1) M tl 0 7 v3 v4 41 := by
  unfold wX4_nameAmong_25
  refine And.intro (by decide) (ifn (by decide) (And.intro (by decide) (ifn (by decide) (And.intro (by decide) (And.intro (by unfold vp_in; decide) (ifp (by decide) ?_))))))
  unfold wX4_nameAmong_54
  have q : ¬ IsW M [116, 119, 105, 110] → wX4_nameAmong_69 post (wX4_nameAmong_25 post 24) M tl 0 7 41 := by
    intro nz
    have hn2 : ∀ j, j < 8 → ¬ IsW M (ws0.getD j []) := fun j hj => by
      by_cases e : j = 7
      · subst e; exact nz
      · exact hn j (by omega)
    unfold wX4_nameAmong_69
    exact ifs (fun c => ne_0_42 hI hs hp (M 22 7) 1 (nx0 _) (Or.inl ⟨rfl, pf_zero c⟩) hn2) (fun c => ne_0_42 hI hs hp (M 22 7) 0 (nx0 _) (Or.inr ⟨rfl, fun z => c z.1⟩) hn2)
  refine ifs (fun c => q (fun z => ?_)) (fun c => ifs (fun c2 => hp _ (Or.inr ⟨7, (by decide), rfl, ?_⟩)) (fun c2 => q (fun z => ?_)))
  · rcases h4 with y | y
    · rw [y.1] at c; exact absurd c (by decide)
    · exact y.2 (pf_of hs (by decide) z).1
  · rcases h4 with y | y
    · exact isw_of y.2 (e3.symm.trans c2)
    · exact absurd y.1 c
  · exact c2 (e3.trans (pf_of hs (by decide) z).2)
theorem ne_0_40 {post : Int32 → MM → Int64 → Prop} {M : MM} {tl : Int64} (hI : Inv M) (hs : 0 ≤ M 22 7 ∧ M 22 7 ≤ 400) (hp : ∀ (r : Int32), NQ M ws0 r → post r M tl) (v3 v4 : Int32) (e3 : v3 = M 22 7 + nI 3) (h4 : (v4 = 1 ∧ PF M [116, 119, 105, 110] 3) ∨ (v4 = 0 ∧ ¬ PF M [116, 119, 105, 110] 3)) (hn : ∀ j, j < 7 → ¬ IsW M (ws0.getD j [])) : wX4_nameAmong_25 post (25 + 1) M tl 0 7 v3 v4 40 := by
  unfold wX4_nameAmong_25
  refine And.intro (by decide) (ifn (by decide) (And.intro (by decide) (ifn (by decide) (And.intro (by decide) (And.intro (by unfold vp_in; decide) (ifn (by decide) ?_))))))
  have q : ¬ PF M [116, 119, 105, 110] 4 → wX4_nameAmong_129 post (wX4_nameAmong_25 post 25) M tl 0 7 v3 40 := fun z => ne_0_41 hI hs hp (v3 + 1) 0 (by rw [e3]; exact nx1 3 _) (Or.inr ⟨rfl, z⟩) hn
  refine ifs (fun c => q (fun z => ?_)) (fun c => ifs (fun c2 => q (fun z => ?_)) (fun c2 => And.intro (by decide) (And.intro (by unfold vp_in; decide) ?_)))
  · rcases h4 with y | y
    · rw [y.1] at c; exact absurd c (by decide)
    · exact y.2 (pf_succ.mp z).1
  · have l := (pf_succ.mp z).2.1
    rw [← e3] at l
    exact absurd l (by clear z q hn h4; lia)
  · refine by_c hI (by rw [e3]; have := nI_lt8 (i := 3) (by decide); clear q hn h4 c2; lia) (ifs (fun c3 => ?_) (fun c3 => q (fun z => ?_)))
    · refine ne_0_41 hI hs hp (v3 + 1) 1 (by rw [e3]; exact nx1 3 _) (Or.inl ⟨rfl, pf_succ.mpr ⟨?_, ?_, ?_⟩⟩) hn
      · rcases h4 with y | y
        · exact y.2
        · exact absurd y.1 c
      · rw [← e3]; clear q hn h4; lia
      · rw [← e3]; exact c3.symm
    · have l := (pf_succ.mp z).2.2
      rw [← e3] at l
      exact c3 l.symm
theorem ne_0_39 {post : Int32 → MM → Int64 → Prop} {M : MM} {tl : Int64} (hI : Inv M) (hs : 0 ≤ M 22 7 ∧ M 22 7 ≤ 400) (hp : ∀ (r : Int32), NQ M ws0 r → post r M tl) (v3 v4 : Int32) (e3 : v3 = M 22 7 + nI 2) (h4 : (v4 = 1 ∧ PF M [116, 119, 105, 110] 2) ∨ (v4 = 0 ∧ ¬ PF M [116, 119, 105, 110] 2)) (hn : ∀ j, j < 7 → ¬ IsW M (ws0.getD j [])) : wX4_nameAmong_25 post (26 + 1) M tl 0 7 v3 v4 39 := by
  unfold wX4_nameAmong_25
  refine And.intro (by decide) (ifn (by decide) (And.intro (by decide) (ifn (by decide) (And.intro (by decide) (And.intro (by unfold vp_in; decide) (ifn (by decide) ?_))))))
  have q : ¬ PF M [116, 119, 105, 110] 3 → wX4_nameAmong_129 post (wX4_nameAmong_25 post 26) M tl 0 7 v3 39 := fun z => ne_0_40 hI hs hp (v3 + 1) 0 (by rw [e3]; exact nx1 2 _) (Or.inr ⟨rfl, z⟩) hn
  refine ifs (fun c => q (fun z => ?_)) (fun c => ifs (fun c2 => q (fun z => ?_)) (fun c2 => And.intro (by decide) (And.intro (by unfold vp_in; decide) ?_)))
  · rcases h4 with y | y
    · rw [y.1] at c; exact absurd c (by decide)
    · exact y.2 (pf_succ.mp z).1
  · have l := (pf_succ.mp z).2.1
    rw [← e3] at l
    exact absurd l (by clear z q hn h4; lia)
  · refine by_c hI (by rw [e3]; have := nI_lt8 (i := 2) (by decide); clear q hn h4 c2; lia) (ifs (fun c3 => ?_) (fun c3 => q (fun z => ?_)))
    · refine ne_0_40 hI hs hp (v3 + 1) 1 (by rw [e3]; exact nx1 2 _) (Or.inl ⟨rfl, pf_succ.mpr ⟨?_, ?_, ?_⟩⟩) hn
      · rcases h4 with y | y
        · exact y.2
        · exact absurd y.1 c
      · rw [← e3]; clear q hn h4; lia
      · rw [← e3]; exact c3.symm
    · have l := (pf_succ.mp z).2.2
      rw [← e3] at l
      exact c3 l.symm
theorem ne_0_38 {post : Int32 → MM → Int64 → Prop} {M : MM} {tl : Int64} (hI : Inv M) (hs : 0 ≤ M 22 7 ∧ M 22 7 ≤ 400) (hp : ∀ (r : Int32), NQ M ws0 r → post r M tl) (v3 v4 : Int32) (e3 : v3 = M 22 7 + nI 1) (h4 : (v4 = 1 ∧ PF M [116, 119, 105, 110] 1) ∨ (v4 = 0 ∧ ¬ PF M [116, 119, 105, 110] 1)) (hn : ∀ j, j < 7 → ¬ IsW M (ws0.getD j [])) : wX4_nameAmong_25 post (27 + 1) M tl 0 7 v3 v4 38 := by
  unfold wX4_nameAmong_25
  refine And.intro (by decide) (ifn (by decide) (And.intro (by decide) (ifn (by decide) (And.intro (by decide) (And.intro (by unfold vp_in; decide) (ifn (by decide) ?_))))))
  have q : ¬ PF M [116, 119, 105, 110] 2 → wX4_nameAmong_129 post (wX4_nameAmong_25 post 27) M tl 0 7 v3 38 := fun z => ne_0_39 hI hs hp (v3 + 1) 0 (by rw [e3]; exact nx1 1 _) (Or.inr ⟨rfl, z⟩) hn
  refine ifs (fun c => q (fun z => ?_)) (fun c => ifs (fun c2 => q (fun z => ?_)) (fun c2 => And.intro (by decide) (And.intro (by unfold vp_in; decide) ?_)))
  · rcases h4 with y | y
    · rw [y.1] at c; exact absurd c (by decide)
    · exact y.2 (pf_succ.mp z).1
  · have l := (pf_succ.mp z).2.1
    rw [← e3] at l
    exact absurd l (by clear z q hn h4; lia)
  · refine by_c hI (by rw [e3]; have := nI_lt8 (i := 1) (by decide); clear q hn h4 c2; lia) (ifs (fun c3 => ?_) (fun c3 => q (fun z => ?_)))
    · refine ne_0_39 hI hs hp (v3 + 1) 1 (by rw [e3]; exact nx1 1 _) (Or.inl ⟨rfl, pf_succ.mpr ⟨?_, ?_, ?_⟩⟩) hn
      · rcases h4 with y | y
        · exact y.2
        · exact absurd y.1 c
      · rw [← e3]; clear q hn h4; lia
      · rw [← e3]; exact c3.symm
    · have l := (pf_succ.mp z).2.2
      rw [← e3] at l
      exact c3 l.symm
theorem ne_0_37 {post : Int32 → MM → Int64 → Prop} {M : MM} {tl : Int64} (hI : Inv M) (hs : 0 ≤ M 22 7 ∧ M 22 7 ≤ 400) (hp : ∀ (r : Int32), NQ M ws0 r → post r M tl) (v3 v4 : Int32) (e3 : v3 = M 22 7 + nI 0) (h4 : (v4 = 1 ∧ PF M [116, 119, 105, 110] 0) ∨ (v4 = 0 ∧ ¬ PF M [116, 119, 105, 110] 0)) (hn : ∀ j, j < 7 → ¬ IsW M (ws0.getD j [])) : wX4_nameAmong_25 post (28 + 1) M tl 0 7 v3 v4 37 := by
  unfold wX4_nameAmong_25
  refine And.intro (by decide) (ifn (by decide) (And.intro (by decide) (ifn (by decide) (And.intro (by decide) (And.intro (by unfold vp_in; decide) (ifn (by decide) ?_))))))
  have q : ¬ PF M [116, 119, 105, 110] 1 → wX4_nameAmong_129 post (wX4_nameAmong_25 post 28) M tl 0 7 v3 37 := fun z => ne_0_38 hI hs hp (v3 + 1) 0 (by rw [e3]; exact nx1 0 _) (Or.inr ⟨rfl, z⟩) hn
  refine ifs (fun c => q (fun z => ?_)) (fun c => ifs (fun c2 => q (fun z => ?_)) (fun c2 => And.intro (by decide) (And.intro (by unfold vp_in; decide) ?_)))
  · rcases h4 with y | y
    · rw [y.1] at c; exact absurd c (by decide)
    · exact y.2 (pf_succ.mp z).1
  · have l := (pf_succ.mp z).2.1
    rw [← e3] at l
    exact absurd l (by clear z q hn h4; lia)
  · refine by_c hI (by rw [e3]; have := nI_lt8 (i := 0) (by decide); clear q hn h4 c2; lia) (ifs (fun c3 => ?_) (fun c3 => q (fun z => ?_)))
    · refine ne_0_38 hI hs hp (v3 + 1) 1 (by rw [e3]; exact nx1 0 _) (Or.inl ⟨rfl, pf_succ.mpr ⟨?_, ?_, ?_⟩⟩) hn
      · rcases h4 with y | y
        · exact y.2
        · exact absurd y.1 c
      · rw [← e3]; clear q hn h4; lia
      · rw [← e3]; exact c3.symm
    · have l := (pf_succ.mp z).2.2
      rw [← e3] at l
      exact c3 l.symm
theorem ne_0_36 {post : Int32 → MM → Int64 → Prop} {M : MM} {tl : Int64} (hI : Inv M) (hs : 0 ≤ M 22 7 ∧ M 22 7 ≤ 400) (hp : ∀ (r : Int32), NQ M ws0 r → post r M tl) (v3 v4 : Int32) (e3 : v3 = M 22 7 + nI 4) (h4 : (v4 = 1 ∧ PF M [108, 97, 99, 107] 4) ∨ (v4 = 0 ∧ ¬ PF M [108, 97, 99, 107] 4)) (hn : ∀ j, j < 6 → ¬ IsW M (ws0.getD j [])) : wX4_nameAmong_25 post (29 + 1) M tl 0 6 v3 v4 36 := by
  unfold wX4_nameAmong_25
  refine And.intro (by decide) (ifn (by decide) (And.intro (by decide) (ifn (by decide) (And.intro (by decide) (And.intro (by unfold vp_in; decide) (ifp (by decide) ?_))))))
  unfold wX4_nameAmong_54
  have q : ¬ IsW M [108, 97, 99, 107] → wX4_nameAmong_69 post (wX4_nameAmong_25 post 29) M tl 0 6 36 := by
    intro nz
    have hn2 : ∀ j, j < 7 → ¬ IsW M (ws0.getD j []) := fun j hj => by
      by_cases e : j = 6
      · subst e; exact nz
      · exact hn j (by omega)
    unfold wX4_nameAmong_69
    exact ifs (fun c => ne_0_37 hI hs hp (M 22 7) 1 (nx0 _) (Or.inl ⟨rfl, pf_zero c⟩) hn2) (fun c => ne_0_37 hI hs hp (M 22 7) 0 (nx0 _) (Or.inr ⟨rfl, fun z => c z.1⟩) hn2)
  refine ifs (fun c => q (fun z => ?_)) (fun c => ifs (fun c2 => hp _ (Or.inr ⟨6, (by decide), rfl, ?_⟩)) (fun c2 => q (fun z => ?_)))
  · rcases h4 with y | y
    · rw [y.1] at c; exact absurd c (by decide)
    · exact y.2 (pf_of hs (by decide) z).1
  · rcases h4 with y | y
    · exact isw_of y.2 (e3.symm.trans c2)
    · exact absurd y.1 c
  · exact c2 (e3.trans (pf_of hs (by decide) z).2)
theorem ne_0_35 {post : Int32 → MM → Int64 → Prop} {M : MM} {tl : Int64} (hI : Inv M) (hs : 0 ≤ M 22 7 ∧ M 22 7 ≤ 400) (hp : ∀ (r : Int32), NQ M ws0 r → post r M tl) (v3 v4 : Int32) (e3 : v3 = M 22 7 + nI 3) (h4 : (v4 = 1 ∧ PF M [108, 97, 99, 107] 3) ∨ (v4 = 0 ∧ ¬ PF M [108, 97, 99, 107] 3)) (hn : ∀ j, j < 6 → ¬ IsW M (ws0.getD j [])) : wX4_nameAmong_25 post (30 + 1) M tl 0 6 v3 v4 35 := by
  unfold wX4_nameAmong_25
  refine And.intro (by decide) (ifn (by decide) (And.intro (by decide) (ifn (by decide) (And.intro (by decide) (And.intro (by unfold vp_in; decide) (ifn (by decide) ?_))))))
  have q : ¬ PF M [108, 97, 99, 107] 4 → wX4_nameAmong_129 post (wX4_nameAmong_25 post 30) M tl 0 6 v3 35 := fun z => ne_0_36 hI hs hp (v3 + 1) 0 (by rw [e3]; exact nx1 3 _) (Or.inr ⟨rfl, z⟩) hn
  refine ifs (fun c => q (fun z => ?_)) (fun c => ifs (fun c2 => q (fun z => ?_)) (fun c2 => And.intro (by decide) (And.intro (by unfold vp_in; decide) ?_)))
  · rcases h4 with y | y
    · rw [y.1] at c; exact absurd c (by decide)
    · exact y.2 (pf_succ.mp z).1
  · have l := (pf_succ.mp z).2.1
    rw [← e3] at l
    exact absurd l (by clear z q hn h4; lia)
  · refine by_c hI (by rw [e3]; have := nI_lt8 (i := 3) (by decide); clear q hn h4 c2; lia) (ifs (fun c3 => ?_) (fun c3 => q (fun z => ?_)))
    · refine ne_0_36 hI hs hp (v3 + 1) 1 (by rw [e3]; exact nx1 3 _) (Or.inl ⟨rfl, pf_succ.mpr ⟨?_, ?_, ?_⟩⟩) hn
      · rcases h4 with y | y
        · exact y.2
        · exact absurd y.1 c
      · rw [← e3]; clear q hn h4; lia
      · rw [← e3]; exact c3.symm
    · have l := (pf_succ.mp z).2.2
      rw [← e3] at l
      exact c3 l.symm
theorem ne_0_34 {post : Int32 → MM → Int64 → Prop} {M : MM} {tl : Int64} (hI : Inv M) (hs : 0 ≤ M 22 7 ∧ M 22 7 ≤ 400) (hp : ∀ (r : Int32), NQ M ws0 r → post r M tl) (v3 v4 : Int32) (e3 : v3 = M 22 7 + nI 2) (h4 : (v4 = 1 ∧ PF M [108, 97, 99, 107] 2) ∨ (v4 = 0 ∧ ¬ PF M [108, 97, 99, 107] 2)) (hn : ∀ j, j < 6 → ¬ IsW M (ws0.getD j [])) : wX4_nameAmong_25 post (31 + 1) M tl 0 6 v3 v4 34 := by
  unfold wX4_nameAmong_25
  refine And.intro (by decide) (ifn (by decide) (And.intro (by decide) (ifn (by decide) (And.intro (by decide) (And.intro (by unfold vp_in; decide) (ifn (by decide) ?_))))))
  have q : ¬ PF M [108, 97, 99, 107] 3 → wX4_nameAmong_129 post (wX4_nameAmong_25 post 31) M tl 0 6 v3 34 := fun z => ne_0_35 hI hs hp (v3 + 1) 0 (by rw [e3]; exact nx1 2 _) (Or.inr ⟨rfl, z⟩) hn
  refine ifs (fun c => q (fun z => ?_)) (fun c => ifs (fun c2 => q (fun z => ?_)) (fun c2 => And.intro (by decide) (And.intro (by unfold vp_in; decide) ?_)))
  · rcases h4 with y | y
    · rw [y.1] at c; exact absurd c (by decide)
    · exact y.2 (pf_succ.mp z).1
  · have l := (pf_succ.mp z).2.1
    rw [← e3] at l
    exact absurd l (by clear z q hn h4; lia)
  · refine by_c hI (by rw [e3]; have := nI_lt8 (i := 2) (by decide); clear q hn h4 c2; lia) (ifs (fun c3 => ?_) (fun c3 => q (fun z => ?_)))
    · refine ne_0_35 hI hs hp (v3 + 1) 1 (by rw [e3]; exact nx1 2 _) (Or.inl ⟨rfl, pf_succ.mpr ⟨?_, ?_, ?_⟩⟩) hn
      · rcases h4 with y | y
        · exact y.2
        · exact absurd y.1 c
      · rw [← e3]; clear q hn h4; lia
      · rw [← e3]; exact c3.symm
    · have l := (pf_succ.mp z).2.2
      rw [← e3] at l
      exact c3 l.symm
theorem ne_0_33 {post : Int32 → MM → Int64 → Prop} {M : MM} {tl : Int64} (hI : Inv M) (hs : 0 ≤ M 22 7 ∧ M 22 7 ≤ 400) (hp : ∀ (r : Int32), NQ M ws0 r → post r M tl) (v3 v4 : Int32) (e3 : v3 = M 22 7 + nI 1) (h4 : (v4 = 1 ∧ PF M [108, 97, 99, 107] 1) ∨ (v4 = 0 ∧ ¬ PF M [108, 97, 99, 107] 1)) (hn : ∀ j, j < 6 → ¬ IsW M (ws0.getD j [])) : wX4_nameAmong_25 post (32 + 1) M tl 0 6 v3 v4 33 := by
  unfold wX4_nameAmong_25
  refine And.intro (by decide) (ifn (by decide) (And.intro (by decide) (ifn (by decide) (And.intro (by decide) (And.intro (by unfold vp_in; decide) (ifn (by decide) ?_))))))
  have q : ¬ PF M [108, 97, 99, 107] 2 → wX4_nameAmong_129 post (wX4_nameAmong_25 post 32) M tl 0 6 v3 33 := fun z => ne_0_34 hI hs hp (v3 + 1) 0 (by rw [e3]; exact nx1 1 _) (Or.inr ⟨rfl, z⟩) hn
  refine ifs (fun c => q (fun z => ?_)) (fun c => ifs (fun c2 => q (fun z => ?_)) (fun c2 => And.intro (by decide) (And.intro (by unfold vp_in; decide) ?_)))
  · rcases h4 with y | y
    · rw [y.1] at c; exact absurd c (by decide)
    · exact y.2 (pf_succ.mp z).1
  · have l := (pf_succ.mp z).2.1
    rw [← e3] at l
    exact absurd l (by clear z q hn h4; lia)
  · refine by_c hI (by rw [e3]; have := nI_lt8 (i := 1) (by decide); clear q hn h4 c2; lia) (ifs (fun c3 => ?_) (fun c3 => q (fun z => ?_)))
    · refine ne_0_34 hI hs hp (v3 + 1) 1 (by rw [e3]; exact nx1 1 _) (Or.inl ⟨rfl, pf_succ.mpr ⟨?_, ?_, ?_⟩⟩) hn
      · rcases h4 with y | y
        · exact y.2
        · exact absurd y.1 c
      · rw [← e3]; clear q hn h4; lia
      · rw [← e3]; exact c3.symm
    · have l := (pf_succ.mp z).2.2
      rw [← e3] at l
      exact c3 l.symm
theorem ne_0_32 {post : Int32 → MM → Int64 → Prop} {M : MM} {tl : Int64} (hI : Inv M) (hs : 0 ≤ M 22 7 ∧ M 22 7 ≤ 400) (hp : ∀ (r : Int32), NQ M ws0 r → post r M tl) (v3 v4 : Int32) (e3 : v3 = M 22 7 + nI 0) (h4 : (v4 = 1 ∧ PF M [108, 97, 99, 107] 0) ∨ (v4 = 0 ∧ ¬ PF M [108, 97, 99, 107] 0)) (hn : ∀ j, j < 6 → ¬ IsW M (ws0.getD j [])) : wX4_nameAmong_25 post (33 + 1) M tl 0 6 v3 v4 32 := by
  unfold wX4_nameAmong_25
  refine And.intro (by decide) (ifn (by decide) (And.intro (by decide) (ifn (by decide) (And.intro (by decide) (And.intro (by unfold vp_in; decide) (ifn (by decide) ?_))))))
  have q : ¬ PF M [108, 97, 99, 107] 1 → wX4_nameAmong_129 post (wX4_nameAmong_25 post 33) M tl 0 6 v3 32 := fun z => ne_0_33 hI hs hp (v3 + 1) 0 (by rw [e3]; exact nx1 0 _) (Or.inr ⟨rfl, z⟩) hn
  refine ifs (fun c => q (fun z => ?_)) (fun c => ifs (fun c2 => q (fun z => ?_)) (fun c2 => And.intro (by decide) (And.intro (by unfold vp_in; decide) ?_)))
  · rcases h4 with y | y
    · rw [y.1] at c; exact absurd c (by decide)
    · exact y.2 (pf_succ.mp z).1
  · have l := (pf_succ.mp z).2.1
    rw [← e3] at l
    exact absurd l (by clear z q hn h4; lia)
  · refine by_c hI (by rw [e3]; have := nI_lt8 (i := 0) (by decide); clear q hn h4 c2; lia) (ifs (fun c3 => ?_) (fun c3 => q (fun z => ?_)))
    · refine ne_0_33 hI hs hp (v3 + 1) 1 (by rw [e3]; exact nx1 0 _) (Or.inl ⟨rfl, pf_succ.mpr ⟨?_, ?_, ?_⟩⟩) hn
      · rcases h4 with y | y
        · exact y.2
        · exact absurd y.1 c
      · rw [← e3]; clear q hn h4; lia
      · rw [← e3]; exact c3.symm
    · have l := (pf_succ.mp z).2.2
      rw [← e3] at l
      exact c3 l.symm
theorem ne_0_31 {post : Int32 → MM → Int64 → Prop} {M : MM} {tl : Int64} (hI : Inv M) (hs : 0 ≤ M 22 7 ∧ M 22 7 ≤ 400) (hp : ∀ (r : Int32), NQ M ws0 r → post r M tl) (v3 v4 : Int32) (e3 : v3 = M 22 7 + nI 5) (h4 : (v4 = 1 ∧ PF M [116, 97, 115, 116, 101] 5) ∨ (v4 = 0 ∧ ¬ PF M [116, 97, 115, 116, 101] 5)) (hn : ∀ j, j < 5 → ¬ IsW M (ws0.getD j [])) : wX4_nameAmong_25 post (34 + 1) M tl 0 5 v3 v4 31 := by
  unfold wX4_nameAmong_25
  refine And.intro (by decide) (ifn (by decide) (And.intro (by decide) (ifn (by decide) (And.intro (by decide) (And.intro (by unfold vp_in; decide) (ifp (by decide) ?_))))))
  unfold wX4_nameAmong_54
  have q : ¬ IsW M [116, 97, 115, 116, 101] → wX4_nameAmong_69 post (wX4_nameAmong_25 post 34) M tl 0 5 31 := by
    intro nz
    have hn2 : ∀ j, j < 6 → ¬ IsW M (ws0.getD j []) := fun j hj => by
      by_cases e : j = 5
      · subst e; exact nz
      · exact hn j (by omega)
    unfold wX4_nameAmong_69
    exact ifs (fun c => ne_0_32 hI hs hp (M 22 7) 1 (nx0 _) (Or.inl ⟨rfl, pf_zero c⟩) hn2) (fun c => ne_0_32 hI hs hp (M 22 7) 0 (nx0 _) (Or.inr ⟨rfl, fun z => c z.1⟩) hn2)
  refine ifs (fun c => q (fun z => ?_)) (fun c => ifs (fun c2 => hp _ (Or.inr ⟨5, (by decide), rfl, ?_⟩)) (fun c2 => q (fun z => ?_)))
  · rcases h4 with y | y
    · rw [y.1] at c; exact absurd c (by decide)
    · exact y.2 (pf_of hs (by decide) z).1
  · rcases h4 with y | y
    · exact isw_of y.2 (e3.symm.trans c2)
    · exact absurd y.1 c
  · exact c2 (e3.trans (pf_of hs (by decide) z).2)
theorem ne_0_30 {post : Int32 → MM → Int64 → Prop} {M : MM} {tl : Int64} (hI : Inv M) (hs : 0 ≤ M 22 7 ∧ M 22 7 ≤ 400) (hp : ∀ (r : Int32), NQ M ws0 r → post r M tl) (v3 v4 : Int32) (e3 : v3 = M 22 7 + nI 4) (h4 : (v4 = 1 ∧ PF M [116, 97, 115, 116, 101] 4) ∨ (v4 = 0 ∧ ¬ PF M [116, 97, 115, 116, 101] 4)) (hn : ∀ j, j < 5 → ¬ IsW M (ws0.getD j [])) : wX4_nameAmong_25 post (35 + 1) M tl 0 5 v3 v4 30 := by
  unfold wX4_nameAmong_25
  refine And.intro (by decide) (ifn (by decide) (And.intro (by decide) (ifn (by decide) (And.intro (by decide) (And.intro (by unfold vp_in; decide) (ifn (by decide) ?_))))))
  have q : ¬ PF M [116, 97, 115, 116, 101] 5 → wX4_nameAmong_129 post (wX4_nameAmong_25 post 35) M tl 0 5 v3 30 := fun z => ne_0_31 hI hs hp (v3 + 1) 0 (by rw [e3]; exact nx1 4 _) (Or.inr ⟨rfl, z⟩) hn
  refine ifs (fun c => q (fun z => ?_)) (fun c => ifs (fun c2 => q (fun z => ?_)) (fun c2 => And.intro (by decide) (And.intro (by unfold vp_in; decide) ?_)))
  · rcases h4 with y | y
    · rw [y.1] at c; exact absurd c (by decide)
    · exact y.2 (pf_succ.mp z).1
  · have l := (pf_succ.mp z).2.1
    rw [← e3] at l
    exact absurd l (by clear z q hn h4; lia)
  · refine by_c hI (by rw [e3]; have := nI_lt8 (i := 4) (by decide); clear q hn h4 c2; lia) (ifs (fun c3 => ?_) (fun c3 => q (fun z => ?_)))
    · refine ne_0_31 hI hs hp (v3 + 1) 1 (by rw [e3]; exact nx1 4 _) (Or.inl ⟨rfl, pf_succ.mpr ⟨?_, ?_, ?_⟩⟩) hn
      · rcases h4 with y | y
        · exact y.2
        · exact absurd y.1 c
      · rw [← e3]; clear q hn h4; lia
      · rw [← e3]; exact c3.symm
    · have l := (pf_succ.mp z).2.2
      rw [← e3] at l
      exact c3 l.symm
theorem ne_0_29 {post : Int32 → MM → Int64 → Prop} {M : MM} {tl : Int64} (hI : Inv M) (hs : 0 ≤ M 22 7 ∧ M 22 7 ≤ 400) (hp : ∀ (r : Int32), NQ M ws0 r → post r M tl) (v3 v4 : Int32) (e3 : v3 = M 22 7 + nI 3) (h4 : (v4 = 1 ∧ PF M [116, 97, 115, 116, 101] 3) ∨ (v4 = 0 ∧ ¬ PF M [116, 97, 115, 116, 101] 3)) (hn : ∀ j, j < 5 → ¬ IsW M (ws0.getD j [])) : wX4_nameAmong_25 post (36 + 1) M tl 0 5 v3 v4 29 := by
  unfold wX4_nameAmong_25
  refine And.intro (by decide) (ifn (by decide) (And.intro (by decide) (ifn (by decide) (And.intro (by decide) (And.intro (by unfold vp_in; decide) (ifn (by decide) ?_))))))
  have q : ¬ PF M [116, 97, 115, 116, 101] 4 → wX4_nameAmong_129 post (wX4_nameAmong_25 post 36) M tl 0 5 v3 29 := fun z => ne_0_30 hI hs hp (v3 + 1) 0 (by rw [e3]; exact nx1 3 _) (Or.inr ⟨rfl, z⟩) hn
  refine ifs (fun c => q (fun z => ?_)) (fun c => ifs (fun c2 => q (fun z => ?_)) (fun c2 => And.intro (by decide) (And.intro (by unfold vp_in; decide) ?_)))
  · rcases h4 with y | y
    · rw [y.1] at c; exact absurd c (by decide)
    · exact y.2 (pf_succ.mp z).1
  · have l := (pf_succ.mp z).2.1
    rw [← e3] at l
    exact absurd l (by clear z q hn h4; lia)
  · refine by_c hI (by rw [e3]; have := nI_lt8 (i := 3) (by decide); clear q hn h4 c2; lia) (ifs (fun c3 => ?_) (fun c3 => q (fun z => ?_)))
    · refine ne_0_30 hI hs hp (v3 + 1) 1 (by rw [e3]; exact nx1 3 _) (Or.inl ⟨rfl, pf_succ.mpr ⟨?_, ?_, ?_⟩⟩) hn
      · rcases h4 with y | y
        · exact y.2
        · exact absurd y.1 c
      · rw [← e3]; clear q hn h4; lia
      · rw [← e3]; exact c3.symm
    · have l := (pf_succ.mp z).2.2
      rw [← e3] at l
      exact c3 l.symm
theorem ne_0_28 {post : Int32 → MM → Int64 → Prop} {M : MM} {tl : Int64} (hI : Inv M) (hs : 0 ≤ M 22 7 ∧ M 22 7 ≤ 400) (hp : ∀ (r : Int32), NQ M ws0 r → post r M tl) (v3 v4 : Int32) (e3 : v3 = M 22 7 + nI 2) (h4 : (v4 = 1 ∧ PF M [116, 97, 115, 116, 101] 2) ∨ (v4 = 0 ∧ ¬ PF M [116, 97, 115, 116, 101] 2)) (hn : ∀ j, j < 5 → ¬ IsW M (ws0.getD j [])) : wX4_nameAmong_25 post (37 + 1) M tl 0 5 v3 v4 28 := by
  unfold wX4_nameAmong_25
  refine And.intro (by decide) (ifn (by decide) (And.intro (by decide) (ifn (by decide) (And.intro (by decide) (And.intro (by unfold vp_in; decide) (ifn (by decide) ?_))))))
  have q : ¬ PF M [116, 97, 115, 116, 101] 3 → wX4_nameAmong_129 post (wX4_nameAmong_25 post 37) M tl 0 5 v3 28 := fun z => ne_0_29 hI hs hp (v3 + 1) 0 (by rw [e3]; exact nx1 2 _) (Or.inr ⟨rfl, z⟩) hn
  refine ifs (fun c => q (fun z => ?_)) (fun c => ifs (fun c2 => q (fun z => ?_)) (fun c2 => And.intro (by decide) (And.intro (by unfold vp_in; decide) ?_)))
  · rcases h4 with y | y
    · rw [y.1] at c; exact absurd c (by decide)
    · exact y.2 (pf_succ.mp z).1
  · have l := (pf_succ.mp z).2.1
    rw [← e3] at l
    exact absurd l (by clear z q hn h4; lia)
  · refine by_c hI (by rw [e3]; have := nI_lt8 (i := 2) (by decide); clear q hn h4 c2; lia) (ifs (fun c3 => ?_) (fun c3 => q (fun z => ?_)))
    · refine ne_0_29 hI hs hp (v3 + 1) 1 (by rw [e3]; exact nx1 2 _) (Or.inl ⟨rfl, pf_succ.mpr ⟨?_, ?_, ?_⟩⟩) hn
      · rcases h4 with y | y
        · exact y.2
        · exact absurd y.1 c
      · rw [← e3]; clear q hn h4; lia
      · rw [← e3]; exact c3.symm
    · have l := (pf_succ.mp z).2.2
      rw [← e3] at l
      exact c3 l.symm
theorem ne_0_27 {post : Int32 → MM → Int64 → Prop} {M : MM} {tl : Int64} (hI : Inv M) (hs : 0 ≤ M 22 7 ∧ M 22 7 ≤ 400) (hp : ∀ (r : Int32), NQ M ws0 r → post r M tl) (v3 v4 : Int32) (e3 : v3 = M 22 7 + nI 1) (h4 : (v4 = 1 ∧ PF M [116, 97, 115, 116, 101] 1) ∨ (v4 = 0 ∧ ¬ PF M [116, 97, 115, 116, 101] 1)) (hn : ∀ j, j < 5 → ¬ IsW M (ws0.getD j [])) : wX4_nameAmong_25 post (38 + 1) M tl 0 5 v3 v4 27 := by
  unfold wX4_nameAmong_25
  refine And.intro (by decide) (ifn (by decide) (And.intro (by decide) (ifn (by decide) (And.intro (by decide) (And.intro (by unfold vp_in; decide) (ifn (by decide) ?_))))))
  have q : ¬ PF M [116, 97, 115, 116, 101] 2 → wX4_nameAmong_129 post (wX4_nameAmong_25 post 38) M tl 0 5 v3 27 := fun z => ne_0_28 hI hs hp (v3 + 1) 0 (by rw [e3]; exact nx1 1 _) (Or.inr ⟨rfl, z⟩) hn
  refine ifs (fun c => q (fun z => ?_)) (fun c => ifs (fun c2 => q (fun z => ?_)) (fun c2 => And.intro (by decide) (And.intro (by unfold vp_in; decide) ?_)))
  · rcases h4 with y | y
    · rw [y.1] at c; exact absurd c (by decide)
    · exact y.2 (pf_succ.mp z).1
  · have l := (pf_succ.mp z).2.1
    rw [← e3] at l
    exact absurd l (by clear z q hn h4; lia)
  · refine by_c hI (by rw [e3]; have := nI_lt8 (i := 1) (by decide); clear q hn h4 c2; lia) (ifs (fun c3 => ?_) (fun c3 => q (fun z => ?_)))
    · refine ne_0_28 hI hs hp (v3 + 1) 1 (by rw [e3]; exact nx1 1 _) (Or.inl ⟨rfl, pf_succ.mpr ⟨?_, ?_, ?_⟩⟩) hn
      · rcases h4 with y | y
        · exact y.2
        · exact absurd y.1 c
      · rw [← e3]; clear q hn h4; lia
      · rw [← e3]; exact c3.symm
    · have l := (pf_succ.mp z).2.2
      rw [← e3] at l
      exact c3 l.symm
theorem ne_0_26 {post : Int32 → MM → Int64 → Prop} {M : MM} {tl : Int64} (hI : Inv M) (hs : 0 ≤ M 22 7 ∧ M 22 7 ≤ 400) (hp : ∀ (r : Int32), NQ M ws0 r → post r M tl) (v3 v4 : Int32) (e3 : v3 = M 22 7 + nI 0) (h4 : (v4 = 1 ∧ PF M [116, 97, 115, 116, 101] 0) ∨ (v4 = 0 ∧ ¬ PF M [116, 97, 115, 116, 101] 0)) (hn : ∀ j, j < 5 → ¬ IsW M (ws0.getD j [])) : wX4_nameAmong_25 post (39 + 1) M tl 0 5 v3 v4 26 := by
  unfold wX4_nameAmong_25
  refine And.intro (by decide) (ifn (by decide) (And.intro (by decide) (ifn (by decide) (And.intro (by decide) (And.intro (by unfold vp_in; decide) (ifn (by decide) ?_))))))
  have q : ¬ PF M [116, 97, 115, 116, 101] 1 → wX4_nameAmong_129 post (wX4_nameAmong_25 post 39) M tl 0 5 v3 26 := fun z => ne_0_27 hI hs hp (v3 + 1) 0 (by rw [e3]; exact nx1 0 _) (Or.inr ⟨rfl, z⟩) hn
  refine ifs (fun c => q (fun z => ?_)) (fun c => ifs (fun c2 => q (fun z => ?_)) (fun c2 => And.intro (by decide) (And.intro (by unfold vp_in; decide) ?_)))
  · rcases h4 with y | y
    · rw [y.1] at c; exact absurd c (by decide)
    · exact y.2 (pf_succ.mp z).1
  · have l := (pf_succ.mp z).2.1
    rw [← e3] at l
    exact absurd l (by clear z q hn h4; lia)
  · refine by_c hI (by rw [e3]; have := nI_lt8 (i := 0) (by decide); clear q hn h4 c2; lia) (ifs (fun c3 => ?_) (fun c3 => q (fun z => ?_)))
    · refine ne_0_27 hI hs hp (v3 + 1) 1 (by rw [e3]; exact nx1 0 _) (Or.inl ⟨rfl, pf_succ.mpr ⟨?_, ?_, ?_⟩⟩) hn
      · rcases h4 with y | y
        · exact y.2
        · exact absurd y.1 c
      · rw [← e3]; clear q hn h4; lia
      · rw [← e3]; exact c3.symm
    · have l := (pf_succ.mp z).2.2
      rw [← e3] at l
      exact c3 l.symm
theorem ne_0_25 {post : Int32 → MM → Int64 → Prop} {M : MM} {tl : Int64} (hI : Inv M) (hs : 0 ≤ M 22 7 ∧ M 22 7 ≤ 400) (hp : ∀ (r : Int32), NQ M ws0 r → post r M tl) (v3 v4 : Int32) (e3 : v3 = M 22 7 + nI 4) (h4 : (v4 = 1 ∧ PF M [99, 111, 115, 116] 4) ∨ (v4 = 0 ∧ ¬ PF M [99, 111, 115, 116] 4)) (hn : ∀ j, j < 4 → ¬ IsW M (ws0.getD j [])) : wX4_nameAmong_25 post (40 + 1) M tl 0 4 v3 v4 25 := by
  unfold wX4_nameAmong_25
  refine And.intro (by decide) (ifn (by decide) (And.intro (by decide) (ifn (by decide) (And.intro (by decide) (And.intro (by unfold vp_in; decide) (ifp (by decide) ?_))))))
  unfold wX4_nameAmong_54
  have q : ¬ IsW M [99, 111, 115, 116] → wX4_nameAmong_69 post (wX4_nameAmong_25 post 40) M tl 0 4 25 := by
    intro nz
    have hn2 : ∀ j, j < 5 → ¬ IsW M (ws0.getD j []) := fun j hj => by
      by_cases e : j = 4
      · subst e; exact nz
      · exact hn j (by omega)
    unfold wX4_nameAmong_69
    exact ifs (fun c => ne_0_26 hI hs hp (M 22 7) 1 (nx0 _) (Or.inl ⟨rfl, pf_zero c⟩) hn2) (fun c => ne_0_26 hI hs hp (M 22 7) 0 (nx0 _) (Or.inr ⟨rfl, fun z => c z.1⟩) hn2)
  refine ifs (fun c => q (fun z => ?_)) (fun c => ifs (fun c2 => hp _ (Or.inr ⟨4, (by decide), rfl, ?_⟩)) (fun c2 => q (fun z => ?_)))
  · rcases h4 with y | y
    · rw [y.1] at c; exact absurd c (by decide)
    · exact y.2 (pf_of hs (by decide) z).1
  · rcases h4 with y | y
    · exact isw_of y.2 (e3.symm.trans c2)
    · exact absurd y.1 c
  · exact c2 (e3.trans (pf_of hs (by decide) z).2)
theorem ne_0_24 {post : Int32 → MM → Int64 → Prop} {M : MM} {tl : Int64} (hI : Inv M) (hs : 0 ≤ M 22 7 ∧ M 22 7 ≤ 400) (hp : ∀ (r : Int32), NQ M ws0 r → post r M tl) (v3 v4 : Int32) (e3 : v3 = M 22 7 + nI 3) (h4 : (v4 = 1 ∧ PF M [99, 111, 115, 116] 3) ∨ (v4 = 0 ∧ ¬ PF M [99, 111, 115, 116] 3)) (hn : ∀ j, j < 4 → ¬ IsW M (ws0.getD j [])) : wX4_nameAmong_25 post (41 + 1) M tl 0 4 v3 v4 24 := by
  unfold wX4_nameAmong_25
  refine And.intro (by decide) (ifn (by decide) (And.intro (by decide) (ifn (by decide) (And.intro (by decide) (And.intro (by unfold vp_in; decide) (ifn (by decide) ?_))))))
  have q : ¬ PF M [99, 111, 115, 116] 4 → wX4_nameAmong_129 post (wX4_nameAmong_25 post 41) M tl 0 4 v3 24 := fun z => ne_0_25 hI hs hp (v3 + 1) 0 (by rw [e3]; exact nx1 3 _) (Or.inr ⟨rfl, z⟩) hn
  refine ifs (fun c => q (fun z => ?_)) (fun c => ifs (fun c2 => q (fun z => ?_)) (fun c2 => And.intro (by decide) (And.intro (by unfold vp_in; decide) ?_)))
  · rcases h4 with y | y
    · rw [y.1] at c; exact absurd c (by decide)
    · exact y.2 (pf_succ.mp z).1
  · have l := (pf_succ.mp z).2.1
    rw [← e3] at l
    exact absurd l (by clear z q hn h4; lia)
  · refine by_c hI (by rw [e3]; have := nI_lt8 (i := 3) (by decide); clear q hn h4 c2; lia) (ifs (fun c3 => ?_) (fun c3 => q (fun z => ?_)))
    · refine ne_0_25 hI hs hp (v3 + 1) 1 (by rw [e3]; exact nx1 3 _) (Or.inl ⟨rfl, pf_succ.mpr ⟨?_, ?_, ?_⟩⟩) hn
      · rcases h4 with y | y
        · exact y.2
        · exact absurd y.1 c
      · rw [← e3]; clear q hn h4; lia
      · rw [← e3]; exact c3.symm
    · have l := (pf_succ.mp z).2.2
      rw [← e3] at l
      exact c3 l.symm
theorem ne_0_23 {post : Int32 → MM → Int64 → Prop} {M : MM} {tl : Int64} (hI : Inv M) (hs : 0 ≤ M 22 7 ∧ M 22 7 ≤ 400) (hp : ∀ (r : Int32), NQ M ws0 r → post r M tl) (v3 v4 : Int32) (e3 : v3 = M 22 7 + nI 2) (h4 : (v4 = 1 ∧ PF M [99, 111, 115, 116] 2) ∨ (v4 = 0 ∧ ¬ PF M [99, 111, 115, 116] 2)) (hn : ∀ j, j < 4 → ¬ IsW M (ws0.getD j [])) : wX4_nameAmong_25 post (42 + 1) M tl 0 4 v3 v4 23 := by
  unfold wX4_nameAmong_25
  refine And.intro (by decide) (ifn (by decide) (And.intro (by decide) (ifn (by decide) (And.intro (by decide) (And.intro (by unfold vp_in; decide) (ifn (by decide) ?_))))))
  have q : ¬ PF M [99, 111, 115, 116] 3 → wX4_nameAmong_129 post (wX4_nameAmong_25 post 42) M tl 0 4 v3 23 := fun z => ne_0_24 hI hs hp (v3 + 1) 0 (by rw [e3]; exact nx1 2 _) (Or.inr ⟨rfl, z⟩) hn
  refine ifs (fun c => q (fun z => ?_)) (fun c => ifs (fun c2 => q (fun z => ?_)) (fun c2 => And.intro (by decide) (And.intro (by unfold vp_in; decide) ?_)))
  · rcases h4 with y | y
    · rw [y.1] at c; exact absurd c (by decide)
    · exact y.2 (pf_succ.mp z).1
  · have l := (pf_succ.mp z).2.1
    rw [← e3] at l
    exact absurd l (by clear z q hn h4; lia)
  · refine by_c hI (by rw [e3]; have := nI_lt8 (i := 2) (by decide); clear q hn h4 c2; lia) (ifs (fun c3 => ?_) (fun c3 => q (fun z => ?_)))
    · refine ne_0_24 hI hs hp (v3 + 1) 1 (by rw [e3]; exact nx1 2 _) (Or.inl ⟨rfl, pf_succ.mpr ⟨?_, ?_, ?_⟩⟩) hn
      · rcases h4 with y | y
        · exact y.2
        · exact absurd y.1 c
      · rw [← e3]; clear q hn h4; lia
      · rw [← e3]; exact c3.symm
    · have l := (pf_succ.mp z).2.2
      rw [← e3] at l
      exact c3 l.symm
theorem ne_0_22 {post : Int32 → MM → Int64 → Prop} {M : MM} {tl : Int64} (hI : Inv M) (hs : 0 ≤ M 22 7 ∧ M 22 7 ≤ 400) (hp : ∀ (r : Int32), NQ M ws0 r → post r M tl) (v3 v4 : Int32) (e3 : v3 = M 22 7 + nI 1) (h4 : (v4 = 1 ∧ PF M [99, 111, 115, 116] 1) ∨ (v4 = 0 ∧ ¬ PF M [99, 111, 115, 116] 1)) (hn : ∀ j, j < 4 → ¬ IsW M (ws0.getD j [])) : wX4_nameAmong_25 post (43 + 1) M tl 0 4 v3 v4 22 := by
  unfold wX4_nameAmong_25
  refine And.intro (by decide) (ifn (by decide) (And.intro (by decide) (ifn (by decide) (And.intro (by decide) (And.intro (by unfold vp_in; decide) (ifn (by decide) ?_))))))
  have q : ¬ PF M [99, 111, 115, 116] 2 → wX4_nameAmong_129 post (wX4_nameAmong_25 post 43) M tl 0 4 v3 22 := fun z => ne_0_23 hI hs hp (v3 + 1) 0 (by rw [e3]; exact nx1 1 _) (Or.inr ⟨rfl, z⟩) hn
  refine ifs (fun c => q (fun z => ?_)) (fun c => ifs (fun c2 => q (fun z => ?_)) (fun c2 => And.intro (by decide) (And.intro (by unfold vp_in; decide) ?_)))
  · rcases h4 with y | y
    · rw [y.1] at c; exact absurd c (by decide)
    · exact y.2 (pf_succ.mp z).1
  · have l := (pf_succ.mp z).2.1
    rw [← e3] at l
    exact absurd l (by clear z q hn h4; lia)
  · refine by_c hI (by rw [e3]; have := nI_lt8 (i := 1) (by decide); clear q hn h4 c2; lia) (ifs (fun c3 => ?_) (fun c3 => q (fun z => ?_)))
    · refine ne_0_23 hI hs hp (v3 + 1) 1 (by rw [e3]; exact nx1 1 _) (Or.inl ⟨rfl, pf_succ.mpr ⟨?_, ?_, ?_⟩⟩) hn
      · rcases h4 with y | y
        · exact y.2
        · exact absurd y.1 c
      · rw [← e3]; clear q hn h4; lia
      · rw [← e3]; exact c3.symm
    · have l := (pf_succ.mp z).2.2
      rw [← e3] at l
      exact c3 l.symm
theorem ne_0_21 {post : Int32 → MM → Int64 → Prop} {M : MM} {tl : Int64} (hI : Inv M) (hs : 0 ≤ M 22 7 ∧ M 22 7 ≤ 400) (hp : ∀ (r : Int32), NQ M ws0 r → post r M tl) (v3 v4 : Int32) (e3 : v3 = M 22 7 + nI 0) (h4 : (v4 = 1 ∧ PF M [99, 111, 115, 116] 0) ∨ (v4 = 0 ∧ ¬ PF M [99, 111, 115, 116] 0)) (hn : ∀ j, j < 4 → ¬ IsW M (ws0.getD j [])) : wX4_nameAmong_25 post (44 + 1) M tl 0 4 v3 v4 21 := by
  unfold wX4_nameAmong_25
  refine And.intro (by decide) (ifn (by decide) (And.intro (by decide) (ifn (by decide) (And.intro (by decide) (And.intro (by unfold vp_in; decide) (ifn (by decide) ?_))))))
  have q : ¬ PF M [99, 111, 115, 116] 1 → wX4_nameAmong_129 post (wX4_nameAmong_25 post 44) M tl 0 4 v3 21 := fun z => ne_0_22 hI hs hp (v3 + 1) 0 (by rw [e3]; exact nx1 0 _) (Or.inr ⟨rfl, z⟩) hn
  refine ifs (fun c => q (fun z => ?_)) (fun c => ifs (fun c2 => q (fun z => ?_)) (fun c2 => And.intro (by decide) (And.intro (by unfold vp_in; decide) ?_)))
  · rcases h4 with y | y
    · rw [y.1] at c; exact absurd c (by decide)
    · exact y.2 (pf_succ.mp z).1
  · have l := (pf_succ.mp z).2.1
    rw [← e3] at l
    exact absurd l (by clear z q hn h4; lia)
  · refine by_c hI (by rw [e3]; have := nI_lt8 (i := 0) (by decide); clear q hn h4 c2; lia) (ifs (fun c3 => ?_) (fun c3 => q (fun z => ?_)))
    · refine ne_0_22 hI hs hp (v3 + 1) 1 (by rw [e3]; exact nx1 0 _) (Or.inl ⟨rfl, pf_succ.mpr ⟨?_, ?_, ?_⟩⟩) hn
      · rcases h4 with y | y
        · exact y.2
        · exact absurd y.1 c
      · rw [← e3]; clear q hn h4; lia
      · rw [← e3]; exact c3.symm
    · have l := (pf_succ.mp z).2.2
      rw [← e3] at l
      exact c3 l.symm
theorem ne_0_20 {post : Int32 → MM → Int64 → Prop} {M : MM} {tl : Int64} (hI : Inv M) (hs : 0 ≤ M 22 7 ∧ M 22 7 ≤ 400) (hp : ∀ (r : Int32), NQ M ws0 r → post r M tl) (v3 v4 : Int32) (e3 : v3 = M 22 7 + nI 5) (h4 : (v4 = 1 ∧ PF M [112, 114, 105, 99, 101] 5) ∨ (v4 = 0 ∧ ¬ PF M [112, 114, 105, 99, 101] 5)) (hn : ∀ j, j < 3 → ¬ IsW M (ws0.getD j [])) : wX4_nameAmong_25 post (45 + 1) M tl 0 3 v3 v4 20 := by
  unfold wX4_nameAmong_25
  refine And.intro (by decide) (ifn (by decide) (And.intro (by decide) (ifn (by decide) (And.intro (by decide) (And.intro (by unfold vp_in; decide) (ifp (by decide) ?_))))))
  unfold wX4_nameAmong_54
  have q : ¬ IsW M [112, 114, 105, 99, 101] → wX4_nameAmong_69 post (wX4_nameAmong_25 post 45) M tl 0 3 20 := by
    intro nz
    have hn2 : ∀ j, j < 4 → ¬ IsW M (ws0.getD j []) := fun j hj => by
      by_cases e : j = 3
      · subst e; exact nz
      · exact hn j (by omega)
    unfold wX4_nameAmong_69
    exact ifs (fun c => ne_0_21 hI hs hp (M 22 7) 1 (nx0 _) (Or.inl ⟨rfl, pf_zero c⟩) hn2) (fun c => ne_0_21 hI hs hp (M 22 7) 0 (nx0 _) (Or.inr ⟨rfl, fun z => c z.1⟩) hn2)
  refine ifs (fun c => q (fun z => ?_)) (fun c => ifs (fun c2 => hp _ (Or.inr ⟨3, (by decide), rfl, ?_⟩)) (fun c2 => q (fun z => ?_)))
  · rcases h4 with y | y
    · rw [y.1] at c; exact absurd c (by decide)
    · exact y.2 (pf_of hs (by decide) z).1
  · rcases h4 with y | y
    · exact isw_of y.2 (e3.symm.trans c2)
    · exact absurd y.1 c
  · exact c2 (e3.trans (pf_of hs (by decide) z).2)
theorem ne_0_19 {post : Int32 → MM → Int64 → Prop} {M : MM} {tl : Int64} (hI : Inv M) (hs : 0 ≤ M 22 7 ∧ M 22 7 ≤ 400) (hp : ∀ (r : Int32), NQ M ws0 r → post r M tl) (v3 v4 : Int32) (e3 : v3 = M 22 7 + nI 4) (h4 : (v4 = 1 ∧ PF M [112, 114, 105, 99, 101] 4) ∨ (v4 = 0 ∧ ¬ PF M [112, 114, 105, 99, 101] 4)) (hn : ∀ j, j < 3 → ¬ IsW M (ws0.getD j [])) : wX4_nameAmong_25 post (46 + 1) M tl 0 3 v3 v4 19 := by
  unfold wX4_nameAmong_25
  refine And.intro (by decide) (ifn (by decide) (And.intro (by decide) (ifn (by decide) (And.intro (by decide) (And.intro (by unfold vp_in; decide) (ifn (by decide) ?_))))))
  have q : ¬ PF M [112, 114, 105, 99, 101] 5 → wX4_nameAmong_129 post (wX4_nameAmong_25 post 46) M tl 0 3 v3 19 := fun z => ne_0_20 hI hs hp (v3 + 1) 0 (by rw [e3]; exact nx1 4 _) (Or.inr ⟨rfl, z⟩) hn
  refine ifs (fun c => q (fun z => ?_)) (fun c => ifs (fun c2 => q (fun z => ?_)) (fun c2 => And.intro (by decide) (And.intro (by unfold vp_in; decide) ?_)))
  · rcases h4 with y | y
    · rw [y.1] at c; exact absurd c (by decide)
    · exact y.2 (pf_succ.mp z).1
  · have l := (pf_succ.mp z).2.1
    rw [← e3] at l
    exact absurd l (by clear z q hn h4; lia)
  · refine by_c hI (by rw [e3]; have := nI_lt8 (i := 4) (by decide); clear q hn h4 c2; lia) (ifs (fun c3 => ?_) (fun c3 => q (fun z => ?_)))
    · refine ne_0_20 hI hs hp (v3 + 1) 1 (by rw [e3]; exact nx1 4 _) (Or.inl ⟨rfl, pf_succ.mpr ⟨?_, ?_, ?_⟩⟩) hn
      · rcases h4 with y | y
        · exact y.2
        · exact absurd y.1 c
      · rw [← e3]; clear q hn h4; lia
      · rw [← e3]; exact c3.symm
    · have l := (pf_succ.mp z).2.2
      rw [← e3] at l
      exact c3 l.symm
theorem ne_0_18 {post : Int32 → MM → Int64 → Prop} {M : MM} {tl : Int64} (hI : Inv M) (hs : 0 ≤ M 22 7 ∧ M 22 7 ≤ 400) (hp : ∀ (r : Int32), NQ M ws0 r → post r M tl) (v3 v4 : Int32) (e3 : v3 = M 22 7 + nI 3) (h4 : (v4 = 1 ∧ PF M [112, 114, 105, 99, 101] 3) ∨ (v4 = 0 ∧ ¬ PF M [112, 114, 105, 99, 101] 3)) (hn : ∀ j, j < 3 → ¬ IsW M (ws0.getD j [])) : wX4_nameAmong_25 post (47 + 1) M tl 0 3 v3 v4 18 := by
  unfold wX4_nameAmong_25
  refine And.intro (by decide) (ifn (by decide) (And.intro (by decide) (ifn (by decide) (And.intro (by decide) (And.intro (by unfold vp_in; decide) (ifn (by decide) ?_))))))
  have q : ¬ PF M [112, 114, 105, 99, 101] 4 → wX4_nameAmong_129 post (wX4_nameAmong_25 post 47) M tl 0 3 v3 18 := fun z => ne_0_19 hI hs hp (v3 + 1) 0 (by rw [e3]; exact nx1 3 _) (Or.inr ⟨rfl, z⟩) hn
  refine ifs (fun c => q (fun z => ?_)) (fun c => ifs (fun c2 => q (fun z => ?_)) (fun c2 => And.intro (by decide) (And.intro (by unfold vp_in; decide) ?_)))
  · rcases h4 with y | y
    · rw [y.1] at c; exact absurd c (by decide)
    · exact y.2 (pf_succ.mp z).1
  · have l := (pf_succ.mp z).2.1
    rw [← e3] at l
    exact absurd l (by clear z q hn h4; lia)
  · refine by_c hI (by rw [e3]; have := nI_lt8 (i := 3) (by decide); clear q hn h4 c2; lia) (ifs (fun c3 => ?_) (fun c3 => q (fun z => ?_)))
    · refine ne_0_19 hI hs hp (v3 + 1) 1 (by rw [e3]; exact nx1 3 _) (Or.inl ⟨rfl, pf_succ.mpr ⟨?_, ?_, ?_⟩⟩) hn
      · rcases h4 with y | y
        · exact y.2
        · exact absurd y.1 c
      · rw [← e3]; clear q hn h4; lia
      · rw [← e3]; exact c3.symm
    · have l := (pf_succ.mp z).2.2
      rw [← e3] at l
      exact c3 l.symm
theorem ne_0_17 {post : Int32 → MM → Int64 → Prop} {M : MM} {tl : Int64} (hI : Inv M) (hs : 0 ≤ M 22 7 ∧ M 22 7 ≤ 400) (hp : ∀ (r : Int32), NQ M ws0 r → post r M tl) (v3 v4 : Int32) (e3 : v3 = M 22 7 + nI 2) (h4 : (v4 = 1 ∧ PF M [112, 114, 105, 99, 101] 2) ∨ (v4 = 0 ∧ ¬ PF M [112, 114, 105, 99, 101] 2)) (hn : ∀ j, j < 3 → ¬ IsW M (ws0.getD j [])) : wX4_nameAmong_25 post (48 + 1) M tl 0 3 v3 v4 17 := by
  unfold wX4_nameAmong_25
  refine And.intro (by decide) (ifn (by decide) (And.intro (by decide) (ifn (by decide) (And.intro (by decide) (And.intro (by unfold vp_in; decide) (ifn (by decide) ?_))))))
  have q : ¬ PF M [112, 114, 105, 99, 101] 3 → wX4_nameAmong_129 post (wX4_nameAmong_25 post 48) M tl 0 3 v3 17 := fun z => ne_0_18 hI hs hp (v3 + 1) 0 (by rw [e3]; exact nx1 2 _) (Or.inr ⟨rfl, z⟩) hn
  refine ifs (fun c => q (fun z => ?_)) (fun c => ifs (fun c2 => q (fun z => ?_)) (fun c2 => And.intro (by decide) (And.intro (by unfold vp_in; decide) ?_)))
  · rcases h4 with y | y
    · rw [y.1] at c; exact absurd c (by decide)
    · exact y.2 (pf_succ.mp z).1
  · have l := (pf_succ.mp z).2.1
    rw [← e3] at l
    exact absurd l (by clear z q hn h4; lia)
  · refine by_c hI (by rw [e3]; have := nI_lt8 (i := 2) (by decide); clear q hn h4 c2; lia) (ifs (fun c3 => ?_) (fun c3 => q (fun z => ?_)))
    · refine ne_0_18 hI hs hp (v3 + 1) 1 (by rw [e3]; exact nx1 2 _) (Or.inl ⟨rfl, pf_succ.mpr ⟨?_, ?_, ?_⟩⟩) hn
      · rcases h4 with y | y
        · exact y.2
        · exact absurd y.1 c
      · rw [← e3]; clear q hn h4; lia
      · rw [← e3]; exact c3.symm
    · have l := (pf_succ.mp z).2.2
      rw [← e3] at l
      exact c3 l.symm
theorem ne_0_16 {post : Int32 → MM → Int64 → Prop} {M : MM} {tl : Int64} (hI : Inv M) (hs : 0 ≤ M 22 7 ∧ M 22 7 ≤ 400) (hp : ∀ (r : Int32), NQ M ws0 r → post r M tl) (v3 v4 : Int32) (e3 : v3 = M 22 7 + nI 1) (h4 : (v4 = 1 ∧ PF M [112, 114, 105, 99, 101] 1) ∨ (v4 = 0 ∧ ¬ PF M [112, 114, 105, 99, 101] 1)) (hn : ∀ j, j < 3 → ¬ IsW M (ws0.getD j [])) : wX4_nameAmong_25 post (49 + 1) M tl 0 3 v3 v4 16 := by
  unfold wX4_nameAmong_25
  refine And.intro (by decide) (ifn (by decide) (And.intro (by decide) (ifn (by decide) (And.intro (by decide) (And.intro (by unfold vp_in; decide) (ifn (by decide) ?_))))))
  have q : ¬ PF M [112, 114, 105, 99, 101] 2 → wX4_nameAmong_129 post (wX4_nameAmong_25 post 49) M tl 0 3 v3 16 := fun z => ne_0_17 hI hs hp (v3 + 1) 0 (by rw [e3]; exact nx1 1 _) (Or.inr ⟨rfl, z⟩) hn
  refine ifs (fun c => q (fun z => ?_)) (fun c => ifs (fun c2 => q (fun z => ?_)) (fun c2 => And.intro (by decide) (And.intro (by unfold vp_in; decide) ?_)))
  · rcases h4 with y | y
    · rw [y.1] at c; exact absurd c (by decide)
    · exact y.2 (pf_succ.mp z).1
  · have l := (pf_succ.mp z).2.1
    rw [← e3] at l
    exact absurd l (by clear z q hn h4; lia)
  · refine by_c hI (by rw [e3]; have := nI_lt8 (i := 1) (by decide); clear q hn h4 c2; lia) (ifs (fun c3 => ?_) (fun c3 => q (fun z => ?_)))
    · refine ne_0_17 hI hs hp (v3 + 1) 1 (by rw [e3]; exact nx1 1 _) (Or.inl ⟨rfl, pf_succ.mpr ⟨?_, ?_, ?_⟩⟩) hn
      · rcases h4 with y | y
        · exact y.2
        · exact absurd y.1 c
      · rw [← e3]; clear q hn h4; lia
      · rw [← e3]; exact c3.symm
    · have l := (pf_succ.mp z).2.2
      rw [← e3] at l
      exact c3 l.symm
theorem ne_0_15 {post : Int32 → MM → Int64 → Prop} {M : MM} {tl : Int64} (hI : Inv M) (hs : 0 ≤ M 22 7 ∧ M 22 7 ≤ 400) (hp : ∀ (r : Int32), NQ M ws0 r → post r M tl) (v3 v4 : Int32) (e3 : v3 = M 22 7 + nI 0) (h4 : (v4 = 1 ∧ PF M [112, 114, 105, 99, 101] 0) ∨ (v4 = 0 ∧ ¬ PF M [112, 114, 105, 99, 101] 0)) (hn : ∀ j, j < 3 → ¬ IsW M (ws0.getD j [])) : wX4_nameAmong_25 post (50 + 1) M tl 0 3 v3 v4 15 := by
  unfold wX4_nameAmong_25
  refine And.intro (by decide) (ifn (by decide) (And.intro (by decide) (ifn (by decide) (And.intro (by decide) (And.intro (by unfold vp_in; decide) (ifn (by decide) ?_))))))
  have q : ¬ PF M [112, 114, 105, 99, 101] 1 → wX4_nameAmong_129 post (wX4_nameAmong_25 post 50) M tl 0 3 v3 15 := fun z => ne_0_16 hI hs hp (v3 + 1) 0 (by rw [e3]; exact nx1 0 _) (Or.inr ⟨rfl, z⟩) hn
  refine ifs (fun c => q (fun z => ?_)) (fun c => ifs (fun c2 => q (fun z => ?_)) (fun c2 => And.intro (by decide) (And.intro (by unfold vp_in; decide) ?_)))
  · rcases h4 with y | y
    · rw [y.1] at c; exact absurd c (by decide)
    · exact y.2 (pf_succ.mp z).1
  · have l := (pf_succ.mp z).2.1
    rw [← e3] at l
    exact absurd l (by clear z q hn h4; lia)
  · refine by_c hI (by rw [e3]; have := nI_lt8 (i := 0) (by decide); clear q hn h4 c2; lia) (ifs (fun c3 => ?_) (fun c3 => q (fun z => ?_)))
    · refine ne_0_16 hI hs hp (v3 + 1) 1 (by rw [e3]; exact nx1 0 _) (Or.inl ⟨rfl, pf_succ.mpr ⟨?_, ?_, ?_⟩⟩) hn
      · rcases h4 with y | y
        · exact y.2
        · exact absurd y.1 c
      · rw [← e3]; clear q hn h4; lia
      · rw [← e3]; exact c3.symm
    · have l := (pf_succ.mp z).2.2
      rw [← e3] at l
      exact c3 l.symm
theorem ne_0_14 {post : Int32 → MM → Int64 → Prop} {M : MM} {tl : Int64} (hI : Inv M) (hs : 0 ≤ M 22 7 ∧ M 22 7 ≤ 400) (hp : ∀ (r : Int32), NQ M ws0 r → post r M tl) (v3 v4 : Int32) (e3 : v3 = M 22 7 + nI 4) (h4 : (v4 = 1 ∧ PF M [112, 117, 108, 108] 4) ∨ (v4 = 0 ∧ ¬ PF M [112, 117, 108, 108] 4)) (hn : ∀ j, j < 2 → ¬ IsW M (ws0.getD j [])) : wX4_nameAmong_25 post (51 + 1) M tl 0 2 v3 v4 14 := by
  unfold wX4_nameAmong_25
  refine And.intro (by decide) (ifn (by decide) (And.intro (by decide) (ifn (by decide) (And.intro (by decide) (And.intro (by unfold vp_in; decide) (ifp (by decide) ?_))))))
  unfold wX4_nameAmong_54
  have q : ¬ IsW M [112, 117, 108, 108] → wX4_nameAmong_69 post (wX4_nameAmong_25 post 51) M tl 0 2 14 := by
    intro nz
    have hn2 : ∀ j, j < 3 → ¬ IsW M (ws0.getD j []) := fun j hj => by
      by_cases e : j = 2
      · subst e; exact nz
      · exact hn j (by omega)
    unfold wX4_nameAmong_69
    exact ifs (fun c => ne_0_15 hI hs hp (M 22 7) 1 (nx0 _) (Or.inl ⟨rfl, pf_zero c⟩) hn2) (fun c => ne_0_15 hI hs hp (M 22 7) 0 (nx0 _) (Or.inr ⟨rfl, fun z => c z.1⟩) hn2)
  refine ifs (fun c => q (fun z => ?_)) (fun c => ifs (fun c2 => hp _ (Or.inr ⟨2, (by decide), rfl, ?_⟩)) (fun c2 => q (fun z => ?_)))
  · rcases h4 with y | y
    · rw [y.1] at c; exact absurd c (by decide)
    · exact y.2 (pf_of hs (by decide) z).1
  · rcases h4 with y | y
    · exact isw_of y.2 (e3.symm.trans c2)
    · exact absurd y.1 c
  · exact c2 (e3.trans (pf_of hs (by decide) z).2)
theorem ne_0_13 {post : Int32 → MM → Int64 → Prop} {M : MM} {tl : Int64} (hI : Inv M) (hs : 0 ≤ M 22 7 ∧ M 22 7 ≤ 400) (hp : ∀ (r : Int32), NQ M ws0 r → post r M tl) (v3 v4 : Int32) (e3 : v3 = M 22 7 + nI 3) (h4 : (v4 = 1 ∧ PF M [112, 117, 108, 108] 3) ∨ (v4 = 0 ∧ ¬ PF M [112, 117, 108, 108] 3)) (hn : ∀ j, j < 2 → ¬ IsW M (ws0.getD j [])) : wX4_nameAmong_25 post (52 + 1) M tl 0 2 v3 v4 13 := by
  unfold wX4_nameAmong_25
  refine And.intro (by decide) (ifn (by decide) (And.intro (by decide) (ifn (by decide) (And.intro (by decide) (And.intro (by unfold vp_in; decide) (ifn (by decide) ?_))))))
  have q : ¬ PF M [112, 117, 108, 108] 4 → wX4_nameAmong_129 post (wX4_nameAmong_25 post 52) M tl 0 2 v3 13 := fun z => ne_0_14 hI hs hp (v3 + 1) 0 (by rw [e3]; exact nx1 3 _) (Or.inr ⟨rfl, z⟩) hn
  refine ifs (fun c => q (fun z => ?_)) (fun c => ifs (fun c2 => q (fun z => ?_)) (fun c2 => And.intro (by decide) (And.intro (by unfold vp_in; decide) ?_)))
  · rcases h4 with y | y
    · rw [y.1] at c; exact absurd c (by decide)
    · exact y.2 (pf_succ.mp z).1
  · have l := (pf_succ.mp z).2.1
    rw [← e3] at l
    exact absurd l (by clear z q hn h4; lia)
  · refine by_c hI (by rw [e3]; have := nI_lt8 (i := 3) (by decide); clear q hn h4 c2; lia) (ifs (fun c3 => ?_) (fun c3 => q (fun z => ?_)))
    · refine ne_0_14 hI hs hp (v3 + 1) 1 (by rw [e3]; exact nx1 3 _) (Or.inl ⟨rfl, pf_succ.mpr ⟨?_, ?_, ?_⟩⟩) hn
      · rcases h4 with y | y
        · exact y.2
        · exact absurd y.1 c
      · rw [← e3]; clear q hn h4; lia
      · rw [← e3]; exact c3.symm
    · have l := (pf_succ.mp z).2.2
      rw [← e3] at l
      exact c3 l.symm
theorem ne_0_12 {post : Int32 → MM → Int64 → Prop} {M : MM} {tl : Int64} (hI : Inv M) (hs : 0 ≤ M 22 7 ∧ M 22 7 ≤ 400) (hp : ∀ (r : Int32), NQ M ws0 r → post r M tl) (v3 v4 : Int32) (e3 : v3 = M 22 7 + nI 2) (h4 : (v4 = 1 ∧ PF M [112, 117, 108, 108] 2) ∨ (v4 = 0 ∧ ¬ PF M [112, 117, 108, 108] 2)) (hn : ∀ j, j < 2 → ¬ IsW M (ws0.getD j [])) : wX4_nameAmong_25 post (53 + 1) M tl 0 2 v3 v4 12 := by
  unfold wX4_nameAmong_25
  refine And.intro (by decide) (ifn (by decide) (And.intro (by decide) (ifn (by decide) (And.intro (by decide) (And.intro (by unfold vp_in; decide) (ifn (by decide) ?_))))))
  have q : ¬ PF M [112, 117, 108, 108] 3 → wX4_nameAmong_129 post (wX4_nameAmong_25 post 53) M tl 0 2 v3 12 := fun z => ne_0_13 hI hs hp (v3 + 1) 0 (by rw [e3]; exact nx1 2 _) (Or.inr ⟨rfl, z⟩) hn
  refine ifs (fun c => q (fun z => ?_)) (fun c => ifs (fun c2 => q (fun z => ?_)) (fun c2 => And.intro (by decide) (And.intro (by unfold vp_in; decide) ?_)))
  · rcases h4 with y | y
    · rw [y.1] at c; exact absurd c (by decide)
    · exact y.2 (pf_succ.mp z).1
  · have l := (pf_succ.mp z).2.1
    rw [← e3] at l
    exact absurd l (by clear z q hn h4; lia)
  · refine by_c hI (by rw [e3]; have := nI_lt8 (i := 2) (by decide); clear q hn h4 c2; lia) (ifs (fun c3 => ?_) (fun c3 => q (fun z => ?_)))
    · refine ne_0_13 hI hs hp (v3 + 1) 1 (by rw [e3]; exact nx1 2 _) (Or.inl ⟨rfl, pf_succ.mpr ⟨?_, ?_, ?_⟩⟩) hn
      · rcases h4 with y | y
        · exact y.2
        · exact absurd y.1 c
      · rw [← e3]; clear q hn h4; lia
      · rw [← e3]; exact c3.symm
    · have l := (pf_succ.mp z).2.2
      rw [← e3] at l
      exact c3 l.symm
theorem ne_0_11 {post : Int32 → MM → Int64 → Prop} {M : MM} {tl : Int64} (hI : Inv M) (hs : 0 ≤ M 22 7 ∧ M 22 7 ≤ 400) (hp : ∀ (r : Int32), NQ M ws0 r → post r M tl) (v3 v4 : Int32) (e3 : v3 = M 22 7 + nI 1) (h4 : (v4 = 1 ∧ PF M [112, 117, 108, 108] 1) ∨ (v4 = 0 ∧ ¬ PF M [112, 117, 108, 108] 1)) (hn : ∀ j, j < 2 → ¬ IsW M (ws0.getD j [])) : wX4_nameAmong_25 post (54 + 1) M tl 0 2 v3 v4 11 := by
  unfold wX4_nameAmong_25
  refine And.intro (by decide) (ifn (by decide) (And.intro (by decide) (ifn (by decide) (And.intro (by decide) (And.intro (by unfold vp_in; decide) (ifn (by decide) ?_))))))
  have q : ¬ PF M [112, 117, 108, 108] 2 → wX4_nameAmong_129 post (wX4_nameAmong_25 post 54) M tl 0 2 v3 11 := fun z => ne_0_12 hI hs hp (v3 + 1) 0 (by rw [e3]; exact nx1 1 _) (Or.inr ⟨rfl, z⟩) hn
  refine ifs (fun c => q (fun z => ?_)) (fun c => ifs (fun c2 => q (fun z => ?_)) (fun c2 => And.intro (by decide) (And.intro (by unfold vp_in; decide) ?_)))
  · rcases h4 with y | y
    · rw [y.1] at c; exact absurd c (by decide)
    · exact y.2 (pf_succ.mp z).1
  · have l := (pf_succ.mp z).2.1
    rw [← e3] at l
    exact absurd l (by clear z q hn h4; lia)
  · refine by_c hI (by rw [e3]; have := nI_lt8 (i := 1) (by decide); clear q hn h4 c2; lia) (ifs (fun c3 => ?_) (fun c3 => q (fun z => ?_)))
    · refine ne_0_12 hI hs hp (v3 + 1) 1 (by rw [e3]; exact nx1 1 _) (Or.inl ⟨rfl, pf_succ.mpr ⟨?_, ?_, ?_⟩⟩) hn
      · rcases h4 with y | y
        · exact y.2
        · exact absurd y.1 c
      · rw [← e3]; clear q hn h4; lia
      · rw [← e3]; exact c3.symm
    · have l := (pf_succ.mp z).2.2
      rw [← e3] at l
      exact c3 l.symm
theorem ne_0_10 {post : Int32 → MM → Int64 → Prop} {M : MM} {tl : Int64} (hI : Inv M) (hs : 0 ≤ M 22 7 ∧ M 22 7 ≤ 400) (hp : ∀ (r : Int32), NQ M ws0 r → post r M tl) (v3 v4 : Int32) (e3 : v3 = M 22 7 + nI 0) (h4 : (v4 = 1 ∧ PF M [112, 117, 108, 108] 0) ∨ (v4 = 0 ∧ ¬ PF M [112, 117, 108, 108] 0)) (hn : ∀ j, j < 2 → ¬ IsW M (ws0.getD j [])) : wX4_nameAmong_25 post (55 + 1) M tl 0 2 v3 v4 10 := by
  unfold wX4_nameAmong_25
  refine And.intro (by decide) (ifn (by decide) (And.intro (by decide) (ifn (by decide) (And.intro (by decide) (And.intro (by unfold vp_in; decide) (ifn (by decide) ?_))))))
  have q : ¬ PF M [112, 117, 108, 108] 1 → wX4_nameAmong_129 post (wX4_nameAmong_25 post 55) M tl 0 2 v3 10 := fun z => ne_0_11 hI hs hp (v3 + 1) 0 (by rw [e3]; exact nx1 0 _) (Or.inr ⟨rfl, z⟩) hn
  refine ifs (fun c => q (fun z => ?_)) (fun c => ifs (fun c2 => q (fun z => ?_)) (fun c2 => And.intro (by decide) (And.intro (by unfold vp_in; decide) ?_)))
  · rcases h4 with y | y
    · rw [y.1] at c; exact absurd c (by decide)
    · exact y.2 (pf_succ.mp z).1
  · have l := (pf_succ.mp z).2.1
    rw [← e3] at l
    exact absurd l (by clear z q hn h4; lia)
  · refine by_c hI (by rw [e3]; have := nI_lt8 (i := 0) (by decide); clear q hn h4 c2; lia) (ifs (fun c3 => ?_) (fun c3 => q (fun z => ?_)))
    · refine ne_0_11 hI hs hp (v3 + 1) 1 (by rw [e3]; exact nx1 0 _) (Or.inl ⟨rfl, pf_succ.mpr ⟨?_, ?_, ?_⟩⟩) hn
      · rcases h4 with y | y
        · exact y.2
        · exact absurd y.1 c
      · rw [← e3]; clear q hn h4; lia
      · rw [← e3]; exact c3.symm
    · have l := (pf_succ.mp z).2.2
      rw [← e3] at l
      exact c3 l.symm
theorem ne_0_9 {post : Int32 → MM → Int64 → Prop} {M : MM} {tl : Int64} (hI : Inv M) (hs : 0 ≤ M 22 7 ∧ M 22 7 ≤ 400) (hp : ∀ (r : Int32), NQ M ws0 r → post r M tl) (v3 v4 : Int32) (e3 : v3 = M 22 7 + nI 4) (h4 : (v4 = 1 ∧ PF M [98, 101, 110, 100] 4) ∨ (v4 = 0 ∧ ¬ PF M [98, 101, 110, 100] 4)) (hn : ∀ j, j < 1 → ¬ IsW M (ws0.getD j [])) : wX4_nameAmong_25 post (56 + 1) M tl 0 1 v3 v4 9 := by
  unfold wX4_nameAmong_25
  refine And.intro (by decide) (ifn (by decide) (And.intro (by decide) (ifn (by decide) (And.intro (by decide) (And.intro (by unfold vp_in; decide) (ifp (by decide) ?_))))))
  unfold wX4_nameAmong_54
  have q : ¬ IsW M [98, 101, 110, 100] → wX4_nameAmong_69 post (wX4_nameAmong_25 post 56) M tl 0 1 9 := by
    intro nz
    have hn2 : ∀ j, j < 2 → ¬ IsW M (ws0.getD j []) := fun j hj => by
      by_cases e : j = 1
      · subst e; exact nz
      · exact hn j (by omega)
    unfold wX4_nameAmong_69
    exact ifs (fun c => ne_0_10 hI hs hp (M 22 7) 1 (nx0 _) (Or.inl ⟨rfl, pf_zero c⟩) hn2) (fun c => ne_0_10 hI hs hp (M 22 7) 0 (nx0 _) (Or.inr ⟨rfl, fun z => c z.1⟩) hn2)
  refine ifs (fun c => q (fun z => ?_)) (fun c => ifs (fun c2 => hp _ (Or.inr ⟨1, (by decide), rfl, ?_⟩)) (fun c2 => q (fun z => ?_)))
  · rcases h4 with y | y
    · rw [y.1] at c; exact absurd c (by decide)
    · exact y.2 (pf_of hs (by decide) z).1
  · rcases h4 with y | y
    · exact isw_of y.2 (e3.symm.trans c2)
    · exact absurd y.1 c
  · exact c2 (e3.trans (pf_of hs (by decide) z).2)
theorem ne_0_8 {post : Int32 → MM → Int64 → Prop} {M : MM} {tl : Int64} (hI : Inv M) (hs : 0 ≤ M 22 7 ∧ M 22 7 ≤ 400) (hp : ∀ (r : Int32), NQ M ws0 r → post r M tl) (v3 v4 : Int32) (e3 : v3 = M 22 7 + nI 3) (h4 : (v4 = 1 ∧ PF M [98, 101, 110, 100] 3) ∨ (v4 = 0 ∧ ¬ PF M [98, 101, 110, 100] 3)) (hn : ∀ j, j < 1 → ¬ IsW M (ws0.getD j [])) : wX4_nameAmong_25 post (57 + 1) M tl 0 1 v3 v4 8 := by
  unfold wX4_nameAmong_25
  refine And.intro (by decide) (ifn (by decide) (And.intro (by decide) (ifn (by decide) (And.intro (by decide) (And.intro (by unfold vp_in; decide) (ifn (by decide) ?_))))))
  have q : ¬ PF M [98, 101, 110, 100] 4 → wX4_nameAmong_129 post (wX4_nameAmong_25 post 57) M tl 0 1 v3 8 := fun z => ne_0_9 hI hs hp (v3 + 1) 0 (by rw [e3]; exact nx1 3 _) (Or.inr ⟨rfl, z⟩) hn
  refine ifs (fun c => q (fun z => ?_)) (fun c => ifs (fun c2 => q (fun z => ?_)) (fun c2 => And.intro (by decide) (And.intro (by unfold vp_in; decide) ?_)))
  · rcases h4 with y | y
    · rw [y.1] at c; exact absurd c (by decide)
    · exact y.2 (pf_succ.mp z).1
  · have l := (pf_succ.mp z).2.1
    rw [← e3] at l
    exact absurd l (by clear z q hn h4; lia)
  · refine by_c hI (by rw [e3]; have := nI_lt8 (i := 3) (by decide); clear q hn h4 c2; lia) (ifs (fun c3 => ?_) (fun c3 => q (fun z => ?_)))
    · refine ne_0_9 hI hs hp (v3 + 1) 1 (by rw [e3]; exact nx1 3 _) (Or.inl ⟨rfl, pf_succ.mpr ⟨?_, ?_, ?_⟩⟩) hn
      · rcases h4 with y | y
        · exact y.2
        · exact absurd y.1 c
      · rw [← e3]; clear q hn h4; lia
      · rw [← e3]; exact c3.symm
    · have l := (pf_succ.mp z).2.2
      rw [← e3] at l
      exact c3 l.symm
theorem ne_0_7 {post : Int32 → MM → Int64 → Prop} {M : MM} {tl : Int64} (hI : Inv M) (hs : 0 ≤ M 22 7 ∧ M 22 7 ≤ 400) (hp : ∀ (r : Int32), NQ M ws0 r → post r M tl) (v3 v4 : Int32) (e3 : v3 = M 22 7 + nI 2) (h4 : (v4 = 1 ∧ PF M [98, 101, 110, 100] 2) ∨ (v4 = 0 ∧ ¬ PF M [98, 101, 110, 100] 2)) (hn : ∀ j, j < 1 → ¬ IsW M (ws0.getD j [])) : wX4_nameAmong_25 post (58 + 1) M tl 0 1 v3 v4 7 := by
  unfold wX4_nameAmong_25
  refine And.intro (by decide) (ifn (by decide) (And.intro (by decide) (ifn (by decide) (And.intro (by decide) (And.intro (by unfold vp_in; decide) (ifn (by decide) ?_))))))
  have q : ¬ PF M [98, 101, 110, 100] 3 → wX4_nameAmong_129 post (wX4_nameAmong_25 post 58) M tl 0 1 v3 7 := fun z => ne_0_8 hI hs hp (v3 + 1) 0 (by rw [e3]; exact nx1 2 _) (Or.inr ⟨rfl, z⟩) hn
  refine ifs (fun c => q (fun z => ?_)) (fun c => ifs (fun c2 => q (fun z => ?_)) (fun c2 => And.intro (by decide) (And.intro (by unfold vp_in; decide) ?_)))
  · rcases h4 with y | y
    · rw [y.1] at c; exact absurd c (by decide)
    · exact y.2 (pf_succ.mp z).1
  · have l := (pf_succ.mp z).2.1
    rw [← e3] at l
    exact absurd l (by clear z q hn h4; lia)
  · refine by_c hI (by rw [e3]; have := nI_lt8 (i := 2) (by decide); clear q hn h4 c2; lia) (ifs (fun c3 => ?_) (fun c3 => q (fun z => ?_)))
    · refine ne_0_8 hI hs hp (v3 + 1) 1 (by rw [e3]; exact nx1 2 _) (Or.inl ⟨rfl, pf_succ.mpr ⟨?_, ?_, ?_⟩⟩) hn
      · rcases h4 with y | y
        · exact y.2
        · exact absurd y.1 c
      · rw [← e3]; clear q hn h4; lia
      · rw [← e3]; exact c3.symm
    · have l := (pf_succ.mp z).2.2
      rw [← e3] at l
      exact c3 l.symm
theorem ne_0_6 {post : Int32 → MM → Int64 → Prop} {M : MM} {tl : Int64} (hI : Inv M) (hs : 0 ≤ M 22 7 ∧ M 22 7 ≤ 400) (hp : ∀ (r : Int32), NQ M ws0 r → post r M tl) (v3 v4 : Int32) (e3 : v3 = M 22 7 + nI 1) (h4 : (v4 = 1 ∧ PF M [98, 101, 110, 100] 1) ∨ (v4 = 0 ∧ ¬ PF M [98, 101, 110, 100] 1)) (hn : ∀ j, j < 1 → ¬ IsW M (ws0.getD j [])) : wX4_nameAmong_25 post (59 + 1) M tl 0 1 v3 v4 6 := by
  unfold wX4_nameAmong_25
  refine And.intro (by decide) (ifn (by decide) (And.intro (by decide) (ifn (by decide) (And.intro (by decide) (And.intro (by unfold vp_in; decide) (ifn (by decide) ?_))))))
  have q : ¬ PF M [98, 101, 110, 100] 2 → wX4_nameAmong_129 post (wX4_nameAmong_25 post 59) M tl 0 1 v3 6 := fun z => ne_0_7 hI hs hp (v3 + 1) 0 (by rw [e3]; exact nx1 1 _) (Or.inr ⟨rfl, z⟩) hn
  refine ifs (fun c => q (fun z => ?_)) (fun c => ifs (fun c2 => q (fun z => ?_)) (fun c2 => And.intro (by decide) (And.intro (by unfold vp_in; decide) ?_)))
  · rcases h4 with y | y
    · rw [y.1] at c; exact absurd c (by decide)
    · exact y.2 (pf_succ.mp z).1
  · have l := (pf_succ.mp z).2.1
    rw [← e3] at l
    exact absurd l (by clear z q hn h4; lia)
  · refine by_c hI (by rw [e3]; have := nI_lt8 (i := 1) (by decide); clear q hn h4 c2; lia) (ifs (fun c3 => ?_) (fun c3 => q (fun z => ?_)))
    · refine ne_0_7 hI hs hp (v3 + 1) 1 (by rw [e3]; exact nx1 1 _) (Or.inl ⟨rfl, pf_succ.mpr ⟨?_, ?_, ?_⟩⟩) hn
      · rcases h4 with y | y
        · exact y.2
        · exact absurd y.1 c
      · rw [← e3]; clear q hn h4; lia
      · rw [← e3]; exact c3.symm
    · have l := (pf_succ.mp z).2.2
      rw [← e3] at l
      exact c3 l.symm
theorem ne_0_5 {post : Int32 → MM → Int64 → Prop} {M : MM} {tl : Int64} (hI : Inv M) (hs : 0 ≤ M 22 7 ∧ M 22 7 ≤ 400) (hp : ∀ (r : Int32), NQ M ws0 r → post r M tl) (v3 v4 : Int32) (e3 : v3 = M 22 7 + nI 0) (h4 : (v4 = 1 ∧ PF M [98, 101, 110, 100] 0) ∨ (v4 = 0 ∧ ¬ PF M [98, 101, 110, 100] 0)) (hn : ∀ j, j < 1 → ¬ IsW M (ws0.getD j [])) : wX4_nameAmong_25 post (60 + 1) M tl 0 1 v3 v4 5 := by
  unfold wX4_nameAmong_25
  refine And.intro (by decide) (ifn (by decide) (And.intro (by decide) (ifn (by decide) (And.intro (by decide) (And.intro (by unfold vp_in; decide) (ifn (by decide) ?_))))))
  have q : ¬ PF M [98, 101, 110, 100] 1 → wX4_nameAmong_129 post (wX4_nameAmong_25 post 60) M tl 0 1 v3 5 := fun z => ne_0_6 hI hs hp (v3 + 1) 0 (by rw [e3]; exact nx1 0 _) (Or.inr ⟨rfl, z⟩) hn
  refine ifs (fun c => q (fun z => ?_)) (fun c => ifs (fun c2 => q (fun z => ?_)) (fun c2 => And.intro (by decide) (And.intro (by unfold vp_in; decide) ?_)))
  · rcases h4 with y | y
    · rw [y.1] at c; exact absurd c (by decide)
    · exact y.2 (pf_succ.mp z).1
  · have l := (pf_succ.mp z).2.1
    rw [← e3] at l
    exact absurd l (by clear z q hn h4; lia)
  · refine by_c hI (by rw [e3]; have := nI_lt8 (i := 0) (by decide); clear q hn h4 c2; lia) (ifs (fun c3 => ?_) (fun c3 => q (fun z => ?_)))
    · refine ne_0_6 hI hs hp (v3 + 1) 1 (by rw [e3]; exact nx1 0 _) (Or.inl ⟨rfl, pf_succ.mpr ⟨?_, ?_, ?_⟩⟩) hn
      · rcases h4 with y | y
        · exact y.2
        · exact absurd y.1 c
      · rw [← e3]; clear q hn h4; lia
      · rw [← e3]; exact c3.symm
    · have l := (pf_succ.mp z).2.2
      rw [← e3] at l
      exact c3 l.symm
theorem ne_0_4 {post : Int32 → MM → Int64 → Prop} {M : MM} {tl : Int64} (hI : Inv M) (hs : 0 ≤ M 22 7 ∧ M 22 7 ≤ 400) (hp : ∀ (r : Int32), NQ M ws0 r → post r M tl) (v3 v4 : Int32) (e3 : v3 = M 22 7 + nI 4) (h4 : (v4 = 1 ∧ PF M [108, 111, 116, 115] 4) ∨ (v4 = 0 ∧ ¬ PF M [108, 111, 116, 115] 4)) (hn : ∀ j, j < 0 → ¬ IsW M (ws0.getD j [])) : wX4_nameAmong_25 post (61 + 1) M tl 0 0 v3 v4 4 := by
  unfold wX4_nameAmong_25
  refine And.intro (by decide) (ifn (by decide) (And.intro (by decide) (ifn (by decide) (And.intro (by decide) (And.intro (by unfold vp_in; decide) (ifp (by decide) ?_))))))
  unfold wX4_nameAmong_54
  have q : ¬ IsW M [108, 111, 116, 115] → wX4_nameAmong_69 post (wX4_nameAmong_25 post 61) M tl 0 0 4 := by
    intro nz
    have hn2 : ∀ j, j < 1 → ¬ IsW M (ws0.getD j []) := fun j hj => by
      by_cases e : j = 0
      · subst e; exact nz
      · exact hn j (by omega)
    unfold wX4_nameAmong_69
    exact ifs (fun c => ne_0_5 hI hs hp (M 22 7) 1 (nx0 _) (Or.inl ⟨rfl, pf_zero c⟩) hn2) (fun c => ne_0_5 hI hs hp (M 22 7) 0 (nx0 _) (Or.inr ⟨rfl, fun z => c z.1⟩) hn2)
  refine ifs (fun c => q (fun z => ?_)) (fun c => ifs (fun c2 => hp _ (Or.inr ⟨0, (by decide), rfl, ?_⟩)) (fun c2 => q (fun z => ?_)))
  · rcases h4 with y | y
    · rw [y.1] at c; exact absurd c (by decide)
    · exact y.2 (pf_of hs (by decide) z).1
  · rcases h4 with y | y
    · exact isw_of y.2 (e3.symm.trans c2)
    · exact absurd y.1 c
  · exact c2 (e3.trans (pf_of hs (by decide) z).2)
theorem ne_0_3 {post : Int32 → MM → Int64 → Prop} {M : MM} {tl : Int64} (hI : Inv M) (hs : 0 ≤ M 22 7 ∧ M 22 7 ≤ 400) (hp : ∀ (r : Int32), NQ M ws0 r → post r M tl) (v3 v4 : Int32) (e3 : v3 = M 22 7 + nI 3) (h4 : (v4 = 1 ∧ PF M [108, 111, 116, 115] 3) ∨ (v4 = 0 ∧ ¬ PF M [108, 111, 116, 115] 3)) (hn : ∀ j, j < 0 → ¬ IsW M (ws0.getD j [])) : wX4_nameAmong_25 post (62 + 1) M tl 0 0 v3 v4 3 := by
  unfold wX4_nameAmong_25
  refine And.intro (by decide) (ifn (by decide) (And.intro (by decide) (ifn (by decide) (And.intro (by decide) (And.intro (by unfold vp_in; decide) (ifn (by decide) ?_))))))
  have q : ¬ PF M [108, 111, 116, 115] 4 → wX4_nameAmong_129 post (wX4_nameAmong_25 post 62) M tl 0 0 v3 3 := fun z => ne_0_4 hI hs hp (v3 + 1) 0 (by rw [e3]; exact nx1 3 _) (Or.inr ⟨rfl, z⟩) hn
  refine ifs (fun c => q (fun z => ?_)) (fun c => ifs (fun c2 => q (fun z => ?_)) (fun c2 => And.intro (by decide) (And.intro (by unfold vp_in; decide) ?_)))
  · rcases h4 with y | y
    · rw [y.1] at c; exact absurd c (by decide)
    · exact y.2 (pf_succ.mp z).1
  · have l := (pf_succ.mp z).2.1
    rw [← e3] at l
    exact absurd l (by clear z q hn h4; lia)
  · refine by_c hI (by rw [e3]; have := nI_lt8 (i := 3) (by decide); clear q hn h4 c2; lia) (ifs (fun c3 => ?_) (fun c3 => q (fun z => ?_)))
    · refine ne_0_4 hI hs hp (v3 + 1) 1 (by rw [e3]; exact nx1 3 _) (Or.inl ⟨rfl, pf_succ.mpr ⟨?_, ?_, ?_⟩⟩) hn
      · rcases h4 with y | y
        · exact y.2
        · exact absurd y.1 c
      · rw [← e3]; clear q hn h4; lia
      · rw [← e3]; exact c3.symm
    · have l := (pf_succ.mp z).2.2
      rw [← e3] at l
      exact c3 l.symm
theorem ne_0_2 {post : Int32 → MM → Int64 → Prop} {M : MM} {tl : Int64} (hI : Inv M) (hs : 0 ≤ M 22 7 ∧ M 22 7 ≤ 400) (hp : ∀ (r : Int32), NQ M ws0 r → post r M tl) (v3 v4 : Int32) (e3 : v3 = M 22 7 + nI 2) (h4 : (v4 = 1 ∧ PF M [108, 111, 116, 115] 2) ∨ (v4 = 0 ∧ ¬ PF M [108, 111, 116, 115] 2)) (hn : ∀ j, j < 0 → ¬ IsW M (ws0.getD j [])) : wX4_nameAmong_25 post (63 + 1) M tl 0 0 v3 v4 2 := by
  unfold wX4_nameAmong_25
  refine And.intro (by decide) (ifn (by decide) (And.intro (by decide) (ifn (by decide) (And.intro (by decide) (And.intro (by unfold vp_in; decide) (ifn (by decide) ?_))))))
  have q : ¬ PF M [108, 111, 116, 115] 3 → wX4_nameAmong_129 post (wX4_nameAmong_25 post 63) M tl 0 0 v3 2 := fun z => ne_0_3 hI hs hp (v3 + 1) 0 (by rw [e3]; exact nx1 2 _) (Or.inr ⟨rfl, z⟩) hn
  refine ifs (fun c => q (fun z => ?_)) (fun c => ifs (fun c2 => q (fun z => ?_)) (fun c2 => And.intro (by decide) (And.intro (by unfold vp_in; decide) ?_)))
  · rcases h4 with y | y
    · rw [y.1] at c; exact absurd c (by decide)
    · exact y.2 (pf_succ.mp z).1
  · have l := (pf_succ.mp z).2.1
    rw [← e3] at l
    exact absurd l (by clear z q hn h4; lia)
  · refine by_c hI (by rw [e3]; have := nI_lt8 (i := 2) (by decide); clear q hn h4 c2; lia) (ifs (fun c3 => ?_) (fun c3 => q (fun z => ?_)))
    · refine ne_0_3 hI hs hp (v3 + 1) 1 (by rw [e3]; exact nx1 2 _) (Or.inl ⟨rfl, pf_succ.mpr ⟨?_, ?_, ?_⟩⟩) hn
      · rcases h4 with y | y
        · exact y.2
        · exact absurd y.1 c
      · rw [← e3]; clear q hn h4; lia
      · rw [← e3]; exact c3.symm
    · have l := (pf_succ.mp z).2.2
      rw [← e3] at l
      exact c3 l.symm
theorem ne_0_1 {post : Int32 → MM → Int64 → Prop} {M : MM} {tl : Int64} (hI : Inv M) (hs : 0 ≤ M 22 7 ∧ M 22 7 ≤ 400) (hp : ∀ (r : Int32), NQ M ws0 r → post r M tl) (v3 v4 : Int32) (e3 : v3 = M 22 7 + nI 1) (h4 : (v4 = 1 ∧ PF M [108, 111, 116, 115] 1) ∨ (v4 = 0 ∧ ¬ PF M [108, 111, 116, 115] 1)) (hn : ∀ j, j < 0 → ¬ IsW M (ws0.getD j [])) : wX4_nameAmong_25 post (64 + 1) M tl 0 0 v3 v4 1 := by
  unfold wX4_nameAmong_25
  refine And.intro (by decide) (ifn (by decide) (And.intro (by decide) (ifn (by decide) (And.intro (by decide) (And.intro (by unfold vp_in; decide) (ifn (by decide) ?_))))))
  have q : ¬ PF M [108, 111, 116, 115] 2 → wX4_nameAmong_129 post (wX4_nameAmong_25 post 64) M tl 0 0 v3 1 := fun z => ne_0_2 hI hs hp (v3 + 1) 0 (by rw [e3]; exact nx1 1 _) (Or.inr ⟨rfl, z⟩) hn
  refine ifs (fun c => q (fun z => ?_)) (fun c => ifs (fun c2 => q (fun z => ?_)) (fun c2 => And.intro (by decide) (And.intro (by unfold vp_in; decide) ?_)))
  · rcases h4 with y | y
    · rw [y.1] at c; exact absurd c (by decide)
    · exact y.2 (pf_succ.mp z).1
  · have l := (pf_succ.mp z).2.1
    rw [← e3] at l
    exact absurd l (by clear z q hn h4; lia)
  · refine by_c hI (by rw [e3]; have := nI_lt8 (i := 1) (by decide); clear q hn h4 c2; lia) (ifs (fun c3 => ?_) (fun c3 => q (fun z => ?_)))
    · refine ne_0_2 hI hs hp (v3 + 1) 1 (by rw [e3]; exact nx1 1 _) (Or.inl ⟨rfl, pf_succ.mpr ⟨?_, ?_, ?_⟩⟩) hn
      · rcases h4 with y | y
        · exact y.2
        · exact absurd y.1 c
      · rw [← e3]; clear q hn h4; lia
      · rw [← e3]; exact c3.symm
    · have l := (pf_succ.mp z).2.2
      rw [← e3] at l
      exact c3 l.symm
theorem ne_0_0 {post : Int32 → MM → Int64 → Prop} {M : MM} {tl : Int64} (hI : Inv M) (hs : 0 ≤ M 22 7 ∧ M 22 7 ≤ 400) (hp : ∀ (r : Int32), NQ M ws0 r → post r M tl) (v3 v4 : Int32) (e3 : v3 = M 22 7 + nI 0) (h4 : (v4 = 1 ∧ PF M [108, 111, 116, 115] 0) ∨ (v4 = 0 ∧ ¬ PF M [108, 111, 116, 115] 0)) (hn : ∀ j, j < 0 → ¬ IsW M (ws0.getD j [])) : wX4_nameAmong_25 post (65 + 1) M tl 0 0 v3 v4 0 := by
  unfold wX4_nameAmong_25
  refine And.intro (by decide) (ifn (by decide) (And.intro (by decide) (ifn (by decide) (And.intro (by decide) (And.intro (by unfold vp_in; decide) (ifn (by decide) ?_))))))
  have q : ¬ PF M [108, 111, 116, 115] 1 → wX4_nameAmong_129 post (wX4_nameAmong_25 post 65) M tl 0 0 v3 0 := fun z => ne_0_1 hI hs hp (v3 + 1) 0 (by rw [e3]; exact nx1 0 _) (Or.inr ⟨rfl, z⟩) hn
  refine ifs (fun c => q (fun z => ?_)) (fun c => ifs (fun c2 => q (fun z => ?_)) (fun c2 => And.intro (by decide) (And.intro (by unfold vp_in; decide) ?_)))
  · rcases h4 with y | y
    · rw [y.1] at c; exact absurd c (by decide)
    · exact y.2 (pf_succ.mp z).1
  · have l := (pf_succ.mp z).2.1
    rw [← e3] at l
    exact absurd l (by clear z q hn h4; lia)
  · refine by_c hI (by rw [e3]; have := nI_lt8 (i := 0) (by decide); clear q hn h4 c2; lia) (ifs (fun c3 => ?_) (fun c3 => q (fun z => ?_)))
    · refine ne_0_1 hI hs hp (v3 + 1) 1 (by rw [e3]; exact nx1 0 _) (Or.inl ⟨rfl, pf_succ.mpr ⟨?_, ?_, ?_⟩⟩) hn
      · rcases h4 with y | y
        · exact y.2
        · exact absurd y.1 c
      · rw [← e3]; clear q hn h4; lia
      · rw [← e3]; exact c3.symm
    · have l := (pf_succ.mp z).2.2
      rw [← e3] at l
      exact c3 l.symm
theorem ne_0 {post : Int32 → MM → Int64 → Prop} {M : MM} {tl : Int64} (hI : Inv M) (hs : 0 ≤ M 22 7 ∧ M 22 7 ≤ 400) (hp : ∀ (r : Int32), NQ M ws0 r → post r M tl) : wpX4_nameAmong post M tl 0 := by
  unfold wpX4_nameAmong wX4_nameAmong_20
  refine ifs (fun c => ?_) (fun c => ?_)
  · exact ⟨65 + 1, ne_0_0 hI hs hp _ 1 (nx0 _) (Or.inl ⟨rfl, pf_zero c⟩) (fun j hj => absurd hj (by omega))⟩
  · exact ⟨65 + 1, ne_0_0 hI hs hp _ 0 (nx0 _) (Or.inr ⟨rfl, fun z => c z.1⟩) (fun j hj => absurd hj (by omega))⟩
theorem ne_1_31 {post : Int32 → MM → Int64 → Prop} {M : MM} {tl : Int64} (hI : Inv M) (hs : 0 ≤ M 22 7 ∧ M 22 7 ≤ 400) (hp : ∀ (r : Int32), NQ M ws1 r → post r M tl) (v3 v4 : Int32) (hn : ∀ j, j < 5 → ¬ IsW M (ws1.getD j [])) : wX4_nameAmong_25 post (0 + 1) M tl 1 5 v3 v4 31 := by
  unfold wX4_nameAmong_25
  exact And.intro (by decide) (ifp (by decide) (hp _ (Or.inl ⟨rfl, hn⟩)))
theorem ne_1_30 {post : Int32 → MM → Int64 → Prop} {M : MM} {tl : Int64} (hI : Inv M) (hs : 0 ≤ M 22 7 ∧ M 22 7 ≤ 400) (hp : ∀ (r : Int32), NQ M ws1 r → post r M tl) (v3 v4 : Int32) (e3 : v3 = M 22 7 + nI 6) (h4 : (v4 = 1 ∧ PF M [115, 104, 114, 105, 110, 101] 6) ∨ (v4 = 0 ∧ ¬ PF M [115, 104, 114, 105, 110, 101] 6)) (hn : ∀ j, j < 4 → ¬ IsW M (ws1.getD j [])) : wX4_nameAmong_25 post (1 + 1) M tl 1 4 v3 v4 30 := by
  unfold wX4_nameAmong_25
  refine And.intro (by decide) (ifn (by decide) (And.intro (by decide) (ifp (by decide) ?_)))
  unfold wX4_nameAmong_54
  have q : ¬ IsW M [115, 104, 114, 105, 110, 101] → wX4_nameAmong_69 post (wX4_nameAmong_25 post 1) M tl 1 4 30 := by
    intro nz
    have hn2 : ∀ j, j < 5 → ¬ IsW M (ws1.getD j []) := fun j hj => by
      by_cases e : j = 4
      · subst e; exact nz
      · exact hn j (by omega)
    unfold wX4_nameAmong_69
    exact ifs (fun c => ne_1_31 hI hs hp (M 22 7) 1 hn2) (fun c => ne_1_31 hI hs hp (M 22 7) 0 hn2)
  refine ifs (fun c => q (fun z => ?_)) (fun c => ifs (fun c2 => hp _ (Or.inr ⟨4, (by decide), rfl, ?_⟩)) (fun c2 => q (fun z => ?_)))
  · rcases h4 with y | y
    · rw [y.1] at c; exact absurd c (by decide)
    · exact y.2 (pf_of hs (by decide) z).1
  · rcases h4 with y | y
    · exact isw_of y.2 (e3.symm.trans c2)
    · exact absurd y.1 c
  · exact c2 (e3.trans (pf_of hs (by decide) z).2)
theorem ne_1_29 {post : Int32 → MM → Int64 → Prop} {M : MM} {tl : Int64} (hI : Inv M) (hs : 0 ≤ M 22 7 ∧ M 22 7 ≤ 400) (hp : ∀ (r : Int32), NQ M ws1 r → post r M tl) (v3 v4 : Int32) (e3 : v3 = M 22 7 + nI 5) (h4 : (v4 = 1 ∧ PF M [115, 104, 114, 105, 110, 101] 5) ∨ (v4 = 0 ∧ ¬ PF M [115, 104, 114, 105, 110, 101] 5)) (hn : ∀ j, j < 4 → ¬ IsW M (ws1.getD j [])) : wX4_nameAmong_25 post (2 + 1) M tl 1 4 v3 v4 29 := by
  unfold wX4_nameAmong_25
  refine And.intro (by decide) (ifn (by decide) (And.intro (by decide) (ifn (by decide) (And.intro (by decide) (And.intro (by unfold vp_in; decide) (ifn (by decide) ?_))))))
  have q : ¬ PF M [115, 104, 114, 105, 110, 101] 6 → wX4_nameAmong_129 post (wX4_nameAmong_25 post 2) M tl 1 4 v3 29 := fun z => ne_1_30 hI hs hp (v3 + 1) 0 (by rw [e3]; exact nx1 5 _) (Or.inr ⟨rfl, z⟩) hn
  refine ifs (fun c => q (fun z => ?_)) (fun c => ifs (fun c2 => q (fun z => ?_)) (fun c2 => And.intro (by decide) (And.intro (by unfold vp_in; decide) ?_)))
  · rcases h4 with y | y
    · rw [y.1] at c; exact absurd c (by decide)
    · exact y.2 (pf_succ.mp z).1
  · have l := (pf_succ.mp z).2.1
    rw [← e3] at l
    exact absurd l (by clear z q hn h4; lia)
  · refine by_c hI (by rw [e3]; have := nI_lt8 (i := 5) (by decide); clear q hn h4 c2; lia) (ifs (fun c3 => ?_) (fun c3 => q (fun z => ?_)))
    · refine ne_1_30 hI hs hp (v3 + 1) 1 (by rw [e3]; exact nx1 5 _) (Or.inl ⟨rfl, pf_succ.mpr ⟨?_, ?_, ?_⟩⟩) hn
      · rcases h4 with y | y
        · exact y.2
        · exact absurd y.1 c
      · rw [← e3]; clear q hn h4; lia
      · rw [← e3]; exact c3.symm
    · have l := (pf_succ.mp z).2.2
      rw [← e3] at l
      exact c3 l.symm
theorem ne_1_28 {post : Int32 → MM → Int64 → Prop} {M : MM} {tl : Int64} (hI : Inv M) (hs : 0 ≤ M 22 7 ∧ M 22 7 ≤ 400) (hp : ∀ (r : Int32), NQ M ws1 r → post r M tl) (v3 v4 : Int32) (e3 : v3 = M 22 7 + nI 4) (h4 : (v4 = 1 ∧ PF M [115, 104, 114, 105, 110, 101] 4) ∨ (v4 = 0 ∧ ¬ PF M [115, 104, 114, 105, 110, 101] 4)) (hn : ∀ j, j < 4 → ¬ IsW M (ws1.getD j [])) : wX4_nameAmong_25 post (3 + 1) M tl 1 4 v3 v4 28 := by
  unfold wX4_nameAmong_25
  refine And.intro (by decide) (ifn (by decide) (And.intro (by decide) (ifn (by decide) (And.intro (by decide) (And.intro (by unfold vp_in; decide) (ifn (by decide) ?_))))))
  have q : ¬ PF M [115, 104, 114, 105, 110, 101] 5 → wX4_nameAmong_129 post (wX4_nameAmong_25 post 3) M tl 1 4 v3 28 := fun z => ne_1_29 hI hs hp (v3 + 1) 0 (by rw [e3]; exact nx1 4 _) (Or.inr ⟨rfl, z⟩) hn
  refine ifs (fun c => q (fun z => ?_)) (fun c => ifs (fun c2 => q (fun z => ?_)) (fun c2 => And.intro (by decide) (And.intro (by unfold vp_in; decide) ?_)))
  · rcases h4 with y | y
    · rw [y.1] at c; exact absurd c (by decide)
    · exact y.2 (pf_succ.mp z).1
  · have l := (pf_succ.mp z).2.1
    rw [← e3] at l
    exact absurd l (by clear z q hn h4; lia)
  · refine by_c hI (by rw [e3]; have := nI_lt8 (i := 4) (by decide); clear q hn h4 c2; lia) (ifs (fun c3 => ?_) (fun c3 => q (fun z => ?_)))
    · refine ne_1_29 hI hs hp (v3 + 1) 1 (by rw [e3]; exact nx1 4 _) (Or.inl ⟨rfl, pf_succ.mpr ⟨?_, ?_, ?_⟩⟩) hn
      · rcases h4 with y | y
        · exact y.2
        · exact absurd y.1 c
      · rw [← e3]; clear q hn h4; lia
      · rw [← e3]; exact c3.symm
    · have l := (pf_succ.mp z).2.2
      rw [← e3] at l
      exact c3 l.symm
theorem ne_1_27 {post : Int32 → MM → Int64 → Prop} {M : MM} {tl : Int64} (hI : Inv M) (hs : 0 ≤ M 22 7 ∧ M 22 7 ≤ 400) (hp : ∀ (r : Int32), NQ M ws1 r → post r M tl) (v3 v4 : Int32) (e3 : v3 = M 22 7 + nI 3) (h4 : (v4 = 1 ∧ PF M [115, 104, 114, 105, 110, 101] 3) ∨ (v4 = 0 ∧ ¬ PF M [115, 104, 114, 105, 110, 101] 3)) (hn : ∀ j, j < 4 → ¬ IsW M (ws1.getD j [])) : wX4_nameAmong_25 post (4 + 1) M tl 1 4 v3 v4 27 := by
  unfold wX4_nameAmong_25
  refine And.intro (by decide) (ifn (by decide) (And.intro (by decide) (ifn (by decide) (And.intro (by decide) (And.intro (by unfold vp_in; decide) (ifn (by decide) ?_))))))
  have q : ¬ PF M [115, 104, 114, 105, 110, 101] 4 → wX4_nameAmong_129 post (wX4_nameAmong_25 post 4) M tl 1 4 v3 27 := fun z => ne_1_28 hI hs hp (v3 + 1) 0 (by rw [e3]; exact nx1 3 _) (Or.inr ⟨rfl, z⟩) hn
  refine ifs (fun c => q (fun z => ?_)) (fun c => ifs (fun c2 => q (fun z => ?_)) (fun c2 => And.intro (by decide) (And.intro (by unfold vp_in; decide) ?_)))
  · rcases h4 with y | y
    · rw [y.1] at c; exact absurd c (by decide)
    · exact y.2 (pf_succ.mp z).1
  · have l := (pf_succ.mp z).2.1
    rw [← e3] at l
    exact absurd l (by clear z q hn h4; lia)
  · refine by_c hI (by rw [e3]; have := nI_lt8 (i := 3) (by decide); clear q hn h4 c2; lia) (ifs (fun c3 => ?_) (fun c3 => q (fun z => ?_)))
    · refine ne_1_28 hI hs hp (v3 + 1) 1 (by rw [e3]; exact nx1 3 _) (Or.inl ⟨rfl, pf_succ.mpr ⟨?_, ?_, ?_⟩⟩) hn
      · rcases h4 with y | y
        · exact y.2
        · exact absurd y.1 c
      · rw [← e3]; clear q hn h4; lia
      · rw [← e3]; exact c3.symm
    · have l := (pf_succ.mp z).2.2
      rw [← e3] at l
      exact c3 l.symm
theorem ne_1_26 {post : Int32 → MM → Int64 → Prop} {M : MM} {tl : Int64} (hI : Inv M) (hs : 0 ≤ M 22 7 ∧ M 22 7 ≤ 400) (hp : ∀ (r : Int32), NQ M ws1 r → post r M tl) (v3 v4 : Int32) (e3 : v3 = M 22 7 + nI 2) (h4 : (v4 = 1 ∧ PF M [115, 104, 114, 105, 110, 101] 2) ∨ (v4 = 0 ∧ ¬ PF M [115, 104, 114, 105, 110, 101] 2)) (hn : ∀ j, j < 4 → ¬ IsW M (ws1.getD j [])) : wX4_nameAmong_25 post (5 + 1) M tl 1 4 v3 v4 26 := by
  unfold wX4_nameAmong_25
  refine And.intro (by decide) (ifn (by decide) (And.intro (by decide) (ifn (by decide) (And.intro (by decide) (And.intro (by unfold vp_in; decide) (ifn (by decide) ?_))))))
  have q : ¬ PF M [115, 104, 114, 105, 110, 101] 3 → wX4_nameAmong_129 post (wX4_nameAmong_25 post 5) M tl 1 4 v3 26 := fun z => ne_1_27 hI hs hp (v3 + 1) 0 (by rw [e3]; exact nx1 2 _) (Or.inr ⟨rfl, z⟩) hn
  refine ifs (fun c => q (fun z => ?_)) (fun c => ifs (fun c2 => q (fun z => ?_)) (fun c2 => And.intro (by decide) (And.intro (by unfold vp_in; decide) ?_)))
  · rcases h4 with y | y
    · rw [y.1] at c; exact absurd c (by decide)
    · exact y.2 (pf_succ.mp z).1
  · have l := (pf_succ.mp z).2.1
    rw [← e3] at l
    exact absurd l (by clear z q hn h4; lia)
  · refine by_c hI (by rw [e3]; have := nI_lt8 (i := 2) (by decide); clear q hn h4 c2; lia) (ifs (fun c3 => ?_) (fun c3 => q (fun z => ?_)))
    · refine ne_1_27 hI hs hp (v3 + 1) 1 (by rw [e3]; exact nx1 2 _) (Or.inl ⟨rfl, pf_succ.mpr ⟨?_, ?_, ?_⟩⟩) hn
      · rcases h4 with y | y
        · exact y.2
        · exact absurd y.1 c
      · rw [← e3]; clear q hn h4; lia
      · rw [← e3]; exact c3.symm
    · have l := (pf_succ.mp z).2.2
      rw [← e3] at l
      exact c3 l.symm
theorem ne_1_25 {post : Int32 → MM → Int64 → Prop} {M : MM} {tl : Int64} (hI : Inv M) (hs : 0 ≤ M 22 7 ∧ M 22 7 ≤ 400) (hp : ∀ (r : Int32), NQ M ws1 r → post r M tl) (v3 v4 : Int32) (e3 : v3 = M 22 7 + nI 1) (h4 : (v4 = 1 ∧ PF M [115, 104, 114, 105, 110, 101] 1) ∨ (v4 = 0 ∧ ¬ PF M [115, 104, 114, 105, 110, 101] 1)) (hn : ∀ j, j < 4 → ¬ IsW M (ws1.getD j [])) : wX4_nameAmong_25 post (6 + 1) M tl 1 4 v3 v4 25 := by
  unfold wX4_nameAmong_25
  refine And.intro (by decide) (ifn (by decide) (And.intro (by decide) (ifn (by decide) (And.intro (by decide) (And.intro (by unfold vp_in; decide) (ifn (by decide) ?_))))))
  have q : ¬ PF M [115, 104, 114, 105, 110, 101] 2 → wX4_nameAmong_129 post (wX4_nameAmong_25 post 6) M tl 1 4 v3 25 := fun z => ne_1_26 hI hs hp (v3 + 1) 0 (by rw [e3]; exact nx1 1 _) (Or.inr ⟨rfl, z⟩) hn
  refine ifs (fun c => q (fun z => ?_)) (fun c => ifs (fun c2 => q (fun z => ?_)) (fun c2 => And.intro (by decide) (And.intro (by unfold vp_in; decide) ?_)))
  · rcases h4 with y | y
    · rw [y.1] at c; exact absurd c (by decide)
    · exact y.2 (pf_succ.mp z).1
  · have l := (pf_succ.mp z).2.1
    rw [← e3] at l
    exact absurd l (by clear z q hn h4; lia)
  · refine by_c hI (by rw [e3]; have := nI_lt8 (i := 1) (by decide); clear q hn h4 c2; lia) (ifs (fun c3 => ?_) (fun c3 => q (fun z => ?_)))
    · refine ne_1_26 hI hs hp (v3 + 1) 1 (by rw [e3]; exact nx1 1 _) (Or.inl ⟨rfl, pf_succ.mpr ⟨?_, ?_, ?_⟩⟩) hn
      · rcases h4 with y | y
        · exact y.2
        · exact absurd y.1 c
      · rw [← e3]; clear q hn h4; lia
      · rw [← e3]; exact c3.symm
    · have l := (pf_succ.mp z).2.2
      rw [← e3] at l
      exact c3 l.symm
theorem ne_1_24 {post : Int32 → MM → Int64 → Prop} {M : MM} {tl : Int64} (hI : Inv M) (hs : 0 ≤ M 22 7 ∧ M 22 7 ≤ 400) (hp : ∀ (r : Int32), NQ M ws1 r → post r M tl) (v3 v4 : Int32) (e3 : v3 = M 22 7 + nI 0) (h4 : (v4 = 1 ∧ PF M [115, 104, 114, 105, 110, 101] 0) ∨ (v4 = 0 ∧ ¬ PF M [115, 104, 114, 105, 110, 101] 0)) (hn : ∀ j, j < 4 → ¬ IsW M (ws1.getD j [])) : wX4_nameAmong_25 post (7 + 1) M tl 1 4 v3 v4 24 := by
  unfold wX4_nameAmong_25
  refine And.intro (by decide) (ifn (by decide) (And.intro (by decide) (ifn (by decide) (And.intro (by decide) (And.intro (by unfold vp_in; decide) (ifn (by decide) ?_))))))
  have q : ¬ PF M [115, 104, 114, 105, 110, 101] 1 → wX4_nameAmong_129 post (wX4_nameAmong_25 post 7) M tl 1 4 v3 24 := fun z => ne_1_25 hI hs hp (v3 + 1) 0 (by rw [e3]; exact nx1 0 _) (Or.inr ⟨rfl, z⟩) hn
  refine ifs (fun c => q (fun z => ?_)) (fun c => ifs (fun c2 => q (fun z => ?_)) (fun c2 => And.intro (by decide) (And.intro (by unfold vp_in; decide) ?_)))
  · rcases h4 with y | y
    · rw [y.1] at c; exact absurd c (by decide)
    · exact y.2 (pf_succ.mp z).1
  · have l := (pf_succ.mp z).2.1
    rw [← e3] at l
    exact absurd l (by clear z q hn h4; lia)
  · refine by_c hI (by rw [e3]; have := nI_lt8 (i := 0) (by decide); clear q hn h4 c2; lia) (ifs (fun c3 => ?_) (fun c3 => q (fun z => ?_)))
    · refine ne_1_25 hI hs hp (v3 + 1) 1 (by rw [e3]; exact nx1 0 _) (Or.inl ⟨rfl, pf_succ.mpr ⟨?_, ?_, ?_⟩⟩) hn
      · rcases h4 with y | y
        · exact y.2
        · exact absurd y.1 c
      · rw [← e3]; clear q hn h4; lia
      · rw [← e3]; exact c3.symm
    · have l := (pf_succ.mp z).2.2
      rw [← e3] at l
      exact c3 l.symm
theorem ne_1_23 {post : Int32 → MM → Int64 → Prop} {M : MM} {tl : Int64} (hI : Inv M) (hs : 0 ≤ M 22 7 ∧ M 22 7 ≤ 400) (hp : ∀ (r : Int32), NQ M ws1 r → post r M tl) (v3 v4 : Int32) (e3 : v3 = M 22 7 + nI 5) (h4 : (v4 = 1 ∧ PF M [116, 111, 119, 101, 114] 5) ∨ (v4 = 0 ∧ ¬ PF M [116, 111, 119, 101, 114] 5)) (hn : ∀ j, j < 3 → ¬ IsW M (ws1.getD j [])) : wX4_nameAmong_25 post (8 + 1) M tl 1 3 v3 v4 23 := by
  unfold wX4_nameAmong_25
  refine And.intro (by decide) (ifn (by decide) (And.intro (by decide) (ifn (by decide) (And.intro (by decide) (And.intro (by unfold vp_in; decide) (ifp (by decide) ?_))))))
  unfold wX4_nameAmong_54
  have q : ¬ IsW M [116, 111, 119, 101, 114] → wX4_nameAmong_69 post (wX4_nameAmong_25 post 8) M tl 1 3 23 := by
    intro nz
    have hn2 : ∀ j, j < 4 → ¬ IsW M (ws1.getD j []) := fun j hj => by
      by_cases e : j = 3
      · subst e; exact nz
      · exact hn j (by omega)
    unfold wX4_nameAmong_69
    exact ifs (fun c => ne_1_24 hI hs hp (M 22 7) 1 (nx0 _) (Or.inl ⟨rfl, pf_zero c⟩) hn2) (fun c => ne_1_24 hI hs hp (M 22 7) 0 (nx0 _) (Or.inr ⟨rfl, fun z => c z.1⟩) hn2)
  refine ifs (fun c => q (fun z => ?_)) (fun c => ifs (fun c2 => hp _ (Or.inr ⟨3, (by decide), rfl, ?_⟩)) (fun c2 => q (fun z => ?_)))
  · rcases h4 with y | y
    · rw [y.1] at c; exact absurd c (by decide)
    · exact y.2 (pf_of hs (by decide) z).1
  · rcases h4 with y | y
    · exact isw_of y.2 (e3.symm.trans c2)
    · exact absurd y.1 c
  · exact c2 (e3.trans (pf_of hs (by decide) z).2)
theorem ne_1_22 {post : Int32 → MM → Int64 → Prop} {M : MM} {tl : Int64} (hI : Inv M) (hs : 0 ≤ M 22 7 ∧ M 22 7 ≤ 400) (hp : ∀ (r : Int32), NQ M ws1 r → post r M tl) (v3 v4 : Int32) (e3 : v3 = M 22 7 + nI 4) (h4 : (v4 = 1 ∧ PF M [116, 111, 119, 101, 114] 4) ∨ (v4 = 0 ∧ ¬ PF M [116, 111, 119, 101, 114] 4)) (hn : ∀ j, j < 3 → ¬ IsW M (ws1.getD j [])) : wX4_nameAmong_25 post (9 + 1) M tl 1 3 v3 v4 22 := by
  unfold wX4_nameAmong_25
  refine And.intro (by decide) (ifn (by decide) (And.intro (by decide) (ifn (by decide) (And.intro (by decide) (And.intro (by unfold vp_in; decide) (ifn (by decide) ?_))))))
  have q : ¬ PF M [116, 111, 119, 101, 114] 5 → wX4_nameAmong_129 post (wX4_nameAmong_25 post 9) M tl 1 3 v3 22 := fun z => ne_1_23 hI hs hp (v3 + 1) 0 (by rw [e3]; exact nx1 4 _) (Or.inr ⟨rfl, z⟩) hn
  refine ifs (fun c => q (fun z => ?_)) (fun c => ifs (fun c2 => q (fun z => ?_)) (fun c2 => And.intro (by decide) (And.intro (by unfold vp_in; decide) ?_)))
  · rcases h4 with y | y
    · rw [y.1] at c; exact absurd c (by decide)
    · exact y.2 (pf_succ.mp z).1
  · have l := (pf_succ.mp z).2.1
    rw [← e3] at l
    exact absurd l (by clear z q hn h4; lia)
  · refine by_c hI (by rw [e3]; have := nI_lt8 (i := 4) (by decide); clear q hn h4 c2; lia) (ifs (fun c3 => ?_) (fun c3 => q (fun z => ?_)))
    · refine ne_1_23 hI hs hp (v3 + 1) 1 (by rw [e3]; exact nx1 4 _) (Or.inl ⟨rfl, pf_succ.mpr ⟨?_, ?_, ?_⟩⟩) hn
      · rcases h4 with y | y
        · exact y.2
        · exact absurd y.1 c
      · rw [← e3]; clear q hn h4; lia
      · rw [← e3]; exact c3.symm
    · have l := (pf_succ.mp z).2.2
      rw [← e3] at l
      exact c3 l.symm
theorem ne_1_21 {post : Int32 → MM → Int64 → Prop} {M : MM} {tl : Int64} (hI : Inv M) (hs : 0 ≤ M 22 7 ∧ M 22 7 ≤ 400) (hp : ∀ (r : Int32), NQ M ws1 r → post r M tl) (v3 v4 : Int32) (e3 : v3 = M 22 7 + nI 3) (h4 : (v4 = 1 ∧ PF M [116, 111, 119, 101, 114] 3) ∨ (v4 = 0 ∧ ¬ PF M [116, 111, 119, 101, 114] 3)) (hn : ∀ j, j < 3 → ¬ IsW M (ws1.getD j [])) : wX4_nameAmong_25 post (10 + 1) M tl 1 3 v3 v4 21 := by
  unfold wX4_nameAmong_25
  refine And.intro (by decide) (ifn (by decide) (And.intro (by decide) (ifn (by decide) (And.intro (by decide) (And.intro (by unfold vp_in; decide) (ifn (by decide) ?_))))))
  have q : ¬ PF M [116, 111, 119, 101, 114] 4 → wX4_nameAmong_129 post (wX4_nameAmong_25 post 10) M tl 1 3 v3 21 := fun z => ne_1_22 hI hs hp (v3 + 1) 0 (by rw [e3]; exact nx1 3 _) (Or.inr ⟨rfl, z⟩) hn
  refine ifs (fun c => q (fun z => ?_)) (fun c => ifs (fun c2 => q (fun z => ?_)) (fun c2 => And.intro (by decide) (And.intro (by unfold vp_in; decide) ?_)))
  · rcases h4 with y | y
    · rw [y.1] at c; exact absurd c (by decide)
    · exact y.2 (pf_succ.mp z).1
  · have l := (pf_succ.mp z).2.1
    rw [← e3] at l
    exact absurd l (by clear z q hn h4; lia)
  · refine by_c hI (by rw [e3]; have := nI_lt8 (i := 3) (by decide); clear q hn h4 c2; lia) (ifs (fun c3 => ?_) (fun c3 => q (fun z => ?_)))
    · refine ne_1_22 hI hs hp (v3 + 1) 1 (by rw [e3]; exact nx1 3 _) (Or.inl ⟨rfl, pf_succ.mpr ⟨?_, ?_, ?_⟩⟩) hn
      · rcases h4 with y | y
        · exact y.2
        · exact absurd y.1 c
      · rw [← e3]; clear q hn h4; lia
      · rw [← e3]; exact c3.symm
    · have l := (pf_succ.mp z).2.2
      rw [← e3] at l
      exact c3 l.symm
theorem ne_1_20 {post : Int32 → MM → Int64 → Prop} {M : MM} {tl : Int64} (hI : Inv M) (hs : 0 ≤ M 22 7 ∧ M 22 7 ≤ 400) (hp : ∀ (r : Int32), NQ M ws1 r → post r M tl) (v3 v4 : Int32) (e3 : v3 = M 22 7 + nI 2) (h4 : (v4 = 1 ∧ PF M [116, 111, 119, 101, 114] 2) ∨ (v4 = 0 ∧ ¬ PF M [116, 111, 119, 101, 114] 2)) (hn : ∀ j, j < 3 → ¬ IsW M (ws1.getD j [])) : wX4_nameAmong_25 post (11 + 1) M tl 1 3 v3 v4 20 := by
  unfold wX4_nameAmong_25
  refine And.intro (by decide) (ifn (by decide) (And.intro (by decide) (ifn (by decide) (And.intro (by decide) (And.intro (by unfold vp_in; decide) (ifn (by decide) ?_))))))
  have q : ¬ PF M [116, 111, 119, 101, 114] 3 → wX4_nameAmong_129 post (wX4_nameAmong_25 post 11) M tl 1 3 v3 20 := fun z => ne_1_21 hI hs hp (v3 + 1) 0 (by rw [e3]; exact nx1 2 _) (Or.inr ⟨rfl, z⟩) hn
  refine ifs (fun c => q (fun z => ?_)) (fun c => ifs (fun c2 => q (fun z => ?_)) (fun c2 => And.intro (by decide) (And.intro (by unfold vp_in; decide) ?_)))
  · rcases h4 with y | y
    · rw [y.1] at c; exact absurd c (by decide)
    · exact y.2 (pf_succ.mp z).1
  · have l := (pf_succ.mp z).2.1
    rw [← e3] at l
    exact absurd l (by clear z q hn h4; lia)
  · refine by_c hI (by rw [e3]; have := nI_lt8 (i := 2) (by decide); clear q hn h4 c2; lia) (ifs (fun c3 => ?_) (fun c3 => q (fun z => ?_)))
    · refine ne_1_21 hI hs hp (v3 + 1) 1 (by rw [e3]; exact nx1 2 _) (Or.inl ⟨rfl, pf_succ.mpr ⟨?_, ?_, ?_⟩⟩) hn
      · rcases h4 with y | y
        · exact y.2
        · exact absurd y.1 c
      · rw [← e3]; clear q hn h4; lia
      · rw [← e3]; exact c3.symm
    · have l := (pf_succ.mp z).2.2
      rw [← e3] at l
      exact c3 l.symm
theorem ne_1_19 {post : Int32 → MM → Int64 → Prop} {M : MM} {tl : Int64} (hI : Inv M) (hs : 0 ≤ M 22 7 ∧ M 22 7 ≤ 400) (hp : ∀ (r : Int32), NQ M ws1 r → post r M tl) (v3 v4 : Int32) (e3 : v3 = M 22 7 + nI 1) (h4 : (v4 = 1 ∧ PF M [116, 111, 119, 101, 114] 1) ∨ (v4 = 0 ∧ ¬ PF M [116, 111, 119, 101, 114] 1)) (hn : ∀ j, j < 3 → ¬ IsW M (ws1.getD j [])) : wX4_nameAmong_25 post (12 + 1) M tl 1 3 v3 v4 19 := by
  unfold wX4_nameAmong_25
  refine And.intro (by decide) (ifn (by decide) (And.intro (by decide) (ifn (by decide) (And.intro (by decide) (And.intro (by unfold vp_in; decide) (ifn (by decide) ?_))))))
  have q : ¬ PF M [116, 111, 119, 101, 114] 2 → wX4_nameAmong_129 post (wX4_nameAmong_25 post 12) M tl 1 3 v3 19 := fun z => ne_1_20 hI hs hp (v3 + 1) 0 (by rw [e3]; exact nx1 1 _) (Or.inr ⟨rfl, z⟩) hn
  refine ifs (fun c => q (fun z => ?_)) (fun c => ifs (fun c2 => q (fun z => ?_)) (fun c2 => And.intro (by decide) (And.intro (by unfold vp_in; decide) ?_)))
  · rcases h4 with y | y
    · rw [y.1] at c; exact absurd c (by decide)
    · exact y.2 (pf_succ.mp z).1
  · have l := (pf_succ.mp z).2.1
    rw [← e3] at l
    exact absurd l (by clear z q hn h4; lia)
  · refine by_c hI (by rw [e3]; have := nI_lt8 (i := 1) (by decide); clear q hn h4 c2; lia) (ifs (fun c3 => ?_) (fun c3 => q (fun z => ?_)))
    · refine ne_1_20 hI hs hp (v3 + 1) 1 (by rw [e3]; exact nx1 1 _) (Or.inl ⟨rfl, pf_succ.mpr ⟨?_, ?_, ?_⟩⟩) hn
      · rcases h4 with y | y
        · exact y.2
        · exact absurd y.1 c
      · rw [← e3]; clear q hn h4; lia
      · rw [← e3]; exact c3.symm
    · have l := (pf_succ.mp z).2.2
      rw [← e3] at l
      exact c3 l.symm
theorem ne_1_18 {post : Int32 → MM → Int64 → Prop} {M : MM} {tl : Int64} (hI : Inv M) (hs : 0 ≤ M 22 7 ∧ M 22 7 ≤ 400) (hp : ∀ (r : Int32), NQ M ws1 r → post r M tl) (v3 v4 : Int32) (e3 : v3 = M 22 7 + nI 0) (h4 : (v4 = 1 ∧ PF M [116, 111, 119, 101, 114] 0) ∨ (v4 = 0 ∧ ¬ PF M [116, 111, 119, 101, 114] 0)) (hn : ∀ j, j < 3 → ¬ IsW M (ws1.getD j [])) : wX4_nameAmong_25 post (13 + 1) M tl 1 3 v3 v4 18 := by
  unfold wX4_nameAmong_25
  refine And.intro (by decide) (ifn (by decide) (And.intro (by decide) (ifn (by decide) (And.intro (by decide) (And.intro (by unfold vp_in; decide) (ifn (by decide) ?_))))))
  have q : ¬ PF M [116, 111, 119, 101, 114] 1 → wX4_nameAmong_129 post (wX4_nameAmong_25 post 13) M tl 1 3 v3 18 := fun z => ne_1_19 hI hs hp (v3 + 1) 0 (by rw [e3]; exact nx1 0 _) (Or.inr ⟨rfl, z⟩) hn
  refine ifs (fun c => q (fun z => ?_)) (fun c => ifs (fun c2 => q (fun z => ?_)) (fun c2 => And.intro (by decide) (And.intro (by unfold vp_in; decide) ?_)))
  · rcases h4 with y | y
    · rw [y.1] at c; exact absurd c (by decide)
    · exact y.2 (pf_succ.mp z).1
  · have l := (pf_succ.mp z).2.1
    rw [← e3] at l
    exact absurd l (by clear z q hn h4; lia)
  · refine by_c hI (by rw [e3]; have := nI_lt8 (i := 0) (by decide); clear q hn h4 c2; lia) (ifs (fun c3 => ?_) (fun c3 => q (fun z => ?_)))
    · refine ne_1_19 hI hs hp (v3 + 1) 1 (by rw [e3]; exact nx1 0 _) (Or.inl ⟨rfl, pf_succ.mpr ⟨?_, ?_, ?_⟩⟩) hn
      · rcases h4 with y | y
        · exact y.2
        · exact absurd y.1 c
      · rw [← e3]; clear q hn h4; lia
      · rw [← e3]; exact c3.symm
    · have l := (pf_succ.mp z).2.2
      rw [← e3] at l
      exact c3 l.symm
theorem ne_1_17 {post : Int32 → MM → Int64 → Prop} {M : MM} {tl : Int64} (hI : Inv M) (hs : 0 ≤ M 22 7 ∧ M 22 7 ≤ 400) (hp : ∀ (r : Int32), NQ M ws1 r → post r M tl) (v3 v4 : Int32) (e3 : v3 = M 22 7 + nI 4) (h4 : (v4 = 1 ∧ PF M [115, 104, 111, 112] 4) ∨ (v4 = 0 ∧ ¬ PF M [115, 104, 111, 112] 4)) (hn : ∀ j, j < 2 → ¬ IsW M (ws1.getD j [])) : wX4_nameAmong_25 post (14 + 1) M tl 1 2 v3 v4 17 := by
  unfold wX4_nameAmong_25
  refine And.intro (by decide) (ifn (by decide) (And.intro (by decide) (ifn (by decide) (And.intro (by decide) (And.intro (by unfold vp_in; decide) (ifp (by decide) ?_))))))
  unfold wX4_nameAmong_54
  have q : ¬ IsW M [115, 104, 111, 112] → wX4_nameAmong_69 post (wX4_nameAmong_25 post 14) M tl 1 2 17 := by
    intro nz
    have hn2 : ∀ j, j < 3 → ¬ IsW M (ws1.getD j []) := fun j hj => by
      by_cases e : j = 2
      · subst e; exact nz
      · exact hn j (by omega)
    unfold wX4_nameAmong_69
    exact ifs (fun c => ne_1_18 hI hs hp (M 22 7) 1 (nx0 _) (Or.inl ⟨rfl, pf_zero c⟩) hn2) (fun c => ne_1_18 hI hs hp (M 22 7) 0 (nx0 _) (Or.inr ⟨rfl, fun z => c z.1⟩) hn2)
  refine ifs (fun c => q (fun z => ?_)) (fun c => ifs (fun c2 => hp _ (Or.inr ⟨2, (by decide), rfl, ?_⟩)) (fun c2 => q (fun z => ?_)))
  · rcases h4 with y | y
    · rw [y.1] at c; exact absurd c (by decide)
    · exact y.2 (pf_of hs (by decide) z).1
  · rcases h4 with y | y
    · exact isw_of y.2 (e3.symm.trans c2)
    · exact absurd y.1 c
  · exact c2 (e3.trans (pf_of hs (by decide) z).2)
theorem ne_1_16 {post : Int32 → MM → Int64 → Prop} {M : MM} {tl : Int64} (hI : Inv M) (hs : 0 ≤ M 22 7 ∧ M 22 7 ≤ 400) (hp : ∀ (r : Int32), NQ M ws1 r → post r M tl) (v3 v4 : Int32) (e3 : v3 = M 22 7 + nI 3) (h4 : (v4 = 1 ∧ PF M [115, 104, 111, 112] 3) ∨ (v4 = 0 ∧ ¬ PF M [115, 104, 111, 112] 3)) (hn : ∀ j, j < 2 → ¬ IsW M (ws1.getD j [])) : wX4_nameAmong_25 post (15 + 1) M tl 1 2 v3 v4 16 := by
  unfold wX4_nameAmong_25
  refine And.intro (by decide) (ifn (by decide) (And.intro (by decide) (ifn (by decide) (And.intro (by decide) (And.intro (by unfold vp_in; decide) (ifn (by decide) ?_))))))
  have q : ¬ PF M [115, 104, 111, 112] 4 → wX4_nameAmong_129 post (wX4_nameAmong_25 post 15) M tl 1 2 v3 16 := fun z => ne_1_17 hI hs hp (v3 + 1) 0 (by rw [e3]; exact nx1 3 _) (Or.inr ⟨rfl, z⟩) hn
  refine ifs (fun c => q (fun z => ?_)) (fun c => ifs (fun c2 => q (fun z => ?_)) (fun c2 => And.intro (by decide) (And.intro (by unfold vp_in; decide) ?_)))
  · rcases h4 with y | y
    · rw [y.1] at c; exact absurd c (by decide)
    · exact y.2 (pf_succ.mp z).1
  · have l := (pf_succ.mp z).2.1
    rw [← e3] at l
    exact absurd l (by clear z q hn h4; lia)
  · refine by_c hI (by rw [e3]; have := nI_lt8 (i := 3) (by decide); clear q hn h4 c2; lia) (ifs (fun c3 => ?_) (fun c3 => q (fun z => ?_)))
    · refine ne_1_17 hI hs hp (v3 + 1) 1 (by rw [e3]; exact nx1 3 _) (Or.inl ⟨rfl, pf_succ.mpr ⟨?_, ?_, ?_⟩⟩) hn
      · rcases h4 with y | y
        · exact y.2
        · exact absurd y.1 c
      · rw [← e3]; clear q hn h4; lia
      · rw [← e3]; exact c3.symm
    · have l := (pf_succ.mp z).2.2
      rw [← e3] at l
      exact c3 l.symm
theorem ne_1_15 {post : Int32 → MM → Int64 → Prop} {M : MM} {tl : Int64} (hI : Inv M) (hs : 0 ≤ M 22 7 ∧ M 22 7 ≤ 400) (hp : ∀ (r : Int32), NQ M ws1 r → post r M tl) (v3 v4 : Int32) (e3 : v3 = M 22 7 + nI 2) (h4 : (v4 = 1 ∧ PF M [115, 104, 111, 112] 2) ∨ (v4 = 0 ∧ ¬ PF M [115, 104, 111, 112] 2)) (hn : ∀ j, j < 2 → ¬ IsW M (ws1.getD j [])) : wX4_nameAmong_25 post (16 + 1) M tl 1 2 v3 v4 15 := by
  unfold wX4_nameAmong_25
  refine And.intro (by decide) (ifn (by decide) (And.intro (by decide) (ifn (by decide) (And.intro (by decide) (And.intro (by unfold vp_in; decide) (ifn (by decide) ?_))))))
  have q : ¬ PF M [115, 104, 111, 112] 3 → wX4_nameAmong_129 post (wX4_nameAmong_25 post 16) M tl 1 2 v3 15 := fun z => ne_1_16 hI hs hp (v3 + 1) 0 (by rw [e3]; exact nx1 2 _) (Or.inr ⟨rfl, z⟩) hn
  refine ifs (fun c => q (fun z => ?_)) (fun c => ifs (fun c2 => q (fun z => ?_)) (fun c2 => And.intro (by decide) (And.intro (by unfold vp_in; decide) ?_)))
  · rcases h4 with y | y
    · rw [y.1] at c; exact absurd c (by decide)
    · exact y.2 (pf_succ.mp z).1
  · have l := (pf_succ.mp z).2.1
    rw [← e3] at l
    exact absurd l (by clear z q hn h4; lia)
  · refine by_c hI (by rw [e3]; have := nI_lt8 (i := 2) (by decide); clear q hn h4 c2; lia) (ifs (fun c3 => ?_) (fun c3 => q (fun z => ?_)))
    · refine ne_1_16 hI hs hp (v3 + 1) 1 (by rw [e3]; exact nx1 2 _) (Or.inl ⟨rfl, pf_succ.mpr ⟨?_, ?_, ?_⟩⟩) hn
      · rcases h4 with y | y
        · exact y.2
        · exact absurd y.1 c
      · rw [← e3]; clear q hn h4; lia
      · rw [← e3]; exact c3.symm
    · have l := (pf_succ.mp z).2.2
      rw [← e3] at l
      exact c3 l.symm
theorem ne_1_14 {post : Int32 → MM → Int64 → Prop} {M : MM} {tl : Int64} (hI : Inv M) (hs : 0 ≤ M 22 7 ∧ M 22 7 ≤ 400) (hp : ∀ (r : Int32), NQ M ws1 r → post r M tl) (v3 v4 : Int32) (e3 : v3 = M 22 7 + nI 1) (h4 : (v4 = 1 ∧ PF M [115, 104, 111, 112] 1) ∨ (v4 = 0 ∧ ¬ PF M [115, 104, 111, 112] 1)) (hn : ∀ j, j < 2 → ¬ IsW M (ws1.getD j [])) : wX4_nameAmong_25 post (17 + 1) M tl 1 2 v3 v4 14 := by
  unfold wX4_nameAmong_25
  refine And.intro (by decide) (ifn (by decide) (And.intro (by decide) (ifn (by decide) (And.intro (by decide) (And.intro (by unfold vp_in; decide) (ifn (by decide) ?_))))))
  have q : ¬ PF M [115, 104, 111, 112] 2 → wX4_nameAmong_129 post (wX4_nameAmong_25 post 17) M tl 1 2 v3 14 := fun z => ne_1_15 hI hs hp (v3 + 1) 0 (by rw [e3]; exact nx1 1 _) (Or.inr ⟨rfl, z⟩) hn
  refine ifs (fun c => q (fun z => ?_)) (fun c => ifs (fun c2 => q (fun z => ?_)) (fun c2 => And.intro (by decide) (And.intro (by unfold vp_in; decide) ?_)))
  · rcases h4 with y | y
    · rw [y.1] at c; exact absurd c (by decide)
    · exact y.2 (pf_succ.mp z).1
  · have l := (pf_succ.mp z).2.1
    rw [← e3] at l
    exact absurd l (by clear z q hn h4; lia)
  · refine by_c hI (by rw [e3]; have := nI_lt8 (i := 1) (by decide); clear q hn h4 c2; lia) (ifs (fun c3 => ?_) (fun c3 => q (fun z => ?_)))
    · refine ne_1_15 hI hs hp (v3 + 1) 1 (by rw [e3]; exact nx1 1 _) (Or.inl ⟨rfl, pf_succ.mpr ⟨?_, ?_, ?_⟩⟩) hn
      · rcases h4 with y | y
        · exact y.2
        · exact absurd y.1 c
      · rw [← e3]; clear q hn h4; lia
      · rw [← e3]; exact c3.symm
    · have l := (pf_succ.mp z).2.2
      rw [← e3] at l
      exact c3 l.symm
theorem ne_1_13 {post : Int32 → MM → Int64 → Prop} {M : MM} {tl : Int64} (hI : Inv M) (hs : 0 ≤ M 22 7 ∧ M 22 7 ≤ 400) (hp : ∀ (r : Int32), NQ M ws1 r → post r M tl) (v3 v4 : Int32) (e3 : v3 = M 22 7 + nI 0) (h4 : (v4 = 1 ∧ PF M [115, 104, 111, 112] 0) ∨ (v4 = 0 ∧ ¬ PF M [115, 104, 111, 112] 0)) (hn : ∀ j, j < 2 → ¬ IsW M (ws1.getD j [])) : wX4_nameAmong_25 post (18 + 1) M tl 1 2 v3 v4 13 := by
  unfold wX4_nameAmong_25
  refine And.intro (by decide) (ifn (by decide) (And.intro (by decide) (ifn (by decide) (And.intro (by decide) (And.intro (by unfold vp_in; decide) (ifn (by decide) ?_))))))
  have q : ¬ PF M [115, 104, 111, 112] 1 → wX4_nameAmong_129 post (wX4_nameAmong_25 post 18) M tl 1 2 v3 13 := fun z => ne_1_14 hI hs hp (v3 + 1) 0 (by rw [e3]; exact nx1 0 _) (Or.inr ⟨rfl, z⟩) hn
  refine ifs (fun c => q (fun z => ?_)) (fun c => ifs (fun c2 => q (fun z => ?_)) (fun c2 => And.intro (by decide) (And.intro (by unfold vp_in; decide) ?_)))
  · rcases h4 with y | y
    · rw [y.1] at c; exact absurd c (by decide)
    · exact y.2 (pf_succ.mp z).1
  · have l := (pf_succ.mp z).2.1
    rw [← e3] at l
    exact absurd l (by clear z q hn h4; lia)
  · refine by_c hI (by rw [e3]; have := nI_lt8 (i := 0) (by decide); clear q hn h4 c2; lia) (ifs (fun c3 => ?_) (fun c3 => q (fun z => ?_)))
    · refine ne_1_14 hI hs hp (v3 + 1) 1 (by rw [e3]; exact nx1 0 _) (Or.inl ⟨rfl, pf_succ.mpr ⟨?_, ?_, ?_⟩⟩) hn
      · rcases h4 with y | y
        · exact y.2
        · exact absurd y.1 c
      · rw [← e3]; clear q hn h4; lia
      · rw [← e3]; exact c3.symm
    · have l := (pf_succ.mp z).2.2
      rw [← e3] at l
      exact c3 l.symm
theorem ne_1_12 {post : Int32 → MM → Int64 → Prop} {M : MM} {tl : Int64} (hI : Inv M) (hs : 0 ≤ M 22 7 ∧ M 22 7 ≤ 400) (hp : ∀ (r : Int32), NQ M ws1 r → post r M tl) (v3 v4 : Int32) (e3 : v3 = M 22 7 + nI 6) (h4 : (v4 = 1 ∧ PF M [103, 97, 114, 100, 101, 110] 6) ∨ (v4 = 0 ∧ ¬ PF M [103, 97, 114, 100, 101, 110] 6)) (hn : ∀ j, j < 1 → ¬ IsW M (ws1.getD j [])) : wX4_nameAmong_25 post (19 + 1) M tl 1 1 v3 v4 12 := by
  unfold wX4_nameAmong_25
  refine And.intro (by decide) (ifn (by decide) (And.intro (by decide) (ifn (by decide) (And.intro (by decide) (And.intro (by unfold vp_in; decide) (ifp (by decide) ?_))))))
  unfold wX4_nameAmong_54
  have q : ¬ IsW M [103, 97, 114, 100, 101, 110] → wX4_nameAmong_69 post (wX4_nameAmong_25 post 19) M tl 1 1 12 := by
    intro nz
    have hn2 : ∀ j, j < 2 → ¬ IsW M (ws1.getD j []) := fun j hj => by
      by_cases e : j = 1
      · subst e; exact nz
      · exact hn j (by omega)
    unfold wX4_nameAmong_69
    exact ifs (fun c => ne_1_13 hI hs hp (M 22 7) 1 (nx0 _) (Or.inl ⟨rfl, pf_zero c⟩) hn2) (fun c => ne_1_13 hI hs hp (M 22 7) 0 (nx0 _) (Or.inr ⟨rfl, fun z => c z.1⟩) hn2)
  refine ifs (fun c => q (fun z => ?_)) (fun c => ifs (fun c2 => hp _ (Or.inr ⟨1, (by decide), rfl, ?_⟩)) (fun c2 => q (fun z => ?_)))
  · rcases h4 with y | y
    · rw [y.1] at c; exact absurd c (by decide)
    · exact y.2 (pf_of hs (by decide) z).1
  · rcases h4 with y | y
    · exact isw_of y.2 (e3.symm.trans c2)
    · exact absurd y.1 c
  · exact c2 (e3.trans (pf_of hs (by decide) z).2)
theorem ne_1_11 {post : Int32 → MM → Int64 → Prop} {M : MM} {tl : Int64} (hI : Inv M) (hs : 0 ≤ M 22 7 ∧ M 22 7 ≤ 400) (hp : ∀ (r : Int32), NQ M ws1 r → post r M tl) (v3 v4 : Int32) (e3 : v3 = M 22 7 + nI 5) (h4 : (v4 = 1 ∧ PF M [103, 97, 114, 100, 101, 110] 5) ∨ (v4 = 0 ∧ ¬ PF M [103, 97, 114, 100, 101, 110] 5)) (hn : ∀ j, j < 1 → ¬ IsW M (ws1.getD j [])) : wX4_nameAmong_25 post (20 + 1) M tl 1 1 v3 v4 11 := by
  unfold wX4_nameAmong_25
  refine And.intro (by decide) (ifn (by decide) (And.intro (by decide) (ifn (by decide) (And.intro (by decide) (And.intro (by unfold vp_in; decide) (ifn (by decide) ?_))))))
  have q : ¬ PF M [103, 97, 114, 100, 101, 110] 6 → wX4_nameAmong_129 post (wX4_nameAmong_25 post 20) M tl 1 1 v3 11 := fun z => ne_1_12 hI hs hp (v3 + 1) 0 (by rw [e3]; exact nx1 5 _) (Or.inr ⟨rfl, z⟩) hn
  refine ifs (fun c => q (fun z => ?_)) (fun c => ifs (fun c2 => q (fun z => ?_)) (fun c2 => And.intro (by decide) (And.intro (by unfold vp_in; decide) ?_)))
  · rcases h4 with y | y
    · rw [y.1] at c; exact absurd c (by decide)
    · exact y.2 (pf_succ.mp z).1
  · have l := (pf_succ.mp z).2.1
    rw [← e3] at l
    exact absurd l (by clear z q hn h4; lia)
  · refine by_c hI (by rw [e3]; have := nI_lt8 (i := 5) (by decide); clear q hn h4 c2; lia) (ifs (fun c3 => ?_) (fun c3 => q (fun z => ?_)))
    · refine ne_1_12 hI hs hp (v3 + 1) 1 (by rw [e3]; exact nx1 5 _) (Or.inl ⟨rfl, pf_succ.mpr ⟨?_, ?_, ?_⟩⟩) hn
      · rcases h4 with y | y
        · exact y.2
        · exact absurd y.1 c
      · rw [← e3]; clear q hn h4; lia
      · rw [← e3]; exact c3.symm
    · have l := (pf_succ.mp z).2.2
      rw [← e3] at l
      exact c3 l.symm
theorem ne_1_10 {post : Int32 → MM → Int64 → Prop} {M : MM} {tl : Int64} (hI : Inv M) (hs : 0 ≤ M 22 7 ∧ M 22 7 ≤ 400) (hp : ∀ (r : Int32), NQ M ws1 r → post r M tl) (v3 v4 : Int32) (e3 : v3 = M 22 7 + nI 4) (h4 : (v4 = 1 ∧ PF M [103, 97, 114, 100, 101, 110] 4) ∨ (v4 = 0 ∧ ¬ PF M [103, 97, 114, 100, 101, 110] 4)) (hn : ∀ j, j < 1 → ¬ IsW M (ws1.getD j [])) : wX4_nameAmong_25 post (21 + 1) M tl 1 1 v3 v4 10 := by
  unfold wX4_nameAmong_25
  refine And.intro (by decide) (ifn (by decide) (And.intro (by decide) (ifn (by decide) (And.intro (by decide) (And.intro (by unfold vp_in; decide) (ifn (by decide) ?_))))))
  have q : ¬ PF M [103, 97, 114, 100, 101, 110] 5 → wX4_nameAmong_129 post (wX4_nameAmong_25 post 21) M tl 1 1 v3 10 := fun z => ne_1_11 hI hs hp (v3 + 1) 0 (by rw [e3]; exact nx1 4 _) (Or.inr ⟨rfl, z⟩) hn
  refine ifs (fun c => q (fun z => ?_)) (fun c => ifs (fun c2 => q (fun z => ?_)) (fun c2 => And.intro (by decide) (And.intro (by unfold vp_in; decide) ?_)))
  · rcases h4 with y | y
    · rw [y.1] at c; exact absurd c (by decide)
    · exact y.2 (pf_succ.mp z).1
  · have l := (pf_succ.mp z).2.1
    rw [← e3] at l
    exact absurd l (by clear z q hn h4; lia)
  · refine by_c hI (by rw [e3]; have := nI_lt8 (i := 4) (by decide); clear q hn h4 c2; lia) (ifs (fun c3 => ?_) (fun c3 => q (fun z => ?_)))
    · refine ne_1_11 hI hs hp (v3 + 1) 1 (by rw [e3]; exact nx1 4 _) (Or.inl ⟨rfl, pf_succ.mpr ⟨?_, ?_, ?_⟩⟩) hn
      · rcases h4 with y | y
        · exact y.2
        · exact absurd y.1 c
      · rw [← e3]; clear q hn h4; lia
      · rw [← e3]; exact c3.symm
    · have l := (pf_succ.mp z).2.2
      rw [← e3] at l
      exact c3 l.symm
theorem ne_1_9 {post : Int32 → MM → Int64 → Prop} {M : MM} {tl : Int64} (hI : Inv M) (hs : 0 ≤ M 22 7 ∧ M 22 7 ≤ 400) (hp : ∀ (r : Int32), NQ M ws1 r → post r M tl) (v3 v4 : Int32) (e3 : v3 = M 22 7 + nI 3) (h4 : (v4 = 1 ∧ PF M [103, 97, 114, 100, 101, 110] 3) ∨ (v4 = 0 ∧ ¬ PF M [103, 97, 114, 100, 101, 110] 3)) (hn : ∀ j, j < 1 → ¬ IsW M (ws1.getD j [])) : wX4_nameAmong_25 post (22 + 1) M tl 1 1 v3 v4 9 := by
  unfold wX4_nameAmong_25
  refine And.intro (by decide) (ifn (by decide) (And.intro (by decide) (ifn (by decide) (And.intro (by decide) (And.intro (by unfold vp_in; decide) (ifn (by decide) ?_))))))
  have q : ¬ PF M [103, 97, 114, 100, 101, 110] 4 → wX4_nameAmong_129 post (wX4_nameAmong_25 post 22) M tl 1 1 v3 9 := fun z => ne_1_10 hI hs hp (v3 + 1) 0 (by rw [e3]; exact nx1 3 _) (Or.inr ⟨rfl, z⟩) hn
  refine ifs (fun c => q (fun z => ?_)) (fun c => ifs (fun c2 => q (fun z => ?_)) (fun c2 => And.intro (by decide) (And.intro (by unfold vp_in; decide) ?_)))
  · rcases h4 with y | y
    · rw [y.1] at c; exact absurd c (by decide)
    · exact y.2 (pf_succ.mp z).1
  · have l := (pf_succ.mp z).2.1
    rw [← e3] at l
    exact absurd l (by clear z q hn h4; lia)
  · refine by_c hI (by rw [e3]; have := nI_lt8 (i := 3) (by decide); clear q hn h4 c2; lia) (ifs (fun c3 => ?_) (fun c3 => q (fun z => ?_)))
    · refine ne_1_10 hI hs hp (v3 + 1) 1 (by rw [e3]; exact nx1 3 _) (Or.inl ⟨rfl, pf_succ.mpr ⟨?_, ?_, ?_⟩⟩) hn
      · rcases h4 with y | y
        · exact y.2
        · exact absurd y.1 c
      · rw [← e3]; clear q hn h4; lia
      · rw [← e3]; exact c3.symm
    · have l := (pf_succ.mp z).2.2
      rw [← e3] at l
      exact c3 l.symm
theorem ne_1_8 {post : Int32 → MM → Int64 → Prop} {M : MM} {tl : Int64} (hI : Inv M) (hs : 0 ≤ M 22 7 ∧ M 22 7 ≤ 400) (hp : ∀ (r : Int32), NQ M ws1 r → post r M tl) (v3 v4 : Int32) (e3 : v3 = M 22 7 + nI 2) (h4 : (v4 = 1 ∧ PF M [103, 97, 114, 100, 101, 110] 2) ∨ (v4 = 0 ∧ ¬ PF M [103, 97, 114, 100, 101, 110] 2)) (hn : ∀ j, j < 1 → ¬ IsW M (ws1.getD j [])) : wX4_nameAmong_25 post (23 + 1) M tl 1 1 v3 v4 8 := by
  unfold wX4_nameAmong_25
  refine And.intro (by decide) (ifn (by decide) (And.intro (by decide) (ifn (by decide) (And.intro (by decide) (And.intro (by unfold vp_in; decide) (ifn (by decide) ?_))))))
  have q : ¬ PF M [103, 97, 114, 100, 101, 110] 3 → wX4_nameAmong_129 post (wX4_nameAmong_25 post 23) M tl 1 1 v3 8 := fun z => ne_1_9 hI hs hp (v3 + 1) 0 (by rw [e3]; exact nx1 2 _) (Or.inr ⟨rfl, z⟩) hn
  refine ifs (fun c => q (fun z => ?_)) (fun c => ifs (fun c2 => q (fun z => ?_)) (fun c2 => And.intro (by decide) (And.intro (by unfold vp_in; decide) ?_)))
  · rcases h4 with y | y
    · rw [y.1] at c; exact absurd c (by decide)
    · exact y.2 (pf_succ.mp z).1
  · have l := (pf_succ.mp z).2.1
    rw [← e3] at l
    exact absurd l (by clear z q hn h4; lia)
  · refine by_c hI (by rw [e3]; have := nI_lt8 (i := 2) (by decide); clear q hn h4 c2; lia) (ifs (fun c3 => ?_) (fun c3 => q (fun z => ?_)))
    · refine ne_1_9 hI hs hp (v3 + 1) 1 (by rw [e3]; exact nx1 2 _) (Or.inl ⟨rfl, pf_succ.mpr ⟨?_, ?_, ?_⟩⟩) hn
      · rcases h4 with y | y
        · exact y.2
        · exact absurd y.1 c
      · rw [← e3]; clear q hn h4; lia
      · rw [← e3]; exact c3.symm
    · have l := (pf_succ.mp z).2.2
      rw [← e3] at l
      exact c3 l.symm
theorem ne_1_7 {post : Int32 → MM → Int64 → Prop} {M : MM} {tl : Int64} (hI : Inv M) (hs : 0 ≤ M 22 7 ∧ M 22 7 ≤ 400) (hp : ∀ (r : Int32), NQ M ws1 r → post r M tl) (v3 v4 : Int32) (e3 : v3 = M 22 7 + nI 1) (h4 : (v4 = 1 ∧ PF M [103, 97, 114, 100, 101, 110] 1) ∨ (v4 = 0 ∧ ¬ PF M [103, 97, 114, 100, 101, 110] 1)) (hn : ∀ j, j < 1 → ¬ IsW M (ws1.getD j [])) : wX4_nameAmong_25 post (24 + 1) M tl 1 1 v3 v4 7 := by
  unfold wX4_nameAmong_25
  refine And.intro (by decide) (ifn (by decide) (And.intro (by decide) (ifn (by decide) (And.intro (by decide) (And.intro (by unfold vp_in; decide) (ifn (by decide) ?_))))))
  have q : ¬ PF M [103, 97, 114, 100, 101, 110] 2 → wX4_nameAmong_129 post (wX4_nameAmong_25 post 24) M tl 1 1 v3 7 := fun z => ne_1_8 hI hs hp (v3 + 1) 0 (by rw [e3]; exact nx1 1 _) (Or.inr ⟨rfl, z⟩) hn
  refine ifs (fun c => q (fun z => ?_)) (fun c => ifs (fun c2 => q (fun z => ?_)) (fun c2 => And.intro (by decide) (And.intro (by unfold vp_in; decide) ?_)))
  · rcases h4 with y | y
    · rw [y.1] at c; exact absurd c (by decide)
    · exact y.2 (pf_succ.mp z).1
  · have l := (pf_succ.mp z).2.1
    rw [← e3] at l
    exact absurd l (by clear z q hn h4; lia)
  · refine by_c hI (by rw [e3]; have := nI_lt8 (i := 1) (by decide); clear q hn h4 c2; lia) (ifs (fun c3 => ?_) (fun c3 => q (fun z => ?_)))
    · refine ne_1_8 hI hs hp (v3 + 1) 1 (by rw [e3]; exact nx1 1 _) (Or.inl ⟨rfl, pf_succ.mpr ⟨?_, ?_, ?_⟩⟩) hn
      · rcases h4 with y | y
        · exact y.2
        · exact absurd y.1 c
      · rw [← e3]; clear q hn h4; lia
      · rw [← e3]; exact c3.symm
    · have l := (pf_succ.mp z).2.2
      rw [← e3] at l
      exact c3 l.symm
theorem ne_1_6 {post : Int32 → MM → Int64 → Prop} {M : MM} {tl : Int64} (hI : Inv M) (hs : 0 ≤ M 22 7 ∧ M 22 7 ≤ 400) (hp : ∀ (r : Int32), NQ M ws1 r → post r M tl) (v3 v4 : Int32) (e3 : v3 = M 22 7 + nI 0) (h4 : (v4 = 1 ∧ PF M [103, 97, 114, 100, 101, 110] 0) ∨ (v4 = 0 ∧ ¬ PF M [103, 97, 114, 100, 101, 110] 0)) (hn : ∀ j, j < 1 → ¬ IsW M (ws1.getD j [])) : wX4_nameAmong_25 post (25 + 1) M tl 1 1 v3 v4 6 := by
  unfold wX4_nameAmong_25
  refine And.intro (by decide) (ifn (by decide) (And.intro (by decide) (ifn (by decide) (And.intro (by decide) (And.intro (by unfold vp_in; decide) (ifn (by decide) ?_))))))
  have q : ¬ PF M [103, 97, 114, 100, 101, 110] 1 → wX4_nameAmong_129 post (wX4_nameAmong_25 post 25) M tl 1 1 v3 6 := fun z => ne_1_7 hI hs hp (v3 + 1) 0 (by rw [e3]; exact nx1 0 _) (Or.inr ⟨rfl, z⟩) hn
  refine ifs (fun c => q (fun z => ?_)) (fun c => ifs (fun c2 => q (fun z => ?_)) (fun c2 => And.intro (by decide) (And.intro (by unfold vp_in; decide) ?_)))
  · rcases h4 with y | y
    · rw [y.1] at c; exact absurd c (by decide)
    · exact y.2 (pf_succ.mp z).1
  · have l := (pf_succ.mp z).2.1
    rw [← e3] at l
    exact absurd l (by clear z q hn h4; lia)
  · refine by_c hI (by rw [e3]; have := nI_lt8 (i := 0) (by decide); clear q hn h4 c2; lia) (ifs (fun c3 => ?_) (fun c3 => q (fun z => ?_)))
    · refine ne_1_7 hI hs hp (v3 + 1) 1 (by rw [e3]; exact nx1 0 _) (Or.inl ⟨rfl, pf_succ.mpr ⟨?_, ?_, ?_⟩⟩) hn
      · rcases h4 with y | y
        · exact y.2
        · exact absurd y.1 c
      · rw [← e3]; clear q hn h4; lia
      · rw [← e3]; exact c3.symm
    · have l := (pf_succ.mp z).2.2
      rw [← e3] at l
      exact c3 l.symm
theorem ne_1_5 {post : Int32 → MM → Int64 → Prop} {M : MM} {tl : Int64} (hI : Inv M) (hs : 0 ≤ M 22 7 ∧ M 22 7 ≤ 400) (hp : ∀ (r : Int32), NQ M ws1 r → post r M tl) (v3 v4 : Int32) (e3 : v3 = M 22 7 + nI 5) (h4 : (v4 = 1 ∧ PF M [104, 111, 117, 115, 101] 5) ∨ (v4 = 0 ∧ ¬ PF M [104, 111, 117, 115, 101] 5)) (hn : ∀ j, j < 0 → ¬ IsW M (ws1.getD j [])) : wX4_nameAmong_25 post (26 + 1) M tl 1 0 v3 v4 5 := by
  unfold wX4_nameAmong_25
  refine And.intro (by decide) (ifn (by decide) (And.intro (by decide) (ifn (by decide) (And.intro (by decide) (And.intro (by unfold vp_in; decide) (ifp (by decide) ?_))))))
  unfold wX4_nameAmong_54
  have q : ¬ IsW M [104, 111, 117, 115, 101] → wX4_nameAmong_69 post (wX4_nameAmong_25 post 26) M tl 1 0 5 := by
    intro nz
    have hn2 : ∀ j, j < 1 → ¬ IsW M (ws1.getD j []) := fun j hj => by
      by_cases e : j = 0
      · subst e; exact nz
      · exact hn j (by omega)
    unfold wX4_nameAmong_69
    exact ifs (fun c => ne_1_6 hI hs hp (M 22 7) 1 (nx0 _) (Or.inl ⟨rfl, pf_zero c⟩) hn2) (fun c => ne_1_6 hI hs hp (M 22 7) 0 (nx0 _) (Or.inr ⟨rfl, fun z => c z.1⟩) hn2)
  refine ifs (fun c => q (fun z => ?_)) (fun c => ifs (fun c2 => hp _ (Or.inr ⟨0, (by decide), rfl, ?_⟩)) (fun c2 => q (fun z => ?_)))
  · rcases h4 with y | y
    · rw [y.1] at c; exact absurd c (by decide)
    · exact y.2 (pf_of hs (by decide) z).1
  · rcases h4 with y | y
    · exact isw_of y.2 (e3.symm.trans c2)
    · exact absurd y.1 c
  · exact c2 (e3.trans (pf_of hs (by decide) z).2)
theorem ne_1_4 {post : Int32 → MM → Int64 → Prop} {M : MM} {tl : Int64} (hI : Inv M) (hs : 0 ≤ M 22 7 ∧ M 22 7 ≤ 400) (hp : ∀ (r : Int32), NQ M ws1 r → post r M tl) (v3 v4 : Int32) (e3 : v3 = M 22 7 + nI 4) (h4 : (v4 = 1 ∧ PF M [104, 111, 117, 115, 101] 4) ∨ (v4 = 0 ∧ ¬ PF M [104, 111, 117, 115, 101] 4)) (hn : ∀ j, j < 0 → ¬ IsW M (ws1.getD j [])) : wX4_nameAmong_25 post (27 + 1) M tl 1 0 v3 v4 4 := by
  unfold wX4_nameAmong_25
  refine And.intro (by decide) (ifn (by decide) (And.intro (by decide) (ifn (by decide) (And.intro (by decide) (And.intro (by unfold vp_in; decide) (ifn (by decide) ?_))))))
  have q : ¬ PF M [104, 111, 117, 115, 101] 5 → wX4_nameAmong_129 post (wX4_nameAmong_25 post 27) M tl 1 0 v3 4 := fun z => ne_1_5 hI hs hp (v3 + 1) 0 (by rw [e3]; exact nx1 4 _) (Or.inr ⟨rfl, z⟩) hn
  refine ifs (fun c => q (fun z => ?_)) (fun c => ifs (fun c2 => q (fun z => ?_)) (fun c2 => And.intro (by decide) (And.intro (by unfold vp_in; decide) ?_)))
  · rcases h4 with y | y
    · rw [y.1] at c; exact absurd c (by decide)
    · exact y.2 (pf_succ.mp z).1
  · have l := (pf_succ.mp z).2.1
    rw [← e3] at l
    exact absurd l (by clear z q hn h4; lia)
  · refine by_c hI (by rw [e3]; have := nI_lt8 (i := 4) (by decide); clear q hn h4 c2; lia) (ifs (fun c3 => ?_) (fun c3 => q (fun z => ?_)))
    · refine ne_1_5 hI hs hp (v3 + 1) 1 (by rw [e3]; exact nx1 4 _) (Or.inl ⟨rfl, pf_succ.mpr ⟨?_, ?_, ?_⟩⟩) hn
      · rcases h4 with y | y
        · exact y.2
        · exact absurd y.1 c
      · rw [← e3]; clear q hn h4; lia
      · rw [← e3]; exact c3.symm
    · have l := (pf_succ.mp z).2.2
      rw [← e3] at l
      exact c3 l.symm
theorem ne_1_3 {post : Int32 → MM → Int64 → Prop} {M : MM} {tl : Int64} (hI : Inv M) (hs : 0 ≤ M 22 7 ∧ M 22 7 ≤ 400) (hp : ∀ (r : Int32), NQ M ws1 r → post r M tl) (v3 v4 : Int32) (e3 : v3 = M 22 7 + nI 3) (h4 : (v4 = 1 ∧ PF M [104, 111, 117, 115, 101] 3) ∨ (v4 = 0 ∧ ¬ PF M [104, 111, 117, 115, 101] 3)) (hn : ∀ j, j < 0 → ¬ IsW M (ws1.getD j [])) : wX4_nameAmong_25 post (28 + 1) M tl 1 0 v3 v4 3 := by
  unfold wX4_nameAmong_25
  refine And.intro (by decide) (ifn (by decide) (And.intro (by decide) (ifn (by decide) (And.intro (by decide) (And.intro (by unfold vp_in; decide) (ifn (by decide) ?_))))))
  have q : ¬ PF M [104, 111, 117, 115, 101] 4 → wX4_nameAmong_129 post (wX4_nameAmong_25 post 28) M tl 1 0 v3 3 := fun z => ne_1_4 hI hs hp (v3 + 1) 0 (by rw [e3]; exact nx1 3 _) (Or.inr ⟨rfl, z⟩) hn
  refine ifs (fun c => q (fun z => ?_)) (fun c => ifs (fun c2 => q (fun z => ?_)) (fun c2 => And.intro (by decide) (And.intro (by unfold vp_in; decide) ?_)))
  · rcases h4 with y | y
    · rw [y.1] at c; exact absurd c (by decide)
    · exact y.2 (pf_succ.mp z).1
  · have l := (pf_succ.mp z).2.1
    rw [← e3] at l
    exact absurd l (by clear z q hn h4; lia)
  · refine by_c hI (by rw [e3]; have := nI_lt8 (i := 3) (by decide); clear q hn h4 c2; lia) (ifs (fun c3 => ?_) (fun c3 => q (fun z => ?_)))
    · refine ne_1_4 hI hs hp (v3 + 1) 1 (by rw [e3]; exact nx1 3 _) (Or.inl ⟨rfl, pf_succ.mpr ⟨?_, ?_, ?_⟩⟩) hn
      · rcases h4 with y | y
        · exact y.2
        · exact absurd y.1 c
      · rw [← e3]; clear q hn h4; lia
      · rw [← e3]; exact c3.symm
    · have l := (pf_succ.mp z).2.2
      rw [← e3] at l
      exact c3 l.symm
theorem ne_1_2 {post : Int32 → MM → Int64 → Prop} {M : MM} {tl : Int64} (hI : Inv M) (hs : 0 ≤ M 22 7 ∧ M 22 7 ≤ 400) (hp : ∀ (r : Int32), NQ M ws1 r → post r M tl) (v3 v4 : Int32) (e3 : v3 = M 22 7 + nI 2) (h4 : (v4 = 1 ∧ PF M [104, 111, 117, 115, 101] 2) ∨ (v4 = 0 ∧ ¬ PF M [104, 111, 117, 115, 101] 2)) (hn : ∀ j, j < 0 → ¬ IsW M (ws1.getD j [])) : wX4_nameAmong_25 post (29 + 1) M tl 1 0 v3 v4 2 := by
  unfold wX4_nameAmong_25
  refine And.intro (by decide) (ifn (by decide) (And.intro (by decide) (ifn (by decide) (And.intro (by decide) (And.intro (by unfold vp_in; decide) (ifn (by decide) ?_))))))
  have q : ¬ PF M [104, 111, 117, 115, 101] 3 → wX4_nameAmong_129 post (wX4_nameAmong_25 post 29) M tl 1 0 v3 2 := fun z => ne_1_3 hI hs hp (v3 + 1) 0 (by rw [e3]; exact nx1 2 _) (Or.inr ⟨rfl, z⟩) hn
  refine ifs (fun c => q (fun z => ?_)) (fun c => ifs (fun c2 => q (fun z => ?_)) (fun c2 => And.intro (by decide) (And.intro (by unfold vp_in; decide) ?_)))
  · rcases h4 with y | y
    · rw [y.1] at c; exact absurd c (by decide)
    · exact y.2 (pf_succ.mp z).1
  · have l := (pf_succ.mp z).2.1
    rw [← e3] at l
    exact absurd l (by clear z q hn h4; lia)
  · refine by_c hI (by rw [e3]; have := nI_lt8 (i := 2) (by decide); clear q hn h4 c2; lia) (ifs (fun c3 => ?_) (fun c3 => q (fun z => ?_)))
    · refine ne_1_3 hI hs hp (v3 + 1) 1 (by rw [e3]; exact nx1 2 _) (Or.inl ⟨rfl, pf_succ.mpr ⟨?_, ?_, ?_⟩⟩) hn
      · rcases h4 with y | y
        · exact y.2
        · exact absurd y.1 c
      · rw [← e3]; clear q hn h4; lia
      · rw [← e3]; exact c3.symm
    · have l := (pf_succ.mp z).2.2
      rw [← e3] at l
      exact c3 l.symm
theorem ne_1_1 {post : Int32 → MM → Int64 → Prop} {M : MM} {tl : Int64} (hI : Inv M) (hs : 0 ≤ M 22 7 ∧ M 22 7 ≤ 400) (hp : ∀ (r : Int32), NQ M ws1 r → post r M tl) (v3 v4 : Int32) (e3 : v3 = M 22 7 + nI 1) (h4 : (v4 = 1 ∧ PF M [104, 111, 117, 115, 101] 1) ∨ (v4 = 0 ∧ ¬ PF M [104, 111, 117, 115, 101] 1)) (hn : ∀ j, j < 0 → ¬ IsW M (ws1.getD j [])) : wX4_nameAmong_25 post (30 + 1) M tl 1 0 v3 v4 1 := by
  unfold wX4_nameAmong_25
  refine And.intro (by decide) (ifn (by decide) (And.intro (by decide) (ifn (by decide) (And.intro (by decide) (And.intro (by unfold vp_in; decide) (ifn (by decide) ?_))))))
  have q : ¬ PF M [104, 111, 117, 115, 101] 2 → wX4_nameAmong_129 post (wX4_nameAmong_25 post 30) M tl 1 0 v3 1 := fun z => ne_1_2 hI hs hp (v3 + 1) 0 (by rw [e3]; exact nx1 1 _) (Or.inr ⟨rfl, z⟩) hn
  refine ifs (fun c => q (fun z => ?_)) (fun c => ifs (fun c2 => q (fun z => ?_)) (fun c2 => And.intro (by decide) (And.intro (by unfold vp_in; decide) ?_)))
  · rcases h4 with y | y
    · rw [y.1] at c; exact absurd c (by decide)
    · exact y.2 (pf_succ.mp z).1
  · have l := (pf_succ.mp z).2.1
    rw [← e3] at l
    exact absurd l (by clear z q hn h4; lia)
  · refine by_c hI (by rw [e3]; have := nI_lt8 (i := 1) (by decide); clear q hn h4 c2; lia) (ifs (fun c3 => ?_) (fun c3 => q (fun z => ?_)))
    · refine ne_1_2 hI hs hp (v3 + 1) 1 (by rw [e3]; exact nx1 1 _) (Or.inl ⟨rfl, pf_succ.mpr ⟨?_, ?_, ?_⟩⟩) hn
      · rcases h4 with y | y
        · exact y.2
        · exact absurd y.1 c
      · rw [← e3]; clear q hn h4; lia
      · rw [← e3]; exact c3.symm
    · have l := (pf_succ.mp z).2.2
      rw [← e3] at l
      exact c3 l.symm
theorem ne_1_0 {post : Int32 → MM → Int64 → Prop} {M : MM} {tl : Int64} (hI : Inv M) (hs : 0 ≤ M 22 7 ∧ M 22 7 ≤ 400) (hp : ∀ (r : Int32), NQ M ws1 r → post r M tl) (v3 v4 : Int32) (e3 : v3 = M 22 7 + nI 0) (h4 : (v4 = 1 ∧ PF M [104, 111, 117, 115, 101] 0) ∨ (v4 = 0 ∧ ¬ PF M [104, 111, 117, 115, 101] 0)) (hn : ∀ j, j < 0 → ¬ IsW M (ws1.getD j [])) : wX4_nameAmong_25 post (31 + 1) M tl 1 0 v3 v4 0 := by
  unfold wX4_nameAmong_25
  refine And.intro (by decide) (ifn (by decide) (And.intro (by decide) (ifn (by decide) (And.intro (by decide) (And.intro (by unfold vp_in; decide) (ifn (by decide) ?_))))))
  have q : ¬ PF M [104, 111, 117, 115, 101] 1 → wX4_nameAmong_129 post (wX4_nameAmong_25 post 31) M tl 1 0 v3 0 := fun z => ne_1_1 hI hs hp (v3 + 1) 0 (by rw [e3]; exact nx1 0 _) (Or.inr ⟨rfl, z⟩) hn
  refine ifs (fun c => q (fun z => ?_)) (fun c => ifs (fun c2 => q (fun z => ?_)) (fun c2 => And.intro (by decide) (And.intro (by unfold vp_in; decide) ?_)))
  · rcases h4 with y | y
    · rw [y.1] at c; exact absurd c (by decide)
    · exact y.2 (pf_succ.mp z).1
  · have l := (pf_succ.mp z).2.1
    rw [← e3] at l
    exact absurd l (by clear z q hn h4; lia)
  · refine by_c hI (by rw [e3]; have := nI_lt8 (i := 0) (by decide); clear q hn h4 c2; lia) (ifs (fun c3 => ?_) (fun c3 => q (fun z => ?_)))
    · refine ne_1_1 hI hs hp (v3 + 1) 1 (by rw [e3]; exact nx1 0 _) (Or.inl ⟨rfl, pf_succ.mpr ⟨?_, ?_, ?_⟩⟩) hn
      · rcases h4 with y | y
        · exact y.2
        · exact absurd y.1 c
      · rw [← e3]; clear q hn h4; lia
      · rw [← e3]; exact c3.symm
    · have l := (pf_succ.mp z).2.2
      rw [← e3] at l
      exact c3 l.symm
theorem ne_1 {post : Int32 → MM → Int64 → Prop} {M : MM} {tl : Int64} (hI : Inv M) (hs : 0 ≤ M 22 7 ∧ M 22 7 ≤ 400) (hp : ∀ (r : Int32), NQ M ws1 r → post r M tl) : wpX4_nameAmong post M tl 1 := by
  unfold wpX4_nameAmong wX4_nameAmong_20
  refine ifs (fun c => ?_) (fun c => ?_)
  · exact ⟨31 + 1, ne_1_0 hI hs hp _ 1 (nx0 _) (Or.inl ⟨rfl, pf_zero c⟩) (fun j hj => absurd hj (by omega))⟩
  · exact ⟨31 + 1, ne_1_0 hI hs hp _ 0 (nx0 _) (Or.inr ⟨rfl, fun z => c z.1⟩) (fun j hj => absurd hj (by omega))⟩
theorem ne_2_39 {post : Int32 → MM → Int64 → Prop} {M : MM} {tl : Int64} (hI : Inv M) (hs : 0 ≤ M 22 7 ∧ M 22 7 ≤ 400) (hp : ∀ (r : Int32), NQ M ws2 r → post r M tl) (v3 v4 : Int32) (hn : ∀ j, j < 6 → ¬ IsW M (ws2.getD j [])) : wX4_nameAmong_25 post (0 + 1) M tl 2 6 v3 v4 39 := by
  unfold wX4_nameAmong_25
  exact And.intro (by decide) (ifp (by decide) (hp _ (Or.inl ⟨rfl, hn⟩)))
theorem ne_2_38 {post : Int32 → MM → Int64 → Prop} {M : MM} {tl : Int64} (hI : Inv M) (hs : 0 ≤ M 22 7 ∧ M 22 7 ≤ 400) (hp : ∀ (r : Int32), NQ M ws2 r → post r M tl) (v3 v4 : Int32) (e3 : v3 = M 22 7 + nI 6) (h4 : (v4 = 1 ∧ PF M [115, 104, 114, 105, 110, 101] 6) ∨ (v4 = 0 ∧ ¬ PF M [115, 104, 114, 105, 110, 101] 6)) (hn : ∀ j, j < 5 → ¬ IsW M (ws2.getD j [])) : wX4_nameAmong_25 post (1 + 1) M tl 2 5 v3 v4 38 := by
  unfold wX4_nameAmong_25
  refine And.intro (by decide) (ifn (by decide) (And.intro (by decide) (ifp (by decide) ?_)))
  unfold wX4_nameAmong_54
  have q : ¬ IsW M [115, 104, 114, 105, 110, 101] → wX4_nameAmong_69 post (wX4_nameAmong_25 post 1) M tl 2 5 38 := by
    intro nz
    have hn2 : ∀ j, j < 6 → ¬ IsW M (ws2.getD j []) := fun j hj => by
      by_cases e : j = 5
      · subst e; exact nz
      · exact hn j (by omega)
    unfold wX4_nameAmong_69
    exact ifs (fun c => ne_2_39 hI hs hp (M 22 7) 1 hn2) (fun c => ne_2_39 hI hs hp (M 22 7) 0 hn2)
  refine ifs (fun c => q (fun z => ?_)) (fun c => ifs (fun c2 => hp _ (Or.inr ⟨5, (by decide), rfl, ?_⟩)) (fun c2 => q (fun z => ?_)))
  · rcases h4 with y | y
    · rw [y.1] at c; exact absurd c (by decide)
    · exact y.2 (pf_of hs (by decide) z).1
  · rcases h4 with y | y
    · exact isw_of y.2 (e3.symm.trans c2)
    · exact absurd y.1 c
  · exact c2 (e3.trans (pf_of hs (by decide) z).2)
theorem ne_2_37 {post : Int32 → MM → Int64 → Prop} {M : MM} {tl : Int64} (hI : Inv M) (hs : 0 ≤ M 22 7 ∧ M 22 7 ≤ 400) (hp : ∀ (r : Int32), NQ M ws2 r → post r M tl) (v3 v4 : Int32) (e3 : v3 = M 22 7 + nI 5) (h4 : (v4 = 1 ∧ PF M [115, 104, 114, 105, 110, 101] 5) ∨ (v4 = 0 ∧ ¬ PF M [115, 104, 114, 105, 110, 101] 5)) (hn : ∀ j, j < 5 → ¬ IsW M (ws2.getD j [])) : wX4_nameAmong_25 post (2 + 1) M tl 2 5 v3 v4 37 := by
  unfold wX4_nameAmong_25
  refine And.intro (by decide) (ifn (by decide) (And.intro (by decide) (ifn (by decide) (And.intro (by decide) (And.intro (by unfold vp_in; decide) (ifn (by decide) ?_))))))
  have q : ¬ PF M [115, 104, 114, 105, 110, 101] 6 → wX4_nameAmong_129 post (wX4_nameAmong_25 post 2) M tl 2 5 v3 37 := fun z => ne_2_38 hI hs hp (v3 + 1) 0 (by rw [e3]; exact nx1 5 _) (Or.inr ⟨rfl, z⟩) hn
  refine ifs (fun c => q (fun z => ?_)) (fun c => ifs (fun c2 => q (fun z => ?_)) (fun c2 => And.intro (by decide) (And.intro (by unfold vp_in; decide) ?_)))
  · rcases h4 with y | y
    · rw [y.1] at c; exact absurd c (by decide)
    · exact y.2 (pf_succ.mp z).1
  · have l := (pf_succ.mp z).2.1
    rw [← e3] at l
    exact absurd l (by clear z q hn h4; lia)
  · refine by_c hI (by rw [e3]; have := nI_lt8 (i := 5) (by decide); clear q hn h4 c2; lia) (ifs (fun c3 => ?_) (fun c3 => q (fun z => ?_)))
    · refine ne_2_38 hI hs hp (v3 + 1) 1 (by rw [e3]; exact nx1 5 _) (Or.inl ⟨rfl, pf_succ.mpr ⟨?_, ?_, ?_⟩⟩) hn
      · rcases h4 with y | y
        · exact y.2
        · exact absurd y.1 c
      · rw [← e3]; clear q hn h4; lia
      · rw [← e3]; exact c3.symm
    · have l := (pf_succ.mp z).2.2
      rw [← e3] at l
      exact c3 l.symm
theorem ne_2_36 {post : Int32 → MM → Int64 → Prop} {M : MM} {tl : Int64} (hI : Inv M) (hs : 0 ≤ M 22 7 ∧ M 22 7 ≤ 400) (hp : ∀ (r : Int32), NQ M ws2 r → post r M tl) (v3 v4 : Int32) (e3 : v3 = M 22 7 + nI 4) (h4 : (v4 = 1 ∧ PF M [115, 104, 114, 105, 110, 101] 4) ∨ (v4 = 0 ∧ ¬ PF M [115, 104, 114, 105, 110, 101] 4)) (hn : ∀ j, j < 5 → ¬ IsW M (ws2.getD j [])) : wX4_nameAmong_25 post (3 + 1) M tl 2 5 v3 v4 36 := by
  unfold wX4_nameAmong_25
  refine And.intro (by decide) (ifn (by decide) (And.intro (by decide) (ifn (by decide) (And.intro (by decide) (And.intro (by unfold vp_in; decide) (ifn (by decide) ?_))))))
  have q : ¬ PF M [115, 104, 114, 105, 110, 101] 5 → wX4_nameAmong_129 post (wX4_nameAmong_25 post 3) M tl 2 5 v3 36 := fun z => ne_2_37 hI hs hp (v3 + 1) 0 (by rw [e3]; exact nx1 4 _) (Or.inr ⟨rfl, z⟩) hn
  refine ifs (fun c => q (fun z => ?_)) (fun c => ifs (fun c2 => q (fun z => ?_)) (fun c2 => And.intro (by decide) (And.intro (by unfold vp_in; decide) ?_)))
  · rcases h4 with y | y
    · rw [y.1] at c; exact absurd c (by decide)
    · exact y.2 (pf_succ.mp z).1
  · have l := (pf_succ.mp z).2.1
    rw [← e3] at l
    exact absurd l (by clear z q hn h4; lia)
  · refine by_c hI (by rw [e3]; have := nI_lt8 (i := 4) (by decide); clear q hn h4 c2; lia) (ifs (fun c3 => ?_) (fun c3 => q (fun z => ?_)))
    · refine ne_2_37 hI hs hp (v3 + 1) 1 (by rw [e3]; exact nx1 4 _) (Or.inl ⟨rfl, pf_succ.mpr ⟨?_, ?_, ?_⟩⟩) hn
      · rcases h4 with y | y
        · exact y.2
        · exact absurd y.1 c
      · rw [← e3]; clear q hn h4; lia
      · rw [← e3]; exact c3.symm
    · have l := (pf_succ.mp z).2.2
      rw [← e3] at l
      exact c3 l.symm
theorem ne_2_35 {post : Int32 → MM → Int64 → Prop} {M : MM} {tl : Int64} (hI : Inv M) (hs : 0 ≤ M 22 7 ∧ M 22 7 ≤ 400) (hp : ∀ (r : Int32), NQ M ws2 r → post r M tl) (v3 v4 : Int32) (e3 : v3 = M 22 7 + nI 3) (h4 : (v4 = 1 ∧ PF M [115, 104, 114, 105, 110, 101] 3) ∨ (v4 = 0 ∧ ¬ PF M [115, 104, 114, 105, 110, 101] 3)) (hn : ∀ j, j < 5 → ¬ IsW M (ws2.getD j [])) : wX4_nameAmong_25 post (4 + 1) M tl 2 5 v3 v4 35 := by
  unfold wX4_nameAmong_25
  refine And.intro (by decide) (ifn (by decide) (And.intro (by decide) (ifn (by decide) (And.intro (by decide) (And.intro (by unfold vp_in; decide) (ifn (by decide) ?_))))))
  have q : ¬ PF M [115, 104, 114, 105, 110, 101] 4 → wX4_nameAmong_129 post (wX4_nameAmong_25 post 4) M tl 2 5 v3 35 := fun z => ne_2_36 hI hs hp (v3 + 1) 0 (by rw [e3]; exact nx1 3 _) (Or.inr ⟨rfl, z⟩) hn
  refine ifs (fun c => q (fun z => ?_)) (fun c => ifs (fun c2 => q (fun z => ?_)) (fun c2 => And.intro (by decide) (And.intro (by unfold vp_in; decide) ?_)))
  · rcases h4 with y | y
    · rw [y.1] at c; exact absurd c (by decide)
    · exact y.2 (pf_succ.mp z).1
  · have l := (pf_succ.mp z).2.1
    rw [← e3] at l
    exact absurd l (by clear z q hn h4; lia)
  · refine by_c hI (by rw [e3]; have := nI_lt8 (i := 3) (by decide); clear q hn h4 c2; lia) (ifs (fun c3 => ?_) (fun c3 => q (fun z => ?_)))
    · refine ne_2_36 hI hs hp (v3 + 1) 1 (by rw [e3]; exact nx1 3 _) (Or.inl ⟨rfl, pf_succ.mpr ⟨?_, ?_, ?_⟩⟩) hn
      · rcases h4 with y | y
        · exact y.2
        · exact absurd y.1 c
      · rw [← e3]; clear q hn h4; lia
      · rw [← e3]; exact c3.symm
    · have l := (pf_succ.mp z).2.2
      rw [← e3] at l
      exact c3 l.symm
theorem ne_2_34 {post : Int32 → MM → Int64 → Prop} {M : MM} {tl : Int64} (hI : Inv M) (hs : 0 ≤ M 22 7 ∧ M 22 7 ≤ 400) (hp : ∀ (r : Int32), NQ M ws2 r → post r M tl) (v3 v4 : Int32) (e3 : v3 = M 22 7 + nI 2) (h4 : (v4 = 1 ∧ PF M [115, 104, 114, 105, 110, 101] 2) ∨ (v4 = 0 ∧ ¬ PF M [115, 104, 114, 105, 110, 101] 2)) (hn : ∀ j, j < 5 → ¬ IsW M (ws2.getD j [])) : wX4_nameAmong_25 post (5 + 1) M tl 2 5 v3 v4 34 := by
  unfold wX4_nameAmong_25
  refine And.intro (by decide) (ifn (by decide) (And.intro (by decide) (ifn (by decide) (And.intro (by decide) (And.intro (by unfold vp_in; decide) (ifn (by decide) ?_))))))
  have q : ¬ PF M [115, 104, 114, 105, 110, 101] 3 → wX4_nameAmong_129 post (wX4_nameAmong_25 post 5) M tl 2 5 v3 34 := fun z => ne_2_35 hI hs hp (v3 + 1) 0 (by rw [e3]; exact nx1 2 _) (Or.inr ⟨rfl, z⟩) hn
  refine ifs (fun c => q (fun z => ?_)) (fun c => ifs (fun c2 => q (fun z => ?_)) (fun c2 => And.intro (by decide) (And.intro (by unfold vp_in; decide) ?_)))
  · rcases h4 with y | y
    · rw [y.1] at c; exact absurd c (by decide)
    · exact y.2 (pf_succ.mp z).1
  · have l := (pf_succ.mp z).2.1
    rw [← e3] at l
    exact absurd l (by clear z q hn h4; lia)
  · refine by_c hI (by rw [e3]; have := nI_lt8 (i := 2) (by decide); clear q hn h4 c2; lia) (ifs (fun c3 => ?_) (fun c3 => q (fun z => ?_)))
    · refine ne_2_35 hI hs hp (v3 + 1) 1 (by rw [e3]; exact nx1 2 _) (Or.inl ⟨rfl, pf_succ.mpr ⟨?_, ?_, ?_⟩⟩) hn
      · rcases h4 with y | y
        · exact y.2
        · exact absurd y.1 c
      · rw [← e3]; clear q hn h4; lia
      · rw [← e3]; exact c3.symm
    · have l := (pf_succ.mp z).2.2
      rw [← e3] at l
      exact c3 l.symm
theorem ne_2_33 {post : Int32 → MM → Int64 → Prop} {M : MM} {tl : Int64} (hI : Inv M) (hs : 0 ≤ M 22 7 ∧ M 22 7 ≤ 400) (hp : ∀ (r : Int32), NQ M ws2 r → post r M tl) (v3 v4 : Int32) (e3 : v3 = M 22 7 + nI 1) (h4 : (v4 = 1 ∧ PF M [115, 104, 114, 105, 110, 101] 1) ∨ (v4 = 0 ∧ ¬ PF M [115, 104, 114, 105, 110, 101] 1)) (hn : ∀ j, j < 5 → ¬ IsW M (ws2.getD j [])) : wX4_nameAmong_25 post (6 + 1) M tl 2 5 v3 v4 33 := by
  unfold wX4_nameAmong_25
  refine And.intro (by decide) (ifn (by decide) (And.intro (by decide) (ifn (by decide) (And.intro (by decide) (And.intro (by unfold vp_in; decide) (ifn (by decide) ?_))))))
  have q : ¬ PF M [115, 104, 114, 105, 110, 101] 2 → wX4_nameAmong_129 post (wX4_nameAmong_25 post 6) M tl 2 5 v3 33 := fun z => ne_2_34 hI hs hp (v3 + 1) 0 (by rw [e3]; exact nx1 1 _) (Or.inr ⟨rfl, z⟩) hn
  refine ifs (fun c => q (fun z => ?_)) (fun c => ifs (fun c2 => q (fun z => ?_)) (fun c2 => And.intro (by decide) (And.intro (by unfold vp_in; decide) ?_)))
  · rcases h4 with y | y
    · rw [y.1] at c; exact absurd c (by decide)
    · exact y.2 (pf_succ.mp z).1
  · have l := (pf_succ.mp z).2.1
    rw [← e3] at l
    exact absurd l (by clear z q hn h4; lia)
  · refine by_c hI (by rw [e3]; have := nI_lt8 (i := 1) (by decide); clear q hn h4 c2; lia) (ifs (fun c3 => ?_) (fun c3 => q (fun z => ?_)))
    · refine ne_2_34 hI hs hp (v3 + 1) 1 (by rw [e3]; exact nx1 1 _) (Or.inl ⟨rfl, pf_succ.mpr ⟨?_, ?_, ?_⟩⟩) hn
      · rcases h4 with y | y
        · exact y.2
        · exact absurd y.1 c
      · rw [← e3]; clear q hn h4; lia
      · rw [← e3]; exact c3.symm
    · have l := (pf_succ.mp z).2.2
      rw [← e3] at l
      exact c3 l.symm
theorem ne_2_32 {post : Int32 → MM → Int64 → Prop} {M : MM} {tl : Int64} (hI : Inv M) (hs : 0 ≤ M 22 7 ∧ M 22 7 ≤ 400) (hp : ∀ (r : Int32), NQ M ws2 r → post r M tl) (v3 v4 : Int32) (e3 : v3 = M 22 7 + nI 0) (h4 : (v4 = 1 ∧ PF M [115, 104, 114, 105, 110, 101] 0) ∨ (v4 = 0 ∧ ¬ PF M [115, 104, 114, 105, 110, 101] 0)) (hn : ∀ j, j < 5 → ¬ IsW M (ws2.getD j [])) : wX4_nameAmong_25 post (7 + 1) M tl 2 5 v3 v4 32 := by
  unfold wX4_nameAmong_25
  refine And.intro (by decide) (ifn (by decide) (And.intro (by decide) (ifn (by decide) (And.intro (by decide) (And.intro (by unfold vp_in; decide) (ifn (by decide) ?_))))))
  have q : ¬ PF M [115, 104, 114, 105, 110, 101] 1 → wX4_nameAmong_129 post (wX4_nameAmong_25 post 7) M tl 2 5 v3 32 := fun z => ne_2_33 hI hs hp (v3 + 1) 0 (by rw [e3]; exact nx1 0 _) (Or.inr ⟨rfl, z⟩) hn
  refine ifs (fun c => q (fun z => ?_)) (fun c => ifs (fun c2 => q (fun z => ?_)) (fun c2 => And.intro (by decide) (And.intro (by unfold vp_in; decide) ?_)))
  · rcases h4 with y | y
    · rw [y.1] at c; exact absurd c (by decide)
    · exact y.2 (pf_succ.mp z).1
  · have l := (pf_succ.mp z).2.1
    rw [← e3] at l
    exact absurd l (by clear z q hn h4; lia)
  · refine by_c hI (by rw [e3]; have := nI_lt8 (i := 0) (by decide); clear q hn h4 c2; lia) (ifs (fun c3 => ?_) (fun c3 => q (fun z => ?_)))
    · refine ne_2_33 hI hs hp (v3 + 1) 1 (by rw [e3]; exact nx1 0 _) (Or.inl ⟨rfl, pf_succ.mpr ⟨?_, ?_, ?_⟩⟩) hn
      · rcases h4 with y | y
        · exact y.2
        · exact absurd y.1 c
      · rw [← e3]; clear q hn h4; lia
      · rw [← e3]; exact c3.symm
    · have l := (pf_succ.mp z).2.2
      rw [← e3] at l
      exact c3 l.symm
theorem ne_2_31 {post : Int32 → MM → Int64 → Prop} {M : MM} {tl : Int64} (hI : Inv M) (hs : 0 ≤ M 22 7 ∧ M 22 7 ≤ 400) (hp : ∀ (r : Int32), NQ M ws2 r → post r M tl) (v3 v4 : Int32) (e3 : v3 = M 22 7 + nI 5) (h4 : (v4 = 1 ∧ PF M [116, 111, 119, 101, 114] 5) ∨ (v4 = 0 ∧ ¬ PF M [116, 111, 119, 101, 114] 5)) (hn : ∀ j, j < 4 → ¬ IsW M (ws2.getD j [])) : wX4_nameAmong_25 post (8 + 1) M tl 2 4 v3 v4 31 := by
  unfold wX4_nameAmong_25
  refine And.intro (by decide) (ifn (by decide) (And.intro (by decide) (ifn (by decide) (And.intro (by decide) (And.intro (by unfold vp_in; decide) (ifp (by decide) ?_))))))
  unfold wX4_nameAmong_54
  have q : ¬ IsW M [116, 111, 119, 101, 114] → wX4_nameAmong_69 post (wX4_nameAmong_25 post 8) M tl 2 4 31 := by
    intro nz
    have hn2 : ∀ j, j < 5 → ¬ IsW M (ws2.getD j []) := fun j hj => by
      by_cases e : j = 4
      · subst e; exact nz
      · exact hn j (by omega)
    unfold wX4_nameAmong_69
    exact ifs (fun c => ne_2_32 hI hs hp (M 22 7) 1 (nx0 _) (Or.inl ⟨rfl, pf_zero c⟩) hn2) (fun c => ne_2_32 hI hs hp (M 22 7) 0 (nx0 _) (Or.inr ⟨rfl, fun z => c z.1⟩) hn2)
  refine ifs (fun c => q (fun z => ?_)) (fun c => ifs (fun c2 => hp _ (Or.inr ⟨4, (by decide), rfl, ?_⟩)) (fun c2 => q (fun z => ?_)))
  · rcases h4 with y | y
    · rw [y.1] at c; exact absurd c (by decide)
    · exact y.2 (pf_of hs (by decide) z).1
  · rcases h4 with y | y
    · exact isw_of y.2 (e3.symm.trans c2)
    · exact absurd y.1 c
  · exact c2 (e3.trans (pf_of hs (by decide) z).2)
theorem ne_2_30 {post : Int32 → MM → Int64 → Prop} {M : MM} {tl : Int64} (hI : Inv M) (hs : 0 ≤ M 22 7 ∧ M 22 7 ≤ 400) (hp : ∀ (r : Int32), NQ M ws2 r → post r M tl) (v3 v4 : Int32) (e3 : v3 = M 22 7 + nI 4) (h4 : (v4 = 1 ∧ PF M [116, 111, 119, 101, 114] 4) ∨ (v4 = 0 ∧ ¬ PF M [116, 111, 119, 101, 114] 4)) (hn : ∀ j, j < 4 → ¬ IsW M (ws2.getD j [])) : wX4_nameAmong_25 post (9 + 1) M tl 2 4 v3 v4 30 := by
  unfold wX4_nameAmong_25
  refine And.intro (by decide) (ifn (by decide) (And.intro (by decide) (ifn (by decide) (And.intro (by decide) (And.intro (by unfold vp_in; decide) (ifn (by decide) ?_))))))
  have q : ¬ PF M [116, 111, 119, 101, 114] 5 → wX4_nameAmong_129 post (wX4_nameAmong_25 post 9) M tl 2 4 v3 30 := fun z => ne_2_31 hI hs hp (v3 + 1) 0 (by rw [e3]; exact nx1 4 _) (Or.inr ⟨rfl, z⟩) hn
  refine ifs (fun c => q (fun z => ?_)) (fun c => ifs (fun c2 => q (fun z => ?_)) (fun c2 => And.intro (by decide) (And.intro (by unfold vp_in; decide) ?_)))
  · rcases h4 with y | y
    · rw [y.1] at c; exact absurd c (by decide)
    · exact y.2 (pf_succ.mp z).1
  · have l := (pf_succ.mp z).2.1
    rw [← e3] at l
    exact absurd l (by clear z q hn h4; lia)
  · refine by_c hI (by rw [e3]; have := nI_lt8 (i := 4) (by decide); clear q hn h4 c2; lia) (ifs (fun c3 => ?_) (fun c3 => q (fun z => ?_)))
    · refine ne_2_31 hI hs hp (v3 + 1) 1 (by rw [e3]; exact nx1 4 _) (Or.inl ⟨rfl, pf_succ.mpr ⟨?_, ?_, ?_⟩⟩) hn
      · rcases h4 with y | y
        · exact y.2
        · exact absurd y.1 c
      · rw [← e3]; clear q hn h4; lia
      · rw [← e3]; exact c3.symm
    · have l := (pf_succ.mp z).2.2
      rw [← e3] at l
      exact c3 l.symm
theorem ne_2_29 {post : Int32 → MM → Int64 → Prop} {M : MM} {tl : Int64} (hI : Inv M) (hs : 0 ≤ M 22 7 ∧ M 22 7 ≤ 400) (hp : ∀ (r : Int32), NQ M ws2 r → post r M tl) (v3 v4 : Int32) (e3 : v3 = M 22 7 + nI 3) (h4 : (v4 = 1 ∧ PF M [116, 111, 119, 101, 114] 3) ∨ (v4 = 0 ∧ ¬ PF M [116, 111, 119, 101, 114] 3)) (hn : ∀ j, j < 4 → ¬ IsW M (ws2.getD j [])) : wX4_nameAmong_25 post (10 + 1) M tl 2 4 v3 v4 29 := by
  unfold wX4_nameAmong_25
  refine And.intro (by decide) (ifn (by decide) (And.intro (by decide) (ifn (by decide) (And.intro (by decide) (And.intro (by unfold vp_in; decide) (ifn (by decide) ?_))))))
  have q : ¬ PF M [116, 111, 119, 101, 114] 4 → wX4_nameAmong_129 post (wX4_nameAmong_25 post 10) M tl 2 4 v3 29 := fun z => ne_2_30 hI hs hp (v3 + 1) 0 (by rw [e3]; exact nx1 3 _) (Or.inr ⟨rfl, z⟩) hn
  refine ifs (fun c => q (fun z => ?_)) (fun c => ifs (fun c2 => q (fun z => ?_)) (fun c2 => And.intro (by decide) (And.intro (by unfold vp_in; decide) ?_)))
  · rcases h4 with y | y
    · rw [y.1] at c; exact absurd c (by decide)
    · exact y.2 (pf_succ.mp z).1
  · have l := (pf_succ.mp z).2.1
    rw [← e3] at l
    exact absurd l (by clear z q hn h4; lia)
  · refine by_c hI (by rw [e3]; have := nI_lt8 (i := 3) (by decide); clear q hn h4 c2; lia) (ifs (fun c3 => ?_) (fun c3 => q (fun z => ?_)))
    · refine ne_2_30 hI hs hp (v3 + 1) 1 (by rw [e3]; exact nx1 3 _) (Or.inl ⟨rfl, pf_succ.mpr ⟨?_, ?_, ?_⟩⟩) hn
      · rcases h4 with y | y
        · exact y.2
        · exact absurd y.1 c
      · rw [← e3]; clear q hn h4; lia
      · rw [← e3]; exact c3.symm
    · have l := (pf_succ.mp z).2.2
      rw [← e3] at l
      exact c3 l.symm
theorem ne_2_28 {post : Int32 → MM → Int64 → Prop} {M : MM} {tl : Int64} (hI : Inv M) (hs : 0 ≤ M 22 7 ∧ M 22 7 ≤ 400) (hp : ∀ (r : Int32), NQ M ws2 r → post r M tl) (v3 v4 : Int32) (e3 : v3 = M 22 7 + nI 2) (h4 : (v4 = 1 ∧ PF M [116, 111, 119, 101, 114] 2) ∨ (v4 = 0 ∧ ¬ PF M [116, 111, 119, 101, 114] 2)) (hn : ∀ j, j < 4 → ¬ IsW M (ws2.getD j [])) : wX4_nameAmong_25 post (11 + 1) M tl 2 4 v3 v4 28 := by
  unfold wX4_nameAmong_25
  refine And.intro (by decide) (ifn (by decide) (And.intro (by decide) (ifn (by decide) (And.intro (by decide) (And.intro (by unfold vp_in; decide) (ifn (by decide) ?_))))))
  have q : ¬ PF M [116, 111, 119, 101, 114] 3 → wX4_nameAmong_129 post (wX4_nameAmong_25 post 11) M tl 2 4 v3 28 := fun z => ne_2_29 hI hs hp (v3 + 1) 0 (by rw [e3]; exact nx1 2 _) (Or.inr ⟨rfl, z⟩) hn
  refine ifs (fun c => q (fun z => ?_)) (fun c => ifs (fun c2 => q (fun z => ?_)) (fun c2 => And.intro (by decide) (And.intro (by unfold vp_in; decide) ?_)))
  · rcases h4 with y | y
    · rw [y.1] at c; exact absurd c (by decide)
    · exact y.2 (pf_succ.mp z).1
  · have l := (pf_succ.mp z).2.1
    rw [← e3] at l
    exact absurd l (by clear z q hn h4; lia)
  · refine by_c hI (by rw [e3]; have := nI_lt8 (i := 2) (by decide); clear q hn h4 c2; lia) (ifs (fun c3 => ?_) (fun c3 => q (fun z => ?_)))
    · refine ne_2_29 hI hs hp (v3 + 1) 1 (by rw [e3]; exact nx1 2 _) (Or.inl ⟨rfl, pf_succ.mpr ⟨?_, ?_, ?_⟩⟩) hn
      · rcases h4 with y | y
        · exact y.2
        · exact absurd y.1 c
      · rw [← e3]; clear q hn h4; lia
      · rw [← e3]; exact c3.symm
    · have l := (pf_succ.mp z).2.2
      rw [← e3] at l
      exact c3 l.symm
theorem ne_2_27 {post : Int32 → MM → Int64 → Prop} {M : MM} {tl : Int64} (hI : Inv M) (hs : 0 ≤ M 22 7 ∧ M 22 7 ≤ 400) (hp : ∀ (r : Int32), NQ M ws2 r → post r M tl) (v3 v4 : Int32) (e3 : v3 = M 22 7 + nI 1) (h4 : (v4 = 1 ∧ PF M [116, 111, 119, 101, 114] 1) ∨ (v4 = 0 ∧ ¬ PF M [116, 111, 119, 101, 114] 1)) (hn : ∀ j, j < 4 → ¬ IsW M (ws2.getD j [])) : wX4_nameAmong_25 post (12 + 1) M tl 2 4 v3 v4 27 := by
  unfold wX4_nameAmong_25
  refine And.intro (by decide) (ifn (by decide) (And.intro (by decide) (ifn (by decide) (And.intro (by decide) (And.intro (by unfold vp_in; decide) (ifn (by decide) ?_))))))
  have q : ¬ PF M [116, 111, 119, 101, 114] 2 → wX4_nameAmong_129 post (wX4_nameAmong_25 post 12) M tl 2 4 v3 27 := fun z => ne_2_28 hI hs hp (v3 + 1) 0 (by rw [e3]; exact nx1 1 _) (Or.inr ⟨rfl, z⟩) hn
  refine ifs (fun c => q (fun z => ?_)) (fun c => ifs (fun c2 => q (fun z => ?_)) (fun c2 => And.intro (by decide) (And.intro (by unfold vp_in; decide) ?_)))
  · rcases h4 with y | y
    · rw [y.1] at c; exact absurd c (by decide)
    · exact y.2 (pf_succ.mp z).1
  · have l := (pf_succ.mp z).2.1
    rw [← e3] at l
    exact absurd l (by clear z q hn h4; lia)
  · refine by_c hI (by rw [e3]; have := nI_lt8 (i := 1) (by decide); clear q hn h4 c2; lia) (ifs (fun c3 => ?_) (fun c3 => q (fun z => ?_)))
    · refine ne_2_28 hI hs hp (v3 + 1) 1 (by rw [e3]; exact nx1 1 _) (Or.inl ⟨rfl, pf_succ.mpr ⟨?_, ?_, ?_⟩⟩) hn
      · rcases h4 with y | y
        · exact y.2
        · exact absurd y.1 c
      · rw [← e3]; clear q hn h4; lia
      · rw [← e3]; exact c3.symm
    · have l := (pf_succ.mp z).2.2
      rw [← e3] at l
      exact c3 l.symm
theorem ne_2_26 {post : Int32 → MM → Int64 → Prop} {M : MM} {tl : Int64} (hI : Inv M) (hs : 0 ≤ M 22 7 ∧ M 22 7 ≤ 400) (hp : ∀ (r : Int32), NQ M ws2 r → post r M tl) (v3 v4 : Int32) (e3 : v3 = M 22 7 + nI 0) (h4 : (v4 = 1 ∧ PF M [116, 111, 119, 101, 114] 0) ∨ (v4 = 0 ∧ ¬ PF M [116, 111, 119, 101, 114] 0)) (hn : ∀ j, j < 4 → ¬ IsW M (ws2.getD j [])) : wX4_nameAmong_25 post (13 + 1) M tl 2 4 v3 v4 26 := by
  unfold wX4_nameAmong_25
  refine And.intro (by decide) (ifn (by decide) (And.intro (by decide) (ifn (by decide) (And.intro (by decide) (And.intro (by unfold vp_in; decide) (ifn (by decide) ?_))))))
  have q : ¬ PF M [116, 111, 119, 101, 114] 1 → wX4_nameAmong_129 post (wX4_nameAmong_25 post 13) M tl 2 4 v3 26 := fun z => ne_2_27 hI hs hp (v3 + 1) 0 (by rw [e3]; exact nx1 0 _) (Or.inr ⟨rfl, z⟩) hn
  refine ifs (fun c => q (fun z => ?_)) (fun c => ifs (fun c2 => q (fun z => ?_)) (fun c2 => And.intro (by decide) (And.intro (by unfold vp_in; decide) ?_)))
  · rcases h4 with y | y
    · rw [y.1] at c; exact absurd c (by decide)
    · exact y.2 (pf_succ.mp z).1
  · have l := (pf_succ.mp z).2.1
    rw [← e3] at l
    exact absurd l (by clear z q hn h4; lia)
  · refine by_c hI (by rw [e3]; have := nI_lt8 (i := 0) (by decide); clear q hn h4 c2; lia) (ifs (fun c3 => ?_) (fun c3 => q (fun z => ?_)))
    · refine ne_2_27 hI hs hp (v3 + 1) 1 (by rw [e3]; exact nx1 0 _) (Or.inl ⟨rfl, pf_succ.mpr ⟨?_, ?_, ?_⟩⟩) hn
      · rcases h4 with y | y
        · exact y.2
        · exact absurd y.1 c
      · rw [← e3]; clear q hn h4; lia
      · rw [← e3]; exact c3.symm
    · have l := (pf_succ.mp z).2.2
      rw [← e3] at l
      exact c3 l.symm
theorem ne_2_25 {post : Int32 → MM → Int64 → Prop} {M : MM} {tl : Int64} (hI : Inv M) (hs : 0 ≤ M 22 7 ∧ M 22 7 ≤ 400) (hp : ∀ (r : Int32), NQ M ws2 r → post r M tl) (v3 v4 : Int32) (e3 : v3 = M 22 7 + nI 4) (h4 : (v4 = 1 ∧ PF M [115, 104, 111, 112] 4) ∨ (v4 = 0 ∧ ¬ PF M [115, 104, 111, 112] 4)) (hn : ∀ j, j < 3 → ¬ IsW M (ws2.getD j [])) : wX4_nameAmong_25 post (14 + 1) M tl 2 3 v3 v4 25 := by
  unfold wX4_nameAmong_25
  refine And.intro (by decide) (ifn (by decide) (And.intro (by decide) (ifn (by decide) (And.intro (by decide) (And.intro (by unfold vp_in; decide) (ifp (by decide) ?_))))))
  unfold wX4_nameAmong_54
  have q : ¬ IsW M [115, 104, 111, 112] → wX4_nameAmong_69 post (wX4_nameAmong_25 post 14) M tl 2 3 25 := by
    intro nz
    have hn2 : ∀ j, j < 4 → ¬ IsW M (ws2.getD j []) := fun j hj => by
      by_cases e : j = 3
      · subst e; exact nz
      · exact hn j (by omega)
    unfold wX4_nameAmong_69
    exact ifs (fun c => ne_2_26 hI hs hp (M 22 7) 1 (nx0 _) (Or.inl ⟨rfl, pf_zero c⟩) hn2) (fun c => ne_2_26 hI hs hp (M 22 7) 0 (nx0 _) (Or.inr ⟨rfl, fun z => c z.1⟩) hn2)
  refine ifs (fun c => q (fun z => ?_)) (fun c => ifs (fun c2 => hp _ (Or.inr ⟨3, (by decide), rfl, ?_⟩)) (fun c2 => q (fun z => ?_)))
  · rcases h4 with y | y
    · rw [y.1] at c; exact absurd c (by decide)
    · exact y.2 (pf_of hs (by decide) z).1
  · rcases h4 with y | y
    · exact isw_of y.2 (e3.symm.trans c2)
    · exact absurd y.1 c
  · exact c2 (e3.trans (pf_of hs (by decide) z).2)
theorem ne_2_24 {post : Int32 → MM → Int64 → Prop} {M : MM} {tl : Int64} (hI : Inv M) (hs : 0 ≤ M 22 7 ∧ M 22 7 ≤ 400) (hp : ∀ (r : Int32), NQ M ws2 r → post r M tl) (v3 v4 : Int32) (e3 : v3 = M 22 7 + nI 3) (h4 : (v4 = 1 ∧ PF M [115, 104, 111, 112] 3) ∨ (v4 = 0 ∧ ¬ PF M [115, 104, 111, 112] 3)) (hn : ∀ j, j < 3 → ¬ IsW M (ws2.getD j [])) : wX4_nameAmong_25 post (15 + 1) M tl 2 3 v3 v4 24 := by
  unfold wX4_nameAmong_25
  refine And.intro (by decide) (ifn (by decide) (And.intro (by decide) (ifn (by decide) (And.intro (by decide) (And.intro (by unfold vp_in; decide) (ifn (by decide) ?_))))))
  have q : ¬ PF M [115, 104, 111, 112] 4 → wX4_nameAmong_129 post (wX4_nameAmong_25 post 15) M tl 2 3 v3 24 := fun z => ne_2_25 hI hs hp (v3 + 1) 0 (by rw [e3]; exact nx1 3 _) (Or.inr ⟨rfl, z⟩) hn
  refine ifs (fun c => q (fun z => ?_)) (fun c => ifs (fun c2 => q (fun z => ?_)) (fun c2 => And.intro (by decide) (And.intro (by unfold vp_in; decide) ?_)))
  · rcases h4 with y | y
    · rw [y.1] at c; exact absurd c (by decide)
    · exact y.2 (pf_succ.mp z).1
  · have l := (pf_succ.mp z).2.1
    rw [← e3] at l
    exact absurd l (by clear z q hn h4; lia)
  · refine by_c hI (by rw [e3]; have := nI_lt8 (i := 3) (by decide); clear q hn h4 c2; lia) (ifs (fun c3 => ?_) (fun c3 => q (fun z => ?_)))
    · refine ne_2_25 hI hs hp (v3 + 1) 1 (by rw [e3]; exact nx1 3 _) (Or.inl ⟨rfl, pf_succ.mpr ⟨?_, ?_, ?_⟩⟩) hn
      · rcases h4 with y | y
        · exact y.2
        · exact absurd y.1 c
      · rw [← e3]; clear q hn h4; lia
      · rw [← e3]; exact c3.symm
    · have l := (pf_succ.mp z).2.2
      rw [← e3] at l
      exact c3 l.symm
theorem ne_2_23 {post : Int32 → MM → Int64 → Prop} {M : MM} {tl : Int64} (hI : Inv M) (hs : 0 ≤ M 22 7 ∧ M 22 7 ≤ 400) (hp : ∀ (r : Int32), NQ M ws2 r → post r M tl) (v3 v4 : Int32) (e3 : v3 = M 22 7 + nI 2) (h4 : (v4 = 1 ∧ PF M [115, 104, 111, 112] 2) ∨ (v4 = 0 ∧ ¬ PF M [115, 104, 111, 112] 2)) (hn : ∀ j, j < 3 → ¬ IsW M (ws2.getD j [])) : wX4_nameAmong_25 post (16 + 1) M tl 2 3 v3 v4 23 := by
  unfold wX4_nameAmong_25
  refine And.intro (by decide) (ifn (by decide) (And.intro (by decide) (ifn (by decide) (And.intro (by decide) (And.intro (by unfold vp_in; decide) (ifn (by decide) ?_))))))
  have q : ¬ PF M [115, 104, 111, 112] 3 → wX4_nameAmong_129 post (wX4_nameAmong_25 post 16) M tl 2 3 v3 23 := fun z => ne_2_24 hI hs hp (v3 + 1) 0 (by rw [e3]; exact nx1 2 _) (Or.inr ⟨rfl, z⟩) hn
  refine ifs (fun c => q (fun z => ?_)) (fun c => ifs (fun c2 => q (fun z => ?_)) (fun c2 => And.intro (by decide) (And.intro (by unfold vp_in; decide) ?_)))
  · rcases h4 with y | y
    · rw [y.1] at c; exact absurd c (by decide)
    · exact y.2 (pf_succ.mp z).1
  · have l := (pf_succ.mp z).2.1
    rw [← e3] at l
    exact absurd l (by clear z q hn h4; lia)
  · refine by_c hI (by rw [e3]; have := nI_lt8 (i := 2) (by decide); clear q hn h4 c2; lia) (ifs (fun c3 => ?_) (fun c3 => q (fun z => ?_)))
    · refine ne_2_24 hI hs hp (v3 + 1) 1 (by rw [e3]; exact nx1 2 _) (Or.inl ⟨rfl, pf_succ.mpr ⟨?_, ?_, ?_⟩⟩) hn
      · rcases h4 with y | y
        · exact y.2
        · exact absurd y.1 c
      · rw [← e3]; clear q hn h4; lia
      · rw [← e3]; exact c3.symm
    · have l := (pf_succ.mp z).2.2
      rw [← e3] at l
      exact c3 l.symm
theorem ne_2_22 {post : Int32 → MM → Int64 → Prop} {M : MM} {tl : Int64} (hI : Inv M) (hs : 0 ≤ M 22 7 ∧ M 22 7 ≤ 400) (hp : ∀ (r : Int32), NQ M ws2 r → post r M tl) (v3 v4 : Int32) (e3 : v3 = M 22 7 + nI 1) (h4 : (v4 = 1 ∧ PF M [115, 104, 111, 112] 1) ∨ (v4 = 0 ∧ ¬ PF M [115, 104, 111, 112] 1)) (hn : ∀ j, j < 3 → ¬ IsW M (ws2.getD j [])) : wX4_nameAmong_25 post (17 + 1) M tl 2 3 v3 v4 22 := by
  unfold wX4_nameAmong_25
  refine And.intro (by decide) (ifn (by decide) (And.intro (by decide) (ifn (by decide) (And.intro (by decide) (And.intro (by unfold vp_in; decide) (ifn (by decide) ?_))))))
  have q : ¬ PF M [115, 104, 111, 112] 2 → wX4_nameAmong_129 post (wX4_nameAmong_25 post 17) M tl 2 3 v3 22 := fun z => ne_2_23 hI hs hp (v3 + 1) 0 (by rw [e3]; exact nx1 1 _) (Or.inr ⟨rfl, z⟩) hn
  refine ifs (fun c => q (fun z => ?_)) (fun c => ifs (fun c2 => q (fun z => ?_)) (fun c2 => And.intro (by decide) (And.intro (by unfold vp_in; decide) ?_)))
  · rcases h4 with y | y
    · rw [y.1] at c; exact absurd c (by decide)
    · exact y.2 (pf_succ.mp z).1
  · have l := (pf_succ.mp z).2.1
    rw [← e3] at l
    exact absurd l (by clear z q hn h4; lia)
  · refine by_c hI (by rw [e3]; have := nI_lt8 (i := 1) (by decide); clear q hn h4 c2; lia) (ifs (fun c3 => ?_) (fun c3 => q (fun z => ?_)))
    · refine ne_2_23 hI hs hp (v3 + 1) 1 (by rw [e3]; exact nx1 1 _) (Or.inl ⟨rfl, pf_succ.mpr ⟨?_, ?_, ?_⟩⟩) hn
      · rcases h4 with y | y
        · exact y.2
        · exact absurd y.1 c
      · rw [← e3]; clear q hn h4; lia
      · rw [← e3]; exact c3.symm
    · have l := (pf_succ.mp z).2.2
      rw [← e3] at l
      exact c3 l.symm
theorem ne_2_21 {post : Int32 → MM → Int64 → Prop} {M : MM} {tl : Int64} (hI : Inv M) (hs : 0 ≤ M 22 7 ∧ M 22 7 ≤ 400) (hp : ∀ (r : Int32), NQ M ws2 r → post r M tl) (v3 v4 : Int32) (e3 : v3 = M 22 7 + nI 0) (h4 : (v4 = 1 ∧ PF M [115, 104, 111, 112] 0) ∨ (v4 = 0 ∧ ¬ PF M [115, 104, 111, 112] 0)) (hn : ∀ j, j < 3 → ¬ IsW M (ws2.getD j [])) : wX4_nameAmong_25 post (18 + 1) M tl 2 3 v3 v4 21 := by
  unfold wX4_nameAmong_25
  refine And.intro (by decide) (ifn (by decide) (And.intro (by decide) (ifn (by decide) (And.intro (by decide) (And.intro (by unfold vp_in; decide) (ifn (by decide) ?_))))))
  have q : ¬ PF M [115, 104, 111, 112] 1 → wX4_nameAmong_129 post (wX4_nameAmong_25 post 18) M tl 2 3 v3 21 := fun z => ne_2_22 hI hs hp (v3 + 1) 0 (by rw [e3]; exact nx1 0 _) (Or.inr ⟨rfl, z⟩) hn
  refine ifs (fun c => q (fun z => ?_)) (fun c => ifs (fun c2 => q (fun z => ?_)) (fun c2 => And.intro (by decide) (And.intro (by unfold vp_in; decide) ?_)))
  · rcases h4 with y | y
    · rw [y.1] at c; exact absurd c (by decide)
    · exact y.2 (pf_succ.mp z).1
  · have l := (pf_succ.mp z).2.1
    rw [← e3] at l
    exact absurd l (by clear z q hn h4; lia)
  · refine by_c hI (by rw [e3]; have := nI_lt8 (i := 0) (by decide); clear q hn h4 c2; lia) (ifs (fun c3 => ?_) (fun c3 => q (fun z => ?_)))
    · refine ne_2_22 hI hs hp (v3 + 1) 1 (by rw [e3]; exact nx1 0 _) (Or.inl ⟨rfl, pf_succ.mpr ⟨?_, ?_, ?_⟩⟩) hn
      · rcases h4 with y | y
        · exact y.2
        · exact absurd y.1 c
      · rw [← e3]; clear q hn h4; lia
      · rw [← e3]; exact c3.symm
    · have l := (pf_succ.mp z).2.2
      rw [← e3] at l
      exact c3 l.symm
theorem ne_2_20 {post : Int32 → MM → Int64 → Prop} {M : MM} {tl : Int64} (hI : Inv M) (hs : 0 ≤ M 22 7 ∧ M 22 7 ≤ 400) (hp : ∀ (r : Int32), NQ M ws2 r → post r M tl) (v3 v4 : Int32) (e3 : v3 = M 22 7 + nI 6) (h4 : (v4 = 1 ∧ PF M [103, 97, 114, 100, 101, 110] 6) ∨ (v4 = 0 ∧ ¬ PF M [103, 97, 114, 100, 101, 110] 6)) (hn : ∀ j, j < 2 → ¬ IsW M (ws2.getD j [])) : wX4_nameAmong_25 post (19 + 1) M tl 2 2 v3 v4 20 := by
  unfold wX4_nameAmong_25
  refine And.intro (by decide) (ifn (by decide) (And.intro (by decide) (ifn (by decide) (And.intro (by decide) (And.intro (by unfold vp_in; decide) (ifp (by decide) ?_))))))
  unfold wX4_nameAmong_54
  have q : ¬ IsW M [103, 97, 114, 100, 101, 110] → wX4_nameAmong_69 post (wX4_nameAmong_25 post 19) M tl 2 2 20 := by
    intro nz
    have hn2 : ∀ j, j < 3 → ¬ IsW M (ws2.getD j []) := fun j hj => by
      by_cases e : j = 2
      · subst e; exact nz
      · exact hn j (by omega)
    unfold wX4_nameAmong_69
    exact ifs (fun c => ne_2_21 hI hs hp (M 22 7) 1 (nx0 _) (Or.inl ⟨rfl, pf_zero c⟩) hn2) (fun c => ne_2_21 hI hs hp (M 22 7) 0 (nx0 _) (Or.inr ⟨rfl, fun z => c z.1⟩) hn2)
  refine ifs (fun c => q (fun z => ?_)) (fun c => ifs (fun c2 => hp _ (Or.inr ⟨2, (by decide), rfl, ?_⟩)) (fun c2 => q (fun z => ?_)))
  · rcases h4 with y | y
    · rw [y.1] at c; exact absurd c (by decide)
    · exact y.2 (pf_of hs (by decide) z).1
  · rcases h4 with y | y
    · exact isw_of y.2 (e3.symm.trans c2)
    · exact absurd y.1 c
  · exact c2 (e3.trans (pf_of hs (by decide) z).2)
theorem ne_2_19 {post : Int32 → MM → Int64 → Prop} {M : MM} {tl : Int64} (hI : Inv M) (hs : 0 ≤ M 22 7 ∧ M 22 7 ≤ 400) (hp : ∀ (r : Int32), NQ M ws2 r → post r M tl) (v3 v4 : Int32) (e3 : v3 = M 22 7 + nI 5) (h4 : (v4 = 1 ∧ PF M [103, 97, 114, 100, 101, 110] 5) ∨ (v4 = 0 ∧ ¬ PF M [103, 97, 114, 100, 101, 110] 5)) (hn : ∀ j, j < 2 → ¬ IsW M (ws2.getD j [])) : wX4_nameAmong_25 post (20 + 1) M tl 2 2 v3 v4 19 := by
  unfold wX4_nameAmong_25
  refine And.intro (by decide) (ifn (by decide) (And.intro (by decide) (ifn (by decide) (And.intro (by decide) (And.intro (by unfold vp_in; decide) (ifn (by decide) ?_))))))
  have q : ¬ PF M [103, 97, 114, 100, 101, 110] 6 → wX4_nameAmong_129 post (wX4_nameAmong_25 post 20) M tl 2 2 v3 19 := fun z => ne_2_20 hI hs hp (v3 + 1) 0 (by rw [e3]; exact nx1 5 _) (Or.inr ⟨rfl, z⟩) hn
  refine ifs (fun c => q (fun z => ?_)) (fun c => ifs (fun c2 => q (fun z => ?_)) (fun c2 => And.intro (by decide) (And.intro (by unfold vp_in; decide) ?_)))
  · rcases h4 with y | y
    · rw [y.1] at c; exact absurd c (by decide)
    · exact y.2 (pf_succ.mp z).1
  · have l := (pf_succ.mp z).2.1
    rw [← e3] at l
    exact absurd l (by clear z q hn h4; lia)
  · refine by_c hI (by rw [e3]; have := nI_lt8 (i := 5) (by decide); clear q hn h4 c2; lia) (ifs (fun c3 => ?_) (fun c3 => q (fun z => ?_)))
    · refine ne_2_20 hI hs hp (v3 + 1) 1 (by rw [e3]; exact nx1 5 _) (Or.inl ⟨rfl, pf_succ.mpr ⟨?_, ?_, ?_⟩⟩) hn
      · rcases h4 with y | y
        · exact y.2
        · exact absurd y.1 c
      · rw [← e3]; clear q hn h4; lia
      · rw [← e3]; exact c3.symm
    · have l := (pf_succ.mp z).2.2
      rw [← e3] at l
      exact c3 l.symm
theorem ne_2_18 {post : Int32 → MM → Int64 → Prop} {M : MM} {tl : Int64} (hI : Inv M) (hs : 0 ≤ M 22 7 ∧ M 22 7 ≤ 400) (hp : ∀ (r : Int32), NQ M ws2 r → post r M tl) (v3 v4 : Int32) (e3 : v3 = M 22 7 + nI 4) (h4 : (v4 = 1 ∧ PF M [103, 97, 114, 100, 101, 110] 4) ∨ (v4 = 0 ∧ ¬ PF M [103, 97, 114, 100, 101, 110] 4)) (hn : ∀ j, j < 2 → ¬ IsW M (ws2.getD j [])) : wX4_nameAmong_25 post (21 + 1) M tl 2 2 v3 v4 18 := by
  unfold wX4_nameAmong_25
  refine And.intro (by decide) (ifn (by decide) (And.intro (by decide) (ifn (by decide) (And.intro (by decide) (And.intro (by unfold vp_in; decide) (ifn (by decide) ?_))))))
  have q : ¬ PF M [103, 97, 114, 100, 101, 110] 5 → wX4_nameAmong_129 post (wX4_nameAmong_25 post 21) M tl 2 2 v3 18 := fun z => ne_2_19 hI hs hp (v3 + 1) 0 (by rw [e3]; exact nx1 4 _) (Or.inr ⟨rfl, z⟩) hn
  refine ifs (fun c => q (fun z => ?_)) (fun c => ifs (fun c2 => q (fun z => ?_)) (fun c2 => And.intro (by decide) (And.intro (by unfold vp_in; decide) ?_)))
  · rcases h4 with y | y
    · rw [y.1] at c; exact absurd c (by decide)
    · exact y.2 (pf_succ.mp z).1
  · have l := (pf_succ.mp z).2.1
    rw [← e3] at l
    exact absurd l (by clear z q hn h4; lia)
  · refine by_c hI (by rw [e3]; have := nI_lt8 (i := 4) (by decide); clear q hn h4 c2; lia) (ifs (fun c3 => ?_) (fun c3 => q (fun z => ?_)))
    · refine ne_2_19 hI hs hp (v3 + 1) 1 (by rw [e3]; exact nx1 4 _) (Or.inl ⟨rfl, pf_succ.mpr ⟨?_, ?_, ?_⟩⟩) hn
      · rcases h4 with y | y
        · exact y.2
        · exact absurd y.1 c
      · rw [← e3]; clear q hn h4; lia
      · rw [← e3]; exact c3.symm
    · have l := (pf_succ.mp z).2.2
      rw [← e3] at l
      exact c3 l.symm
theorem ne_2_17 {post : Int32 → MM → Int64 → Prop} {M : MM} {tl : Int64} (hI : Inv M) (hs : 0 ≤ M 22 7 ∧ M 22 7 ≤ 400) (hp : ∀ (r : Int32), NQ M ws2 r → post r M tl) (v3 v4 : Int32) (e3 : v3 = M 22 7 + nI 3) (h4 : (v4 = 1 ∧ PF M [103, 97, 114, 100, 101, 110] 3) ∨ (v4 = 0 ∧ ¬ PF M [103, 97, 114, 100, 101, 110] 3)) (hn : ∀ j, j < 2 → ¬ IsW M (ws2.getD j [])) : wX4_nameAmong_25 post (22 + 1) M tl 2 2 v3 v4 17 := by
  unfold wX4_nameAmong_25
  refine And.intro (by decide) (ifn (by decide) (And.intro (by decide) (ifn (by decide) (And.intro (by decide) (And.intro (by unfold vp_in; decide) (ifn (by decide) ?_))))))
  have q : ¬ PF M [103, 97, 114, 100, 101, 110] 4 → wX4_nameAmong_129 post (wX4_nameAmong_25 post 22) M tl 2 2 v3 17 := fun z => ne_2_18 hI hs hp (v3 + 1) 0 (by rw [e3]; exact nx1 3 _) (Or.inr ⟨rfl, z⟩) hn
  refine ifs (fun c => q (fun z => ?_)) (fun c => ifs (fun c2 => q (fun z => ?_)) (fun c2 => And.intro (by decide) (And.intro (by unfold vp_in; decide) ?_)))
  · rcases h4 with y | y
    · rw [y.1] at c; exact absurd c (by decide)
    · exact y.2 (pf_succ.mp z).1
  · have l := (pf_succ.mp z).2.1
    rw [← e3] at l
    exact absurd l (by clear z q hn h4; lia)
  · refine by_c hI (by rw [e3]; have := nI_lt8 (i := 3) (by decide); clear q hn h4 c2; lia) (ifs (fun c3 => ?_) (fun c3 => q (fun z => ?_)))
    · refine ne_2_18 hI hs hp (v3 + 1) 1 (by rw [e3]; exact nx1 3 _) (Or.inl ⟨rfl, pf_succ.mpr ⟨?_, ?_, ?_⟩⟩) hn
      · rcases h4 with y | y
        · exact y.2
        · exact absurd y.1 c
      · rw [← e3]; clear q hn h4; lia
      · rw [← e3]; exact c3.symm
    · have l := (pf_succ.mp z).2.2
      rw [← e3] at l
      exact c3 l.symm
theorem ne_2_16 {post : Int32 → MM → Int64 → Prop} {M : MM} {tl : Int64} (hI : Inv M) (hs : 0 ≤ M 22 7 ∧ M 22 7 ≤ 400) (hp : ∀ (r : Int32), NQ M ws2 r → post r M tl) (v3 v4 : Int32) (e3 : v3 = M 22 7 + nI 2) (h4 : (v4 = 1 ∧ PF M [103, 97, 114, 100, 101, 110] 2) ∨ (v4 = 0 ∧ ¬ PF M [103, 97, 114, 100, 101, 110] 2)) (hn : ∀ j, j < 2 → ¬ IsW M (ws2.getD j [])) : wX4_nameAmong_25 post (23 + 1) M tl 2 2 v3 v4 16 := by
  unfold wX4_nameAmong_25
  refine And.intro (by decide) (ifn (by decide) (And.intro (by decide) (ifn (by decide) (And.intro (by decide) (And.intro (by unfold vp_in; decide) (ifn (by decide) ?_))))))
  have q : ¬ PF M [103, 97, 114, 100, 101, 110] 3 → wX4_nameAmong_129 post (wX4_nameAmong_25 post 23) M tl 2 2 v3 16 := fun z => ne_2_17 hI hs hp (v3 + 1) 0 (by rw [e3]; exact nx1 2 _) (Or.inr ⟨rfl, z⟩) hn
  refine ifs (fun c => q (fun z => ?_)) (fun c => ifs (fun c2 => q (fun z => ?_)) (fun c2 => And.intro (by decide) (And.intro (by unfold vp_in; decide) ?_)))
  · rcases h4 with y | y
    · rw [y.1] at c; exact absurd c (by decide)
    · exact y.2 (pf_succ.mp z).1
  · have l := (pf_succ.mp z).2.1
    rw [← e3] at l
    exact absurd l (by clear z q hn h4; lia)
  · refine by_c hI (by rw [e3]; have := nI_lt8 (i := 2) (by decide); clear q hn h4 c2; lia) (ifs (fun c3 => ?_) (fun c3 => q (fun z => ?_)))
    · refine ne_2_17 hI hs hp (v3 + 1) 1 (by rw [e3]; exact nx1 2 _) (Or.inl ⟨rfl, pf_succ.mpr ⟨?_, ?_, ?_⟩⟩) hn
      · rcases h4 with y | y
        · exact y.2
        · exact absurd y.1 c
      · rw [← e3]; clear q hn h4; lia
      · rw [← e3]; exact c3.symm
    · have l := (pf_succ.mp z).2.2
      rw [← e3] at l
      exact c3 l.symm
theorem ne_2_15 {post : Int32 → MM → Int64 → Prop} {M : MM} {tl : Int64} (hI : Inv M) (hs : 0 ≤ M 22 7 ∧ M 22 7 ≤ 400) (hp : ∀ (r : Int32), NQ M ws2 r → post r M tl) (v3 v4 : Int32) (e3 : v3 = M 22 7 + nI 1) (h4 : (v4 = 1 ∧ PF M [103, 97, 114, 100, 101, 110] 1) ∨ (v4 = 0 ∧ ¬ PF M [103, 97, 114, 100, 101, 110] 1)) (hn : ∀ j, j < 2 → ¬ IsW M (ws2.getD j [])) : wX4_nameAmong_25 post (24 + 1) M tl 2 2 v3 v4 15 := by
  unfold wX4_nameAmong_25
  refine And.intro (by decide) (ifn (by decide) (And.intro (by decide) (ifn (by decide) (And.intro (by decide) (And.intro (by unfold vp_in; decide) (ifn (by decide) ?_))))))
  have q : ¬ PF M [103, 97, 114, 100, 101, 110] 2 → wX4_nameAmong_129 post (wX4_nameAmong_25 post 24) M tl 2 2 v3 15 := fun z => ne_2_16 hI hs hp (v3 + 1) 0 (by rw [e3]; exact nx1 1 _) (Or.inr ⟨rfl, z⟩) hn
  refine ifs (fun c => q (fun z => ?_)) (fun c => ifs (fun c2 => q (fun z => ?_)) (fun c2 => And.intro (by decide) (And.intro (by unfold vp_in; decide) ?_)))
  · rcases h4 with y | y
    · rw [y.1] at c; exact absurd c (by decide)
    · exact y.2 (pf_succ.mp z).1
  · have l := (pf_succ.mp z).2.1
    rw [← e3] at l
    exact absurd l (by clear z q hn h4; lia)
  · refine by_c hI (by rw [e3]; have := nI_lt8 (i := 1) (by decide); clear q hn h4 c2; lia) (ifs (fun c3 => ?_) (fun c3 => q (fun z => ?_)))
    · refine ne_2_16 hI hs hp (v3 + 1) 1 (by rw [e3]; exact nx1 1 _) (Or.inl ⟨rfl, pf_succ.mpr ⟨?_, ?_, ?_⟩⟩) hn
      · rcases h4 with y | y
        · exact y.2
        · exact absurd y.1 c
      · rw [← e3]; clear q hn h4; lia
      · rw [← e3]; exact c3.symm
    · have l := (pf_succ.mp z).2.2
      rw [← e3] at l
      exact c3 l.symm
theorem ne_2_14 {post : Int32 → MM → Int64 → Prop} {M : MM} {tl : Int64} (hI : Inv M) (hs : 0 ≤ M 22 7 ∧ M 22 7 ≤ 400) (hp : ∀ (r : Int32), NQ M ws2 r → post r M tl) (v3 v4 : Int32) (e3 : v3 = M 22 7 + nI 0) (h4 : (v4 = 1 ∧ PF M [103, 97, 114, 100, 101, 110] 0) ∨ (v4 = 0 ∧ ¬ PF M [103, 97, 114, 100, 101, 110] 0)) (hn : ∀ j, j < 2 → ¬ IsW M (ws2.getD j [])) : wX4_nameAmong_25 post (25 + 1) M tl 2 2 v3 v4 14 := by
  unfold wX4_nameAmong_25
  refine And.intro (by decide) (ifn (by decide) (And.intro (by decide) (ifn (by decide) (And.intro (by decide) (And.intro (by unfold vp_in; decide) (ifn (by decide) ?_))))))
  have q : ¬ PF M [103, 97, 114, 100, 101, 110] 1 → wX4_nameAmong_129 post (wX4_nameAmong_25 post 25) M tl 2 2 v3 14 := fun z => ne_2_15 hI hs hp (v3 + 1) 0 (by rw [e3]; exact nx1 0 _) (Or.inr ⟨rfl, z⟩) hn
  refine ifs (fun c => q (fun z => ?_)) (fun c => ifs (fun c2 => q (fun z => ?_)) (fun c2 => And.intro (by decide) (And.intro (by unfold vp_in; decide) ?_)))
  · rcases h4 with y | y
    · rw [y.1] at c; exact absurd c (by decide)
    · exact y.2 (pf_succ.mp z).1
  · have l := (pf_succ.mp z).2.1
    rw [← e3] at l
    exact absurd l (by clear z q hn h4; lia)
  · refine by_c hI (by rw [e3]; have := nI_lt8 (i := 0) (by decide); clear q hn h4 c2; lia) (ifs (fun c3 => ?_) (fun c3 => q (fun z => ?_)))
    · refine ne_2_15 hI hs hp (v3 + 1) 1 (by rw [e3]; exact nx1 0 _) (Or.inl ⟨rfl, pf_succ.mpr ⟨?_, ?_, ?_⟩⟩) hn
      · rcases h4 with y | y
        · exact y.2
        · exact absurd y.1 c
      · rw [← e3]; clear q hn h4; lia
      · rw [← e3]; exact c3.symm
    · have l := (pf_succ.mp z).2.2
      rw [← e3] at l
      exact c3 l.symm
theorem ne_2_13 {post : Int32 → MM → Int64 → Prop} {M : MM} {tl : Int64} (hI : Inv M) (hs : 0 ≤ M 22 7 ∧ M 22 7 ≤ 400) (hp : ∀ (r : Int32), NQ M ws2 r → post r M tl) (v3 v4 : Int32) (e3 : v3 = M 22 7 + nI 5) (h4 : (v4 = 1 ∧ PF M [104, 111, 117, 115, 101] 5) ∨ (v4 = 0 ∧ ¬ PF M [104, 111, 117, 115, 101] 5)) (hn : ∀ j, j < 1 → ¬ IsW M (ws2.getD j [])) : wX4_nameAmong_25 post (26 + 1) M tl 2 1 v3 v4 13 := by
  unfold wX4_nameAmong_25
  refine And.intro (by decide) (ifn (by decide) (And.intro (by decide) (ifn (by decide) (And.intro (by decide) (And.intro (by unfold vp_in; decide) (ifp (by decide) ?_))))))
  unfold wX4_nameAmong_54
  have q : ¬ IsW M [104, 111, 117, 115, 101] → wX4_nameAmong_69 post (wX4_nameAmong_25 post 26) M tl 2 1 13 := by
    intro nz
    have hn2 : ∀ j, j < 2 → ¬ IsW M (ws2.getD j []) := fun j hj => by
      by_cases e : j = 1
      · subst e; exact nz
      · exact hn j (by omega)
    unfold wX4_nameAmong_69
    exact ifs (fun c => ne_2_14 hI hs hp (M 22 7) 1 (nx0 _) (Or.inl ⟨rfl, pf_zero c⟩) hn2) (fun c => ne_2_14 hI hs hp (M 22 7) 0 (nx0 _) (Or.inr ⟨rfl, fun z => c z.1⟩) hn2)
  refine ifs (fun c => q (fun z => ?_)) (fun c => ifs (fun c2 => hp _ (Or.inr ⟨1, (by decide), rfl, ?_⟩)) (fun c2 => q (fun z => ?_)))
  · rcases h4 with y | y
    · rw [y.1] at c; exact absurd c (by decide)
    · exact y.2 (pf_of hs (by decide) z).1
  · rcases h4 with y | y
    · exact isw_of y.2 (e3.symm.trans c2)
    · exact absurd y.1 c
  · exact c2 (e3.trans (pf_of hs (by decide) z).2)
theorem ne_2_12 {post : Int32 → MM → Int64 → Prop} {M : MM} {tl : Int64} (hI : Inv M) (hs : 0 ≤ M 22 7 ∧ M 22 7 ≤ 400) (hp : ∀ (r : Int32), NQ M ws2 r → post r M tl) (v3 v4 : Int32) (e3 : v3 = M 22 7 + nI 4) (h4 : (v4 = 1 ∧ PF M [104, 111, 117, 115, 101] 4) ∨ (v4 = 0 ∧ ¬ PF M [104, 111, 117, 115, 101] 4)) (hn : ∀ j, j < 1 → ¬ IsW M (ws2.getD j [])) : wX4_nameAmong_25 post (27 + 1) M tl 2 1 v3 v4 12 := by
  unfold wX4_nameAmong_25
  refine And.intro (by decide) (ifn (by decide) (And.intro (by decide) (ifn (by decide) (And.intro (by decide) (And.intro (by unfold vp_in; decide) (ifn (by decide) ?_))))))
  have q : ¬ PF M [104, 111, 117, 115, 101] 5 → wX4_nameAmong_129 post (wX4_nameAmong_25 post 27) M tl 2 1 v3 12 := fun z => ne_2_13 hI hs hp (v3 + 1) 0 (by rw [e3]; exact nx1 4 _) (Or.inr ⟨rfl, z⟩) hn
  refine ifs (fun c => q (fun z => ?_)) (fun c => ifs (fun c2 => q (fun z => ?_)) (fun c2 => And.intro (by decide) (And.intro (by unfold vp_in; decide) ?_)))
  · rcases h4 with y | y
    · rw [y.1] at c; exact absurd c (by decide)
    · exact y.2 (pf_succ.mp z).1
  · have l := (pf_succ.mp z).2.1
    rw [← e3] at l
    exact absurd l (by clear z q hn h4; lia)
  · refine by_c hI (by rw [e3]; have := nI_lt8 (i := 4) (by decide); clear q hn h4 c2; lia) (ifs (fun c3 => ?_) (fun c3 => q (fun z => ?_)))
    · refine ne_2_13 hI hs hp (v3 + 1) 1 (by rw [e3]; exact nx1 4 _) (Or.inl ⟨rfl, pf_succ.mpr ⟨?_, ?_, ?_⟩⟩) hn
      · rcases h4 with y | y
        · exact y.2
        · exact absurd y.1 c
      · rw [← e3]; clear q hn h4; lia
      · rw [← e3]; exact c3.symm
    · have l := (pf_succ.mp z).2.2
      rw [← e3] at l
      exact c3 l.symm
theorem ne_2_11 {post : Int32 → MM → Int64 → Prop} {M : MM} {tl : Int64} (hI : Inv M) (hs : 0 ≤ M 22 7 ∧ M 22 7 ≤ 400) (hp : ∀ (r : Int32), NQ M ws2 r → post r M tl) (v3 v4 : Int32) (e3 : v3 = M 22 7 + nI 3) (h4 : (v4 = 1 ∧ PF M [104, 111, 117, 115, 101] 3) ∨ (v4 = 0 ∧ ¬ PF M [104, 111, 117, 115, 101] 3)) (hn : ∀ j, j < 1 → ¬ IsW M (ws2.getD j [])) : wX4_nameAmong_25 post (28 + 1) M tl 2 1 v3 v4 11 := by
  unfold wX4_nameAmong_25
  refine And.intro (by decide) (ifn (by decide) (And.intro (by decide) (ifn (by decide) (And.intro (by decide) (And.intro (by unfold vp_in; decide) (ifn (by decide) ?_))))))
  have q : ¬ PF M [104, 111, 117, 115, 101] 4 → wX4_nameAmong_129 post (wX4_nameAmong_25 post 28) M tl 2 1 v3 11 := fun z => ne_2_12 hI hs hp (v3 + 1) 0 (by rw [e3]; exact nx1 3 _) (Or.inr ⟨rfl, z⟩) hn
  refine ifs (fun c => q (fun z => ?_)) (fun c => ifs (fun c2 => q (fun z => ?_)) (fun c2 => And.intro (by decide) (And.intro (by unfold vp_in; decide) ?_)))
  · rcases h4 with y | y
    · rw [y.1] at c; exact absurd c (by decide)
    · exact y.2 (pf_succ.mp z).1
  · have l := (pf_succ.mp z).2.1
    rw [← e3] at l
    exact absurd l (by clear z q hn h4; lia)
  · refine by_c hI (by rw [e3]; have := nI_lt8 (i := 3) (by decide); clear q hn h4 c2; lia) (ifs (fun c3 => ?_) (fun c3 => q (fun z => ?_)))
    · refine ne_2_12 hI hs hp (v3 + 1) 1 (by rw [e3]; exact nx1 3 _) (Or.inl ⟨rfl, pf_succ.mpr ⟨?_, ?_, ?_⟩⟩) hn
      · rcases h4 with y | y
        · exact y.2
        · exact absurd y.1 c
      · rw [← e3]; clear q hn h4; lia
      · rw [← e3]; exact c3.symm
    · have l := (pf_succ.mp z).2.2
      rw [← e3] at l
      exact c3 l.symm
theorem ne_2_10 {post : Int32 → MM → Int64 → Prop} {M : MM} {tl : Int64} (hI : Inv M) (hs : 0 ≤ M 22 7 ∧ M 22 7 ≤ 400) (hp : ∀ (r : Int32), NQ M ws2 r → post r M tl) (v3 v4 : Int32) (e3 : v3 = M 22 7 + nI 2) (h4 : (v4 = 1 ∧ PF M [104, 111, 117, 115, 101] 2) ∨ (v4 = 0 ∧ ¬ PF M [104, 111, 117, 115, 101] 2)) (hn : ∀ j, j < 1 → ¬ IsW M (ws2.getD j [])) : wX4_nameAmong_25 post (29 + 1) M tl 2 1 v3 v4 10 := by
  unfold wX4_nameAmong_25
  refine And.intro (by decide) (ifn (by decide) (And.intro (by decide) (ifn (by decide) (And.intro (by decide) (And.intro (by unfold vp_in; decide) (ifn (by decide) ?_))))))
  have q : ¬ PF M [104, 111, 117, 115, 101] 3 → wX4_nameAmong_129 post (wX4_nameAmong_25 post 29) M tl 2 1 v3 10 := fun z => ne_2_11 hI hs hp (v3 + 1) 0 (by rw [e3]; exact nx1 2 _) (Or.inr ⟨rfl, z⟩) hn
  refine ifs (fun c => q (fun z => ?_)) (fun c => ifs (fun c2 => q (fun z => ?_)) (fun c2 => And.intro (by decide) (And.intro (by unfold vp_in; decide) ?_)))
  · rcases h4 with y | y
    · rw [y.1] at c; exact absurd c (by decide)
    · exact y.2 (pf_succ.mp z).1
  · have l := (pf_succ.mp z).2.1
    rw [← e3] at l
    exact absurd l (by clear z q hn h4; lia)
  · refine by_c hI (by rw [e3]; have := nI_lt8 (i := 2) (by decide); clear q hn h4 c2; lia) (ifs (fun c3 => ?_) (fun c3 => q (fun z => ?_)))
    · refine ne_2_11 hI hs hp (v3 + 1) 1 (by rw [e3]; exact nx1 2 _) (Or.inl ⟨rfl, pf_succ.mpr ⟨?_, ?_, ?_⟩⟩) hn
      · rcases h4 with y | y
        · exact y.2
        · exact absurd y.1 c
      · rw [← e3]; clear q hn h4; lia
      · rw [← e3]; exact c3.symm
    · have l := (pf_succ.mp z).2.2
      rw [← e3] at l
      exact c3 l.symm
theorem ne_2_9 {post : Int32 → MM → Int64 → Prop} {M : MM} {tl : Int64} (hI : Inv M) (hs : 0 ≤ M 22 7 ∧ M 22 7 ≤ 400) (hp : ∀ (r : Int32), NQ M ws2 r → post r M tl) (v3 v4 : Int32) (e3 : v3 = M 22 7 + nI 1) (h4 : (v4 = 1 ∧ PF M [104, 111, 117, 115, 101] 1) ∨ (v4 = 0 ∧ ¬ PF M [104, 111, 117, 115, 101] 1)) (hn : ∀ j, j < 1 → ¬ IsW M (ws2.getD j [])) : wX4_nameAmong_25 post (30 + 1) M tl 2 1 v3 v4 9 := by
  unfold wX4_nameAmong_25
  refine And.intro (by decide) (ifn (by decide) (And.intro (by decide) (ifn (by decide) (And.intro (by decide) (And.intro (by unfold vp_in; decide) (ifn (by decide) ?_))))))
  have q : ¬ PF M [104, 111, 117, 115, 101] 2 → wX4_nameAmong_129 post (wX4_nameAmong_25 post 30) M tl 2 1 v3 9 := fun z => ne_2_10 hI hs hp (v3 + 1) 0 (by rw [e3]; exact nx1 1 _) (Or.inr ⟨rfl, z⟩) hn
  refine ifs (fun c => q (fun z => ?_)) (fun c => ifs (fun c2 => q (fun z => ?_)) (fun c2 => And.intro (by decide) (And.intro (by unfold vp_in; decide) ?_)))
  · rcases h4 with y | y
    · rw [y.1] at c; exact absurd c (by decide)
    · exact y.2 (pf_succ.mp z).1
  · have l := (pf_succ.mp z).2.1
    rw [← e3] at l
    exact absurd l (by clear z q hn h4; lia)
  · refine by_c hI (by rw [e3]; have := nI_lt8 (i := 1) (by decide); clear q hn h4 c2; lia) (ifs (fun c3 => ?_) (fun c3 => q (fun z => ?_)))
    · refine ne_2_10 hI hs hp (v3 + 1) 1 (by rw [e3]; exact nx1 1 _) (Or.inl ⟨rfl, pf_succ.mpr ⟨?_, ?_, ?_⟩⟩) hn
      · rcases h4 with y | y
        · exact y.2
        · exact absurd y.1 c
      · rw [← e3]; clear q hn h4; lia
      · rw [← e3]; exact c3.symm
    · have l := (pf_succ.mp z).2.2
      rw [← e3] at l
      exact c3 l.symm
theorem ne_2_8 {post : Int32 → MM → Int64 → Prop} {M : MM} {tl : Int64} (hI : Inv M) (hs : 0 ≤ M 22 7 ∧ M 22 7 ≤ 400) (hp : ∀ (r : Int32), NQ M ws2 r → post r M tl) (v3 v4 : Int32) (e3 : v3 = M 22 7 + nI 0) (h4 : (v4 = 1 ∧ PF M [104, 111, 117, 115, 101] 0) ∨ (v4 = 0 ∧ ¬ PF M [104, 111, 117, 115, 101] 0)) (hn : ∀ j, j < 1 → ¬ IsW M (ws2.getD j [])) : wX4_nameAmong_25 post (31 + 1) M tl 2 1 v3 v4 8 := by
  unfold wX4_nameAmong_25
  refine And.intro (by decide) (ifn (by decide) (And.intro (by decide) (ifn (by decide) (And.intro (by decide) (And.intro (by unfold vp_in; decide) (ifn (by decide) ?_))))))
  have q : ¬ PF M [104, 111, 117, 115, 101] 1 → wX4_nameAmong_129 post (wX4_nameAmong_25 post 31) M tl 2 1 v3 8 := fun z => ne_2_9 hI hs hp (v3 + 1) 0 (by rw [e3]; exact nx1 0 _) (Or.inr ⟨rfl, z⟩) hn
  refine ifs (fun c => q (fun z => ?_)) (fun c => ifs (fun c2 => q (fun z => ?_)) (fun c2 => And.intro (by decide) (And.intro (by unfold vp_in; decide) ?_)))
  · rcases h4 with y | y
    · rw [y.1] at c; exact absurd c (by decide)
    · exact y.2 (pf_succ.mp z).1
  · have l := (pf_succ.mp z).2.1
    rw [← e3] at l
    exact absurd l (by clear z q hn h4; lia)
  · refine by_c hI (by rw [e3]; have := nI_lt8 (i := 0) (by decide); clear q hn h4 c2; lia) (ifs (fun c3 => ?_) (fun c3 => q (fun z => ?_)))
    · refine ne_2_9 hI hs hp (v3 + 1) 1 (by rw [e3]; exact nx1 0 _) (Or.inl ⟨rfl, pf_succ.mpr ⟨?_, ?_, ?_⟩⟩) hn
      · rcases h4 with y | y
        · exact y.2
        · exact absurd y.1 c
      · rw [← e3]; clear q hn h4; lia
      · rw [← e3]; exact c3.symm
    · have l := (pf_succ.mp z).2.2
      rw [← e3] at l
      exact c3 l.symm
theorem ne_2_7 {post : Int32 → MM → Int64 → Prop} {M : MM} {tl : Int64} (hI : Inv M) (hs : 0 ≤ M 22 7 ∧ M 22 7 ≤ 400) (hp : ∀ (r : Int32), NQ M ws2 r → post r M tl) (v3 v4 : Int32) (e3 : v3 = M 22 7 + nI 7) (h4 : (v4 = 1 ∧ PF M [110, 111, 116, 104, 105, 110, 103] 7) ∨ (v4 = 0 ∧ ¬ PF M [110, 111, 116, 104, 105, 110, 103] 7)) (hn : ∀ j, j < 0 → ¬ IsW M (ws2.getD j [])) : wX4_nameAmong_25 post (32 + 1) M tl 2 0 v3 v4 7 := by
  unfold wX4_nameAmong_25
  refine And.intro (by decide) (ifn (by decide) (And.intro (by decide) (ifn (by decide) (And.intro (by decide) (And.intro (by unfold vp_in; decide) (ifp (by decide) ?_))))))
  unfold wX4_nameAmong_54
  have q : ¬ IsW M [110, 111, 116, 104, 105, 110, 103] → wX4_nameAmong_69 post (wX4_nameAmong_25 post 32) M tl 2 0 7 := by
    intro nz
    have hn2 : ∀ j, j < 1 → ¬ IsW M (ws2.getD j []) := fun j hj => by
      by_cases e : j = 0
      · subst e; exact nz
      · exact hn j (by omega)
    unfold wX4_nameAmong_69
    exact ifs (fun c => ne_2_8 hI hs hp (M 22 7) 1 (nx0 _) (Or.inl ⟨rfl, pf_zero c⟩) hn2) (fun c => ne_2_8 hI hs hp (M 22 7) 0 (nx0 _) (Or.inr ⟨rfl, fun z => c z.1⟩) hn2)
  refine ifs (fun c => q (fun z => ?_)) (fun c => ifs (fun c2 => hp _ (Or.inr ⟨0, (by decide), rfl, ?_⟩)) (fun c2 => q (fun z => ?_)))
  · rcases h4 with y | y
    · rw [y.1] at c; exact absurd c (by decide)
    · exact y.2 (pf_of hs (by decide) z).1
  · rcases h4 with y | y
    · exact isw_of y.2 (e3.symm.trans c2)
    · exact absurd y.1 c
  · exact c2 (e3.trans (pf_of hs (by decide) z).2)
theorem ne_2_6 {post : Int32 → MM → Int64 → Prop} {M : MM} {tl : Int64} (hI : Inv M) (hs : 0 ≤ M 22 7 ∧ M 22 7 ≤ 400) (hp : ∀ (r : Int32), NQ M ws2 r → post r M tl) (v3 v4 : Int32) (e3 : v3 = M 22 7 + nI 6) (h4 : (v4 = 1 ∧ PF M [110, 111, 116, 104, 105, 110, 103] 6) ∨ (v4 = 0 ∧ ¬ PF M [110, 111, 116, 104, 105, 110, 103] 6)) (hn : ∀ j, j < 0 → ¬ IsW M (ws2.getD j [])) : wX4_nameAmong_25 post (33 + 1) M tl 2 0 v3 v4 6 := by
  unfold wX4_nameAmong_25
  refine And.intro (by decide) (ifn (by decide) (And.intro (by decide) (ifn (by decide) (And.intro (by decide) (And.intro (by unfold vp_in; decide) (ifn (by decide) ?_))))))
  have q : ¬ PF M [110, 111, 116, 104, 105, 110, 103] 7 → wX4_nameAmong_129 post (wX4_nameAmong_25 post 33) M tl 2 0 v3 6 := fun z => ne_2_7 hI hs hp (v3 + 1) 0 (by rw [e3]; exact nx1 6 _) (Or.inr ⟨rfl, z⟩) hn
  refine ifs (fun c => q (fun z => ?_)) (fun c => ifs (fun c2 => q (fun z => ?_)) (fun c2 => And.intro (by decide) (And.intro (by unfold vp_in; decide) ?_)))
  · rcases h4 with y | y
    · rw [y.1] at c; exact absurd c (by decide)
    · exact y.2 (pf_succ.mp z).1
  · have l := (pf_succ.mp z).2.1
    rw [← e3] at l
    exact absurd l (by clear z q hn h4; lia)
  · refine by_c hI (by rw [e3]; have := nI_lt8 (i := 6) (by decide); clear q hn h4 c2; lia) (ifs (fun c3 => ?_) (fun c3 => q (fun z => ?_)))
    · refine ne_2_7 hI hs hp (v3 + 1) 1 (by rw [e3]; exact nx1 6 _) (Or.inl ⟨rfl, pf_succ.mpr ⟨?_, ?_, ?_⟩⟩) hn
      · rcases h4 with y | y
        · exact y.2
        · exact absurd y.1 c
      · rw [← e3]; clear q hn h4; lia
      · rw [← e3]; exact c3.symm
    · have l := (pf_succ.mp z).2.2
      rw [← e3] at l
      exact c3 l.symm
theorem ne_2_5 {post : Int32 → MM → Int64 → Prop} {M : MM} {tl : Int64} (hI : Inv M) (hs : 0 ≤ M 22 7 ∧ M 22 7 ≤ 400) (hp : ∀ (r : Int32), NQ M ws2 r → post r M tl) (v3 v4 : Int32) (e3 : v3 = M 22 7 + nI 5) (h4 : (v4 = 1 ∧ PF M [110, 111, 116, 104, 105, 110, 103] 5) ∨ (v4 = 0 ∧ ¬ PF M [110, 111, 116, 104, 105, 110, 103] 5)) (hn : ∀ j, j < 0 → ¬ IsW M (ws2.getD j [])) : wX4_nameAmong_25 post (34 + 1) M tl 2 0 v3 v4 5 := by
  unfold wX4_nameAmong_25
  refine And.intro (by decide) (ifn (by decide) (And.intro (by decide) (ifn (by decide) (And.intro (by decide) (And.intro (by unfold vp_in; decide) (ifn (by decide) ?_))))))
  have q : ¬ PF M [110, 111, 116, 104, 105, 110, 103] 6 → wX4_nameAmong_129 post (wX4_nameAmong_25 post 34) M tl 2 0 v3 5 := fun z => ne_2_6 hI hs hp (v3 + 1) 0 (by rw [e3]; exact nx1 5 _) (Or.inr ⟨rfl, z⟩) hn
  refine ifs (fun c => q (fun z => ?_)) (fun c => ifs (fun c2 => q (fun z => ?_)) (fun c2 => And.intro (by decide) (And.intro (by unfold vp_in; decide) ?_)))
  · rcases h4 with y | y
    · rw [y.1] at c; exact absurd c (by decide)
    · exact y.2 (pf_succ.mp z).1
  · have l := (pf_succ.mp z).2.1
    rw [← e3] at l
    exact absurd l (by clear z q hn h4; lia)
  · refine by_c hI (by rw [e3]; have := nI_lt8 (i := 5) (by decide); clear q hn h4 c2; lia) (ifs (fun c3 => ?_) (fun c3 => q (fun z => ?_)))
    · refine ne_2_6 hI hs hp (v3 + 1) 1 (by rw [e3]; exact nx1 5 _) (Or.inl ⟨rfl, pf_succ.mpr ⟨?_, ?_, ?_⟩⟩) hn
      · rcases h4 with y | y
        · exact y.2
        · exact absurd y.1 c
      · rw [← e3]; clear q hn h4; lia
      · rw [← e3]; exact c3.symm
    · have l := (pf_succ.mp z).2.2
      rw [← e3] at l
      exact c3 l.symm
theorem ne_2_4 {post : Int32 → MM → Int64 → Prop} {M : MM} {tl : Int64} (hI : Inv M) (hs : 0 ≤ M 22 7 ∧ M 22 7 ≤ 400) (hp : ∀ (r : Int32), NQ M ws2 r → post r M tl) (v3 v4 : Int32) (e3 : v3 = M 22 7 + nI 4) (h4 : (v4 = 1 ∧ PF M [110, 111, 116, 104, 105, 110, 103] 4) ∨ (v4 = 0 ∧ ¬ PF M [110, 111, 116, 104, 105, 110, 103] 4)) (hn : ∀ j, j < 0 → ¬ IsW M (ws2.getD j [])) : wX4_nameAmong_25 post (35 + 1) M tl 2 0 v3 v4 4 := by
  unfold wX4_nameAmong_25
  refine And.intro (by decide) (ifn (by decide) (And.intro (by decide) (ifn (by decide) (And.intro (by decide) (And.intro (by unfold vp_in; decide) (ifn (by decide) ?_))))))
  have q : ¬ PF M [110, 111, 116, 104, 105, 110, 103] 5 → wX4_nameAmong_129 post (wX4_nameAmong_25 post 35) M tl 2 0 v3 4 := fun z => ne_2_5 hI hs hp (v3 + 1) 0 (by rw [e3]; exact nx1 4 _) (Or.inr ⟨rfl, z⟩) hn
  refine ifs (fun c => q (fun z => ?_)) (fun c => ifs (fun c2 => q (fun z => ?_)) (fun c2 => And.intro (by decide) (And.intro (by unfold vp_in; decide) ?_)))
  · rcases h4 with y | y
    · rw [y.1] at c; exact absurd c (by decide)
    · exact y.2 (pf_succ.mp z).1
  · have l := (pf_succ.mp z).2.1
    rw [← e3] at l
    exact absurd l (by clear z q hn h4; lia)
  · refine by_c hI (by rw [e3]; have := nI_lt8 (i := 4) (by decide); clear q hn h4 c2; lia) (ifs (fun c3 => ?_) (fun c3 => q (fun z => ?_)))
    · refine ne_2_5 hI hs hp (v3 + 1) 1 (by rw [e3]; exact nx1 4 _) (Or.inl ⟨rfl, pf_succ.mpr ⟨?_, ?_, ?_⟩⟩) hn
      · rcases h4 with y | y
        · exact y.2
        · exact absurd y.1 c
      · rw [← e3]; clear q hn h4; lia
      · rw [← e3]; exact c3.symm
    · have l := (pf_succ.mp z).2.2
      rw [← e3] at l
      exact c3 l.symm
theorem ne_2_3 {post : Int32 → MM → Int64 → Prop} {M : MM} {tl : Int64} (hI : Inv M) (hs : 0 ≤ M 22 7 ∧ M 22 7 ≤ 400) (hp : ∀ (r : Int32), NQ M ws2 r → post r M tl) (v3 v4 : Int32) (e3 : v3 = M 22 7 + nI 3) (h4 : (v4 = 1 ∧ PF M [110, 111, 116, 104, 105, 110, 103] 3) ∨ (v4 = 0 ∧ ¬ PF M [110, 111, 116, 104, 105, 110, 103] 3)) (hn : ∀ j, j < 0 → ¬ IsW M (ws2.getD j [])) : wX4_nameAmong_25 post (36 + 1) M tl 2 0 v3 v4 3 := by
  unfold wX4_nameAmong_25
  refine And.intro (by decide) (ifn (by decide) (And.intro (by decide) (ifn (by decide) (And.intro (by decide) (And.intro (by unfold vp_in; decide) (ifn (by decide) ?_))))))
  have q : ¬ PF M [110, 111, 116, 104, 105, 110, 103] 4 → wX4_nameAmong_129 post (wX4_nameAmong_25 post 36) M tl 2 0 v3 3 := fun z => ne_2_4 hI hs hp (v3 + 1) 0 (by rw [e3]; exact nx1 3 _) (Or.inr ⟨rfl, z⟩) hn
  refine ifs (fun c => q (fun z => ?_)) (fun c => ifs (fun c2 => q (fun z => ?_)) (fun c2 => And.intro (by decide) (And.intro (by unfold vp_in; decide) ?_)))
  · rcases h4 with y | y
    · rw [y.1] at c; exact absurd c (by decide)
    · exact y.2 (pf_succ.mp z).1
  · have l := (pf_succ.mp z).2.1
    rw [← e3] at l
    exact absurd l (by clear z q hn h4; lia)
  · refine by_c hI (by rw [e3]; have := nI_lt8 (i := 3) (by decide); clear q hn h4 c2; lia) (ifs (fun c3 => ?_) (fun c3 => q (fun z => ?_)))
    · refine ne_2_4 hI hs hp (v3 + 1) 1 (by rw [e3]; exact nx1 3 _) (Or.inl ⟨rfl, pf_succ.mpr ⟨?_, ?_, ?_⟩⟩) hn
      · rcases h4 with y | y
        · exact y.2
        · exact absurd y.1 c
      · rw [← e3]; clear q hn h4; lia
      · rw [← e3]; exact c3.symm
    · have l := (pf_succ.mp z).2.2
      rw [← e3] at l
      exact c3 l.symm
theorem ne_2_2 {post : Int32 → MM → Int64 → Prop} {M : MM} {tl : Int64} (hI : Inv M) (hs : 0 ≤ M 22 7 ∧ M 22 7 ≤ 400) (hp : ∀ (r : Int32), NQ M ws2 r → post r M tl) (v3 v4 : Int32) (e3 : v3 = M 22 7 + nI 2) (h4 : (v4 = 1 ∧ PF M [110, 111, 116, 104, 105, 110, 103] 2) ∨ (v4 = 0 ∧ ¬ PF M [110, 111, 116, 104, 105, 110, 103] 2)) (hn : ∀ j, j < 0 → ¬ IsW M (ws2.getD j [])) : wX4_nameAmong_25 post (37 + 1) M tl 2 0 v3 v4 2 := by
  unfold wX4_nameAmong_25
  refine And.intro (by decide) (ifn (by decide) (And.intro (by decide) (ifn (by decide) (And.intro (by decide) (And.intro (by unfold vp_in; decide) (ifn (by decide) ?_))))))
  have q : ¬ PF M [110, 111, 116, 104, 105, 110, 103] 3 → wX4_nameAmong_129 post (wX4_nameAmong_25 post 37) M tl 2 0 v3 2 := fun z => ne_2_3 hI hs hp (v3 + 1) 0 (by rw [e3]; exact nx1 2 _) (Or.inr ⟨rfl, z⟩) hn
  refine ifs (fun c => q (fun z => ?_)) (fun c => ifs (fun c2 => q (fun z => ?_)) (fun c2 => And.intro (by decide) (And.intro (by unfold vp_in; decide) ?_)))
  · rcases h4 with y | y
    · rw [y.1] at c; exact absurd c (by decide)
    · exact y.2 (pf_succ.mp z).1
  · have l := (pf_succ.mp z).2.1
    rw [← e3] at l
    exact absurd l (by clear z q hn h4; lia)
  · refine by_c hI (by rw [e3]; have := nI_lt8 (i := 2) (by decide); clear q hn h4 c2; lia) (ifs (fun c3 => ?_) (fun c3 => q (fun z => ?_)))
    · refine ne_2_3 hI hs hp (v3 + 1) 1 (by rw [e3]; exact nx1 2 _) (Or.inl ⟨rfl, pf_succ.mpr ⟨?_, ?_, ?_⟩⟩) hn
      · rcases h4 with y | y
        · exact y.2
        · exact absurd y.1 c
      · rw [← e3]; clear q hn h4; lia
      · rw [← e3]; exact c3.symm
    · have l := (pf_succ.mp z).2.2
      rw [← e3] at l
      exact c3 l.symm
theorem ne_2_1 {post : Int32 → MM → Int64 → Prop} {M : MM} {tl : Int64} (hI : Inv M) (hs : 0 ≤ M 22 7 ∧ M 22 7 ≤ 400) (hp : ∀ (r : Int32), NQ M ws2 r → post r M tl) (v3 v4 : Int32) (e3 : v3 = M 22 7 + nI 1) (h4 : (v4 = 1 ∧ PF M [110, 111, 116, 104, 105, 110, 103] 1) ∨ (v4 = 0 ∧ ¬ PF M [110, 111, 116, 104, 105, 110, 103] 1)) (hn : ∀ j, j < 0 → ¬ IsW M (ws2.getD j [])) : wX4_nameAmong_25 post (38 + 1) M tl 2 0 v3 v4 1 := by
  unfold wX4_nameAmong_25
  refine And.intro (by decide) (ifn (by decide) (And.intro (by decide) (ifn (by decide) (And.intro (by decide) (And.intro (by unfold vp_in; decide) (ifn (by decide) ?_))))))
  have q : ¬ PF M [110, 111, 116, 104, 105, 110, 103] 2 → wX4_nameAmong_129 post (wX4_nameAmong_25 post 38) M tl 2 0 v3 1 := fun z => ne_2_2 hI hs hp (v3 + 1) 0 (by rw [e3]; exact nx1 1 _) (Or.inr ⟨rfl, z⟩) hn
  refine ifs (fun c => q (fun z => ?_)) (fun c => ifs (fun c2 => q (fun z => ?_)) (fun c2 => And.intro (by decide) (And.intro (by unfold vp_in; decide) ?_)))
  · rcases h4 with y | y
    · rw [y.1] at c; exact absurd c (by decide)
    · exact y.2 (pf_succ.mp z).1
  · have l := (pf_succ.mp z).2.1
    rw [← e3] at l
    exact absurd l (by clear z q hn h4; lia)
  · refine by_c hI (by rw [e3]; have := nI_lt8 (i := 1) (by decide); clear q hn h4 c2; lia) (ifs (fun c3 => ?_) (fun c3 => q (fun z => ?_)))
    · refine ne_2_2 hI hs hp (v3 + 1) 1 (by rw [e3]; exact nx1 1 _) (Or.inl ⟨rfl, pf_succ.mpr ⟨?_, ?_, ?_⟩⟩) hn
      · rcases h4 with y | y
        · exact y.2
        · exact absurd y.1 c
      · rw [← e3]; clear q hn h4; lia
      · rw [← e3]; exact c3.symm
    · have l := (pf_succ.mp z).2.2
      rw [← e3] at l
      exact c3 l.symm
theorem ne_2_0 {post : Int32 → MM → Int64 → Prop} {M : MM} {tl : Int64} (hI : Inv M) (hs : 0 ≤ M 22 7 ∧ M 22 7 ≤ 400) (hp : ∀ (r : Int32), NQ M ws2 r → post r M tl) (v3 v4 : Int32) (e3 : v3 = M 22 7 + nI 0) (h4 : (v4 = 1 ∧ PF M [110, 111, 116, 104, 105, 110, 103] 0) ∨ (v4 = 0 ∧ ¬ PF M [110, 111, 116, 104, 105, 110, 103] 0)) (hn : ∀ j, j < 0 → ¬ IsW M (ws2.getD j [])) : wX4_nameAmong_25 post (39 + 1) M tl 2 0 v3 v4 0 := by
  unfold wX4_nameAmong_25
  refine And.intro (by decide) (ifn (by decide) (And.intro (by decide) (ifn (by decide) (And.intro (by decide) (And.intro (by unfold vp_in; decide) (ifn (by decide) ?_))))))
  have q : ¬ PF M [110, 111, 116, 104, 105, 110, 103] 1 → wX4_nameAmong_129 post (wX4_nameAmong_25 post 39) M tl 2 0 v3 0 := fun z => ne_2_1 hI hs hp (v3 + 1) 0 (by rw [e3]; exact nx1 0 _) (Or.inr ⟨rfl, z⟩) hn
  refine ifs (fun c => q (fun z => ?_)) (fun c => ifs (fun c2 => q (fun z => ?_)) (fun c2 => And.intro (by decide) (And.intro (by unfold vp_in; decide) ?_)))
  · rcases h4 with y | y
    · rw [y.1] at c; exact absurd c (by decide)
    · exact y.2 (pf_succ.mp z).1
  · have l := (pf_succ.mp z).2.1
    rw [← e3] at l
    exact absurd l (by clear z q hn h4; lia)
  · refine by_c hI (by rw [e3]; have := nI_lt8 (i := 0) (by decide); clear q hn h4 c2; lia) (ifs (fun c3 => ?_) (fun c3 => q (fun z => ?_)))
    · refine ne_2_1 hI hs hp (v3 + 1) 1 (by rw [e3]; exact nx1 0 _) (Or.inl ⟨rfl, pf_succ.mpr ⟨?_, ?_, ?_⟩⟩) hn
      · rcases h4 with y | y
        · exact y.2
        · exact absurd y.1 c
      · rw [← e3]; clear q hn h4; lia
      · rw [← e3]; exact c3.symm
    · have l := (pf_succ.mp z).2.2
      rw [← e3] at l
      exact c3 l.symm
theorem ne_2 {post : Int32 → MM → Int64 → Prop} {M : MM} {tl : Int64} (hI : Inv M) (hs : 0 ≤ M 22 7 ∧ M 22 7 ≤ 400) (hp : ∀ (r : Int32), NQ M ws2 r → post r M tl) : wpX4_nameAmong post M tl 2 := by
  unfold wpX4_nameAmong wX4_nameAmong_20
  refine ifs (fun c => ?_) (fun c => ?_)
  · exact ⟨39 + 1, ne_2_0 hI hs hp _ 1 (nx0 _) (Or.inl ⟨rfl, pf_zero c⟩) (fun j hj => absurd hj (by omega))⟩
  · exact ⟨39 + 1, ne_2_0 hI hs hp _ 0 (nx0 _) (Or.inr ⟨rfl, fun z => c z.1⟩) (fun j hj => absurd hj (by omega))⟩
theorem ne_3_11 {post : Int32 → MM → Int64 → Prop} {M : MM} {tl : Int64} (hI : Inv M) (hs : 0 ≤ M 22 7 ∧ M 22 7 ≤ 400) (hp : ∀ (r : Int32), NQ M ws3 r → post r M tl) (v3 v4 : Int32) (hn : ∀ j, j < 2 → ¬ IsW M (ws3.getD j [])) : wX4_nameAmong_25 post (0 + 1) M tl 3 2 v3 v4 11 := by
  unfold wX4_nameAmong_25
  exact And.intro (by decide) (ifp (by decide) (hp _ (Or.inl ⟨rfl, hn⟩)))
theorem ne_3_10 {post : Int32 → MM → Int64 → Prop} {M : MM} {tl : Int64} (hI : Inv M) (hs : 0 ≤ M 22 7 ∧ M 22 7 ≤ 400) (hp : ∀ (r : Int32), NQ M ws3 r → post r M tl) (v3 v4 : Int32) (e3 : v3 = M 22 7 + nI 5) (h4 : (v4 = 1 ∧ PF M [114, 105, 103, 104, 116] 5) ∨ (v4 = 0 ∧ ¬ PF M [114, 105, 103, 104, 116] 5)) (hn : ∀ j, j < 1 → ¬ IsW M (ws3.getD j [])) : wX4_nameAmong_25 post (1 + 1) M tl 3 1 v3 v4 10 := by
  unfold wX4_nameAmong_25
  refine And.intro (by decide) (ifn (by decide) (And.intro (by decide) (ifp (by decide) ?_)))
  unfold wX4_nameAmong_54
  have q : ¬ IsW M [114, 105, 103, 104, 116] → wX4_nameAmong_69 post (wX4_nameAmong_25 post 1) M tl 3 1 10 := by
    intro nz
    have hn2 : ∀ j, j < 2 → ¬ IsW M (ws3.getD j []) := fun j hj => by
      by_cases e : j = 1
      · subst e; exact nz
      · exact hn j (by omega)
    unfold wX4_nameAmong_69
    exact ifs (fun c => ne_3_11 hI hs hp (M 22 7) 1 hn2) (fun c => ne_3_11 hI hs hp (M 22 7) 0 hn2)
  refine ifs (fun c => q (fun z => ?_)) (fun c => ifs (fun c2 => hp _ (Or.inr ⟨1, (by decide), rfl, ?_⟩)) (fun c2 => q (fun z => ?_)))
  · rcases h4 with y | y
    · rw [y.1] at c; exact absurd c (by decide)
    · exact y.2 (pf_of hs (by decide) z).1
  · rcases h4 with y | y
    · exact isw_of y.2 (e3.symm.trans c2)
    · exact absurd y.1 c
  · exact c2 (e3.trans (pf_of hs (by decide) z).2)
theorem ne_3_9 {post : Int32 → MM → Int64 → Prop} {M : MM} {tl : Int64} (hI : Inv M) (hs : 0 ≤ M 22 7 ∧ M 22 7 ≤ 400) (hp : ∀ (r : Int32), NQ M ws3 r → post r M tl) (v3 v4 : Int32) (e3 : v3 = M 22 7 + nI 4) (h4 : (v4 = 1 ∧ PF M [114, 105, 103, 104, 116] 4) ∨ (v4 = 0 ∧ ¬ PF M [114, 105, 103, 104, 116] 4)) (hn : ∀ j, j < 1 → ¬ IsW M (ws3.getD j [])) : wX4_nameAmong_25 post (2 + 1) M tl 3 1 v3 v4 9 := by
  unfold wX4_nameAmong_25
  refine And.intro (by decide) (ifn (by decide) (And.intro (by decide) (ifn (by decide) (And.intro (by decide) (And.intro (by unfold vp_in; decide) (ifn (by decide) ?_))))))
  have q : ¬ PF M [114, 105, 103, 104, 116] 5 → wX4_nameAmong_129 post (wX4_nameAmong_25 post 2) M tl 3 1 v3 9 := fun z => ne_3_10 hI hs hp (v3 + 1) 0 (by rw [e3]; exact nx1 4 _) (Or.inr ⟨rfl, z⟩) hn
  refine ifs (fun c => q (fun z => ?_)) (fun c => ifs (fun c2 => q (fun z => ?_)) (fun c2 => And.intro (by decide) (And.intro (by unfold vp_in; decide) ?_)))
  · rcases h4 with y | y
    · rw [y.1] at c; exact absurd c (by decide)
    · exact y.2 (pf_succ.mp z).1
  · have l := (pf_succ.mp z).2.1
    rw [← e3] at l
    exact absurd l (by clear z q hn h4; lia)
  · refine by_c hI (by rw [e3]; have := nI_lt8 (i := 4) (by decide); clear q hn h4 c2; lia) (ifs (fun c3 => ?_) (fun c3 => q (fun z => ?_)))
    · refine ne_3_10 hI hs hp (v3 + 1) 1 (by rw [e3]; exact nx1 4 _) (Or.inl ⟨rfl, pf_succ.mpr ⟨?_, ?_, ?_⟩⟩) hn
      · rcases h4 with y | y
        · exact y.2
        · exact absurd y.1 c
      · rw [← e3]; clear q hn h4; lia
      · rw [← e3]; exact c3.symm
    · have l := (pf_succ.mp z).2.2
      rw [← e3] at l
      exact c3 l.symm
theorem ne_3_8 {post : Int32 → MM → Int64 → Prop} {M : MM} {tl : Int64} (hI : Inv M) (hs : 0 ≤ M 22 7 ∧ M 22 7 ≤ 400) (hp : ∀ (r : Int32), NQ M ws3 r → post r M tl) (v3 v4 : Int32) (e3 : v3 = M 22 7 + nI 3) (h4 : (v4 = 1 ∧ PF M [114, 105, 103, 104, 116] 3) ∨ (v4 = 0 ∧ ¬ PF M [114, 105, 103, 104, 116] 3)) (hn : ∀ j, j < 1 → ¬ IsW M (ws3.getD j [])) : wX4_nameAmong_25 post (3 + 1) M tl 3 1 v3 v4 8 := by
  unfold wX4_nameAmong_25
  refine And.intro (by decide) (ifn (by decide) (And.intro (by decide) (ifn (by decide) (And.intro (by decide) (And.intro (by unfold vp_in; decide) (ifn (by decide) ?_))))))
  have q : ¬ PF M [114, 105, 103, 104, 116] 4 → wX4_nameAmong_129 post (wX4_nameAmong_25 post 3) M tl 3 1 v3 8 := fun z => ne_3_9 hI hs hp (v3 + 1) 0 (by rw [e3]; exact nx1 3 _) (Or.inr ⟨rfl, z⟩) hn
  refine ifs (fun c => q (fun z => ?_)) (fun c => ifs (fun c2 => q (fun z => ?_)) (fun c2 => And.intro (by decide) (And.intro (by unfold vp_in; decide) ?_)))
  · rcases h4 with y | y
    · rw [y.1] at c; exact absurd c (by decide)
    · exact y.2 (pf_succ.mp z).1
  · have l := (pf_succ.mp z).2.1
    rw [← e3] at l
    exact absurd l (by clear z q hn h4; lia)
  · refine by_c hI (by rw [e3]; have := nI_lt8 (i := 3) (by decide); clear q hn h4 c2; lia) (ifs (fun c3 => ?_) (fun c3 => q (fun z => ?_)))
    · refine ne_3_9 hI hs hp (v3 + 1) 1 (by rw [e3]; exact nx1 3 _) (Or.inl ⟨rfl, pf_succ.mpr ⟨?_, ?_, ?_⟩⟩) hn
      · rcases h4 with y | y
        · exact y.2
        · exact absurd y.1 c
      · rw [← e3]; clear q hn h4; lia
      · rw [← e3]; exact c3.symm
    · have l := (pf_succ.mp z).2.2
      rw [← e3] at l
      exact c3 l.symm
theorem ne_3_7 {post : Int32 → MM → Int64 → Prop} {M : MM} {tl : Int64} (hI : Inv M) (hs : 0 ≤ M 22 7 ∧ M 22 7 ≤ 400) (hp : ∀ (r : Int32), NQ M ws3 r → post r M tl) (v3 v4 : Int32) (e3 : v3 = M 22 7 + nI 2) (h4 : (v4 = 1 ∧ PF M [114, 105, 103, 104, 116] 2) ∨ (v4 = 0 ∧ ¬ PF M [114, 105, 103, 104, 116] 2)) (hn : ∀ j, j < 1 → ¬ IsW M (ws3.getD j [])) : wX4_nameAmong_25 post (4 + 1) M tl 3 1 v3 v4 7 := by
  unfold wX4_nameAmong_25
  refine And.intro (by decide) (ifn (by decide) (And.intro (by decide) (ifn (by decide) (And.intro (by decide) (And.intro (by unfold vp_in; decide) (ifn (by decide) ?_))))))
  have q : ¬ PF M [114, 105, 103, 104, 116] 3 → wX4_nameAmong_129 post (wX4_nameAmong_25 post 4) M tl 3 1 v3 7 := fun z => ne_3_8 hI hs hp (v3 + 1) 0 (by rw [e3]; exact nx1 2 _) (Or.inr ⟨rfl, z⟩) hn
  refine ifs (fun c => q (fun z => ?_)) (fun c => ifs (fun c2 => q (fun z => ?_)) (fun c2 => And.intro (by decide) (And.intro (by unfold vp_in; decide) ?_)))
  · rcases h4 with y | y
    · rw [y.1] at c; exact absurd c (by decide)
    · exact y.2 (pf_succ.mp z).1
  · have l := (pf_succ.mp z).2.1
    rw [← e3] at l
    exact absurd l (by clear z q hn h4; lia)
  · refine by_c hI (by rw [e3]; have := nI_lt8 (i := 2) (by decide); clear q hn h4 c2; lia) (ifs (fun c3 => ?_) (fun c3 => q (fun z => ?_)))
    · refine ne_3_8 hI hs hp (v3 + 1) 1 (by rw [e3]; exact nx1 2 _) (Or.inl ⟨rfl, pf_succ.mpr ⟨?_, ?_, ?_⟩⟩) hn
      · rcases h4 with y | y
        · exact y.2
        · exact absurd y.1 c
      · rw [← e3]; clear q hn h4; lia
      · rw [← e3]; exact c3.symm
    · have l := (pf_succ.mp z).2.2
      rw [← e3] at l
      exact c3 l.symm
theorem ne_3_6 {post : Int32 → MM → Int64 → Prop} {M : MM} {tl : Int64} (hI : Inv M) (hs : 0 ≤ M 22 7 ∧ M 22 7 ≤ 400) (hp : ∀ (r : Int32), NQ M ws3 r → post r M tl) (v3 v4 : Int32) (e3 : v3 = M 22 7 + nI 1) (h4 : (v4 = 1 ∧ PF M [114, 105, 103, 104, 116] 1) ∨ (v4 = 0 ∧ ¬ PF M [114, 105, 103, 104, 116] 1)) (hn : ∀ j, j < 1 → ¬ IsW M (ws3.getD j [])) : wX4_nameAmong_25 post (5 + 1) M tl 3 1 v3 v4 6 := by
  unfold wX4_nameAmong_25
  refine And.intro (by decide) (ifn (by decide) (And.intro (by decide) (ifn (by decide) (And.intro (by decide) (And.intro (by unfold vp_in; decide) (ifn (by decide) ?_))))))
  have q : ¬ PF M [114, 105, 103, 104, 116] 2 → wX4_nameAmong_129 post (wX4_nameAmong_25 post 5) M tl 3 1 v3 6 := fun z => ne_3_7 hI hs hp (v3 + 1) 0 (by rw [e3]; exact nx1 1 _) (Or.inr ⟨rfl, z⟩) hn
  refine ifs (fun c => q (fun z => ?_)) (fun c => ifs (fun c2 => q (fun z => ?_)) (fun c2 => And.intro (by decide) (And.intro (by unfold vp_in; decide) ?_)))
  · rcases h4 with y | y
    · rw [y.1] at c; exact absurd c (by decide)
    · exact y.2 (pf_succ.mp z).1
  · have l := (pf_succ.mp z).2.1
    rw [← e3] at l
    exact absurd l (by clear z q hn h4; lia)
  · refine by_c hI (by rw [e3]; have := nI_lt8 (i := 1) (by decide); clear q hn h4 c2; lia) (ifs (fun c3 => ?_) (fun c3 => q (fun z => ?_)))
    · refine ne_3_7 hI hs hp (v3 + 1) 1 (by rw [e3]; exact nx1 1 _) (Or.inl ⟨rfl, pf_succ.mpr ⟨?_, ?_, ?_⟩⟩) hn
      · rcases h4 with y | y
        · exact y.2
        · exact absurd y.1 c
      · rw [← e3]; clear q hn h4; lia
      · rw [← e3]; exact c3.symm
    · have l := (pf_succ.mp z).2.2
      rw [← e3] at l
      exact c3 l.symm
theorem ne_3_5 {post : Int32 → MM → Int64 → Prop} {M : MM} {tl : Int64} (hI : Inv M) (hs : 0 ≤ M 22 7 ∧ M 22 7 ≤ 400) (hp : ∀ (r : Int32), NQ M ws3 r → post r M tl) (v3 v4 : Int32) (e3 : v3 = M 22 7 + nI 0) (h4 : (v4 = 1 ∧ PF M [114, 105, 103, 104, 116] 0) ∨ (v4 = 0 ∧ ¬ PF M [114, 105, 103, 104, 116] 0)) (hn : ∀ j, j < 1 → ¬ IsW M (ws3.getD j [])) : wX4_nameAmong_25 post (6 + 1) M tl 3 1 v3 v4 5 := by
  unfold wX4_nameAmong_25
  refine And.intro (by decide) (ifn (by decide) (And.intro (by decide) (ifn (by decide) (And.intro (by decide) (And.intro (by unfold vp_in; decide) (ifn (by decide) ?_))))))
  have q : ¬ PF M [114, 105, 103, 104, 116] 1 → wX4_nameAmong_129 post (wX4_nameAmong_25 post 6) M tl 3 1 v3 5 := fun z => ne_3_6 hI hs hp (v3 + 1) 0 (by rw [e3]; exact nx1 0 _) (Or.inr ⟨rfl, z⟩) hn
  refine ifs (fun c => q (fun z => ?_)) (fun c => ifs (fun c2 => q (fun z => ?_)) (fun c2 => And.intro (by decide) (And.intro (by unfold vp_in; decide) ?_)))
  · rcases h4 with y | y
    · rw [y.1] at c; exact absurd c (by decide)
    · exact y.2 (pf_succ.mp z).1
  · have l := (pf_succ.mp z).2.1
    rw [← e3] at l
    exact absurd l (by clear z q hn h4; lia)
  · refine by_c hI (by rw [e3]; have := nI_lt8 (i := 0) (by decide); clear q hn h4 c2; lia) (ifs (fun c3 => ?_) (fun c3 => q (fun z => ?_)))
    · refine ne_3_6 hI hs hp (v3 + 1) 1 (by rw [e3]; exact nx1 0 _) (Or.inl ⟨rfl, pf_succ.mpr ⟨?_, ?_, ?_⟩⟩) hn
      · rcases h4 with y | y
        · exact y.2
        · exact absurd y.1 c
      · rw [← e3]; clear q hn h4; lia
      · rw [← e3]; exact c3.symm
    · have l := (pf_succ.mp z).2.2
      rw [← e3] at l
      exact c3 l.symm
theorem ne_3_4 {post : Int32 → MM → Int64 → Prop} {M : MM} {tl : Int64} (hI : Inv M) (hs : 0 ≤ M 22 7 ∧ M 22 7 ≤ 400) (hp : ∀ (r : Int32), NQ M ws3 r → post r M tl) (v3 v4 : Int32) (e3 : v3 = M 22 7 + nI 4) (h4 : (v4 = 1 ∧ PF M [108, 101, 102, 116] 4) ∨ (v4 = 0 ∧ ¬ PF M [108, 101, 102, 116] 4)) (hn : ∀ j, j < 0 → ¬ IsW M (ws3.getD j [])) : wX4_nameAmong_25 post (7 + 1) M tl 3 0 v3 v4 4 := by
  unfold wX4_nameAmong_25
  refine And.intro (by decide) (ifn (by decide) (And.intro (by decide) (ifn (by decide) (And.intro (by decide) (And.intro (by unfold vp_in; decide) (ifp (by decide) ?_))))))
  unfold wX4_nameAmong_54
  have q : ¬ IsW M [108, 101, 102, 116] → wX4_nameAmong_69 post (wX4_nameAmong_25 post 7) M tl 3 0 4 := by
    intro nz
    have hn2 : ∀ j, j < 1 → ¬ IsW M (ws3.getD j []) := fun j hj => by
      by_cases e : j = 0
      · subst e; exact nz
      · exact hn j (by omega)
    unfold wX4_nameAmong_69
    exact ifs (fun c => ne_3_5 hI hs hp (M 22 7) 1 (nx0 _) (Or.inl ⟨rfl, pf_zero c⟩) hn2) (fun c => ne_3_5 hI hs hp (M 22 7) 0 (nx0 _) (Or.inr ⟨rfl, fun z => c z.1⟩) hn2)
  refine ifs (fun c => q (fun z => ?_)) (fun c => ifs (fun c2 => hp _ (Or.inr ⟨0, (by decide), rfl, ?_⟩)) (fun c2 => q (fun z => ?_)))
  · rcases h4 with y | y
    · rw [y.1] at c; exact absurd c (by decide)
    · exact y.2 (pf_of hs (by decide) z).1
  · rcases h4 with y | y
    · exact isw_of y.2 (e3.symm.trans c2)
    · exact absurd y.1 c
  · exact c2 (e3.trans (pf_of hs (by decide) z).2)
theorem ne_3_3 {post : Int32 → MM → Int64 → Prop} {M : MM} {tl : Int64} (hI : Inv M) (hs : 0 ≤ M 22 7 ∧ M 22 7 ≤ 400) (hp : ∀ (r : Int32), NQ M ws3 r → post r M tl) (v3 v4 : Int32) (e3 : v3 = M 22 7 + nI 3) (h4 : (v4 = 1 ∧ PF M [108, 101, 102, 116] 3) ∨ (v4 = 0 ∧ ¬ PF M [108, 101, 102, 116] 3)) (hn : ∀ j, j < 0 → ¬ IsW M (ws3.getD j [])) : wX4_nameAmong_25 post (8 + 1) M tl 3 0 v3 v4 3 := by
  unfold wX4_nameAmong_25
  refine And.intro (by decide) (ifn (by decide) (And.intro (by decide) (ifn (by decide) (And.intro (by decide) (And.intro (by unfold vp_in; decide) (ifn (by decide) ?_))))))
  have q : ¬ PF M [108, 101, 102, 116] 4 → wX4_nameAmong_129 post (wX4_nameAmong_25 post 8) M tl 3 0 v3 3 := fun z => ne_3_4 hI hs hp (v3 + 1) 0 (by rw [e3]; exact nx1 3 _) (Or.inr ⟨rfl, z⟩) hn
  refine ifs (fun c => q (fun z => ?_)) (fun c => ifs (fun c2 => q (fun z => ?_)) (fun c2 => And.intro (by decide) (And.intro (by unfold vp_in; decide) ?_)))
  · rcases h4 with y | y
    · rw [y.1] at c; exact absurd c (by decide)
    · exact y.2 (pf_succ.mp z).1
  · have l := (pf_succ.mp z).2.1
    rw [← e3] at l
    exact absurd l (by clear z q hn h4; lia)
  · refine by_c hI (by rw [e3]; have := nI_lt8 (i := 3) (by decide); clear q hn h4 c2; lia) (ifs (fun c3 => ?_) (fun c3 => q (fun z => ?_)))
    · refine ne_3_4 hI hs hp (v3 + 1) 1 (by rw [e3]; exact nx1 3 _) (Or.inl ⟨rfl, pf_succ.mpr ⟨?_, ?_, ?_⟩⟩) hn
      · rcases h4 with y | y
        · exact y.2
        · exact absurd y.1 c
      · rw [← e3]; clear q hn h4; lia
      · rw [← e3]; exact c3.symm
    · have l := (pf_succ.mp z).2.2
      rw [← e3] at l
      exact c3 l.symm
theorem ne_3_2 {post : Int32 → MM → Int64 → Prop} {M : MM} {tl : Int64} (hI : Inv M) (hs : 0 ≤ M 22 7 ∧ M 22 7 ≤ 400) (hp : ∀ (r : Int32), NQ M ws3 r → post r M tl) (v3 v4 : Int32) (e3 : v3 = M 22 7 + nI 2) (h4 : (v4 = 1 ∧ PF M [108, 101, 102, 116] 2) ∨ (v4 = 0 ∧ ¬ PF M [108, 101, 102, 116] 2)) (hn : ∀ j, j < 0 → ¬ IsW M (ws3.getD j [])) : wX4_nameAmong_25 post (9 + 1) M tl 3 0 v3 v4 2 := by
  unfold wX4_nameAmong_25
  refine And.intro (by decide) (ifn (by decide) (And.intro (by decide) (ifn (by decide) (And.intro (by decide) (And.intro (by unfold vp_in; decide) (ifn (by decide) ?_))))))
  have q : ¬ PF M [108, 101, 102, 116] 3 → wX4_nameAmong_129 post (wX4_nameAmong_25 post 9) M tl 3 0 v3 2 := fun z => ne_3_3 hI hs hp (v3 + 1) 0 (by rw [e3]; exact nx1 2 _) (Or.inr ⟨rfl, z⟩) hn
  refine ifs (fun c => q (fun z => ?_)) (fun c => ifs (fun c2 => q (fun z => ?_)) (fun c2 => And.intro (by decide) (And.intro (by unfold vp_in; decide) ?_)))
  · rcases h4 with y | y
    · rw [y.1] at c; exact absurd c (by decide)
    · exact y.2 (pf_succ.mp z).1
  · have l := (pf_succ.mp z).2.1
    rw [← e3] at l
    exact absurd l (by clear z q hn h4; lia)
  · refine by_c hI (by rw [e3]; have := nI_lt8 (i := 2) (by decide); clear q hn h4 c2; lia) (ifs (fun c3 => ?_) (fun c3 => q (fun z => ?_)))
    · refine ne_3_3 hI hs hp (v3 + 1) 1 (by rw [e3]; exact nx1 2 _) (Or.inl ⟨rfl, pf_succ.mpr ⟨?_, ?_, ?_⟩⟩) hn
      · rcases h4 with y | y
        · exact y.2
        · exact absurd y.1 c
      · rw [← e3]; clear q hn h4; lia
      · rw [← e3]; exact c3.symm
    · have l := (pf_succ.mp z).2.2
      rw [← e3] at l
      exact c3 l.symm
theorem ne_3_1 {post : Int32 → MM → Int64 → Prop} {M : MM} {tl : Int64} (hI : Inv M) (hs : 0 ≤ M 22 7 ∧ M 22 7 ≤ 400) (hp : ∀ (r : Int32), NQ M ws3 r → post r M tl) (v3 v4 : Int32) (e3 : v3 = M 22 7 + nI 1) (h4 : (v4 = 1 ∧ PF M [108, 101, 102, 116] 1) ∨ (v4 = 0 ∧ ¬ PF M [108, 101, 102, 116] 1)) (hn : ∀ j, j < 0 → ¬ IsW M (ws3.getD j [])) : wX4_nameAmong_25 post (10 + 1) M tl 3 0 v3 v4 1 := by
  unfold wX4_nameAmong_25
  refine And.intro (by decide) (ifn (by decide) (And.intro (by decide) (ifn (by decide) (And.intro (by decide) (And.intro (by unfold vp_in; decide) (ifn (by decide) ?_))))))
  have q : ¬ PF M [108, 101, 102, 116] 2 → wX4_nameAmong_129 post (wX4_nameAmong_25 post 10) M tl 3 0 v3 1 := fun z => ne_3_2 hI hs hp (v3 + 1) 0 (by rw [e3]; exact nx1 1 _) (Or.inr ⟨rfl, z⟩) hn
  refine ifs (fun c => q (fun z => ?_)) (fun c => ifs (fun c2 => q (fun z => ?_)) (fun c2 => And.intro (by decide) (And.intro (by unfold vp_in; decide) ?_)))
  · rcases h4 with y | y
    · rw [y.1] at c; exact absurd c (by decide)
    · exact y.2 (pf_succ.mp z).1
  · have l := (pf_succ.mp z).2.1
    rw [← e3] at l
    exact absurd l (by clear z q hn h4; lia)
  · refine by_c hI (by rw [e3]; have := nI_lt8 (i := 1) (by decide); clear q hn h4 c2; lia) (ifs (fun c3 => ?_) (fun c3 => q (fun z => ?_)))
    · refine ne_3_2 hI hs hp (v3 + 1) 1 (by rw [e3]; exact nx1 1 _) (Or.inl ⟨rfl, pf_succ.mpr ⟨?_, ?_, ?_⟩⟩) hn
      · rcases h4 with y | y
        · exact y.2
        · exact absurd y.1 c
      · rw [← e3]; clear q hn h4; lia
      · rw [← e3]; exact c3.symm
    · have l := (pf_succ.mp z).2.2
      rw [← e3] at l
      exact c3 l.symm
theorem ne_3_0 {post : Int32 → MM → Int64 → Prop} {M : MM} {tl : Int64} (hI : Inv M) (hs : 0 ≤ M 22 7 ∧ M 22 7 ≤ 400) (hp : ∀ (r : Int32), NQ M ws3 r → post r M tl) (v3 v4 : Int32) (e3 : v3 = M 22 7 + nI 0) (h4 : (v4 = 1 ∧ PF M [108, 101, 102, 116] 0) ∨ (v4 = 0 ∧ ¬ PF M [108, 101, 102, 116] 0)) (hn : ∀ j, j < 0 → ¬ IsW M (ws3.getD j [])) : wX4_nameAmong_25 post (11 + 1) M tl 3 0 v3 v4 0 := by
  unfold wX4_nameAmong_25
  refine And.intro (by decide) (ifn (by decide) (And.intro (by decide) (ifn (by decide) (And.intro (by decide) (And.intro (by unfold vp_in; decide) (ifn (by decide) ?_))))))
  have q : ¬ PF M [108, 101, 102, 116] 1 → wX4_nameAmong_129 post (wX4_nameAmong_25 post 11) M tl 3 0 v3 0 := fun z => ne_3_1 hI hs hp (v3 + 1) 0 (by rw [e3]; exact nx1 0 _) (Or.inr ⟨rfl, z⟩) hn
  refine ifs (fun c => q (fun z => ?_)) (fun c => ifs (fun c2 => q (fun z => ?_)) (fun c2 => And.intro (by decide) (And.intro (by unfold vp_in; decide) ?_)))
  · rcases h4 with y | y
    · rw [y.1] at c; exact absurd c (by decide)
    · exact y.2 (pf_succ.mp z).1
  · have l := (pf_succ.mp z).2.1
    rw [← e3] at l
    exact absurd l (by clear z q hn h4; lia)
  · refine by_c hI (by rw [e3]; have := nI_lt8 (i := 0) (by decide); clear q hn h4 c2; lia) (ifs (fun c3 => ?_) (fun c3 => q (fun z => ?_)))
    · refine ne_3_1 hI hs hp (v3 + 1) 1 (by rw [e3]; exact nx1 0 _) (Or.inl ⟨rfl, pf_succ.mpr ⟨?_, ?_, ?_⟩⟩) hn
      · rcases h4 with y | y
        · exact y.2
        · exact absurd y.1 c
      · rw [← e3]; clear q hn h4; lia
      · rw [← e3]; exact c3.symm
    · have l := (pf_succ.mp z).2.2
      rw [← e3] at l
      exact c3 l.symm
theorem ne_3 {post : Int32 → MM → Int64 → Prop} {M : MM} {tl : Int64} (hI : Inv M) (hs : 0 ≤ M 22 7 ∧ M 22 7 ≤ 400) (hp : ∀ (r : Int32), NQ M ws3 r → post r M tl) : wpX4_nameAmong post M tl 3 := by
  unfold wpX4_nameAmong wX4_nameAmong_20
  refine ifs (fun c => ?_) (fun c => ?_)
  · exact ⟨11 + 1, ne_3_0 hI hs hp _ 1 (nx0 _) (Or.inl ⟨rfl, pf_zero c⟩) (fun j hj => absurd hj (by omega))⟩
  · exact ⟨11 + 1, ne_3_0 hI hs hp _ 0 (nx0 _) (Or.inr ⟨rfl, fun z => c z.1⟩) (fun j hj => absurd hj (by omega))⟩
