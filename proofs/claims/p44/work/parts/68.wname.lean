/-! NAMES of the reference exactly (printed by wip/gen/names2.py) -/
def RW (N : MM) (w : List Nat) : Prop := Wd (N 97) (N 81 31) (N 81 33) (N 81 32) w
abbrev rb (N : MM) (k : Int32) : Int32 := bya (N 97) (N 81 31) (N 81 33 + k)
def Is4 (N : MM) (n a b c d : Int32) : Prop := N 81 32 - N 81 33 = n ∧ bya (N 97) (N 81 31) (N 81 33) = a ∧ rb N 1 = b ∧ rb N 2 = c ∧ rb N 3 = d
def En3 (N : MM) (a b c : Int32) : Prop := rb N 4 = a ∧ (b = 0 ∨ rb N 5 = b) ∧ (c = 0 ∨ rb N 6 = c)
theorem is_r {post : Int32 → MM → Int64 → Prop} {N : MM} {u : Int64} {n a b c d : Int32} (hI : Inv N) (h1 : Is4 N n a b c d → post 1 N u) (h0 : ¬ Is4 N n a b c d → post 0 N u) : wpX11_is post N u n a b c d := by
  unfold wpX11_is
  have hf := iv_81_33 hI
  refine ifs (fun c0 => ?_) (fun c0 => h0 (fun z => c0 z.1))
  refine lk_r hI hf.1 (ifs (fun c1 => ?_) (fun c1 => h0 (fun z => c1 z.2.1)))
  refine lk_r hI (by lia) (ifs (fun c2 => ?_) (fun c2 => h0 (fun z => c2 z.2.2.1)))
  refine lk_r hI (by lia) (ifs (fun c3 => ?_) (fun c3 => h0 (fun z => c3 z.2.2.2.1)))
  exact lk_r hI (by lia) (ifs (fun c4 => h1 ⟨c0, c1, c2, c3, c4⟩) (fun c4 => h0 (fun z => c4 z.2.2.2.2)))
theorem en_r {post : Int32 → MM → Int64 → Prop} {N : MM} {u : Int64} {a b c : Int32} (hI : Inv N) (h1 : En3 N a b c → post 1 N u) (h0 : ¬ En3 N a b c → post 0 N u) : wpX11_ends post N u a b c := by
  unfold wpX11_ends
  have hf := iv_81_33 hI
  refine lk_r hI (by lia) (ifs (fun c1 => ?_) (fun c1 => h0 (fun z => c1 z.1)))
  have k : (b = 0 ∨ rb N 5 = b) → wX11_ends_32 post N u c := by
    intro hb
    unfold wX11_ends_32
    refine ifs (fun c3 => h1 ⟨c1, hb, Or.inl c3⟩) (fun c3 => ?_)
    exact lk_r hI (by lia) (ifs (fun c4 => h1 ⟨c1, hb, Or.inr c4⟩) (fun c4 => h0 (fun z => z.2.2.elim c3 c4)))
  refine ifs (fun c2 => k (Or.inl c2)) (fun c2 => ?_)
  exact lk_r hI (by lia) (ifs (fun c4 => k (Or.inr c4)) (fun c4 => h0 (fun z => z.2.1.elim c2 c4)))
theorem len_iff {e s k : Int32} : e = s + k ↔ e - s = k := ⟨fun h => by rw [h]; grind, fun h => by rw [← h]; grind⟩
theorem rw_4 {N : MM} {a b c d : Nat} : RW N [a, b, c, d] ↔ Is4 N 4 (nI a) (nI b) (nI c) (nI d) := by
  unfold RW Wd Is4
  constructor
  · intro h
    exact ⟨len_iff.mp h.1, by have := h.2 0 (by decide : 0 < 4); rw [← nx0] at this; exact this, h.2 1 (by decide : 1 < 4), h.2 2 (by decide : 2 < 4), h.2 3 (by decide : 3 < 4)⟩
  · intro h
    refine ⟨len_iff.mpr h.1, fun i hi => ?_⟩
    have hi : i < 4 := hi
    rcases (by omega : i = 0 ∨ i = 1 ∨ i = 2 ∨ i = 3) with z | z | z | z <;> subst z
    · rw [← nx0]; exact h.2.1
    · exact h.2.2.1
    · exact h.2.2.2.1
    · exact h.2.2.2.2
theorem rw_5 {N : MM} {a b c d e : Nat} : RW N [a, b, c, d, e] ↔ (Is4 N 5 (nI a) (nI b) (nI c) (nI d) ∧ En3 N (nI e) 0 0) := by
  unfold RW Wd Is4 En3
  constructor
  · intro h
    exact ⟨⟨len_iff.mp h.1, by have := h.2 0 (by decide : 0 < 5); rw [← nx0] at this; exact this, h.2 1 (by decide : 1 < 5), h.2 2 (by decide : 2 < 5), h.2 3 (by decide : 3 < 5)⟩, h.2 4 (by decide : 4 < 5), Or.inl rfl, Or.inl rfl⟩
  · intro h
    refine ⟨len_iff.mpr h.1.1, fun i hi => ?_⟩
    have hi : i < 5 := hi
    rcases (by omega : i = 0 ∨ i = 1 ∨ i = 2 ∨ i = 3 ∨ i = 4) with z | z | z | z | z <;> subst z
    · rw [← nx0]; exact h.1.2.1
    · exact h.1.2.2.1
    · exact h.1.2.2.2.1
    · exact h.1.2.2.2.2
    · exact h.2.1
theorem rw_6 {N : MM} {a b c d e f : Nat} (hf : nI f ≠ 0) : RW N [a, b, c, d, e, f] ↔ (Is4 N 6 (nI a) (nI b) (nI c) (nI d) ∧ En3 N (nI e) (nI f) 0) := by
  unfold RW Wd Is4 En3
  constructor
  · intro h
    exact ⟨⟨len_iff.mp h.1, by have := h.2 0 (by decide : 0 < 6); rw [← nx0] at this; exact this, h.2 1 (by decide : 1 < 6), h.2 2 (by decide : 2 < 6), h.2 3 (by decide : 3 < 6)⟩, h.2 4 (by decide : 4 < 6), Or.inr (h.2 5 (by decide : 5 < 6)), Or.inl rfl⟩
  · intro h
    refine ⟨len_iff.mpr h.1.1, fun i hi => ?_⟩
    have hi : i < 6 := hi
    rcases (by omega : i = 0 ∨ i = 1 ∨ i = 2 ∨ i = 3 ∨ i = 4 ∨ i = 5) with z | z | z | z | z | z <;> subst z
    · rw [← nx0]; exact h.1.2.1
    · exact h.1.2.2.1
    · exact h.1.2.2.2.1
    · exact h.1.2.2.2.2
    · exact h.2.1
    · exact h.2.2.1.resolve_left hf
theorem rw_7 {N : MM} {a b c d e f g : Nat} (hf : nI f ≠ 0) (hg : nI g ≠ 0) : RW N [a, b, c, d, e, f, g] ↔ (Is4 N 7 (nI a) (nI b) (nI c) (nI d) ∧ En3 N (nI e) (nI f) (nI g)) := by
  unfold RW Wd Is4 En3
  constructor
  · intro h
    exact ⟨⟨len_iff.mp h.1, by have := h.2 0 (by decide : 0 < 7); rw [← nx0] at this; exact this, h.2 1 (by decide : 1 < 7), h.2 2 (by decide : 2 < 7), h.2 3 (by decide : 3 < 7)⟩, h.2 4 (by decide : 4 < 7), Or.inr (h.2 5 (by decide : 5 < 7)), Or.inr (h.2 6 (by decide : 6 < 7))⟩
  · intro h
    refine ⟨len_iff.mpr h.1.1, fun i hi => ?_⟩
    have hi : i < 7 := hi
    rcases (by omega : i = 0 ∨ i = 1 ∨ i = 2 ∨ i = 3 ∨ i = 4 ∨ i = 5 ∨ i = 6) with z | z | z | z | z | z | z <;> subst z
    · rw [← nx0]; exact h.1.2.1
    · exact h.1.2.2.1
    · exact h.1.2.2.2.1
    · exact h.1.2.2.2.2
    · exact h.2.1
    · exact h.2.2.1.resolve_left hf
    · exact h.2.2.2.resolve_left hg
def KQ (N : MM) (r : Int32) : Prop := (r = -4 ∧ ∀ j, j < 5 → ¬ RW N (ws1.getD j [])) ∨ ∃ j, j < 5 ∧ r = nI (j + 1) ∧ RW N (ws1.getD j [])
def LQ (N : MM) (r : Int32) : Prop := (r = -4 ∧ ∀ j, j < 12 → ¬ RW N (ws0.getD j [])) ∨ ∃ j, j < 12 ∧ r = nI (j + 10) ∧ RW N (ws0.getD j [])
def SQ (N : MM) (r : Int32) : Prop := (r = -4 ∧ ∀ j, j < 2 → ¬ RW N (ws3.getD j [])) ∨ ∃ j, j < 2 ∧ r = nI j ∧ RW N (ws3.getD j [])
theorem finKQ {post : Int32 → MM → Int64 → Prop} {N : MM} {u : Int64} (hI : Inv N) (hp : ∀ r : Int32, KQ N r → post r N u) (h0 : ¬ RW N [104, 111, 117, 115, 101]) (h1 : ¬ RW N [103, 97, 114, 100, 101, 110]) (h2 : ¬ RW N [115, 104, 111, 112]) (h3 : ¬ RW N [116, 111, 119, 101, 114]) (h4 : ¬ RW N [115, 104, 114, 105, 110, 101]) : post (-4) N u := hp _ (Or.inl ⟨rfl, fun j hj => by
    rcases (by omega : j = 0 ∨ j = 1 ∨ j = 2 ∨ j = 3 ∨ j = 4) with z | z | z | z | z <;> subst z
    · exact h0
    · exact h1
    · exact h2
    · exact h3
    · exact h4⟩)
theorem finLQ {post : Int32 → MM → Int64 → Prop} {N : MM} {u : Int64} (hI : Inv N) (hp : ∀ r : Int32, LQ N r → post r N u) (h0 : ¬ RW N [108, 111, 116, 115]) (h1 : ¬ RW N [98, 101, 110, 100]) (h2 : ¬ RW N [112, 117, 108, 108]) (h3 : ¬ RW N [112, 114, 105, 99, 101]) (h4 : ¬ RW N [99, 111, 115, 116]) (h5 : ¬ RW N [116, 97, 115, 116, 101]) (h6 : ¬ RW N [108, 97, 99, 107]) (h7 : ¬ RW N [116, 119, 105, 110]) (h8 : ¬ RW N [112, 97, 105, 110, 116]) (h9 : ¬ RW N [114, 105, 103, 104, 116]) (h10 : ¬ RW N [116, 104, 105, 110, 103]) (h11 : ¬ RW N [119, 111, 114, 107]) : post (-4) N u := hp _ (Or.inl ⟨rfl, fun j hj => by
    rcases (by omega : j = 0 ∨ j = 1 ∨ j = 2 ∨ j = 3 ∨ j = 4 ∨ j = 5 ∨ j = 6 ∨ j = 7 ∨ j = 8 ∨ j = 9 ∨ j = 10 ∨ j = 11) with z | z | z | z | z | z | z | z | z | z | z | z <;> subst z
    · exact h0
    · exact h1
    · exact h2
    · exact h3
    · exact h4
    · exact h5
    · exact h6
    · exact h7
    · exact h8
    · exact h9
    · exact h10
    · exact h11⟩)
theorem finSQ {post : Int32 → MM → Int64 → Prop} {N : MM} {u : Int64} (hI : Inv N) (hp : ∀ r : Int32, SQ N r → post r N u) (h0 : ¬ RW N [108, 101, 102, 116]) (h1 : ¬ RW N [114, 105, 103, 104, 116]) : post (-4) N u := hp _ (Or.inl ⟨rfl, fun j hj => by
    rcases (by omega : j = 0 ∨ j = 1) with z | z <;> subst z
    · exact h0
    · exact h1⟩)
theorem kn_107 {post : Int32 → MM → Int64 → Prop} {N : MM} {u : Int64} (hI : Inv N) (hp : ∀ r : Int32, KQ N r → post r N u) (h0 : ¬ RW N [104, 111, 117, 115, 101]) (h1 : ¬ RW N [103, 97, 114, 100, 101, 110]) (h2 : ¬ RW N [115, 104, 111, 112]) (h3 : ¬ RW N [116, 111, 119, 101, 114]) : wX11_kindNow_107 post N u := by
  unfold wX11_kindNow_107
  exact is_r hI (fun zshr => ifn (by decide) (en_r hI (fun yshr => ifn (by decide) (hp _ (Or.inr ⟨4, by decide, rfl, ((rw_6 (N := N) (a := 115) (b := 104) (c := 114) (d := 105) (e := 110) (f := 101) (by decide)).mpr ⟨zshr, yshr⟩)⟩))) (fun yshr => ifp rfl (finKQ hI hp h0 h1 h2 h3 (fun x => yshr ((rw_6 (N := N) (a := 115) (b := 104) (c := 114) (d := 105) (e := 110) (f := 101) (by decide)).mp x).2))))) (fun zshr => ifp rfl (finKQ hI hp h0 h1 h2 h3 (fun x => zshr ((rw_6 (N := N) (a := 115) (b := 104) (c := 114) (d := 105) (e := 110) (f := 101) (by decide)).mp x).1)))
theorem kn_60 {post : Int32 → MM → Int64 → Prop} {N : MM} {u : Int64} (hI : Inv N) (hp : ∀ r : Int32, KQ N r → post r N u) (h0 : ¬ RW N [104, 111, 117, 115, 101]) (h1 : ¬ RW N [103, 97, 114, 100, 101, 110]) : wX11_kindNow_60 post N u := by
  unfold wX11_kindNow_60
  exact is_r hI (fun zsho => ifn (by decide) (hp _ (Or.inr ⟨2, by decide, rfl, ((rw_4 (N := N) (a := 115) (b := 104) (c := 111) (d := 112)).mpr zsho)⟩))) (fun zsho => ifp rfl (is_r hI (fun ztow => ifn (by decide) (en_r hI (fun ytow => ifn (by decide) (hp _ (Or.inr ⟨3, by decide, rfl, ((rw_5 (N := N) (a := 116) (b := 111) (c := 119) (d := 101) (e := 114)).mpr ⟨ztow, ytow⟩)⟩))) (fun ytow => ifp rfl (kn_107 hI hp h0 h1 (fun x => zsho ((rw_4 (N := N) (a := 115) (b := 104) (c := 111) (d := 112)).mp x)) (fun x => ytow ((rw_5 (N := N) (a := 116) (b := 111) (c := 119) (d := 101) (e := 114)).mp x).2))))) (fun ztow => ifp rfl (kn_107 hI hp h0 h1 (fun x => zsho ((rw_4 (N := N) (a := 115) (b := 104) (c := 111) (d := 112)).mp x)) (fun x => ztow ((rw_5 (N := N) (a := 116) (b := 111) (c := 119) (d := 101) (e := 114)).mp x).1)))))
theorem kn_29 {post : Int32 → MM → Int64 → Prop} {N : MM} {u : Int64} (hI : Inv N) (hp : ∀ r : Int32, KQ N r → post r N u) (h0 : ¬ RW N [104, 111, 117, 115, 101]) : wX11_kindNow_29 post N u := by
  unfold wX11_kindNow_29
  exact is_r hI (fun zgar => ifn (by decide) (en_r hI (fun ygar => ifn (by decide) (hp _ (Or.inr ⟨1, by decide, rfl, ((rw_6 (N := N) (a := 103) (b := 97) (c := 114) (d := 100) (e := 101) (f := 110) (by decide)).mpr ⟨zgar, ygar⟩)⟩))) (fun ygar => ifp rfl (kn_60 hI hp h0 (fun x => ygar ((rw_6 (N := N) (a := 103) (b := 97) (c := 114) (d := 100) (e := 101) (f := 110) (by decide)).mp x).2))))) (fun zgar => ifp rfl (kn_60 hI hp h0 (fun x => zgar ((rw_6 (N := N) (a := 103) (b := 97) (c := 114) (d := 100) (e := 101) (f := 110) (by decide)).mp x).1)))
theorem kn_r {post : Int32 → MM → Int64 → Prop} {N : MM} {u : Int64} (hI : Inv N) (hp : ∀ r : Int32, KQ N r → post r N u) : wpX11_kindNow post N u := by
  unfold wpX11_kindNow
  exact is_r hI (fun zhou => ifn (by decide) (en_r hI (fun yhou => ifn (by decide) (hp _ (Or.inr ⟨0, by decide, rfl, ((rw_5 (N := N) (a := 104) (b := 111) (c := 117) (d := 115) (e := 101)).mpr ⟨zhou, yhou⟩)⟩))) (fun yhou => ifp rfl (kn_29 hI hp (fun x => yhou ((rw_5 (N := N) (a := 104) (b := 111) (c := 117) (d := 115) (e := 101)).mp x).2))))) (fun zhou => ifp rfl (kn_29 hI hp (fun x => zhou ((rw_5 (N := N) (a := 104) (b := 111) (c := 117) (d := 115) (e := 101)).mp x).1)))
theorem sd_r {post : Int32 → MM → Int64 → Prop} {N : MM} {u : Int64} (hI : Inv N) (hp : ∀ r : Int32, SQ N r → post r N u) : wpX11_sideNow post N u := by
  unfold wpX11_sideNow
  exact is_r hI (fun zlef => ifn (by decide) (hp _ (Or.inr ⟨0, by decide, rfl, ((rw_4 (N := N) (a := 108) (b := 101) (c := 102) (d := 116)).mpr zlef)⟩))) (fun zlef => ifp rfl (is_r hI (fun zrig => ifn (by decide) (en_r hI (fun yrig => ifn (by decide) (hp _ (Or.inr ⟨1, by decide, rfl, ((rw_5 (N := N) (a := 114) (b := 105) (c := 103) (d := 104) (e := 116)).mpr ⟨zrig, yrig⟩)⟩))) (fun yrig => ifp rfl (finSQ hI hp (fun x => zlef ((rw_4 (N := N) (a := 108) (b := 101) (c := 102) (d := 116)).mp x)) (fun x => yrig ((rw_5 (N := N) (a := 114) (b := 105) (c := 103) (d := 104) (e := 116)).mp x).2))))) (fun zrig => ifp rfl (finSQ hI hp (fun x => zlef ((rw_4 (N := N) (a := 108) (b := 101) (c := 102) (d := 116)).mp x)) (fun x => zrig ((rw_5 (N := N) (a := 114) (b := 105) (c := 103) (d := 104) (e := 116)).mp x).1)))))
theorem no_r {post : Int32 → MM → Int64 → Prop} {N : MM} {u : Int64} (hI : Inv N) (h1 : RW N [110, 111, 116, 104, 105, 110, 103] → post 1 N u) (h0 : ¬ RW N [110, 111, 116, 104, 105, 110, 103] → post 0 N u) : wpX11_isNothing post N u := by
  unfold wpX11_isNothing
  exact is_r hI (fun znot => ifn (by decide) (en_r hI (fun ynot => ifn (by decide) (h1 ((rw_7 (N := N) (a := 110) (b := 111) (c := 116) (d := 104) (e := 105) (f := 110) (g := 103) (by decide) (by decide)).mpr ⟨znot, ynot⟩))) (fun ynot => ifp rfl (h0 (fun x => ynot ((rw_7 (N := N) (a := 110) (b := 111) (c := 116) (d := 104) (e := 105) (f := 110) (g := 103) (by decide) (by decide)).mp x).2))))) (fun znot => ifp rfl (h0 (fun x => znot ((rw_7 (N := N) (a := 110) (b := 111) (c := 116) (d := 104) (e := 105) (f := 110) (g := 103) (by decide) (by decide)).mp x).1)))
theorem rn_87 {post : Int32 → MM → Int64 → Prop} {N : MM} {u : Int64} (hI : Inv N) (hp : ∀ r : Int32, LQ N r → post r N u) (h0 : ¬ RW N [108, 111, 116, 115]) (h1 : ¬ RW N [98, 101, 110, 100]) (h2 : ¬ RW N [112, 117, 108, 108]) (h3 : ¬ RW N [112, 114, 105, 99, 101]) (h6 : ¬ RW N [108, 97, 99, 107]) (h7 : ¬ RW N [116, 119, 105, 110]) (h8 : ¬ RW N [112, 97, 105, 110, 116]) (h9 : ¬ RW N [114, 105, 103, 104, 116]) (h10 : ¬ RW N [116, 104, 105, 110, 103]) (h11 : ¬ RW N [119, 111, 114, 107]) : wX11_ruleNow_87 post N u := by
  unfold wX11_ruleNow_87
  exact is_r hI (fun zcos => ifn (by decide) (hp _ (Or.inr ⟨4, by decide, rfl, ((rw_4 (N := N) (a := 99) (b := 111) (c := 115) (d := 116)).mpr zcos)⟩))) (fun zcos => ifp rfl (is_r hI (fun ztas => ifn (by decide) (en_r hI (fun ytas => ifn (by decide) (hp _ (Or.inr ⟨5, by decide, rfl, ((rw_5 (N := N) (a := 116) (b := 97) (c := 115) (d := 116) (e := 101)).mpr ⟨ztas, ytas⟩)⟩))) (fun ytas => ifp rfl (finLQ hI hp h0 h1 h2 h3 (fun x => zcos ((rw_4 (N := N) (a := 99) (b := 111) (c := 115) (d := 116)).mp x)) (fun x => ytas ((rw_5 (N := N) (a := 116) (b := 97) (c := 115) (d := 116) (e := 101)).mp x).2) h6 h7 h8 h9 h10 h11)))) (fun ztas => ifp rfl (finLQ hI hp h0 h1 h2 h3 (fun x => zcos ((rw_4 (N := N) (a := 99) (b := 111) (c := 115) (d := 116)).mp x)) (fun x => ztas ((rw_5 (N := N) (a := 116) (b := 97) (c := 115) (d := 116) (e := 101)).mp x).1) h6 h7 h8 h9 h10 h11))))
theorem rn_r {post : Int32 → MM → Int64 → Prop} {N : MM} {u : Int64} (hI : Inv N) (hp : ∀ r : Int32, LQ N r → post r N u) (h6 : ¬ RW N [108, 97, 99, 107]) (h7 : ¬ RW N [116, 119, 105, 110]) (h8 : ¬ RW N [112, 97, 105, 110, 116]) (h9 : ¬ RW N [114, 105, 103, 104, 116]) (h10 : ¬ RW N [116, 104, 105, 110, 103]) (h11 : ¬ RW N [119, 111, 114, 107]) : wpX11_ruleNow post N u := by
  unfold wpX11_ruleNow
  exact is_r hI (fun zlot => ifn (by decide) (hp _ (Or.inr ⟨0, by decide, rfl, ((rw_4 (N := N) (a := 108) (b := 111) (c := 116) (d := 115)).mpr zlot)⟩))) (fun zlot => ifp rfl (is_r hI (fun zben => ifn (by decide) (hp _ (Or.inr ⟨1, by decide, rfl, ((rw_4 (N := N) (a := 98) (b := 101) (c := 110) (d := 100)).mpr zben)⟩))) (fun zben => ifp rfl (is_r hI (fun zpul => ifn (by decide) (hp _ (Or.inr ⟨2, by decide, rfl, ((rw_4 (N := N) (a := 112) (b := 117) (c := 108) (d := 108)).mpr zpul)⟩))) (fun zpul => ifp rfl (is_r hI (fun zpri => ifn (by decide) (en_r hI (fun ypri => ifn (by decide) (hp _ (Or.inr ⟨3, by decide, rfl, ((rw_5 (N := N) (a := 112) (b := 114) (c := 105) (d := 99) (e := 101)).mpr ⟨zpri, ypri⟩)⟩))) (fun ypri => ifp rfl (rn_87 hI hp (fun x => zlot ((rw_4 (N := N) (a := 108) (b := 111) (c := 116) (d := 115)).mp x)) (fun x => zben ((rw_4 (N := N) (a := 98) (b := 101) (c := 110) (d := 100)).mp x)) (fun x => zpul ((rw_4 (N := N) (a := 112) (b := 117) (c := 108) (d := 108)).mp x)) (fun x => ypri ((rw_5 (N := N) (a := 112) (b := 114) (c := 105) (d := 99) (e := 101)).mp x).2) h6 h7 h8 h9 h10 h11)))) (fun zpri => ifp rfl (rn_87 hI hp (fun x => zlot ((rw_4 (N := N) (a := 108) (b := 111) (c := 116) (d := 115)).mp x)) (fun x => zben ((rw_4 (N := N) (a := 98) (b := 101) (c := 110) (d := 100)).mp x)) (fun x => zpul ((rw_4 (N := N) (a := 112) (b := 117) (c := 108) (d := 108)).mp x)) (fun x => zpri ((rw_5 (N := N) (a := 112) (b := 114) (c := 105) (d := 99) (e := 101)).mp x).1) h6 h7 h8 h9 h10 h11))))))))
theorem ln_128 {post : Int32 → MM → Int64 → Prop} {N : MM} {u : Int64} (hI : Inv N) (hp : ∀ r : Int32, LQ N r → post r N u) (h6 : ¬ RW N [108, 97, 99, 107]) (h7 : ¬ RW N [116, 119, 105, 110]) (h8 : ¬ RW N [112, 97, 105, 110, 116]) (h9 : ¬ RW N [114, 105, 103, 104, 116]) (h10 : ¬ RW N [116, 104, 105, 110, 103]) : wX11_lineNow_128 post N u := by
  unfold wX11_lineNow_128
  exact is_r hI (fun zwor => ifn (by decide) (hp _ (Or.inr ⟨11, by decide, rfl, ((rw_4 (N := N) (a := 119) (b := 111) (c := 114) (d := 107)).mpr zwor)⟩))) (fun zwor => ifp rfl (rn_r hI hp h6 h7 h8 h9 h10 (fun x => zwor ((rw_4 (N := N) (a := 119) (b := 111) (c := 114) (d := 107)).mp x))))
theorem ln_98 {post : Int32 → MM → Int64 → Prop} {N : MM} {u : Int64} (hI : Inv N) (hp : ∀ r : Int32, LQ N r → post r N u) (h6 : ¬ RW N [108, 97, 99, 107]) (h7 : ¬ RW N [116, 119, 105, 110]) (h8 : ¬ RW N [112, 97, 105, 110, 116]) (h9 : ¬ RW N [114, 105, 103, 104, 116]) : wX11_lineNow_98 post N u := by
  unfold wX11_lineNow_98
  exact is_r hI (fun zthi => ifn (by decide) (en_r hI (fun ythi => ifn (by decide) (hp _ (Or.inr ⟨10, by decide, rfl, ((rw_5 (N := N) (a := 116) (b := 104) (c := 105) (d := 110) (e := 103)).mpr ⟨zthi, ythi⟩)⟩))) (fun ythi => ifp rfl (ln_128 hI hp h6 h7 h8 h9 (fun x => ythi ((rw_5 (N := N) (a := 116) (b := 104) (c := 105) (d := 110) (e := 103)).mp x).2))))) (fun zthi => ifp rfl (ln_128 hI hp h6 h7 h8 h9 (fun x => zthi ((rw_5 (N := N) (a := 116) (b := 104) (c := 105) (d := 110) (e := 103)).mp x).1)))
theorem ln_68 {post : Int32 → MM → Int64 → Prop} {N : MM} {u : Int64} (hI : Inv N) (hp : ∀ r : Int32, LQ N r → post r N u) (h6 : ¬ RW N [108, 97, 99, 107]) (h7 : ¬ RW N [116, 119, 105, 110]) (h8 : ¬ RW N [112, 97, 105, 110, 116]) : wX11_lineNow_68 post N u := by
  unfold wX11_lineNow_68
  exact is_r hI (fun zrig => ifn (by decide) (en_r hI (fun yrig => ifn (by decide) (hp _ (Or.inr ⟨9, by decide, rfl, ((rw_5 (N := N) (a := 114) (b := 105) (c := 103) (d := 104) (e := 116)).mpr ⟨zrig, yrig⟩)⟩))) (fun yrig => ifp rfl (ln_98 hI hp h6 h7 h8 (fun x => yrig ((rw_5 (N := N) (a := 114) (b := 105) (c := 103) (d := 104) (e := 116)).mp x).2))))) (fun zrig => ifp rfl (ln_98 hI hp h6 h7 h8 (fun x => zrig ((rw_5 (N := N) (a := 114) (b := 105) (c := 103) (d := 104) (e := 116)).mp x).1)))
theorem ln_r {post : Int32 → MM → Int64 → Prop} {N : MM} {u : Int64} (hI : Inv N) (hp : ∀ r : Int32, LQ N r → post r N u) : wpX11_lineNow post N u := by
  unfold wpX11_lineNow
  exact is_r hI (fun zlac => ifn (by decide) (hp _ (Or.inr ⟨6, by decide, rfl, ((rw_4 (N := N) (a := 108) (b := 97) (c := 99) (d := 107)).mpr zlac)⟩))) (fun zlac => ifp rfl (is_r hI (fun ztwi => ifn (by decide) (hp _ (Or.inr ⟨7, by decide, rfl, ((rw_4 (N := N) (a := 116) (b := 119) (c := 105) (d := 110)).mpr ztwi)⟩))) (fun ztwi => ifp rfl (is_r hI (fun zpai => ifn (by decide) (en_r hI (fun ypai => ifn (by decide) (hp _ (Or.inr ⟨8, by decide, rfl, ((rw_5 (N := N) (a := 112) (b := 97) (c := 105) (d := 110) (e := 116)).mpr ⟨zpai, ypai⟩)⟩))) (fun ypai => ifp rfl (ln_68 hI hp (fun x => zlac ((rw_4 (N := N) (a := 108) (b := 97) (c := 99) (d := 107)).mp x)) (fun x => ztwi ((rw_4 (N := N) (a := 116) (b := 119) (c := 105) (d := 110)).mp x)) (fun x => ypai ((rw_5 (N := N) (a := 112) (b := 97) (c := 105) (d := 110) (e := 116)).mp x).2))))) (fun zpai => ifp rfl (ln_68 hI hp (fun x => zlac ((rw_4 (N := N) (a := 108) (b := 97) (c := 99) (d := 107)).mp x)) (fun x => ztwi ((rw_4 (N := N) (a := 116) (b := 119) (c := 105) (d := 110)).mp x)) (fun x => zpai ((rw_5 (N := N) (a := 112) (b := 97) (c := 105) (d := 110) (e := 116)).mp x).1)))))))
theorem nI_inj {a b : Nat} (ha : a < 1000) (hb : b < 1000) (h : nI a = nI b) : a = b := by
  have q := congrArg Int32.toInt h
  rw [nI_sm (by omega), nI_sm (by omega)] at q
  omega
theorem wd_un {T : Nat → Int32} {n s e : Int32} {v w : List Nat} (hv : v.length < 100) (hw : w.length < 100) (bv : ∀ i, i < v.length → v.getD i 0 < 1000) (bw : ∀ i, i < w.length → w.getD i 0 < 1000) (h : Wd T n s e v) (g : Wd T n s e w) : v = w := by
  have el : nI v.length = nI w.length := by
    have := h.1.symm.trans g.1
    generalize nI v.length = a at this ⊢
    generalize nI w.length = b at this ⊢
    lia
  have el := nI_inj (by omega) (by omega) el
  refine List.ext_getElem el (fun i h1 h2 => ?_)
  have q := (h.2 i h1).symm.trans (g.2 i h2)
  have q := nI_inj (bv i h1) (bw i h2) q
  rw [List.getD_eq_getElem?_getD, List.getD_eq_getElem?_getD, List.getElem?_eq_getElem h1, List.getElem?_eq_getElem h2] at q
  simpa using q
def wsOk (ws : List (List Nat)) : Bool := ws.all (fun w => decide (w.length < 100) && w.all (fun c => decide (c < 1000)))
theorem ws_len {ws : List (List Nat)} (h : wsOk ws = true) {j : Nat} (hj : j < ws.length) : (ws.getD j []).length < 100 ∧ ∀ i, i < (ws.getD j []).length → (ws.getD j []).getD i 0 < 1000 := by
  have hm : ws.getD j [] ∈ ws := by
    rw [List.getD_eq_getElem?_getD, List.getElem?_eq_getElem hj]
    exact List.getElem_mem hj
  have q := List.all_eq_true.mp h _ hm
  rw [Bool.and_eq_true] at q
  refine ⟨of_decide_eq_true q.1, fun i hi => ?_⟩
  have m : (ws.getD j []).getD i 0 ∈ ws.getD j [] := by
    generalize ws.getD j [] = w at hi ⊢
    rw [List.getD_eq_getElem?_getD, List.getElem?_eq_getElem hi]
    exact List.getElem_mem hi
  exact of_decide_eq_true (List.all_eq_true.mp q.2 _ m)
theorem ws_un {ws : List (List Nat)} (h : wsOk ws = true) {T : Nat → Int32} {n s e : Int32} {i j : Nat} (hi : i < ws.length) (hj : j < ws.length) (a : Wd T n s e (ws.getD i [])) (b : Wd T n s e (ws.getD j [])) : ws.getD i [] = ws.getD j [] := wd_un (ws_len h hi).1 (ws_len h hj).1 (ws_len h hi).2 (ws_len h hj).2 a b
theorem ws0_d : ∀ i, i < 12 → ∀ j, j < 12 → ws0.getD i [] = ws0.getD j [] → i = j := by decide
theorem ws1_d : ∀ i, i < 5 → ∀ j, j < 5 → ws1.getD i [] = ws1.getD j [] → i = j := by decide
theorem ws2_d : ∀ i, i < 6 → ∀ j, j < 6 → ws2.getD i [] = ws2.getD j [] → i = j := by decide
theorem ws3_d : ∀ i, i < 2 → ∀ j, j < 2 → ws3.getD i [] = ws3.getD j [] → i = j := by decide
