/-! TOKENS: what the class's takeToken and the reference's next find, exactly -/
def bya (T : Nat → Int32) (n p : Int32) : Int32 := if p < n then T p.toNatClampNeg else -1
def TY (r c : Int32) : Prop := (r = 0 ∧ c < 0) ∨ (r = 1 ∧ 97 ≤ c ∧ c ≤ 122) ∨ (r = 2 ∧ 48 ≤ c ∧ c ≤ 57) ∨ (r = 3 ∧ c = 59) ∨ (r = 4 ∧ 0 ≤ c ∧ ¬ (97 ≤ c ∧ c ≤ 122) ∧ ¬ (48 ≤ c ∧ c ≤ 57) ∧ c ≠ 59)
theorem ty_un {r s c : Int32} (h : TY r c) (g : TY s c) : r = s := by
  unfold TY at h g
  lia
def Sk (T : Nat → Int32) (n p s : Int32) : Prop := p ≤ s ∧ (∀ x : Int32, p ≤ x → x < s → bya T n x = 32) ∧ bya T n s ≠ 32
def Rn (T : Nat → Int32) (n lo hi s e : Int32) : Prop := s ≤ e ∧ (∀ x : Int32, s ≤ x → x < e → lo ≤ bya T n x ∧ bya T n x ≤ hi) ∧ ¬ (lo ≤ bya T n e ∧ bya T n e ≤ hi)
def Vl (T : Nat → Int32) (n s e v : Int32) : Prop := (e = s + 1 → v = bya T n s - 48) ∧ (e = s + 2 → v = 10 * (bya T n s - 48) + bya T n (s + 1) - 48)
def Lx (T : Nat → Int32) (n p st nx ty vl fa pl : Int32) : Prop := Sk T n p st ∧ (p ≤ st ∧ st ≤ 400) ∧ ((fa = 0 ∧ TY ty (bya T n st) ∧ ty ≠ 4 ∧ (st ≤ nx ∧ nx ≤ 400) ∧ (ty = 0 → nx = st) ∧ (ty = 1 → Rn T n 97 122 st nx) ∧ (ty = 2 → Rn T n 48 57 st nx ∧ nx - st ≤ 2 ∧ Vl T n st nx vl) ∧ (ty = 3 → nx = st + 1)) ∨ (fa = 1 ∧ pl = st ∧ (TY 4 (bya T n st) ∨ (TY 2 (bya T n st) ∧ ∃ e, (st ≤ e ∧ e ≤ 400) ∧ Rn T n 48 57 st e ∧ 2 < e - st))))
theorem sk_un {T : Nat → Int32} {n p s t : Int32} (h : Sk T n p s) (g : Sk T n p t) : s = t := by
  obtain ⟨h1, h2, h3⟩ := h
  obtain ⟨g1, g2, g3⟩ := g
  by_cases a : s < t
  · exact absurd (g2 s h1 a) h3
  · by_cases b : t < s
    · exact absurd (h2 t g1 b) g3
    · clear h2 g2 h3 g3; lia
theorem rn_un {T : Nat → Int32} {n lo hi p s t : Int32} (h : Rn T n lo hi p s) (g : Rn T n lo hi p t) : s = t := by
  obtain ⟨h1, h2, h3⟩ := h
  obtain ⟨g1, g2, g3⟩ := g
  by_cases a : s < t
  · exact absurd (g2 s h1 a) h3
  · by_cases b : t < s
    · exact absurd (h2 t g1 b) g3
    · clear h2 g2 h3 g3; lia
theorem vl_un {T : Nat → Int32} {n s e v w : Int32} (hs : 0 ≤ s ∧ s ≤ 400) (he : s < e ∧ e ≤ 400) (hd : e - s ≤ 2) (h : Vl T n s e v) (g : Vl T n s e w) : v = w := by
  by_cases a : e = s + 1
  · rw [h.1 a, g.1 a]
  · have b : e = s + 2 := by clear h g; lia
    rw [h.2 b, g.2 b]
/-- what two readings of one place agree on -/
theorem lx_un {T : Nat → Int32} {n p st nx ty vl fa pl st' nx' ty' vl' fa' pl' : Int32} (hp : 0 ≤ p) (h : Lx T n p st nx ty vl fa pl) (g : Lx T n p st' nx' ty' vl' fa' pl') : st = st' ∧ fa = fa' ∧ (fa = 0 → nx = nx' ∧ ty = ty' ∧ (ty = 2 → vl = vl')) ∧ (fa ≠ 0 → pl = pl') := by
  obtain ⟨h1, hb, h2⟩ := h
  obtain ⟨g1, gb, g2⟩ := g
  have e := sk_un h1 g1
  subst e
  refine ⟨rfl, ?_⟩
  rcases h2 with ⟨f0, t0, n4, hn, a0, a1, a2, a3⟩ | ⟨f0, q0, t0⟩
  · rcases g2 with ⟨f1, t1, m4, gn, b0, b1, b2, b3⟩ | ⟨f1, q1, t1⟩
    · have et := ty_un t0 t1
      subst et
      refine ⟨by rw [f0, f1], fun _ => ⟨?_, rfl, fun z => ?_⟩, fun z => absurd f0 z⟩
      · have t2 := t0
        unfold TY at t2
        rcases (by clear a1 a2 b1 b2; lia : ty = 0 ∨ ty = 1 ∨ ty = 2 ∨ ty = 3) with z | z | z | z
        · rw [a0 z, b0 z]
        · exact rn_un (a1 z) (b1 z)
        · exact rn_un (a2 z).1 (b2 z).1
        · rw [a3 z, b3 z]
      · have k := rn_un (a2 z).1 (b2 z).1
        subst k
        have t2 := t0
        rw [z] at t2
        have ne : st ≠ nx := fun q => by
          have := (a2 z).1.2.2
          rw [← q] at this
          unfold TY at t2
          clear a1 a2 b1 b2; lia
        exact vl_un ⟨by clear a1 a2 b1 b2 t2; lia, hb.2⟩ ⟨by clear a1 a2 b1 b2 t2; lia, hn.2⟩ (a2 z).2.1 (a2 z).2.2 (b2 z).2.2
    · exfalso
      rcases t1 with t1 | ⟨t1, e, eb, r1, r2⟩
      · exact n4 (ty_un t0 t1)
      · have z := ty_un t0 t1
        have k := rn_un (a2 z).1 r1
        subst k
        have := (a2 z).2.1
        clear a1 a2 r1; lia
  · rcases g2 with ⟨f1, t1, m4, gn, b0, b1, b2, b3⟩ | ⟨f1, q1, t1⟩
    · exfalso
      rcases t0 with t0 | ⟨t0, e, eb, r1, r2⟩
      · exact m4 (ty_un t1 t0)
      · have z := ty_un t1 t0
        have k := rn_un (b2 z).1 r1
        subst k
        have := (b2 z).2.1
        clear b1 b2 r1; lia
    · exact ⟨by rw [f0, f1], fun z => absurd z (by rw [f0]; decide), fun _ => by rw [q0, q1]⟩
/-! the class -/
theorem by_c {post : Int32 → MM → Int64 → Prop} {M : MM} {tl : Int64} {p : Int32} (hI : Inv M) (h0 : 0 ≤ p) (hp : post (bya (M 2) (M 1 1) p) M tl) : wpX9_byteAt post M tl p := by
  unfold wpX9_byteAt
  have hs := iv_1_1 hI
  unfold bya at hp
  refine ifn (by lia) (ifs (fun c => ?_) (fun c => ifn (by lia) (And.intro (vpI (c := 400) (by decide) h0 (by lia)) ?_)))
  · rw [if_neg (by lia)] at hp; exact hp
  · rw [if_pos (by lia)] at hp; exact hp
theorem ty_c {post : Int32 → MM → Int64 → Prop} {M : MM} {tl : Int64} {c : Int32} (hp : ∀ r : Int32, TY r c → post r M tl) : wpX4_typeOf post M tl c := by
  unfold wpX4_typeOf wX4_typeOf_20 wX4_typeOf_34
  unfold TY at hp
  exact ifs (fun _ => ifs (fun _ => ifs (fun _ => ifs (fun _ => hp _ (by lia)) (fun _ => hp _ (by lia))) (fun _ => ifs (fun _ => ifs (fun _ => hp _ (by lia)) (fun _ => hp _ (by lia))) (fun _ => hp _ (by lia)))) (fun _ => ifs (fun _ => ifs (fun _ => ifs (fun _ => hp _ (by lia)) (fun _ => hp _ (by lia))) (fun _ => ifs (fun _ => ifs (fun _ => hp _ (by lia)) (fun _ => hp _ (by lia))) (fun _ => hp _ (by lia)))) (fun _ => hp _ (by lia)))) (fun _ => hp _ (by lia))
abbrev TkF (M M1 : MM) : Prop := Fr [] [(22, 2), (22, 3), (22, 6), (22, 7), (22, 8), (22, 9)] M M1
theorem tkf_row {M M1 : MM} (h : TkF M M1) {a : Nat} (ha : a ≠ 22) : M1 a = M a := funext fun j => h a j (by simp) (by simp [ha])
theorem tkf_set {M M1 : MM} {j : Nat} {v : Int32} (h : TkF M M1) (hj : (22, j) ∈ [(22, 2), (22, 3), (22, 6), (22, 7), (22, 8), (22, 9)]) : TkF M (mset M1 22 j v) := fr_fld h hj
/-- figures so far -/
def Fg (T : Nat → Int32) (n s x f : Int32) : Prop := (x = s → f = 0) ∧ Vl T n s x f
section TOK
variable {post : MM → Int64 → Prop} {M0 : MM} {tl : Int64} {T : Nat → Int32} {n p : Int32}
/-- the loop over the signs of a name or of a number, its state -/
def TD (M0 : MM) (T : Nat → Int32) (n s : Int32) (M : MM) : Prop := Inv M ∧ TkF M0 M ∧ M 22 2 = 0 ∧ M 22 7 = s ∧ s ≤ M 22 6 ∧ TY (M 22 8) (bya T n s) ∧ ((M 22 8 = 1 → ∀ x : Int32, s ≤ x → x < M 22 6 → 97 ≤ bya T n x ∧ bya T n x ≤ 122) ∧ (M 22 8 = 2 → (∀ x : Int32, s ≤ x → x < M 22 6 → 48 ≤ bya T n x ∧ bya T n x ≤ 57) ∧ Fg T n s (M 22 6) (M 22 9)) ∧ (M 22 8 = 3 → M 22 6 = s + 1) ∧ (M 22 8 = 0 ∨ M 22 8 = 4 → M 22 6 = s))
theorem lx_202 {s : Int32} {M : MM} (hT : M0 2 = T) (hn : M0 1 1 = n) (h : TD M0 T n s M) (hk : Sk T n p s) (hs : p ≤ s ∧ s ≤ 400) (he : M 22 8 = 1 → ¬ (97 ≤ bya T n (M 22 6) ∧ bya T n (M 22 6) ≤ 122)) (he2 : M 22 8 = 2 → ¬ (48 ≤ bya T n (M 22 6) ∧ bya T n (M 22 6) ≤ 57)) (hp : ∀ M1 : MM, Inv M1 → TkF M0 M1 → Lx T n p (M1 22 7) (M1 22 6) (M1 22 8) (M1 22 9) (M1 22 2) (M1 22 3) → post M1 tl) : wX4_takeToken_202 post M tl := by
  obtain ⟨hI, hF, z2, z7, l6, t8, i1, i2, i3, i4⟩ := h
  have b6 := iv_22_6 hI
  unfold wX4_takeToken_202
  have bad : (TY 4 (bya T n s) ∨ (TY 2 (bya T n s) ∧ ∃ e, (s ≤ e ∧ e ≤ 400) ∧ Rn T n 48 57 s e ∧ 2 < e - s)) → wX4_takeToken_231 post M tl := by
    intro hb
    unfold wX4_takeToken_231 wpX4_fail
    intro W e W2 e2
    have i2' : Inv W2 := by rw [e2, e]; exact inv_set (inv_set hI (i_any _)) (i_any _)
    have f2 : TkF M0 W2 := by rw [e2, e]; exact tkf_set (tkf_set hF (by decide)) (by decide)
    have w7 : W2 22 7 = s := by rw [e2, mset_nk (by decide), e, mset_nk (by decide), z7]
    have w2 : W2 22 2 = 1 := by rw [e2, mset_nk (by decide), e]; exact mset_at _ _ _ _
    have w3 : W2 22 3 = s := by rw [e2]; exact (mset_at _ _ _ _).trans z7
    refine hp W2 i2' f2 ?_
    rw [w7, w2, w3]
    exact ⟨hk, hs, Or.inr ⟨rfl, rfl, hb⟩⟩
  have good : M 22 8 ≠ 4 → (M 22 8 = 2 → M 22 6 - s ≤ 2) → post M tl := by
    intro n4 n2
    refine hp M hI hF ?_
    rw [z7, z2]
    exact ⟨hk, hs, Or.inl ⟨rfl, t8, n4, ⟨l6, b6.2⟩, fun q => i4 (Or.inl q), fun q => ⟨l6, i1 q, he q⟩, fun q => ⟨⟨l6, (i2 q).1, he2 q⟩, n2 q, (i2 q).2.2⟩, i3⟩⟩
  refine ifs (fun c => bad (Or.inl (c ▸ t8))) (fun c => ifs (fun c2 => ?_) (fun c2 => good c (fun q => absurd q c2)))
  rw [z7]
  refine ifs (fun c3 => good c (fun _ => c3)) (fun c3 => bad (Or.inr ⟨c2 ▸ t8, M 22 6, ⟨l6, b6.2⟩, ⟨l6, (i2 c2).1, he2 c2⟩, by clear i1 i2 he he2; lia⟩))
theorem lx_100 {s : Int32} (hT : M0 2 = T) (hn : M0 1 1 = n) (hk : Sk T n p s) (hs : p ≤ s ∧ s ≤ 400) (h0 : 0 ≤ s) (hp : ∀ M1 : MM, Inv M1 → TkF M0 M1 → Lx T n p (M1 22 7) (M1 22 6) (M1 22 8) (M1 22 9) (M1 22 2) (M1 22 3) → post M1 tl) : ∀ M : MM, TD M0 T n s M → wX4_takeToken_100 post (400 + 1) M tl := by
  intro M hM
  refine cell_ex (P := fun d M t => t = tl → wX4_takeToken_100 post d M t) (D := TD M0 T n s) 22 6 400 (by decide) (fun M h => iv_22_6 h.1) ?_ M tl hM rfl
  clear hM M
  intro d M t h rc et
  subst et
  have hh := h
  obtain ⟨hI, hF, z2, z7, l6, t8, i1, i2, i3, i4⟩ := h
  have e1 : M 1 = M0 1 := tkf_row hF (by decide)
  have e2 : M 2 = T := (tkf_row hF (by decide)).trans hT
  have en : M 1 1 = n := by rw [e1]; exact hn
  have b6 := iv_22_6 hI
  have b1 := iv_1_1 hI
  unfold wX4_takeToken_100
  rw [en]
  have bout : n ≤ M 22 6 → bya T n (M 22 6) = -1 := fun c => by unfold bya; rw [if_neg (by clear i1 i2; lia)]
  refine ifs (fun c => lx_202 hT hn hh hk hs (fun _ q => by rw [bout c] at q; exact absurd q.1 (by decide)) (fun _ q => by rw [bout c] at q; exact absurd q.1 (by decide)) hp) (fun c => ?_)
  have k130 : (M 22 8 = 1 ∨ M 22 8 = 2) → wX4_takeToken_130 post (wX4_takeToken_100 post d) M t := by
    intro h12
    unfold wX4_takeToken_130
    refine by_c hI b6.1 ?_
    rw [e2, en]
    refine ty_c (fun r hr => ?_)
    refine ifs (fun c2 => ?_) (fun c2 => ?_)
    · -- one sign more
      rw [c2] at hr
      have step : ∀ f : Int32, (M 22 8 = 2 → Fg T n s (M 22 6 + 1) f) → wX4_takeToken_186 post (wX4_takeToken_100 post d) M t f := by
        intro f hf
        unfold wX4_takeToken_186
        intro W e W2 e3
        have w6 : W2 22 6 = M 22 6 + 1 := by rw [e3, mset_at, e, mset_nk (by decide)]
        have w7 : W2 22 7 = M 22 7 := by rw [e3, mset_nk (by decide), e, mset_nk (by decide)]
        have w8 : W2 22 8 = M 22 8 := by rw [e3, mset_nk (by decide), e, mset_nk (by decide)]
        have w2 : W2 22 2 = M 22 2 := by rw [e3, mset_nk (by decide), e, mset_nk (by decide)]
        have w9 : W2 22 9 = f := by rw [e3, mset_nk (by decide), e]; exact mset_at _ _ _ _
        have wW : W 22 6 = M 22 6 := by rw [e, mset_nk (by decide)]
        have iW : Inv W2 := by
          rw [e3]
          refine inv_set (by rw [e]; exact inv_set hI (i_any _)) ?_
          rw [wW]
          exact (show 0 ≤ M 22 6 + 1 ∧ M 22 6 + 1 ≤ 400 from ⟨by clear i1 i2; lia, by clear i1 i2; lia⟩)
        refine rc W2 t ⟨iW, by rw [e3, e]; exact tkf_set (tkf_set hF (by decide)) (by decide), by rw [w2]; exact z2, by rw [w7]; exact z7, by rw [w6]; clear i1 i2; lia, by rw [w8]; exact t8, ?_⟩ w6 rfl
        rw [w8, w6, w9]
        refine ⟨fun q x x0 x1 => ?_, fun q => ⟨fun x x0 x1 => ?_, hf q⟩, fun q => absurd q (by clear i1 i2; lia), fun q => absurd q (by clear i1 i2; lia)⟩
        · by_cases y : x = M 22 6
          · rw [y]; rw [q] at hr; unfold TY at hr; clear i1 i2; lia
          · exact i1 q x x0 (by clear i1 i2; lia)
        · by_cases y : x = M 22 6
          · rw [y]; rw [q] at hr; unfold TY at hr; clear i1 i2; lia
          · exact (i2 q).1 x x0 (by clear i1 i2; lia)
      refine ifs (fun c3 => ?_) (fun c3 => step 0 (fun q => absurd q c3))
      refine by_c hI b6.1 ?_
      rw [e2, en]
      refine step _ (fun _ => ?_)
      have g := (i2 c3).2
      refine ⟨fun q => absurd q (by clear i1 i2 g; lia), fun q => ?_, fun q => ?_⟩
      · have y : M 22 6 = s := by clear i1 i2 g; lia
        rw [g.1 y, y]; clear i1 i2 g; grind
      · have y : M 22 6 = s + 1 := by clear i1 i2 g; lia
        rw [g.2.1 y, y]
    · exact lx_202 hT hn hh hk hs (fun q w => c2 (ty_un hr (by rw [q]; unfold TY; clear i1 i2; lia))) (fun q w => c2 (ty_un hr (by rw [q]; unfold TY; clear i1 i2; lia))) hp
  refine ifs (fun c2 => k130 (Or.inl c2)) (fun c2 => ifs (fun c3 => k130 (Or.inr c3)) (fun c3 => ?_))
  exact lx_202 hT hn hh hk hs (fun q => absurd q c2) (fun q => absurd q c3) hp
theorem lx_51 {M : MM} (hT : M0 2 = T) (hn : M0 1 1 = n) (hI : Inv M) (hF : TkF M0 M) (z2 : M 22 2 = 0) (hk : Sk T n p (M 22 6)) (hs : p ≤ M 22 6) (hp : ∀ M1 : MM, Inv M1 → TkF M0 M1 → Lx T n p (M1 22 7) (M1 22 6) (M1 22 8) (M1 22 9) (M1 22 2) (M1 22 3) → post M1 tl) : wX4_takeToken_51 post M tl := by
  unfold wX4_takeToken_51
  intro W e
  have b6 := iv_22_6 hI
  have iW : Inv W := by rw [e]; exact inv_set hI (i_any _)
  have fW : TkF M0 W := by rw [e]; exact tkf_set hF (by decide)
  have w6 : W 22 6 = M 22 6 := by rw [e, mset_nk (by decide)]
  have w7 : W 22 7 = M 22 6 := by rw [e]; exact mset_at _ _ _ _
  have w2 : W 22 2 = 0 := by rw [e, mset_nk (by decide)]; exact z2
  clear e
  have e1 : W 1 = M0 1 := tkf_row fW (by decide)
  have e2 : W 2 = T := (tkf_row fW (by decide)).trans hT
  have en : W 1 1 = n := by rw [e1]; exact hn
  have b1 := iv_1_1 iW
  rw [en] at b1
  generalize M 22 6 = s at b6 w6 w7 hk hs ⊢
  rw [w6]
  refine by_c iW b6.1 ?_
  rw [e2, en]
  refine ty_c (fun r hr => ?_)
  intro W2 g2 W3 g3
  have i3 : Inv W3 := by rw [g3, g2]; exact inv_set (inv_set iW (i_any _)) (i_any _)
  have f3 : TkF M0 W3 := by rw [g3, g2]; exact tkf_set (tkf_set fW (by decide)) (by decide)
  have y6 : W3 22 6 = s := by rw [g3, mset_nk (by decide), g2, mset_nk (by decide), w6]
  have y7 : W3 22 7 = s := by rw [g3, mset_nk (by decide), g2, mset_nk (by decide), w7]
  have y2 : W3 22 2 = 0 := by rw [g3, mset_nk (by decide), g2, mset_nk (by decide), w2]
  have y8 : W3 22 8 = r := by rw [g3, mset_nk (by decide), g2]; exact mset_at _ _ _ _
  have y9 : W3 22 9 = 0 := by rw [g3]; exact mset_at _ _ _ _
  clear g2 g3
  rw [y8, y6]
  refine ifs (fun c => ?_) (fun c => ?_)
  · intro W4 g4
    have bn : s < n := by
      by_cases q : s < n
      · exact q
      · have z : bya T n s = -1 := by unfold bya; rw [if_neg q]
        rw [z, c] at hr; unfold TY at hr; lia
    have x6 : W4 22 6 = s + 1 := by rw [g4]; exact mset_at _ _ _ _
    refine ⟨400 + 1, lx_100 hT hn hk ⟨hs, b6.2⟩ b6.1 hp W4 ⟨?_, ?_, ?_, ?_, ?_, ?_, ?_⟩⟩
    · rw [g4]; exact inv_set i3 (show 0 ≤ s + 1 ∧ s + 1 ≤ 400 from ⟨by lia, by lia⟩)
    · rw [g4]; exact tkf_set f3 (by decide)
    · rw [g4, mset_nk (by decide)]; exact y2
    · rw [g4, mset_nk (by decide)]; exact y7
    · rw [x6]; lia
    · rw [g4, mset_nk (by decide), y8]; exact hr
    · have x8 : W4 22 8 = 3 := by rw [g4, mset_nk (by decide), y8]; exact c
      rw [x8, x6]
      exact ⟨fun q => absurd q (by decide), fun q => absurd q (by decide), fun _ => rfl, fun q => absurd q (by decide)⟩
  · refine ⟨400 + 1, lx_100 hT hn hk ⟨hs, b6.2⟩ b6.1 hp W3 ⟨i3, f3, y2, y7, by rw [y6]; lia, by rw [y8]; exact hr, ?_⟩⟩
    rw [y8, y6, y9]
    exact ⟨fun _ x x0 x1 => absurd x1 (by lia), fun _ => ⟨fun x x0 x1 => absurd x1 (by lia), ⟨fun _ => rfl, fun q => absurd q (by lia), fun q => absurd q (by lia)⟩⟩, fun q => absurd q c, fun _ => rfl⟩
end TOK
theorem lx_takeToken {post : MM → Int64 → Prop} {M : MM} {tl : Int64} (hI : Inv M) (hf : M 22 2 = 0) (hp : ∀ M1 : MM, Inv M1 → TkF M M1 → Lx (M 2) (M 1 1) (M 22 6) (M1 22 7) (M1 22 6) (M1 22 8) (M1 22 9) (M1 22 2) (M1 22 3) → post M1 tl) : wpX4_takeToken post M tl := by
  unfold wpX4_takeToken
  refine ifp hf ⟨400 + 1, ?_⟩
  refine cell_ex (P := fun d M1 t => t = tl → wX4_takeToken_8 post d M1 t) (D := fun M1 => Inv M1 ∧ TkF M M1 ∧ M1 22 2 = 0 ∧ M 22 6 ≤ M1 22 6 ∧ ∀ x : Int32, M 22 6 ≤ x → x < M1 22 6 → bya (M 2) (M 1 1) x = 32) 22 6 400 (by decide) (fun M h => iv_22_6 h.1) ?_ M tl ⟨hI, fr_rfl, hf, by lia, fun x x0 x1 => absurd x1 (by lia)⟩ rfl
  intro d M1 t ⟨i1, f1, z2, l6, hx⟩ rc et
  subst et
  have e1 : M1 1 = M 1 := tkf_row f1 (by decide)
  have e2 : M1 2 = M 2 := tkf_row f1 (by decide)
  have b6 := iv_22_6 i1
  have b1 := iv_1_1 i1
  unfold wX4_takeToken_8
  have fin : bya (M 2) (M 1 1) (M1 22 6) ≠ 32 → wX4_takeToken_51 post M1 t := fun ne => lx_51 rfl rfl i1 f1 z2 ⟨l6, hx, ne⟩ l6 hp
  refine ifs (fun c => fin (fun q => ?_)) (fun c => ?_)
  · rw [e1] at c
    unfold bya at q
    rw [if_neg (by clear hx; lia)] at q
    exact absurd q (by decide)
  · refine by_c i1 b6.1 ?_
    rw [e2, e1]
    refine ifs (fun c2 => ?_) (fun c2 => fin c2)
    intro W e
    have w6 : W 22 6 = M1 22 6 + 1 := by rw [e]; exact mset_at _ _ _ _
    refine rc W t ⟨by rw [e]; exact inv_set i1 (show 0 ≤ M1 22 6 + 1 ∧ M1 22 6 + 1 ≤ 400 from ⟨by clear hx; lia, by clear hx; lia⟩), by rw [e]; exact tkf_set f1 (by decide), by rw [e, mset_nk (by decide)]; exact z2, by rw [w6]; clear hx; lia, fun x x0 x1 => ?_⟩ w6 rfl
    rw [w6] at x1
    by_cases y : x = M1 22 6
    · rw [y]; exact c2
    · exact hx x x0 (by clear hx; lia)
