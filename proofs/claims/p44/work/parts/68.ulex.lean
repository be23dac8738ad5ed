/-! the reference's tokens -/
theorem lk_r {post : Int32 → MM → Int64 → Prop} {N : MM} {u : Int64} {p : Int32} (hI : Inv N) (h0 : 0 ≤ p) (hp : post (bya (N 97) (N 81 31) p) N u) : wpX11_look post N u p := by
  unfold wpX11_look
  have hs := iv_81_31 hI
  unfold bya at hp
  refine ifs (fun c => ?_) (fun c => And.intro (vpI (c := 400) (by decide) h0 (by lia)) ?_)
  · rw [if_neg (by lia)] at hp; exact hp
  · rw [if_pos (by lia)] at hp; exact hp
theorem nd_0 {post : MM → Int64 → Prop} {N : MM} {u : Int64} {c : Int32} (hf : N 81 36 = 0) (hp : ∀ N1 : MM, N1 = mset (mset N 81 36 c) 81 37 (N 81 33) → post N1 u) : wpX11_needs post N u 0 c := by
  unfold wpX11_needs
  refine ifp rfl (ifp hf ?_)
  intro W e W2 e2
  refine hp W2 ?_
  rw [e2, e, mset_nk (a := 81) (by decide)]
theorem nd_1 {post : MM → Int64 → Prop} {N : MM} {u : Int64} {v c : Int32} (hv : v ≠ 0) (hp : post N u) : wpX11_needs post N u v c := by
  unfold wpX11_needs
  exact ifn hv hp
theorem nd_f {post : MM → Int64 → Prop} {N : MM} {u : Int64} {v c : Int32} (hf : N 81 36 ≠ 0) (hp : post N u) : wpX11_needs post N u v c := by
  unfold wpX11_needs
  exact ifs (fun _ => ifn hf hp) (fun _ => hp)
abbrev NxF (M M1 : MM) : Prop := Fr [] [(81, 32), (81, 33), (81, 34), (81, 35), (81, 36), (81, 37)] M M1
theorem nxf_row {M M1 : MM} (h : NxF M M1) {a : Nat} (ha : a ≠ 81) : M1 a = M a := funext fun j => h a j (by simp) (by simp [ha])
theorem nxf_31 {M M1 : MM} (h : NxF M M1) : M1 81 31 = M 81 31 := h 81 31 (by simp) (by simp)
theorem nxf_set {M M1 : MM} {j : Nat} {v : Int32} (h : NxF M M1) (hj : (81, j) ∈ [(81, 32), (81, 33), (81, 34), (81, 35), (81, 36), (81, 37)]) : NxF M (mset M1 81 j v) := fr_fld h hj
def FgR (T : Nat → Int32) (n s x f : Int32) : Prop := (x = s → f = 0) ∧ (x = s + 1 → f = bya T n s - 48) ∧ (s + 2 ≤ x → f = 10 * (bya T n s - 48) + bya T n (s + 1) - 48)
section NXT
variable {post : MM → Int64 → Prop} {N0 : MM} {u : Int64} {T : Nat → Int32} {n p s : Int32}
def ND (N0 : MM) (s k : Int32) (N : MM) : Prop := Inv N ∧ NxF N0 N ∧ N 81 36 = 0 ∧ N 81 33 = s ∧ N 81 34 = k ∧ s ≤ N 81 32
theorem nx_82 (hT : N0 97 = T) (hn : N0 81 31 = n) (hk : Sk T n p s) (hs : p ≤ s ∧ s ≤ 400) (h0 : 0 ≤ s) (ht : TY 1 (bya T n s)) (hp : ∀ N1 : MM, Inv N1 → NxF N0 N1 → Lx T n p (N1 81 33) (N1 81 32) (N1 81 34) (N1 81 35) (N1 81 36) (N1 81 37) → post N1 u) : ∀ N : MM, ND N0 s 1 N → (∀ x : Int32, s ≤ x → x < N 81 32 → 97 ≤ bya T n x ∧ bya T n x ≤ 122) → wX11_next_82 post (400 + 1) N u := by
  intro N hN hx
  refine cell_ex (P := fun d N t => t = u → wX11_next_82 post d N t) (D := fun N => ND N0 s 1 N ∧ ∀ x : Int32, s ≤ x → x < N 81 32 → 97 ≤ bya T n x ∧ bya T n x ≤ 122) 81 32 400 (by decide) (fun N h => iv_81_32 h.1.1) ?_ N u ⟨hN, hx⟩ rfl
  clear hN hx N
  intro d N t ⟨⟨hI, hF, z, z3, z4, l⟩, hx⟩ rc et
  subst et
  have e2 : N 97 = T := (nxf_row hF (by decide)).trans hT
  have en : N 81 31 = n := (nxf_31 hF).trans hn
  have b := iv_81_32 hI
  have b1 := iv_81_31 hI
  unfold wX11_next_82
  refine lk_r hI b.1 ?_
  rw [e2, en]
  refine m_in (v := bya T n (N 81 32)) (lo := 97) (hi := 122) rfl rfl rfl (fun a c => ?_) (fun a => ?_)
  · refine ifn (by decide) ?_
    intro W e
    have bn : N 81 32 < n := by
      by_cases q : N 81 32 < n
      · exact q
      · have z : bya T n (N 81 32) = -1 := by unfold bya; rw [if_neg q]
        rw [z] at a; exact absurd a (by decide)
    have w : W 81 32 = N 81 32 + 1 := by rw [e]; exact mset_at _ _ _ _
    refine rc W t ⟨⟨?_, ?_, ?_, ?_, ?_, ?_⟩, ?_⟩ w rfl
    · rw [e]; exact inv_set hI (show 0 ≤ N 81 32 + 1 ∧ N 81 32 + 1 ≤ 400 from ⟨by clear hx; lia, by clear hx; lia⟩)
    · rw [e]; exact nxf_set hF (by decide)
    · rw [e, mset_nk (by decide)]; exact z
    · rw [e, mset_nk (by decide)]; exact z3
    · rw [e, mset_nk (by decide)]; exact z4
    · rw [w]; clear hx; lia
    · intro x x0 x1
      rw [w] at x1
      by_cases y : x = N 81 32
      · rw [y]; exact ⟨a, c⟩
      · exact hx x x0 (by clear hx; lia)
  · refine ifp rfl (hp N hI hF ?_)
    rw [z, z3, z4]
    exact ⟨hk, hs, Or.inl ⟨rfl, ht, by decide, ⟨l, b.2⟩, fun q => absurd q (by decide), fun _ => ⟨l, hx, a⟩, fun q => absurd q (by decide), fun q => absurd q (by decide)⟩⟩
theorem nx_140 (hT : N0 97 = T) (hn : N0 81 31 = n) (hk : Sk T n p s) (hs : p ≤ s ∧ s ≤ 400) (h0 : 0 ≤ s) (ht : TY 2 (bya T n s)) (hp : ∀ N1 : MM, Inv N1 → NxF N0 N1 → Lx T n p (N1 81 33) (N1 81 32) (N1 81 34) (N1 81 35) (N1 81 36) (N1 81 37) → post N1 u) : ∀ N : MM, ND N0 s 2 N → (∀ x : Int32, s ≤ x → x < N 81 32 → 48 ≤ bya T n x ∧ bya T n x ≤ 57) → FgR T n s (N 81 32) (N 81 35) → wX11_next_140 post (400 + 1) N u := by
  intro N hN hx hg
  refine cell_ex (P := fun d N t => t = u → wX11_next_140 post d N t) (D := fun N => ND N0 s 2 N ∧ (∀ x : Int32, s ≤ x → x < N 81 32 → 48 ≤ bya T n x ∧ bya T n x ≤ 57) ∧ FgR T n s (N 81 32) (N 81 35)) 81 32 400 (by decide) (fun N h => iv_81_32 h.1.1) ?_ N u ⟨hN, hx, hg⟩ rfl
  clear hN hx hg N
  intro d N t ⟨⟨hI, hF, z, z3, z4, l⟩, hx, hg⟩ rc et
  subst et
  have e2 : N 97 = T := (nxf_row hF (by decide)).trans hT
  have en : N 81 31 = n := (nxf_31 hF).trans hn
  have b := iv_81_32 hI
  have b1 := iv_81_31 hI
  unfold wX11_next_140
  refine lk_r hI b.1 ?_
  rw [e2, en]
  refine m_in (v := bya T n (N 81 32)) (lo := 48) (hi := 57) rfl rfl rfl (fun a c => ?_) (fun a => ?_)
  · refine ifn (by decide) ?_
    have bn : N 81 32 < n := by
      by_cases q : N 81 32 < n
      · exact q
      · have z : bya T n (N 81 32) = -1 := by unfold bya; rw [if_neg q]
        rw [z] at a; exact absurd a (by decide)
    have step : ∀ f : Int32, FgR T n s (N 81 32 + 1) f → wX11_next_201 post (wX11_next_140 post d) N t f := by
      intro f hf
      unfold wX11_next_201
      intro W e W2 e3
      have wW : W 81 32 = N 81 32 := by rw [e, mset_nk (by decide)]
      have w : W2 81 32 = N 81 32 + 1 := by rw [e3, mset_at, wW]
      have w5 : W2 81 35 = f := by rw [e3, mset_nk (by decide), e]; exact mset_at _ _ _ _
      refine rc W2 t ⟨⟨?_, ?_, ?_, ?_, ?_, ?_⟩, ?_, ?_⟩ w rfl
      · rw [e3, wW]
        exact inv_set (by rw [e]; exact inv_set hI (i_any _)) (show 0 ≤ N 81 32 + 1 ∧ N 81 32 + 1 ≤ 400 from ⟨by clear hx hg; lia, by clear hx hg; lia⟩)
      · rw [e3, e]; exact nxf_set (nxf_set hF (by decide)) (by decide)
      · rw [e3, mset_nk (by decide), e, mset_nk (by decide)]; exact z
      · rw [e3, mset_nk (by decide), e, mset_nk (by decide)]; exact z3
      · rw [e3, mset_nk (by decide), e, mset_nk (by decide)]; exact z4
      · rw [w]; clear hx hg; lia
      · intro x x0 x1
        rw [w] at x1
        by_cases y : x = N 81 32
        · rw [y]; exact ⟨a, c⟩
        · exact hx x x0 (by clear hx hg; lia)
      · rw [w, w5]; exact hf
    rw [z3]
    refine ifs (fun c2 => step _ ?_) (fun c2 => ?_)
    · refine ⟨fun q => absurd q (by clear hx hg; lia), fun q => absurd q (by clear hx hg; lia), fun q => hg.2.2 (by clear hx hg; lia)⟩
    · refine lk_r hI b.1 ?_
      rw [e2, en]
      refine step _ ⟨fun q => absurd q (by clear hx hg; lia), fun q => ?_, fun q => ?_⟩
      · have y : N 81 32 = s := by clear hx hg; lia
        rw [hg.1 y, y]; clear hx hg; grind
      · have y : N 81 32 = s + 1 := by clear hx hg; lia
        rw [hg.2.1 y, y]
  · refine ifp rfl ?_
    rw [z3]
    refine ifs (fun c => ?_) (fun c => ?_)
    · unfold wX11_next_236
      refine nd_0 z (fun N1 e => ?_)
      have w3 : N1 81 33 = s := by rw [e, mset_nk (by decide), mset_nk (by decide)]; exact z3
      have w6 : N1 81 36 = 1 := by rw [e, mset_nk (by decide)]; exact mset_at _ _ _ _
      have w7 : N1 81 37 = s := by rw [e]; exact (mset_at _ _ _ _).trans z3
      refine hp N1 ?_ ?_ ?_
      · rw [e]; exact inv_set (inv_set hI (show 0 ≤ (1 : Int32) ∧ (1 : Int32) ≤ 6 by decide)) (i_any _)
      · rw [e]; exact nxf_set (nxf_set hF (by decide)) (by decide)
      · rw [w3, w6, w7]
        exact ⟨hk, hs, Or.inr ⟨rfl, rfl, Or.inr ⟨ht, N 81 32, ⟨l, b.2⟩, ⟨l, hx, a⟩, c⟩⟩⟩
    · unfold wX11_next_236
      refine nd_1 (by decide) (hp N hI hF ?_)
      rw [z, z3, z4]
      refine ⟨hk, hs, Or.inl ⟨rfl, ht, by decide, ⟨l, b.2⟩, fun q => absurd q (by decide), fun q => absurd q (by decide), fun _ => ⟨⟨l, hx, a⟩, by clear hx hg; lia, hg.2.1, fun q => hg.2.2 (by rw [q]; clear hx hg; lia)⟩, fun q => absurd q (by decide)⟩⟩
end NXT
theorem lx_next {post : MM → Int64 → Prop} {N : MM} {u : Int64} (hI : Inv N) (hf : N 81 36 = 0) (hp : ∀ N1 : MM, Inv N1 → NxF N N1 → Lx (N 97) (N 81 31) (N 81 32) (N1 81 33) (N1 81 32) (N1 81 34) (N1 81 35) (N1 81 36) (N1 81 37) → post N1 u) : wpX11_next post N u := by
  unfold wpX11_next
  refine ifp (by rw [hf]; decide) ⟨400 + 1, ?_⟩
  refine cell_ex (P := fun d M1 t => t = u → wX11_next_8 post d M1 t) (D := fun M1 => Inv M1 ∧ NxF N M1 ∧ M1 81 36 = 0 ∧ N 81 32 ≤ M1 81 32 ∧ ∀ x : Int32, N 81 32 ≤ x → x < M1 81 32 → bya (N 97) (N 81 31) x = 32) 81 32 400 (by decide) (fun M h => iv_81_32 h.1) ?_ N u ⟨hI, fr_rfl, hf, by lia, fun x x0 x1 => absurd x1 (by lia)⟩ rfl
  intro d M1 t ⟨i1, f1, z, l, hx⟩ rc et
  subst et
  have e2 : M1 97 = N 97 := nxf_row f1 (by decide)
  have en : M1 81 31 = N 81 31 := nxf_31 f1
  have b := iv_81_32 i1
  have b1 := iv_81_31 i1
  unfold wX11_next_8
  refine lk_r i1 b.1 ?_
  rw [e2, en]
  refine ifs (fun c => ?_) (fun c => ?_)
  · intro W e
    have bn : M1 81 32 < N 81 31 := by
      by_cases q : M1 81 32 < N 81 31
      · exact q
      · have z : bya (N 97) (N 81 31) (M1 81 32) = -1 := by unfold bya; rw [if_neg q]
        rw [z] at c; exact absurd c (by decide)
    have w : W 81 32 = M1 81 32 + 1 := by rw [e]; exact mset_at _ _ _ _
    refine rc W t ⟨by rw [e]; exact inv_set i1 (show 0 ≤ M1 81 32 + 1 ∧ M1 81 32 + 1 ≤ 400 from ⟨by clear hx; lia, by clear hx; lia⟩), by rw [e]; exact nxf_set f1 (by decide), by rw [e, mset_nk (by decide)]; exact z, by rw [w]; clear hx; lia, fun x x0 x1 => ?_⟩ w rfl
    rw [w] at x1
    by_cases y : x = M1 81 32
    · rw [y]; exact c
    · exact hx x x0 (by clear hx; lia)
  · have hk : Sk (N 97) (N 81 31) (N 81 32) (M1 81 32) := ⟨l, hx, c⟩
    intro W e
    have iW : Inv W := by rw [e]; exact inv_set i1 (show 0 ≤ M1 81 32 ∧ M1 81 32 ≤ 400 from b)
    have fW : NxF N W := by rw [e]; exact nxf_set f1 (by decide)
    have w2 : W 81 32 = M1 81 32 := by rw [e, mset_nk (by decide)]
    have w3 : W 81 33 = M1 81 32 := by rw [e]; exact mset_at _ _ _ _
    have w6 : W 81 36 = 0 := by rw [e, mset_nk (by decide)]; exact z
    have e2' : W 97 = N 97 := nxf_row fW (by decide)
    have en' : W 81 31 = N 81 31 := nxf_31 fW
    have b1' := iv_81_31 iW
    rw [en'] at b1'
    clear e
    generalize M1 81 32 = s at b w2 w3 hk l ⊢
    rw [w2]
    refine lk_r iW b.1 ?_
    rw [e2', en']
    refine ifs (fun c0 => ?_) (fun c0 => ?_)
    · refine m_in (v := bya (N 97) (N 81 31) s) (lo := 97) (hi := 122) rfl rfl rfl (fun a1 a2 => ?_) (fun a1 => ?_)
      · refine ifn (by decide) ?_
        intro V g
        refine ⟨400 + 1, nx_82 (T := N 97) (n := N 81 31) (p := N 81 32) (s := s) rfl rfl hk ⟨l, b.2⟩ b.1 (by unfold TY; clear hx; lia) hp V ⟨?_, ?_, ?_, ?_, ?_, ?_⟩ (fun x x0 x1 => ?_)⟩
        · rw [g]; exact inv_set iW (i_any _)
        · rw [g]; exact nxf_set fW (by decide)
        · rw [g, mset_nk (by decide)]; exact w6
        · rw [g, mset_nk (by decide)]; exact w3
        · rw [g]; exact mset_at _ _ _ _
        · rw [g, mset_nk (by decide), w2]; lia
        · rw [g, mset_nk (by decide), w2] at x1; exact absurd x1 (by lia)
      · refine ifp rfl ?_
        refine m_in (v := bya (N 97) (N 81 31) s) (lo := 48) (hi := 57) rfl rfl rfl (fun a2 a3 => ?_) (fun a2 => ?_)
        · refine ifn (by decide) ?_
          intro V g V2 g2
          have v2 : V2 81 32 = s := by rw [g2, mset_nk (by decide), g, mset_nk (by decide)]; exact w2
          have v5 : V2 81 35 = 0 := by rw [g2]; exact mset_at _ _ _ _
          refine ⟨400 + 1, nx_140 (T := N 97) (n := N 81 31) (p := N 81 32) (s := s) rfl rfl hk ⟨l, b.2⟩ b.1 (by unfold TY; clear hx; lia) hp V2 ⟨?_, ?_, ?_, ?_, ?_, ?_⟩ (fun x x0 x1 => ?_) ?_⟩
          · rw [g2, g]; exact inv_set (inv_set iW (i_any _)) (i_any _)
          · rw [g2, g]; exact nxf_set (nxf_set fW (by decide)) (by decide)
          · rw [g2, mset_nk (by decide), g, mset_nk (by decide)]; exact w6
          · rw [g2, mset_nk (by decide), g, mset_nk (by decide)]; exact w3
          · rw [g2, mset_nk (by decide), g]; exact mset_at _ _ _ _
          · rw [v2]; lia
          · rw [v2] at x1; exact absurd x1 (by lia)
          · rw [v2, v5]; exact ⟨fun _ => rfl, fun q => absurd q (by lia), fun q => absurd q (by lia)⟩
        · refine ifp rfl ?_
          intro V g
          have v2 : V 81 32 = s := by rw [g, mset_nk (by decide)]; exact w2
          have v3 : V 81 33 = s := by rw [g, mset_nk (by decide)]; exact w3
          have v4 : V 81 34 = 3 := by rw [g]; exact mset_at _ _ _ _
          have v6 : V 81 36 = 0 := by rw [g, mset_nk (by decide)]; exact w6
          have iV : Inv V := by rw [g]; exact inv_set iW (i_any _)
          have fV : NxF N V := by rw [g]; exact nxf_set fW (by decide)
          have bn : s < N 81 31 := by
            by_cases q : s < N 81 31
            · exact q
            · have z : bya (N 97) (N 81 31) s = -1 := by unfold bya; rw [if_neg q]
              rw [z] at c0; exact absurd c0 (by decide)
          have bs : 0 ≤ s + 1 ∧ s + 1 ≤ 400 := ⟨by clear hx; lia, by clear hx; lia⟩
          refine ifs (fun c1 => ?_) (fun c1 => ?_)
          · unfold wX11_next_260
            refine nd_1 (by decide) ?_
            intro V2 g2
            rw [v2] at g2
            refine hp V2 ?_ ?_ ?_
            · rw [g2]; exact inv_set iV bs
            · rw [g2]; exact nxf_set fV (by decide)
            · have y2 : V2 81 32 = s + 1 := by rw [g2]; exact mset_at _ _ _ _
              have y3 : V2 81 33 = s := by rw [g2, mset_nk (by decide)]; exact v3
              have y4 : V2 81 34 = 3 := by rw [g2, mset_nk (by decide)]; exact v4
              have y6 : V2 81 36 = 0 := by rw [g2, mset_nk (by decide)]; exact v6
              rw [y2, y3, y4, y6]
              exact ⟨hk, ⟨l, b.2⟩, Or.inl ⟨rfl, by unfold TY; clear hx; lia, by decide, ⟨by clear hx; lia, bs.2⟩, fun q => absurd q (by decide), fun q => absurd q (by decide), fun q => absurd q (by decide), fun _ => rfl⟩⟩
          · unfold wX11_next_260
            refine nd_0 v6 (fun V2 g2 => ?_)
            rw [v3] at g2
            intro V3 g3
            have t2 : V2 81 32 = s := by rw [g2, mset_nk (by decide), mset_nk (by decide)]; exact v2
            rw [t2] at g3
            refine hp V3 ?_ ?_ ?_
            · rw [g3, g2]; exact inv_set (inv_set (inv_set iV (show 0 ≤ (1 : Int32) ∧ (1 : Int32) ≤ 6 by decide)) (i_any _)) bs
            · rw [g3, g2]; exact nxf_set (nxf_set (nxf_set fV (by decide)) (by decide)) (by decide)
            · have y3 : V3 81 33 = s := by rw [g3, mset_nk (by decide), g2, mset_nk (by decide), mset_nk (by decide)]; exact v3
              have y6 : V3 81 36 = 1 := by rw [g3, mset_nk (by decide), g2, mset_nk (by decide)]; exact mset_at _ _ _ _
              have y7 : V3 81 37 = s := by rw [g3, mset_nk (by decide), g2]; exact mset_at _ _ _ _
              rw [y3, y6, y7]
              exact ⟨hk, ⟨l, b.2⟩, Or.inr ⟨rfl, rfl, Or.inl (by unfold TY; clear hx; lia)⟩⟩
    · intro V g
      refine hp V ?_ ?_ ?_
      · rw [g]; exact inv_set iW (i_any _)
      · rw [g]; exact nxf_set fW (by decide)
      · have y2 : V 81 32 = s := by rw [g, mset_nk (by decide)]; exact w2
        have y3 : V 81 33 = s := by rw [g, mset_nk (by decide)]; exact w3
        have y4 : V 81 34 = 0 := by rw [g]; exact mset_at _ _ _ _
        have y6 : V 81 36 = 0 := by rw [g, mset_nk (by decide)]; exact w6
        rw [y2, y3, y4, y6]
        exact ⟨hk, ⟨l, b.2⟩, Or.inl ⟨rfl, by unfold TY; clear hx; lia, by decide, ⟨by lia, b.2⟩, fun _ => rfl, fun q => absurd q (by decide), fun q => absurd q (by decide), fun q => absurd q (by decide)⟩⟩
