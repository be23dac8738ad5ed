/-! THE LINES of a text, on both sides -/
def HB (M : MM) : Prop := ∀ x, 0 ≤ M 2 x
def PG (p : Int32) (M : MM) : Prop := M 22 2 = 0 → p ≤ M 22 7 ∧ (M 22 8 ≠ 0 → M 22 7 < M 22 6 ∧ M 22 7 < 400) ∧ (M 22 8 = 0 → M 22 7 = M 1 1) ∧ M 22 6 ≤ M 1 1
theorem by_nn {T : Nat → Int32} {n p : Int32} (h : ∀ x, 0 ≤ T x) (hn : bya T n p < 0) : ¬ p < n := by
  intro q
  unfold bya at hn
  rw [if_pos q] at hn
  have := h p.toNatClampNeg
  lia
theorem pg_tok {post : MM → Int64 → Prop} {M : MM} {tl : Int64} (hI : Inv M) (hb : HB M) (hn : M 22 2 = 0 → M 22 6 ≤ M 1 1) (hp : ∀ M5 : MM, Inv M5 → TkF M M5 → (M5 22 2 = 0 → M 22 2 = 0) → PG (M 22 6) M5 → post M5 tl) : wpX4_takeToken post M tl := by
  by_cases hf : M 22 2 = 0
  · refine lx_takeToken hI hf (fun M1 i1 f1 l1 => hp M1 i1 f1 (fun _ => hf) (fun q => ?_))
    have b6 := iv_22_6 hI
    have e1 : M1 1 1 = M 1 1 := by rw [tkf_row f1 (by decide)]
    have s := lx_st b6.1 (hn hf) l1
    have b1 := iv_1_1 hI
    have nn := lx_nx b6.1 q l1
    rw [e1]
    refine ⟨l1.2.1.1, fun z => ⟨(nn z).1, by have := (nn z).2; clear l1 nn; lia⟩, fun z => ?_, lx_le b6.1 (hn hf) q l1⟩
    rcases l1.2.2 with y | y
    · have t := y.2.1
      rw [z] at t
      have g := by_nn (T := M 2) (n := M 1 1) (p := M1 22 7) hb (by unfold TY at t; clear l1 nn y; lia)
      clear l1 nn y t; lia
    · rw [y.1] at q; exact absurd q (by decide)
  · exact tok_f hf (hp M hI fr_rfl (fun z => z) (fun z => absurd z hf))
theorem pg_line {M : MM} {tl : Int64} (hI : Inv M) (hb : HB M) (hn : M 22 2 = 0 → M 22 6 ≤ M 1 1) : wpX4_readLine (fun M1 t2 => wpX4_takeStop (fun M3 t4 => wpX4_takeToken (fun M5 _ => PG (M 22 6) M5 ∧ M5 22 4 = M 22 4) M3 t4) M1 t2) M tl := by
  refine sm_X4_readLine hI (fun M1 t1 i1 f1 q1 => ?_)
  refine sm_X4_takeStop i1 (fun M3 t3 i3 f3 q3 => ?_)
  have e11 : M1 1 1 = M 1 1 := f1 1 1 (by decide) (by decide)
  have e31 : M3 1 1 = M1 1 1 := f3 1 1 (by decide) (by decide)
  have e2 : M3 2 = M 2 := funext fun j => by rw [f3 2 j (by decide) (by simp), f1 2 j (by decide) (by simp)]
  have e14 : M1 22 4 = M 22 4 := f1 22 4 (by decide) (by decide)
  have e34 : M3 22 4 = M1 22 4 := f3 22 4 (by decide) (by decide)
  refine pg_tok i3 (fun x => by rw [e2]; exact hb x) (fun z => ?_) (fun M5 i5 f5 s5 p5 => ⟨fun z => ?_, ?_⟩)
  · by_cases y : M 22 2 = 0
    · have := hn y
      lia
    · lia
  · have w := p5 z
    have y := s5 z
    refine ⟨?_, w.2⟩
    by_cases y2 : M 22 2 = 0
    · have := w.1
      clear w p5; lia
    · clear w p5; lia
  · rw [f5 22 4 (by decide) (by decide), e34, e14]
theorem md_224 {M W N : MM} {t : Int64} {x : Int32} (h : Md M t N) (e : W = mset M 22 4 x) : Md W t N := by
  have w : ∀ j, j ≠ 4 → W 22 j = M 22 j := fun j hj => by rw [e]; exact mset_nk hj
  have r : ∀ a, a ≠ 22 → W a = M a := fun a ha => by rw [e]; exact mset_ne ha
  refine ⟨h.1, tp_eq h.2.1 (by rw [r 1 (by decide)]) (r 2 (by decide)) rfl rfl, ?_⟩
  rcases h.2.2 with ⟨a, b, d⟩ | z
  · refine Or.inl ⟨by rw [w 2 (by decide)]; exact a, ?_, d_eq d (fun c hc => r c (by intro y; subst y; exact absurd hc (by decide))) (fun _ _ => rfl) (fun _ _ => rfl)⟩
    unfold Tk at b ⊢
    rw [w 7 (by decide), w 6 (by decide), w 8 (by decide), w 9 (by decide)]
    exact b
  · exact Or.inr ⟨by rw [w 2 (by decide)]; exact z.1, by rw [w 2 (by decide)]; exact z.2.1, by rw [w 3 (by decide)]; exact z.2.2⟩
/-- all lines: from the i-th on, d left -/
def AL (d : Nat) (M : MM) (tl : Int64) (M1 : MM) (t1 : Int64) : Prop := Inv M1 ∧ CFr M M1 ∧ PG 0 M1 ∧ (M1 22 2 = 0 → M1 22 8 = 0) ∧ ∀ (N : MM) (u : Int64) (post2 : Int32 → MM → Int64 → Prop), Md M tl N → (∀ N1, RFr N N1 → Md M1 t1 N1 → wX11_text_44 post2 N1 u (M1 22 4)) → wX11_text_20 post2 (d + 1) N u (M 22 4)
theorem pg_mono {p p' : Int32} {M : MM} (h : PG p M) (hp : p' ≤ p) : PG p' M := fun z => by
  have w := h z
  exact ⟨by have := w.1; clear w h; lia, w.2⟩
theorem cf_hb {M M1 : MM} (f : CFr M M1) (h : HB M) : HB M1 := fun x => by rw [f 2 x (by decide) (by simp)]; exact h x
theorem al_end {M : MM} {tl : Int64} {d : Nat} {p : Int32} (hI : Inv M) (hp0 : 0 ≤ p) (hg : PG p M) (hz : M 22 2 = 0 → M 22 8 = 0) : AL d M tl M tl := by
  refine ⟨hI, fr_rfl, pg_mono hg hp0, hz, fun N u post2 m k => ?_⟩
  unfold wX11_text_20
  by_cases q : M 22 2 = 0
  · have t := (md_ok m q).1
    exact ifp t.1 (ifp (by rw [← t.2.2.2.1]; exact hz q) (k N fr_rfl m))
  · exact ifn (bad_n (md_f0 m q)) (k N fr_rfl m)
theorem u_all10 {post : MM → Int64 → Prop} : ∀ (d i : Nat), i + d = 400 → ∀ (M : MM) (tl : Int64), Inv M → HB M → SB M → PG (nI i) M → (∀ (M1 : MM) (t1 : Int64), AL d M tl M1 t1 → wX4_readAll_59 post M1 t1) → wX4_readAll_10 post (d + 1) M tl (nI i) := by
  intro d
  induction d with
  | zero =>
    intro i hi M tl hI hb sb hg hp
    have hi : i = 400 := by omega
    subst hi
    unfold wX4_readAll_10
    refine ifp (by decide) (hp M tl (al_end hI (nJ_ge0 (by decide)) hg (fun z => ?_)))
    by_cases y : M 22 8 = 0
    · exact y
    · have w := hg z
      have e : (nI 400 : Int32) = 400 := rfl
      rw [e] at w
      have := (w.2.1 y).2
      have := w.1
      clear w hg; lia
  | succ d ih =>
    intro i hi M tl hI hb sb hg hp
    have i0 := nJ_ge0 (i := i) (by omega)
    unfold wX4_readAll_10
    refine ifn ?_ (ifs (fun q => ifs (fun c => hp M tl (al_end hI i0 hg (fun _ => c))) (fun c => ?_)) (fun q => hp M tl (al_end hI i0 hg (fun z => absurd z q))))
    · intro z
      have := i_ge_to (k := 400) (by decide) z
      rw [nI_sm (by omega)] at this
      omega
    · have w := hg q
      have A := u_line (Q := fun M5 t5 => LN M tl M5 t5) (tl := tl) hI q (sb q) (fun M5 t5 l => l)
      have B := pg_line (tl := tl) hI hb (fun _ => w.2.2.2)
      refine cj_wpX4_readLine (fun _ _ h1 h2 => cj_wpX4_takeStop (fun _ _ h1 h2 => cj_wpX4_takeToken (fun M5 t5 l g => ?_) h1 h2) h1 h2) A B
      intro W e
      have rw6 : ∀ j, j ≠ 4 → W 22 j = M5 22 j := fun j hj => by rw [e]; exact mset_nk hj
      have rr : ∀ a, a ≠ 22 → W a = M5 a := fun a ha => by rw [e]; exact mset_ne ha
      have iW : Inv W := by rw [e]; exact inv_set l.1 (i_any _)
      have fW : CFr M W := by rw [e]; exact fr_fld l.2.1 (by decide)
      have lt : nI (i + 1) ≤ M 22 6 := by
        rw [← nI_s1]
        have := (w.2.1 c).1
        have := w.1
        have := (w.2.1 c).2
        clear w hg g ih A B; lia
      have gW : PG (nI (i + 1)) W := by
        have g1 := pg_mono g.1 lt
        unfold PG at g1 ⊢
        rw [rw6 2 (by decide), rw6 7 (by decide), rw6 8 (by decide), rw6 6 (by decide), rr 1 (by decide)]
        exact g1
      rw [nI_s1]
      refine ih (i + 1) (by omega) W t5 iW (cf_hb fW hb) (fun z => by rw [rw6 2 (by decide)] at z; rw [rw6 7 (by decide)]; exact l.2.2.1 z) gW (fun M1 t1 a => hp M1 t1 ⟨a.1, fr_call fW a.2.1 (fun _ h => h) (fun _ h => Or.inl h), a.2.2.1, a.2.2.2.1, fun N u post2 m k => ?_⟩)
      have t := (md_ok m q).1
      have e4 : W 22 4 = M 22 4 + 1 := by rw [e, mset_at, g.2]
      unfold wX11_text_20
      refine ifp t.1 (ifn (by rw [← t.2.2.2.1]; exact c) ?_)
      refine l.2.2.2 N u _ m (fun N1 f1 m1 => ?_)
      rw [← e4]
      exact a.2.2.2.2 N1 u post2 (md_224 m1 e) (fun N2 f2 m2 => k N2 (fr_call f1 f2 (fun _ h => h) (fun _ h => Or.inl h)) m2)
