/-! PAIRS: the class, then the reference, at one call (printed by wip/gen/pair.py) -/
def relcells : List (Nat × Nat) := [(1, 1), (81, 31)]
def Rel (M : MM) : Prop := Inv M ∧ M 1 1 = M 81 31
theorem rel_keep {I1 I2 : List Nat} {J1 J2 : List (Nat × Nat)} {M M1 M2 : MM} (h : Rel M) (i2 : Inv M2) (f1 : Fr I1 J1 M M1) (f2 : Fr I2 J2 M1 M2) (d : ∀ p ∈ relcells, (p.1 ∉ I1 ∧ p ∉ J1) ∧ (p.1 ∉ I2 ∧ p ∉ J2)) : Rel M2 := by
  have e : ∀ p ∈ relcells, M2 p.1 p.2 = M p.1 p.2 := fun p hp => by
    have q := d p hp
    rw [f2 p.1 p.2 q.2.1 q.2.2, f1 p.1 p.2 q.1.1 q.1.2]
  refine ⟨i2, ?_⟩
  rw [e (1, 1) (by decide), e (81, 31) (by decide)]
  exact h.2
theorem pr_feed {M : MM} {tl : Int64} {v1 : Int64} (h : Rel M) {post1 : Int32 → MM → Int64 → Prop} (H : ∀ (r1 : Int32) (M1 : MM) (t1 : Int64), (∀ post2 : Int32 → MM → Int64 → Prop, (∀ (r2 : Int32) (M2 : MM) (t2 : Int64), Rel M2 → r1 = r2 → post2 r2 M2 t2) → wpX11_feed post2 M1 t1 v1) → post1 r1 M1 t1) : wpX10_feed post1 M tl v1 := by
  have hI := h.1
  refine sf_X10_feed hI (fun r1 M1 t1 i1 f1 q1 => H _ _ _ (fun post2 k => ?_))
  refine sf_X11_feed i1 (fun r2 M2 t2 i2 f2 q2 => ?_)
  have e1 : M1 81 31 = M 81 31 := f1 81 31 (by decide) (by decide)
  have e2 : M2 1 1 = M1 1 1 := f2 1 1 (by decide) (by decide)
  have e0 := h.2
  exact k _ _ _ ⟨i2, by lia⟩ (by lia)
theorem pr_end {M : MM} {tl : Int64} {v1 : Int32} (h : Rel M) {post1 : Int32 → MM → Int64 → Prop} (H : ∀ (r1 : Int32) (M1 : MM) (t1 : Int64), (∀ post2 : Int32 → MM → Int64 → Prop, (∀ (r2 : Int32) (M2 : MM) (t2 : Int64), Rel M2 → r1 = r2 → post2 r2 M2 t2) → wpX11_end post2 M1 t1 v1) → post1 r1 M1 t1) : wpX10_end post1 M tl v1 := by
  have hI := h.1
  refine sf_X10_end hI (fun r1 M1 t1 i1 f1 q1 => H _ _ _ (fun post2 k => ?_))
  refine sf_X11_end i1 (fun r2 M2 t2 i2 f2 q2 => ?_)
  have e1 : M1 81 31 = M 81 31 := f1 81 31 (by decide) (by decide)
  have e2 : M2 1 1 = M1 1 1 := f2 1 1 (by decide) (by decide)
  have e0 := h.2
  exact k _ _ _ ⟨i2, by lia⟩ (by lia)
theorem pr_text {M : MM} {tl : Int64} (h : Rel M) {post1 : Int32 → MM → Int64 → Prop} (H : ∀ (r1 : Int32) (M1 : MM) (t1 : Int64), (∀ post2 : Int32 → MM → Int64 → Prop, (∀ (r2 : Int32) (M2 : MM) (t2 : Int64), Rel M2 → post2 r2 M2 t2) → wpX11_text post2 M1 t1 ) → post1 r1 M1 t1) : wpX10_text post1 M tl  := by
  have hI := h.1
  refine sf_X10_text hI (fun r1 M1 t1 i1 f1 q1 => H _ _ _ (fun post2 k => ?_))
  refine sf_X11_text i1 (fun r2 M2 t2 i2 f2 q2 => ?_)
  have e1 : M1 81 31 = M 81 31 := f1 81 31 (by decide) (by decide)
  have e2 : M2 1 1 = M1 1 1 := f2 1 1 (by decide) (by decide)
  have e0 := h.2
  exact k _ _ _ ⟨i2, by lia⟩
theorem pr_fault {M : MM} {tl : Int64} (h : Rel M) {post1 : Int32 → MM → Int64 → Prop} (H : ∀ (r1 : Int32) (M1 : MM) (t1 : Int64), (∀ post2 : Int32 → MM → Int64 → Prop, (∀ (r2 : Int32) (M2 : MM) (t2 : Int64), Rel M2 → post2 r2 M2 t2) → wpX11_fault post2 M1 t1 ) → post1 r1 M1 t1) : wpX10_fault post1 M tl  := by
  have hI := h.1
  refine sf_X10_fault hI (fun r1 q1 => H _ _ _ (fun post2 k => ?_))
  refine sf_X11_fault hI (fun r2 q2 => ?_)
  exact k _ _ _ (rel_keep h hI (fr_rfl (I := []) (J := [])) (fr_rfl (I := []) (J := [])) (by decide))
theorem pr_rule {M : MM} {tl : Int64} {v1 : Int32} (h : Rel M) {post1 : Int32 → MM → Int64 → Prop} (H : ∀ (r1 : Int32) (M1 : MM) (t1 : Int64), (∀ post2 : Int32 → MM → Int64 → Prop, (∀ (r2 : Int32) (M2 : MM) (t2 : Int64), Rel M2 → post2 r2 M2 t2) → wpX11_rule post2 M1 t1 v1) → post1 r1 M1 t1) : wpX10_rule post1 M tl v1 := by
  have hI := h.1
  refine sf_X10_rule hI (fun r1 q1 => H _ _ _ (fun post2 k => ?_))
  refine sf_X11_rule hI (fun r2 q2 => ?_)
  exact k _ _ _ (rel_keep h hI (fr_rfl (I := []) (J := [])) (fr_rfl (I := []) (J := [])) (by decide))
theorem pr_kind {M : MM} {tl : Int64} {v1 : Int32} {v2 : Int32} (h : Rel M) {post1 : Int32 → MM → Int64 → Prop} (H : ∀ (r1 : Int32) (M1 : MM) (t1 : Int64), (∀ post2 : Int32 → MM → Int64 → Prop, (∀ (r2 : Int32) (M2 : MM) (t2 : Int64), Rel M2 → post2 r2 M2 t2) → wpX11_kind post2 M1 t1 v1 v2) → post1 r1 M1 t1) : wpX10_kind post1 M tl v1 v2 := by
  have hI := h.1
  refine sf_X10_kind hI (fun r1 q1 => H _ _ _ (fun post2 k => ?_))
  refine sf_X11_kind hI (fun r2 q2 => ?_)
  exact k _ _ _ (rel_keep h hI (fr_rfl (I := []) (J := [])) (fr_rfl (I := []) (J := [])) (by decide))
theorem pr_colour {M : MM} {tl : Int64} {v1 : Int32} (h : Rel M) {post1 : Int32 → MM → Int64 → Prop} (H : ∀ (r1 : Int32) (M1 : MM) (t1 : Int64), (∀ post2 : Int32 → MM → Int64 → Prop, (∀ (r2 : Int32) (M2 : MM) (t2 : Int64), Rel M2 → post2 r2 M2 t2) → wpX11_colour post2 M1 t1 v1) → post1 r1 M1 t1) : wpX10_colour post1 M tl v1 := by
  have hI := h.1
  refine sf_X10_colour hI (fun r1 q1 => H _ _ _ (fun post2 k => ?_))
  refine sf_X11_colour hI (fun r2 q2 => ?_)
  exact k _ _ _ (rel_keep h hI (fr_rfl (I := []) (J := [])) (fr_rfl (I := []) (J := [])) (by decide))
theorem pr_mirror {M : MM} {tl : Int64} {v1 : Int32} (h : Rel M) {post1 : Int32 → MM → Int64 → Prop} (H : ∀ (r1 : Int32) (M1 : MM) (t1 : Int64), (∀ post2 : Int32 → MM → Int64 → Prop, (∀ (r2 : Int32) (M2 : MM) (t2 : Int64), Rel M2 → post2 r2 M2 t2) → wpX11_mirror post2 M1 t1 v1) → post1 r1 M1 t1) : wpX10_mirror post1 M tl v1 := by
  have hI := h.1
  refine sf_X10_mirror hI (fun r1 q1 => H _ _ _ (fun post2 k => ?_))
  refine sf_X11_mirror hI (fun r2 q2 => ?_)
  exact k _ _ _ (rel_keep h hI (fr_rfl (I := []) (J := [])) (fr_rfl (I := []) (J := [])) (by decide))
theorem pr_work {M : MM} {tl : Int64} {v1 : Int32} {v2 : Int32} (h : Rel M) {post1 : Int32 → MM → Int64 → Prop} (H : ∀ (r1 : Int32) (M1 : MM) (t1 : Int64), (∀ post2 : Int32 → MM → Int64 → Prop, (∀ (r2 : Int32) (M2 : MM) (t2 : Int64), Rel M2 → post2 r2 M2 t2) → wpX11_work post2 M1 t1 v1 v2) → post1 r1 M1 t1) : wpX10_work post1 M tl v1 v2 := by
  have hI := h.1
  refine sf_X10_work hI (fun r1 q1 => H _ _ _ (fun post2 k => ?_))
  refine sf_X11_work hI (fun r2 q2 => ?_)
  exact k _ _ _ (rel_keep h hI (fr_rfl (I := []) (J := [])) (fr_rfl (I := []) (J := [])) (by decide))
theorem pr_thing {M : MM} {tl : Int64} {v1 : Int32} {v2 : Int32} (h : Rel M) {post1 : Int32 → MM → Int64 → Prop} (H : ∀ (r1 : Int32) (M1 : MM) (t1 : Int64), (∀ post2 : Int32 → MM → Int64 → Prop, (∀ (r2 : Int32) (M2 : MM) (t2 : Int64), Rel M2 → post2 r2 M2 t2) → wpX11_thing post2 M1 t1 v1 v2) → post1 r1 M1 t1) : wpX10_thing post1 M tl v1 v2 := by
  have hI := h.1
  refine sf_X10_thing hI (fun r1 q1 => H _ _ _ (fun post2 k => ?_))
  refine sf_X11_thing hI (fun r2 q2 => ?_)
  exact k _ _ _ (rel_keep h hI (fr_rfl (I := []) (J := [])) (fr_rfl (I := []) (J := [])) (by decide))
theorem pr_put {M : MM} {tl : Int64} {v1 : Int32} {v2 : Int32} {v3 : Int32} (h : Rel M) {post1 : Int32 → MM → Int64 → Prop} (H : ∀ (r1 : Int32) (M1 : MM) (t1 : Int64), (∀ post2 : Int32 → MM → Int64 → Prop, (∀ (r2 : Int32) (M2 : MM) (t2 : Int64), Rel M2 → post2 r2 M2 t2) → wpX11_put post2 M1 t1 v1 v2 v3) → post1 r1 M1 t1) : wpX10_put post1 M tl v1 v2 v3 := by
  have hI := h.1
  refine sf_X10_put hI (fun r1 M1 t1 i1 f1 q1 => H _ _ _ (fun post2 k => ?_))
  refine sf_X11_put i1 (fun r2 M2 t2 i2 f2 q2 => ?_)
  exact k _ _ _ (rel_keep h i2 f1 f2 (by decide))
theorem pr_match {M : MM} {tl : Int64} {v1 : Int32} {v2 : Int32} (h : Rel M) {post1 : Int32 → MM → Int64 → Prop} (H : ∀ (r1 : Int32) (M1 : MM) (t1 : Int64), (∀ post2 : Int32 → MM → Int64 → Prop, (∀ (r2 : Int32) (M2 : MM) (t2 : Int64), Rel M2 → post2 r2 M2 t2) → wpX11_match post2 M1 t1 v1 v2) → post1 r1 M1 t1) : wpX10_match post1 M tl v1 v2 := by
  have hI := h.1
  refine sf_X10_match hI (fun r1 q1 => H _ _ _ (fun post2 k => ?_))
  refine sf_X11_match hI (fun r2 q2 => ?_)
  exact k _ _ _ (rel_keep h hI (fr_rfl (I := []) (J := [])) (fr_rfl (I := []) (J := [])) (by decide))
theorem pr_odd {M : MM} {tl : Int64} (h : Rel M) {post1 : Int32 → MM → Int64 → Prop} (H : ∀ (r1 : Int32) (M1 : MM) (t1 : Int64), (∀ post2 : Int32 → MM → Int64 → Prop, (∀ (r2 : Int32) (M2 : MM) (t2 : Int64), Rel M2 → post2 r2 M2 t2) → wpX11_odd post2 M1 t1 ) → post1 r1 M1 t1) : wpX10_odd post1 M tl  := by
  have hI := h.1
  refine sf_X10_odd hI (fun r1 q1 => H _ _ _ (fun post2 k => ?_))
  refine sf_X11_odd hI (fun r2 M2 t2 i2 f2 q2 => ?_)
  exact k _ _ _ (rel_keep h i2 (fr_rfl (I := []) (J := [])) f2 (by decide))
theorem pr_third {M : MM} {tl : Int64} {v1 : Int32} (h : Rel M) {post1 : Int32 → MM → Int64 → Prop} (H : ∀ (r1 : Int32) (M1 : MM) (t1 : Int64), (∀ post2 : Int32 → MM → Int64 → Prop, (∀ (r2 : Int32) (M2 : MM) (t2 : Int64), Rel M2 → post2 r2 M2 t2) → wpX11_third post2 M1 t1 v1) → post1 r1 M1 t1) : wpX10_third post1 M tl v1 := by
  have hI := h.1
  refine sf_X10_third hI (fun r1 q1 => H _ _ _ (fun post2 k => ?_))
  refine sf_X11_third hI (fun r2 q2 => ?_)
  exact k _ _ _ (rel_keep h hI (fr_rfl (I := []) (J := [])) (fr_rfl (I := []) (J := [])) (by decide))
theorem pr_after {M : MM} {tl : Int64} {v1 : Int32} {v2 : Int32} {v3 : Int32} (h : Rel M) {post1 : Int32 → MM → Int64 → Prop} (H : ∀ (r1 : Int32) (M1 : MM) (t1 : Int64), (∀ post2 : Int32 → MM → Int64 → Prop, (∀ (r2 : Int32) (M2 : MM) (t2 : Int64), Rel M2 → post2 r2 M2 t2) → wpX11_after post2 M1 t1 v1 v2 v3) → post1 r1 M1 t1) : wpX10_after post1 M tl v1 v2 v3 := by
  have hI := h.1
  refine sf_X10_after hI (fun r1 M1 t1 i1 f1 q1 => H _ _ _ (fun post2 k => ?_))
  refine sf_X11_after i1 (fun r2 M2 t2 i2 f2 q2 => ?_)
  exact k _ _ _ (rel_keep h i2 f1 f2 (by decide))
theorem pr_paid {M : MM} {tl : Int64} {v1 : Int32} {v2 : Int32} (h : Rel M) {post1 : Int32 → MM → Int64 → Prop} (H : ∀ (r1 : Int32) (M1 : MM) (t1 : Int64), (∀ post2 : Int32 → MM → Int64 → Prop, (∀ (r2 : Int32) (M2 : MM) (t2 : Int64), Rel M2 → post2 r2 M2 t2) → wpX11_paid post2 M1 t1 v1 v2) → post1 r1 M1 t1) : wpX10_paid post1 M tl v1 v2 := by
  have hI := h.1
  refine sf_X10_paid hI (fun r1 M1 t1 i1 f1 q1 => H _ _ _ (fun post2 k => ?_))
  refine sf_X11_paid i1 (fun r2 M2 t2 i2 f2 q2 => ?_)
  exact k _ _ _ (rel_keep h i2 f1 f2 (by decide))
theorem pr_owes {M : MM} {tl : Int64} {v1 : Int32} {v2 : Int32} (h : Rel M) {post1 : Int32 → MM → Int64 → Prop} (H : ∀ (r1 : Int32) (M1 : MM) (t1 : Int64), (∀ post2 : Int32 → MM → Int64 → Prop, (∀ (r2 : Int32) (M2 : MM) (t2 : Int64), Rel M2 → post2 r2 M2 t2) → wpX11_owes post2 M1 t1 v1 v2) → post1 r1 M1 t1) : wpX10_owes post1 M tl v1 v2 := by
  have hI := h.1
  refine sf_X10_owes hI (fun r1 M1 t1 i1 f1 q1 => H _ _ _ (fun post2 k => ?_))
  refine sf_X11_owes i1 (fun r2 M2 t2 i2 f2 q2 => ?_)
  exact k _ _ _ (rel_keep h i2 f1 f2 (by decide))
theorem pr_fate {M : MM} {tl : Int64} {v1 : Int32} (h : Rel M) {post1 : Int32 → MM → Int64 → Prop} (H : ∀ (r1 : Int32) (M1 : MM) (t1 : Int64), (∀ post2 : Int32 → MM → Int64 → Prop, (∀ (r2 : Int32) (M2 : MM) (t2 : Int64), Rel M2 → post2 r2 M2 t2) → wpX11_fate post2 M1 t1 v1) → post1 r1 M1 t1) : wpX10_fate post1 M tl v1 := by
  have hI := h.1
  refine sf_X10_fate hI (fun r1 M1 t1 i1 f1 q1 => H _ _ _ (fun post2 k => ?_))
  refine sf_X11_fate i1 (fun r2 M2 t2 i2 f2 q2 => ?_)
  exact k _ _ _ (rel_keep h i2 f1 f2 (by decide))
theorem pr_uneven {M : MM} {tl : Int64} {v1 : Int32} (h : Rel M) {post1 : Int32 → MM → Int64 → Prop} (H : ∀ (r1 : Int32) (M1 : MM) (t1 : Int64), (∀ post2 : Int32 → MM → Int64 → Prop, (∀ (r2 : Int32) (M2 : MM) (t2 : Int64), Rel M2 → post2 r2 M2 t2) → wpX11_uneven post2 M1 t1 v1) → post1 r1 M1 t1) : wpX10_uneven post1 M tl v1 := by
  have hI := h.1
  refine sf_X10_uneven hI (fun r1 M1 t1 i1 f1 q1 => H _ _ _ (fun post2 k => ?_))
  refine sf_X11_uneven i1 (fun r2 M2 t2 i2 f2 q2 => ?_)
  exact k _ _ _ (rel_keep h i2 f1 f2 (by decide))
theorem pr_go {M : MM} {tl : Int64} (h : Rel M) {post1 : Int32 → MM → Int64 → Prop} (H : ∀ (r1 : Int32) (M1 : MM) (t1 : Int64), (∀ post2 : Int32 → MM → Int64 → Prop, (∀ (r2 : Int32) (M2 : MM) (t2 : Int64), Rel M2 → post2 r2 M2 t2) → wpX11_go post2 M1 t1 ) → post1 r1 M1 t1) : wpX10_go post1 M tl  := by
  have hI := h.1
  refine sf_X10_go hI (fun r1 M1 t1 i1 f1 q1 => H _ _ _ (fun post2 k => ?_))
  refine sf_X11_go i1 (fun r2 M2 t2 i2 f2 q2 => ?_)
  exact k _ _ _ (rel_keep h i2 f1 f2 (by decide))
theorem pr_plot {M : MM} {tl : Int64} {v1 : Int32} {v2 : Int32} {v3 : Int32} {v4 : Int32} (h : Rel M) {post1 : Int32 → MM → Int64 → Prop} (H : ∀ (r1 : Int32) (M1 : MM) (t1 : Int64), (∀ post2 : Int32 → MM → Int64 → Prop, (∀ (r2 : Int32) (M2 : MM) (t2 : Int64), Rel M2 → post2 r2 M2 t2) → wpX11_plot post2 M1 t1 v1 v2 v3 v4) → post1 r1 M1 t1) : wpX10_plot post1 M tl v1 v2 v3 v4 := by
  have hI := h.1
  refine sf_X10_plot hI (fun r1 M1 t1 i1 f1 q1 => H _ _ _ (fun post2 k => ?_))
  refine sf_X11_plot i1 (fun r2 M2 t2 i2 f2 q2 => ?_)
  exact k _ _ _ (rel_keep h i2 f1 f2 (by decide))
theorem pr_gain {M : MM} {tl : Int64} {v1 : Int32} {v2 : Int32} {v3 : Int32} (h : Rel M) {post1 : Int32 → MM → Int64 → Prop} (H : ∀ (r1 : Int32) (M1 : MM) (t1 : Int64), (∀ post2 : Int32 → MM → Int64 → Prop, (∀ (r2 : Int32) (M2 : MM) (t2 : Int64), Rel M2 → post2 r2 M2 t2) → wpX11_gain post2 M1 t1 v1 v2 v3) → post1 r1 M1 t1) : wpX10_gain post1 M tl v1 v2 v3 := by
  have hI := h.1
  refine sf_X10_gain hI (fun r1 q1 => H _ _ _ (fun post2 k => ?_))
  refine sf_X11_gain hI (fun r2 q2 => ?_)
  exact k _ _ _ (rel_keep h hI (fr_rfl (I := []) (J := [])) (fr_rfl (I := []) (J := [])) (by decide))
theorem pr_begin {M : MM} {tl : Int64} {v1 : Int32} {v2 : Int32} {v3 : Int32} (h : Rel M) {post1 : Int32 → MM → Int64 → Prop} (H : ∀ (r1 : Int32) (M1 : MM) (t1 : Int64), (∀ post2 : Int32 → MM → Int64 → Prop, (∀ (r2 : Int32) (M2 : MM) (t2 : Int64), Rel M2 → post2 r2 M2 t2) → wpX11_begin post2 M1 t1 v1 v2 v3) → post1 r1 M1 t1) : wpX10_begin post1 M tl v1 v2 v3 := by
  have hI := h.1
  refine sf_X10_begin hI (fun r1 q1 => H _ _ _ (fun post2 k => ?_))
  refine sf_X11_begin hI (fun r2 q2 => ?_)
  exact k _ _ _ (rel_keep h hI (fr_rfl (I := []) (J := [])) (fr_rfl (I := []) (J := [])) (by decide))
theorem pr_waits {M : MM} {tl : Int64} {v1 : Int32} {v2 : Int32} (h : Rel M) {post1 : Int32 → MM → Int64 → Prop} (H : ∀ (r1 : Int32) (M1 : MM) (t1 : Int64), (∀ post2 : Int32 → MM → Int64 → Prop, (∀ (r2 : Int32) (M2 : MM) (t2 : Int64), Rel M2 → post2 r2 M2 t2) → wpX11_waits post2 M1 t1 v1 v2) → post1 r1 M1 t1) : wpX10_waits post1 M tl v1 v2 := by
  have hI := h.1
  refine sf_X10_waits hI (fun r1 q1 => H _ _ _ (fun post2 k => ?_))
  refine sf_X11_waits hI (fun r2 q2 => ?_)
  exact k _ _ _ (rel_keep h hI (fr_rfl (I := []) (J := [])) (fr_rfl (I := []) (J := [])) (by decide))
theorem pr_vex {M : MM} {tl : Int64} {v1 : Int32} {v2 : Int32} (h : Rel M) {post1 : Int32 → MM → Int64 → Prop} (H : ∀ (r1 : Int32) (M1 : MM) (t1 : Int64), (∀ post2 : Int32 → MM → Int64 → Prop, (∀ (r2 : Int32) (M2 : MM) (t2 : Int64), Rel M2 → post2 r2 M2 t2) → wpX11_vex post2 M1 t1 v1 v2) → post1 r1 M1 t1) : wpX10_vex post1 M tl v1 v2 := by
  have hI := h.1
  refine sf_X10_vex hI (fun r1 M1 t1 i1 f1 q1 => H _ _ _ (fun post2 k => ?_))
  refine sf_X11_vex i1 (fun r2 q2 => ?_)
  exact k _ _ _ (rel_keep h i1 f1 (fr_rfl (I := []) (J := [])) (by decide))
theorem pr_want {M : MM} {tl : Int64} {v1 : Int32} {v2 : Int32} (h : Rel M) {post1 : Int32 → MM → Int64 → Prop} (H : ∀ (r1 : Int32) (M1 : MM) (t1 : Int64), (∀ post2 : Int32 → MM → Int64 → Prop, (∀ (r2 : Int32) (M2 : MM) (t2 : Int64), Rel M2 → post2 r2 M2 t2) → wpX11_want post2 M1 t1 v1 v2) → post1 r1 M1 t1) : wpX10_want post1 M tl v1 v2 := by
  have hI := h.1
  refine sf_X10_want hI (fun r1 M1 t1 i1 f1 q1 => H _ _ _ (fun post2 k => ?_))
  refine sf_X11_want i1 (fun r2 M2 t2 i2 f2 q2 => ?_)
  exact k _ _ _ (rel_keep h i2 f1 f2 (by decide))
theorem pr_content {M : MM} {tl : Int64} (h : Rel M) {post1 : Int32 → MM → Int64 → Prop} (H : ∀ (r1 : Int32) (M1 : MM) (t1 : Int64), (∀ post2 : Int32 → MM → Int64 → Prop, (∀ (r2 : Int32) (M2 : MM) (t2 : Int64), Rel M2 → post2 r2 M2 t2) → wpX11_content post2 M1 t1 ) → post1 r1 M1 t1) : wpX10_content post1 M tl  := by
  have hI := h.1
  refine sf_X10_content hI (fun r1 M1 t1 i1 f1 q1 => H _ _ _ (fun post2 k => ?_))
  refine sf_X11_content i1 (fun r2 M2 t2 i2 f2 q2 => ?_)
  exact k _ _ _ (rel_keep h i2 f1 f2 (by decide))
theorem pr_plan {M : MM} {tl : Int64} {v1 : Int32} {v2 : Int32} (h : Rel M) {post1 : Int32 → MM → Int64 → Prop} (H : ∀ (r1 : Int32) (M1 : MM) (t1 : Int64), (∀ post2 : Int32 → MM → Int64 → Prop, (∀ (r2 : Int32) (M2 : MM) (t2 : Int64), Rel M2 → post2 r2 M2 t2) → wpX11_plan post2 M1 t1 v1 v2) → post1 r1 M1 t1) : wpX10_plan post1 M tl v1 v2 := by
  have hI := h.1
  refine sf_X10_plan hI (fun r1 M1 t1 i1 f1 q1 => H _ _ _ (fun post2 k => ?_))
  refine sf_X11_plan i1 (fun r2 M2 t2 i2 f2 q2 => ?_)
  exact k _ _ _ (rel_keep h i2 f1 f2 (by decide))
theorem pr_cannot {M : MM} {tl : Int64} {v1 : Int32} (h : Rel M) {post1 : Int32 → MM → Int64 → Prop} (H : ∀ (r1 : Int32) (M1 : MM) (t1 : Int64), (∀ post2 : Int32 → MM → Int64 → Prop, (∀ (r2 : Int32) (M2 : MM) (t2 : Int64), Rel M2 → post2 r2 M2 t2) → wpX11_cannot post2 M1 t1 v1) → post1 r1 M1 t1) : wpX10_cannot post1 M tl v1 := by
  have hI := h.1
  refine sf_X10_cannot hI (fun r1 q1 => H _ _ _ (fun post2 k => ?_))
  refine sf_X11_cannot hI (fun r2 q2 => ?_)
  exact k _ _ _ (rel_keep h hI (fr_rfl (I := []) (J := [])) (fr_rfl (I := []) (J := [])) (by decide))
theorem pr_fire {M : MM} {tl : Int64} {v1 : Int32} {v2 : Int32} {v3 : Int32} (h : Rel M) {post1 : Int32 → MM → Int64 → Prop} (H : ∀ (r1 : Int32) (M1 : MM) (t1 : Int64), (∀ post2 : Int32 → MM → Int64 → Prop, (∀ (r2 : Int32) (M2 : MM) (t2 : Int64), Rel M2 → post2 r2 M2 t2) → wpX11_fire post2 M1 t1 v1 v2 v3) → post1 r1 M1 t1) : wpX10_fire post1 M tl v1 v2 v3 := by
  have hI := h.1
  refine sf_X10_fire hI (fun r1 q1 => H _ _ _ (fun post2 k => ?_))
  refine sf_X11_fire hI (fun r2 q2 => ?_)
  exact k _ _ _ (rel_keep h hI (fr_rfl (I := []) (J := [])) (fr_rfl (I := []) (J := [])) (by decide))
theorem pr_quarrel {M : MM} {tl : Int64} {v1 : Int32} (h : Rel M) {post1 : Int32 → MM → Int64 → Prop} (H : ∀ (r1 : Int32) (M1 : MM) (t1 : Int64), (∀ post2 : Int32 → MM → Int64 → Prop, (∀ (r2 : Int32) (M2 : MM) (t2 : Int64), Rel M2 → post2 r2 M2 t2) → wpX11_quarrel post2 M1 t1 v1) → post1 r1 M1 t1) : wpX10_quarrel post1 M tl v1 := by
  have hI := h.1
  refine sf_X10_quarrel hI (fun r1 q1 => H _ _ _ (fun post2 k => ?_))
  refine sf_X11_quarrel hI (fun r2 q2 => ?_)
  exact k _ _ _ (rel_keep h hI (fr_rfl (I := []) (J := [])) (fr_rfl (I := []) (J := [])) (by decide))
theorem pr_bend {M : MM} {tl : Int64} (h : Rel M) {post1 : Int32 → MM → Int64 → Prop} (H : ∀ (r1 : Int32) (M1 : MM) (t1 : Int64), (∀ post2 : Int32 → MM → Int64 → Prop, (∀ (r2 : Int32) (M2 : MM) (t2 : Int64), Rel M2 → post2 r2 M2 t2) → wpX11_bend post2 M1 t1 ) → post1 r1 M1 t1) : wpX10_bend post1 M tl  := by
  have hI := h.1
  refine sf_X10_bend hI (fun r1 q1 => H _ _ _ (fun post2 k => ?_))
  refine sf_X11_bend hI (fun r2 q2 => ?_)
  exact k _ _ _ (rel_keep h hI (fr_rfl (I := []) (J := [])) (fr_rfl (I := []) (J := [])) (by decide))
theorem pr_shops {M : MM} {tl : Int64} {v1 : Int32} {v2 : Int32} (h : Rel M) {post1 : Int32 → MM → Int64 → Prop} (H : ∀ (r1 : Int32) (M1 : MM) (t1 : Int64), (∀ post2 : Int32 → MM → Int64 → Prop, (∀ (r2 : Int32) (M2 : MM) (t2 : Int64), Rel M2 → post2 r2 M2 t2) → wpX11_shops post2 M1 t1 v1 v2) → post1 r1 M1 t1) : wpX10_shops post1 M tl v1 v2 := by
  have hI := h.1
  refine sf_X10_shops hI (fun r1 q1 => H _ _ _ (fun post2 k => ?_))
  refine sf_X11_shops hI (fun r2 q2 => ?_)
  exact k _ _ _ (rel_keep h hI (fr_rfl (I := []) (J := [])) (fr_rfl (I := []) (J := [])) (by decide))
theorem pr_saw {M : MM} {tl : Int64} {v1 : Int32} {v2 : Int32} {v3 : Int32} {v4 : Int32} (h : Rel M) {post1 : Int32 → MM → Int64 → Prop} (H : ∀ (r1 : Int32) (M1 : MM) (t1 : Int64), (∀ post2 : Int32 → MM → Int64 → Prop, (∀ (r2 : Int32) (M2 : MM) (t2 : Int64), Rel M2 → post2 r2 M2 t2) → wpX11_saw post2 M1 t1 v1 v2 v3 v4) → post1 r1 M1 t1) : wpX10_saw post1 M tl v1 v2 v3 v4 := by
  have hI := h.1
  refine sf_X10_saw hI (fun r1 M1 t1 i1 f1 q1 => H _ _ _ (fun post2 k => ?_))
  refine sf_X11_saw i1 (fun r2 M2 t2 i2 f2 q2 => ?_)
  exact k _ _ _ (rel_keep h i2 f1 f2 (by decide))
theorem pr_forget {M : MM} {tl : Int64} (h : Rel M) {post1 : Int32 → MM → Int64 → Prop} (H : ∀ (r1 : Int32) (M1 : MM) (t1 : Int64), (∀ post2 : Int32 → MM → Int64 → Prop, (∀ (r2 : Int32) (M2 : MM) (t2 : Int64), Rel M2 → post2 r2 M2 t2) → wpX11_forget post2 M1 t1 ) → post1 r1 M1 t1) : wpX10_forget post1 M tl  := by
  have hI := h.1
  refine sf_X10_forget hI (fun r1 M1 t1 i1 f1 q1 => H _ _ _ (fun post2 k => ?_))
  refine sf_X11_forget i1 (fun r2 M2 t2 i2 f2 q2 => ?_)
  exact k _ _ _ (rel_keep h i2 f1 f2 (by decide))
theorem pr_histories {M : MM} {tl : Int64} {v1 : Int32} (h : Rel M) {post1 : Int64 → MM → Int64 → Prop} (H : ∀ (r1 : Int64) (M1 : MM) (t1 : Int64), (∀ post2 : Int64 → MM → Int64 → Prop, (∀ (r2 : Int64) (M2 : MM) (t2 : Int64), Rel M2 → post2 r2 M2 t2) → wpX11_histories post2 M1 t1 v1) → post1 r1 M1 t1) : wpX10_histories post1 M tl v1 := by
  have hI := h.1
  refine sf_X10_histories hI (fun r1 M1 t1 i1 f1 q1 => H _ _ _ (fun post2 k => ?_))
  refine sf_X11_histories i1 (fun r2 q2 => ?_)
  exact k _ _ _ (rel_keep h i1 f1 (fr_rfl (I := []) (J := [])) (by decide))
theorem pr_began {M : MM} {tl : Int64} {v1 : Int32} {v2 : Int32} {v3 : Int32} (h : Rel M) {post1 : Int32 → MM → Int64 → Prop} (H : ∀ (r1 : Int32) (M1 : MM) (t1 : Int64), (∀ post2 : Int32 → MM → Int64 → Prop, (∀ (r2 : Int32) (M2 : MM) (t2 : Int64), Rel M2 → post2 r2 M2 t2) → wpX11_began post2 M1 t1 v1 v2 v3) → post1 r1 M1 t1) : wpX10_began post1 M tl v1 v2 v3 := by
  have hI := h.1
  refine sf_X10_began hI (fun r1 M1 t1 i1 f1 q1 => H _ _ _ (fun post2 k => ?_))
  refine sf_X11_began i1 (fun r2 q2 => ?_)
  exact k _ _ _ (rel_keep h i1 f1 (fr_rfl (I := []) (J := [])) (by decide))
theorem pr_keep {M : MM} {tl : Int64} {v1 : Int32} (h : Rel M) {post1 : Int32 → MM → Int64 → Prop} (H : ∀ (r1 : Int32) (M1 : MM) (t1 : Int64), (∀ post2 : Int32 → MM → Int64 → Prop, (∀ (r2 : Int32) (M2 : MM) (t2 : Int64), Rel M2 → post2 r2 M2 t2) → wpX11_keep post2 M1 t1 v1) → post1 r1 M1 t1) : wpX10_keep post1 M tl v1 := by
  have hI := h.1
  refine sf_X10_keep hI (fun r1 M1 t1 i1 f1 q1 => H _ _ _ (fun post2 k => ?_))
  refine sf_X11_keep i1 (fun r2 M2 t2 i2 f2 q2 => ?_)
  exact k _ _ _ (rel_keep h i2 f1 f2 (by decide))
theorem pr_back {M : MM} {tl : Int64} {v1 : Int32} (h : Rel M) {post1 : Int32 → MM → Int64 → Prop} (H : ∀ (r1 : Int32) (M1 : MM) (t1 : Int64), (∀ post2 : Int32 → MM → Int64 → Prop, (∀ (r2 : Int32) (M2 : MM) (t2 : Int64), Rel M2 → post2 r2 M2 t2) → wpX11_back post2 M1 t1 v1) → post1 r1 M1 t1) : wpX10_back post1 M tl v1 := by
  have hI := h.1
  refine sf_X10_back hI (fun r1 M1 t1 i1 f1 q1 => H _ _ _ (fun post2 k => ?_))
  refine sf_X11_back i1 (fun r2 M2 t2 i2 f2 q2 => ?_)
  exact k _ _ _ (rel_keep h i2 f1 f2 (by decide))
theorem pr_sheet {M : MM} {tl : Int64} {v1 : Int32} {v2 : Int32} {v3 : Int32} (h : Rel M) {post1 : Int32 → MM → Int64 → Prop} (H : ∀ (r1 : Int32) (M1 : MM) (t1 : Int64), (∀ post2 : Int32 → MM → Int64 → Prop, (∀ (r2 : Int32) (M2 : MM) (t2 : Int64), Rel M2 → r1 = r2 → post2 r2 M2 t2) → wpX11_sheet post2 M1 t1 v1 v2 v3) → post1 r1 M1 t1) : wpX10_sheet post1 M tl v1 v2 v3 := by
  have hI := h.1
  refine sf_X10_sheet hI (fun r1 M1 t1 i1 f1 q1 => H _ _ _ (fun post2 k => ?_))
  refine sf_X11_sheet i1 (fun r2 M2 t2 i2 f2 q2 => ?_)
  exact k _ _ _ (rel_keep h i2 f1 f2 (by decide)) (sh_eq q1 q2)
theorem pr_lay {M : MM} {tl : Int64} {v1 : Int32} {v2 : Int32} {v3 : Int32} (h : Rel M) {post1 : Int32 → MM → Int64 → Prop} (H : ∀ (r1 : Int32) (M1 : MM) (t1 : Int64), (∀ post2 : Int32 → MM → Int64 → Prop, (∀ (r2 : Int32) (M2 : MM) (t2 : Int64), Rel M2 → post2 r2 M2 t2) → wpX11_lay post2 M1 t1 v1 v2 v3) → post1 r1 M1 t1) : wpX10_lay post1 M tl v1 v2 v3 := by
  have hI := h.1
  refine sf_X10_lay hI (fun r1 M1 t1 i1 f1 q1 => H _ _ _ (fun post2 k => ?_))
  refine sf_X11_lay i1 (fun r2 M2 t2 i2 f2 q2 => ?_)
  exact k _ _ _ (rel_keep h i2 f1 f2 (by decide))
theorem pr_read {M : MM} {tl : Int64} {v1 : Int32} {v2 : Int32} {v3 : Int32} {v4 : Int32} (h : Rel M) {post1 : Int32 → MM → Int64 → Prop} (H : ∀ (r1 : Int32) (M1 : MM) (t1 : Int64), (∀ post2 : Int32 → MM → Int64 → Prop, (∀ (r2 : Int32) (M2 : MM) (t2 : Int64), Rel M2 → post2 r2 M2 t2) → wpX11_read post2 M1 t1 v1 v2 v3 v4) → post1 r1 M1 t1) : wpX10_read post1 M tl v1 v2 v3 v4 := by
  have hI := h.1
  refine sf_X10_read hI (fun r1 M1 t1 i1 f1 q1 => H _ _ _ (fun post2 k => ?_))
  refine sf_X11_read i1 (fun r2 M2 t2 i2 f2 q2 => ?_)
  exact k _ _ _ (rel_keep h i2 f1 f2 (by decide))
theorem pr_torn {M : MM} {tl : Int64} (h : Rel M) {post1 : Int32 → MM → Int64 → Prop} (H : ∀ (r1 : Int32) (M1 : MM) (t1 : Int64), (∀ post2 : Int32 → MM → Int64 → Prop, (∀ (r2 : Int32) (M2 : MM) (t2 : Int64), Rel M2 → post2 r2 M2 t2) → wpX11_torn post2 M1 t1 ) → post1 r1 M1 t1) : wpX10_torn post1 M tl  := by
  have hI := h.1
  refine sf_X10_torn hI (fun r1 q1 => H _ _ _ (fun post2 k => ?_))
  refine sf_X11_torn hI (fun r2 q2 => ?_)
  exact k _ _ _ (rel_keep h hI (fr_rfl (I := []) (J := [])) (fr_rfl (I := []) (J := [])) (by decide))
theorem pr_count {M : MM} {tl : Int64} {v1 : Int32} (h : Rel M) {post1 : Int32 → MM → Int64 → Prop} (H : ∀ (r1 : Int32) (M1 : MM) (t1 : Int64), (∀ post2 : Int32 → MM → Int64 → Prop, (∀ (r2 : Int32) (M2 : MM) (t2 : Int64), Rel M2 → post2 r2 M2 t2) → wpX11_count post2 M1 t1 v1) → post1 r1 M1 t1) : wpX10_count post1 M tl v1 := by
  have hI := h.1
  refine sf_X10_count hI (fun r1 q1 => H _ _ _ (fun post2 k => ?_))
  refine sf_X11_count hI (fun r2 q2 => ?_)
  exact k _ _ _ (rel_keep h hI (fr_rfl (I := []) (J := [])) (fr_rfl (I := []) (J := [])) (by decide))
