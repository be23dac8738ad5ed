noncomputable def epX11_in (q : Nat → Nat → Nat → Bool) (cM ct cv0 cv2 cv4 : Nat) : Bool :=
  (@Bool.rec (fun _ => Bool) (@Bool.rec (fun _ => Bool) (q 1 cM ct) (q 0 cM ct) (ltN 0 (lcN cv0 cv4))) (q 0 cM ct) (ltN (lcN cv0 cv2) 0))
set_option maxHeartbeats 4000000 in
set_option maxRecDepth 20000 in
theorem spX11_in {post : Int32 → MM → Int64 → Prop} {q : Nat → Nat → Nat → Bool} (hq : ∀ (r : Int32) (M : MM) (tl : Int64) (cr cM ct : Nat), r = nI cr → M = dM cM → tl = i64 ct → q cr cM ct = true → post r M tl) {M : MM} {tl : Int64} {v0 : Int64} {v2 : Int64} {v4 : Int64} {cM ct cv0 cv2 cv4 : Nat} (hM : M = dM cM) (ht : tl = i64 ct) (hv0 : v0 = i64 cv0) (hv2 : v2 = i64 cv2) (hv4 : v4 = i64 cv4) (h : epX11_in q  cM ct cv0 cv2 cv4 = true) : wpX11_in post  M tl v0 v2 v4 := by
  unfold wpX11_in
  refine e_ite (c_lt (r_cmp hv0 hv2) (rfl : (0 : Int32) = nI 0)) h (fun h => ?_) (fun h => ?_)
  · exact hq _ _ _ _ _ _ (rfl : (0 : Int32) = nI 0) hM ht h
  · refine e_ite (c_lt (rfl : (0 : Int32) = nI 0) (r_cmp hv0 hv4)) h (fun h => ?_) (fun h => ?_)
    · exact hq _ _ _ _ _ _ (rfl : (0 : Int32) = nI 0) hM ht h
    · exact hq _ _ _ _ _ _ (rfl : (1 : Int32) = nI 1) hM ht h
noncomputable def epX11_flag (q : Nat → Nat → Nat → Bool) (cM ct cv0 : Nat) : Bool :=
  (@Bool.rec (fun _ => Bool) (q 1 cM ct) (q 0 cM ct) (eqN cv0 0))
set_option maxHeartbeats 4000000 in
set_option maxRecDepth 20000 in
theorem spX11_flag {post : Int32 → MM → Int64 → Prop} {q : Nat → Nat → Nat → Bool} (hq : ∀ (r : Int32) (M : MM) (tl : Int64) (cr cM ct : Nat), r = nI cr → M = dM cM → tl = i64 ct → q cr cM ct = true → post r M tl) {M : MM} {tl : Int64} {v0 : Int32} {cM ct cv0 : Nat} (hM : M = dM cM) (ht : tl = i64 ct) (hv0 : v0 = nI cv0) (h : epX11_flag q  cM ct cv0 = true) : wpX11_flag post  M tl v0 := by
  unfold wpX11_flag
  refine e_ite (c_eq hv0 (rfl : (0 : Int32) = nI 0)) h (fun h => ?_) (fun h => ?_)
  · exact hq _ _ _ _ _ _ (rfl : (0 : Int32) = nI 0) hM ht h
  · exact hq _ _ _ _ _ _ (rfl : (1 : Int32) = nI 1) hM ht h
noncomputable def eX11_firstDraft_95 (q : Nat → Nat → Bool) (cbk65 : Nat → Nat → Nat → Bool) (cM ct cv1 cs1 cs2 : Nat) : Bool :=
  (@Bool.rec (fun _ => Bool) false (wrB (fun cM2 => (cbk65 cM2 ct (aN cv1 1))) cM 93 (tN cs1) cs2) (inN cs1 (alF 93)))
set_option maxHeartbeats 4000000 in
set_option maxRecDepth 20000 in
theorem sX11_firstDraft_95 {post : MM → Int64 → Prop} {q : Nat → Nat → Bool} (hq : ∀ (M : MM) (tl : Int64) (cM ct : Nat), M = dM cM → tl = i64 ct → q cM ct = true → post M tl) {bk65 : MM → Int64 → Int32 → Prop} {cbk65 : Nat → Nat → Nat → Bool} (hbk65 : ∀ (M : MM) (tl : Int64) (x0 : Int32) (cM ct cx0 : Nat), M = dM cM → tl = i64 ct → x0 = nI cx0 → cbk65 cM ct cx0 = true → bk65 M tl x0) {M : MM} {tl : Int64} {v1 : Int32} {s1 : Int32} {s2 : Int32} {cM ct cv1 cs1 cs2 : Nat} (hM : M = dM cM) (ht : tl = i64 ct) (hv1 : v1 = nI cv1) (hs1 : s1 = nI cs1) (hs2 : s2 = nI cs2) (h : eX11_firstDraft_95 q cbk65 cM ct cv1 cs1 cs2 = true) : wX11_firstDraft_95 post bk65 M tl v1 s1 s2 := by
  unfold wX11_firstDraft_95
  refine e_and (k_in hs1 (r_al (rfl : (93 : Nat) = 93))) h (fun h => ?_)
  refine e_wr h hM (rfl : (93 : Nat) = 93) (r_nat hs1) hs2 (fun M2 cM2 hM2 h => ?_)
  exact hbk65 _ _ _ _ _ _ hM2 ht (r_add hv1 (rfl : (1 : Int32) = nI 1)) h
noncomputable def eX11_firstDraft_118 (q : Nat → Nat → Bool) (n : Nat) : Nat → Nat → Nat → Bool :=
  @Nat.rec (fun _ => Nat → Nat → Nat → Bool) (fun _ _ _ => false) (fun _ ih cM ct cv1 => (@Bool.rec (fun _ => Bool) (@Bool.rec (fun _ => Bool) false (wrB (fun cM10 => (ih cM10 ct (aN cv1 1))) cM 95 (tN cv1) cv1) (inN cv1 (alF 95))) (wrB (fun cM1 => (wrB (fun cM2 => (wrB (fun cM3 => (wrB (fun cM4 => (wrB (fun cM5 => (wrB (fun cM6 => (wrB (fun cM7 => (wrB (fun cM8 => (q cM8 ct)) cM7 81 29 4294967292)) cM6 81 28 0)) cM5 81 27 0)) cM4 81 26 0)) cM3 81 25 0)) cM2 81 24 0)) cM1 81 23 0)) cM 81 22 0) (leN 6 cv1))) n
set_option maxHeartbeats 4000000 in
set_option maxRecDepth 20000 in
theorem sX11_firstDraft_118 {post : MM → Int64 → Prop} {q : Nat → Nat → Bool} (hq : ∀ (M : MM) (tl : Int64) (cM ct : Nat), M = dM cM → tl = i64 ct → q cM ct = true → post M tl) : ∀ (n : Nat) (M : MM) (tl : Int64) (v1 : Int32) (cM ct cv1 : Nat), M = dM cM → tl = i64 ct → v1 = nI cv1 → eX11_firstDraft_118 q  n cM ct cv1 = true → wX11_firstDraft_118 post  n M tl v1 := by
  intro n
  induction n with
  | zero => intro M tl v1 cM ct cv1 hM ht hv1 h; exact Bool.noConfusion h
  | succ n ih =>
    intro M tl v1 cM ct cv1 hM ht hv1 h
    unfold wX11_firstDraft_118
    refine e_ite (c_le (rfl : (6 : Int32) = nI 6) hv1) h (fun h => ?_) (fun h => ?_)
    · refine e_wr h hM (rfl : (81 : Nat) = 81) (rfl : (22 : Nat) = 22) (rfl : (0 : Int32) = nI 0) (fun M1 cM1 hM1 h => ?_)
      refine e_wr h hM1 (rfl : (81 : Nat) = 81) (rfl : (23 : Nat) = 23) (rfl : (0 : Int32) = nI 0) (fun M2 cM2 hM2 h => ?_)
      refine e_wr h hM2 (rfl : (81 : Nat) = 81) (rfl : (24 : Nat) = 24) (rfl : (0 : Int32) = nI 0) (fun M3 cM3 hM3 h => ?_)
      refine e_wr h hM3 (rfl : (81 : Nat) = 81) (rfl : (25 : Nat) = 25) (rfl : (0 : Int32) = nI 0) (fun M4 cM4 hM4 h => ?_)
      refine e_wr h hM4 (rfl : (81 : Nat) = 81) (rfl : (26 : Nat) = 26) (rfl : (0 : Int32) = nI 0) (fun M5 cM5 hM5 h => ?_)
      refine e_wr h hM5 (rfl : (81 : Nat) = 81) (rfl : (27 : Nat) = 27) (rfl : (0 : Int32) = nI 0) (fun M6 cM6 hM6 h => ?_)
      refine e_wr h hM6 (rfl : (81 : Nat) = 81) (rfl : (28 : Nat) = 28) (rfl : (0 : Int32) = nI 0) (fun M7 cM7 hM7 h => ?_)
      refine e_wr h hM7 (rfl : (81 : Nat) = 81) (rfl : (29 : Nat) = 29) lm4 (fun M8 cM8 hM8 h => ?_)
      exact hq _ _ _ _ hM8 ht h
    · refine e_and (k_in hv1 (r_al (rfl : (95 : Nat) = 95))) h (fun h => ?_)
      refine e_wr h hM (rfl : (95 : Nat) = 95) (r_nat hv1) hv1 (fun M10 cM10 hM10 h => ?_)
      exact ih _ _ _ _ _ _ hM10 ht (r_add hv1 (rfl : (1 : Int32) = nI 1)) h
noncomputable def eX11_firstDraft_65 (q : Nat → Nat → Bool) (n : Nat) : Nat → Nat → Nat → Bool :=
  @Nat.rec (fun _ => Nat → Nat → Nat → Bool) (fun _ _ _ => false) (fun _ ih cM ct cv1 => (@Bool.rec (fun _ => Bool) (@Bool.rec (fun _ => Bool) false (wrB (fun cM6 => (@Bool.rec (fun _ => Bool) (eX11_firstDraft_95 q ih cM6 ct cv1 cv1 3) (eX11_firstDraft_95 q ih cM6 ct cv1 cv1 0) (eqN (sN cv1 (mN (b2 f_div cv1 6) 6)) 0))) cM 92 (tN cv1) 5) (inN cv1 (alF 92))) (@Bool.rec (fun _ => Bool) false (wrB (fun cM2 => (@Bool.rec (fun _ => Bool) false (wrB (fun cM4 => (eX11_firstDraft_118 q  5000 cM4 ct 0)) cM2 94 (tN 1) 0) (inN 1 (alF 94)))) cM 94 (tN 0) 0) (inN 0 (alF 94))) (leN 12 cv1))) n
set_option maxHeartbeats 4000000 in
set_option maxRecDepth 20000 in
theorem sX11_firstDraft_65 {post : MM → Int64 → Prop} {q : Nat → Nat → Bool} (hq : ∀ (M : MM) (tl : Int64) (cM ct : Nat), M = dM cM → tl = i64 ct → q cM ct = true → post M tl) : ∀ (n : Nat) (M : MM) (tl : Int64) (v1 : Int32) (cM ct cv1 : Nat), M = dM cM → tl = i64 ct → v1 = nI cv1 → eX11_firstDraft_65 q  n cM ct cv1 = true → wX11_firstDraft_65 post  n M tl v1 := by
  intro n
  induction n with
  | zero => intro M tl v1 cM ct cv1 hM ht hv1 h; exact Bool.noConfusion h
  | succ n ih =>
    intro M tl v1 cM ct cv1 hM ht hv1 h
    unfold wX11_firstDraft_65
    refine e_ite (c_le (rfl : (12 : Int32) = nI 12) hv1) h (fun h => ?_) (fun h => ?_)
    · refine e_and (k_in (rfl : (0 : Int32) = nI 0) (r_al (rfl : (94 : Nat) = 94))) h (fun h => ?_)
      refine e_wr h hM (rfl : (94 : Nat) = 94) (r_nat (rfl : (0 : Int32) = nI 0)) (rfl : (0 : Int32) = nI 0) (fun M2 cM2 hM2 h => ?_)
      refine e_and (k_in (rfl : (1 : Int32) = nI 1) (r_al (rfl : (94 : Nat) = 94))) h (fun h => ?_)
      refine e_wr h hM2 (rfl : (94 : Nat) = 94) (r_nat (rfl : (1 : Int32) = nI 1)) (rfl : (0 : Int32) = nI 0) (fun M4 cM4 hM4 h => ?_)
      exact ⟨5000, sX11_firstDraft_118 hq  5000 _ _ _ _ _ _ hM4 ht (rfl : (0 : Int32) = nI 0) h⟩
    · refine e_and (k_in hv1 (r_al (rfl : (92 : Nat) = 92))) h (fun h => ?_)
      refine e_wr h hM (rfl : (92 : Nat) = 92) (r_nat hv1) (rfl : (5 : Int32) = nI 5) (fun M6 cM6 hM6 h => ?_)
      refine e_ite (c_eq (r_sub hv1 (r_mul (r_b2 f_div hv1 (rfl : (6 : Int32) = nI 6)) (rfl : (6 : Int32) = nI 6))) (rfl : (0 : Int32) = nI 0)) h (fun h => ?_) (fun h => ?_)
      · exact sX11_firstDraft_95 hq ih hM6 ht hv1 hv1 (rfl : (0 : Int32) = nI 0) h
      · exact sX11_firstDraft_95 hq ih hM6 ht hv1 hv1 (rfl : (3 : Int32) = nI 3) h
noncomputable def eX11_firstDraft_38 (q : Nat → Nat → Bool) (n : Nat) : Nat → Nat → Nat → Bool :=
  @Nat.rec (fun _ => Nat → Nat → Nat → Bool) (fun _ _ _ => false) (fun _ ih cM ct cv1 => (@Bool.rec (fun _ => Bool) (@Bool.rec (fun _ => Bool) false (wrB (fun cM2 => (@Bool.rec (fun _ => Bool) false (wrB (fun cM4 => (ih cM4 ct (aN cv1 1))) cM2 96 (tN cv1) cv1) (inN cv1 (alF 96)))) cM 91 (tN cv1) 1) (inN cv1 (alF 91))) (eX11_firstDraft_65 q  5000 cM ct 0) (leN 4 cv1))) n
set_option maxHeartbeats 4000000 in
set_option maxRecDepth 20000 in
theorem sX11_firstDraft_38 {post : MM → Int64 → Prop} {q : Nat → Nat → Bool} (hq : ∀ (M : MM) (tl : Int64) (cM ct : Nat), M = dM cM → tl = i64 ct → q cM ct = true → post M tl) : ∀ (n : Nat) (M : MM) (tl : Int64) (v1 : Int32) (cM ct cv1 : Nat), M = dM cM → tl = i64 ct → v1 = nI cv1 → eX11_firstDraft_38 q  n cM ct cv1 = true → wX11_firstDraft_38 post  n M tl v1 := by
  intro n
  induction n with
  | zero => intro M tl v1 cM ct cv1 hM ht hv1 h; exact Bool.noConfusion h
  | succ n ih =>
    intro M tl v1 cM ct cv1 hM ht hv1 h
    unfold wX11_firstDraft_38
    refine e_ite (c_le (rfl : (4 : Int32) = nI 4) hv1) h (fun h => ?_) (fun h => ?_)
    · exact ⟨5000, sX11_firstDraft_65 hq  5000 _ _ _ _ _ _ hM ht (rfl : (0 : Int32) = nI 0) h⟩
    · refine e_and (k_in hv1 (r_al (rfl : (91 : Nat) = 91))) h (fun h => ?_)
      refine e_wr h hM (rfl : (91 : Nat) = 91) (r_nat hv1) (rfl : (1 : Int32) = nI 1) (fun M2 cM2 hM2 h => ?_)
      refine e_and (k_in hv1 (r_al (rfl : (96 : Nat) = 96))) h (fun h => ?_)
      refine e_wr h hM2 (rfl : (96 : Nat) = 96) (r_nat hv1) hv1 (fun M4 cM4 hM4 h => ?_)
      exact ih _ _ _ _ _ _ hM4 ht (r_add hv1 (rfl : (1 : Int32) = nI 1)) h
noncomputable def eX11_firstDraft_2 (q : Nat → Nat → Bool) (n : Nat) : Nat → Nat → Nat → Bool :=
  @Nat.rec (fun _ => Nat → Nat → Nat → Bool) (fun _ _ _ => false) (fun _ ih cM ct cv1 => (@Bool.rec (fun _ => Bool) (@Bool.rec (fun _ => Bool) false (wrB (fun cM5 => (ih cM5 ct (aN cv1 1))) cM 90 (tN cv1) 0) (inN cv1 (alF 90))) (wrB (fun cM1 => (wrB (fun cM2 => (wrB (fun cM3 => (eX11_firstDraft_38 q  5000 cM3 ct 0)) cM2 81 15 1)) cM1 81 14 3)) cM 81 13 5) (leN 127 cv1))) n
set_option maxHeartbeats 4000000 in
set_option maxRecDepth 20000 in
theorem sX11_firstDraft_2 {post : MM → Int64 → Prop} {q : Nat → Nat → Bool} (hq : ∀ (M : MM) (tl : Int64) (cM ct : Nat), M = dM cM → tl = i64 ct → q cM ct = true → post M tl) : ∀ (n : Nat) (M : MM) (tl : Int64) (v1 : Int32) (cM ct cv1 : Nat), M = dM cM → tl = i64 ct → v1 = nI cv1 → eX11_firstDraft_2 q  n cM ct cv1 = true → wX11_firstDraft_2 post  n M tl v1 := by
  intro n
  induction n with
  | zero => intro M tl v1 cM ct cv1 hM ht hv1 h; exact Bool.noConfusion h
  | succ n ih =>
    intro M tl v1 cM ct cv1 hM ht hv1 h
    unfold wX11_firstDraft_2
    refine e_ite (c_le (rfl : (127 : Int32) = nI 127) hv1) h (fun h => ?_) (fun h => ?_)
    · refine e_wr h hM (rfl : (81 : Nat) = 81) (rfl : (13 : Nat) = 13) (rfl : (5 : Int32) = nI 5) (fun M1 cM1 hM1 h => ?_)
      refine e_wr h hM1 (rfl : (81 : Nat) = 81) (rfl : (14 : Nat) = 14) (rfl : (3 : Int32) = nI 3) (fun M2 cM2 hM2 h => ?_)
      refine e_wr h hM2 (rfl : (81 : Nat) = 81) (rfl : (15 : Nat) = 15) (rfl : (1 : Int32) = nI 1) (fun M3 cM3 hM3 h => ?_)
      exact ⟨5000, sX11_firstDraft_38 hq  5000 _ _ _ _ _ _ hM3 ht (rfl : (0 : Int32) = nI 0) h⟩
    · refine e_and (k_in hv1 (r_al (rfl : (90 : Nat) = 90))) h (fun h => ?_)
      refine e_wr h hM (rfl : (90 : Nat) = 90) (r_nat hv1) (rfl : (0 : Int32) = nI 0) (fun M5 cM5 hM5 h => ?_)
      exact ih _ _ _ _ _ _ hM5 ht (r_add hv1 (rfl : (1 : Int32) = nI 1)) h
noncomputable def epX11_firstDraft (q : Nat → Nat → Bool) (cM ct  : Nat) : Bool :=
  (eX11_firstDraft_2 q  5000 cM ct 0)
set_option maxHeartbeats 4000000 in
set_option maxRecDepth 20000 in
theorem spX11_firstDraft {post : MM → Int64 → Prop} {q : Nat → Nat → Bool} (hq : ∀ (M : MM) (tl : Int64) (cM ct : Nat), M = dM cM → tl = i64 ct → q cM ct = true → post M tl) {M : MM} {tl : Int64} {cM ct  : Nat} (hM : M = dM cM) (ht : tl = i64 ct)  (h : epX11_firstDraft q  cM ct  = true) : wpX11_firstDraft post  M tl  := by
  unfold wpX11_firstDraft
  exact ⟨5000, sX11_firstDraft_2 hq  5000 _ _ _ _ _ _ hM ht (rfl : (0 : Int32) = nI 0) h⟩
noncomputable def eX11_keepDraft_120 (q : Nat → Nat → Bool) (cbk89 : Nat → Nat → Nat → Bool) (cM ct cv1 cs1 cs2 : Nat) : Bool :=
  (@Bool.rec (fun _ => Bool) false (wrB (fun cM2 => (@Bool.rec (fun _ => Bool) false (@Bool.rec (fun _ => Bool) false (wrB (fun cM5 => (cbk89 cM5 ct (aN cv1 1))) cM2 86 (tN cv1) (rd cM2 93 (tN cv1))) (inN cv1 (alF 86))) (inN cv1 (alF 93)))) cM 85 (tN cs1) cs2) (inN cs1 (alF 85)))
set_option maxHeartbeats 4000000 in
set_option maxRecDepth 20000 in
theorem sX11_keepDraft_120 {post : MM → Int64 → Prop} {q : Nat → Nat → Bool} (hq : ∀ (M : MM) (tl : Int64) (cM ct : Nat), M = dM cM → tl = i64 ct → q cM ct = true → post M tl) {bk89 : MM → Int64 → Int32 → Prop} {cbk89 : Nat → Nat → Nat → Bool} (hbk89 : ∀ (M : MM) (tl : Int64) (x0 : Int32) (cM ct cx0 : Nat), M = dM cM → tl = i64 ct → x0 = nI cx0 → cbk89 cM ct cx0 = true → bk89 M tl x0) {M : MM} {tl : Int64} {v1 : Int32} {s1 : Int32} {s2 : Int32} {cM ct cv1 cs1 cs2 : Nat} (hM : M = dM cM) (ht : tl = i64 ct) (hv1 : v1 = nI cv1) (hs1 : s1 = nI cs1) (hs2 : s2 = nI cs2) (h : eX11_keepDraft_120 q cbk89 cM ct cv1 cs1 cs2 = true) : wX11_keepDraft_120 post bk89 M tl v1 s1 s2 := by
  unfold wX11_keepDraft_120
  refine e_and (k_in hs1 (r_al (rfl : (85 : Nat) = 85))) h (fun h => ?_)
  refine e_wr h hM (rfl : (85 : Nat) = 85) (r_nat hs1) hs2 (fun M2 cM2 hM2 h => ?_)
  refine e_and (k_in hv1 (r_al (rfl : (93 : Nat) = 93))) h (fun h => ?_)
  refine e_and (k_in hv1 (r_al (rfl : (86 : Nat) = 86))) h (fun h => ?_)
  refine e_wr h hM2 (rfl : (86 : Nat) = 86) (r_nat hv1) (r_rd hM2 (rfl : (93 : Nat) = 93) (r_nat hv1)) (fun M5 cM5 hM5 h => ?_)
  exact hbk89 _ _ _ _ _ _ hM5 ht (r_add hv1 (rfl : (1 : Int32) = nI 1)) h
noncomputable def eX11_keepDraft_173 (q : Nat → Nat → Bool) (n : Nat) : Nat → Nat → Nat → Bool :=
  @Nat.rec (fun _ => Nat → Nat → Nat → Bool) (fun _ _ _ => false) (fun _ ih cM ct cv1 => (@Bool.rec (fun _ => Bool) (@Bool.rec (fun _ => Bool) false (@Bool.rec (fun _ => Bool) false (wrB (fun cM7 => (@Bool.rec (fun _ => Bool) false (wrB (fun cM9 => (ih cM9 ct (aN cv1 1))) cM7 81 11 (Nat.lor (rd cM7 81 11) (b2 f_shl (Nat.land (b2 f_shr (rd cM7 81 22) cv1) 1) (rd cM7 95 (tN cv1))))) (inN cv1 (alF 95)))) cM 88 (tN cv1) (rd cM 95 (tN cv1))) (inN cv1 (alF 88))) (inN cv1 (alF 95))) (@Bool.rec (fun _ => Bool) false (wrB (fun cM2 => (@Bool.rec (fun _ => Bool) false (wrB (fun cM4 => (q cM4 ct)) cM2 83 (tN 1) (b1 (vp_nar .boolean) 0)) (inN 1 (alF 83)))) cM 83 (tN 0) (b1 (vp_nar .boolean) 0)) (inN 0 (alF 83))) (leN 6 cv1))) n
set_option maxHeartbeats 4000000 in
set_option maxRecDepth 20000 in
theorem sX11_keepDraft_173 {post : MM → Int64 → Prop} {q : Nat → Nat → Bool} (hq : ∀ (M : MM) (tl : Int64) (cM ct : Nat), M = dM cM → tl = i64 ct → q cM ct = true → post M tl) : ∀ (n : Nat) (M : MM) (tl : Int64) (v1 : Int32) (cM ct cv1 : Nat), M = dM cM → tl = i64 ct → v1 = nI cv1 → eX11_keepDraft_173 q  n cM ct cv1 = true → wX11_keepDraft_173 post  n M tl v1 := by
  intro n
  induction n with
  | zero => intro M tl v1 cM ct cv1 hM ht hv1 h; exact Bool.noConfusion h
  | succ n ih =>
    intro M tl v1 cM ct cv1 hM ht hv1 h
    unfold wX11_keepDraft_173
    refine e_ite (c_le (rfl : (6 : Int32) = nI 6) hv1) h (fun h => ?_) (fun h => ?_)
    · refine e_and (k_in (rfl : (0 : Int32) = nI 0) (r_al (rfl : (83 : Nat) = 83))) h (fun h => ?_)
      refine e_wr h hM (rfl : (83 : Nat) = 83) (r_nat (rfl : (0 : Int32) = nI 0)) (r_b1 (vp_nar .boolean) (rfl : (0 : Int32) = nI 0)) (fun M2 cM2 hM2 h => ?_)
      refine e_and (k_in (rfl : (1 : Int32) = nI 1) (r_al (rfl : (83 : Nat) = 83))) h (fun h => ?_)
      refine e_wr h hM2 (rfl : (83 : Nat) = 83) (r_nat (rfl : (1 : Int32) = nI 1)) (r_b1 (vp_nar .boolean) (rfl : (0 : Int32) = nI 0)) (fun M4 cM4 hM4 h => ?_)
      exact hq _ _ _ _ hM4 ht h
    · refine e_and (k_in hv1 (r_al (rfl : (95 : Nat) = 95))) h (fun h => ?_)
      refine e_and (k_in hv1 (r_al (rfl : (88 : Nat) = 88))) h (fun h => ?_)
      refine e_wr h hM (rfl : (88 : Nat) = 88) (r_nat hv1) (r_rd hM (rfl : (95 : Nat) = 95) (r_nat hv1)) (fun M7 cM7 hM7 h => ?_)
      refine e_and (k_in hv1 (r_al (rfl : (95 : Nat) = 95))) h (fun h => ?_)
      refine e_wr h hM7 (rfl : (81 : Nat) = 81) (rfl : (11 : Nat) = 11) (r_or (r_rd hM7 (rfl : (81 : Nat) = 81) (rfl : (11 : Nat) = 11)) (r_b2 f_shl (r_and (r_b2 f_shr (r_rd hM7 (rfl : (81 : Nat) = 81) (rfl : (22 : Nat) = 22)) hv1) (rfl : (1 : Int32) = nI 1)) (r_rd hM7 (rfl : (95 : Nat) = 95) (r_nat hv1)))) (fun M9 cM9 hM9 h => ?_)
      exact ih _ _ _ _ _ _ hM9 ht (r_add hv1 (rfl : (1 : Int32) = nI 1)) h
noncomputable def eX11_keepDraft_89 (q : Nat → Nat → Bool) (n : Nat) : Nat → Nat → Nat → Bool :=
  @Nat.rec (fun _ => Nat → Nat → Nat → Bool) (fun _ _ _ => false) (fun _ ih cM ct cv1 => (@Bool.rec (fun _ => Bool) (@Bool.rec (fun _ => Bool) (@Bool.rec (fun _ => Bool) false (eX11_keepDraft_120 q ih cM ct cv1 cv1 (rd cM 92 (tN cv1))) (inN cv1 (alF 92))) (eX11_keepDraft_120 q ih cM ct cv1 cv1 (rd cM 81 15)) (eqN (sN cv1 (mN (b2 f_div cv1 6) 6)) 0)) (@Bool.rec (fun _ => Bool) false (@Bool.rec (fun _ => Bool) false (wrB (fun cM3 => (@Bool.rec (fun _ => Bool) false (@Bool.rec (fun _ => Bool) false (wrB (fun cM6 => (wrB (fun cM7 => (eX11_keepDraft_173 q  5000 cM7 ct 0)) cM6 81 11 (rd cM6 81 22))) cM3 87 (tN 1) (rd cM3 94 (tN 1))) (inN 1 (alF 87))) (inN 1 (alF 94)))) cM 87 (tN 0) (rd cM 94 (tN 0))) (inN 0 (alF 87))) (inN 0 (alF 94))) (leN 12 cv1))) n
set_option maxHeartbeats 4000000 in
set_option maxRecDepth 20000 in
theorem sX11_keepDraft_89 {post : MM → Int64 → Prop} {q : Nat → Nat → Bool} (hq : ∀ (M : MM) (tl : Int64) (cM ct : Nat), M = dM cM → tl = i64 ct → q cM ct = true → post M tl) : ∀ (n : Nat) (M : MM) (tl : Int64) (v1 : Int32) (cM ct cv1 : Nat), M = dM cM → tl = i64 ct → v1 = nI cv1 → eX11_keepDraft_89 q  n cM ct cv1 = true → wX11_keepDraft_89 post  n M tl v1 := by
  intro n
  induction n with
  | zero => intro M tl v1 cM ct cv1 hM ht hv1 h; exact Bool.noConfusion h
  | succ n ih =>
    intro M tl v1 cM ct cv1 hM ht hv1 h
    unfold wX11_keepDraft_89
    refine e_ite (c_le (rfl : (12 : Int32) = nI 12) hv1) h (fun h => ?_) (fun h => ?_)
    · refine e_and (k_in (rfl : (0 : Int32) = nI 0) (r_al (rfl : (94 : Nat) = 94))) h (fun h => ?_)
      refine e_and (k_in (rfl : (0 : Int32) = nI 0) (r_al (rfl : (87 : Nat) = 87))) h (fun h => ?_)
      refine e_wr h hM (rfl : (87 : Nat) = 87) (r_nat (rfl : (0 : Int32) = nI 0)) (r_rd hM (rfl : (94 : Nat) = 94) (r_nat (rfl : (0 : Int32) = nI 0))) (fun M3 cM3 hM3 h => ?_)
      refine e_and (k_in (rfl : (1 : Int32) = nI 1) (r_al (rfl : (94 : Nat) = 94))) h (fun h => ?_)
      refine e_and (k_in (rfl : (1 : Int32) = nI 1) (r_al (rfl : (87 : Nat) = 87))) h (fun h => ?_)
      refine e_wr h hM3 (rfl : (87 : Nat) = 87) (r_nat (rfl : (1 : Int32) = nI 1)) (r_rd hM3 (rfl : (94 : Nat) = 94) (r_nat (rfl : (1 : Int32) = nI 1))) (fun M6 cM6 hM6 h => ?_)
      refine e_wr h hM6 (rfl : (81 : Nat) = 81) (rfl : (11 : Nat) = 11) (r_rd hM6 (rfl : (81 : Nat) = 81) (rfl : (22 : Nat) = 22)) (fun M7 cM7 hM7 h => ?_)
      exact ⟨5000, sX11_keepDraft_173 hq  5000 _ _ _ _ _ _ hM7 ht (rfl : (0 : Int32) = nI 0) h⟩
    · refine e_ite (c_eq (r_sub hv1 (r_mul (r_b2 f_div hv1 (rfl : (6 : Int32) = nI 6)) (rfl : (6 : Int32) = nI 6))) (rfl : (0 : Int32) = nI 0)) h (fun h => ?_) (fun h => ?_)
      · exact sX11_keepDraft_120 hq ih hM ht hv1 hv1 (r_rd hM (rfl : (81 : Nat) = 81) (rfl : (15 : Nat) = 15)) h
      · refine e_and (k_in hv1 (r_al (rfl : (92 : Nat) = 92))) h (fun h => ?_)
        exact sX11_keepDraft_120 hq ih hM ht hv1 hv1 (r_rd hM (rfl : (92 : Nat) = 92) (r_nat hv1)) h
noncomputable def eX11_keepDraft_52 (q : Nat → Nat → Bool) (n : Nat) : Nat → Nat → Nat → Bool :=
  @Nat.rec (fun _ => Nat → Nat → Nat → Bool) (fun _ _ _ => false) (fun _ ih cM ct cv1 => (@Bool.rec (fun _ => Bool) (@Bool.rec (fun _ => Bool) false (@Bool.rec (fun _ => Bool) false (wrB (fun cM3 => (@Bool.rec (fun _ => Bool) false (@Bool.rec (fun _ => Bool) false (wrB (fun cM6 => (ih cM6 ct (aN cv1 1))) cM3 89 (tN cv1) (rd cM3 96 (tN cv1))) (inN cv1 (alF 89))) (inN cv1 (alF 96)))) cM 84 (tN cv1) (rd cM 91 (tN cv1))) (inN cv1 (alF 84))) (inN cv1 (alF 91))) (eX11_keepDraft_89 q  5000 cM ct 0) (leN 4 cv1))) n
set_option maxHeartbeats 4000000 in
set_option maxRecDepth 20000 in
theorem sX11_keepDraft_52 {post : MM → Int64 → Prop} {q : Nat → Nat → Bool} (hq : ∀ (M : MM) (tl : Int64) (cM ct : Nat), M = dM cM → tl = i64 ct → q cM ct = true → post M tl) : ∀ (n : Nat) (M : MM) (tl : Int64) (v1 : Int32) (cM ct cv1 : Nat), M = dM cM → tl = i64 ct → v1 = nI cv1 → eX11_keepDraft_52 q  n cM ct cv1 = true → wX11_keepDraft_52 post  n M tl v1 := by
  intro n
  induction n with
  | zero => intro M tl v1 cM ct cv1 hM ht hv1 h; exact Bool.noConfusion h
  | succ n ih =>
    intro M tl v1 cM ct cv1 hM ht hv1 h
    unfold wX11_keepDraft_52
    refine e_ite (c_le (rfl : (4 : Int32) = nI 4) hv1) h (fun h => ?_) (fun h => ?_)
    · exact ⟨5000, sX11_keepDraft_89 hq  5000 _ _ _ _ _ _ hM ht (rfl : (0 : Int32) = nI 0) h⟩
    · refine e_and (k_in hv1 (r_al (rfl : (91 : Nat) = 91))) h (fun h => ?_)
      refine e_and (k_in hv1 (r_al (rfl : (84 : Nat) = 84))) h (fun h => ?_)
      refine e_wr h hM (rfl : (84 : Nat) = 84) (r_nat hv1) (r_rd hM (rfl : (91 : Nat) = 91) (r_nat hv1)) (fun M3 cM3 hM3 h => ?_)
      refine e_and (k_in hv1 (r_al (rfl : (96 : Nat) = 96))) h (fun h => ?_)
      refine e_and (k_in hv1 (r_al (rfl : (89 : Nat) = 89))) h (fun h => ?_)
      refine e_wr h hM3 (rfl : (89 : Nat) = 89) (r_nat hv1) (r_rd hM3 (rfl : (96 : Nat) = 96) (r_nat hv1)) (fun M6 cM6 hM6 h => ?_)
      exact ih _ _ _ _ _ _ hM6 ht (r_add hv1 (rfl : (1 : Int32) = nI 1)) h
noncomputable def eX11_keepDraft_2 (q : Nat → Nat → Bool) (n : Nat) : Nat → Nat → Nat → Bool :=
  @Nat.rec (fun _ => Nat → Nat → Nat → Bool) (fun _ _ _ => false) (fun _ ih cM ct cv1 => (@Bool.rec (fun _ => Bool) (@Bool.rec (fun _ => Bool) false (@Bool.rec (fun _ => Bool) false (wrB (fun cM6 => (ih cM6 ct (aN cv1 1))) cM 82 (tN cv1) (rd cM 90 (tN cv1))) (inN cv1 (alF 82))) (inN cv1 (alF 90))) (wrB (fun cM1 => (wrB (fun cM2 => (wrB (fun cM3 => (eX11_keepDraft_52 q  5000 cM3 ct 0)) cM2 81 4 (rd cM2 81 15))) cM1 81 3 (rd cM1 81 14))) cM 81 2 (rd cM 81 13)) (leN 127 cv1))) n
set_option maxHeartbeats 4000000 in
set_option maxRecDepth 20000 in
theorem sX11_keepDraft_2 {post : MM → Int64 → Prop} {q : Nat → Nat → Bool} (hq : ∀ (M : MM) (tl : Int64) (cM ct : Nat), M = dM cM → tl = i64 ct → q cM ct = true → post M tl) : ∀ (n : Nat) (M : MM) (tl : Int64) (v1 : Int32) (cM ct cv1 : Nat), M = dM cM → tl = i64 ct → v1 = nI cv1 → eX11_keepDraft_2 q  n cM ct cv1 = true → wX11_keepDraft_2 post  n M tl v1 := by
  intro n
  induction n with
  | zero => intro M tl v1 cM ct cv1 hM ht hv1 h; exact Bool.noConfusion h
  | succ n ih =>
    intro M tl v1 cM ct cv1 hM ht hv1 h
    unfold wX11_keepDraft_2
    refine e_ite (c_le (rfl : (127 : Int32) = nI 127) hv1) h (fun h => ?_) (fun h => ?_)
    · refine e_wr h hM (rfl : (81 : Nat) = 81) (rfl : (2 : Nat) = 2) (r_rd hM (rfl : (81 : Nat) = 81) (rfl : (13 : Nat) = 13)) (fun M1 cM1 hM1 h => ?_)
      refine e_wr h hM1 (rfl : (81 : Nat) = 81) (rfl : (3 : Nat) = 3) (r_rd hM1 (rfl : (81 : Nat) = 81) (rfl : (14 : Nat) = 14)) (fun M2 cM2 hM2 h => ?_)
      refine e_wr h hM2 (rfl : (81 : Nat) = 81) (rfl : (4 : Nat) = 4) (r_rd hM2 (rfl : (81 : Nat) = 81) (rfl : (15 : Nat) = 15)) (fun M3 cM3 hM3 h => ?_)
      exact ⟨5000, sX11_keepDraft_52 hq  5000 _ _ _ _ _ _ hM3 ht (rfl : (0 : Int32) = nI 0) h⟩
    · refine e_and (k_in hv1 (r_al (rfl : (90 : Nat) = 90))) h (fun h => ?_)
      refine e_and (k_in hv1 (r_al (rfl : (82 : Nat) = 82))) h (fun h => ?_)
      refine e_wr h hM (rfl : (82 : Nat) = 82) (r_nat hv1) (r_rd hM (rfl : (90 : Nat) = 90) (r_nat hv1)) (fun M6 cM6 hM6 h => ?_)
      exact ih _ _ _ _ _ _ hM6 ht (r_add hv1 (rfl : (1 : Int32) = nI 1)) h
noncomputable def epX11_keepDraft (q : Nat → Nat → Bool) (cM ct  : Nat) : Bool :=
  (eX11_keepDraft_2 q  5000 cM ct 0)
set_option maxHeartbeats 4000000 in
set_option maxRecDepth 20000 in
theorem spX11_keepDraft {post : MM → Int64 → Prop} {q : Nat → Nat → Bool} (hq : ∀ (M : MM) (tl : Int64) (cM ct : Nat), M = dM cM → tl = i64 ct → q cM ct = true → post M tl) {M : MM} {tl : Int64} {cM ct  : Nat} (hM : M = dM cM) (ht : tl = i64 ct)  (h : epX11_keepDraft q  cM ct  = true) : wpX11_keepDraft post  M tl  := by
  unfold wpX11_keepDraft
  exact ⟨5000, sX11_keepDraft_2 hq  5000 _ _ _ _ _ _ hM ht (rfl : (0 : Int32) = nI 0) h⟩
noncomputable def eX11_feed_19 (q : Nat → Nat → Nat → Bool) (n : Nat) : Nat → Nat → Nat → Nat → Bool :=
  @Nat.rec (fun _ => Nat → Nat → Nat → Nat → Bool) (fun _ _ _ _ => false) (fun _ ih cM ct cv1 cv3 => (@Bool.rec (fun _ => Bool) (@Bool.rec (fun _ => Bool) false (wrB (fun cM2 => (wrB (fun cM3 => (ih cM3 ct cv1 (aN cv3 4294967288))) cM2 81 31 (aN (rd cM2 81 31) 1))) cM 97 (tN (rd cM 81 31)) (tr32 (b64 f_land (b64i f_lshr cv1 cv3) 255))) (inN (rd cM 81 31) (alF 97))) (q (rd cM 81 31) cM ct) (ltN cv3 0))) n
set_option maxHeartbeats 4000000 in
set_option maxRecDepth 20000 in
theorem sX11_feed_19 {post : Int32 → MM → Int64 → Prop} {q : Nat → Nat → Nat → Bool} (hq : ∀ (r : Int32) (M : MM) (tl : Int64) (cr cM ct : Nat), r = nI cr → M = dM cM → tl = i64 ct → q cr cM ct = true → post r M tl) : ∀ (n : Nat) (M : MM) (tl : Int64) (v1 : Int64) (v3 : Int32) (cM ct cv1 cv3 : Nat), M = dM cM → tl = i64 ct → v1 = i64 cv1 → v3 = nI cv3 → eX11_feed_19 q  n cM ct cv1 cv3 = true → wX11_feed_19 post  n M tl v1 v3 := by
  intro n
  induction n with
  | zero => intro M tl v1 v3 cM ct cv1 cv3 hM ht hv1 hv3 h; exact Bool.noConfusion h
  | succ n ih =>
    intro M tl v1 v3 cM ct cv1 cv3 hM ht hv1 hv3 h
    unfold wX11_feed_19
    refine e_ite (c_lt hv3 (rfl : (0 : Int32) = nI 0)) h (fun h => ?_) (fun h => ?_)
    · exact hq _ _ _ _ _ _ (r_rd hM (rfl : (81 : Nat) = 81) (rfl : (31 : Nat) = 31)) hM ht h
    · refine e_and (k_in (r_rd hM (rfl : (81 : Nat) = 81) (rfl : (31 : Nat) = 31)) (r_al (rfl : (97 : Nat) = 97))) h (fun h => ?_)
      refine e_wr h hM (rfl : (97 : Nat) = 97) (r_nat (r_rd hM (rfl : (81 : Nat) = 81) (rfl : (31 : Nat) = 31))) (r_tr (r_b64 f_land (r_b64i f_lshr hv1 hv3) (rfl : (255 : Int64) = i64 255))) (fun M2 cM2 hM2 h => ?_)
      refine e_wr h hM2 (rfl : (81 : Nat) = 81) (rfl : (31 : Nat) = 31) (r_add (r_rd hM2 (rfl : (81 : Nat) = 81) (rfl : (31 : Nat) = 31)) (rfl : (1 : Int32) = nI 1)) (fun M3 cM3 hM3 h => ?_)
      exact ih _ _ _ _ _ _ _ _ hM3 ht hv1 (r_add hv3 lm8) h
noncomputable def epX11_feed (q : Nat → Nat → Nat → Bool) (cM ct cv1 : Nat) : Bool :=
  (@Bool.rec (fun _ => Bool) (q 4294967293 cM ct) (eX11_feed_19 q  5000 cM ct cv1 56) (leN (aN (rd cM 81 31) 8) 400))
set_option maxHeartbeats 4000000 in
set_option maxRecDepth 20000 in
theorem spX11_feed {post : Int32 → MM → Int64 → Prop} {q : Nat → Nat → Nat → Bool} (hq : ∀ (r : Int32) (M : MM) (tl : Int64) (cr cM ct : Nat), r = nI cr → M = dM cM → tl = i64 ct → q cr cM ct = true → post r M tl) {M : MM} {tl : Int64} {v1 : Int64} {cM ct cv1 : Nat} (hM : M = dM cM) (ht : tl = i64 ct) (hv1 : v1 = i64 cv1) (h : epX11_feed q  cM ct cv1 = true) : wpX11_feed post  M tl v1 := by
  unfold wpX11_feed
  refine e_ite (c_le (r_add (r_rd hM (rfl : (81 : Nat) = 81) (rfl : (31 : Nat) = 31)) (rfl : (8 : Int32) = nI 8)) (rfl : (400 : Int32) = nI 400)) h (fun h => ?_) (fun h => ?_)
  · exact ⟨5000, sX11_feed_19 hq  5000 _ _ _ _ _ _ _ _ hM ht hv1 (rfl : (56 : Int32) = nI 56) h⟩
  · exact hq _ _ _ _ _ _ lm3 hM ht h
noncomputable def epX11_end (q : Nat → Nat → Nat → Bool) (cM ct cv1 : Nat) : Bool :=
  (epX11_in (fun cr3 cM1 ct2 => (@Bool.rec (fun _ => Bool) (wrB (fun cM4 => (q (rd cM1 81 31) cM4 ct2)) cM1 81 31 cv1) (q 4294967295 cM1 ct2) (eqN cr3 0))) cM ct (xN cv1) 0 (xN (rd cM 81 31)))
set_option maxHeartbeats 4000000 in
set_option maxRecDepth 20000 in
theorem spX11_end {post : Int32 → MM → Int64 → Prop} {q : Nat → Nat → Nat → Bool} (hq : ∀ (r : Int32) (M : MM) (tl : Int64) (cr cM ct : Nat), r = nI cr → M = dM cM → tl = i64 ct → q cr cM ct = true → post r M tl) {M : MM} {tl : Int64} {v1 : Int32} {cM ct cv1 : Nat} (hM : M = dM cM) (ht : tl = i64 ct) (hv1 : v1 = nI cv1) (h : epX11_end q  cM ct cv1 = true) : wpX11_end post  M tl v1 := by
  unfold wpX11_end
  refine spX11_in (fun r3 M1 t2 cr3 cM1 ct2 hr3 hM1 ht2 h => ?_) hM ht (r_ext hv1) (rfl : (0 : Int64) = i64 0) (r_ext (r_rd hM (rfl : (81 : Nat) = 81) (rfl : (31 : Nat) = 31))) h
  refine e_ite (c_eq hr3 (rfl : (0 : Int32) = nI 0)) h (fun h => ?_) (fun h => ?_)
  · exact hq _ _ _ _ _ _ lm1 hM1 ht2 h
  · refine e_wr h hM1 (rfl : (81 : Nat) = 81) (rfl : (31 : Nat) = 31) hv1 (fun M4 cM4 hM4 h => ?_)
    exact hq _ _ _ _ _ _ (r_rd hM1 (rfl : (81 : Nat) = 81) (rfl : (31 : Nat) = 31)) hM4 ht2 h
noncomputable def epX11_needs (q : Nat → Nat → Bool) (cM ct cv1 cv2 : Nat) : Bool :=
  (@Bool.rec (fun _ => Bool) (q cM ct) (@Bool.rec (fun _ => Bool) (q cM ct) (wrB (fun cM1 => (wrB (fun cM2 => (q cM2 ct)) cM1 81 37 (rd cM1 81 33))) cM 81 36 cv2) (eqN (rd cM 81 36) 0)) (eqN cv1 0))
set_option maxHeartbeats 4000000 in
set_option maxRecDepth 20000 in
theorem spX11_needs {post : MM → Int64 → Prop} {q : Nat → Nat → Bool} (hq : ∀ (M : MM) (tl : Int64) (cM ct : Nat), M = dM cM → tl = i64 ct → q cM ct = true → post M tl) {M : MM} {tl : Int64} {v1 : Int32} {v2 : Int32} {cM ct cv1 cv2 : Nat} (hM : M = dM cM) (ht : tl = i64 ct) (hv1 : v1 = nI cv1) (hv2 : v2 = nI cv2) (h : epX11_needs q  cM ct cv1 cv2 = true) : wpX11_needs post  M tl v1 v2 := by
  unfold wpX11_needs
  refine e_ite (c_eq hv1 (rfl : (0 : Int32) = nI 0)) h (fun h => ?_) (fun h => ?_)
  · refine e_ite (c_eq (r_rd hM (rfl : (81 : Nat) = 81) (rfl : (36 : Nat) = 36)) (rfl : (0 : Int32) = nI 0)) h (fun h => ?_) (fun h => ?_)
    · refine e_wr h hM (rfl : (81 : Nat) = 81) (rfl : (36 : Nat) = 36) hv2 (fun M1 cM1 hM1 h => ?_)
      refine e_wr h hM1 (rfl : (81 : Nat) = 81) (rfl : (37 : Nat) = 37) (r_rd hM1 (rfl : (81 : Nat) = 81) (rfl : (33 : Nat) = 33)) (fun M2 cM2 hM2 h => ?_)
      exact hq _ _ _ _ hM2 ht h
    · exact hq _ _ _ _ hM ht h
  · exact hq _ _ _ _ hM ht h
noncomputable def epX11_look (q : Nat → Nat → Nat → Bool) (cM ct cv1 : Nat) : Bool :=
  (@Bool.rec (fun _ => Bool) (@Bool.rec (fun _ => Bool) false (q (rd cM 97 (tN cv1)) cM ct) (inN cv1 (alF 97))) (q 4294967295 cM ct) (leN (rd cM 81 31) cv1))
set_option maxHeartbeats 4000000 in
set_option maxRecDepth 20000 in
theorem spX11_look {post : Int32 → MM → Int64 → Prop} {q : Nat → Nat → Nat → Bool} (hq : ∀ (r : Int32) (M : MM) (tl : Int64) (cr cM ct : Nat), r = nI cr → M = dM cM → tl = i64 ct → q cr cM ct = true → post r M tl) {M : MM} {tl : Int64} {v1 : Int32} {cM ct cv1 : Nat} (hM : M = dM cM) (ht : tl = i64 ct) (hv1 : v1 = nI cv1) (h : epX11_look q  cM ct cv1 = true) : wpX11_look post  M tl v1 := by
  unfold wpX11_look
  refine e_ite (c_le (r_rd hM (rfl : (81 : Nat) = 81) (rfl : (31 : Nat) = 31)) hv1) h (fun h => ?_) (fun h => ?_)
  · exact hq _ _ _ _ _ _ lm1 hM ht h
  · refine e_and (k_in hv1 (r_al (rfl : (97 : Nat) = 97))) h (fun h => ?_)
    exact hq _ _ _ _ _ _ (r_rd hM (rfl : (97 : Nat) = 97) (r_nat hv1)) hM ht h
noncomputable def epX11_is (q : Nat → Nat → Nat → Bool) (cM ct cv1 cv2 cv3 cv4 cv5 : Nat) : Bool :=
  (@Bool.rec (fun _ => Bool) (q 0 cM ct) (epX11_look (fun cr3 cM1 ct2 => (@Bool.rec (fun _ => Bool) (q 0 cM1 ct2) (epX11_look (fun cr6 cM4 ct5 => (@Bool.rec (fun _ => Bool) (q 0 cM4 ct5) (epX11_look (fun cr9 cM7 ct8 => (@Bool.rec (fun _ => Bool) (q 0 cM7 ct8) (epX11_look (fun cr12 cM10 ct11 => (@Bool.rec (fun _ => Bool) (q 0 cM10 ct11) (q 1 cM10 ct11) (eqN cr12 cv5))) cM7 ct8 (aN (rd cM7 81 33) 3)) (eqN cr9 cv4))) cM4 ct5 (aN (rd cM4 81 33) 2)) (eqN cr6 cv3))) cM1 ct2 (aN (rd cM1 81 33) 1)) (eqN cr3 cv2))) cM ct (rd cM 81 33)) (eqN (sN (rd cM 81 32) (rd cM 81 33)) cv1))
set_option maxHeartbeats 4000000 in
set_option maxRecDepth 20000 in
theorem spX11_is {post : Int32 → MM → Int64 → Prop} {q : Nat → Nat → Nat → Bool} (hq : ∀ (r : Int32) (M : MM) (tl : Int64) (cr cM ct : Nat), r = nI cr → M = dM cM → tl = i64 ct → q cr cM ct = true → post r M tl) {M : MM} {tl : Int64} {v1 : Int32} {v2 : Int32} {v3 : Int32} {v4 : Int32} {v5 : Int32} {cM ct cv1 cv2 cv3 cv4 cv5 : Nat} (hM : M = dM cM) (ht : tl = i64 ct) (hv1 : v1 = nI cv1) (hv2 : v2 = nI cv2) (hv3 : v3 = nI cv3) (hv4 : v4 = nI cv4) (hv5 : v5 = nI cv5) (h : epX11_is q  cM ct cv1 cv2 cv3 cv4 cv5 = true) : wpX11_is post  M tl v1 v2 v3 v4 v5 := by
  unfold wpX11_is
  refine e_ite (c_eq (r_sub (r_rd hM (rfl : (81 : Nat) = 81) (rfl : (32 : Nat) = 32)) (r_rd hM (rfl : (81 : Nat) = 81) (rfl : (33 : Nat) = 33))) hv1) h (fun h => ?_) (fun h => ?_)
  · refine spX11_look (fun r3 M1 t2 cr3 cM1 ct2 hr3 hM1 ht2 h => ?_) hM ht (r_rd hM (rfl : (81 : Nat) = 81) (rfl : (33 : Nat) = 33)) h
    refine e_ite (c_eq hr3 hv2) h (fun h => ?_) (fun h => ?_)
    · refine spX11_look (fun r6 M4 t5 cr6 cM4 ct5 hr6 hM4 ht5 h => ?_) hM1 ht2 (r_add (r_rd hM1 (rfl : (81 : Nat) = 81) (rfl : (33 : Nat) = 33)) (rfl : (1 : Int32) = nI 1)) h
      refine e_ite (c_eq hr6 hv3) h (fun h => ?_) (fun h => ?_)
      · refine spX11_look (fun r9 M7 t8 cr9 cM7 ct8 hr9 hM7 ht8 h => ?_) hM4 ht5 (r_add (r_rd hM4 (rfl : (81 : Nat) = 81) (rfl : (33 : Nat) = 33)) (rfl : (2 : Int32) = nI 2)) h
        refine e_ite (c_eq hr9 hv4) h (fun h => ?_) (fun h => ?_)
        · refine spX11_look (fun r12 M10 t11 cr12 cM10 ct11 hr12 hM10 ht11 h => ?_) hM7 ht8 (r_add (r_rd hM7 (rfl : (81 : Nat) = 81) (rfl : (33 : Nat) = 33)) (rfl : (3 : Int32) = nI 3)) h
          refine e_ite (c_eq hr12 hv5) h (fun h => ?_) (fun h => ?_)
          · exact hq _ _ _ _ _ _ (rfl : (1 : Int32) = nI 1) hM10 ht11 h
          · exact hq _ _ _ _ _ _ (rfl : (0 : Int32) = nI 0) hM10 ht11 h
        · exact hq _ _ _ _ _ _ (rfl : (0 : Int32) = nI 0) hM7 ht8 h
      · exact hq _ _ _ _ _ _ (rfl : (0 : Int32) = nI 0) hM4 ht5 h
    · exact hq _ _ _ _ _ _ (rfl : (0 : Int32) = nI 0) hM1 ht2 h
  · exact hq _ _ _ _ _ _ (rfl : (0 : Int32) = nI 0) hM ht h
noncomputable def eX11_ends_32 (q : Nat → Nat → Nat → Bool) (cM ct cv3 : Nat) : Bool :=
  (@Bool.rec (fun _ => Bool) (epX11_look (fun cr3 cM1 ct2 => (@Bool.rec (fun _ => Bool) (q 0 cM1 ct2) (q 1 cM1 ct2) (eqN cr3 cv3))) cM ct (aN (rd cM 81 33) 6)) (q 1 cM ct) (eqN cv3 0))
set_option maxHeartbeats 4000000 in
set_option maxRecDepth 20000 in
theorem sX11_ends_32 {post : Int32 → MM → Int64 → Prop} {q : Nat → Nat → Nat → Bool} (hq : ∀ (r : Int32) (M : MM) (tl : Int64) (cr cM ct : Nat), r = nI cr → M = dM cM → tl = i64 ct → q cr cM ct = true → post r M tl) {M : MM} {tl : Int64} {v3 : Int32} {cM ct cv3 : Nat} (hM : M = dM cM) (ht : tl = i64 ct) (hv3 : v3 = nI cv3) (h : eX11_ends_32 q  cM ct cv3 = true) : wX11_ends_32 post  M tl v3 := by
  unfold wX11_ends_32
  refine e_ite (c_eq hv3 (rfl : (0 : Int32) = nI 0)) h (fun h => ?_) (fun h => ?_)
  · exact hq _ _ _ _ _ _ (rfl : (1 : Int32) = nI 1) hM ht h
  · refine spX11_look (fun r3 M1 t2 cr3 cM1 ct2 hr3 hM1 ht2 h => ?_) hM ht (r_add (r_rd hM (rfl : (81 : Nat) = 81) (rfl : (33 : Nat) = 33)) (rfl : (6 : Int32) = nI 6)) h
    refine e_ite (c_eq hr3 hv3) h (fun h => ?_) (fun h => ?_)
    · exact hq _ _ _ _ _ _ (rfl : (1 : Int32) = nI 1) hM1 ht2 h
    · exact hq _ _ _ _ _ _ (rfl : (0 : Int32) = nI 0) hM1 ht2 h
noncomputable def epX11_ends (q : Nat → Nat → Nat → Bool) (cM ct cv1 cv2 cv3 : Nat) : Bool :=
  (epX11_look (fun cr3 cM1 ct2 => (@Bool.rec (fun _ => Bool) (q 0 cM1 ct2) (@Bool.rec (fun _ => Bool) (epX11_look (fun cr6 cM4 ct5 => (@Bool.rec (fun _ => Bool) (q 0 cM4 ct5) (eX11_ends_32 q  cM4 ct5 cv3) (eqN cr6 cv2))) cM1 ct2 (aN (rd cM1 81 33) 5)) (eX11_ends_32 q  cM1 ct2 cv3) (eqN cv2 0)) (eqN cr3 cv1))) cM ct (aN (rd cM 81 33) 4))
set_option maxHeartbeats 4000000 in
set_option maxRecDepth 20000 in
theorem spX11_ends {post : Int32 → MM → Int64 → Prop} {q : Nat → Nat → Nat → Bool} (hq : ∀ (r : Int32) (M : MM) (tl : Int64) (cr cM ct : Nat), r = nI cr → M = dM cM → tl = i64 ct → q cr cM ct = true → post r M tl) {M : MM} {tl : Int64} {v1 : Int32} {v2 : Int32} {v3 : Int32} {cM ct cv1 cv2 cv3 : Nat} (hM : M = dM cM) (ht : tl = i64 ct) (hv1 : v1 = nI cv1) (hv2 : v2 = nI cv2) (hv3 : v3 = nI cv3) (h : epX11_ends q  cM ct cv1 cv2 cv3 = true) : wpX11_ends post  M tl v1 v2 v3 := by
  unfold wpX11_ends
  refine spX11_look (fun r3 M1 t2 cr3 cM1 ct2 hr3 hM1 ht2 h => ?_) hM ht (r_add (r_rd hM (rfl : (81 : Nat) = 81) (rfl : (33 : Nat) = 33)) (rfl : (4 : Int32) = nI 4)) h
  refine e_ite (c_eq hr3 hv1) h (fun h => ?_) (fun h => ?_)
  · refine e_ite (c_eq hv2 (rfl : (0 : Int32) = nI 0)) h (fun h => ?_) (fun h => ?_)
    · exact sX11_ends_32 hq  hM1 ht2 hv3 h
    · refine spX11_look (fun r6 M4 t5 cr6 cM4 ct5 hr6 hM4 ht5 h => ?_) hM1 ht2 (r_add (r_rd hM1 (rfl : (81 : Nat) = 81) (rfl : (33 : Nat) = 33)) (rfl : (5 : Int32) = nI 5)) h
      refine e_ite (c_eq hr6 hv2) h (fun h => ?_) (fun h => ?_)
      · exact sX11_ends_32 hq  hM4 ht5 hv3 h
      · exact hq _ _ _ _ _ _ (rfl : (0 : Int32) = nI 0) hM4 ht5 h
  · exact hq _ _ _ _ _ _ (rfl : (0 : Int32) = nI 0) hM1 ht2 h
noncomputable def eX11_ruleNow_87 (q : Nat → Nat → Nat → Bool) (cM ct  : Nat) : Bool :=
  (epX11_is (fun cr3 cM1 ct2 => (@Bool.rec (fun _ => Bool) (q 14 cM1 ct2) (epX11_is (fun cr6 cM4 ct5 => (@Bool.rec (fun _ => Bool) (epX11_ends (fun cr9 cM7 ct8 => (@Bool.rec (fun _ => Bool) (q 15 cM7 ct8) (q 4294967292 cM7 ct8) (eqN cr9 0))) cM4 ct5 101 0 0) (q 4294967292 cM4 ct5) (eqN cr6 0))) cM1 ct2 5 116 97 115 116) (eqN cr3 0))) cM ct 4 99 111 115 116)
set_option maxHeartbeats 4000000 in
set_option maxRecDepth 20000 in
theorem sX11_ruleNow_87 {post : Int32 → MM → Int64 → Prop} {q : Nat → Nat → Nat → Bool} (hq : ∀ (r : Int32) (M : MM) (tl : Int64) (cr cM ct : Nat), r = nI cr → M = dM cM → tl = i64 ct → q cr cM ct = true → post r M tl) {M : MM} {tl : Int64} {cM ct  : Nat} (hM : M = dM cM) (ht : tl = i64 ct)  (h : eX11_ruleNow_87 q  cM ct  = true) : wX11_ruleNow_87 post  M tl  := by
  unfold wX11_ruleNow_87
  refine spX11_is (fun r3 M1 t2 cr3 cM1 ct2 hr3 hM1 ht2 h => ?_) hM ht (rfl : (4 : Int32) = nI 4) (rfl : (99 : Int32) = nI 99) (rfl : (111 : Int32) = nI 111) (rfl : (115 : Int32) = nI 115) (rfl : (116 : Int32) = nI 116) h
  refine e_ite (c_eq hr3 (rfl : (0 : Int32) = nI 0)) h (fun h => ?_) (fun h => ?_)
  · refine spX11_is (fun r6 M4 t5 cr6 cM4 ct5 hr6 hM4 ht5 h => ?_) hM1 ht2 (rfl : (5 : Int32) = nI 5) (rfl : (116 : Int32) = nI 116) (rfl : (97 : Int32) = nI 97) (rfl : (115 : Int32) = nI 115) (rfl : (116 : Int32) = nI 116) h
    refine e_ite (c_eq hr6 (rfl : (0 : Int32) = nI 0)) h (fun h => ?_) (fun h => ?_)
    · exact hq _ _ _ _ _ _ lm4 hM4 ht5 h
    · refine spX11_ends (fun r9 M7 t8 cr9 cM7 ct8 hr9 hM7 ht8 h => ?_) hM4 ht5 (rfl : (101 : Int32) = nI 101) (rfl : (0 : Int32) = nI 0) (rfl : (0 : Int32) = nI 0) h
      refine e_ite (c_eq hr9 (rfl : (0 : Int32) = nI 0)) h (fun h => ?_) (fun h => ?_)
      · exact hq _ _ _ _ _ _ lm4 hM7 ht8 h
      · exact hq _ _ _ _ _ _ (rfl : (15 : Int32) = nI 15) hM7 ht8 h
  · exact hq _ _ _ _ _ _ (rfl : (14 : Int32) = nI 14) hM1 ht2 h
noncomputable def epX11_ruleNow (q : Nat → Nat → Nat → Bool) (cM ct  : Nat) : Bool :=
  (epX11_is (fun cr3 cM1 ct2 => (@Bool.rec (fun _ => Bool) (q 10 cM1 ct2) (epX11_is (fun cr6 cM4 ct5 => (@Bool.rec (fun _ => Bool) (q 11 cM4 ct5) (epX11_is (fun cr9 cM7 ct8 => (@Bool.rec (fun _ => Bool) (q 12 cM7 ct8) (epX11_is (fun cr12 cM10 ct11 => (@Bool.rec (fun _ => Bool) (epX11_ends (fun cr15 cM13 ct14 => (@Bool.rec (fun _ => Bool) (q 13 cM13 ct14) (eX11_ruleNow_87 q  cM13 ct14) (eqN cr15 0))) cM10 ct11 101 0 0) (eX11_ruleNow_87 q  cM10 ct11) (eqN cr12 0))) cM7 ct8 5 112 114 105 99) (eqN cr9 0))) cM4 ct5 4 112 117 108 108) (eqN cr6 0))) cM1 ct2 4 98 101 110 100) (eqN cr3 0))) cM ct 4 108 111 116 115)
set_option maxHeartbeats 4000000 in
set_option maxRecDepth 20000 in
theorem spX11_ruleNow {post : Int32 → MM → Int64 → Prop} {q : Nat → Nat → Nat → Bool} (hq : ∀ (r : Int32) (M : MM) (tl : Int64) (cr cM ct : Nat), r = nI cr → M = dM cM → tl = i64 ct → q cr cM ct = true → post r M tl) {M : MM} {tl : Int64} {cM ct  : Nat} (hM : M = dM cM) (ht : tl = i64 ct)  (h : epX11_ruleNow q  cM ct  = true) : wpX11_ruleNow post  M tl  := by
  unfold wpX11_ruleNow
  refine spX11_is (fun r3 M1 t2 cr3 cM1 ct2 hr3 hM1 ht2 h => ?_) hM ht (rfl : (4 : Int32) = nI 4) (rfl : (108 : Int32) = nI 108) (rfl : (111 : Int32) = nI 111) (rfl : (116 : Int32) = nI 116) (rfl : (115 : Int32) = nI 115) h
  refine e_ite (c_eq hr3 (rfl : (0 : Int32) = nI 0)) h (fun h => ?_) (fun h => ?_)
  · refine spX11_is (fun r6 M4 t5 cr6 cM4 ct5 hr6 hM4 ht5 h => ?_) hM1 ht2 (rfl : (4 : Int32) = nI 4) (rfl : (98 : Int32) = nI 98) (rfl : (101 : Int32) = nI 101) (rfl : (110 : Int32) = nI 110) (rfl : (100 : Int32) = nI 100) h
    refine e_ite (c_eq hr6 (rfl : (0 : Int32) = nI 0)) h (fun h => ?_) (fun h => ?_)
    · refine spX11_is (fun r9 M7 t8 cr9 cM7 ct8 hr9 hM7 ht8 h => ?_) hM4 ht5 (rfl : (4 : Int32) = nI 4) (rfl : (112 : Int32) = nI 112) (rfl : (117 : Int32) = nI 117) (rfl : (108 : Int32) = nI 108) (rfl : (108 : Int32) = nI 108) h
      refine e_ite (c_eq hr9 (rfl : (0 : Int32) = nI 0)) h (fun h => ?_) (fun h => ?_)
      · refine spX11_is (fun r12 M10 t11 cr12 cM10 ct11 hr12 hM10 ht11 h => ?_) hM7 ht8 (rfl : (5 : Int32) = nI 5) (rfl : (112 : Int32) = nI 112) (rfl : (114 : Int32) = nI 114) (rfl : (105 : Int32) = nI 105) (rfl : (99 : Int32) = nI 99) h
        refine e_ite (c_eq hr12 (rfl : (0 : Int32) = nI 0)) h (fun h => ?_) (fun h => ?_)
        · exact sX11_ruleNow_87 hq  hM10 ht11 h
        · refine spX11_ends (fun r15 M13 t14 cr15 cM13 ct14 hr15 hM13 ht14 h => ?_) hM10 ht11 (rfl : (101 : Int32) = nI 101) (rfl : (0 : Int32) = nI 0) (rfl : (0 : Int32) = nI 0) h
          refine e_ite (c_eq hr15 (rfl : (0 : Int32) = nI 0)) h (fun h => ?_) (fun h => ?_)
          · exact sX11_ruleNow_87 hq  hM13 ht14 h
          · exact hq _ _ _ _ _ _ (rfl : (13 : Int32) = nI 13) hM13 ht14 h
      · exact hq _ _ _ _ _ _ (rfl : (12 : Int32) = nI 12) hM7 ht8 h
    · exact hq _ _ _ _ _ _ (rfl : (11 : Int32) = nI 11) hM4 ht5 h
  · exact hq _ _ _ _ _ _ (rfl : (10 : Int32) = nI 10) hM1 ht2 h
noncomputable def eX11_lineNow_128 (q : Nat → Nat → Nat → Bool) (cM ct  : Nat) : Bool :=
  (epX11_is (fun cr3 cM1 ct2 => (@Bool.rec (fun _ => Bool) (q 21 cM1 ct2) (epX11_ruleNow (fun cr6 cM4 ct5 => (q cr6 cM4 ct5)) cM1 ct2) (eqN cr3 0))) cM ct 4 119 111 114 107)
set_option maxHeartbeats 4000000 in
set_option maxRecDepth 20000 in
theorem sX11_lineNow_128 {post : Int32 → MM → Int64 → Prop} {q : Nat → Nat → Nat → Bool} (hq : ∀ (r : Int32) (M : MM) (tl : Int64) (cr cM ct : Nat), r = nI cr → M = dM cM → tl = i64 ct → q cr cM ct = true → post r M tl) {M : MM} {tl : Int64} {cM ct  : Nat} (hM : M = dM cM) (ht : tl = i64 ct)  (h : eX11_lineNow_128 q  cM ct  = true) : wX11_lineNow_128 post  M tl  := by
  unfold wX11_lineNow_128
  refine spX11_is (fun r3 M1 t2 cr3 cM1 ct2 hr3 hM1 ht2 h => ?_) hM ht (rfl : (4 : Int32) = nI 4) (rfl : (119 : Int32) = nI 119) (rfl : (111 : Int32) = nI 111) (rfl : (114 : Int32) = nI 114) (rfl : (107 : Int32) = nI 107) h
  refine e_ite (c_eq hr3 (rfl : (0 : Int32) = nI 0)) h (fun h => ?_) (fun h => ?_)
  · refine spX11_ruleNow (fun r6 M4 t5 cr6 cM4 ct5 hr6 hM4 ht5 h => ?_) hM1 ht2 h
    exact hq _ _ _ _ _ _ hr6 hM4 ht5 h
  · exact hq _ _ _ _ _ _ (rfl : (21 : Int32) = nI 21) hM1 ht2 h
noncomputable def eX11_lineNow_98 (q : Nat → Nat → Nat → Bool) (cM ct  : Nat) : Bool :=
  (epX11_is (fun cr3 cM1 ct2 => (@Bool.rec (fun _ => Bool) (epX11_ends (fun cr6 cM4 ct5 => (@Bool.rec (fun _ => Bool) (q 20 cM4 ct5) (eX11_lineNow_128 q  cM4 ct5) (eqN cr6 0))) cM1 ct2 103 0 0) (eX11_lineNow_128 q  cM1 ct2) (eqN cr3 0))) cM ct 5 116 104 105 110)
set_option maxHeartbeats 4000000 in
set_option maxRecDepth 20000 in
theorem sX11_lineNow_98 {post : Int32 → MM → Int64 → Prop} {q : Nat → Nat → Nat → Bool} (hq : ∀ (r : Int32) (M : MM) (tl : Int64) (cr cM ct : Nat), r = nI cr → M = dM cM → tl = i64 ct → q cr cM ct = true → post r M tl) {M : MM} {tl : Int64} {cM ct  : Nat} (hM : M = dM cM) (ht : tl = i64 ct)  (h : eX11_lineNow_98 q  cM ct  = true) : wX11_lineNow_98 post  M tl  := by
  unfold wX11_lineNow_98
  refine spX11_is (fun r3 M1 t2 cr3 cM1 ct2 hr3 hM1 ht2 h => ?_) hM ht (rfl : (5 : Int32) = nI 5) (rfl : (116 : Int32) = nI 116) (rfl : (104 : Int32) = nI 104) (rfl : (105 : Int32) = nI 105) (rfl : (110 : Int32) = nI 110) h
  refine e_ite (c_eq hr3 (rfl : (0 : Int32) = nI 0)) h (fun h => ?_) (fun h => ?_)
  · exact sX11_lineNow_128 hq  hM1 ht2 h
  · refine spX11_ends (fun r6 M4 t5 cr6 cM4 ct5 hr6 hM4 ht5 h => ?_) hM1 ht2 (rfl : (103 : Int32) = nI 103) (rfl : (0 : Int32) = nI 0) (rfl : (0 : Int32) = nI 0) h
    refine e_ite (c_eq hr6 (rfl : (0 : Int32) = nI 0)) h (fun h => ?_) (fun h => ?_)
    · exact sX11_lineNow_128 hq  hM4 ht5 h
    · exact hq _ _ _ _ _ _ (rfl : (20 : Int32) = nI 20) hM4 ht5 h
noncomputable def eX11_lineNow_68 (q : Nat → Nat → Nat → Bool) (cM ct  : Nat) : Bool :=
  (epX11_is (fun cr3 cM1 ct2 => (@Bool.rec (fun _ => Bool) (epX11_ends (fun cr6 cM4 ct5 => (@Bool.rec (fun _ => Bool) (q 19 cM4 ct5) (eX11_lineNow_98 q  cM4 ct5) (eqN cr6 0))) cM1 ct2 116 0 0) (eX11_lineNow_98 q  cM1 ct2) (eqN cr3 0))) cM ct 5 114 105 103 104)
set_option maxHeartbeats 4000000 in
set_option maxRecDepth 20000 in
theorem sX11_lineNow_68 {post : Int32 → MM → Int64 → Prop} {q : Nat → Nat → Nat → Bool} (hq : ∀ (r : Int32) (M : MM) (tl : Int64) (cr cM ct : Nat), r = nI cr → M = dM cM → tl = i64 ct → q cr cM ct = true → post r M tl) {M : MM} {tl : Int64} {cM ct  : Nat} (hM : M = dM cM) (ht : tl = i64 ct)  (h : eX11_lineNow_68 q  cM ct  = true) : wX11_lineNow_68 post  M tl  := by
  unfold wX11_lineNow_68
  refine spX11_is (fun r3 M1 t2 cr3 cM1 ct2 hr3 hM1 ht2 h => ?_) hM ht (rfl : (5 : Int32) = nI 5) (rfl : (114 : Int32) = nI 114) (rfl : (105 : Int32) = nI 105) (rfl : (103 : Int32) = nI 103) (rfl : (104 : Int32) = nI 104) h
  refine e_ite (c_eq hr3 (rfl : (0 : Int32) = nI 0)) h (fun h => ?_) (fun h => ?_)
  · exact sX11_lineNow_98 hq  hM1 ht2 h
  · refine spX11_ends (fun r6 M4 t5 cr6 cM4 ct5 hr6 hM4 ht5 h => ?_) hM1 ht2 (rfl : (116 : Int32) = nI 116) (rfl : (0 : Int32) = nI 0) (rfl : (0 : Int32) = nI 0) h
    refine e_ite (c_eq hr6 (rfl : (0 : Int32) = nI 0)) h (fun h => ?_) (fun h => ?_)
    · exact sX11_lineNow_98 hq  hM4 ht5 h
    · exact hq _ _ _ _ _ _ (rfl : (19 : Int32) = nI 19) hM4 ht5 h
noncomputable def epX11_lineNow (q : Nat → Nat → Nat → Bool) (cM ct  : Nat) : Bool :=
  (epX11_is (fun cr3 cM1 ct2 => (@Bool.rec (fun _ => Bool) (q 16 cM1 ct2) (epX11_is (fun cr6 cM4 ct5 => (@Bool.rec (fun _ => Bool) (q 17 cM4 ct5) (epX11_is (fun cr9 cM7 ct8 => (@Bool.rec (fun _ => Bool) (epX11_ends (fun cr12 cM10 ct11 => (@Bool.rec (fun _ => Bool) (q 18 cM10 ct11) (eX11_lineNow_68 q  cM10 ct11) (eqN cr12 0))) cM7 ct8 116 0 0) (eX11_lineNow_68 q  cM7 ct8) (eqN cr9 0))) cM4 ct5 5 112 97 105 110) (eqN cr6 0))) cM1 ct2 4 116 119 105 110) (eqN cr3 0))) cM ct 4 108 97 99 107)
set_option maxHeartbeats 4000000 in
set_option maxRecDepth 20000 in
theorem spX11_lineNow {post : Int32 → MM → Int64 → Prop} {q : Nat → Nat → Nat → Bool} (hq : ∀ (r : Int32) (M : MM) (tl : Int64) (cr cM ct : Nat), r = nI cr → M = dM cM → tl = i64 ct → q cr cM ct = true → post r M tl) {M : MM} {tl : Int64} {cM ct  : Nat} (hM : M = dM cM) (ht : tl = i64 ct)  (h : epX11_lineNow q  cM ct  = true) : wpX11_lineNow post  M tl  := by
  unfold wpX11_lineNow
  refine spX11_is (fun r3 M1 t2 cr3 cM1 ct2 hr3 hM1 ht2 h => ?_) hM ht (rfl : (4 : Int32) = nI 4) (rfl : (108 : Int32) = nI 108) (rfl : (97 : Int32) = nI 97) (rfl : (99 : Int32) = nI 99) (rfl : (107 : Int32) = nI 107) h
  refine e_ite (c_eq hr3 (rfl : (0 : Int32) = nI 0)) h (fun h => ?_) (fun h => ?_)
  · refine spX11_is (fun r6 M4 t5 cr6 cM4 ct5 hr6 hM4 ht5 h => ?_) hM1 ht2 (rfl : (4 : Int32) = nI 4) (rfl : (116 : Int32) = nI 116) (rfl : (119 : Int32) = nI 119) (rfl : (105 : Int32) = nI 105) (rfl : (110 : Int32) = nI 110) h
    refine e_ite (c_eq hr6 (rfl : (0 : Int32) = nI 0)) h (fun h => ?_) (fun h => ?_)
    · refine spX11_is (fun r9 M7 t8 cr9 cM7 ct8 hr9 hM7 ht8 h => ?_) hM4 ht5 (rfl : (5 : Int32) = nI 5) (rfl : (112 : Int32) = nI 112) (rfl : (97 : Int32) = nI 97) (rfl : (105 : Int32) = nI 105) (rfl : (110 : Int32) = nI 110) h
      refine e_ite (c_eq hr9 (rfl : (0 : Int32) = nI 0)) h (fun h => ?_) (fun h => ?_)
      · exact sX11_lineNow_68 hq  hM7 ht8 h
      · refine spX11_ends (fun r12 M10 t11 cr12 cM10 ct11 hr12 hM10 ht11 h => ?_) hM7 ht8 (rfl : (116 : Int32) = nI 116) (rfl : (0 : Int32) = nI 0) (rfl : (0 : Int32) = nI 0) h
        refine e_ite (c_eq hr12 (rfl : (0 : Int32) = nI 0)) h (fun h => ?_) (fun h => ?_)
        · exact sX11_lineNow_68 hq  hM10 ht11 h
        · exact hq _ _ _ _ _ _ (rfl : (18 : Int32) = nI 18) hM10 ht11 h
    · exact hq _ _ _ _ _ _ (rfl : (17 : Int32) = nI 17) hM4 ht5 h
  · exact hq _ _ _ _ _ _ (rfl : (16 : Int32) = nI 16) hM1 ht2 h
noncomputable def eX11_kindNow_107 (q : Nat → Nat → Nat → Bool) (cM ct  : Nat) : Bool :=
  (epX11_is (fun cr3 cM1 ct2 => (@Bool.rec (fun _ => Bool) (epX11_ends (fun cr6 cM4 ct5 => (@Bool.rec (fun _ => Bool) (q 5 cM4 ct5) (q 4294967292 cM4 ct5) (eqN cr6 0))) cM1 ct2 110 101 0) (q 4294967292 cM1 ct2) (eqN cr3 0))) cM ct 6 115 104 114 105)
set_option maxHeartbeats 4000000 in
set_option maxRecDepth 20000 in
theorem sX11_kindNow_107 {post : Int32 → MM → Int64 → Prop} {q : Nat → Nat → Nat → Bool} (hq : ∀ (r : Int32) (M : MM) (tl : Int64) (cr cM ct : Nat), r = nI cr → M = dM cM → tl = i64 ct → q cr cM ct = true → post r M tl) {M : MM} {tl : Int64} {cM ct  : Nat} (hM : M = dM cM) (ht : tl = i64 ct)  (h : eX11_kindNow_107 q  cM ct  = true) : wX11_kindNow_107 post  M tl  := by
  unfold wX11_kindNow_107
  refine spX11_is (fun r3 M1 t2 cr3 cM1 ct2 hr3 hM1 ht2 h => ?_) hM ht (rfl : (6 : Int32) = nI 6) (rfl : (115 : Int32) = nI 115) (rfl : (104 : Int32) = nI 104) (rfl : (114 : Int32) = nI 114) (rfl : (105 : Int32) = nI 105) h
  refine e_ite (c_eq hr3 (rfl : (0 : Int32) = nI 0)) h (fun h => ?_) (fun h => ?_)
  · exact hq _ _ _ _ _ _ lm4 hM1 ht2 h
  · refine spX11_ends (fun r6 M4 t5 cr6 cM4 ct5 hr6 hM4 ht5 h => ?_) hM1 ht2 (rfl : (110 : Int32) = nI 110) (rfl : (101 : Int32) = nI 101) (rfl : (0 : Int32) = nI 0) h
    refine e_ite (c_eq hr6 (rfl : (0 : Int32) = nI 0)) h (fun h => ?_) (fun h => ?_)
    · exact hq _ _ _ _ _ _ lm4 hM4 ht5 h
    · exact hq _ _ _ _ _ _ (rfl : (5 : Int32) = nI 5) hM4 ht5 h
noncomputable def eX11_kindNow_60 (q : Nat → Nat → Nat → Bool) (cM ct  : Nat) : Bool :=
  (epX11_is (fun cr3 cM1 ct2 => (@Bool.rec (fun _ => Bool) (q 3 cM1 ct2) (epX11_is (fun cr6 cM4 ct5 => (@Bool.rec (fun _ => Bool) (epX11_ends (fun cr9 cM7 ct8 => (@Bool.rec (fun _ => Bool) (q 4 cM7 ct8) (eX11_kindNow_107 q  cM7 ct8) (eqN cr9 0))) cM4 ct5 114 0 0) (eX11_kindNow_107 q  cM4 ct5) (eqN cr6 0))) cM1 ct2 5 116 111 119 101) (eqN cr3 0))) cM ct 4 115 104 111 112)
set_option maxHeartbeats 4000000 in
set_option maxRecDepth 20000 in
theorem sX11_kindNow_60 {post : Int32 → MM → Int64 → Prop} {q : Nat → Nat → Nat → Bool} (hq : ∀ (r : Int32) (M : MM) (tl : Int64) (cr cM ct : Nat), r = nI cr → M = dM cM → tl = i64 ct → q cr cM ct = true → post r M tl) {M : MM} {tl : Int64} {cM ct  : Nat} (hM : M = dM cM) (ht : tl = i64 ct)  (h : eX11_kindNow_60 q  cM ct  = true) : wX11_kindNow_60 post  M tl  := by
  unfold wX11_kindNow_60
  refine spX11_is (fun r3 M1 t2 cr3 cM1 ct2 hr3 hM1 ht2 h => ?_) hM ht (rfl : (4 : Int32) = nI 4) (rfl : (115 : Int32) = nI 115) (rfl : (104 : Int32) = nI 104) (rfl : (111 : Int32) = nI 111) (rfl : (112 : Int32) = nI 112) h
  refine e_ite (c_eq hr3 (rfl : (0 : Int32) = nI 0)) h (fun h => ?_) (fun h => ?_)
  · refine spX11_is (fun r6 M4 t5 cr6 cM4 ct5 hr6 hM4 ht5 h => ?_) hM1 ht2 (rfl : (5 : Int32) = nI 5) (rfl : (116 : Int32) = nI 116) (rfl : (111 : Int32) = nI 111) (rfl : (119 : Int32) = nI 119) (rfl : (101 : Int32) = nI 101) h
    refine e_ite (c_eq hr6 (rfl : (0 : Int32) = nI 0)) h (fun h => ?_) (fun h => ?_)
    · exact sX11_kindNow_107 hq  hM4 ht5 h
    · refine spX11_ends (fun r9 M7 t8 cr9 cM7 ct8 hr9 hM7 ht8 h => ?_) hM4 ht5 (rfl : (114 : Int32) = nI 114) (rfl : (0 : Int32) = nI 0) (rfl : (0 : Int32) = nI 0) h
      refine e_ite (c_eq hr9 (rfl : (0 : Int32) = nI 0)) h (fun h => ?_) (fun h => ?_)
      · exact sX11_kindNow_107 hq  hM7 ht8 h
      · exact hq _ _ _ _ _ _ (rfl : (4 : Int32) = nI 4) hM7 ht8 h
  · exact hq _ _ _ _ _ _ (rfl : (3 : Int32) = nI 3) hM1 ht2 h
noncomputable def eX11_kindNow_29 (q : Nat → Nat → Nat → Bool) (cM ct  : Nat) : Bool :=
  (epX11_is (fun cr3 cM1 ct2 => (@Bool.rec (fun _ => Bool) (epX11_ends (fun cr6 cM4 ct5 => (@Bool.rec (fun _ => Bool) (q 2 cM4 ct5) (eX11_kindNow_60 q  cM4 ct5) (eqN cr6 0))) cM1 ct2 101 110 0) (eX11_kindNow_60 q  cM1 ct2) (eqN cr3 0))) cM ct 6 103 97 114 100)
set_option maxHeartbeats 4000000 in
set_option maxRecDepth 20000 in
theorem sX11_kindNow_29 {post : Int32 → MM → Int64 → Prop} {q : Nat → Nat → Nat → Bool} (hq : ∀ (r : Int32) (M : MM) (tl : Int64) (cr cM ct : Nat), r = nI cr → M = dM cM → tl = i64 ct → q cr cM ct = true → post r M tl) {M : MM} {tl : Int64} {cM ct  : Nat} (hM : M = dM cM) (ht : tl = i64 ct)  (h : eX11_kindNow_29 q  cM ct  = true) : wX11_kindNow_29 post  M tl  := by
  unfold wX11_kindNow_29
  refine spX11_is (fun r3 M1 t2 cr3 cM1 ct2 hr3 hM1 ht2 h => ?_) hM ht (rfl : (6 : Int32) = nI 6) (rfl : (103 : Int32) = nI 103) (rfl : (97 : Int32) = nI 97) (rfl : (114 : Int32) = nI 114) (rfl : (100 : Int32) = nI 100) h
  refine e_ite (c_eq hr3 (rfl : (0 : Int32) = nI 0)) h (fun h => ?_) (fun h => ?_)
  · exact sX11_kindNow_60 hq  hM1 ht2 h
  · refine spX11_ends (fun r6 M4 t5 cr6 cM4 ct5 hr6 hM4 ht5 h => ?_) hM1 ht2 (rfl : (101 : Int32) = nI 101) (rfl : (110 : Int32) = nI 110) (rfl : (0 : Int32) = nI 0) h
    refine e_ite (c_eq hr6 (rfl : (0 : Int32) = nI 0)) h (fun h => ?_) (fun h => ?_)
    · exact sX11_kindNow_60 hq  hM4 ht5 h
    · exact hq _ _ _ _ _ _ (rfl : (2 : Int32) = nI 2) hM4 ht5 h
noncomputable def epX11_kindNow (q : Nat → Nat → Nat → Bool) (cM ct  : Nat) : Bool :=
  (epX11_is (fun cr3 cM1 ct2 => (@Bool.rec (fun _ => Bool) (epX11_ends (fun cr6 cM4 ct5 => (@Bool.rec (fun _ => Bool) (q 1 cM4 ct5) (eX11_kindNow_29 q  cM4 ct5) (eqN cr6 0))) cM1 ct2 101 0 0) (eX11_kindNow_29 q  cM1 ct2) (eqN cr3 0))) cM ct 5 104 111 117 115)
set_option maxHeartbeats 4000000 in
set_option maxRecDepth 20000 in
theorem spX11_kindNow {post : Int32 → MM → Int64 → Prop} {q : Nat → Nat → Nat → Bool} (hq : ∀ (r : Int32) (M : MM) (tl : Int64) (cr cM ct : Nat), r = nI cr → M = dM cM → tl = i64 ct → q cr cM ct = true → post r M tl) {M : MM} {tl : Int64} {cM ct  : Nat} (hM : M = dM cM) (ht : tl = i64 ct)  (h : epX11_kindNow q  cM ct  = true) : wpX11_kindNow post  M tl  := by
  unfold wpX11_kindNow
  refine spX11_is (fun r3 M1 t2 cr3 cM1 ct2 hr3 hM1 ht2 h => ?_) hM ht (rfl : (5 : Int32) = nI 5) (rfl : (104 : Int32) = nI 104) (rfl : (111 : Int32) = nI 111) (rfl : (117 : Int32) = nI 117) (rfl : (115 : Int32) = nI 115) h
  refine e_ite (c_eq hr3 (rfl : (0 : Int32) = nI 0)) h (fun h => ?_) (fun h => ?_)
  · exact sX11_kindNow_29 hq  hM1 ht2 h
  · refine spX11_ends (fun r6 M4 t5 cr6 cM4 ct5 hr6 hM4 ht5 h => ?_) hM1 ht2 (rfl : (101 : Int32) = nI 101) (rfl : (0 : Int32) = nI 0) (rfl : (0 : Int32) = nI 0) h
    refine e_ite (c_eq hr6 (rfl : (0 : Int32) = nI 0)) h (fun h => ?_) (fun h => ?_)
    · exact sX11_kindNow_29 hq  hM4 ht5 h
    · exact hq _ _ _ _ _ _ (rfl : (1 : Int32) = nI 1) hM4 ht5 h
noncomputable def epX11_isNothing (q : Nat → Nat → Nat → Bool) (cM ct  : Nat) : Bool :=
  (epX11_is (fun cr3 cM1 ct2 => (@Bool.rec (fun _ => Bool) (epX11_ends (fun cr6 cM4 ct5 => (@Bool.rec (fun _ => Bool) (q 1 cM4 ct5) (q 0 cM4 ct5) (eqN cr6 0))) cM1 ct2 105 110 103) (q 0 cM1 ct2) (eqN cr3 0))) cM ct 7 110 111 116 104)
set_option maxHeartbeats 4000000 in
set_option maxRecDepth 20000 in
theorem spX11_isNothing {post : Int32 → MM → Int64 → Prop} {q : Nat → Nat → Nat → Bool} (hq : ∀ (r : Int32) (M : MM) (tl : Int64) (cr cM ct : Nat), r = nI cr → M = dM cM → tl = i64 ct → q cr cM ct = true → post r M tl) {M : MM} {tl : Int64} {cM ct  : Nat} (hM : M = dM cM) (ht : tl = i64 ct)  (h : epX11_isNothing q  cM ct  = true) : wpX11_isNothing post  M tl  := by
  unfold wpX11_isNothing
  refine spX11_is (fun r3 M1 t2 cr3 cM1 ct2 hr3 hM1 ht2 h => ?_) hM ht (rfl : (7 : Int32) = nI 7) (rfl : (110 : Int32) = nI 110) (rfl : (111 : Int32) = nI 111) (rfl : (116 : Int32) = nI 116) (rfl : (104 : Int32) = nI 104) h
  refine e_ite (c_eq hr3 (rfl : (0 : Int32) = nI 0)) h (fun h => ?_) (fun h => ?_)
  · exact hq _ _ _ _ _ _ (rfl : (0 : Int32) = nI 0) hM1 ht2 h
  · refine spX11_ends (fun r6 M4 t5 cr6 cM4 ct5 hr6 hM4 ht5 h => ?_) hM1 ht2 (rfl : (105 : Int32) = nI 105) (rfl : (110 : Int32) = nI 110) (rfl : (103 : Int32) = nI 103) h
    refine e_ite (c_eq hr6 (rfl : (0 : Int32) = nI 0)) h (fun h => ?_) (fun h => ?_)
    · exact hq _ _ _ _ _ _ (rfl : (0 : Int32) = nI 0) hM4 ht5 h
    · exact hq _ _ _ _ _ _ (rfl : (1 : Int32) = nI 1) hM4 ht5 h
noncomputable def epX11_sideNow (q : Nat → Nat → Nat → Bool) (cM ct  : Nat) : Bool :=
  (epX11_is (fun cr3 cM1 ct2 => (@Bool.rec (fun _ => Bool) (q 0 cM1 ct2) (epX11_is (fun cr6 cM4 ct5 => (@Bool.rec (fun _ => Bool) (epX11_ends (fun cr9 cM7 ct8 => (@Bool.rec (fun _ => Bool) (q 1 cM7 ct8) (q 4294967292 cM7 ct8) (eqN cr9 0))) cM4 ct5 116 0 0) (q 4294967292 cM4 ct5) (eqN cr6 0))) cM1 ct2 5 114 105 103 104) (eqN cr3 0))) cM ct 4 108 101 102 116)
set_option maxHeartbeats 4000000 in
set_option maxRecDepth 20000 in
theorem spX11_sideNow {post : Int32 → MM → Int64 → Prop} {q : Nat → Nat → Nat → Bool} (hq : ∀ (r : Int32) (M : MM) (tl : Int64) (cr cM ct : Nat), r = nI cr → M = dM cM → tl = i64 ct → q cr cM ct = true → post r M tl) {M : MM} {tl : Int64} {cM ct  : Nat} (hM : M = dM cM) (ht : tl = i64 ct)  (h : epX11_sideNow q  cM ct  = true) : wpX11_sideNow post  M tl  := by
  unfold wpX11_sideNow
  refine spX11_is (fun r3 M1 t2 cr3 cM1 ct2 hr3 hM1 ht2 h => ?_) hM ht (rfl : (4 : Int32) = nI 4) (rfl : (108 : Int32) = nI 108) (rfl : (101 : Int32) = nI 101) (rfl : (102 : Int32) = nI 102) (rfl : (116 : Int32) = nI 116) h
  refine e_ite (c_eq hr3 (rfl : (0 : Int32) = nI 0)) h (fun h => ?_) (fun h => ?_)
  · refine spX11_is (fun r6 M4 t5 cr6 cM4 ct5 hr6 hM4 ht5 h => ?_) hM1 ht2 (rfl : (5 : Int32) = nI 5) (rfl : (114 : Int32) = nI 114) (rfl : (105 : Int32) = nI 105) (rfl : (103 : Int32) = nI 103) (rfl : (104 : Int32) = nI 104) h
    refine e_ite (c_eq hr6 (rfl : (0 : Int32) = nI 0)) h (fun h => ?_) (fun h => ?_)
    · exact hq _ _ _ _ _ _ lm4 hM4 ht5 h
    · refine spX11_ends (fun r9 M7 t8 cr9 cM7 ct8 hr9 hM7 ht8 h => ?_) hM4 ht5 (rfl : (116 : Int32) = nI 116) (rfl : (0 : Int32) = nI 0) (rfl : (0 : Int32) = nI 0) h
      refine e_ite (c_eq hr9 (rfl : (0 : Int32) = nI 0)) h (fun h => ?_) (fun h => ?_)
      · exact hq _ _ _ _ _ _ lm4 hM7 ht8 h
      · exact hq _ _ _ _ _ _ (rfl : (1 : Int32) = nI 1) hM7 ht8 h
  · exact hq _ _ _ _ _ _ (rfl : (0 : Int32) = nI 0) hM1 ht2 h
noncomputable def eX11_next_82 (q : Nat → Nat → Bool) (n : Nat) : Nat → Nat → Bool :=
  @Nat.rec (fun _ => Nat → Nat → Bool) (fun _ _ => false) (fun _ ih cM ct  => (epX11_look (fun cr3 cM1 ct2 => (epX11_in (fun cr6 cM4 ct5 => (@Bool.rec (fun _ => Bool) (wrB (fun cM7 => (ih cM7 ct5)) cM4 81 32 (aN (rd cM4 81 32) 1)) (q cM4 ct5) (eqN cr6 0))) cM1 ct2 (xN cr3) 97 122)) cM ct (rd cM 81 32))) n
set_option maxHeartbeats 4000000 in
set_option maxRecDepth 20000 in
theorem sX11_next_82 {post : MM → Int64 → Prop} {q : Nat → Nat → Bool} (hq : ∀ (M : MM) (tl : Int64) (cM ct : Nat), M = dM cM → tl = i64 ct → q cM ct = true → post M tl) : ∀ (n : Nat) (M : MM) (tl : Int64) (cM ct  : Nat), M = dM cM → tl = i64 ct → eX11_next_82 q  n cM ct  = true → wX11_next_82 post  n M tl  := by
  intro n
  induction n with
  | zero => intro M tl  cM ct  hM ht  h; exact Bool.noConfusion h
  | succ n ih =>
    intro M tl  cM ct  hM ht  h
    unfold wX11_next_82
    have h : (epX11_look (fun cr3 cM1 ct2 => (epX11_in (fun cr6 cM4 ct5 => (@Bool.rec (fun _ => Bool) (wrB (fun cM7 => ((eX11_next_82 q  n) cM7 ct5)) cM4 81 32 (aN (rd cM4 81 32) 1)) (q cM4 ct5) (eqN cr6 0))) cM1 ct2 (xN cr3) 97 122)) cM ct (rd cM 81 32)) = true := h
    refine spX11_look (fun r3 M1 t2 cr3 cM1 ct2 hr3 hM1 ht2 h => ?_) hM ht (r_rd hM (rfl : (81 : Nat) = 81) (rfl : (32 : Nat) = 32)) h
    refine spX11_in (fun r6 M4 t5 cr6 cM4 ct5 hr6 hM4 ht5 h => ?_) hM1 ht2 (r_ext hr3) (rfl : (97 : Int64) = i64 97) (rfl : (122 : Int64) = i64 122) h
    refine e_ite (c_eq hr6 (rfl : (0 : Int32) = nI 0)) h (fun h => ?_) (fun h => ?_)
    · exact hq _ _ _ _ hM4 ht5 h
    · refine e_wr h hM4 (rfl : (81 : Nat) = 81) (rfl : (32 : Nat) = 32) (r_add (r_rd hM4 (rfl : (81 : Nat) = 81) (rfl : (32 : Nat) = 32)) (rfl : (1 : Int32) = nI 1)) (fun M7 cM7 hM7 h => ?_)
      exact ih _ _ _ _ hM7 ht5 h
noncomputable def eX11_next_201 (q : Nat → Nat → Bool) (cbk140 : Nat → Nat → Bool) (cM ct cs1 : Nat) : Bool :=
  (wrB (fun cM1 => (wrB (fun cM2 => (cbk140 cM2 ct)) cM1 81 32 (aN (rd cM1 81 32) 1))) cM 81 35 cs1)
set_option maxHeartbeats 4000000 in
set_option maxRecDepth 20000 in
theorem sX11_next_201 {post : MM → Int64 → Prop} {q : Nat → Nat → Bool} (hq : ∀ (M : MM) (tl : Int64) (cM ct : Nat), M = dM cM → tl = i64 ct → q cM ct = true → post M tl) {bk140 : MM → Int64 → Prop} {cbk140 : Nat → Nat → Bool} (hbk140 : ∀ (M : MM) (tl : Int64) (cM ct : Nat), M = dM cM → tl = i64 ct → cbk140 cM ct  = true → bk140 M tl ) {M : MM} {tl : Int64} {s1 : Int32} {cM ct cs1 : Nat} (hM : M = dM cM) (ht : tl = i64 ct) (hs1 : s1 = nI cs1) (h : eX11_next_201 q cbk140 cM ct cs1 = true) : wX11_next_201 post bk140 M tl s1 := by
  unfold wX11_next_201
  refine e_wr h hM (rfl : (81 : Nat) = 81) (rfl : (35 : Nat) = 35) hs1 (fun M1 cM1 hM1 h => ?_)
  refine e_wr h hM1 (rfl : (81 : Nat) = 81) (rfl : (32 : Nat) = 32) (r_add (r_rd hM1 (rfl : (81 : Nat) = 81) (rfl : (32 : Nat) = 32)) (rfl : (1 : Int32) = nI 1)) (fun M2 cM2 hM2 h => ?_)
  exact hbk140 _ _ _ _ hM2 ht h
noncomputable def eX11_next_236 (q : Nat → Nat → Bool) (cM ct cs1 : Nat) : Bool :=
  (epX11_needs (fun cM1 ct2 => (q cM1 ct2)) cM ct cs1 1)
set_option maxHeartbeats 4000000 in
set_option maxRecDepth 20000 in
theorem sX11_next_236 {post : MM → Int64 → Prop} {q : Nat → Nat → Bool} (hq : ∀ (M : MM) (tl : Int64) (cM ct : Nat), M = dM cM → tl = i64 ct → q cM ct = true → post M tl) {M : MM} {tl : Int64} {s1 : Int32} {cM ct cs1 : Nat} (hM : M = dM cM) (ht : tl = i64 ct) (hs1 : s1 = nI cs1) (h : eX11_next_236 q  cM ct cs1 = true) : wX11_next_236 post  M tl s1 := by
  unfold wX11_next_236
  refine spX11_needs (fun M1 t2 cM1 ct2 hM1 ht2 h => ?_) hM ht hs1 (rfl : (1 : Int32) = nI 1) h
  exact hq _ _ _ _ hM1 ht2 h
noncomputable def eX11_next_140 (q : Nat → Nat → Bool) (n : Nat) : Nat → Nat → Bool :=
  @Nat.rec (fun _ => Nat → Nat → Bool) (fun _ _ => false) (fun _ ih cM ct  => (epX11_look (fun cr3 cM1 ct2 => (epX11_in (fun cr6 cM4 ct5 => (@Bool.rec (fun _ => Bool) (@Bool.rec (fun _ => Bool) (epX11_look (fun cr9 cM7 ct8 => (eX11_next_201 q ih cM7 ct8 (sN (aN (mN 10 (rd cM4 81 35)) cr9) 48))) cM4 ct5 (rd cM4 81 32)) (eX11_next_201 q ih cM4 ct5 (rd cM4 81 35)) (leN 2 (sN (rd cM4 81 32) (rd cM4 81 33)))) (@Bool.rec (fun _ => Bool) (eX11_next_236 q  cM4 ct5 1) (eX11_next_236 q  cM4 ct5 0) (ltN 2 (sN (rd cM4 81 32) (rd cM4 81 33)))) (eqN cr6 0))) cM1 ct2 (xN cr3) 48 57)) cM ct (rd cM 81 32))) n
set_option maxHeartbeats 4000000 in
set_option maxRecDepth 20000 in
theorem sX11_next_140 {post : MM → Int64 → Prop} {q : Nat → Nat → Bool} (hq : ∀ (M : MM) (tl : Int64) (cM ct : Nat), M = dM cM → tl = i64 ct → q cM ct = true → post M tl) : ∀ (n : Nat) (M : MM) (tl : Int64) (cM ct  : Nat), M = dM cM → tl = i64 ct → eX11_next_140 q  n cM ct  = true → wX11_next_140 post  n M tl  := by
  intro n
  induction n with
  | zero => intro M tl  cM ct  hM ht  h; exact Bool.noConfusion h
  | succ n ih =>
    intro M tl  cM ct  hM ht  h
    unfold wX11_next_140
    have h : (epX11_look (fun cr3 cM1 ct2 => (epX11_in (fun cr6 cM4 ct5 => (@Bool.rec (fun _ => Bool) (@Bool.rec (fun _ => Bool) (epX11_look (fun cr9 cM7 ct8 => (eX11_next_201 q (eX11_next_140 q  n) cM7 ct8 (sN (aN (mN 10 (rd cM4 81 35)) cr9) 48))) cM4 ct5 (rd cM4 81 32)) (eX11_next_201 q (eX11_next_140 q  n) cM4 ct5 (rd cM4 81 35)) (leN 2 (sN (rd cM4 81 32) (rd cM4 81 33)))) (@Bool.rec (fun _ => Bool) (eX11_next_236 q  cM4 ct5 1) (eX11_next_236 q  cM4 ct5 0) (ltN 2 (sN (rd cM4 81 32) (rd cM4 81 33)))) (eqN cr6 0))) cM1 ct2 (xN cr3) 48 57)) cM ct (rd cM 81 32)) = true := h
    refine spX11_look (fun r3 M1 t2 cr3 cM1 ct2 hr3 hM1 ht2 h => ?_) hM ht (r_rd hM (rfl : (81 : Nat) = 81) (rfl : (32 : Nat) = 32)) h
    refine spX11_in (fun r6 M4 t5 cr6 cM4 ct5 hr6 hM4 ht5 h => ?_) hM1 ht2 (r_ext hr3) (rfl : (48 : Int64) = i64 48) (rfl : (57 : Int64) = i64 57) h
    refine e_ite (c_eq hr6 (rfl : (0 : Int32) = nI 0)) h (fun h => ?_) (fun h => ?_)
    · refine e_ite (c_lt (rfl : (2 : Int32) = nI 2) (r_sub (r_rd hM4 (rfl : (81 : Nat) = 81) (rfl : (32 : Nat) = 32)) (r_rd hM4 (rfl : (81 : Nat) = 81) (rfl : (33 : Nat) = 33)))) h (fun h => ?_) (fun h => ?_)
      · exact sX11_next_236 hq  hM4 ht5 (rfl : (0 : Int32) = nI 0) h
      · exact sX11_next_236 hq  hM4 ht5 (rfl : (1 : Int32) = nI 1) h
    · refine e_ite (c_le (rfl : (2 : Int32) = nI 2) (r_sub (r_rd hM4 (rfl : (81 : Nat) = 81) (rfl : (32 : Nat) = 32)) (r_rd hM4 (rfl : (81 : Nat) = 81) (rfl : (33 : Nat) = 33)))) h (fun h => ?_) (fun h => ?_)
      · exact sX11_next_201 hq ih hM4 ht5 (r_rd hM4 (rfl : (81 : Nat) = 81) (rfl : (35 : Nat) = 35)) h
      · refine spX11_look (fun r9 M7 t8 cr9 cM7 ct8 hr9 hM7 ht8 h => ?_) hM4 ht5 (r_rd hM4 (rfl : (81 : Nat) = 81) (rfl : (32 : Nat) = 32)) h
        exact sX11_next_201 hq ih hM7 ht8 (r_sub (r_add (r_mul (rfl : (10 : Int32) = nI 10) (r_rd hM4 (rfl : (81 : Nat) = 81) (rfl : (35 : Nat) = 35))) hr9) (rfl : (48 : Int32) = nI 48)) h
noncomputable def eX11_next_260 (q : Nat → Nat → Bool) (cM ct cs1 : Nat) : Bool :=
  (epX11_needs (fun cM1 ct2 => (wrB (fun cM3 => (q cM3 ct2)) cM1 81 32 (aN (rd cM1 81 32) 1))) cM ct cs1 1)
set_option maxHeartbeats 4000000 in
set_option maxRecDepth 20000 in
theorem sX11_next_260 {post : MM → Int64 → Prop} {q : Nat → Nat → Bool} (hq : ∀ (M : MM) (tl : Int64) (cM ct : Nat), M = dM cM → tl = i64 ct → q cM ct = true → post M tl) {M : MM} {tl : Int64} {s1 : Int32} {cM ct cs1 : Nat} (hM : M = dM cM) (ht : tl = i64 ct) (hs1 : s1 = nI cs1) (h : eX11_next_260 q  cM ct cs1 = true) : wX11_next_260 post  M tl s1 := by
  unfold wX11_next_260
  refine spX11_needs (fun M1 t2 cM1 ct2 hM1 ht2 h => ?_) hM ht hs1 (rfl : (1 : Int32) = nI 1) h
  refine e_wr h hM1 (rfl : (81 : Nat) = 81) (rfl : (32 : Nat) = 32) (r_add (r_rd hM1 (rfl : (81 : Nat) = 81) (rfl : (32 : Nat) = 32)) (rfl : (1 : Int32) = nI 1)) (fun M3 cM3 hM3 h => ?_)
  exact hq _ _ _ _ hM3 ht2 h
noncomputable def eX11_next_8 (q : Nat → Nat → Bool) (n : Nat) : Nat → Nat → Bool :=
  @Nat.rec (fun _ => Nat → Nat → Bool) (fun _ _ => false) (fun _ ih cM ct  => (epX11_look (fun cr3 cM1 ct2 => (@Bool.rec (fun _ => Bool) (wrB (fun cM4 => (epX11_look (fun cr7 cM5 ct6 => (@Bool.rec (fun _ => Bool) (wrB (fun cM18 => (q cM18 ct6)) cM5 81 34 0) (epX11_in (fun cr10 cM8 ct9 => (@Bool.rec (fun _ => Bool) (wrB (fun cM17 => (eX11_next_82 q  5000 cM17 ct9)) cM8 81 34 1) (epX11_in (fun cr13 cM11 ct12 => (@Bool.rec (fun _ => Bool) (wrB (fun cM15 => (wrB (fun cM16 => (eX11_next_140 q  5000 cM16 ct12)) cM15 81 35 0)) cM11 81 34 2) (wrB (fun cM14 => (@Bool.rec (fun _ => Bool) (eX11_next_260 q  cM14 ct12 0) (eX11_next_260 q  cM14 ct12 1) (eqN cr7 59))) cM11 81 34 3) (eqN cr13 0))) cM8 ct9 (xN cr7) 48 57) (eqN cr10 0))) cM5 ct6 (xN cr7) 97 122) (leN 0 cr7))) cM4 ct2 (rd cM4 81 32))) cM1 81 33 (rd cM1 81 32)) (wrB (fun cM19 => (ih cM19 ct2)) cM1 81 32 (aN (rd cM1 81 32) 1)) (eqN cr3 32))) cM ct (rd cM 81 32))) n
set_option maxHeartbeats 4000000 in
set_option maxRecDepth 20000 in
theorem sX11_next_8 {post : MM → Int64 → Prop} {q : Nat → Nat → Bool} (hq : ∀ (M : MM) (tl : Int64) (cM ct : Nat), M = dM cM → tl = i64 ct → q cM ct = true → post M tl) : ∀ (n : Nat) (M : MM) (tl : Int64) (cM ct  : Nat), M = dM cM → tl = i64 ct → eX11_next_8 q  n cM ct  = true → wX11_next_8 post  n M tl  := by
  intro n
  induction n with
  | zero => intro M tl  cM ct  hM ht  h; exact Bool.noConfusion h
  | succ n ih =>
    intro M tl  cM ct  hM ht  h
    unfold wX11_next_8
    have h : (epX11_look (fun cr3 cM1 ct2 => (@Bool.rec (fun _ => Bool) (wrB (fun cM4 => (epX11_look (fun cr7 cM5 ct6 => (@Bool.rec (fun _ => Bool) (wrB (fun cM18 => (q cM18 ct6)) cM5 81 34 0) (epX11_in (fun cr10 cM8 ct9 => (@Bool.rec (fun _ => Bool) (wrB (fun cM17 => (eX11_next_82 q  5000 cM17 ct9)) cM8 81 34 1) (epX11_in (fun cr13 cM11 ct12 => (@Bool.rec (fun _ => Bool) (wrB (fun cM15 => (wrB (fun cM16 => (eX11_next_140 q  5000 cM16 ct12)) cM15 81 35 0)) cM11 81 34 2) (wrB (fun cM14 => (@Bool.rec (fun _ => Bool) (eX11_next_260 q  cM14 ct12 0) (eX11_next_260 q  cM14 ct12 1) (eqN cr7 59))) cM11 81 34 3) (eqN cr13 0))) cM8 ct9 (xN cr7) 48 57) (eqN cr10 0))) cM5 ct6 (xN cr7) 97 122) (leN 0 cr7))) cM4 ct2 (rd cM4 81 32))) cM1 81 33 (rd cM1 81 32)) (wrB (fun cM19 => ((eX11_next_8 q  n) cM19 ct2)) cM1 81 32 (aN (rd cM1 81 32) 1)) (eqN cr3 32))) cM ct (rd cM 81 32)) = true := h
    refine spX11_look (fun r3 M1 t2 cr3 cM1 ct2 hr3 hM1 ht2 h => ?_) hM ht (r_rd hM (rfl : (81 : Nat) = 81) (rfl : (32 : Nat) = 32)) h
    refine e_ite (c_eq hr3 (rfl : (32 : Int32) = nI 32)) h (fun h => ?_) (fun h => ?_)
    · refine e_wr h hM1 (rfl : (81 : Nat) = 81) (rfl : (32 : Nat) = 32) (r_add (r_rd hM1 (rfl : (81 : Nat) = 81) (rfl : (32 : Nat) = 32)) (rfl : (1 : Int32) = nI 1)) (fun M19 cM19 hM19 h => ?_)
      exact ih _ _ _ _ hM19 ht2 h
    · refine e_wr h hM1 (rfl : (81 : Nat) = 81) (rfl : (33 : Nat) = 33) (r_rd hM1 (rfl : (81 : Nat) = 81) (rfl : (32 : Nat) = 32)) (fun M4 cM4 hM4 h => ?_)
      refine spX11_look (fun r7 M5 t6 cr7 cM5 ct6 hr7 hM5 ht6 h => ?_) hM4 ht2 (r_rd hM4 (rfl : (81 : Nat) = 81) (rfl : (32 : Nat) = 32)) h
      refine e_ite (c_le (rfl : (0 : Int32) = nI 0) hr7) h (fun h => ?_) (fun h => ?_)
      · refine spX11_in (fun r10 M8 t9 cr10 cM8 ct9 hr10 hM8 ht9 h => ?_) hM5 ht6 (r_ext hr7) (rfl : (97 : Int64) = i64 97) (rfl : (122 : Int64) = i64 122) h
        refine e_ite (c_eq hr10 (rfl : (0 : Int32) = nI 0)) h (fun h => ?_) (fun h => ?_)
        · refine spX11_in (fun r13 M11 t12 cr13 cM11 ct12 hr13 hM11 ht12 h => ?_) hM8 ht9 (r_ext hr7) (rfl : (48 : Int64) = i64 48) (rfl : (57 : Int64) = i64 57) h
          refine e_ite (c_eq hr13 (rfl : (0 : Int32) = nI 0)) h (fun h => ?_) (fun h => ?_)
          · refine e_wr h hM11 (rfl : (81 : Nat) = 81) (rfl : (34 : Nat) = 34) (rfl : (3 : Int32) = nI 3) (fun M14 cM14 hM14 h => ?_)
            refine e_ite (c_eq hr7 (rfl : (59 : Int32) = nI 59)) h (fun h => ?_) (fun h => ?_)
            · exact sX11_next_260 hq  hM14 ht12 (rfl : (1 : Int32) = nI 1) h
            · exact sX11_next_260 hq  hM14 ht12 (rfl : (0 : Int32) = nI 0) h
          · refine e_wr h hM11 (rfl : (81 : Nat) = 81) (rfl : (34 : Nat) = 34) (rfl : (2 : Int32) = nI 2) (fun M15 cM15 hM15 h => ?_)
            refine e_wr h hM15 (rfl : (81 : Nat) = 81) (rfl : (35 : Nat) = 35) (rfl : (0 : Int32) = nI 0) (fun M16 cM16 hM16 h => ?_)
            exact ⟨5000, sX11_next_140 hq  5000 _ _ _ _ hM16 ht12 h⟩
        · refine e_wr h hM8 (rfl : (81 : Nat) = 81) (rfl : (34 : Nat) = 34) (rfl : (1 : Int32) = nI 1) (fun M17 cM17 hM17 h => ?_)
          exact ⟨5000, sX11_next_82 hq  5000 _ _ _ _ hM17 ht9 h⟩
      · refine e_wr h hM5 (rfl : (81 : Nat) = 81) (rfl : (34 : Nat) = 34) (rfl : (0 : Int32) = nI 0) (fun M18 cM18 hM18 h => ?_)
        exact hq _ _ _ _ hM18 ht6 h
noncomputable def epX11_next (q : Nat → Nat → Bool) (cM ct  : Nat) : Bool :=
  (@Bool.rec (fun _ => Bool) (q cM ct) (eX11_next_8 q  5000 cM ct) (leN (rd cM 81 36) 0))
set_option maxHeartbeats 4000000 in
set_option maxRecDepth 20000 in
theorem spX11_next {post : MM → Int64 → Prop} {q : Nat → Nat → Bool} (hq : ∀ (M : MM) (tl : Int64) (cM ct : Nat), M = dM cM → tl = i64 ct → q cM ct = true → post M tl) {M : MM} {tl : Int64} {cM ct  : Nat} (hM : M = dM cM) (ht : tl = i64 ct)  (h : epX11_next q  cM ct  = true) : wpX11_next post  M tl  := by
  unfold wpX11_next
  refine e_ite (c_le (r_rd hM (rfl : (81 : Nat) = 81) (rfl : (36 : Nat) = 36)) (rfl : (0 : Int32) = nI 0)) h (fun h => ?_) (fun h => ?_)
  · exact ⟨5000, sX11_next_8 hq  5000 _ _ _ _ hM ht h⟩
  · exact hq _ _ _ _ hM ht h
noncomputable def eX11_looked_49 (q : Nat → Nat → Nat → Bool) (cM ct  : Nat) : Bool :=
  (@Bool.rec (fun _ => Bool) (q 0 cM ct) (q (rd cM 81 35) cM ct) (eqN (rd cM 81 36) 0))
set_option maxHeartbeats 4000000 in
set_option maxRecDepth 20000 in
theorem sX11_looked_49 {post : Int32 → MM → Int64 → Prop} {q : Nat → Nat → Nat → Bool} (hq : ∀ (r : Int32) (M : MM) (tl : Int64) (cr cM ct : Nat), r = nI cr → M = dM cM → tl = i64 ct → q cr cM ct = true → post r M tl) {M : MM} {tl : Int64} {cM ct  : Nat} (hM : M = dM cM) (ht : tl = i64 ct)  (h : eX11_looked_49 q  cM ct  = true) : wX11_looked_49 post  M tl  := by
  unfold wX11_looked_49
  refine e_ite (c_eq (r_rd hM (rfl : (81 : Nat) = 81) (rfl : (36 : Nat) = 36)) (rfl : (0 : Int32) = nI 0)) h (fun h => ?_) (fun h => ?_)
  · exact hq _ _ _ _ _ _ (r_rd hM (rfl : (81 : Nat) = 81) (rfl : (35 : Nat) = 35)) hM ht h
  · exact hq _ _ _ _ _ _ (rfl : (0 : Int32) = nI 0) hM ht h
noncomputable def eX11_looked_25 (q : Nat → Nat → Nat → Bool) (cM ct cv1 cv2 : Nat) : Bool :=
  (@Bool.rec (fun _ => Bool) (eX11_looked_49 q  cM ct) (epX11_in (fun cr3 cM1 ct2 => (epX11_needs (fun cM4 ct5 => (eX11_looked_49 q  cM4 ct5)) cM1 ct2 cr3 3)) cM ct (xN (rd cM 81 35)) (xN cv1) (xN cv2)) (eqN (rd cM 81 36) 0))
set_option maxHeartbeats 4000000 in
set_option maxRecDepth 20000 in
theorem sX11_looked_25 {post : Int32 → MM → Int64 → Prop} {q : Nat → Nat → Nat → Bool} (hq : ∀ (r : Int32) (M : MM) (tl : Int64) (cr cM ct : Nat), r = nI cr → M = dM cM → tl = i64 ct → q cr cM ct = true → post r M tl) {M : MM} {tl : Int64} {v1 : Int32} {v2 : Int32} {cM ct cv1 cv2 : Nat} (hM : M = dM cM) (ht : tl = i64 ct) (hv1 : v1 = nI cv1) (hv2 : v2 = nI cv2) (h : eX11_looked_25 q  cM ct cv1 cv2 = true) : wX11_looked_25 post  M tl v1 v2 := by
  unfold wX11_looked_25
  refine e_ite (c_eq (r_rd hM (rfl : (81 : Nat) = 81) (rfl : (36 : Nat) = 36)) (rfl : (0 : Int32) = nI 0)) h (fun h => ?_) (fun h => ?_)
  · refine spX11_in (fun r3 M1 t2 cr3 cM1 ct2 hr3 hM1 ht2 h => ?_) hM ht (r_ext (r_rd hM (rfl : (81 : Nat) = 81) (rfl : (35 : Nat) = 35))) (r_ext hv1) (r_ext hv2) h
    refine spX11_needs (fun M4 t5 cM4 ct5 hM4 ht5 h => ?_) hM1 ht2 hr3 (rfl : (3 : Int32) = nI 3) h
    exact sX11_looked_49 hq  hM4 ht5 h
  · exact sX11_looked_49 hq  hM ht h
noncomputable def eX11_looked_21 (q : Nat → Nat → Nat → Bool) (cM ct cv1 cv2 cs1 : Nat) : Bool :=
  (epX11_needs (fun cM1 ct2 => (eX11_looked_25 q  cM1 ct2 cv1 cv2)) cM ct cs1 2)
set_option maxHeartbeats 4000000 in
set_option maxRecDepth 20000 in
theorem sX11_looked_21 {post : Int32 → MM → Int64 → Prop} {q : Nat → Nat → Nat → Bool} (hq : ∀ (r : Int32) (M : MM) (tl : Int64) (cr cM ct : Nat), r = nI cr → M = dM cM → tl = i64 ct → q cr cM ct = true → post r M tl) {M : MM} {tl : Int64} {v1 : Int32} {v2 : Int32} {s1 : Int32} {cM ct cv1 cv2 cs1 : Nat} (hM : M = dM cM) (ht : tl = i64 ct) (hv1 : v1 = nI cv1) (hv2 : v2 = nI cv2) (hs1 : s1 = nI cs1) (h : eX11_looked_21 q  cM ct cv1 cv2 cs1 = true) : wX11_looked_21 post  M tl v1 v2 s1 := by
  unfold wX11_looked_21
  refine spX11_needs (fun M1 t2 cM1 ct2 hM1 ht2 h => ?_) hM ht hs1 (rfl : (2 : Int32) = nI 2) h
  exact sX11_looked_25 hq  hM1 ht2 hv1 hv2 h
noncomputable def epX11_looked (q : Nat → Nat → Nat → Bool) (cM ct cv1 cv2 : Nat) : Bool :=
  (@Bool.rec (fun _ => Bool) (eX11_looked_25 q  cM ct cv1 cv2) (@Bool.rec (fun _ => Bool) (eX11_looked_21 q  cM ct cv1 cv2 0) (eX11_looked_21 q  cM ct cv1 cv2 1) (eqN (rd cM 81 34) 2)) (eqN (rd cM 81 36) 0))
set_option maxHeartbeats 4000000 in
set_option maxRecDepth 20000 in
theorem spX11_looked {post : Int32 → MM → Int64 → Prop} {q : Nat → Nat → Nat → Bool} (hq : ∀ (r : Int32) (M : MM) (tl : Int64) (cr cM ct : Nat), r = nI cr → M = dM cM → tl = i64 ct → q cr cM ct = true → post r M tl) {M : MM} {tl : Int64} {v1 : Int32} {v2 : Int32} {cM ct cv1 cv2 : Nat} (hM : M = dM cM) (ht : tl = i64 ct) (hv1 : v1 = nI cv1) (hv2 : v2 = nI cv2) (h : epX11_looked q  cM ct cv1 cv2 = true) : wpX11_looked post  M tl v1 v2 := by
  unfold wpX11_looked
  refine e_ite (c_eq (r_rd hM (rfl : (81 : Nat) = 81) (rfl : (36 : Nat) = 36)) (rfl : (0 : Int32) = nI 0)) h (fun h => ?_) (fun h => ?_)
  · refine e_ite (c_eq (r_rd hM (rfl : (81 : Nat) = 81) (rfl : (34 : Nat) = 34)) (rfl : (2 : Int32) = nI 2)) h (fun h => ?_) (fun h => ?_)
    · exact sX11_looked_21 hq  hM ht hv1 hv2 (rfl : (1 : Int32) = nI 1) h
    · exact sX11_looked_21 hq  hM ht hv1 hv2 (rfl : (0 : Int32) = nI 0) h
  · exact sX11_looked_25 hq  hM ht hv1 hv2 h
noncomputable def epX11_readNumber (q : Nat → Nat → Nat → Bool) (cM ct cv1 cv2 : Nat) : Bool :=
  (epX11_looked (fun cr3 cM1 ct2 => (epX11_next (fun cM4 ct5 => (q cr3 cM4 ct5)) cM1 ct2)) cM ct cv1 cv2)
set_option maxHeartbeats 4000000 in
set_option maxRecDepth 20000 in
theorem spX11_readNumber {post : Int32 → MM → Int64 → Prop} {q : Nat → Nat → Nat → Bool} (hq : ∀ (r : Int32) (M : MM) (tl : Int64) (cr cM ct : Nat), r = nI cr → M = dM cM → tl = i64 ct → q cr cM ct = true → post r M tl) {M : MM} {tl : Int64} {v1 : Int32} {v2 : Int32} {cM ct cv1 cv2 : Nat} (hM : M = dM cM) (ht : tl = i64 ct) (hv1 : v1 = nI cv1) (hv2 : v2 = nI cv2) (h : epX11_readNumber q  cM ct cv1 cv2 = true) : wpX11_readNumber post  M tl v1 v2 := by
  unfold wpX11_readNumber
  refine spX11_looked (fun r3 M1 t2 cr3 cM1 ct2 hr3 hM1 ht2 h => ?_) hM ht hv1 hv2 h
  refine spX11_next (fun M4 t5 cM4 ct5 hM4 ht5 h => ?_) hM1 ht2 h
  exact hq _ _ _ _ _ _ hr3 hM4 ht5 h
noncomputable def eX11_readLot_25 (q : Nat → Nat → Nat → Bool) (cM ct cv1 cs1 : Nat) : Bool :=
  (wrB (fun cM1 => (q cv1 cM1 ct)) cM 81 29 cs1)
set_option maxHeartbeats 4000000 in
set_option maxRecDepth 20000 in
theorem sX11_readLot_25 {post : Int32 → MM → Int64 → Prop} {q : Nat → Nat → Nat → Bool} (hq : ∀ (r : Int32) (M : MM) (tl : Int64) (cr cM ct : Nat), r = nI cr → M = dM cM → tl = i64 ct → q cr cM ct = true → post r M tl) {M : MM} {tl : Int64} {v1 : Int32} {s1 : Int32} {cM ct cv1 cs1 : Nat} (hM : M = dM cM) (ht : tl = i64 ct) (hv1 : v1 = nI cv1) (hs1 : s1 = nI cs1) (h : eX11_readLot_25 q  cM ct cv1 cs1 = true) : wX11_readLot_25 post  M tl v1 s1 := by
  unfold wX11_readLot_25
  refine e_wr h hM (rfl : (81 : Nat) = 81) (rfl : (29 : Nat) = 29) hs1 (fun M1 cM1 hM1 h => ?_)
  exact hq _ _ _ _ _ _ hv1 hM1 ht h
noncomputable def epX11_readLot (q : Nat → Nat → Nat → Bool) (cM ct  : Nat) : Bool :=
  (epX11_readNumber (fun cr3 cM1 ct2 => (@Bool.rec (fun _ => Bool) (eX11_readLot_25 q  cM1 ct2 cr3 cr3) (eX11_readLot_25 q  cM1 ct2 cr3 (rd cM1 81 29)) (leN cr3 (rd cM1 81 29)))) cM ct 0 7)
set_option maxHeartbeats 4000000 in
set_option maxRecDepth 20000 in
theorem spX11_readLot {post : Int32 → MM → Int64 → Prop} {q : Nat → Nat → Nat → Bool} (hq : ∀ (r : Int32) (M : MM) (tl : Int64) (cr cM ct : Nat), r = nI cr → M = dM cM → tl = i64 ct → q cr cM ct = true → post r M tl) {M : MM} {tl : Int64} {cM ct  : Nat} (hM : M = dM cM) (ht : tl = i64 ct)  (h : epX11_readLot q  cM ct  = true) : wpX11_readLot post  M tl  := by
  unfold wpX11_readLot
  refine spX11_readNumber (fun r3 M1 t2 cr3 cM1 ct2 hr3 hM1 ht2 h => ?_) hM ht (rfl : (0 : Int32) = nI 0) (rfl : (7 : Int32) = nI 7) h
  refine e_ite (c_le hr3 (r_rd hM1 (rfl : (81 : Nat) = 81) (rfl : (29 : Nat) = 29))) h (fun h => ?_) (fun h => ?_)
  · exact sX11_readLot_25 hq  hM1 ht2 hr3 (r_rd hM1 (rfl : (81 : Nat) = 81) (rfl : (29 : Nat) = 29)) h
  · exact sX11_readLot_25 hq  hM1 ht2 hr3 hr3 h
noncomputable def eX11_readKind_61 (q : Nat → Nat → Nat → Bool) (cM ct cv2 cs1 : Nat) : Bool :=
  (epX11_needs (fun cM1 ct2 => (epX11_next (fun cM3 ct4 => (@Bool.rec (fun _ => Bool) (q cv2 cM3 ct4) (q 0 cM3 ct4) (eqN cv2 4294967292))) cM1 ct2)) cM ct cs1 4)
set_option maxHeartbeats 4000000 in
set_option maxRecDepth 20000 in
theorem sX11_readKind_61 {post : Int32 → MM → Int64 → Prop} {q : Nat → Nat → Nat → Bool} (hq : ∀ (r : Int32) (M : MM) (tl : Int64) (cr cM ct : Nat), r = nI cr → M = dM cM → tl = i64 ct → q cr cM ct = true → post r M tl) {M : MM} {tl : Int64} {v2 : Int32} {s1 : Int32} {cM ct cv2 cs1 : Nat} (hM : M = dM cM) (ht : tl = i64 ct) (hv2 : v2 = nI cv2) (hs1 : s1 = nI cs1) (h : eX11_readKind_61 q  cM ct cv2 cs1 = true) : wX11_readKind_61 post  M tl v2 s1 := by
  unfold wX11_readKind_61
  refine spX11_needs (fun M1 t2 cM1 ct2 hM1 ht2 h => ?_) hM ht hs1 (rfl : (4 : Int32) = nI 4) h
  refine spX11_next (fun M3 t4 cM3 ct4 hM3 ht4 h => ?_) hM1 ht2 h
  refine e_ite (c_eq hv2 lm4) h (fun h => ?_) (fun h => ?_)
  · exact hq _ _ _ _ _ _ (rfl : (0 : Int32) = nI 0) hM3 ht4 h
  · exact hq _ _ _ _ _ _ hv2 hM3 ht4 h
noncomputable def eX11_readKind_56 (q : Nat → Nat → Nat → Bool) (cM ct cv2 : Nat) : Bool :=
  (eX11_readKind_61 q  cM ct cv2 1)
set_option maxHeartbeats 4000000 in
set_option maxRecDepth 20000 in
theorem sX11_readKind_56 {post : Int32 → MM → Int64 → Prop} {q : Nat → Nat → Nat → Bool} (hq : ∀ (r : Int32) (M : MM) (tl : Int64) (cr cM ct : Nat), r = nI cr → M = dM cM → tl = i64 ct → q cr cM ct = true → post r M tl) {M : MM} {tl : Int64} {v2 : Int32} {cM ct cv2 : Nat} (hM : M = dM cM) (ht : tl = i64 ct) (hv2 : v2 = nI cv2) (h : eX11_readKind_56 q  cM ct cv2 = true) : wX11_readKind_56 post  M tl v2 := by
  unfold wX11_readKind_56
  exact sX11_readKind_61 hq  hM ht hv2 (rfl : (1 : Int32) = nI 1) h
noncomputable def eX11_readKind_37 (q : Nat → Nat → Nat → Bool) (cM ct cv1 cv2 cs1 : Nat) : Bool :=
  (epX11_needs (fun cM1 ct2 => (@Bool.rec (fun _ => Bool) (@Bool.rec (fun _ => Bool) (eX11_readKind_61 q  cM1 ct2 cv2 0) (eX11_readKind_56 q  cM1 ct2 cv2) (eqN (Nat.land (b2 f_shr cv1 cv2) 1) 0)) (eX11_readKind_56 q  cM1 ct2 cv2) (eqN cv2 4294967292))) cM ct cs1 2)
set_option maxHeartbeats 4000000 in
set_option maxRecDepth 20000 in
theorem sX11_readKind_37 {post : Int32 → MM → Int64 → Prop} {q : Nat → Nat → Nat → Bool} (hq : ∀ (r : Int32) (M : MM) (tl : Int64) (cr cM ct : Nat), r = nI cr → M = dM cM → tl = i64 ct → q cr cM ct = true → post r M tl) {M : MM} {tl : Int64} {v1 : Int32} {v2 : Int32} {s1 : Int32} {cM ct cv1 cv2 cs1 : Nat} (hM : M = dM cM) (ht : tl = i64 ct) (hv1 : v1 = nI cv1) (hv2 : v2 = nI cv2) (hs1 : s1 = nI cs1) (h : eX11_readKind_37 q  cM ct cv1 cv2 cs1 = true) : wX11_readKind_37 post  M tl v1 v2 s1 := by
  unfold wX11_readKind_37
  refine spX11_needs (fun M1 t2 cM1 ct2 hM1 ht2 h => ?_) hM ht hs1 (rfl : (2 : Int32) = nI 2) h
  refine e_ite (c_eq hv2 lm4) h (fun h => ?_) (fun h => ?_)
  · exact sX11_readKind_56 hq  hM1 ht2 hv2 h
  · refine e_ite (c_eq (r_and (r_b2 f_shr hv1 hv2) (rfl : (1 : Int32) = nI 1)) (rfl : (0 : Int32) = nI 0)) h (fun h => ?_) (fun h => ?_)
    · exact sX11_readKind_56 hq  hM1 ht2 hv2 h
    · exact sX11_readKind_61 hq  hM1 ht2 hv2 (rfl : (0 : Int32) = nI 0) h
noncomputable def eX11_readKind_24 (q : Nat → Nat → Nat → Bool) (cM ct cv1 cs0 : Nat) : Bool :=
  (@Bool.rec (fun _ => Bool) (eX11_readKind_37 q  cM ct cv1 cs0 1) (eX11_readKind_37 q  cM ct cv1 cs0 0) (eqN cs0 4294967292))
set_option maxHeartbeats 4000000 in
set_option maxRecDepth 20000 in
theorem sX11_readKind_24 {post : Int32 → MM → Int64 → Prop} {q : Nat → Nat → Nat → Bool} (hq : ∀ (r : Int32) (M : MM) (tl : Int64) (cr cM ct : Nat), r = nI cr → M = dM cM → tl = i64 ct → q cr cM ct = true → post r M tl) {M : MM} {tl : Int64} {v1 : Int32} {s0 : Int32} {cM ct cv1 cs0 : Nat} (hM : M = dM cM) (ht : tl = i64 ct) (hv1 : v1 = nI cv1) (hs0 : s0 = nI cs0) (h : eX11_readKind_24 q  cM ct cv1 cs0 = true) : wX11_readKind_24 post  M tl v1 s0 := by
  unfold wX11_readKind_24
  refine e_ite (c_eq hs0 lm4) h (fun h => ?_) (fun h => ?_)
  · exact sX11_readKind_37 hq  hM ht hv1 hs0 (rfl : (0 : Int32) = nI 0) h
  · exact sX11_readKind_37 hq  hM ht hv1 hs0 (rfl : (1 : Int32) = nI 1) h
noncomputable def eX11_readKind_22 (q : Nat → Nat → Nat → Bool) (cM ct cv1 : Nat) : Bool :=
  (eX11_readKind_24 q  cM ct cv1 4294967292)
set_option maxHeartbeats 4000000 in
set_option maxRecDepth 20000 in
theorem sX11_readKind_22 {post : Int32 → MM → Int64 → Prop} {q : Nat → Nat → Nat → Bool} (hq : ∀ (r : Int32) (M : MM) (tl : Int64) (cr cM ct : Nat), r = nI cr → M = dM cM → tl = i64 ct → q cr cM ct = true → post r M tl) {M : MM} {tl : Int64} {v1 : Int32} {cM ct cv1 : Nat} (hM : M = dM cM) (ht : tl = i64 ct) (hv1 : v1 = nI cv1) (h : eX11_readKind_22 q  cM ct cv1 = true) : wX11_readKind_22 post  M tl v1 := by
  unfold wX11_readKind_22
  exact sX11_readKind_24 hq  hM ht hv1 lm4 h
noncomputable def epX11_readKind (q : Nat → Nat → Nat → Bool) (cM ct cv1 : Nat) : Bool :=
  (@Bool.rec (fun _ => Bool) (eX11_readKind_22 q  cM ct cv1) (@Bool.rec (fun _ => Bool) (eX11_readKind_22 q  cM ct cv1) (epX11_kindNow (fun cr3 cM1 ct2 => (eX11_readKind_24 q  cM1 ct2 cv1 cr3)) cM ct) (eqN (rd cM 81 34) 1)) (eqN (rd cM 81 36) 0))
set_option maxHeartbeats 4000000 in
set_option maxRecDepth 20000 in
theorem spX11_readKind {post : Int32 → MM → Int64 → Prop} {q : Nat → Nat → Nat → Bool} (hq : ∀ (r : Int32) (M : MM) (tl : Int64) (cr cM ct : Nat), r = nI cr → M = dM cM → tl = i64 ct → q cr cM ct = true → post r M tl) {M : MM} {tl : Int64} {v1 : Int32} {cM ct cv1 : Nat} (hM : M = dM cM) (ht : tl = i64 ct) (hv1 : v1 = nI cv1) (h : epX11_readKind q  cM ct cv1 = true) : wpX11_readKind post  M tl v1 := by
  unfold wpX11_readKind
  refine e_ite (c_eq (r_rd hM (rfl : (81 : Nat) = 81) (rfl : (36 : Nat) = 36)) (rfl : (0 : Int32) = nI 0)) h (fun h => ?_) (fun h => ?_)
  · refine e_ite (c_eq (r_rd hM (rfl : (81 : Nat) = 81) (rfl : (34 : Nat) = 34)) (rfl : (1 : Int32) = nI 1)) h (fun h => ?_) (fun h => ?_)
    · refine spX11_kindNow (fun r3 M1 t2 cr3 cM1 ct2 hr3 hM1 ht2 h => ?_) hM ht h
      exact sX11_readKind_24 hq  hM1 ht2 hv1 hr3 h
    · exact sX11_readKind_22 hq  hM ht hv1 h
  · exact sX11_readKind_22 hq  hM ht hv1 h
noncomputable def eX11_readColour_32 (q : Nat → Nat → Nat → Bool) (cM ct cv2 : Nat) : Bool :=
  (epX11_next (fun cM1 ct2 => (q cv2 cM1 ct2)) cM ct)
set_option maxHeartbeats 4000000 in
set_option maxRecDepth 20000 in
theorem sX11_readColour_32 {post : Int32 → MM → Int64 → Prop} {q : Nat → Nat → Nat → Bool} (hq : ∀ (r : Int32) (M : MM) (tl : Int64) (cr cM ct : Nat), r = nI cr → M = dM cM → tl = i64 ct → q cr cM ct = true → post r M tl) {M : MM} {tl : Int64} {v2 : Int32} {cM ct cv2 : Nat} (hM : M = dM cM) (ht : tl = i64 ct) (hv2 : v2 = nI cv2) (h : eX11_readColour_32 q  cM ct cv2 = true) : wX11_readColour_32 post  M tl v2 := by
  unfold wX11_readColour_32
  refine spX11_next (fun M1 t2 cM1 ct2 hM1 ht2 h => ?_) hM ht h
  exact hq _ _ _ _ _ _ hv2 hM1 ht2 h
noncomputable def eX11_readColour_28 (q : Nat → Nat → Nat → Bool) (cM ct cv2 cs1 : Nat) : Bool :=
  (epX11_needs (fun cM1 ct2 => (eX11_readColour_32 q  cM1 ct2 cv2)) cM ct cs1 4)
set_option maxHeartbeats 4000000 in
set_option maxRecDepth 20000 in
theorem sX11_readColour_28 {post : Int32 → MM → Int64 → Prop} {q : Nat → Nat → Nat → Bool} (hq : ∀ (r : Int32) (M : MM) (tl : Int64) (cr cM ct : Nat), r = nI cr → M = dM cM → tl = i64 ct → q cr cM ct = true → post r M tl) {M : MM} {tl : Int64} {v2 : Int32} {s1 : Int32} {cM ct cv2 cs1 : Nat} (hM : M = dM cM) (ht : tl = i64 ct) (hv2 : v2 = nI cv2) (hs1 : s1 = nI cs1) (h : eX11_readColour_28 q  cM ct cv2 cs1 = true) : wX11_readColour_28 post  M tl v2 s1 := by
  unfold wX11_readColour_28
  refine spX11_needs (fun M1 t2 cM1 ct2 hM1 ht2 h => ?_) hM ht hs1 (rfl : (4 : Int32) = nI 4) h
  exact sX11_readColour_32 hq  hM1 ht2 hv2 h
noncomputable def epX11_readColour (q : Nat → Nat → Nat → Bool) (cM ct cv1 : Nat) : Bool :=
  (epX11_looked (fun cr3 cM1 ct2 => (@Bool.rec (fun _ => Bool) (eX11_readColour_32 q  cM1 ct2 cr3) (@Bool.rec (fun _ => Bool) (eX11_readColour_28 q  cM1 ct2 cr3 0) (eX11_readColour_28 q  cM1 ct2 cr3 1) (eqN (Nat.land (b2 f_shr cv1 cr3) 1) 0)) (eqN (rd cM1 81 36) 0))) cM ct 0 3)
set_option maxHeartbeats 4000000 in
set_option maxRecDepth 20000 in
theorem spX11_readColour {post : Int32 → MM → Int64 → Prop} {q : Nat → Nat → Nat → Bool} (hq : ∀ (r : Int32) (M : MM) (tl : Int64) (cr cM ct : Nat), r = nI cr → M = dM cM → tl = i64 ct → q cr cM ct = true → post r M tl) {M : MM} {tl : Int64} {v1 : Int32} {cM ct cv1 : Nat} (hM : M = dM cM) (ht : tl = i64 ct) (hv1 : v1 = nI cv1) (h : epX11_readColour q  cM ct cv1 = true) : wpX11_readColour post  M tl v1 := by
  unfold wpX11_readColour
  refine spX11_looked (fun r3 M1 t2 cr3 cM1 ct2 hr3 hM1 ht2 h => ?_) hM ht (rfl : (0 : Int32) = nI 0) (rfl : (3 : Int32) = nI 3) h
  refine e_ite (c_eq (r_rd hM1 (rfl : (81 : Nat) = 81) (rfl : (36 : Nat) = 36)) (rfl : (0 : Int32) = nI 0)) h (fun h => ?_) (fun h => ?_)
  · refine e_ite (c_eq (r_and (r_b2 f_shr hv1 hr3) (rfl : (1 : Int32) = nI 1)) (rfl : (0 : Int32) = nI 0)) h (fun h => ?_) (fun h => ?_)
    · exact sX11_readColour_28 hq  hM1 ht2 hr3 (rfl : (1 : Int32) = nI 1) h
    · exact sX11_readColour_28 hq  hM1 ht2 hr3 (rfl : (0 : Int32) = nI 0) h
  · exact sX11_readColour_32 hq  hM1 ht2 hr3 h
noncomputable def eX11_readWhat_78 (q : Nat → Nat → Nat → Bool) (cM ct cv1 cv2 cv3 cs1 : Nat) : Bool :=
  (epX11_needs (fun cM1 ct2 => (epX11_next (fun cM3 ct4 => (@Bool.rec (fun _ => Bool) (q 0 cM3 ct4) (q (aN (aN cv1 (mN 8 cv2)) (mN 32 cv3)) cM3 ct4) (leN (rd cM3 81 36) 0))) cM1 ct2)) cM ct cs1 2)
set_option maxHeartbeats 4000000 in
set_option maxRecDepth 20000 in
theorem sX11_readWhat_78 {post : Int32 → MM → Int64 → Prop} {q : Nat → Nat → Nat → Bool} (hq : ∀ (r : Int32) (M : MM) (tl : Int64) (cr cM ct : Nat), r = nI cr → M = dM cM → tl = i64 ct → q cr cM ct = true → post r M tl) {M : MM} {tl : Int64} {v1 : Int32} {v2 : Int32} {v3 : Int32} {s1 : Int32} {cM ct cv1 cv2 cv3 cs1 : Nat} (hM : M = dM cM) (ht : tl = i64 ct) (hv1 : v1 = nI cv1) (hv2 : v2 = nI cv2) (hv3 : v3 = nI cv3) (hs1 : s1 = nI cs1) (h : eX11_readWhat_78 q  cM ct cv1 cv2 cv3 cs1 = true) : wX11_readWhat_78 post  M tl v1 v2 v3 s1 := by
  unfold wX11_readWhat_78
  refine spX11_needs (fun M1 t2 cM1 ct2 hM1 ht2 h => ?_) hM ht hs1 (rfl : (2 : Int32) = nI 2) h
  refine spX11_next (fun M3 t4 cM3 ct4 hM3 ht4 h => ?_) hM1 ht2 h
  refine e_ite (c_le (r_rd hM3 (rfl : (81 : Nat) = 81) (rfl : (36 : Nat) = 36)) (rfl : (0 : Int32) = nI 0)) h (fun h => ?_) (fun h => ?_)
  · exact hq _ _ _ _ _ _ (r_add (r_add hv1 (r_mul (rfl : (8 : Int32) = nI 8) hv2)) (r_mul (rfl : (32 : Int32) = nI 32) hv3)) hM3 ht4 h
  · exact hq _ _ _ _ _ _ (rfl : (0 : Int32) = nI 0) hM3 ht4 h
noncomputable def eX11_readWhat_65 (q : Nat → Nat → Nat → Bool) (cM ct cv1 cv2 cs0 : Nat) : Bool :=
  (@Bool.rec (fun _ => Bool) (eX11_readWhat_78 q  cM ct cv1 cv2 cs0 1) (eX11_readWhat_78 q  cM ct cv1 cv2 cs0 0) (eqN cs0 4294967292))
set_option maxHeartbeats 4000000 in
set_option maxRecDepth 20000 in
theorem sX11_readWhat_65 {post : Int32 → MM → Int64 → Prop} {q : Nat → Nat → Nat → Bool} (hq : ∀ (r : Int32) (M : MM) (tl : Int64) (cr cM ct : Nat), r = nI cr → M = dM cM → tl = i64 ct → q cr cM ct = true → post r M tl) {M : MM} {tl : Int64} {v1 : Int32} {v2 : Int32} {s0 : Int32} {cM ct cv1 cv2 cs0 : Nat} (hM : M = dM cM) (ht : tl = i64 ct) (hv1 : v1 = nI cv1) (hv2 : v2 = nI cv2) (hs0 : s0 = nI cs0) (h : eX11_readWhat_65 q  cM ct cv1 cv2 cs0 = true) : wX11_readWhat_65 post  M tl v1 v2 s0 := by
  unfold wX11_readWhat_65
  refine e_ite (c_eq hs0 lm4) h (fun h => ?_) (fun h => ?_)
  · exact sX11_readWhat_78 hq  hM ht hv1 hv2 hs0 (rfl : (0 : Int32) = nI 0) h
  · exact sX11_readWhat_78 hq  hM ht hv1 hv2 hs0 (rfl : (1 : Int32) = nI 1) h
noncomputable def eX11_readWhat_63 (q : Nat → Nat → Nat → Bool) (cM ct cv1 cv2 : Nat) : Bool :=
  (eX11_readWhat_65 q  cM ct cv1 cv2 4294967292)
set_option maxHeartbeats 4000000 in
set_option maxRecDepth 20000 in
theorem sX11_readWhat_63 {post : Int32 → MM → Int64 → Prop} {q : Nat → Nat → Nat → Bool} (hq : ∀ (r : Int32) (M : MM) (tl : Int64) (cr cM ct : Nat), r = nI cr → M = dM cM → tl = i64 ct → q cr cM ct = true → post r M tl) {M : MM} {tl : Int64} {v1 : Int32} {v2 : Int32} {cM ct cv1 cv2 : Nat} (hM : M = dM cM) (ht : tl = i64 ct) (hv1 : v1 = nI cv1) (hv2 : v2 = nI cv2) (h : eX11_readWhat_63 q  cM ct cv1 cv2 = true) : wX11_readWhat_63 post  M tl v1 v2 := by
  unfold wX11_readWhat_63
  exact sX11_readWhat_65 hq  hM ht hv1 hv2 lm4 h
noncomputable def eX11_readWhat_28 (q : Nat → Nat → Nat → Bool) (cM ct  : Nat) : Bool :=
  (epX11_readKind (fun cr3 cM1 ct2 => (epX11_readNumber (fun cr6 cM4 ct5 => (@Bool.rec (fun _ => Bool) (eX11_readWhat_63 q  cM4 ct5 cr3 cr6) (@Bool.rec (fun _ => Bool) (eX11_readWhat_63 q  cM4 ct5 cr3 cr6) (epX11_sideNow (fun cr9 cM7 ct8 => (eX11_readWhat_65 q  cM7 ct8 cr3 cr6 cr9)) cM4 ct5) (eqN (rd cM4 81 34) 1)) (eqN (rd cM4 81 36) 0))) cM1 ct2 0 3)) cM ct 0)
set_option maxHeartbeats 4000000 in
set_option maxRecDepth 20000 in
theorem sX11_readWhat_28 {post : Int32 → MM → Int64 → Prop} {q : Nat → Nat → Nat → Bool} (hq : ∀ (r : Int32) (M : MM) (tl : Int64) (cr cM ct : Nat), r = nI cr → M = dM cM → tl = i64 ct → q cr cM ct = true → post r M tl) {M : MM} {tl : Int64} {cM ct  : Nat} (hM : M = dM cM) (ht : tl = i64 ct)  (h : eX11_readWhat_28 q  cM ct  = true) : wX11_readWhat_28 post  M tl  := by
  unfold wX11_readWhat_28
  refine spX11_readKind (fun r3 M1 t2 cr3 cM1 ct2 hr3 hM1 ht2 h => ?_) hM ht (rfl : (0 : Int32) = nI 0) h
  refine spX11_readNumber (fun r6 M4 t5 cr6 cM4 ct5 hr6 hM4 ht5 h => ?_) hM1 ht2 (rfl : (0 : Int32) = nI 0) (rfl : (3 : Int32) = nI 3) h
  refine e_ite (c_eq (r_rd hM4 (rfl : (81 : Nat) = 81) (rfl : (36 : Nat) = 36)) (rfl : (0 : Int32) = nI 0)) h (fun h => ?_) (fun h => ?_)
  · refine e_ite (c_eq (r_rd hM4 (rfl : (81 : Nat) = 81) (rfl : (34 : Nat) = 34)) (rfl : (1 : Int32) = nI 1)) h (fun h => ?_) (fun h => ?_)
    · refine spX11_sideNow (fun r9 M7 t8 cr9 cM7 ct8 hr9 hM7 ht8 h => ?_) hM4 ht5 h
      exact sX11_readWhat_65 hq  hM7 ht8 hr3 hr6 hr9 h
    · exact sX11_readWhat_63 hq  hM4 ht5 hr3 hr6 h
  · exact sX11_readWhat_63 hq  hM4 ht5 hr3 hr6 h
noncomputable def epX11_readWhat (q : Nat → Nat → Nat → Bool) (cM ct  : Nat) : Bool :=
  (@Bool.rec (fun _ => Bool) (eX11_readWhat_28 q  cM ct) (@Bool.rec (fun _ => Bool) (eX11_readWhat_28 q  cM ct) (epX11_isNothing (fun cr3 cM1 ct2 => (@Bool.rec (fun _ => Bool) (epX11_next (fun cM4 ct5 => (q 0 cM4 ct5)) cM1 ct2) (eX11_readWhat_28 q  cM1 ct2) (eqN cr3 0))) cM ct) (eqN (rd cM 81 34) 1)) (eqN (rd cM 81 36) 0))
set_option maxHeartbeats 4000000 in
set_option maxRecDepth 20000 in
theorem spX11_readWhat {post : Int32 → MM → Int64 → Prop} {q : Nat → Nat → Nat → Bool} (hq : ∀ (r : Int32) (M : MM) (tl : Int64) (cr cM ct : Nat), r = nI cr → M = dM cM → tl = i64 ct → q cr cM ct = true → post r M tl) {M : MM} {tl : Int64} {cM ct  : Nat} (hM : M = dM cM) (ht : tl = i64 ct)  (h : epX11_readWhat q  cM ct  = true) : wpX11_readWhat post  M tl  := by
  unfold wpX11_readWhat
  refine e_ite (c_eq (r_rd hM (rfl : (81 : Nat) = 81) (rfl : (36 : Nat) = 36)) (rfl : (0 : Int32) = nI 0)) h (fun h => ?_) (fun h => ?_)
  · refine e_ite (c_eq (r_rd hM (rfl : (81 : Nat) = 81) (rfl : (34 : Nat) = 34)) (rfl : (1 : Int32) = nI 1)) h (fun h => ?_) (fun h => ?_)
    · refine spX11_isNothing (fun r3 M1 t2 cr3 cM1 ct2 hr3 hM1 ht2 h => ?_) hM ht h
      refine e_ite (c_eq hr3 (rfl : (0 : Int32) = nI 0)) h (fun h => ?_) (fun h => ?_)
      · exact sX11_readWhat_28 hq  hM1 ht2 h
      · refine spX11_next (fun M4 t5 cM4 ct5 hM4 ht5 h => ?_) hM1 ht2 h
        exact hq _ _ _ _ _ _ (rfl : (0 : Int32) = nI 0) hM4 ht5 h
    · exact sX11_readWhat_28 hq  hM ht h
  · exact sX11_readWhat_28 hq  hM ht h
noncomputable def eX11_readCosts_140 (q : Nat → Nat → Bool) (cbk92 : Nat → Nat → Nat → Nat → Nat → Bool) (cM ct cv1 cv2 cv3 : Nat) : Bool :=
  (cbk92 cM ct cv1 cv2 (aN cv3 1))
set_option maxHeartbeats 4000000 in
set_option maxRecDepth 20000 in
theorem sX11_readCosts_140 {post : MM → Int64 → Prop} {q : Nat → Nat → Bool} (hq : ∀ (M : MM) (tl : Int64) (cM ct : Nat), M = dM cM → tl = i64 ct → q cM ct = true → post M tl) {bk92 : MM → Int64 → Int32 → Int32 → Int32 → Prop} {cbk92 : Nat → Nat → Nat → Nat → Nat → Bool} (hbk92 : ∀ (M : MM) (tl : Int64) (x0 : Int32) (x1 : Int32) (x2 : Int32) (cM ct cx0 cx1 cx2 : Nat), M = dM cM → tl = i64 ct → x0 = nI cx0 → x1 = nI cx1 → x2 = nI cx2 → cbk92 cM ct cx0 cx1 cx2 = true → bk92 M tl x0 x1 x2) {M : MM} {tl : Int64} {v1 : Int32} {v2 : Int32} {v3 : Int32} {cM ct cv1 cv2 cv3 : Nat} (hM : M = dM cM) (ht : tl = i64 ct) (hv1 : v1 = nI cv1) (hv2 : v2 = nI cv2) (hv3 : v3 = nI cv3) (h : eX11_readCosts_140 q cbk92 cM ct cv1 cv2 cv3 = true) : wX11_readCosts_140 post bk92 M tl v1 v2 v3 := by
  unfold wX11_readCosts_140
  exact hbk92 _ _ _ _ _ _ _ _ _ _ hM ht hv1 hv2 (r_add hv3 (rfl : (1 : Int32) = nI 1)) h
noncomputable def eX11_readCosts_92 (q : Nat → Nat → Bool) (n : Nat) : Nat → Nat → Nat → Nat → Nat → Bool :=
  @Nat.rec (fun _ => Nat → Nat → Nat → Nat → Nat → Bool) (fun _ _ _ _ _ => false) (fun _ ih cM ct cv1 cv2 cv3 => (@Bool.rec (fun _ => Bool) (epX11_readNumber (fun cr3 cM1 ct2 => (@Bool.rec (fun _ => Bool) (@Bool.rec (fun _ => Bool) false (wrB (fun cM7 => (eX11_readCosts_140 q ih cM7 ct2 cv1 cv2 cv3)) cM1 92 (tN (aN (mN 6 cv2) cv3)) cr3) (inN (aN (mN 6 cv2) cv3) (alF 92))) (@Bool.rec (fun _ => Bool) false (wrB (fun cM5 => (eX11_readCosts_140 q ih cM5 ct2 cv1 cv2 cv3)) cM1 93 (tN (aN (mN 6 cv2) cv3)) cr3) (inN (aN (mN 6 cv2) cv3) (alF 93))) (eqN cv1 0))) cM ct 0 20) (q cM ct) (leN 6 cv3))) n
set_option maxHeartbeats 4000000 in
set_option maxRecDepth 20000 in
theorem sX11_readCosts_92 {post : MM → Int64 → Prop} {q : Nat → Nat → Bool} (hq : ∀ (M : MM) (tl : Int64) (cM ct : Nat), M = dM cM → tl = i64 ct → q cM ct = true → post M tl) : ∀ (n : Nat) (M : MM) (tl : Int64) (v1 : Int32) (v2 : Int32) (v3 : Int32) (cM ct cv1 cv2 cv3 : Nat), M = dM cM → tl = i64 ct → v1 = nI cv1 → v2 = nI cv2 → v3 = nI cv3 → eX11_readCosts_92 q  n cM ct cv1 cv2 cv3 = true → wX11_readCosts_92 post  n M tl v1 v2 v3 := by
  intro n
  induction n with
  | zero => intro M tl v1 v2 v3 cM ct cv1 cv2 cv3 hM ht hv1 hv2 hv3 h; exact Bool.noConfusion h
  | succ n ih =>
    intro M tl v1 v2 v3 cM ct cv1 cv2 cv3 hM ht hv1 hv2 hv3 h
    unfold wX11_readCosts_92
    refine e_ite (c_le (rfl : (6 : Int32) = nI 6) hv3) h (fun h => ?_) (fun h => ?_)
    · exact hq _ _ _ _ hM ht h
    · refine spX11_readNumber (fun r3 M1 t2 cr3 cM1 ct2 hr3 hM1 ht2 h => ?_) hM ht (rfl : (0 : Int32) = nI 0) (rfl : (20 : Int32) = nI 20) h
      refine e_ite (c_eq hv1 (rfl : (0 : Int32) = nI 0)) h (fun h => ?_) (fun h => ?_)
      · refine e_and (k_in (r_add (r_mul (rfl : (6 : Int32) = nI 6) hv2) hv3) (r_al (rfl : (93 : Nat) = 93))) h (fun h => ?_)
        refine e_wr h hM1 (rfl : (93 : Nat) = 93) (r_nat (r_add (r_mul (rfl : (6 : Int32) = nI 6) hv2) hv3)) hr3 (fun M5 cM5 hM5 h => ?_)
        exact sX11_readCosts_140 hq ih hM5 ht2 hv1 hv2 hv3 h
      · refine e_and (k_in (r_add (r_mul (rfl : (6 : Int32) = nI 6) hv2) hv3) (r_al (rfl : (92 : Nat) = 92))) h (fun h => ?_)
        refine e_wr h hM1 (rfl : (92 : Nat) = 92) (r_nat (r_add (r_mul (rfl : (6 : Int32) = nI 6) hv2) hv3)) hr3 (fun M7 cM7 hM7 h => ?_)
        exact sX11_readCosts_140 hq ih hM7 ht2 hv1 hv2 hv3 h
noncomputable def eX11_readCosts_82 (q : Nat → Nat → Bool) (cM ct cv1 cv2 cs1 cs2 : Nat) : Bool :=
  (wrB (fun cM1 => (epX11_next (fun cM2 ct3 => (eX11_readCosts_92 q  5000 cM2 ct3 cv1 cv2 1)) cM1 ct)) cM 81 26 (Nat.lor cs1 cs2))
set_option maxHeartbeats 4000000 in
set_option maxRecDepth 20000 in
theorem sX11_readCosts_82 {post : MM → Int64 → Prop} {q : Nat → Nat → Bool} (hq : ∀ (M : MM) (tl : Int64) (cM ct : Nat), M = dM cM → tl = i64 ct → q cM ct = true → post M tl) {M : MM} {tl : Int64} {v1 : Int32} {v2 : Int32} {s1 : Int32} {s2 : Int32} {cM ct cv1 cv2 cs1 cs2 : Nat} (hM : M = dM cM) (ht : tl = i64 ct) (hv1 : v1 = nI cv1) (hv2 : v2 = nI cv2) (hs1 : s1 = nI cs1) (hs2 : s2 = nI cs2) (h : eX11_readCosts_82 q  cM ct cv1 cv2 cs1 cs2 = true) : wX11_readCosts_82 post  M tl v1 v2 s1 s2 := by
  unfold wX11_readCosts_82
  refine e_wr h hM (rfl : (81 : Nat) = 81) (rfl : (26 : Nat) = 26) (r_or hs1 hs2) (fun M1 cM1 hM1 h => ?_)
  refine spX11_next (fun M2 t3 cM2 ct3 hM2 ht3 h => ?_) hM1 ht h
  exact ⟨5000, sX11_readCosts_92 hq  5000 _ _ _ _ _ _ _ _ _ _ hM2 ht3 hv1 hv2 (rfl : (1 : Int32) = nI 1) h⟩
noncomputable def eX11_readCosts_62 (q : Nat → Nat → Bool) (cM ct cv1 cv2 cs1 cs2 : Nat) : Bool :=
  (wrB (fun cM1 => (@Bool.rec (fun _ => Bool) (eX11_readCosts_82 q  cM1 ct cv1 cv2 (rd cM1 81 26) 0) (eX11_readCosts_82 q  cM1 ct cv1 cv2 (rd cM1 81 26) (b2 f_shl 1 cv2)) (eqN cv1 0))) cM 81 25 (Nat.lor cs1 cs2))
set_option maxHeartbeats 4000000 in
set_option maxRecDepth 20000 in
theorem sX11_readCosts_62 {post : MM → Int64 → Prop} {q : Nat → Nat → Bool} (hq : ∀ (M : MM) (tl : Int64) (cM ct : Nat), M = dM cM → tl = i64 ct → q cM ct = true → post M tl) {M : MM} {tl : Int64} {v1 : Int32} {v2 : Int32} {s1 : Int32} {s2 : Int32} {cM ct cv1 cv2 cs1 cs2 : Nat} (hM : M = dM cM) (ht : tl = i64 ct) (hv1 : v1 = nI cv1) (hv2 : v2 = nI cv2) (hs1 : s1 = nI cs1) (hs2 : s2 = nI cs2) (h : eX11_readCosts_62 q  cM ct cv1 cv2 cs1 cs2 = true) : wX11_readCosts_62 post  M tl v1 v2 s1 s2 := by
  unfold wX11_readCosts_62
  refine e_wr h hM (rfl : (81 : Nat) = 81) (rfl : (25 : Nat) = 25) (r_or hs1 hs2) (fun M1 cM1 hM1 h => ?_)
  refine e_ite (c_eq hv1 (rfl : (0 : Int32) = nI 0)) h (fun h => ?_) (fun h => ?_)
  · exact sX11_readCosts_82 hq  hM1 ht hv1 hv2 (r_rd hM1 (rfl : (81 : Nat) = 81) (rfl : (26 : Nat) = 26)) (r_b2 f_shl (rfl : (1 : Int32) = nI 1) hv2) h
  · exact sX11_readCosts_82 hq  hM1 ht hv1 hv2 (r_rd hM1 (rfl : (81 : Nat) = 81) (rfl : (26 : Nat) = 26)) (rfl : (0 : Int32) = nI 0) h
noncomputable def eX11_readCosts_46 (q : Nat → Nat → Bool) (cM ct cv1 cv2 : Nat) : Bool :=
  (@Bool.rec (fun _ => Bool) (eX11_readCosts_62 q  cM ct cv1 cv2 (rd cM 81 25) (b2 f_shl 1 cv2)) (eX11_readCosts_62 q  cM ct cv1 cv2 (rd cM 81 25) 0) (eqN cv1 0))
set_option maxHeartbeats 4000000 in
set_option maxRecDepth 20000 in
theorem sX11_readCosts_46 {post : MM → Int64 → Prop} {q : Nat → Nat → Bool} (hq : ∀ (M : MM) (tl : Int64) (cM ct : Nat), M = dM cM → tl = i64 ct → q cM ct = true → post M tl) {M : MM} {tl : Int64} {v1 : Int32} {v2 : Int32} {cM ct cv1 cv2 : Nat} (hM : M = dM cM) (ht : tl = i64 ct) (hv1 : v1 = nI cv1) (hv2 : v2 = nI cv2) (h : eX11_readCosts_46 q  cM ct cv1 cv2 = true) : wX11_readCosts_46 post  M tl v1 v2 := by
  unfold wX11_readCosts_46
  refine e_ite (c_eq hv1 (rfl : (0 : Int32) = nI 0)) h (fun h => ?_) (fun h => ?_)
  · exact sX11_readCosts_62 hq  hM ht hv1 hv2 (r_rd hM (rfl : (81 : Nat) = 81) (rfl : (25 : Nat) = 25)) (rfl : (0 : Int32) = nI 0) h
  · exact sX11_readCosts_62 hq  hM ht hv1 hv2 (r_rd hM (rfl : (81 : Nat) = 81) (rfl : (25 : Nat) = 25)) (r_b2 f_shl (rfl : (1 : Int32) = nI 1) hv2) h
noncomputable def eX11_readCosts_42 (q : Nat → Nat → Bool) (cM ct cv1 cv2 cs1 : Nat) : Bool :=
  (epX11_needs (fun cM1 ct2 => (eX11_readCosts_46 q  cM1 ct2 cv1 cv2)) cM ct cs1 4)
set_option maxHeartbeats 4000000 in
set_option maxRecDepth 20000 in
theorem sX11_readCosts_42 {post : MM → Int64 → Prop} {q : Nat → Nat → Bool} (hq : ∀ (M : MM) (tl : Int64) (cM ct : Nat), M = dM cM → tl = i64 ct → q cM ct = true → post M tl) {M : MM} {tl : Int64} {v1 : Int32} {v2 : Int32} {s1 : Int32} {cM ct cv1 cv2 cs1 : Nat} (hM : M = dM cM) (ht : tl = i64 ct) (hv1 : v1 = nI cv1) (hv2 : v2 = nI cv2) (hs1 : s1 = nI cs1) (h : eX11_readCosts_42 q  cM ct cv1 cv2 cs1 = true) : wX11_readCosts_42 post  M tl v1 v2 s1 := by
  unfold wX11_readCosts_42
  refine spX11_needs (fun M1 t2 cM1 ct2 hM1 ht2 h => ?_) hM ht hs1 (rfl : (4 : Int32) = nI 4) h
  exact sX11_readCosts_46 hq  hM1 ht2 hv1 hv2 h
noncomputable def eX11_readCosts_30 (q : Nat → Nat → Bool) (cM ct cv1 cv2 cs1 : Nat) : Bool :=
  (@Bool.rec (fun _ => Bool) (eX11_readCosts_42 q  cM ct cv1 cv2 0) (eX11_readCosts_42 q  cM ct cv1 cv2 1) (eqN (Nat.land (b2 f_shr cs1 cv2) 1) 0))
set_option maxHeartbeats 4000000 in
set_option maxRecDepth 20000 in
theorem sX11_readCosts_30 {post : MM → Int64 → Prop} {q : Nat → Nat → Bool} (hq : ∀ (M : MM) (tl : Int64) (cM ct : Nat), M = dM cM → tl = i64 ct → q cM ct = true → post M tl) {M : MM} {tl : Int64} {v1 : Int32} {v2 : Int32} {s1 : Int32} {cM ct cv1 cv2 cs1 : Nat} (hM : M = dM cM) (ht : tl = i64 ct) (hv1 : v1 = nI cv1) (hv2 : v2 = nI cv2) (hs1 : s1 = nI cs1) (h : eX11_readCosts_30 q  cM ct cv1 cv2 cs1 = true) : wX11_readCosts_30 post  M tl v1 v2 s1 := by
  unfold wX11_readCosts_30
  refine e_ite (c_eq (r_and (r_b2 f_shr hs1 hv2) (rfl : (1 : Int32) = nI 1)) (rfl : (0 : Int32) = nI 0)) h (fun h => ?_) (fun h => ?_)
  · exact sX11_readCosts_42 hq  hM ht hv1 hv2 (rfl : (1 : Int32) = nI 1) h
  · exact sX11_readCosts_42 hq  hM ht hv1 hv2 (rfl : (0 : Int32) = nI 0) h
noncomputable def epX11_readCosts (q : Nat → Nat → Bool) (cM ct cv1 : Nat) : Bool :=
  (epX11_looked (fun cr3 cM1 ct2 => (@Bool.rec (fun _ => Bool) (eX11_readCosts_46 q  cM1 ct2 cv1 cr3) (@Bool.rec (fun _ => Bool) (eX11_readCosts_30 q  cM1 ct2 cv1 cr3 (rd cM1 81 25)) (eX11_readCosts_30 q  cM1 ct2 cv1 cr3 (rd cM1 81 26)) (eqN cv1 0)) (eqN (rd cM1 81 36) 0))) cM ct 0 1)
set_option maxHeartbeats 4000000 in
set_option maxRecDepth 20000 in
theorem spX11_readCosts {post : MM → Int64 → Prop} {q : Nat → Nat → Bool} (hq : ∀ (M : MM) (tl : Int64) (cM ct : Nat), M = dM cM → tl = i64 ct → q cM ct = true → post M tl) {M : MM} {tl : Int64} {v1 : Int32} {cM ct cv1 : Nat} (hM : M = dM cM) (ht : tl = i64 ct) (hv1 : v1 = nI cv1) (h : epX11_readCosts q  cM ct cv1 = true) : wpX11_readCosts post  M tl v1 := by
  unfold wpX11_readCosts
  refine spX11_looked (fun r3 M1 t2 cr3 cM1 ct2 hr3 hM1 ht2 h => ?_) hM ht (rfl : (0 : Int32) = nI 0) (rfl : (1 : Int32) = nI 1) h
  refine e_ite (c_eq (r_rd hM1 (rfl : (81 : Nat) = 81) (rfl : (36 : Nat) = 36)) (rfl : (0 : Int32) = nI 0)) h (fun h => ?_) (fun h => ?_)
  · refine e_ite (c_eq hv1 (rfl : (0 : Int32) = nI 0)) h (fun h => ?_) (fun h => ?_)
    · exact sX11_readCosts_30 hq  hM1 ht2 hv1 hr3 (r_rd hM1 (rfl : (81 : Nat) = 81) (rfl : (26 : Nat) = 26)) h
    · exact sX11_readCosts_30 hq  hM1 ht2 hv1 hr3 (r_rd hM1 (rfl : (81 : Nat) = 81) (rfl : (25 : Nat) = 25)) h
  · exact sX11_readCosts_46 hq  hM1 ht2 hv1 hr3 h
noncomputable def eX11_readThing_48 (q : Nat → Nat → Bool) (cM ct cv1 cv2 : Nat) : Bool :=
  (wrB (fun cM1 => (epX11_readLot (fun cr4 cM2 ct3 => (epX11_readWhat (fun cr7 cM5 ct6 => (@Bool.rec (fun _ => Bool) false (wrB (fun cM9 => (q cM9 ct6)) cM5 90 (tN (aN (mN 8 cv1) cr4)) cr7) (inN (aN (mN 8 cv1) cr4) (alF 90)))) cM2 ct3)) cM1 ct)) cM 81 24 (Nat.lor (rd cM 81 24) (b2 f_shl 1 (aN (mN 8 cv1) cv2))))
set_option maxHeartbeats 4000000 in
set_option maxRecDepth 20000 in
theorem sX11_readThing_48 {post : MM → Int64 → Prop} {q : Nat → Nat → Bool} (hq : ∀ (M : MM) (tl : Int64) (cM ct : Nat), M = dM cM → tl = i64 ct → q cM ct = true → post M tl) {M : MM} {tl : Int64} {v1 : Int32} {v2 : Int32} {cM ct cv1 cv2 : Nat} (hM : M = dM cM) (ht : tl = i64 ct) (hv1 : v1 = nI cv1) (hv2 : v2 = nI cv2) (h : eX11_readThing_48 q  cM ct cv1 cv2 = true) : wX11_readThing_48 post  M tl v1 v2 := by
  unfold wX11_readThing_48
  refine e_wr h hM (rfl : (81 : Nat) = 81) (rfl : (24 : Nat) = 24) (r_or (r_rd hM (rfl : (81 : Nat) = 81) (rfl : (24 : Nat) = 24)) (r_b2 f_shl (rfl : (1 : Int32) = nI 1) (r_add (r_mul (rfl : (8 : Int32) = nI 8) hv1) hv2))) (fun M1 cM1 hM1 h => ?_)
  refine spX11_readLot (fun r4 M2 t3 cr4 cM2 ct3 hr4 hM2 ht3 h => ?_) hM1 ht h
  refine spX11_readWhat (fun r7 M5 t6 cr7 cM5 ct6 hr7 hM5 ht6 h => ?_) hM2 ht3 h
  refine e_and (k_in (r_add (r_mul (rfl : (8 : Int32) = nI 8) hv1) hr4) (r_al (rfl : (90 : Nat) = 90))) h (fun h => ?_)
  refine e_wr h hM5 (rfl : (90 : Nat) = 90) (r_nat (r_add (r_mul (rfl : (8 : Int32) = nI 8) hv1) hr4)) hr7 (fun M9 cM9 hM9 h => ?_)
  exact hq _ _ _ _ hM9 ht6 h
noncomputable def eX11_readThing_44 (q : Nat → Nat → Bool) (cM ct cv1 cv2 cs1 : Nat) : Bool :=
  (epX11_needs (fun cM1 ct2 => (eX11_readThing_48 q  cM1 ct2 cv1 cv2)) cM ct cs1 4)
set_option maxHeartbeats 4000000 in
set_option maxRecDepth 20000 in
theorem sX11_readThing_44 {post : MM → Int64 → Prop} {q : Nat → Nat → Bool} (hq : ∀ (M : MM) (tl : Int64) (cM ct : Nat), M = dM cM → tl = i64 ct → q cM ct = true → post M tl) {M : MM} {tl : Int64} {v1 : Int32} {v2 : Int32} {s1 : Int32} {cM ct cv1 cv2 cs1 : Nat} (hM : M = dM cM) (ht : tl = i64 ct) (hv1 : v1 = nI cv1) (hv2 : v2 = nI cv2) (hs1 : s1 = nI cs1) (h : eX11_readThing_44 q  cM ct cv1 cv2 cs1 = true) : wX11_readThing_44 post  M tl v1 v2 s1 := by
  unfold wX11_readThing_44
  refine spX11_needs (fun M1 t2 cM1 ct2 hM1 ht2 h => ?_) hM ht hs1 (rfl : (4 : Int32) = nI 4) h
  exact sX11_readThing_48 hq  hM1 ht2 hv1 hv2 h
noncomputable def epX11_readThing (q : Nat → Nat → Bool) (cM ct  : Nat) : Bool :=
  (epX11_readNumber (fun cr3 cM1 ct2 => (epX11_looked (fun cr6 cM4 ct5 => (@Bool.rec (fun _ => Bool) (eX11_readThing_48 q  cM4 ct5 cr3 cr6) (@Bool.rec (fun _ => Bool) (eX11_readThing_44 q  cM4 ct5 cr3 cr6 0) (eX11_readThing_44 q  cM4 ct5 cr3 cr6 1) (eqN (Nat.land (b2 f_shr (rd cM4 81 24) (aN (mN 8 cr3) cr6)) 1) 0)) (eqN (rd cM4 81 36) 0))) cM1 ct2 0 7)) cM ct 0 1)
set_option maxHeartbeats 4000000 in
set_option maxRecDepth 20000 in
theorem spX11_readThing {post : MM → Int64 → Prop} {q : Nat → Nat → Bool} (hq : ∀ (M : MM) (tl : Int64) (cM ct : Nat), M = dM cM → tl = i64 ct → q cM ct = true → post M tl) {M : MM} {tl : Int64} {cM ct  : Nat} (hM : M = dM cM) (ht : tl = i64 ct)  (h : epX11_readThing q  cM ct  = true) : wpX11_readThing post  M tl  := by
  unfold wpX11_readThing
  refine spX11_readNumber (fun r3 M1 t2 cr3 cM1 ct2 hr3 hM1 ht2 h => ?_) hM ht (rfl : (0 : Int32) = nI 0) (rfl : (1 : Int32) = nI 1) h
  refine spX11_looked (fun r6 M4 t5 cr6 cM4 ct5 hr6 hM4 ht5 h => ?_) hM1 ht2 (rfl : (0 : Int32) = nI 0) (rfl : (7 : Int32) = nI 7) h
  refine e_ite (c_eq (r_rd hM4 (rfl : (81 : Nat) = 81) (rfl : (36 : Nat) = 36)) (rfl : (0 : Int32) = nI 0)) h (fun h => ?_) (fun h => ?_)
  · refine e_ite (c_eq (r_and (r_b2 f_shr (r_rd hM4 (rfl : (81 : Nat) = 81) (rfl : (24 : Nat) = 24)) (r_add (r_mul (rfl : (8 : Int32) = nI 8) hr3) hr6)) (rfl : (1 : Int32) = nI 1)) (rfl : (0 : Int32) = nI 0)) h (fun h => ?_) (fun h => ?_)
    · exact sX11_readThing_44 hq  hM4 ht5 hr3 hr6 (rfl : (1 : Int32) = nI 1) h
    · exact sX11_readThing_44 hq  hM4 ht5 hr3 hr6 (rfl : (0 : Int32) = nI 0) h
  · exact sX11_readThing_48 hq  hM4 ht5 hr3 hr6 h
noncomputable def eX11_readWork_37 (q : Nat → Nat → Bool) (cM ct cv1 cv2 cs1 cs3 : Nat) : Bool :=
  (epX11_readNumber (fun cr3 cM1 ct2 => (@Bool.rec (fun _ => Bool) false (wrB (fun cM5 => (epX11_readNumber (fun cr8 cM6 ct7 => (@Bool.rec (fun _ => Bool) false (wrB (fun cM10 => (epX11_readLot (fun cr13 cM11 ct12 => (@Bool.rec (fun _ => Bool) false (wrB (fun cM15 => (epX11_readWhat (fun cr18 cM16 ct17 => (@Bool.rec (fun _ => Bool) false (wrB (fun cM20 => (@Bool.rec (fun _ => Bool) false (wrB (fun cM22 => (q cM22 ct17)) cM20 90 (tN 16) (aN cv1 1)) (inN 16 (alF 90)))) cM16 90 (tN (aN cv2 3)) cr18) (inN (aN cv2 3) (alF 90)))) cM15 ct12)) cM11 90 (tN (aN cv2 2)) cr13) (inN (aN cv2 2) (alF 90)))) cM10 ct7)) cM6 90 (tN (aN cv2 1)) cr8) (inN (aN cv2 1) (alF 90)))) cM5 ct2 0 1)) cM1 90 (tN cs1) cr3) (inN cs1 (alF 90)))) cM ct cs3 23)
set_option maxHeartbeats 4000000 in
set_option maxRecDepth 20000 in
theorem sX11_readWork_37 {post : MM → Int64 → Prop} {q : Nat → Nat → Bool} (hq : ∀ (M : MM) (tl : Int64) (cM ct : Nat), M = dM cM → tl = i64 ct → q cM ct = true → post M tl) {M : MM} {tl : Int64} {v1 : Int32} {v2 : Int32} {s1 : Int32} {s3 : Int32} {cM ct cv1 cv2 cs1 cs3 : Nat} (hM : M = dM cM) (ht : tl = i64 ct) (hv1 : v1 = nI cv1) (hv2 : v2 = nI cv2) (hs1 : s1 = nI cs1) (hs3 : s3 = nI cs3) (h : eX11_readWork_37 q  cM ct cv1 cv2 cs1 cs3 = true) : wX11_readWork_37 post  M tl v1 v2 s1 s3 := by
  unfold wX11_readWork_37
  refine spX11_readNumber (fun r3 M1 t2 cr3 cM1 ct2 hr3 hM1 ht2 h => ?_) hM ht hs3 (rfl : (23 : Int32) = nI 23) h
  refine e_and (k_in hs1 (r_al (rfl : (90 : Nat) = 90))) h (fun h => ?_)
  refine e_wr h hM1 (rfl : (90 : Nat) = 90) (r_nat hs1) hr3 (fun M5 cM5 hM5 h => ?_)
  refine spX11_readNumber (fun r8 M6 t7 cr8 cM6 ct7 hr8 hM6 ht7 h => ?_) hM5 ht2 (rfl : (0 : Int32) = nI 0) (rfl : (1 : Int32) = nI 1) h
  refine e_and (k_in (r_add hv2 (rfl : (1 : Int32) = nI 1)) (r_al (rfl : (90 : Nat) = 90))) h (fun h => ?_)
  refine e_wr h hM6 (rfl : (90 : Nat) = 90) (r_nat (r_add hv2 (rfl : (1 : Int32) = nI 1))) hr8 (fun M10 cM10 hM10 h => ?_)
  refine spX11_readLot (fun r13 M11 t12 cr13 cM11 ct12 hr13 hM11 ht12 h => ?_) hM10 ht7 h
  refine e_and (k_in (r_add hv2 (rfl : (2 : Int32) = nI 2)) (r_al (rfl : (90 : Nat) = 90))) h (fun h => ?_)
  refine e_wr h hM11 (rfl : (90 : Nat) = 90) (r_nat (r_add hv2 (rfl : (2 : Int32) = nI 2))) hr13 (fun M15 cM15 hM15 h => ?_)
  refine spX11_readWhat (fun r18 M16 t17 cr18 cM16 ct17 hr18 hM16 ht17 h => ?_) hM15 ht12 h
  refine e_and (k_in (r_add hv2 (rfl : (3 : Int32) = nI 3)) (r_al (rfl : (90 : Nat) = 90))) h (fun h => ?_)
  refine e_wr h hM16 (rfl : (90 : Nat) = 90) (r_nat (r_add hv2 (rfl : (3 : Int32) = nI 3))) hr18 (fun M20 cM20 hM20 h => ?_)
  refine e_and (k_in (rfl : (16 : Int32) = nI 16) (r_al (rfl : (90 : Nat) = 90))) h (fun h => ?_)
  refine e_wr h hM20 (rfl : (90 : Nat) = 90) (r_nat (rfl : (16 : Int32) = nI 16)) (r_add hv1 (rfl : (1 : Int32) = nI 1)) (fun M22 cM22 hM22 h => ?_)
  exact hq _ _ _ _ hM22 ht17 h
noncomputable def epX11_readWork (q : Nat → Nat → Bool) (cM ct  : Nat) : Bool :=
  (@Bool.rec (fun _ => Bool) false (@Bool.rec (fun _ => Bool) (@Bool.rec (fun _ => Bool) false (eX11_readWork_37 q  cM ct (rd cM 90 (tN 16)) (aN 17 (mN 4 (rd cM 90 (tN 16)))) (aN 17 (mN 4 (rd cM 90 (tN 16)))) (rd cM 90 (tN (sN (aN 17 (mN 4 (rd cM 90 (tN 16)))) 4)))) (inN (sN (aN 17 (mN 4 (rd cM 90 (tN 16)))) 4) (alF 90))) (eX11_readWork_37 q  cM ct (rd cM 90 (tN 16)) (aN 17 (mN 4 (rd cM 90 (tN 16)))) (aN 17 (mN 4 (rd cM 90 (tN 16)))) 0) (eqN (rd cM 90 (tN 16)) 0)) (inN 16 (alF 90)))
set_option maxHeartbeats 4000000 in
set_option maxRecDepth 20000 in
theorem spX11_readWork {post : MM → Int64 → Prop} {q : Nat → Nat → Bool} (hq : ∀ (M : MM) (tl : Int64) (cM ct : Nat), M = dM cM → tl = i64 ct → q cM ct = true → post M tl) {M : MM} {tl : Int64} {cM ct  : Nat} (hM : M = dM cM) (ht : tl = i64 ct)  (h : epX11_readWork q  cM ct  = true) : wpX11_readWork post  M tl  := by
  unfold wpX11_readWork
  refine e_and (k_in (rfl : (16 : Int32) = nI 16) (r_al (rfl : (90 : Nat) = 90))) h (fun h => ?_)
  refine e_ite (c_eq (r_rd hM (rfl : (90 : Nat) = 90) (r_nat (rfl : (16 : Int32) = nI 16))) (rfl : (0 : Int32) = nI 0)) h (fun h => ?_) (fun h => ?_)
  · exact sX11_readWork_37 hq  hM ht (r_rd hM (rfl : (90 : Nat) = 90) (r_nat (rfl : (16 : Int32) = nI 16))) (r_add (rfl : (17 : Int32) = nI 17) (r_mul (rfl : (4 : Int32) = nI 4) (r_rd hM (rfl : (90 : Nat) = 90) (r_nat (rfl : (16 : Int32) = nI 16))))) (r_add (rfl : (17 : Int32) = nI 17) (r_mul (rfl : (4 : Int32) = nI 4) (r_rd hM (rfl : (90 : Nat) = 90) (r_nat (rfl : (16 : Int32) = nI 16))))) (rfl : (0 : Int32) = nI 0) h
  · refine e_and (k_in (r_sub (r_add (rfl : (17 : Int32) = nI 17) (r_mul (rfl : (4 : Int32) = nI 4) (r_rd hM (rfl : (90 : Nat) = 90) (r_nat (rfl : (16 : Int32) = nI 16))))) (rfl : (4 : Int32) = nI 4)) (r_al (rfl : (90 : Nat) = 90))) h (fun h => ?_)
    exact sX11_readWork_37 hq  hM ht (r_rd hM (rfl : (90 : Nat) = 90) (r_nat (rfl : (16 : Int32) = nI 16))) (r_add (rfl : (17 : Int32) = nI 17) (r_mul (rfl : (4 : Int32) = nI 4) (r_rd hM (rfl : (90 : Nat) = 90) (r_nat (rfl : (16 : Int32) = nI 16))))) (r_add (rfl : (17 : Int32) = nI 17) (r_mul (rfl : (4 : Int32) = nI 4) (r_rd hM (rfl : (90 : Nat) = 90) (r_nat (rfl : (16 : Int32) = nI 16))))) (r_rd hM (rfl : (90 : Nat) = 90) (r_nat (r_sub (r_add (rfl : (17 : Int32) = nI 17) (r_mul (rfl : (4 : Int32) = nI 4) (r_rd hM (rfl : (90 : Nat) = 90) (r_nat (rfl : (16 : Int32) = nI 16))))) (rfl : (4 : Int32) = nI 4)))) h
noncomputable def eX11_readLaw_73 (q : Nat → Nat → Bool) (cM ct cv2 cv3 cs1 cs2 : Nat) : Bool :=
  (@Bool.rec (fun _ => Bool) false (wrB (fun cM2 => (wrB (fun cM3 => (q cM3 ct)) cM2 81 27 (Nat.lor (rd cM2 81 27) (Nat.lor (b2 f_shl 1 cv2) (b2 f_shl 1 cv3))))) cM 95 (tN cs1) cs2) (inN cs1 (alF 95)))
set_option maxHeartbeats 4000000 in
set_option maxRecDepth 20000 in
theorem sX11_readLaw_73 {post : MM → Int64 → Prop} {q : Nat → Nat → Bool} (hq : ∀ (M : MM) (tl : Int64) (cM ct : Nat), M = dM cM → tl = i64 ct → q cM ct = true → post M tl) {M : MM} {tl : Int64} {v2 : Int32} {v3 : Int32} {s1 : Int32} {s2 : Int32} {cM ct cv2 cv3 cs1 cs2 : Nat} (hM : M = dM cM) (ht : tl = i64 ct) (hv2 : v2 = nI cv2) (hv3 : v3 = nI cv3) (hs1 : s1 = nI cs1) (hs2 : s2 = nI cs2) (h : eX11_readLaw_73 q  cM ct cv2 cv3 cs1 cs2 = true) : wX11_readLaw_73 post  M tl v2 v3 s1 s2 := by
  unfold wX11_readLaw_73
  refine e_and (k_in hs1 (r_al (rfl : (95 : Nat) = 95))) h (fun h => ?_)
  refine e_wr h hM (rfl : (95 : Nat) = 95) (r_nat hs1) hs2 (fun M2 cM2 hM2 h => ?_)
  refine e_wr h hM2 (rfl : (81 : Nat) = 81) (rfl : (27 : Nat) = 27) (r_or (r_rd hM2 (rfl : (81 : Nat) = 81) (rfl : (27 : Nat) = 27)) (r_or (r_b2 f_shl (rfl : (1 : Int32) = nI 1) hv2) (r_b2 f_shl (rfl : (1 : Int32) = nI 1) hv3))) (fun M3 cM3 hM3 h => ?_)
  exact hq _ _ _ _ hM3 ht h
noncomputable def eX11_readLaw_50 (q : Nat → Nat → Bool) (cM ct cv2 cv3 cs1 cs2 : Nat) : Bool :=
  (@Bool.rec (fun _ => Bool) false (wrB (fun cM2 => (@Bool.rec (fun _ => Bool) (@Bool.rec (fun _ => Bool) false (eX11_readLaw_73 q  cM2 ct cv2 cv3 cv3 (rd cM2 95 (tN cv3))) (inN cv3 (alF 95))) (eX11_readLaw_73 q  cM2 ct cv2 cv3 cv3 cv2) (eqN (rd cM2 81 36) 0))) cM 95 (tN cs1) cs2) (inN cs1 (alF 95)))
set_option maxHeartbeats 4000000 in
set_option maxRecDepth 20000 in
theorem sX11_readLaw_50 {post : MM → Int64 → Prop} {q : Nat → Nat → Bool} (hq : ∀ (M : MM) (tl : Int64) (cM ct : Nat), M = dM cM → tl = i64 ct → q cM ct = true → post M tl) {M : MM} {tl : Int64} {v2 : Int32} {v3 : Int32} {s1 : Int32} {s2 : Int32} {cM ct cv2 cv3 cs1 cs2 : Nat} (hM : M = dM cM) (ht : tl = i64 ct) (hv2 : v2 = nI cv2) (hv3 : v3 = nI cv3) (hs1 : s1 = nI cs1) (hs2 : s2 = nI cs2) (h : eX11_readLaw_50 q  cM ct cv2 cv3 cs1 cs2 = true) : wX11_readLaw_50 post  M tl v2 v3 s1 s2 := by
  unfold wX11_readLaw_50
  refine e_and (k_in hs1 (r_al (rfl : (95 : Nat) = 95))) h (fun h => ?_)
  refine e_wr h hM (rfl : (95 : Nat) = 95) (r_nat hs1) hs2 (fun M2 cM2 hM2 h => ?_)
  refine e_ite (c_eq (r_rd hM2 (rfl : (81 : Nat) = 81) (rfl : (36 : Nat) = 36)) (rfl : (0 : Int32) = nI 0)) h (fun h => ?_) (fun h => ?_)
  · exact sX11_readLaw_73 hq  hM2 ht hv2 hv3 hv3 hv2 h
  · refine e_and (k_in hv3 (r_al (rfl : (95 : Nat) = 95))) h (fun h => ?_)
    exact sX11_readLaw_73 hq  hM2 ht hv2 hv3 hv3 (r_rd hM2 (rfl : (95 : Nat) = 95) (r_nat hv3)) h
noncomputable def eX11_readLaw_166 (q : Nat → Nat → Bool) (cM ct cv2 cv3 cs1 cs2 : Nat) : Bool :=
  (@Bool.rec (fun _ => Bool) false (wrB (fun cM2 => (wrB (fun cM3 => (q cM3 ct)) cM2 81 28 (Nat.lor (rd cM2 81 28) (Nat.lor (b2 f_shl 1 cv2) (b2 f_shl 1 cv3))))) cM 96 (tN cs1) cs2) (inN cs1 (alF 96)))
set_option maxHeartbeats 4000000 in
set_option maxRecDepth 20000 in
theorem sX11_readLaw_166 {post : MM → Int64 → Prop} {q : Nat → Nat → Bool} (hq : ∀ (M : MM) (tl : Int64) (cM ct : Nat), M = dM cM → tl = i64 ct → q cM ct = true → post M tl) {M : MM} {tl : Int64} {v2 : Int32} {v3 : Int32} {s1 : Int32} {s2 : Int32} {cM ct cv2 cv3 cs1 cs2 : Nat} (hM : M = dM cM) (ht : tl = i64 ct) (hv2 : v2 = nI cv2) (hv3 : v3 = nI cv3) (hs1 : s1 = nI cs1) (hs2 : s2 = nI cs2) (h : eX11_readLaw_166 q  cM ct cv2 cv3 cs1 cs2 = true) : wX11_readLaw_166 post  M tl v2 v3 s1 s2 := by
  unfold wX11_readLaw_166
  refine e_and (k_in hs1 (r_al (rfl : (96 : Nat) = 96))) h (fun h => ?_)
  refine e_wr h hM (rfl : (96 : Nat) = 96) (r_nat hs1) hs2 (fun M2 cM2 hM2 h => ?_)
  refine e_wr h hM2 (rfl : (81 : Nat) = 81) (rfl : (28 : Nat) = 28) (r_or (r_rd hM2 (rfl : (81 : Nat) = 81) (rfl : (28 : Nat) = 28)) (r_or (r_b2 f_shl (rfl : (1 : Int32) = nI 1) hv2) (r_b2 f_shl (rfl : (1 : Int32) = nI 1) hv3))) (fun M3 cM3 hM3 h => ?_)
  exact hq _ _ _ _ hM3 ht h
noncomputable def eX11_readLaw_143 (q : Nat → Nat → Bool) (cM ct cv2 cv3 cs1 cs2 : Nat) : Bool :=
  (@Bool.rec (fun _ => Bool) false (wrB (fun cM2 => (@Bool.rec (fun _ => Bool) (@Bool.rec (fun _ => Bool) false (eX11_readLaw_166 q  cM2 ct cv2 cv3 cv3 (rd cM2 96 (tN cv3))) (inN cv3 (alF 96))) (eX11_readLaw_166 q  cM2 ct cv2 cv3 cv3 cv2) (eqN (rd cM2 81 36) 0))) cM 96 (tN cs1) cs2) (inN cs1 (alF 96)))
set_option maxHeartbeats 4000000 in
set_option maxRecDepth 20000 in
theorem sX11_readLaw_143 {post : MM → Int64 → Prop} {q : Nat → Nat → Bool} (hq : ∀ (M : MM) (tl : Int64) (cM ct : Nat), M = dM cM → tl = i64 ct → q cM ct = true → post M tl) {M : MM} {tl : Int64} {v2 : Int32} {v3 : Int32} {s1 : Int32} {s2 : Int32} {cM ct cv2 cv3 cs1 cs2 : Nat} (hM : M = dM cM) (ht : tl = i64 ct) (hv2 : v2 = nI cv2) (hv3 : v3 = nI cv3) (hs1 : s1 = nI cs1) (hs2 : s2 = nI cs2) (h : eX11_readLaw_143 q  cM ct cv2 cv3 cs1 cs2 = true) : wX11_readLaw_143 post  M tl v2 v3 s1 s2 := by
  unfold wX11_readLaw_143
  refine e_and (k_in hs1 (r_al (rfl : (96 : Nat) = 96))) h (fun h => ?_)
  refine e_wr h hM (rfl : (96 : Nat) = 96) (r_nat hs1) hs2 (fun M2 cM2 hM2 h => ?_)
  refine e_ite (c_eq (r_rd hM2 (rfl : (81 : Nat) = 81) (rfl : (36 : Nat) = 36)) (rfl : (0 : Int32) = nI 0)) h (fun h => ?_) (fun h => ?_)
  · exact sX11_readLaw_166 hq  hM2 ht hv2 hv3 hv3 hv2 h
  · refine e_and (k_in hv3 (r_al (rfl : (96 : Nat) = 96))) h (fun h => ?_)
    exact sX11_readLaw_166 hq  hM2 ht hv2 hv3 hv3 (r_rd hM2 (rfl : (96 : Nat) = 96) (r_nat hv3)) h
noncomputable def epX11_readLaw (q : Nat → Nat → Bool) (cM ct cv1 : Nat) : Bool :=
  (@Bool.rec (fun _ => Bool) (@Bool.rec (fun _ => Bool) (@Bool.rec (fun _ => Bool) (epX11_readNumber (fun cr3 cM1 ct2 => (@Bool.rec (fun _ => Bool) false (epX11_readKind (fun cr7 cM5 ct6 => (@Bool.rec (fun _ => Bool) false (wrB (fun cM9 => (q cM9 ct6)) cM5 94 (tN cr3) (Nat.lor (rd cM1 94 (tN cr3)) (b2 f_shl 1 cr7))) (inN cr3 (alF 94)))) cM1 ct2 0) (inN cr3 (alF 94)))) cM ct 0 1) (epX11_readKind (fun cr12 cM10 ct11 => (wrB (fun cM13 => (q cM13 ct11)) cM10 81 22 (Nat.lor (rd cM 81 22) (b2 f_shl 1 cr12)))) cM ct 0) (eqN cv1 19)) (epX11_readColour (fun cr16 cM14 ct15 => (epX11_readColour (fun cr19 cM17 ct18 => (@Bool.rec (fun _ => Bool) (@Bool.rec (fun _ => Bool) false (eX11_readLaw_143 q  cM17 ct18 cr16 cr19 cr16 (rd cM17 96 (tN cr16))) (inN cr16 (alF 96))) (eX11_readLaw_143 q  cM17 ct18 cr16 cr19 cr16 cr19) (eqN (rd cM17 81 36) 0))) cM14 ct15 (Nat.lor (rd cM14 81 28) (b2 f_shl 1 cr16)))) cM ct (rd cM 81 28)) (eqN cv1 18)) (epX11_readKind (fun cr23 cM21 ct22 => (epX11_readKind (fun cr26 cM24 ct25 => (@Bool.rec (fun _ => Bool) (@Bool.rec (fun _ => Bool) false (eX11_readLaw_50 q  cM24 ct25 cr23 cr26 cr23 (rd cM24 95 (tN cr23))) (inN cr23 (alF 95))) (eX11_readLaw_50 q  cM24 ct25 cr23 cr26 cr23 cr26) (eqN (rd cM24 81 36) 0))) cM21 ct22 (Nat.lor (rd cM21 81 27) (b2 f_shl 1 cr23)))) cM ct (rd cM 81 27)) (eqN cv1 17))
set_option maxHeartbeats 4000000 in
set_option maxRecDepth 20000 in
theorem spX11_readLaw {post : MM → Int64 → Prop} {q : Nat → Nat → Bool} (hq : ∀ (M : MM) (tl : Int64) (cM ct : Nat), M = dM cM → tl = i64 ct → q cM ct = true → post M tl) {M : MM} {tl : Int64} {v1 : Int32} {cM ct cv1 : Nat} (hM : M = dM cM) (ht : tl = i64 ct) (hv1 : v1 = nI cv1) (h : epX11_readLaw q  cM ct cv1 = true) : wpX11_readLaw post  M tl v1 := by
  unfold wpX11_readLaw
  refine e_ite (c_eq hv1 (rfl : (17 : Int32) = nI 17)) h (fun h => ?_) (fun h => ?_)
  · refine spX11_readKind (fun r23 M21 t22 cr23 cM21 ct22 hr23 hM21 ht22 h => ?_) hM ht (r_rd hM (rfl : (81 : Nat) = 81) (rfl : (27 : Nat) = 27)) h
    refine spX11_readKind (fun r26 M24 t25 cr26 cM24 ct25 hr26 hM24 ht25 h => ?_) hM21 ht22 (r_or (r_rd hM21 (rfl : (81 : Nat) = 81) (rfl : (27 : Nat) = 27)) (r_b2 f_shl (rfl : (1 : Int32) = nI 1) hr23)) h
    refine e_ite (c_eq (r_rd hM24 (rfl : (81 : Nat) = 81) (rfl : (36 : Nat) = 36)) (rfl : (0 : Int32) = nI 0)) h (fun h => ?_) (fun h => ?_)
    · exact sX11_readLaw_50 hq  hM24 ht25 hr23 hr26 hr23 hr26 h
    · refine e_and (k_in hr23 (r_al (rfl : (95 : Nat) = 95))) h (fun h => ?_)
      exact sX11_readLaw_50 hq  hM24 ht25 hr23 hr26 hr23 (r_rd hM24 (rfl : (95 : Nat) = 95) (r_nat hr23)) h
  · refine e_ite (c_eq hv1 (rfl : (18 : Int32) = nI 18)) h (fun h => ?_) (fun h => ?_)
    · refine spX11_readColour (fun r16 M14 t15 cr16 cM14 ct15 hr16 hM14 ht15 h => ?_) hM ht (r_rd hM (rfl : (81 : Nat) = 81) (rfl : (28 : Nat) = 28)) h
      refine spX11_readColour (fun r19 M17 t18 cr19 cM17 ct18 hr19 hM17 ht18 h => ?_) hM14 ht15 (r_or (r_rd hM14 (rfl : (81 : Nat) = 81) (rfl : (28 : Nat) = 28)) (r_b2 f_shl (rfl : (1 : Int32) = nI 1) hr16)) h
      refine e_ite (c_eq (r_rd hM17 (rfl : (81 : Nat) = 81) (rfl : (36 : Nat) = 36)) (rfl : (0 : Int32) = nI 0)) h (fun h => ?_) (fun h => ?_)
      · exact sX11_readLaw_143 hq  hM17 ht18 hr16 hr19 hr16 hr19 h
      · refine e_and (k_in hr16 (r_al (rfl : (96 : Nat) = 96))) h (fun h => ?_)
        exact sX11_readLaw_143 hq  hM17 ht18 hr16 hr19 hr16 (r_rd hM17 (rfl : (96 : Nat) = 96) (r_nat hr16)) h
    · refine e_ite (c_eq hv1 (rfl : (19 : Int32) = nI 19)) h (fun h => ?_) (fun h => ?_)
      · refine spX11_readKind (fun r12 M10 t11 cr12 cM10 ct11 hr12 hM10 ht11 h => ?_) hM ht (rfl : (0 : Int32) = nI 0) h
        refine e_wr h hM10 (rfl : (81 : Nat) = 81) (rfl : (22 : Nat) = 22) (r_or (r_rd hM (rfl : (81 : Nat) = 81) (rfl : (22 : Nat) = 22)) (r_b2 f_shl (rfl : (1 : Int32) = nI 1) hr12)) (fun M13 cM13 hM13 h => ?_)
        exact hq _ _ _ _ hM13 ht11 h
      · refine spX11_readNumber (fun r3 M1 t2 cr3 cM1 ct2 hr3 hM1 ht2 h => ?_) hM ht (rfl : (0 : Int32) = nI 0) (rfl : (1 : Int32) = nI 1) h
        refine e_and (k_in hr3 (r_al (rfl : (94 : Nat) = 94))) h (fun h => ?_)
        refine spX11_readKind (fun r7 M5 t6 cr7 cM5 ct6 hr7 hM5 ht6 h => ?_) hM1 ht2 (rfl : (0 : Int32) = nI 0) h
        refine e_and (k_in hr3 (r_al (rfl : (94 : Nat) = 94))) h (fun h => ?_)
        refine e_wr h hM5 (rfl : (94 : Nat) = 94) (r_nat hr3) (r_or (r_rd hM1 (rfl : (94 : Nat) = 94) (r_nat hr3)) (r_b2 f_shl (rfl : (1 : Int32) = nI 1) hr7)) (fun M9 cM9 hM9 h => ?_)
        exact hq _ _ _ _ hM9 ht6 h
noncomputable def eX11_readLineOf_108 (q : Nat → Nat → Bool) (n : Nat) : Nat → Nat → Nat → Bool :=
  @Nat.rec (fun _ => Nat → Nat → Nat → Bool) (fun _ _ _ => false) (fun _ ih cM ct cv2 => (@Bool.rec (fun _ => Bool) (epX11_readNumber (fun cr3 cM1 ct2 => (@Bool.rec (fun _ => Bool) false (wrB (fun cM5 => (ih cM5 ct2 (aN cv2 1))) cM1 91 (tN cv2) cr3) (inN cv2 (alF 91)))) cM ct 1 9) (q cM ct) (leN 4 cv2))) n
set_option maxHeartbeats 4000000 in
set_option maxRecDepth 20000 in
theorem sX11_readLineOf_108 {post : MM → Int64 → Prop} {q : Nat → Nat → Bool} (hq : ∀ (M : MM) (tl : Int64) (cM ct : Nat), M = dM cM → tl = i64 ct → q cM ct = true → post M tl) : ∀ (n : Nat) (M : MM) (tl : Int64) (v2 : Int32) (cM ct cv2 : Nat), M = dM cM → tl = i64 ct → v2 = nI cv2 → eX11_readLineOf_108 q  n cM ct cv2 = true → wX11_readLineOf_108 post  n M tl v2 := by
  intro n
  induction n with
  | zero => intro M tl v2 cM ct cv2 hM ht hv2 h; exact Bool.noConfusion h
  | succ n ih =>
    intro M tl v2 cM ct cv2 hM ht hv2 h
    unfold wX11_readLineOf_108
    refine e_ite (c_le (rfl : (4 : Int32) = nI 4) hv2) h (fun h => ?_) (fun h => ?_)
    · exact hq _ _ _ _ hM ht h
    · refine spX11_readNumber (fun r3 M1 t2 cr3 cM1 ct2 hr3 hM1 ht2 h => ?_) hM ht (rfl : (1 : Int32) = nI 1) (rfl : (9 : Int32) = nI 9) h
      refine e_and (k_in hv2 (r_al (rfl : (91 : Nat) = 91))) h (fun h => ?_)
      refine e_wr h hM1 (rfl : (91 : Nat) = 91) (r_nat hv2) hr3 (fun M5 cM5 hM5 h => ?_)
      exact ih _ _ _ _ _ _ hM5 ht2 (r_add hv2 (rfl : (1 : Int32) = nI 1)) h
noncomputable def eX11_readLineOf_147 (q : Nat → Nat → Bool) (cM ct cs1 : Nat) : Bool :=
  (epX11_readCosts (fun cM1 ct2 => (q cM1 ct2)) cM ct cs1)
set_option maxHeartbeats 4000000 in
set_option maxRecDepth 20000 in
theorem sX11_readLineOf_147 {post : MM → Int64 → Prop} {q : Nat → Nat → Bool} (hq : ∀ (M : MM) (tl : Int64) (cM ct : Nat), M = dM cM → tl = i64 ct → q cM ct = true → post M tl) {M : MM} {tl : Int64} {s1 : Int32} {cM ct cs1 : Nat} (hM : M = dM cM) (ht : tl = i64 ct) (hs1 : s1 = nI cs1) (h : eX11_readLineOf_147 q  cM ct cs1 = true) : wX11_readLineOf_147 post  M tl s1 := by
  unfold wX11_readLineOf_147
  refine spX11_readCosts (fun M1 t2 cM1 ct2 hM1 ht2 h => ?_) hM ht hs1 h
  exact hq _ _ _ _ hM1 ht2 h
noncomputable def epX11_readLineOf (q : Nat → Nat → Bool) (cM ct cv1 : Nat) : Bool :=
  (@Bool.rec (fun _ => Bool) (@Bool.rec (fun _ => Bool) (@Bool.rec (fun _ => Bool) (@Bool.rec (fun _ => Bool) (@Bool.rec (fun _ => Bool) (@Bool.rec (fun _ => Bool) (@Bool.rec (fun _ => Bool) (@Bool.rec (fun _ => Bool) (@Bool.rec (fun _ => Bool) (@Bool.rec (fun _ => Bool) (@Bool.rec (fun _ => Bool) (@Bool.rec (fun _ => Bool) (epX11_readLaw (fun cM37 ct38 => (q cM37 ct38)) cM ct cv1) (epX11_readWork (fun cM35 ct36 => (q cM35 ct36)) cM ct) (eqN cv1 21)) (epX11_readThing (fun cM32 ct33 => (q cM32 ct33)) cM ct) (eqN cv1 20)) (epX11_readLaw (fun cM29 ct30 => (q cM29 ct30)) cM ct cv1) (eqN cv1 19)) (epX11_readLaw (fun cM26 ct27 => (q cM26 ct27)) cM ct cv1) (eqN cv1 18)) (epX11_readLaw (fun cM23 ct24 => (q cM23 ct24)) cM ct cv1) (eqN cv1 17)) (epX11_readLaw (fun cM20 ct21 => (q cM20 ct21)) cM ct cv1) (eqN cv1 16)) (@Bool.rec (fun _ => Bool) (eX11_readLineOf_147 q  cM ct 0) (eX11_readLineOf_147 q  cM ct 1) (eqN cv1 14)) (eqN cv1 15)) (@Bool.rec (fun _ => Bool) (eX11_readLineOf_147 q  cM ct 0) (eX11_readLineOf_147 q  cM ct 1) (eqN cv1 14)) (eqN cv1 14)) (eX11_readLineOf_108 q  5000 cM ct 0) (eqN cv1 13)) (epX11_readNumber (fun cr14 cM12 ct13 => (wrB (fun cM15 => (q cM15 ct13)) cM12 81 15 cr14)) cM ct 0 20) (eqN cv1 12)) (epX11_readNumber (fun cr9 cM7 ct8 => (wrB (fun cM10 => (q cM10 ct8)) cM7 81 14 cr9)) cM ct 0 6) (eqN cv1 11)) (epX11_readNumber (fun cr4 cM2 ct3 => (wrB (fun cM5 => (q cM5 ct3)) cM2 81 13 cr4)) cM ct 1 8) (eqN cv1 10))
set_option maxHeartbeats 4000000 in
set_option maxRecDepth 20000 in
theorem spX11_readLineOf {post : MM → Int64 → Prop} {q : Nat → Nat → Bool} (hq : ∀ (M : MM) (tl : Int64) (cM ct : Nat), M = dM cM → tl = i64 ct → q cM ct = true → post M tl) {M : MM} {tl : Int64} {v1 : Int32} {cM ct cv1 : Nat} (hM : M = dM cM) (ht : tl = i64 ct) (hv1 : v1 = nI cv1) (h : epX11_readLineOf q  cM ct cv1 = true) : wpX11_readLineOf post  M tl v1 := by
  unfold wpX11_readLineOf
  refine e_ite (c_eq hv1 (rfl : (10 : Int32) = nI 10)) h (fun h => ?_) (fun h => ?_)
  · refine spX11_readNumber (fun r4 M2 t3 cr4 cM2 ct3 hr4 hM2 ht3 h => ?_) hM ht (rfl : (1 : Int32) = nI 1) (rfl : (8 : Int32) = nI 8) h
    refine e_wr h hM2 (rfl : (81 : Nat) = 81) (rfl : (13 : Nat) = 13) hr4 (fun M5 cM5 hM5 h => ?_)
    exact hq _ _ _ _ hM5 ht3 h
  · refine e_ite (c_eq hv1 (rfl : (11 : Int32) = nI 11)) h (fun h => ?_) (fun h => ?_)
    · refine spX11_readNumber (fun r9 M7 t8 cr9 cM7 ct8 hr9 hM7 ht8 h => ?_) hM ht (rfl : (0 : Int32) = nI 0) (rfl : (6 : Int32) = nI 6) h
      refine e_wr h hM7 (rfl : (81 : Nat) = 81) (rfl : (14 : Nat) = 14) hr9 (fun M10 cM10 hM10 h => ?_)
      exact hq _ _ _ _ hM10 ht8 h
    · refine e_ite (c_eq hv1 (rfl : (12 : Int32) = nI 12)) h (fun h => ?_) (fun h => ?_)
      · refine spX11_readNumber (fun r14 M12 t13 cr14 cM12 ct13 hr14 hM12 ht13 h => ?_) hM ht (rfl : (0 : Int32) = nI 0) (rfl : (20 : Int32) = nI 20) h
        refine e_wr h hM12 (rfl : (81 : Nat) = 81) (rfl : (15 : Nat) = 15) hr14 (fun M15 cM15 hM15 h => ?_)
        exact hq _ _ _ _ hM15 ht13 h
      · refine e_ite (c_eq hv1 (rfl : (13 : Int32) = nI 13)) h (fun h => ?_) (fun h => ?_)
        · exact ⟨5000, sX11_readLineOf_108 hq  5000 _ _ _ _ _ _ hM ht (rfl : (0 : Int32) = nI 0) h⟩
        · refine e_ite (c_eq hv1 (rfl : (14 : Int32) = nI 14)) h (fun h => ?_) (fun h => ?_)
          · refine e_ite (c_eq hv1 (rfl : (14 : Int32) = nI 14)) h (fun h => ?_) (fun h => ?_)
            · exact sX11_readLineOf_147 hq  hM ht (rfl : (1 : Int32) = nI 1) h
            · exact sX11_readLineOf_147 hq  hM ht (rfl : (0 : Int32) = nI 0) h
          · refine e_ite (c_eq hv1 (rfl : (15 : Int32) = nI 15)) h (fun h => ?_) (fun h => ?_)
            · refine e_ite (c_eq hv1 (rfl : (14 : Int32) = nI 14)) h (fun h => ?_) (fun h => ?_)
              · exact sX11_readLineOf_147 hq  hM ht (rfl : (1 : Int32) = nI 1) h
              · exact sX11_readLineOf_147 hq  hM ht (rfl : (0 : Int32) = nI 0) h
            · refine e_ite (c_eq hv1 (rfl : (16 : Int32) = nI 16)) h (fun h => ?_) (fun h => ?_)
              · refine spX11_readLaw (fun M20 t21 cM20 ct21 hM20 ht21 h => ?_) hM ht hv1 h
                exact hq _ _ _ _ hM20 ht21 h
              · refine e_ite (c_eq hv1 (rfl : (17 : Int32) = nI 17)) h (fun h => ?_) (fun h => ?_)
                · refine spX11_readLaw (fun M23 t24 cM23 ct24 hM23 ht24 h => ?_) hM ht hv1 h
                  exact hq _ _ _ _ hM23 ht24 h
                · refine e_ite (c_eq hv1 (rfl : (18 : Int32) = nI 18)) h (fun h => ?_) (fun h => ?_)
                  · refine spX11_readLaw (fun M26 t27 cM26 ct27 hM26 ht27 h => ?_) hM ht hv1 h
                    exact hq _ _ _ _ hM26 ht27 h
                  · refine e_ite (c_eq hv1 (rfl : (19 : Int32) = nI 19)) h (fun h => ?_) (fun h => ?_)
                    · refine spX11_readLaw (fun M29 t30 cM29 ct30 hM29 ht30 h => ?_) hM ht hv1 h
                      exact hq _ _ _ _ hM29 ht30 h
                    · refine e_ite (c_eq hv1 (rfl : (20 : Int32) = nI 20)) h (fun h => ?_) (fun h => ?_)
                      · refine spX11_readThing (fun M32 t33 cM32 ct33 hM32 ht33 h => ?_) hM ht h
                        exact hq _ _ _ _ hM32 ht33 h
                      · refine e_ite (c_eq hv1 (rfl : (21 : Int32) = nI 21)) h (fun h => ?_) (fun h => ?_)
                        · refine spX11_readWork (fun M35 t36 cM35 ct36 hM35 ht36 h => ?_) hM ht h
                          exact hq _ _ _ _ hM35 ht36 h
                        · refine spX11_readLaw (fun M37 t38 cM37 ct38 hM37 ht38 h => ?_) hM ht hv1 h
                          exact hq _ _ _ _ hM37 ht38 h
noncomputable def eX11_readLine_150 (q : Nat → Nat → Bool) (cM ct  : Nat) : Bool :=
  (epX11_next (fun cM1 ct2 => (q cM1 ct2)) cM ct)
set_option maxHeartbeats 4000000 in
set_option maxRecDepth 20000 in
theorem sX11_readLine_150 {post : MM → Int64 → Prop} {q : Nat → Nat → Bool} (hq : ∀ (M : MM) (tl : Int64) (cM ct : Nat), M = dM cM → tl = i64 ct → q cM ct = true → post M tl) {M : MM} {tl : Int64} {cM ct  : Nat} (hM : M = dM cM) (ht : tl = i64 ct)  (h : eX11_readLine_150 q  cM ct  = true) : wX11_readLine_150 post  M tl  := by
  unfold wX11_readLine_150
  refine spX11_next (fun M1 t2 cM1 ct2 hM1 ht2 h => ?_) hM ht h
  exact hq _ _ _ _ hM1 ht2 h
noncomputable def eX11_readLine_146 (q : Nat → Nat → Bool) (cM ct cs1 : Nat) : Bool :=
  (epX11_needs (fun cM1 ct2 => (eX11_readLine_150 q  cM1 ct2)) cM ct cs1 2)
set_option maxHeartbeats 4000000 in
set_option maxRecDepth 20000 in
theorem sX11_readLine_146 {post : MM → Int64 → Prop} {q : Nat → Nat → Bool} (hq : ∀ (M : MM) (tl : Int64) (cM ct : Nat), M = dM cM → tl = i64 ct → q cM ct = true → post M tl) {M : MM} {tl : Int64} {s1 : Int32} {cM ct cs1 : Nat} (hM : M = dM cM) (ht : tl = i64 ct) (hs1 : s1 = nI cs1) (h : eX11_readLine_146 q  cM ct cs1 = true) : wX11_readLine_146 post  M tl s1 := by
  unfold wX11_readLine_146
  refine spX11_needs (fun M1 t2 cM1 ct2 hM1 ht2 h => ?_) hM ht hs1 (rfl : (2 : Int32) = nI 2) h
  exact sX11_readLine_150 hq  hM1 ht2 h
noncomputable def eX11_readLine_108 (q : Nat → Nat → Bool) (cM ct cv1 : Nat) : Bool :=
  (epX11_next (fun cM1 ct2 => (@Bool.rec (fun _ => Bool) (q cM1 ct2) (epX11_readLineOf (fun cM3 ct4 => (@Bool.rec (fun _ => Bool) (eX11_readLine_150 q  cM3 ct4) (@Bool.rec (fun _ => Bool) (eX11_readLine_146 q  cM3 ct4 0) (eX11_readLine_146 q  cM3 ct4 1) (eqN (rd cM3 81 34) 3)) (eqN (rd cM3 81 36) 0))) cM1 ct2 cv1) (leN (rd cM1 81 36) 0))) cM ct)
set_option maxHeartbeats 4000000 in
set_option maxRecDepth 20000 in
theorem sX11_readLine_108 {post : MM → Int64 → Prop} {q : Nat → Nat → Bool} (hq : ∀ (M : MM) (tl : Int64) (cM ct : Nat), M = dM cM → tl = i64 ct → q cM ct = true → post M tl) {M : MM} {tl : Int64} {v1 : Int32} {cM ct cv1 : Nat} (hM : M = dM cM) (ht : tl = i64 ct) (hv1 : v1 = nI cv1) (h : eX11_readLine_108 q  cM ct cv1 = true) : wX11_readLine_108 post  M tl v1 := by
  unfold wX11_readLine_108
  refine spX11_next (fun M1 t2 cM1 ct2 hM1 ht2 h => ?_) hM ht h
  refine e_ite (c_le (r_rd hM1 (rfl : (81 : Nat) = 81) (rfl : (36 : Nat) = 36)) (rfl : (0 : Int32) = nI 0)) h (fun h => ?_) (fun h => ?_)
  · refine spX11_readLineOf (fun M3 t4 cM3 ct4 hM3 ht4 h => ?_) hM1 ht2 hv1 h
    refine e_ite (c_eq (r_rd hM3 (rfl : (81 : Nat) = 81) (rfl : (36 : Nat) = 36)) (rfl : (0 : Int32) = nI 0)) h (fun h => ?_) (fun h => ?_)
    · refine e_ite (c_eq (r_rd hM3 (rfl : (81 : Nat) = 81) (rfl : (34 : Nat) = 34)) (rfl : (3 : Int32) = nI 3)) h (fun h => ?_) (fun h => ?_)
      · exact sX11_readLine_146 hq  hM3 ht4 (rfl : (1 : Int32) = nI 1) h
      · exact sX11_readLine_146 hq  hM3 ht4 (rfl : (0 : Int32) = nI 0) h
    · exact sX11_readLine_150 hq  hM3 ht4 h
  · exact hq _ _ _ _ hM1 ht2 h
noncomputable def eX11_readLine_92 (q : Nat → Nat → Bool) (cM ct cv1 cs1 : Nat) : Bool :=
  (epX11_needs (fun cM1 ct2 => (wrB (fun cM3 => (eX11_readLine_108 q  cM3 ct2 cv1)) cM1 81 23 (Nat.lor (rd cM1 81 23) (b2 f_shl 1 cv1)))) cM ct cs1 4)
set_option maxHeartbeats 4000000 in
set_option maxRecDepth 20000 in
theorem sX11_readLine_92 {post : MM → Int64 → Prop} {q : Nat → Nat → Bool} (hq : ∀ (M : MM) (tl : Int64) (cM ct : Nat), M = dM cM → tl = i64 ct → q cM ct = true → post M tl) {M : MM} {tl : Int64} {v1 : Int32} {s1 : Int32} {cM ct cv1 cs1 : Nat} (hM : M = dM cM) (ht : tl = i64 ct) (hv1 : v1 = nI cv1) (hs1 : s1 = nI cs1) (h : eX11_readLine_92 q  cM ct cv1 cs1 = true) : wX11_readLine_92 post  M tl v1 s1 := by
  unfold wX11_readLine_92
  refine spX11_needs (fun M1 t2 cM1 ct2 hM1 ht2 h => ?_) hM ht hs1 (rfl : (4 : Int32) = nI 4) h
  refine e_wr h hM1 (rfl : (81 : Nat) = 81) (rfl : (23 : Nat) = 23) (r_or (r_rd hM1 (rfl : (81 : Nat) = 81) (rfl : (23 : Nat) = 23)) (r_b2 f_shl (rfl : (1 : Int32) = nI 1) hv1)) (fun M3 cM3 hM3 h => ?_)
  exact sX11_readLine_108 hq  hM3 ht2 hv1 h
noncomputable def eX11_readLine_58 (q : Nat → Nat → Bool) (cM ct cv1 cs1 : Nat) : Bool :=
  (epX11_needs (fun cM1 ct2 => (@Bool.rec (fun _ => Bool) (eX11_readLine_108 q  cM1 ct2 cv1) (@Bool.rec (fun _ => Bool) (@Bool.rec (fun _ => Bool) (eX11_readLine_92 q  cM1 ct2 cv1 0) (eX11_readLine_92 q  cM1 ct2 cv1 1) (eqN (Nat.land (b2 f_shr (rd cM1 81 23) cv1) 1) 0)) (eX11_readLine_108 q  cM1 ct2 cv1) (ltN 13 cv1)) (eqN (rd cM1 81 36) 0))) cM ct cs1 5)
set_option maxHeartbeats 4000000 in
set_option maxRecDepth 20000 in
theorem sX11_readLine_58 {post : MM → Int64 → Prop} {q : Nat → Nat → Bool} (hq : ∀ (M : MM) (tl : Int64) (cM ct : Nat), M = dM cM → tl = i64 ct → q cM ct = true → post M tl) {M : MM} {tl : Int64} {v1 : Int32} {s1 : Int32} {cM ct cv1 cs1 : Nat} (hM : M = dM cM) (ht : tl = i64 ct) (hv1 : v1 = nI cv1) (hs1 : s1 = nI cs1) (h : eX11_readLine_58 q  cM ct cv1 cs1 = true) : wX11_readLine_58 post  M tl v1 s1 := by
  unfold wX11_readLine_58
  refine spX11_needs (fun M1 t2 cM1 ct2 hM1 ht2 h => ?_) hM ht hs1 (rfl : (5 : Int32) = nI 5) h
  refine e_ite (c_eq (r_rd hM1 (rfl : (81 : Nat) = 81) (rfl : (36 : Nat) = 36)) (rfl : (0 : Int32) = nI 0)) h (fun h => ?_) (fun h => ?_)
  · refine e_ite (c_lt (rfl : (13 : Int32) = nI 13) hv1) h (fun h => ?_) (fun h => ?_)
    · exact sX11_readLine_108 hq  hM1 ht2 hv1 h
    · refine e_ite (c_eq (r_and (r_b2 f_shr (r_rd hM1 (rfl : (81 : Nat) = 81) (rfl : (23 : Nat) = 23)) hv1) (rfl : (1 : Int32) = nI 1)) (rfl : (0 : Int32) = nI 0)) h (fun h => ?_) (fun h => ?_)
      · exact sX11_readLine_92 hq  hM1 ht2 hv1 (rfl : (1 : Int32) = nI 1) h
      · exact sX11_readLine_92 hq  hM1 ht2 hv1 (rfl : (0 : Int32) = nI 0) h
  · exact sX11_readLine_108 hq  hM1 ht2 hv1 h
noncomputable def eX11_readLine_53 (q : Nat → Nat → Bool) (cM ct cv1 : Nat) : Bool :=
  (eX11_readLine_58 q  cM ct cv1 1)
set_option maxHeartbeats 4000000 in
set_option maxRecDepth 20000 in
theorem sX11_readLine_53 {post : MM → Int64 → Prop} {q : Nat → Nat → Bool} (hq : ∀ (M : MM) (tl : Int64) (cM ct : Nat), M = dM cM → tl = i64 ct → q cM ct = true → post M tl) {M : MM} {tl : Int64} {v1 : Int32} {cM ct cv1 : Nat} (hM : M = dM cM) (ht : tl = i64 ct) (hv1 : v1 = nI cv1) (h : eX11_readLine_53 q  cM ct cv1 = true) : wX11_readLine_53 post  M tl v1 := by
  unfold wX11_readLine_53
  exact sX11_readLine_58 hq  hM ht hv1 (rfl : (1 : Int32) = nI 1) h
noncomputable def eX11_readLine_30 (q : Nat → Nat → Bool) (cM ct cv1 cs1 : Nat) : Bool :=
  (epX11_needs (fun cM1 ct2 => (@Bool.rec (fun _ => Bool) (eX11_readLine_53 q  cM1 ct2 cv1) (@Bool.rec (fun _ => Bool) false (@Bool.rec (fun _ => Bool) (eX11_readLine_53 q  cM1 ct2 cv1) (eX11_readLine_58 q  cM1 ct2 cv1 0) (leN 12 (rd cM1 90 (tN 16)))) (inN 16 (alF 90))) (eqN cv1 21))) cM ct cs1 2)
set_option maxHeartbeats 4000000 in
set_option maxRecDepth 20000 in
theorem sX11_readLine_30 {post : MM → Int64 → Prop} {q : Nat → Nat → Bool} (hq : ∀ (M : MM) (tl : Int64) (cM ct : Nat), M = dM cM → tl = i64 ct → q cM ct = true → post M tl) {M : MM} {tl : Int64} {v1 : Int32} {s1 : Int32} {cM ct cv1 cs1 : Nat} (hM : M = dM cM) (ht : tl = i64 ct) (hv1 : v1 = nI cv1) (hs1 : s1 = nI cs1) (h : eX11_readLine_30 q  cM ct cv1 cs1 = true) : wX11_readLine_30 post  M tl v1 s1 := by
  unfold wX11_readLine_30
  refine spX11_needs (fun M1 t2 cM1 ct2 hM1 ht2 h => ?_) hM ht hs1 (rfl : (2 : Int32) = nI 2) h
  refine e_ite (c_eq hv1 (rfl : (21 : Int32) = nI 21)) h (fun h => ?_) (fun h => ?_)
  · refine e_and (k_in (rfl : (16 : Int32) = nI 16) (r_al (rfl : (90 : Nat) = 90))) h (fun h => ?_)
    refine e_ite (c_le (rfl : (12 : Int32) = nI 12) (r_rd hM1 (rfl : (90 : Nat) = 90) (r_nat (rfl : (16 : Int32) = nI 16)))) h (fun h => ?_) (fun h => ?_)
    · exact sX11_readLine_58 hq  hM1 ht2 hv1 (rfl : (0 : Int32) = nI 0) h
    · exact sX11_readLine_53 hq  hM1 ht2 hv1 h
  · exact sX11_readLine_53 hq  hM1 ht2 hv1 h
noncomputable def eX11_readLine_17 (q : Nat → Nat → Bool) (cM ct cs0 : Nat) : Bool :=
  (@Bool.rec (fun _ => Bool) (eX11_readLine_30 q  cM ct cs0 1) (eX11_readLine_30 q  cM ct cs0 0) (eqN cs0 4294967292))
set_option maxHeartbeats 4000000 in
set_option maxRecDepth 20000 in
theorem sX11_readLine_17 {post : MM → Int64 → Prop} {q : Nat → Nat → Bool} (hq : ∀ (M : MM) (tl : Int64) (cM ct : Nat), M = dM cM → tl = i64 ct → q cM ct = true → post M tl) {M : MM} {tl : Int64} {s0 : Int32} {cM ct cs0 : Nat} (hM : M = dM cM) (ht : tl = i64 ct) (hs0 : s0 = nI cs0) (h : eX11_readLine_17 q  cM ct cs0 = true) : wX11_readLine_17 post  M tl s0 := by
  unfold wX11_readLine_17
  refine e_ite (c_eq hs0 lm4) h (fun h => ?_) (fun h => ?_)
  · exact sX11_readLine_30 hq  hM ht hs0 (rfl : (0 : Int32) = nI 0) h
  · exact sX11_readLine_30 hq  hM ht hs0 (rfl : (1 : Int32) = nI 1) h
noncomputable def epX11_readLine (q : Nat → Nat → Bool) (cM ct  : Nat) : Bool :=
  (@Bool.rec (fun _ => Bool) (eX11_readLine_17 q  cM ct 4294967292) (epX11_lineNow (fun cr3 cM1 ct2 => (eX11_readLine_17 q  cM1 ct2 cr3)) cM ct) (eqN (rd cM 81 34) 1))
set_option maxHeartbeats 4000000 in
set_option maxRecDepth 20000 in
theorem spX11_readLine {post : MM → Int64 → Prop} {q : Nat → Nat → Bool} (hq : ∀ (M : MM) (tl : Int64) (cM ct : Nat), M = dM cM → tl = i64 ct → q cM ct = true → post M tl) {M : MM} {tl : Int64} {cM ct  : Nat} (hM : M = dM cM) (ht : tl = i64 ct)  (h : epX11_readLine q  cM ct  = true) : wpX11_readLine post  M tl  := by
  unfold wpX11_readLine
  refine e_ite (c_eq (r_rd hM (rfl : (81 : Nat) = 81) (rfl : (34 : Nat) = 34)) (rfl : (1 : Int32) = nI 1)) h (fun h => ?_) (fun h => ?_)
  · refine spX11_lineNow (fun r3 M1 t2 cr3 cM1 ct2 hr3 hM1 ht2 h => ?_) hM ht h
    exact sX11_readLine_17 hq  hM1 ht2 hr3 h
  · exact sX11_readLine_17 hq  hM ht lm4 h
noncomputable def eX11_text_73 (q : Nat → Nat → Nat → Bool) (cM ct cv1 : Nat) : Bool :=
  (wrB (fun cM1 => (@Bool.rec (fun _ => Bool) (q (sN 4294967286 (rd cM1 81 37)) cM1 ct) (epX11_keepDraft (fun cM2 ct3 => (q cv1 cM2 ct3)) cM1 ct) (leN (rd cM1 81 36) 0))) cM 81 31 0)
set_option maxHeartbeats 4000000 in
set_option maxRecDepth 20000 in
theorem sX11_text_73 {post : Int32 → MM → Int64 → Prop} {q : Nat → Nat → Nat → Bool} (hq : ∀ (r : Int32) (M : MM) (tl : Int64) (cr cM ct : Nat), r = nI cr → M = dM cM → tl = i64 ct → q cr cM ct = true → post r M tl) {M : MM} {tl : Int64} {v1 : Int32} {cM ct cv1 : Nat} (hM : M = dM cM) (ht : tl = i64 ct) (hv1 : v1 = nI cv1) (h : eX11_text_73 q  cM ct cv1 = true) : wX11_text_73 post  M tl v1 := by
  unfold wX11_text_73
  refine e_wr h hM (rfl : (81 : Nat) = 81) (rfl : (31 : Nat) = 31) (rfl : (0 : Int32) = nI 0) (fun M1 cM1 hM1 h => ?_)
  refine e_ite (c_le (r_rd hM1 (rfl : (81 : Nat) = 81) (rfl : (36 : Nat) = 36)) (rfl : (0 : Int32) = nI 0)) h (fun h => ?_) (fun h => ?_)
  · refine spX11_keepDraft (fun M2 t3 cM2 ct3 hM2 ht3 h => ?_) hM1 ht h
    exact hq _ _ _ _ _ _ hv1 hM2 ht3 h
  · exact hq _ _ _ _ _ _ (r_sub lm10 (r_rd hM1 (rfl : (81 : Nat) = 81) (rfl : (37 : Nat) = 37))) hM1 ht h
noncomputable def eX11_text_68 (q : Nat → Nat → Nat → Bool) (cM ct cv1 cs1 : Nat) : Bool :=
  (epX11_needs (fun cM1 ct2 => (eX11_text_73 q  cM1 ct2 cv1)) cM ct cs1 6)
set_option maxHeartbeats 4000000 in
set_option maxRecDepth 20000 in
theorem sX11_text_68 {post : Int32 → MM → Int64 → Prop} {q : Nat → Nat → Nat → Bool} (hq : ∀ (r : Int32) (M : MM) (tl : Int64) (cr cM ct : Nat), r = nI cr → M = dM cM → tl = i64 ct → q cr cM ct = true → post r M tl) {M : MM} {tl : Int64} {v1 : Int32} {s1 : Int32} {cM ct cv1 cs1 : Nat} (hM : M = dM cM) (ht : tl = i64 ct) (hv1 : v1 = nI cv1) (hs1 : s1 = nI cs1) (h : eX11_text_68 q  cM ct cv1 cs1 = true) : wX11_text_68 post  M tl v1 s1 := by
  unfold wX11_text_68
  refine spX11_needs (fun M1 t2 cM1 ct2 hM1 ht2 h => ?_) hM ht hs1 (rfl : (6 : Int32) = nI 6) h
  exact sX11_text_73 hq  hM1 ht2 hv1 h
noncomputable def eX11_text_44 (q : Nat → Nat → Nat → Bool) (cM ct cv1 : Nat) : Bool :=
  (@Bool.rec (fun _ => Bool) (eX11_text_73 q  cM ct cv1) (@Bool.rec (fun _ => Bool) (eX11_text_68 q  cM ct cv1 1) (eX11_text_68 q  cM ct cv1 0) (leN (rd cM 81 13) (rd cM 81 29))) (eqN (rd cM 81 36) 0))
set_option maxHeartbeats 4000000 in
set_option maxRecDepth 20000 in
theorem sX11_text_44 {post : Int32 → MM → Int64 → Prop} {q : Nat → Nat → Nat → Bool} (hq : ∀ (r : Int32) (M : MM) (tl : Int64) (cr cM ct : Nat), r = nI cr → M = dM cM → tl = i64 ct → q cr cM ct = true → post r M tl) {M : MM} {tl : Int64} {v1 : Int32} {cM ct cv1 : Nat} (hM : M = dM cM) (ht : tl = i64 ct) (hv1 : v1 = nI cv1) (h : eX11_text_44 q  cM ct cv1 = true) : wX11_text_44 post  M tl v1 := by
  unfold wX11_text_44
  refine e_ite (c_eq (r_rd hM (rfl : (81 : Nat) = 81) (rfl : (36 : Nat) = 36)) (rfl : (0 : Int32) = nI 0)) h (fun h => ?_) (fun h => ?_)
  · refine e_ite (c_le (r_rd hM (rfl : (81 : Nat) = 81) (rfl : (13 : Nat) = 13)) (r_rd hM (rfl : (81 : Nat) = 81) (rfl : (29 : Nat) = 29))) h (fun h => ?_) (fun h => ?_)
    · exact sX11_text_68 hq  hM ht hv1 (rfl : (0 : Int32) = nI 0) h
    · exact sX11_text_68 hq  hM ht hv1 (rfl : (1 : Int32) = nI 1) h
  · exact sX11_text_73 hq  hM ht hv1 h
noncomputable def eX11_text_20 (q : Nat → Nat → Nat → Bool) (n : Nat) : Nat → Nat → Nat → Bool :=
  @Nat.rec (fun _ => Nat → Nat → Nat → Bool) (fun _ _ _ => false) (fun _ ih cM ct cv1 => (@Bool.rec (fun _ => Bool) (eX11_text_44 q  cM ct cv1) (@Bool.rec (fun _ => Bool) (epX11_readLine (fun cM1 ct2 => (ih cM1 ct2 (aN cv1 1))) cM ct) (eX11_text_44 q  cM ct cv1) (eqN (rd cM 81 34) 0)) (eqN (rd cM 81 36) 0))) n
set_option maxHeartbeats 4000000 in
set_option maxRecDepth 20000 in
theorem sX11_text_20 {post : Int32 → MM → Int64 → Prop} {q : Nat → Nat → Nat → Bool} (hq : ∀ (r : Int32) (M : MM) (tl : Int64) (cr cM ct : Nat), r = nI cr → M = dM cM → tl = i64 ct → q cr cM ct = true → post r M tl) : ∀ (n : Nat) (M : MM) (tl : Int64) (v1 : Int32) (cM ct cv1 : Nat), M = dM cM → tl = i64 ct → v1 = nI cv1 → eX11_text_20 q  n cM ct cv1 = true → wX11_text_20 post  n M tl v1 := by
  intro n
  induction n with
  | zero => intro M tl v1 cM ct cv1 hM ht hv1 h; exact Bool.noConfusion h
  | succ n ih =>
    intro M tl v1 cM ct cv1 hM ht hv1 h
    unfold wX11_text_20
    refine e_ite (c_eq (r_rd hM (rfl : (81 : Nat) = 81) (rfl : (36 : Nat) = 36)) (rfl : (0 : Int32) = nI 0)) h (fun h => ?_) (fun h => ?_)
    · refine e_ite (c_eq (r_rd hM (rfl : (81 : Nat) = 81) (rfl : (34 : Nat) = 34)) (rfl : (0 : Int32) = nI 0)) h (fun h => ?_) (fun h => ?_)
      · exact sX11_text_44 hq  hM ht hv1 h
      · refine spX11_readLine (fun M1 t2 cM1 ct2 hM1 ht2 h => ?_) hM ht h
        exact ih _ _ _ _ _ _ hM1 ht2 (r_add hv1 (rfl : (1 : Int32) = nI 1)) h
    · exact sX11_text_44 hq  hM ht hv1 h
noncomputable def epX11_text (q : Nat → Nat → Nat → Bool) (cM ct  : Nat) : Bool :=
  (wrB (fun cM1 => (wrB (fun cM2 => (epX11_firstDraft (fun cM3 ct4 => (epX11_next (fun cM5 ct6 => (eX11_text_20 q  5000 cM5 ct6 0)) cM3 ct4)) cM2 ct)) cM1 81 32 0)) cM 81 36 0)
set_option maxHeartbeats 4000000 in
set_option maxRecDepth 20000 in
theorem spX11_text {post : Int32 → MM → Int64 → Prop} {q : Nat → Nat → Nat → Bool} (hq : ∀ (r : Int32) (M : MM) (tl : Int64) (cr cM ct : Nat), r = nI cr → M = dM cM → tl = i64 ct → q cr cM ct = true → post r M tl) {M : MM} {tl : Int64} {cM ct  : Nat} (hM : M = dM cM) (ht : tl = i64 ct)  (h : epX11_text q  cM ct  = true) : wpX11_text post  M tl  := by
  unfold wpX11_text
  refine e_wr h hM (rfl : (81 : Nat) = 81) (rfl : (36 : Nat) = 36) (rfl : (0 : Int32) = nI 0) (fun M1 cM1 hM1 h => ?_)
  refine e_wr h hM1 (rfl : (81 : Nat) = 81) (rfl : (32 : Nat) = 32) (rfl : (0 : Int32) = nI 0) (fun M2 cM2 hM2 h => ?_)
  refine spX11_firstDraft (fun M3 t4 cM3 ct4 hM3 ht4 h => ?_) hM2 ht h
  refine spX11_next (fun M5 t6 cM5 ct6 hM5 ht6 h => ?_) hM3 ht4 h
  exact ⟨5000, sX11_text_20 hq  5000 _ _ _ _ _ _ hM5 ht6 (rfl : (0 : Int32) = nI 0) h⟩
noncomputable def epX11_fault (q : Nat → Nat → Nat → Bool) (cM ct  : Nat) : Bool :=
  (q (rd cM 81 36) cM ct)
set_option maxHeartbeats 4000000 in
set_option maxRecDepth 20000 in
theorem spX11_fault {post : Int32 → MM → Int64 → Prop} {q : Nat → Nat → Nat → Bool} (hq : ∀ (r : Int32) (M : MM) (tl : Int64) (cr cM ct : Nat), r = nI cr → M = dM cM → tl = i64 ct → q cr cM ct = true → post r M tl) {M : MM} {tl : Int64} {cM ct  : Nat} (hM : M = dM cM) (ht : tl = i64 ct)  (h : epX11_fault q  cM ct  = true) : wpX11_fault post  M tl  := by
  unfold wpX11_fault
  exact hq _ _ _ _ _ _ (r_rd hM (rfl : (81 : Nat) = 81) (rfl : (36 : Nat) = 36)) hM ht h
