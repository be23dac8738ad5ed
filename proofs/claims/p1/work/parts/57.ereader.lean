noncomputable def epX4_restart (q : Nat → Nat → Bool) (cM ct  : Nat) : Bool :=
  (epX1_setFirst (fun cM1 ct2 => (epX7_clear (fun cM3 ct4 => (wrB (fun cM5 => (wrB (fun cM6 => (wrB (fun cM7 => (wrB (fun cM8 => (q cM8 0)) cM7 22 6 0)) cM6 22 4 0)) cM5 22 3 0)) cM3 22 2 0)) cM1 ct2 34)) cM ct 23)
set_option maxHeartbeats 4000000 in
set_option maxRecDepth 20000 in
theorem spX4_restart {post : MM → Int64 → Prop} {q : Nat → Nat → Bool} (hq : ∀ (M : MM) (tl : Int64) (cM ct : Nat), M = dM cM → tl = i64 ct → q cM ct = true → post M tl) {M : MM} {tl : Int64} {cM ct  : Nat} (hM : M = dM cM) (ht : tl = i64 ct)  (h : epX4_restart q  cM ct  = true) : wpX4_restart post  M tl  := by
  unfold wpX4_restart
  unfold epX4_restart at h
  refine spX1_setFirst (fun M1 t2 cM1 ct2 hM1 ht2 h => ?_) hM ht (rfl : (23 : Nat) = 23) h
  refine spX7_clear (fun M3 t4 cM3 ct4 hM3 ht4 h => ?_) hM1 ht2 (rfl : (34 : Nat) = 34) h
  refine e_wr h hM3 (rfl : (22 : Nat) = 22) (rfl : (2 : Nat) = 2) (rfl : (0 : Int32) = nI 0) (fun M5 cM5 hM5 h => ?_)
  refine e_wr h hM5 (rfl : (22 : Nat) = 22) (rfl : (3 : Nat) = 3) (rfl : (0 : Int32) = nI 0) (fun M6 cM6 hM6 h => ?_)
  refine e_wr h hM6 (rfl : (22 : Nat) = 22) (rfl : (4 : Nat) = 4) (rfl : (0 : Int32) = nI 0) (fun M7 cM7 hM7 h => ?_)
  refine e_wr h hM7 (rfl : (22 : Nat) = 22) (rfl : (6 : Nat) = 6) (rfl : (0 : Int32) = nI 0) (fun M8 cM8 hM8 h => ?_)
  exact hq _ _ _ _ hM8 (rfl : (0 : Int64) = i64 0) h
noncomputable def eX4_typeOf_34 (q : Nat → Nat → Nat → Bool) (cM ct cv0 : Nat) : Bool :=
  (@Bool.rec (fun _ => Bool) (q 4 cM ct) (q 3 cM ct) (eqN cv0 59))
set_option maxHeartbeats 4000000 in
set_option maxRecDepth 20000 in
theorem sX4_typeOf_34 {post : Int32 → MM → Int64 → Prop} {q : Nat → Nat → Nat → Bool} (hq : ∀ (r : Int32) (M : MM) (tl : Int64) (cr cM ct : Nat), r = nI cr → M = dM cM → tl = i64 ct → q cr cM ct = true → post r M tl) {M : MM} {tl : Int64} {v0 : Int32} {cM ct cv0 : Nat} (hM : M = dM cM) (ht : tl = i64 ct) (hv0 : v0 = nI cv0) (h : eX4_typeOf_34 q  cM ct cv0 = true) : wX4_typeOf_34 post  M tl v0 := by
  unfold wX4_typeOf_34
  unfold eX4_typeOf_34 at h
  refine e_ite (c_eq hv0 (rfl : (59 : Int32) = nI 59)) h (fun h => ?_) (fun h => ?_)
  · exact hq _ _ _ _ _ _ (rfl : (3 : Int32) = nI 3) hM ht h
  · exact hq _ _ _ _ _ _ (rfl : (4 : Int32) = nI 4) hM ht h
noncomputable def eX4_typeOf_20 (q : Nat → Nat → Nat → Bool) (cM ct cv0 : Nat) : Bool :=
  (@Bool.rec (fun _ => Bool) (@Bool.rec (fun _ => Bool) (q 2 cM ct) (eX4_typeOf_34 q  cM ct cv0) (ltN 57 cv0)) (eX4_typeOf_34 q  cM ct cv0) (ltN cv0 48))
set_option maxHeartbeats 4000000 in
set_option maxRecDepth 20000 in
theorem sX4_typeOf_20 {post : Int32 → MM → Int64 → Prop} {q : Nat → Nat → Nat → Bool} (hq : ∀ (r : Int32) (M : MM) (tl : Int64) (cr cM ct : Nat), r = nI cr → M = dM cM → tl = i64 ct → q cr cM ct = true → post r M tl) {M : MM} {tl : Int64} {v0 : Int32} {cM ct cv0 : Nat} (hM : M = dM cM) (ht : tl = i64 ct) (hv0 : v0 = nI cv0) (h : eX4_typeOf_20 q  cM ct cv0 = true) : wX4_typeOf_20 post  M tl v0 := by
  unfold wX4_typeOf_20
  unfold eX4_typeOf_20 at h
  refine e_ite (c_lt hv0 (rfl : (48 : Int32) = nI 48)) h (fun h => ?_) (fun h => ?_)
  · exact sX4_typeOf_34 hq  hM ht hv0 h
  · refine e_ite (c_lt (rfl : (57 : Int32) = nI 57) hv0) h (fun h => ?_) (fun h => ?_)
    · exact sX4_typeOf_34 hq  hM ht hv0 h
    · exact hq _ _ _ _ _ _ (rfl : (2 : Int32) = nI 2) hM ht h
noncomputable def epX4_typeOf (q : Nat → Nat → Nat → Bool) (cM ct cv0 : Nat) : Bool :=
  (@Bool.rec (fun _ => Bool) (q 0 cM ct) (@Bool.rec (fun _ => Bool) (@Bool.rec (fun _ => Bool) (q 1 cM ct) (eX4_typeOf_20 q  cM ct cv0) (ltN 122 cv0)) (eX4_typeOf_20 q  cM ct cv0) (ltN cv0 97)) (leN 0 cv0))
set_option maxHeartbeats 4000000 in
set_option maxRecDepth 20000 in
theorem spX4_typeOf {post : Int32 → MM → Int64 → Prop} {q : Nat → Nat → Nat → Bool} (hq : ∀ (r : Int32) (M : MM) (tl : Int64) (cr cM ct : Nat), r = nI cr → M = dM cM → tl = i64 ct → q cr cM ct = true → post r M tl) {M : MM} {tl : Int64} {v0 : Int32} {cM ct cv0 : Nat} (hM : M = dM cM) (ht : tl = i64 ct) (hv0 : v0 = nI cv0) (h : epX4_typeOf q  cM ct cv0 = true) : wpX4_typeOf post  M tl v0 := by
  unfold wpX4_typeOf
  unfold epX4_typeOf at h
  refine e_ite (c_le (rfl : (0 : Int32) = nI 0) hv0) h (fun h => ?_) (fun h => ?_)
  · refine e_ite (c_lt hv0 (rfl : (97 : Int32) = nI 97)) h (fun h => ?_) (fun h => ?_)
    · exact sX4_typeOf_20 hq  hM ht hv0 h
    · refine e_ite (c_lt (rfl : (122 : Int32) = nI 122) hv0) h (fun h => ?_) (fun h => ?_)
      · exact sX4_typeOf_20 hq  hM ht hv0 h
      · exact hq _ _ _ _ _ _ (rfl : (1 : Int32) = nI 1) hM ht h
  · exact hq _ _ _ _ _ _ (rfl : (0 : Int32) = nI 0) hM ht h
noncomputable def epX4_fail (q : Nat → Nat → Nat → Bool) (cM ct cv1 cv2 : Nat) : Bool :=
  (wrB (fun cM1 => (wrB (fun cM2 => (q 4294967295 cM2 ct)) cM1 22 3 cv2)) cM 22 2 cv1)
set_option maxHeartbeats 4000000 in
set_option maxRecDepth 20000 in
theorem spX4_fail {post : Int32 → MM → Int64 → Prop} {q : Nat → Nat → Nat → Bool} (hq : ∀ (r : Int32) (M : MM) (tl : Int64) (cr cM ct : Nat), r = nI cr → M = dM cM → tl = i64 ct → q cr cM ct = true → post r M tl) {M : MM} {tl : Int64} {v1 : Int32} {v2 : Int32} {cM ct cv1 cv2 : Nat} (hM : M = dM cM) (ht : tl = i64 ct) (hv1 : v1 = nI cv1) (hv2 : v2 = nI cv2) (h : epX4_fail q  cM ct cv1 cv2 = true) : wpX4_fail post  M tl v1 v2 := by
  unfold wpX4_fail
  unfold epX4_fail at h
  refine e_wr h hM (rfl : (22 : Nat) = 22) (rfl : (2 : Nat) = 2) hv1 (fun M1 cM1 hM1 h => ?_)
  refine e_wr h hM1 (rfl : (22 : Nat) = 22) (rfl : (3 : Nat) = 3) hv2 (fun M2 cM2 hM2 h => ?_)
  exact hq _ _ _ _ _ _ lm1 hM2 ht h
noncomputable def eX4_takeToken_186 (q : Nat → Nat → Bool) (cbk100 : Nat → Nat → Bool) (cM ct cs1 : Nat) : Bool :=
  (wrB (fun cM1 => (wrB (fun cM2 => (cbk100 cM2 ct)) cM1 22 6 (aN (rd cM1 22 6) 1))) cM 22 9 cs1)
set_option maxHeartbeats 4000000 in
set_option maxRecDepth 20000 in
theorem sX4_takeToken_186 {post : MM → Int64 → Prop} {q : Nat → Nat → Bool} (hq : ∀ (M : MM) (tl : Int64) (cM ct : Nat), M = dM cM → tl = i64 ct → q cM ct = true → post M tl) {bk100 : MM → Int64 → Prop} {cbk100 : Nat → Nat → Bool} (hbk100 : ∀ (M : MM) (tl : Int64) (cM ct : Nat), M = dM cM → tl = i64 ct → cbk100 cM ct  = true → bk100 M tl ) {M : MM} {tl : Int64} {s1 : Int32} {cM ct cs1 : Nat} (hM : M = dM cM) (ht : tl = i64 ct) (hs1 : s1 = nI cs1) (h : eX4_takeToken_186 q cbk100 cM ct cs1 = true) : wX4_takeToken_186 post bk100 M tl s1 := by
  unfold wX4_takeToken_186
  unfold eX4_takeToken_186 at h
  refine e_wr h hM (rfl : (22 : Nat) = 22) (rfl : (9 : Nat) = 9) hs1 (fun M1 cM1 hM1 h => ?_)
  refine e_wr h hM1 (rfl : (22 : Nat) = 22) (rfl : (6 : Nat) = 6) (r_add (r_rd hM1 (rfl : (22 : Nat) = 22) (rfl : (6 : Nat) = 6)) (rfl : (1 : Int32) = nI 1)) (fun M2 cM2 hM2 h => ?_)
  exact hbk100 _ _ _ _ hM2 ht h
noncomputable def eX4_takeToken_231 (q : Nat → Nat → Bool) (cM ct  : Nat) : Bool :=
  (epX4_fail (fun cr3 cM1 ct2 => (q cM1 ct2)) cM ct 1 (rd cM 22 7))
set_option maxHeartbeats 4000000 in
set_option maxRecDepth 20000 in
theorem sX4_takeToken_231 {post : MM → Int64 → Prop} {q : Nat → Nat → Bool} (hq : ∀ (M : MM) (tl : Int64) (cM ct : Nat), M = dM cM → tl = i64 ct → q cM ct = true → post M tl) {M : MM} {tl : Int64} {cM ct  : Nat} (hM : M = dM cM) (ht : tl = i64 ct)  (h : eX4_takeToken_231 q  cM ct  = true) : wX4_takeToken_231 post  M tl  := by
  unfold wX4_takeToken_231
  unfold eX4_takeToken_231 at h
  refine spX4_fail (fun r3 M1 t2 cr3 cM1 ct2 hr3 hM1 ht2 h => ?_) hM ht (rfl : (1 : Int32) = nI 1) (r_rd hM (rfl : (22 : Nat) = 22) (rfl : (7 : Nat) = 7)) h
  exact hq _ _ _ _ hM1 ht2 h
noncomputable def eX4_takeToken_202 (q : Nat → Nat → Bool) (cM ct  : Nat) : Bool :=
  (@Bool.rec (fun _ => Bool) (@Bool.rec (fun _ => Bool) (q cM ct) (@Bool.rec (fun _ => Bool) (eX4_takeToken_231 q  cM ct) (q cM ct) (leN (sN (rd cM 22 6) (rd cM 22 7)) 2)) (eqN (rd cM 22 8) 2)) (eX4_takeToken_231 q  cM ct) (eqN (rd cM 22 8) 4))
set_option maxHeartbeats 4000000 in
set_option maxRecDepth 20000 in
theorem sX4_takeToken_202 {post : MM → Int64 → Prop} {q : Nat → Nat → Bool} (hq : ∀ (M : MM) (tl : Int64) (cM ct : Nat), M = dM cM → tl = i64 ct → q cM ct = true → post M tl) {M : MM} {tl : Int64} {cM ct  : Nat} (hM : M = dM cM) (ht : tl = i64 ct)  (h : eX4_takeToken_202 q  cM ct  = true) : wX4_takeToken_202 post  M tl  := by
  unfold wX4_takeToken_202
  unfold eX4_takeToken_202 at h
  refine e_ite (c_eq (r_rd hM (rfl : (22 : Nat) = 22) (rfl : (8 : Nat) = 8)) (rfl : (4 : Int32) = nI 4)) h (fun h => ?_) (fun h => ?_)
  · exact sX4_takeToken_231 hq  hM ht h
  · refine e_ite (c_eq (r_rd hM (rfl : (22 : Nat) = 22) (rfl : (8 : Nat) = 8)) (rfl : (2 : Int32) = nI 2)) h (fun h => ?_) (fun h => ?_)
    · refine e_ite (c_le (r_sub (r_rd hM (rfl : (22 : Nat) = 22) (rfl : (6 : Nat) = 6)) (r_rd hM (rfl : (22 : Nat) = 22) (rfl : (7 : Nat) = 7))) (rfl : (2 : Int32) = nI 2)) h (fun h => ?_) (fun h => ?_)
      · exact hq _ _ _ _ hM ht h
      · exact sX4_takeToken_231 hq  hM ht h
    · exact hq _ _ _ _ hM ht h
noncomputable def eX4_takeToken_130 (q : Nat → Nat → Bool) (cbk100 : Nat → Nat → Bool) (cM ct  : Nat) : Bool :=
  (epX9_byteAt (fun cr3 cM1 ct2 => (epX4_typeOf (fun cr6 cM4 ct5 => (@Bool.rec (fun _ => Bool) (eX4_takeToken_202 q  cM4 ct5) (@Bool.rec (fun _ => Bool) (eX4_takeToken_186 q cbk100 cM4 ct5 0) (epX9_byteAt (fun cr9 cM7 ct8 => (eX4_takeToken_186 q cbk100 cM7 ct8 (sN (aN (mN 10 (rd cM4 22 9)) cr9) 48))) cM4 ct5 (rd cM4 22 6)) (eqN (rd cM4 22 8) 2)) (eqN cr6 (rd cM4 22 8)))) cM1 ct2 cr3)) cM ct (rd cM 22 6))
set_option maxHeartbeats 4000000 in
set_option maxRecDepth 20000 in
theorem sX4_takeToken_130 {post : MM → Int64 → Prop} {q : Nat → Nat → Bool} (hq : ∀ (M : MM) (tl : Int64) (cM ct : Nat), M = dM cM → tl = i64 ct → q cM ct = true → post M tl) {bk100 : MM → Int64 → Prop} {cbk100 : Nat → Nat → Bool} (hbk100 : ∀ (M : MM) (tl : Int64) (cM ct : Nat), M = dM cM → tl = i64 ct → cbk100 cM ct  = true → bk100 M tl ) {M : MM} {tl : Int64} {cM ct  : Nat} (hM : M = dM cM) (ht : tl = i64 ct)  (h : eX4_takeToken_130 q cbk100 cM ct  = true) : wX4_takeToken_130 post bk100 M tl  := by
  unfold wX4_takeToken_130
  unfold eX4_takeToken_130 at h
  refine spX9_byteAt (fun r3 M1 t2 cr3 cM1 ct2 hr3 hM1 ht2 h => ?_) hM ht (r_rd hM (rfl : (22 : Nat) = 22) (rfl : (6 : Nat) = 6)) h
  refine spX4_typeOf (fun r6 M4 t5 cr6 cM4 ct5 hr6 hM4 ht5 h => ?_) hM1 ht2 hr3 h
  refine e_ite (c_eq hr6 (r_rd hM4 (rfl : (22 : Nat) = 22) (rfl : (8 : Nat) = 8))) h (fun h => ?_) (fun h => ?_)
  · refine e_ite (c_eq (r_rd hM4 (rfl : (22 : Nat) = 22) (rfl : (8 : Nat) = 8)) (rfl : (2 : Int32) = nI 2)) h (fun h => ?_) (fun h => ?_)
    · refine spX9_byteAt (fun r9 M7 t8 cr9 cM7 ct8 hr9 hM7 ht8 h => ?_) hM4 ht5 (r_rd hM4 (rfl : (22 : Nat) = 22) (rfl : (6 : Nat) = 6)) h
      exact sX4_takeToken_186 hq hbk100 hM7 ht8 (r_sub (r_add (r_mul (rfl : (10 : Int32) = nI 10) (r_rd hM4 (rfl : (22 : Nat) = 22) (rfl : (9 : Nat) = 9))) hr9) (rfl : (48 : Int32) = nI 48)) h
    · exact sX4_takeToken_186 hq hbk100 hM4 ht5 (rfl : (0 : Int32) = nI 0) h
  · exact sX4_takeToken_202 hq  hM4 ht5 h
noncomputable def eX4_takeToken_100 (q : Nat → Nat → Bool) (n : Nat) : Nat → Nat → Bool :=
  @Nat.rec (fun _ => Nat → Nat → Bool) (fun _ _ => false) (fun _ ih cM ct  => (@Bool.rec (fun _ => Bool) (@Bool.rec (fun _ => Bool) (@Bool.rec (fun _ => Bool) (eX4_takeToken_202 q  cM ct) (eX4_takeToken_130 q ih cM ct) (eqN (rd cM 22 8) 2)) (eX4_takeToken_130 q ih cM ct) (eqN (rd cM 22 8) 1)) (eX4_takeToken_202 q  cM ct) (leN (rd cM 1 1) (rd cM 22 6)))) n
set_option maxHeartbeats 4000000 in
set_option maxRecDepth 20000 in
theorem sX4_takeToken_100 {post : MM → Int64 → Prop} {q : Nat → Nat → Bool} (hq : ∀ (M : MM) (tl : Int64) (cM ct : Nat), M = dM cM → tl = i64 ct → q cM ct = true → post M tl) : ∀ (n : Nat) (M : MM) (tl : Int64) (cM ct  : Nat), M = dM cM → tl = i64 ct → eX4_takeToken_100 q  n cM ct  = true → wX4_takeToken_100 post  n M tl  := by
  intro n
  induction n with
  | zero => intro M tl  cM ct  hM ht  h; exact Bool.noConfusion h
  | succ n ih =>
    intro M tl  cM ct  hM ht  h
    unfold wX4_takeToken_100
    refine e_ite (c_le (r_rd hM (rfl : (1 : Nat) = 1) (rfl : (1 : Nat) = 1)) (r_rd hM (rfl : (22 : Nat) = 22) (rfl : (6 : Nat) = 6))) h (fun h => ?_) (fun h => ?_)
    · exact sX4_takeToken_202 hq  hM ht h
    · refine e_ite (c_eq (r_rd hM (rfl : (22 : Nat) = 22) (rfl : (8 : Nat) = 8)) (rfl : (1 : Int32) = nI 1)) h (fun h => ?_) (fun h => ?_)
      · exact sX4_takeToken_130 hq ih hM ht h
      · refine e_ite (c_eq (r_rd hM (rfl : (22 : Nat) = 22) (rfl : (8 : Nat) = 8)) (rfl : (2 : Int32) = nI 2)) h (fun h => ?_) (fun h => ?_)
        · exact sX4_takeToken_130 hq ih hM ht h
        · exact sX4_takeToken_202 hq  hM ht h
noncomputable def eX4_takeToken_51 (q : Nat → Nat → Bool) (cM ct  : Nat) : Bool :=
  (wrB (fun cM1 => (epX9_byteAt (fun cr4 cM2 ct3 => (epX4_typeOf (fun cr7 cM5 ct6 => (wrB (fun cM8 => (wrB (fun cM9 => (@Bool.rec (fun _ => Bool) (eX4_takeToken_100 q  5000 cM9 ct6) (wrB (fun cM10 => (eX4_takeToken_100 q  5000 cM10 ct6)) cM9 22 6 (aN (rd cM9 22 6) 1)) (eqN (rd cM9 22 8) 3))) cM8 22 9 0)) cM5 22 8 cr7)) cM2 ct3 cr4)) cM1 ct (rd cM1 22 6))) cM 22 7 (rd cM 22 6))
set_option maxHeartbeats 4000000 in
set_option maxRecDepth 20000 in
theorem sX4_takeToken_51 {post : MM → Int64 → Prop} {q : Nat → Nat → Bool} (hq : ∀ (M : MM) (tl : Int64) (cM ct : Nat), M = dM cM → tl = i64 ct → q cM ct = true → post M tl) {M : MM} {tl : Int64} {cM ct  : Nat} (hM : M = dM cM) (ht : tl = i64 ct)  (h : eX4_takeToken_51 q  cM ct  = true) : wX4_takeToken_51 post  M tl  := by
  unfold wX4_takeToken_51
  unfold eX4_takeToken_51 at h
  refine e_wr h hM (rfl : (22 : Nat) = 22) (rfl : (7 : Nat) = 7) (r_rd hM (rfl : (22 : Nat) = 22) (rfl : (6 : Nat) = 6)) (fun M1 cM1 hM1 h => ?_)
  refine spX9_byteAt (fun r4 M2 t3 cr4 cM2 ct3 hr4 hM2 ht3 h => ?_) hM1 ht (r_rd hM1 (rfl : (22 : Nat) = 22) (rfl : (6 : Nat) = 6)) h
  refine spX4_typeOf (fun r7 M5 t6 cr7 cM5 ct6 hr7 hM5 ht6 h => ?_) hM2 ht3 hr4 h
  refine e_wr h hM5 (rfl : (22 : Nat) = 22) (rfl : (8 : Nat) = 8) hr7 (fun M8 cM8 hM8 h => ?_)
  refine e_wr h hM8 (rfl : (22 : Nat) = 22) (rfl : (9 : Nat) = 9) (rfl : (0 : Int32) = nI 0) (fun M9 cM9 hM9 h => ?_)
  refine e_ite (c_eq (r_rd hM9 (rfl : (22 : Nat) = 22) (rfl : (8 : Nat) = 8)) (rfl : (3 : Int32) = nI 3)) h (fun h => ?_) (fun h => ?_)
  · refine e_wr h hM9 (rfl : (22 : Nat) = 22) (rfl : (6 : Nat) = 6) (r_add (r_rd hM9 (rfl : (22 : Nat) = 22) (rfl : (6 : Nat) = 6)) (rfl : (1 : Int32) = nI 1)) (fun M10 cM10 hM10 h => ?_)
    exact ⟨5000, sX4_takeToken_100 hq  5000 _ _ _ _ hM10 ht6 h⟩
  · exact ⟨5000, sX4_takeToken_100 hq  5000 _ _ _ _ hM9 ht6 h⟩
noncomputable def eX4_takeToken_8 (q : Nat → Nat → Bool) (n : Nat) : Nat → Nat → Bool :=
  @Nat.rec (fun _ => Nat → Nat → Bool) (fun _ _ => false) (fun _ ih cM ct  => (@Bool.rec (fun _ => Bool) (epX9_byteAt (fun cr3 cM1 ct2 => (@Bool.rec (fun _ => Bool) (eX4_takeToken_51 q  cM1 ct2) (wrB (fun cM4 => (ih cM4 ct2)) cM1 22 6 (aN (rd cM1 22 6) 1)) (eqN cr3 32))) cM ct (rd cM 22 6)) (eX4_takeToken_51 q  cM ct) (leN (rd cM 1 1) (rd cM 22 6)))) n
set_option maxHeartbeats 4000000 in
set_option maxRecDepth 20000 in
theorem sX4_takeToken_8 {post : MM → Int64 → Prop} {q : Nat → Nat → Bool} (hq : ∀ (M : MM) (tl : Int64) (cM ct : Nat), M = dM cM → tl = i64 ct → q cM ct = true → post M tl) : ∀ (n : Nat) (M : MM) (tl : Int64) (cM ct  : Nat), M = dM cM → tl = i64 ct → eX4_takeToken_8 q  n cM ct  = true → wX4_takeToken_8 post  n M tl  := by
  intro n
  induction n with
  | zero => intro M tl  cM ct  hM ht  h; exact Bool.noConfusion h
  | succ n ih =>
    intro M tl  cM ct  hM ht  h
    unfold wX4_takeToken_8
    refine e_ite (c_le (r_rd hM (rfl : (1 : Nat) = 1) (rfl : (1 : Nat) = 1)) (r_rd hM (rfl : (22 : Nat) = 22) (rfl : (6 : Nat) = 6))) h (fun h => ?_) (fun h => ?_)
    · exact sX4_takeToken_51 hq  hM ht h
    · refine spX9_byteAt (fun r3 M1 t2 cr3 cM1 ct2 hr3 hM1 ht2 h => ?_) hM ht (r_rd hM (rfl : (22 : Nat) = 22) (rfl : (6 : Nat) = 6)) h
      refine e_ite (c_eq hr3 (rfl : (32 : Int32) = nI 32)) h (fun h => ?_) (fun h => ?_)
      · refine e_wr h hM1 (rfl : (22 : Nat) = 22) (rfl : (6 : Nat) = 6) (r_add (r_rd hM1 (rfl : (22 : Nat) = 22) (rfl : (6 : Nat) = 6)) (rfl : (1 : Int32) = nI 1)) (fun M4 cM4 hM4 h => ?_)
        exact ih _ _ _ _ hM4 ht2 h
      · exact sX4_takeToken_51 hq  hM1 ht2 h
noncomputable def epX4_takeToken (q : Nat → Nat → Bool) (cM ct  : Nat) : Bool :=
  (@Bool.rec (fun _ => Bool) (q cM ct) (eX4_takeToken_8 q  5000 cM ct) (eqN (rd cM 22 2) 0))
set_option maxHeartbeats 4000000 in
set_option maxRecDepth 20000 in
theorem spX4_takeToken {post : MM → Int64 → Prop} {q : Nat → Nat → Bool} (hq : ∀ (M : MM) (tl : Int64) (cM ct : Nat), M = dM cM → tl = i64 ct → q cM ct = true → post M tl) {M : MM} {tl : Int64} {cM ct  : Nat} (hM : M = dM cM) (ht : tl = i64 ct)  (h : epX4_takeToken q  cM ct  = true) : wpX4_takeToken post  M tl  := by
  unfold wpX4_takeToken
  unfold epX4_takeToken at h
  refine e_ite (c_eq (r_rd hM (rfl : (22 : Nat) = 22) (rfl : (2 : Nat) = 2)) (rfl : (0 : Int32) = nI 0)) h (fun h => ?_) (fun h => ?_)
  · exact ⟨5000, sX4_takeToken_8 hq  5000 _ _ _ _ hM ht h⟩
  · exact hq _ _ _ _ hM ht h
noncomputable def eX4_nameAmong_135 (q : Nat → Nat → Nat → Bool) (cbk25 : Nat → Nat → Nat → Nat → Nat → Nat → Nat → Bool) (cM ct cv1 cv2 cv3 cv4 cv5 : Nat) : Bool :=
  (cbk25 cM ct cv1 cv2 cv3 cv4 (aN cv5 1))
set_option maxHeartbeats 4000000 in
set_option maxRecDepth 20000 in
theorem sX4_nameAmong_135 {post : Int32 → MM → Int64 → Prop} {q : Nat → Nat → Nat → Bool} (hq : ∀ (r : Int32) (M : MM) (tl : Int64) (cr cM ct : Nat), r = nI cr → M = dM cM → tl = i64 ct → q cr cM ct = true → post r M tl) {bk25 : MM → Int64 → Nat → Int32 → Int32 → Int32 → Int32 → Prop} {cbk25 : Nat → Nat → Nat → Nat → Nat → Nat → Nat → Bool} (hbk25 : ∀ (M : MM) (tl : Int64) (x0 : Nat) (x1 : Int32) (x2 : Int32) (x3 : Int32) (x4 : Int32) (cM ct cx0 cx1 cx2 cx3 cx4 : Nat), M = dM cM → tl = i64 ct → x0 = cx0 → x1 = nI cx1 → x2 = nI cx2 → x3 = nI cx3 → x4 = nI cx4 → cbk25 cM ct cx0 cx1 cx2 cx3 cx4 = true → bk25 M tl x0 x1 x2 x3 x4) {M : MM} {tl : Int64} {v1 : Nat} {v2 : Int32} {v3 : Int32} {v4 : Int32} {v5 : Int32} {cM ct cv1 cv2 cv3 cv4 cv5 : Nat} (hM : M = dM cM) (ht : tl = i64 ct) (hv1 : v1 = cv1) (hv2 : v2 = nI cv2) (hv3 : v3 = nI cv3) (hv4 : v4 = nI cv4) (hv5 : v5 = nI cv5) (h : eX4_nameAmong_135 q cbk25 cM ct cv1 cv2 cv3 cv4 cv5 = true) : wX4_nameAmong_135 post bk25 M tl v1 v2 v3 v4 v5 := by
  unfold wX4_nameAmong_135
  unfold eX4_nameAmong_135 at h
  exact hbk25 _ _ _ _ _ _ _ _ _ _ _ _ _ _ hM ht hv1 hv2 hv3 hv4 (r_add hv5 (rfl : (1 : Int32) = nI 1)) h
noncomputable def eX4_nameAmong_90 (q : Nat → Nat → Nat → Bool) (cbk25 : Nat → Nat → Nat → Nat → Nat → Nat → Nat → Bool) (cM ct cv1 cv2 cv3 cv5 cs0 : Nat) : Bool :=
  (eX4_nameAmong_135 q cbk25 cM ct cv1 cv2 cv3 cs0 cv5)
set_option maxHeartbeats 4000000 in
set_option maxRecDepth 20000 in
theorem sX4_nameAmong_90 {post : Int32 → MM → Int64 → Prop} {q : Nat → Nat → Nat → Bool} (hq : ∀ (r : Int32) (M : MM) (tl : Int64) (cr cM ct : Nat), r = nI cr → M = dM cM → tl = i64 ct → q cr cM ct = true → post r M tl) {bk25 : MM → Int64 → Nat → Int32 → Int32 → Int32 → Int32 → Prop} {cbk25 : Nat → Nat → Nat → Nat → Nat → Nat → Nat → Bool} (hbk25 : ∀ (M : MM) (tl : Int64) (x0 : Nat) (x1 : Int32) (x2 : Int32) (x3 : Int32) (x4 : Int32) (cM ct cx0 cx1 cx2 cx3 cx4 : Nat), M = dM cM → tl = i64 ct → x0 = cx0 → x1 = nI cx1 → x2 = nI cx2 → x3 = nI cx3 → x4 = nI cx4 → cbk25 cM ct cx0 cx1 cx2 cx3 cx4 = true → bk25 M tl x0 x1 x2 x3 x4) {M : MM} {tl : Int64} {v1 : Nat} {v2 : Int32} {v3 : Int32} {v5 : Int32} {s0 : Int32} {cM ct cv1 cv2 cv3 cv5 cs0 : Nat} (hM : M = dM cM) (ht : tl = i64 ct) (hv1 : v1 = cv1) (hv2 : v2 = nI cv2) (hv3 : v3 = nI cv3) (hv5 : v5 = nI cv5) (hs0 : s0 = nI cs0) (h : eX4_nameAmong_90 q cbk25 cM ct cv1 cv2 cv3 cv5 cs0 = true) : wX4_nameAmong_90 post bk25 M tl v1 v2 v3 v5 s0 := by
  unfold wX4_nameAmong_90
  unfold eX4_nameAmong_90 at h
  exact sX4_nameAmong_135 hq hbk25 hM ht hv1 hv2 hv3 hs0 hv5 h
noncomputable def eX4_nameAmong_69 (q : Nat → Nat → Nat → Bool) (cbk25 : Nat → Nat → Nat → Nat → Nat → Nat → Nat → Bool) (cM ct cv1 cv2 cv5 : Nat) : Bool :=
  (@Bool.rec (fun _ => Bool) (eX4_nameAmong_90 q cbk25 cM ct cv1 (aN cv2 1) (rd cM 22 7) cv5 0) (eX4_nameAmong_90 q cbk25 cM ct cv1 (aN cv2 1) (rd cM 22 7) cv5 1) (eqN (rd cM 22 8) 1))
set_option maxHeartbeats 4000000 in
set_option maxRecDepth 20000 in
theorem sX4_nameAmong_69 {post : Int32 → MM → Int64 → Prop} {q : Nat → Nat → Nat → Bool} (hq : ∀ (r : Int32) (M : MM) (tl : Int64) (cr cM ct : Nat), r = nI cr → M = dM cM → tl = i64 ct → q cr cM ct = true → post r M tl) {bk25 : MM → Int64 → Nat → Int32 → Int32 → Int32 → Int32 → Prop} {cbk25 : Nat → Nat → Nat → Nat → Nat → Nat → Nat → Bool} (hbk25 : ∀ (M : MM) (tl : Int64) (x0 : Nat) (x1 : Int32) (x2 : Int32) (x3 : Int32) (x4 : Int32) (cM ct cx0 cx1 cx2 cx3 cx4 : Nat), M = dM cM → tl = i64 ct → x0 = cx0 → x1 = nI cx1 → x2 = nI cx2 → x3 = nI cx3 → x4 = nI cx4 → cbk25 cM ct cx0 cx1 cx2 cx3 cx4 = true → bk25 M tl x0 x1 x2 x3 x4) {M : MM} {tl : Int64} {v1 : Nat} {v2 : Int32} {v5 : Int32} {cM ct cv1 cv2 cv5 : Nat} (hM : M = dM cM) (ht : tl = i64 ct) (hv1 : v1 = cv1) (hv2 : v2 = nI cv2) (hv5 : v5 = nI cv5) (h : eX4_nameAmong_69 q cbk25 cM ct cv1 cv2 cv5 = true) : wX4_nameAmong_69 post bk25 M tl v1 v2 v5 := by
  unfold wX4_nameAmong_69
  unfold eX4_nameAmong_69 at h
  refine e_ite (c_eq (r_rd hM (rfl : (22 : Nat) = 22) (rfl : (8 : Nat) = 8)) (rfl : (1 : Int32) = nI 1)) h (fun h => ?_) (fun h => ?_)
  · exact sX4_nameAmong_90 hq hbk25 hM ht hv1 (r_add hv2 (rfl : (1 : Int32) = nI 1)) (r_rd hM (rfl : (22 : Nat) = 22) (rfl : (7 : Nat) = 7)) hv5 (rfl : (1 : Int32) = nI 1) h
  · exact sX4_nameAmong_90 hq hbk25 hM ht hv1 (r_add hv2 (rfl : (1 : Int32) = nI 1)) (r_rd hM (rfl : (22 : Nat) = 22) (rfl : (7 : Nat) = 7)) hv5 (rfl : (0 : Int32) = nI 0) h
noncomputable def eX4_nameAmong_54 (q : Nat → Nat → Nat → Bool) (cbk25 : Nat → Nat → Nat → Nat → Nat → Nat → Nat → Bool) (cM ct cv1 cv2 cv3 cv4 cv5 : Nat) : Bool :=
  (@Bool.rec (fun _ => Bool) (@Bool.rec (fun _ => Bool) (eX4_nameAmong_69 q cbk25 cM ct cv1 cv2 cv5) (q cv2 cM ct) (eqN cv3 (rd cM 22 6))) (eX4_nameAmong_69 q cbk25 cM ct cv1 cv2 cv5) (eqN cv4 0))
set_option maxHeartbeats 4000000 in
set_option maxRecDepth 20000 in
theorem sX4_nameAmong_54 {post : Int32 → MM → Int64 → Prop} {q : Nat → Nat → Nat → Bool} (hq : ∀ (r : Int32) (M : MM) (tl : Int64) (cr cM ct : Nat), r = nI cr → M = dM cM → tl = i64 ct → q cr cM ct = true → post r M tl) {bk25 : MM → Int64 → Nat → Int32 → Int32 → Int32 → Int32 → Prop} {cbk25 : Nat → Nat → Nat → Nat → Nat → Nat → Nat → Bool} (hbk25 : ∀ (M : MM) (tl : Int64) (x0 : Nat) (x1 : Int32) (x2 : Int32) (x3 : Int32) (x4 : Int32) (cM ct cx0 cx1 cx2 cx3 cx4 : Nat), M = dM cM → tl = i64 ct → x0 = cx0 → x1 = nI cx1 → x2 = nI cx2 → x3 = nI cx3 → x4 = nI cx4 → cbk25 cM ct cx0 cx1 cx2 cx3 cx4 = true → bk25 M tl x0 x1 x2 x3 x4) {M : MM} {tl : Int64} {v1 : Nat} {v2 : Int32} {v3 : Int32} {v4 : Int32} {v5 : Int32} {cM ct cv1 cv2 cv3 cv4 cv5 : Nat} (hM : M = dM cM) (ht : tl = i64 ct) (hv1 : v1 = cv1) (hv2 : v2 = nI cv2) (hv3 : v3 = nI cv3) (hv4 : v4 = nI cv4) (hv5 : v5 = nI cv5) (h : eX4_nameAmong_54 q cbk25 cM ct cv1 cv2 cv3 cv4 cv5 = true) : wX4_nameAmong_54 post bk25 M tl v1 v2 v3 v4 v5 := by
  unfold wX4_nameAmong_54
  unfold eX4_nameAmong_54 at h
  refine e_ite (c_eq hv4 (rfl : (0 : Int32) = nI 0)) h (fun h => ?_) (fun h => ?_)
  · exact sX4_nameAmong_69 hq hbk25 hM ht hv1 hv2 hv5 h
  · refine e_ite (c_eq hv3 (r_rd hM (rfl : (22 : Nat) = 22) (rfl : (6 : Nat) = 6))) h (fun h => ?_) (fun h => ?_)
    · exact hq _ _ _ _ _ _ hv2 hM ht h
    · exact sX4_nameAmong_69 hq hbk25 hM ht hv1 hv2 hv5 h
noncomputable def eX4_nameAmong_130 (q : Nat → Nat → Nat → Bool) (cbk25 : Nat → Nat → Nat → Nat → Nat → Nat → Nat → Bool) (cM ct cv1 cv2 cv3 cv5 cs0 : Nat) : Bool :=
  (eX4_nameAmong_135 q cbk25 cM ct cv1 cv2 (aN cv3 1) cs0 cv5)
set_option maxHeartbeats 4000000 in
set_option maxRecDepth 20000 in
theorem sX4_nameAmong_130 {post : Int32 → MM → Int64 → Prop} {q : Nat → Nat → Nat → Bool} (hq : ∀ (r : Int32) (M : MM) (tl : Int64) (cr cM ct : Nat), r = nI cr → M = dM cM → tl = i64 ct → q cr cM ct = true → post r M tl) {bk25 : MM → Int64 → Nat → Int32 → Int32 → Int32 → Int32 → Prop} {cbk25 : Nat → Nat → Nat → Nat → Nat → Nat → Nat → Bool} (hbk25 : ∀ (M : MM) (tl : Int64) (x0 : Nat) (x1 : Int32) (x2 : Int32) (x3 : Int32) (x4 : Int32) (cM ct cx0 cx1 cx2 cx3 cx4 : Nat), M = dM cM → tl = i64 ct → x0 = cx0 → x1 = nI cx1 → x2 = nI cx2 → x3 = nI cx3 → x4 = nI cx4 → cbk25 cM ct cx0 cx1 cx2 cx3 cx4 = true → bk25 M tl x0 x1 x2 x3 x4) {M : MM} {tl : Int64} {v1 : Nat} {v2 : Int32} {v3 : Int32} {v5 : Int32} {s0 : Int32} {cM ct cv1 cv2 cv3 cv5 cs0 : Nat} (hM : M = dM cM) (ht : tl = i64 ct) (hv1 : v1 = cv1) (hv2 : v2 = nI cv2) (hv3 : v3 = nI cv3) (hv5 : v5 = nI cv5) (hs0 : s0 = nI cs0) (h : eX4_nameAmong_130 q cbk25 cM ct cv1 cv2 cv3 cv5 cs0 = true) : wX4_nameAmong_130 post bk25 M tl v1 v2 v3 v5 s0 := by
  unfold wX4_nameAmong_130
  unfold eX4_nameAmong_130 at h
  exact sX4_nameAmong_135 hq hbk25 hM ht hv1 hv2 (r_add hv3 (rfl : (1 : Int32) = nI 1)) hs0 hv5 h
noncomputable def eX4_nameAmong_129 (q : Nat → Nat → Nat → Bool) (cbk25 : Nat → Nat → Nat → Nat → Nat → Nat → Nat → Bool) (cM ct cv1 cv2 cv3 cv5 : Nat) : Bool :=
  (eX4_nameAmong_130 q cbk25 cM ct cv1 cv2 cv3 cv5 0)
set_option maxHeartbeats 4000000 in
set_option maxRecDepth 20000 in
theorem sX4_nameAmong_129 {post : Int32 → MM → Int64 → Prop} {q : Nat → Nat → Nat → Bool} (hq : ∀ (r : Int32) (M : MM) (tl : Int64) (cr cM ct : Nat), r = nI cr → M = dM cM → tl = i64 ct → q cr cM ct = true → post r M tl) {bk25 : MM → Int64 → Nat → Int32 → Int32 → Int32 → Int32 → Prop} {cbk25 : Nat → Nat → Nat → Nat → Nat → Nat → Nat → Bool} (hbk25 : ∀ (M : MM) (tl : Int64) (x0 : Nat) (x1 : Int32) (x2 : Int32) (x3 : Int32) (x4 : Int32) (cM ct cx0 cx1 cx2 cx3 cx4 : Nat), M = dM cM → tl = i64 ct → x0 = cx0 → x1 = nI cx1 → x2 = nI cx2 → x3 = nI cx3 → x4 = nI cx4 → cbk25 cM ct cx0 cx1 cx2 cx3 cx4 = true → bk25 M tl x0 x1 x2 x3 x4) {M : MM} {tl : Int64} {v1 : Nat} {v2 : Int32} {v3 : Int32} {v5 : Int32} {cM ct cv1 cv2 cv3 cv5 : Nat} (hM : M = dM cM) (ht : tl = i64 ct) (hv1 : v1 = cv1) (hv2 : v2 = nI cv2) (hv3 : v3 = nI cv3) (hv5 : v5 = nI cv5) (h : eX4_nameAmong_129 q cbk25 cM ct cv1 cv2 cv3 cv5 = true) : wX4_nameAmong_129 post bk25 M tl v1 v2 v3 v5 := by
  unfold wX4_nameAmong_129
  unfold eX4_nameAmong_129 at h
  exact sX4_nameAmong_130 hq hbk25 hM ht hv1 hv2 hv3 hv5 (rfl : (0 : Int32) = nI 0) h
noncomputable def eX4_nameAmong_25 (q : Nat → Nat → Nat → Bool) (n : Nat) : Nat → Nat → Nat → Nat → Nat → Nat → Nat → Bool :=
  @Nat.rec (fun _ => Nat → Nat → Nat → Nat → Nat → Nat → Nat → Bool) (fun _ _ _ _ _ _ _ => false) (fun _ ih cM ct cv1 cv2 cv3 cv4 cv5 => (@Bool.rec (fun _ => Bool) false (@Bool.rec (fun _ => Bool) (@Bool.rec (fun _ => Bool) false (@Bool.rec (fun _ => Bool) (@Bool.rec (fun _ => Bool) false (@Bool.rec (fun _ => Bool) false (@Bool.rec (fun _ => Bool) (@Bool.rec (fun _ => Bool) (@Bool.rec (fun _ => Bool) (@Bool.rec (fun _ => Bool) false (@Bool.rec (fun _ => Bool) false (epX9_byteAt (fun cr9 cM7 ct8 => (@Bool.rec (fun _ => Bool) (eX4_nameAmong_129 q ih cM7 ct8 cv1 cv2 cv3 cv5) (eX4_nameAmong_130 q ih cM7 ct8 cv1 cv2 cv3 cv5 1) (eqN (c32 ((bytJS.getD cv1 []).getD (tN cv5) 0)) cr9))) cM ct cv3) (inN cv5 (lenJS.getD cv1 0))) (Nat.blt cv1 4)) (eX4_nameAmong_129 q ih cM ct cv1 cv2 cv3 cv5) (leN (rd cM 22 6) cv3)) (eX4_nameAmong_129 q ih cM ct cv1 cv2 cv3 cv5) (eqN cv4 0)) (eX4_nameAmong_54 q ih cM ct cv1 cv2 cv3 cv4 cv5) (eqN (c32 ((bytJS.getD cv1 []).getD (tN cv5) 0)) 32)) (inN cv5 (lenJS.getD cv1 0))) (Nat.blt cv1 4)) (eX4_nameAmong_54 q ih cM ct cv1 cv2 cv3 cv4 cv5) (eqN cv5 (lenJS.getD cv1 0))) (Nat.blt cv1 4)) (q 4294967295 cM ct) (ltN (lenJS.getD cv1 0) cv5)) (Nat.blt cv1 4))) n
set_option maxHeartbeats 4000000 in
set_option maxRecDepth 20000 in
theorem sX4_nameAmong_25 {post : Int32 → MM → Int64 → Prop} {q : Nat → Nat → Nat → Bool} (hq : ∀ (r : Int32) (M : MM) (tl : Int64) (cr cM ct : Nat), r = nI cr → M = dM cM → tl = i64 ct → q cr cM ct = true → post r M tl) : ∀ (n : Nat) (M : MM) (tl : Int64) (v1 : Nat) (v2 : Int32) (v3 : Int32) (v4 : Int32) (v5 : Int32) (cM ct cv1 cv2 cv3 cv4 cv5 : Nat), M = dM cM → tl = i64 ct → v1 = cv1 → v2 = nI cv2 → v3 = nI cv3 → v4 = nI cv4 → v5 = nI cv5 → eX4_nameAmong_25 q  n cM ct cv1 cv2 cv3 cv4 cv5 = true → wX4_nameAmong_25 post  n M tl v1 v2 v3 v4 v5 := by
  intro n
  induction n with
  | zero => intro M tl v1 v2 v3 v4 v5 cM ct cv1 cv2 cv3 cv4 cv5 hM ht hv1 hv2 hv3 hv4 hv5 h; exact Bool.noConfusion h
  | succ n ih =>
    intro M tl v1 v2 v3 v4 v5 cM ct cv1 cv2 cv3 cv4 cv5 hM ht hv1 hv2 hv3 hv4 hv5 h
    unfold wX4_nameAmong_25
    have h : (@Bool.rec (fun _ => Bool) false (@Bool.rec (fun _ => Bool) (@Bool.rec (fun _ => Bool) false (@Bool.rec (fun _ => Bool) (@Bool.rec (fun _ => Bool) false (@Bool.rec (fun _ => Bool) false (@Bool.rec (fun _ => Bool) (@Bool.rec (fun _ => Bool) (@Bool.rec (fun _ => Bool) (@Bool.rec (fun _ => Bool) false (@Bool.rec (fun _ => Bool) false (epX9_byteAt (fun cr9 cM7 ct8 => (@Bool.rec (fun _ => Bool) (eX4_nameAmong_129 q (eX4_nameAmong_25 q  n) cM7 ct8 cv1 cv2 cv3 cv5) (eX4_nameAmong_130 q (eX4_nameAmong_25 q  n) cM7 ct8 cv1 cv2 cv3 cv5 1) (eqN (c32 ((bytJS.getD cv1 []).getD (tN cv5) 0)) cr9))) cM ct cv3) (inN cv5 (lenJS.getD cv1 0))) (Nat.blt cv1 4)) (eX4_nameAmong_129 q (eX4_nameAmong_25 q  n) cM ct cv1 cv2 cv3 cv5) (leN (rd cM 22 6) cv3)) (eX4_nameAmong_129 q (eX4_nameAmong_25 q  n) cM ct cv1 cv2 cv3 cv5) (eqN cv4 0)) (eX4_nameAmong_54 q (eX4_nameAmong_25 q  n) cM ct cv1 cv2 cv3 cv4 cv5) (eqN (c32 ((bytJS.getD cv1 []).getD (tN cv5) 0)) 32)) (inN cv5 (lenJS.getD cv1 0))) (Nat.blt cv1 4)) (eX4_nameAmong_54 q (eX4_nameAmong_25 q  n) cM ct cv1 cv2 cv3 cv4 cv5) (eqN cv5 (lenJS.getD cv1 0))) (Nat.blt cv1 4)) (q 4294967295 cM ct) (ltN (lenJS.getD cv1 0) cv5)) (Nat.blt cv1 4)) = true := h
    refine e_and (k_lt hv1 (rfl : (4 : Nat) = 4)) h (fun h => ?_)
    refine e_ite (c_lt (r_nI (r_len hv1)) hv5) h (fun h => ?_) (fun h => ?_)
    · exact hq _ _ _ _ _ _ lm1 hM ht h
    · refine e_and (k_lt hv1 (rfl : (4 : Nat) = 4)) h (fun h => ?_)
      refine e_ite (c_eq hv5 (r_nI (r_len hv1))) h (fun h => ?_) (fun h => ?_)
      · exact sX4_nameAmong_54 hq ih hM ht hv1 hv2 hv3 hv4 hv5 h
      · refine e_and (k_lt hv1 (rfl : (4 : Nat) = 4)) h (fun h => ?_)
        refine e_and (k_in hv5 (r_len hv1)) h (fun h => ?_)
        refine e_ite (c_eq (r_byt hv1 (r_nat hv5)) (rfl : (32 : Int32) = nI 32)) h (fun h => ?_) (fun h => ?_)
        · exact sX4_nameAmong_54 hq ih hM ht hv1 hv2 hv3 hv4 hv5 h
        · refine e_ite (c_eq hv4 (rfl : (0 : Int32) = nI 0)) h (fun h => ?_) (fun h => ?_)
          · exact sX4_nameAmong_129 hq ih hM ht hv1 hv2 hv3 hv5 h
          · refine e_ite (c_le (r_rd hM (rfl : (22 : Nat) = 22) (rfl : (6 : Nat) = 6)) hv3) h (fun h => ?_) (fun h => ?_)
            · exact sX4_nameAmong_129 hq ih hM ht hv1 hv2 hv3 hv5 h
            · refine e_and (k_lt hv1 (rfl : (4 : Nat) = 4)) h (fun h => ?_)
              refine e_and (k_in hv5 (r_len hv1)) h (fun h => ?_)
              refine spX9_byteAt (fun r9 M7 t8 cr9 cM7 ct8 hr9 hM7 ht8 h => ?_) hM ht hv3 h
              refine e_ite (c_eq (r_byt hv1 (r_nat hv5)) hr9) h (fun h => ?_) (fun h => ?_)
              · exact sX4_nameAmong_130 hq ih hM7 ht8 hv1 hv2 hv3 hv5 (rfl : (1 : Int32) = nI 1) h
              · exact sX4_nameAmong_129 hq ih hM7 ht8 hv1 hv2 hv3 hv5 h
noncomputable def eX4_nameAmong_20 (q : Nat → Nat → Nat → Bool) (cM ct cv1 cv2 cv3 cs0 : Nat) : Bool :=
  (eX4_nameAmong_25 q  5000 cM ct cv1 cv2 cv3 cs0 0)
set_option maxHeartbeats 4000000 in
set_option maxRecDepth 20000 in
theorem sX4_nameAmong_20 {post : Int32 → MM → Int64 → Prop} {q : Nat → Nat → Nat → Bool} (hq : ∀ (r : Int32) (M : MM) (tl : Int64) (cr cM ct : Nat), r = nI cr → M = dM cM → tl = i64 ct → q cr cM ct = true → post r M tl) {M : MM} {tl : Int64} {v1 : Nat} {v2 : Int32} {v3 : Int32} {s0 : Int32} {cM ct cv1 cv2 cv3 cs0 : Nat} (hM : M = dM cM) (ht : tl = i64 ct) (hv1 : v1 = cv1) (hv2 : v2 = nI cv2) (hv3 : v3 = nI cv3) (hs0 : s0 = nI cs0) (h : eX4_nameAmong_20 q  cM ct cv1 cv2 cv3 cs0 = true) : wX4_nameAmong_20 post  M tl v1 v2 v3 s0 := by
  unfold wX4_nameAmong_20
  unfold eX4_nameAmong_20 at h
  exact ⟨5000, sX4_nameAmong_25 hq  5000 _ _ _ _ _ _ _ _ _ _ _ _ _ _ hM ht hv1 hv2 hv3 hs0 (rfl : (0 : Int32) = nI 0) h⟩
noncomputable def epX4_nameAmong (q : Nat → Nat → Nat → Bool) (cM ct cv1 : Nat) : Bool :=
  (@Bool.rec (fun _ => Bool) (eX4_nameAmong_20 q  cM ct cv1 0 (rd cM 22 7) 0) (eX4_nameAmong_20 q  cM ct cv1 0 (rd cM 22 7) 1) (eqN (rd cM 22 8) 1))
set_option maxHeartbeats 4000000 in
set_option maxRecDepth 20000 in
theorem spX4_nameAmong {post : Int32 → MM → Int64 → Prop} {q : Nat → Nat → Nat → Bool} (hq : ∀ (r : Int32) (M : MM) (tl : Int64) (cr cM ct : Nat), r = nI cr → M = dM cM → tl = i64 ct → q cr cM ct = true → post r M tl) {M : MM} {tl : Int64} {v1 : Nat} {cM ct cv1 : Nat} (hM : M = dM cM) (ht : tl = i64 ct) (hv1 : v1 = cv1) (h : epX4_nameAmong q  cM ct cv1 = true) : wpX4_nameAmong post  M tl v1 := by
  unfold wpX4_nameAmong
  unfold epX4_nameAmong at h
  refine e_ite (c_eq (r_rd hM (rfl : (22 : Nat) = 22) (rfl : (8 : Nat) = 8)) (rfl : (1 : Int32) = nI 1)) h (fun h => ?_) (fun h => ?_)
  · exact sX4_nameAmong_20 hq  hM ht hv1 (rfl : (0 : Int32) = nI 0) (r_rd hM (rfl : (22 : Nat) = 22) (rfl : (7 : Nat) = 7)) (rfl : (1 : Int32) = nI 1) h
  · exact sX4_nameAmong_20 hq  hM ht hv1 (rfl : (0 : Int32) = nI 0) (r_rd hM (rfl : (22 : Nat) = 22) (rfl : (7 : Nat) = 7)) (rfl : (0 : Int32) = nI 0) h
noncomputable def eX4_tellOnce_31 (q : Nat → Nat → Bool) (cM ct cv1 : Nat) : Bool :=
  (q cM (b64 f_lor ct (b64i f_lshl 1 cv1)))
set_option maxHeartbeats 4000000 in
set_option maxRecDepth 20000 in
theorem sX4_tellOnce_31 {post : MM → Int64 → Prop} {q : Nat → Nat → Bool} (hq : ∀ (M : MM) (tl : Int64) (cM ct : Nat), M = dM cM → tl = i64 ct → q cM ct = true → post M tl) {M : MM} {tl : Int64} {v1 : Int32} {cM ct cv1 : Nat} (hM : M = dM cM) (ht : tl = i64 ct) (hv1 : v1 = nI cv1) (h : eX4_tellOnce_31 q  cM ct cv1 = true) : wX4_tellOnce_31 post  M tl v1 := by
  unfold wX4_tellOnce_31
  unfold eX4_tellOnce_31 at h
  exact hq _ _ _ _ hM (r_b64 f_lor ht (r_b64i f_lshl (rfl : (1 : Int64) = i64 1) hv1)) h
noncomputable def epX4_tellOnce (q : Nat → Nat → Bool) (cM ct cv1 : Nat) : Bool :=
  (@Bool.rec (fun _ => Bool) (q cM ct) (@Bool.rec (fun _ => Bool) (epX4_fail (fun cr3 cM1 ct2 => (eX4_tellOnce_31 q  cM1 ct2 cv1)) cM ct 4 (rd cM 22 7)) (eX4_tellOnce_31 q  cM ct cv1) (eqN (lcN (b64 f_land (b64i f_lshr ct cv1) 1) 0) 0)) (eqN (rd cM 22 2) 0))
set_option maxHeartbeats 4000000 in
set_option maxRecDepth 20000 in
theorem spX4_tellOnce {post : MM → Int64 → Prop} {q : Nat → Nat → Bool} (hq : ∀ (M : MM) (tl : Int64) (cM ct : Nat), M = dM cM → tl = i64 ct → q cM ct = true → post M tl) {M : MM} {tl : Int64} {v1 : Int32} {cM ct cv1 : Nat} (hM : M = dM cM) (ht : tl = i64 ct) (hv1 : v1 = nI cv1) (h : epX4_tellOnce q  cM ct cv1 = true) : wpX4_tellOnce post  M tl v1 := by
  unfold wpX4_tellOnce
  unfold epX4_tellOnce at h
  refine e_ite (c_eq (r_rd hM (rfl : (22 : Nat) = 22) (rfl : (2 : Nat) = 2)) (rfl : (0 : Int32) = nI 0)) h (fun h => ?_) (fun h => ?_)
  · refine e_ite (c_eq (r_cmp (r_b64 f_land (r_b64i f_lshr ht hv1) (rfl : (1 : Int64) = i64 1)) (rfl : (0 : Int64) = i64 0)) (rfl : (0 : Int32) = nI 0)) h (fun h => ?_) (fun h => ?_)
    · exact sX4_tellOnce_31 hq  hM ht hv1 h
    · refine spX4_fail (fun r3 M1 t2 cr3 cM1 ct2 hr3 hM1 ht2 h => ?_) hM ht (rfl : (4 : Int32) = nI 4) (r_rd hM (rfl : (22 : Nat) = 22) (rfl : (7 : Nat) = 7)) h
      exact sX4_tellOnce_31 hq  hM1 ht2 hv1 h
  · exact hq _ _ _ _ hM ht h
noncomputable def eX4_takeNumber_47 (q : Nat → Nat → Nat → Bool) (cM ct  : Nat) : Bool :=
  (epX4_fail (fun cr3 cM1 ct2 => (q cr3 cM1 ct2)) cM ct 3 (rd cM 22 7))
set_option maxHeartbeats 4000000 in
set_option maxRecDepth 20000 in
theorem sX4_takeNumber_47 {post : Int32 → MM → Int64 → Prop} {q : Nat → Nat → Nat → Bool} (hq : ∀ (r : Int32) (M : MM) (tl : Int64) (cr cM ct : Nat), r = nI cr → M = dM cM → tl = i64 ct → q cr cM ct = true → post r M tl) {M : MM} {tl : Int64} {cM ct  : Nat} (hM : M = dM cM) (ht : tl = i64 ct)  (h : eX4_takeNumber_47 q  cM ct  = true) : wX4_takeNumber_47 post  M tl  := by
  unfold wX4_takeNumber_47
  unfold eX4_takeNumber_47 at h
  refine spX4_fail (fun r3 M1 t2 cr3 cM1 ct2 hr3 hM1 ht2 h => ?_) hM ht (rfl : (3 : Int32) = nI 3) (r_rd hM (rfl : (22 : Nat) = 22) (rfl : (7 : Nat) = 7)) h
  exact hq _ _ _ _ _ _ hr3 hM1 ht2 h
noncomputable def epX4_takeNumber (q : Nat → Nat → Nat → Bool) (cM ct cv1 cv2 : Nat) : Bool :=
  (epX4_takeToken (fun cM1 ct2 => (@Bool.rec (fun _ => Bool) (q 4294967295 cM1 ct2) (@Bool.rec (fun _ => Bool) (epX4_fail (fun cr5 cM3 ct4 => (q cr5 cM3 ct4)) cM1 ct2 2 (rd cM1 22 7)) (@Bool.rec (fun _ => Bool) (@Bool.rec (fun _ => Bool) (eX4_takeNumber_47 q  cM1 ct2) (q (rd cM1 22 9) cM1 ct2) (leN (rd cM1 22 9) cv2)) (eX4_takeNumber_47 q  cM1 ct2) (ltN (rd cM1 22 9) cv1)) (eqN (rd cM1 22 8) 2)) (eqN (rd cM1 22 2) 0))) cM ct)
set_option maxHeartbeats 4000000 in
set_option maxRecDepth 20000 in
theorem spX4_takeNumber {post : Int32 → MM → Int64 → Prop} {q : Nat → Nat → Nat → Bool} (hq : ∀ (r : Int32) (M : MM) (tl : Int64) (cr cM ct : Nat), r = nI cr → M = dM cM → tl = i64 ct → q cr cM ct = true → post r M tl) {M : MM} {tl : Int64} {v1 : Int32} {v2 : Int32} {cM ct cv1 cv2 : Nat} (hM : M = dM cM) (ht : tl = i64 ct) (hv1 : v1 = nI cv1) (hv2 : v2 = nI cv2) (h : epX4_takeNumber q  cM ct cv1 cv2 = true) : wpX4_takeNumber post  M tl v1 v2 := by
  unfold wpX4_takeNumber
  unfold epX4_takeNumber at h
  refine spX4_takeToken (fun M1 t2 cM1 ct2 hM1 ht2 h => ?_) hM ht h
  refine e_ite (c_eq (r_rd hM1 (rfl : (22 : Nat) = 22) (rfl : (2 : Nat) = 2)) (rfl : (0 : Int32) = nI 0)) h (fun h => ?_) (fun h => ?_)
  · refine e_ite (c_eq (r_rd hM1 (rfl : (22 : Nat) = 22) (rfl : (8 : Nat) = 8)) (rfl : (2 : Int32) = nI 2)) h (fun h => ?_) (fun h => ?_)
    · refine e_ite (c_lt (r_rd hM1 (rfl : (22 : Nat) = 22) (rfl : (9 : Nat) = 9)) hv1) h (fun h => ?_) (fun h => ?_)
      · exact sX4_takeNumber_47 hq  hM1 ht2 h
      · refine e_ite (c_le (r_rd hM1 (rfl : (22 : Nat) = 22) (rfl : (9 : Nat) = 9)) hv2) h (fun h => ?_) (fun h => ?_)
        · exact hq _ _ _ _ _ _ (r_rd hM1 (rfl : (22 : Nat) = 22) (rfl : (9 : Nat) = 9)) hM1 ht2 h
        · exact sX4_takeNumber_47 hq  hM1 ht2 h
    · refine spX4_fail (fun r5 M3 t4 cr5 cM3 ct4 hr5 hM3 ht4 h => ?_) hM1 ht2 (rfl : (2 : Int32) = nI 2) (r_rd hM1 (rfl : (22 : Nat) = 22) (rfl : (7 : Nat) = 7)) h
      exact hq _ _ _ _ _ _ hr5 hM3 ht4 h
  · exact hq _ _ _ _ _ _ lm1 hM1 ht2 h
noncomputable def eX4_readPrices_2 (q : Nat → Nat → Bool) (n : Nat) : Nat → Nat → Nat → Bool :=
  @Nat.rec (fun _ => Nat → Nat → Nat → Bool) (fun _ _ _ => false) (fun _ ih cM ct cv1 => (@Bool.rec (fun _ => Bool) (@Bool.rec (fun _ => Bool) (q cM ct) (epX4_takeNumber (fun cr3 cM1 ct2 => (@Bool.rec (fun _ => Bool) false (wrB (fun cM5 => (ih cM5 ct2 (aN cv1 1))) cM1 24 (tN cv1) cr3) (inN cv1 (alF 24)))) cM ct 1 9) (eqN (rd cM 22 2) 0)) (q cM ct) (leN 4 cv1))) n
set_option maxHeartbeats 4000000 in
set_option maxRecDepth 20000 in
theorem sX4_readPrices_2 {post : MM → Int64 → Prop} {q : Nat → Nat → Bool} (hq : ∀ (M : MM) (tl : Int64) (cM ct : Nat), M = dM cM → tl = i64 ct → q cM ct = true → post M tl) : ∀ (n : Nat) (M : MM) (tl : Int64) (v1 : Int32) (cM ct cv1 : Nat), M = dM cM → tl = i64 ct → v1 = nI cv1 → eX4_readPrices_2 q  n cM ct cv1 = true → wX4_readPrices_2 post  n M tl v1 := by
  intro n
  induction n with
  | zero => intro M tl v1 cM ct cv1 hM ht hv1 h; exact Bool.noConfusion h
  | succ n ih =>
    intro M tl v1 cM ct cv1 hM ht hv1 h
    unfold wX4_readPrices_2
    refine e_ite (c_le (rfl : (4 : Int32) = nI 4) hv1) h (fun h => ?_) (fun h => ?_)
    · exact hq _ _ _ _ hM ht h
    · refine e_ite (c_eq (r_rd hM (rfl : (22 : Nat) = 22) (rfl : (2 : Nat) = 2)) (rfl : (0 : Int32) = nI 0)) h (fun h => ?_) (fun h => ?_)
      · refine spX4_takeNumber (fun r3 M1 t2 cr3 cM1 ct2 hr3 hM1 ht2 h => ?_) hM ht (rfl : (1 : Int32) = nI 1) (rfl : (9 : Int32) = nI 9) h
        refine e_and (k_in hv1 (r_al (rfl : (24 : Nat) = 24))) h (fun h => ?_)
        refine e_wr h hM1 (rfl : (24 : Nat) = 24) (r_nat hv1) hr3 (fun M5 cM5 hM5 h => ?_)
        exact ih _ _ _ _ _ _ hM5 ht2 (r_add hv1 (rfl : (1 : Int32) = nI 1)) h
      · exact hq _ _ _ _ hM ht h
noncomputable def epX4_readPrices (q : Nat → Nat → Bool) (cM ct  : Nat) : Bool :=
  (eX4_readPrices_2 q  5000 cM ct 0)
set_option maxHeartbeats 4000000 in
set_option maxRecDepth 20000 in
theorem spX4_readPrices {post : MM → Int64 → Prop} {q : Nat → Nat → Bool} (hq : ∀ (M : MM) (tl : Int64) (cM ct : Nat), M = dM cM → tl = i64 ct → q cM ct = true → post M tl) {M : MM} {tl : Int64} {cM ct  : Nat} (hM : M = dM cM) (ht : tl = i64 ct)  (h : epX4_readPrices q  cM ct  = true) : wpX4_readPrices post  M tl  := by
  unfold wpX4_readPrices
  unfold epX4_readPrices at h
  exact ⟨5000, sX4_readPrices_2 hq  5000 _ _ _ _ _ _ hM ht (rfl : (0 : Int32) = nI 0) h⟩
noncomputable def epX4_takeBank (q : Nat → Nat → Nat → Bool) (cM ct  : Nat) : Bool :=
  (epX4_takeNumber (fun cr3 cM1 ct2 => (q cr3 cM1 ct2)) cM ct 0 1)
set_option maxHeartbeats 4000000 in
set_option maxRecDepth 20000 in
theorem spX4_takeBank {post : Int32 → MM → Int64 → Prop} {q : Nat → Nat → Nat → Bool} (hq : ∀ (r : Int32) (M : MM) (tl : Int64) (cr cM ct : Nat), r = nI cr → M = dM cM → tl = i64 ct → q cr cM ct = true → post r M tl) {M : MM} {tl : Int64} {cM ct  : Nat} (hM : M = dM cM) (ht : tl = i64 ct)  (h : epX4_takeBank q  cM ct  = true) : wpX4_takeBank post  M tl  := by
  unfold wpX4_takeBank
  unfold epX4_takeBank at h
  refine spX4_takeNumber (fun r3 M1 t2 cr3 cM1 ct2 hr3 hM1 ht2 h => ?_) hM ht (rfl : (0 : Int32) = nI 0) (rfl : (1 : Int32) = nI 1) h
  exact hq _ _ _ _ _ _ hr3 hM1 ht2 h
noncomputable def eX4_readOfKinds_15 (q : Nat → Nat → Bool) (n : Nat) : Nat → Nat → Nat → Nat → Nat → Bool :=
  @Nat.rec (fun _ => Nat → Nat → Nat → Nat → Nat → Bool) (fun _ _ _ _ _ => false) (fun _ ih cM ct cv1 cv3 cv4 => (@Bool.rec (fun _ => Bool) (@Bool.rec (fun _ => Bool) (q cM ct) (@Bool.rec (fun _ => Bool) false (@Bool.rec (fun _ => Bool) false (epX4_takeNumber (fun cr5 cM3 ct4 => (@Bool.rec (fun _ => Bool) false (@Bool.rec (fun _ => Bool) false (wrB (fun cM8 => (ih cM8 ct4 cv1 cv3 (aN cv4 1))) cM3 (Nat.add (Nat.add cv1 1) (tN cv3)) (tN cv4) cr5) (inN cv4 (alF (Nat.add (Nat.add cv1 1) (tN cv3))))) (kdB (Nat.add (Nat.add cv1 1) (tN cv3)) 12))) cM ct 0 20) (inN cv3 2)) (kdB cv1 16)) (eqN (rd cM 22 2) 0)) (q cM ct) (leN 6 cv4))) n
set_option maxHeartbeats 4000000 in
set_option maxRecDepth 20000 in
theorem sX4_readOfKinds_15 {post : MM → Int64 → Prop} {q : Nat → Nat → Bool} (hq : ∀ (M : MM) (tl : Int64) (cM ct : Nat), M = dM cM → tl = i64 ct → q cM ct = true → post M tl) : ∀ (n : Nat) (M : MM) (tl : Int64) (v1 : Nat) (v3 : Int32) (v4 : Int32) (cM ct cv1 cv3 cv4 : Nat), M = dM cM → tl = i64 ct → v1 = cv1 → v3 = nI cv3 → v4 = nI cv4 → eX4_readOfKinds_15 q  n cM ct cv1 cv3 cv4 = true → wX4_readOfKinds_15 post  n M tl v1 v3 v4 := by
  intro n
  induction n with
  | zero => intro M tl v1 v3 v4 cM ct cv1 cv3 cv4 hM ht hv1 hv3 hv4 h; exact Bool.noConfusion h
  | succ n ih =>
    intro M tl v1 v3 v4 cM ct cv1 cv3 cv4 hM ht hv1 hv3 hv4 h
    unfold wX4_readOfKinds_15
    refine e_ite (c_le (rfl : (6 : Int32) = nI 6) hv4) h (fun h => ?_) (fun h => ?_)
    · exact hq _ _ _ _ hM ht h
    · refine e_ite (c_eq (r_rd hM (rfl : (22 : Nat) = 22) (rfl : (2 : Nat) = 2)) (rfl : (0 : Int32) = nI 0)) h (fun h => ?_) (fun h => ?_)
      · refine e_and (k_kd hv1) h (fun h => ?_)
        refine e_and (k_in hv3 (rfl : (2 : Nat) = 2)) h (fun h => ?_)
        refine spX4_takeNumber (fun r5 M3 t4 cr5 cM3 ct4 hr5 hM3 ht4 h => ?_) hM ht (rfl : (0 : Int32) = nI 0) (rfl : (20 : Int32) = nI 20) h
        refine e_and (k_kd (n_add (n_add hv1 (rfl : (1 : Nat) = 1)) (r_nat hv3))) h (fun h => ?_)
        refine e_and (k_in hv4 (r_al (n_add (n_add hv1 (rfl : (1 : Nat) = 1)) (r_nat hv3)))) h (fun h => ?_)
        refine e_wr h hM3 (n_add (n_add hv1 (rfl : (1 : Nat) = 1)) (r_nat hv3)) (r_nat hv4) hr5 (fun M8 cM8 hM8 h => ?_)
        exact ih _ _ _ _ _ _ _ _ _ _ hM8 ht4 hv1 hv3 (r_add hv4 (rfl : (1 : Int32) = nI 1)) h
      · exact hq _ _ _ _ hM ht h
noncomputable def epX4_readOfKinds (q : Nat → Nat → Bool) (cM ct cv1 cv2 : Nat) : Bool :=
  (epX4_takeBank (fun cr3 cM1 ct2 => (epX4_tellOnce (fun cM4 ct5 => (eX4_readOfKinds_15 q  5000 cM4 ct5 cv1 cr3 1)) cM1 ct2 (aN cv2 cr3))) cM ct)
set_option maxHeartbeats 4000000 in
set_option maxRecDepth 20000 in
theorem spX4_readOfKinds {post : MM → Int64 → Prop} {q : Nat → Nat → Bool} (hq : ∀ (M : MM) (tl : Int64) (cM ct : Nat), M = dM cM → tl = i64 ct → q cM ct = true → post M tl) {M : MM} {tl : Int64} {v1 : Nat} {v2 : Int32} {cM ct cv1 cv2 : Nat} (hM : M = dM cM) (ht : tl = i64 ct) (hv1 : v1 = cv1) (hv2 : v2 = nI cv2) (h : epX4_readOfKinds q  cM ct cv1 cv2 = true) : wpX4_readOfKinds post  M tl v1 v2 := by
  unfold wpX4_readOfKinds
  unfold epX4_readOfKinds at h
  refine spX4_takeBank (fun r3 M1 t2 cr3 cM1 ct2 hr3 hM1 ht2 h => ?_) hM ht h
  refine spX4_tellOnce (fun M4 t5 cM4 ct5 hM4 ht5 h => ?_) hM1 ht2 (r_add hv2 hr3) h
  exact ⟨5000, sX4_readOfKinds_15 hq  5000 _ _ _ _ _ _ _ _ _ _ hM4 ht5 hv1 hr3 (rfl : (1 : Int32) = nI 1) h⟩
noncomputable def epX4_takeNameOf (q : Nat → Nat → Nat → Bool) (cM ct cv1 : Nat) : Bool :=
  (epX4_takeToken (fun cM1 ct2 => (@Bool.rec (fun _ => Bool) (q 4294967295 cM1 ct2) (epX4_nameAmong (fun cr5 cM3 ct4 => (@Bool.rec (fun _ => Bool) (epX4_fail (fun cr8 cM6 ct7 => (q cr8 cM6 ct7)) cM3 ct4 2 (rd cM3 22 7)) (q cr5 cM3 ct4) (leN 0 cr5))) cM1 ct2 cv1) (eqN (rd cM1 22 2) 0))) cM ct)
set_option maxHeartbeats 4000000 in
set_option maxRecDepth 20000 in
theorem spX4_takeNameOf {post : Int32 → MM → Int64 → Prop} {q : Nat → Nat → Nat → Bool} (hq : ∀ (r : Int32) (M : MM) (tl : Int64) (cr cM ct : Nat), r = nI cr → M = dM cM → tl = i64 ct → q cr cM ct = true → post r M tl) {M : MM} {tl : Int64} {v1 : Nat} {cM ct cv1 : Nat} (hM : M = dM cM) (ht : tl = i64 ct) (hv1 : v1 = cv1) (h : epX4_takeNameOf q  cM ct cv1 = true) : wpX4_takeNameOf post  M tl v1 := by
  unfold wpX4_takeNameOf
  unfold epX4_takeNameOf at h
  refine spX4_takeToken (fun M1 t2 cM1 ct2 hM1 ht2 h => ?_) hM ht h
  refine e_ite (c_eq (r_rd hM1 (rfl : (22 : Nat) = 22) (rfl : (2 : Nat) = 2)) (rfl : (0 : Int32) = nI 0)) h (fun h => ?_) (fun h => ?_)
  · refine spX4_nameAmong (fun r5 M3 t4 cr5 cM3 ct4 hr5 hM3 ht4 h => ?_) hM1 ht2 hv1 h
    refine e_ite (c_le (rfl : (0 : Int32) = nI 0) hr5) h (fun h => ?_) (fun h => ?_)
    · exact hq _ _ _ _ _ _ hr5 hM3 ht4 h
    · refine spX4_fail (fun r8 M6 t7 cr8 cM6 ct7 hr8 hM6 ht7 h => ?_) hM3 ht4 (rfl : (2 : Int32) = nI 2) (r_rd hM3 (rfl : (22 : Nat) = 22) (rfl : (7 : Nat) = 7)) h
      exact hq _ _ _ _ _ _ hr8 hM6 ht7 h
  · exact hq _ _ _ _ _ _ lm1 hM1 ht2 h
noncomputable def epX4_readLack (q : Nat → Nat → Bool) (cM ct  : Nat) : Bool :=
  (epX4_takeBank (fun cr3 cM1 ct2 => (epX4_takeNameOf (fun cr6 cM4 ct5 => (@Bool.rec (fun _ => Bool) (q cM4 ct5) (@Bool.rec (fun _ => Bool) false (@Bool.rec (fun _ => Bool) false (wrB (fun cM9 => (q cM9 ct5)) cM4 31 (tN cr3) (Nat.lor (rd cM4 31 (tN cr3)) (b2 f_shl 1 (aN cr6 1)))) (inN cr3 (alF 31))) (inN cr3 (alF 31))) (eqN (rd cM4 22 2) 0))) cM1 ct2 1)) cM ct)
set_option maxHeartbeats 4000000 in
set_option maxRecDepth 20000 in
theorem spX4_readLack {post : MM → Int64 → Prop} {q : Nat → Nat → Bool} (hq : ∀ (M : MM) (tl : Int64) (cM ct : Nat), M = dM cM → tl = i64 ct → q cM ct = true → post M tl) {M : MM} {tl : Int64} {cM ct  : Nat} (hM : M = dM cM) (ht : tl = i64 ct)  (h : epX4_readLack q  cM ct  = true) : wpX4_readLack post  M tl  := by
  unfold wpX4_readLack
  unfold epX4_readLack at h
  refine spX4_takeBank (fun r3 M1 t2 cr3 cM1 ct2 hr3 hM1 ht2 h => ?_) hM ht h
  refine spX4_takeNameOf (fun r6 M4 t5 cr6 cM4 ct5 hr6 hM4 ht5 h => ?_) hM1 ht2 (rfl : (1 : Nat) = 1) h
  refine e_ite (c_eq (r_rd hM4 (rfl : (22 : Nat) = 22) (rfl : (2 : Nat) = 2)) (rfl : (0 : Int32) = nI 0)) h (fun h => ?_) (fun h => ?_)
  · refine e_and (k_in hr3 (r_al (rfl : (31 : Nat) = 31))) h (fun h => ?_)
    refine e_and (k_in hr3 (r_al (rfl : (31 : Nat) = 31))) h (fun h => ?_)
    refine e_wr h hM4 (rfl : (31 : Nat) = 31) (r_nat hr3) (r_or (r_rd hM4 (rfl : (31 : Nat) = 31) (r_nat hr3)) (r_b2 f_shl (rfl : (1 : Int32) = nI 1) (r_add hr6 (rfl : (1 : Int32) = nI 1)))) (fun M9 cM9 hM9 h => ?_)
    exact hq _ _ _ _ hM9 ht5 h
  · exact hq _ _ _ _ hM4 ht5 h
noncomputable def epX4_readTwins (q : Nat → Nat → Bool) (cM ct  : Nat) : Bool :=
  (epX4_takeNameOf (fun cr3 cM1 ct2 => (epX4_tellOnce (fun cM4 ct5 => (epX4_takeNameOf (fun cr8 cM6 ct7 => (epX4_tellOnce (fun cM9 ct10 => (@Bool.rec (fun _ => Bool) (q cM9 ct10) (@Bool.rec (fun _ => Bool) false (wrB (fun cM12 => (@Bool.rec (fun _ => Bool) false (wrB (fun cM14 => (q cM14 ct10)) cM12 32 (tN (aN cr8 1)) (aN cr3 1)) (inN (aN cr8 1) (alF 32)))) cM9 32 (tN (aN cr3 1)) (aN cr8 1)) (inN (aN cr3 1) (alF 32))) (eqN (rd cM9 22 2) 0))) cM6 ct7 (aN 8 (aN cr8 1)))) cM4 ct5 1)) cM1 ct2 (aN 8 (aN cr3 1)))) cM ct 1)
set_option maxHeartbeats 4000000 in
set_option maxRecDepth 20000 in
theorem spX4_readTwins {post : MM → Int64 → Prop} {q : Nat → Nat → Bool} (hq : ∀ (M : MM) (tl : Int64) (cM ct : Nat), M = dM cM → tl = i64 ct → q cM ct = true → post M tl) {M : MM} {tl : Int64} {cM ct  : Nat} (hM : M = dM cM) (ht : tl = i64 ct)  (h : epX4_readTwins q  cM ct  = true) : wpX4_readTwins post  M tl  := by
  unfold wpX4_readTwins
  unfold epX4_readTwins at h
  refine spX4_takeNameOf (fun r3 M1 t2 cr3 cM1 ct2 hr3 hM1 ht2 h => ?_) hM ht (rfl : (1 : Nat) = 1) h
  refine spX4_tellOnce (fun M4 t5 cM4 ct5 hM4 ht5 h => ?_) hM1 ht2 (r_add (rfl : (8 : Int32) = nI 8) (r_add hr3 (rfl : (1 : Int32) = nI 1))) h
  refine spX4_takeNameOf (fun r8 M6 t7 cr8 cM6 ct7 hr8 hM6 ht7 h => ?_) hM4 ht5 (rfl : (1 : Nat) = 1) h
  refine spX4_tellOnce (fun M9 t10 cM9 ct10 hM9 ht10 h => ?_) hM6 ht7 (r_add (rfl : (8 : Int32) = nI 8) (r_add hr8 (rfl : (1 : Int32) = nI 1))) h
  refine e_ite (c_eq (r_rd hM9 (rfl : (22 : Nat) = 22) (rfl : (2 : Nat) = 2)) (rfl : (0 : Int32) = nI 0)) h (fun h => ?_) (fun h => ?_)
  · refine e_and (k_in (r_add hr3 (rfl : (1 : Int32) = nI 1)) (r_al (rfl : (32 : Nat) = 32))) h (fun h => ?_)
    refine e_wr h hM9 (rfl : (32 : Nat) = 32) (r_nat (r_add hr3 (rfl : (1 : Int32) = nI 1))) (r_add hr8 (rfl : (1 : Int32) = nI 1)) (fun M12 cM12 hM12 h => ?_)
    refine e_and (k_in (r_add hr8 (rfl : (1 : Int32) = nI 1)) (r_al (rfl : (32 : Nat) = 32))) h (fun h => ?_)
    refine e_wr h hM12 (rfl : (32 : Nat) = 32) (r_nat (r_add hr8 (rfl : (1 : Int32) = nI 1))) (r_add hr3 (rfl : (1 : Int32) = nI 1)) (fun M14 cM14 hM14 h => ?_)
    exact hq _ _ _ _ hM14 ht10 h
  · exact hq _ _ _ _ hM9 ht10 h
noncomputable def epX4_readPaint (q : Nat → Nat → Bool) (cM ct  : Nat) : Bool :=
  (epX4_takeNumber (fun cr3 cM1 ct2 => (epX4_tellOnce (fun cM4 ct5 => (epX4_takeNumber (fun cr8 cM6 ct7 => (epX4_tellOnce (fun cM9 ct10 => (@Bool.rec (fun _ => Bool) (q cM9 ct10) (@Bool.rec (fun _ => Bool) false (wrB (fun cM12 => (@Bool.rec (fun _ => Bool) false (wrB (fun cM14 => (q cM14 ct10)) cM12 33 (tN cr8) cr3) (inN cr8 (alF 33)))) cM9 33 (tN cr3) cr8) (inN cr3 (alF 33))) (eqN (rd cM9 22 2) 0))) cM6 ct7 (aN 14 cr8))) cM4 ct5 0 3)) cM1 ct2 (aN 14 cr3))) cM ct 0 3)
set_option maxHeartbeats 4000000 in
set_option maxRecDepth 20000 in
theorem spX4_readPaint {post : MM → Int64 → Prop} {q : Nat → Nat → Bool} (hq : ∀ (M : MM) (tl : Int64) (cM ct : Nat), M = dM cM → tl = i64 ct → q cM ct = true → post M tl) {M : MM} {tl : Int64} {cM ct  : Nat} (hM : M = dM cM) (ht : tl = i64 ct)  (h : epX4_readPaint q  cM ct  = true) : wpX4_readPaint post  M tl  := by
  unfold wpX4_readPaint
  unfold epX4_readPaint at h
  refine spX4_takeNumber (fun r3 M1 t2 cr3 cM1 ct2 hr3 hM1 ht2 h => ?_) hM ht (rfl : (0 : Int32) = nI 0) (rfl : (3 : Int32) = nI 3) h
  refine spX4_tellOnce (fun M4 t5 cM4 ct5 hM4 ht5 h => ?_) hM1 ht2 (r_add (rfl : (14 : Int32) = nI 14) hr3) h
  refine spX4_takeNumber (fun r8 M6 t7 cr8 cM6 ct7 hr8 hM6 ht7 h => ?_) hM4 ht5 (rfl : (0 : Int32) = nI 0) (rfl : (3 : Int32) = nI 3) h
  refine spX4_tellOnce (fun M9 t10 cM9 ct10 hM9 ht10 h => ?_) hM6 ht7 (r_add (rfl : (14 : Int32) = nI 14) hr8) h
  refine e_ite (c_eq (r_rd hM9 (rfl : (22 : Nat) = 22) (rfl : (2 : Nat) = 2)) (rfl : (0 : Int32) = nI 0)) h (fun h => ?_) (fun h => ?_)
  · refine e_and (k_in hr3 (r_al (rfl : (33 : Nat) = 33))) h (fun h => ?_)
    refine e_wr h hM9 (rfl : (33 : Nat) = 33) (r_nat hr3) hr8 (fun M12 cM12 hM12 h => ?_)
    refine e_and (k_in hr8 (r_al (rfl : (33 : Nat) = 33))) h (fun h => ?_)
    refine e_wr h hM12 (rfl : (33 : Nat) = 33) (r_nat hr8) hr3 (fun M14 cM14 hM14 h => ?_)
    exact hq _ _ _ _ hM14 ht10 h
  · exact hq _ _ _ _ hM9 ht10 h
noncomputable def epX4_readRight (q : Nat → Nat → Bool) (cM ct  : Nat) : Bool :=
  (epX4_takeNameOf (fun cr3 cM1 ct2 => (@Bool.rec (fun _ => Bool) (q cM1 ct2) (wrB (fun cM4 => (q cM4 ct2)) cM1 23 3 (Nat.lor (rd cM1 23 3) (b2 f_shl 1 (aN cr3 1)))) (eqN (rd cM1 22 2) 0))) cM ct 1)
set_option maxHeartbeats 4000000 in
set_option maxRecDepth 20000 in
theorem spX4_readRight {post : MM → Int64 → Prop} {q : Nat → Nat → Bool} (hq : ∀ (M : MM) (tl : Int64) (cM ct : Nat), M = dM cM → tl = i64 ct → q cM ct = true → post M tl) {M : MM} {tl : Int64} {cM ct  : Nat} (hM : M = dM cM) (ht : tl = i64 ct)  (h : epX4_readRight q  cM ct  = true) : wpX4_readRight post  M tl  := by
  unfold wpX4_readRight
  unfold epX4_readRight at h
  refine spX4_takeNameOf (fun r3 M1 t2 cr3 cM1 ct2 hr3 hM1 ht2 h => ?_) hM ht (rfl : (1 : Nat) = 1) h
  refine e_ite (c_eq (r_rd hM1 (rfl : (22 : Nat) = 22) (rfl : (2 : Nat) = 2)) (rfl : (0 : Int32) = nI 0)) h (fun h => ?_) (fun h => ?_)
  · refine e_wr h hM1 (rfl : (23 : Nat) = 23) (rfl : (3 : Nat) = 3) (r_or (r_rd hM1 (rfl : (23 : Nat) = 23) (rfl : (3 : Nat) = 3)) (r_b2 f_shl (rfl : (1 : Int32) = nI 1) (r_add hr3 (rfl : (1 : Int32) = nI 1)))) (fun M4 cM4 hM4 h => ?_)
    exact hq _ _ _ _ hM4 ht2 h
  · exact hq _ _ _ _ hM1 ht2 h
noncomputable def epX4_takeThing (q : Nat → Nat → Nat → Bool) (cM ct  : Nat) : Bool :=
  (epX4_takeNameOf (fun cr3 cM1 ct2 => (@Bool.rec (fun _ => Bool) (q cr3 cM1 ct2) (epX4_takeNumber (fun cr6 cM4 ct5 => (epX4_takeNameOf (fun cr9 cM7 ct8 => (@Bool.rec (fun _ => Bool) (q 4294967295 cM7 ct8) (q (aN (aN cr3 (mN 8 cr6)) (mN 32 cr9)) cM7 ct8) (eqN (rd cM7 22 2) 0))) cM4 ct5 3)) cM1 ct2 0 3) (ltN 0 cr3))) cM ct 2)
set_option maxHeartbeats 4000000 in
set_option maxRecDepth 20000 in
theorem spX4_takeThing {post : Int32 → MM → Int64 → Prop} {q : Nat → Nat → Nat → Bool} (hq : ∀ (r : Int32) (M : MM) (tl : Int64) (cr cM ct : Nat), r = nI cr → M = dM cM → tl = i64 ct → q cr cM ct = true → post r M tl) {M : MM} {tl : Int64} {cM ct  : Nat} (hM : M = dM cM) (ht : tl = i64 ct)  (h : epX4_takeThing q  cM ct  = true) : wpX4_takeThing post  M tl  := by
  unfold wpX4_takeThing
  unfold epX4_takeThing at h
  refine spX4_takeNameOf (fun r3 M1 t2 cr3 cM1 ct2 hr3 hM1 ht2 h => ?_) hM ht (rfl : (2 : Nat) = 2) h
  refine e_ite (c_lt (rfl : (0 : Int32) = nI 0) hr3) h (fun h => ?_) (fun h => ?_)
  · refine spX4_takeNumber (fun r6 M4 t5 cr6 cM4 ct5 hr6 hM4 ht5 h => ?_) hM1 ht2 (rfl : (0 : Int32) = nI 0) (rfl : (3 : Int32) = nI 3) h
    refine spX4_takeNameOf (fun r9 M7 t8 cr9 cM7 ct8 hr9 hM7 ht8 h => ?_) hM4 ht5 (rfl : (3 : Nat) = 3) h
    refine e_ite (c_eq (r_rd hM7 (rfl : (22 : Nat) = 22) (rfl : (2 : Nat) = 2)) (rfl : (0 : Int32) = nI 0)) h (fun h => ?_) (fun h => ?_)
    · exact hq _ _ _ _ _ _ (r_add (r_add hr3 (r_mul (rfl : (8 : Int32) = nI 8) hr6)) (r_mul (rfl : (32 : Int32) = nI 32) hr9)) hM7 ht8 h
    · exact hq _ _ _ _ _ _ lm1 hM7 ht8 h
  · exact hq _ _ _ _ _ _ hr3 hM1 ht2 h
noncomputable def epX4_readThing (q : Nat → Nat → Bool) (cM ct  : Nat) : Bool :=
  (epX4_takeBank (fun cr3 cM1 ct2 => (epX4_takeNumber (fun cr6 cM4 ct5 => (epX10_slot (fun cr9 cM7 ct8 => (epX4_tellOnce (fun cM10 ct11 => (epX4_takeThing (fun cr14 cM12 ct13 => (@Bool.rec (fun _ => Bool) (q cM12 ct13) (epX7_setThing (fun cM15 ct16 => (q cM15 ct16)) cM12 ct13 34 cr3 cr6 cr14) (eqN (rd cM12 22 2) 0))) cM10 ct11)) cM7 ct8 (aN 18 cr9))) cM4 ct5 cr3 cr6)) cM1 ct2 0 7)) cM ct)
set_option maxHeartbeats 4000000 in
set_option maxRecDepth 20000 in
theorem spX4_readThing {post : MM → Int64 → Prop} {q : Nat → Nat → Bool} (hq : ∀ (M : MM) (tl : Int64) (cM ct : Nat), M = dM cM → tl = i64 ct → q cM ct = true → post M tl) {M : MM} {tl : Int64} {cM ct  : Nat} (hM : M = dM cM) (ht : tl = i64 ct)  (h : epX4_readThing q  cM ct  = true) : wpX4_readThing post  M tl  := by
  unfold wpX4_readThing
  unfold epX4_readThing at h
  refine spX4_takeBank (fun r3 M1 t2 cr3 cM1 ct2 hr3 hM1 ht2 h => ?_) hM ht h
  refine spX4_takeNumber (fun r6 M4 t5 cr6 cM4 ct5 hr6 hM4 ht5 h => ?_) hM1 ht2 (rfl : (0 : Int32) = nI 0) (rfl : (7 : Int32) = nI 7) h
  refine spX10_slot (fun r9 M7 t8 cr9 cM7 ct8 hr9 hM7 ht8 h => ?_) hM4 ht5 hr3 hr6 h
  refine spX4_tellOnce (fun M10 t11 cM10 ct11 hM10 ht11 h => ?_) hM7 ht8 (r_add (rfl : (18 : Int32) = nI 18) hr9) h
  refine spX4_takeThing (fun r14 M12 t13 cr14 cM12 ct13 hr14 hM12 ht13 h => ?_) hM10 ht11 h
  refine e_ite (c_eq (r_rd hM12 (rfl : (22 : Nat) = 22) (rfl : (2 : Nat) = 2)) (rfl : (0 : Int32) = nI 0)) h (fun h => ?_) (fun h => ?_)
  · refine spX7_setThing (fun M15 t16 cM15 ct16 hM15 ht16 h => ?_) hM12 ht13 (rfl : (34 : Nat) = 34) hr3 hr6 hr14 h
    exact hq _ _ _ _ hM15 ht16 h
  · exact hq _ _ _ _ hM12 ht13 h
noncomputable def eX4_readWork_23 (q : Nat → Nat → Bool) (cM ct  : Nat) : Bool :=
  (epX7_lastMonth (fun cr3 cM1 ct2 => (epX4_takeNumber (fun cr6 cM4 ct5 => (epX4_takeBank (fun cr9 cM7 ct8 => (epX4_takeNumber (fun cr12 cM10 ct11 => (epX4_takeThing (fun cr15 cM13 ct14 => (@Bool.rec (fun _ => Bool) (q cM13 ct14) (epX5_addRow (fun cM16 ct17 => (q cM16 ct17)) cM13 ct14 36 cr6 cr9 cr12 cr15) (eqN (rd cM13 22 2) 0))) cM10 ct11)) cM7 ct8 0 7)) cM4 ct5)) cM1 ct2 cr3 23)) cM ct 34)
set_option maxHeartbeats 4000000 in
set_option maxRecDepth 20000 in
theorem sX4_readWork_23 {post : MM → Int64 → Prop} {q : Nat → Nat → Bool} (hq : ∀ (M : MM) (tl : Int64) (cM ct : Nat), M = dM cM → tl = i64 ct → q cM ct = true → post M tl) {M : MM} {tl : Int64} {cM ct  : Nat} (hM : M = dM cM) (ht : tl = i64 ct)  (h : eX4_readWork_23 q  cM ct  = true) : wX4_readWork_23 post  M tl  := by
  unfold wX4_readWork_23
  unfold eX4_readWork_23 at h
  refine spX7_lastMonth (fun r3 M1 t2 cr3 cM1 ct2 hr3 hM1 ht2 h => ?_) hM ht (rfl : (34 : Nat) = 34) h
  refine spX4_takeNumber (fun r6 M4 t5 cr6 cM4 ct5 hr6 hM4 ht5 h => ?_) hM1 ht2 hr3 (rfl : (23 : Int32) = nI 23) h
  refine spX4_takeBank (fun r9 M7 t8 cr9 cM7 ct8 hr9 hM7 ht8 h => ?_) hM4 ht5 h
  refine spX4_takeNumber (fun r12 M10 t11 cr12 cM10 ct11 hr12 hM10 ht11 h => ?_) hM7 ht8 (rfl : (0 : Int32) = nI 0) (rfl : (7 : Int32) = nI 7) h
  refine spX4_takeThing (fun r15 M13 t14 cr15 cM13 ct14 hr15 hM13 ht14 h => ?_) hM10 ht11 h
  refine e_ite (c_eq (r_rd hM13 (rfl : (22 : Nat) = 22) (rfl : (2 : Nat) = 2)) (rfl : (0 : Int32) = nI 0)) h (fun h => ?_) (fun h => ?_)
  · refine spX5_addRow (fun M16 t17 cM16 ct17 hM16 ht17 h => ?_) hM13 ht14 (rfl : (36 : Nat) = 36) hr6 hr9 hr12 hr15 h
    exact hq _ _ _ _ hM16 ht17 h
  · exact hq _ _ _ _ hM13 ht14 h
noncomputable def epX4_readWork (q : Nat → Nat → Bool) (cM ct  : Nat) : Bool :=
  (epX5_isFull (fun cr3 cM1 ct2 => (@Bool.rec (fun _ => Bool) (epX4_fail (fun cr6 cM4 ct5 => (eX4_readWork_23 q  cM4 ct5)) cM1 ct2 5 (rd cM1 22 7)) (eX4_readWork_23 q  cM1 ct2) (eqN cr3 0))) cM ct 36)
set_option maxHeartbeats 4000000 in
set_option maxRecDepth 20000 in
theorem spX4_readWork {post : MM → Int64 → Prop} {q : Nat → Nat → Bool} (hq : ∀ (M : MM) (tl : Int64) (cM ct : Nat), M = dM cM → tl = i64 ct → q cM ct = true → post M tl) {M : MM} {tl : Int64} {cM ct  : Nat} (hM : M = dM cM) (ht : tl = i64 ct)  (h : epX4_readWork q  cM ct  = true) : wpX4_readWork post  M tl  := by
  unfold wpX4_readWork
  unfold epX4_readWork at h
  refine spX5_isFull (fun r3 M1 t2 cr3 cM1 ct2 hr3 hM1 ht2 h => ?_) hM ht (rfl : (36 : Nat) = 36) h
  refine e_ite (c_eq hr3 (rfl : (0 : Int32) = nI 0)) h (fun h => ?_) (fun h => ?_)
  · exact sX4_readWork_23 hq  hM1 ht2 h
  · refine spX4_fail (fun r6 M4 t5 cr6 cM4 ct5 hr6 hM4 ht5 h => ?_) hM1 ht2 (rfl : (5 : Int32) = nI 5) (r_rd hM1 (rfl : (22 : Nat) = 22) (rfl : (7 : Nat) = 7)) h
    exact sX4_readWork_23 hq  hM4 ht5 h
noncomputable def eX4_readLine_21 (q : Nat → Nat → Bool) (cM ct cv1 : Nat) : Bool :=
  (@Bool.rec (fun _ => Bool) (@Bool.rec (fun _ => Bool) (@Bool.rec (fun _ => Bool) (@Bool.rec (fun _ => Bool) (@Bool.rec (fun _ => Bool) (@Bool.rec (fun _ => Bool) (@Bool.rec (fun _ => Bool) (@Bool.rec (fun _ => Bool) (@Bool.rec (fun _ => Bool) (@Bool.rec (fun _ => Bool) (@Bool.rec (fun _ => Bool) (@Bool.rec (fun _ => Bool) (q cM ct) (epX4_readWork (fun cM49 ct50 => (q cM49 ct50)) cM ct) (eqN cv1 11)) (epX4_readThing (fun cM46 ct47 => (q cM46 ct47)) cM ct) (eqN cv1 10)) (epX4_readRight (fun cM43 ct44 => (q cM43 ct44)) cM ct) (eqN cv1 9)) (epX4_readPaint (fun cM40 ct41 => (q cM40 ct41)) cM ct) (eqN cv1 8)) (epX4_readTwins (fun cM37 ct38 => (q cM37 ct38)) cM ct) (eqN cv1 7)) (epX4_readLack (fun cM34 ct35 => (q cM34 ct35)) cM ct) (eqN cv1 6)) (epX4_readOfKinds (fun cM31 ct32 => (q cM31 ct32)) cM ct 28 6) (eqN cv1 5)) (epX4_readOfKinds (fun cM28 ct29 => (q cM28 ct29)) cM ct 25 4) (eqN cv1 4)) (epX4_tellOnce (fun cM23 ct24 => (epX4_readPrices (fun cM25 ct26 => (q cM25 ct26)) cM23 ct24)) cM ct 3) (eqN cv1 3)) (epX4_tellOnce (fun cM16 ct17 => (epX4_takeNumber (fun cr20 cM18 ct19 => (wrB (fun cM21 => (q cM21 ct19)) cM18 23 2 cr20)) cM16 ct17 0 20)) cM ct 2) (eqN cv1 2)) (epX4_tellOnce (fun cM9 ct10 => (epX4_takeNumber (fun cr13 cM11 ct12 => (wrB (fun cM14 => (q cM14 ct12)) cM11 23 1 cr13)) cM9 ct10 0 6)) cM ct 1) (eqN cv1 1)) (epX4_tellOnce (fun cM2 ct3 => (epX4_takeNumber (fun cr6 cM4 ct5 => (wrB (fun cM7 => (q cM7 ct5)) cM4 23 0 cr6)) cM2 ct3 1 8)) cM ct 0) (eqN cv1 0))
set_option maxHeartbeats 4000000 in
set_option maxRecDepth 20000 in
theorem sX4_readLine_21 {post : MM → Int64 → Prop} {q : Nat → Nat → Bool} (hq : ∀ (M : MM) (tl : Int64) (cM ct : Nat), M = dM cM → tl = i64 ct → q cM ct = true → post M tl) {M : MM} {tl : Int64} {v1 : Int32} {cM ct cv1 : Nat} (hM : M = dM cM) (ht : tl = i64 ct) (hv1 : v1 = nI cv1) (h : eX4_readLine_21 q  cM ct cv1 = true) : wX4_readLine_21 post  M tl v1 := by
  unfold wX4_readLine_21
  unfold eX4_readLine_21 at h
  refine e_ite (c_eq hv1 (rfl : (0 : Int32) = nI 0)) h (fun h => ?_) (fun h => ?_)
  · refine spX4_tellOnce (fun M2 t3 cM2 ct3 hM2 ht3 h => ?_) hM ht (rfl : (0 : Int32) = nI 0) h
    refine spX4_takeNumber (fun r6 M4 t5 cr6 cM4 ct5 hr6 hM4 ht5 h => ?_) hM2 ht3 (rfl : (1 : Int32) = nI 1) (rfl : (8 : Int32) = nI 8) h
    refine e_wr h hM4 (rfl : (23 : Nat) = 23) (rfl : (0 : Nat) = 0) hr6 (fun M7 cM7 hM7 h => ?_)
    exact hq _ _ _ _ hM7 ht5 h
  · refine e_ite (c_eq hv1 (rfl : (1 : Int32) = nI 1)) h (fun h => ?_) (fun h => ?_)
    · refine spX4_tellOnce (fun M9 t10 cM9 ct10 hM9 ht10 h => ?_) hM ht (rfl : (1 : Int32) = nI 1) h
      refine spX4_takeNumber (fun r13 M11 t12 cr13 cM11 ct12 hr13 hM11 ht12 h => ?_) hM9 ht10 (rfl : (0 : Int32) = nI 0) (rfl : (6 : Int32) = nI 6) h
      refine e_wr h hM11 (rfl : (23 : Nat) = 23) (rfl : (1 : Nat) = 1) hr13 (fun M14 cM14 hM14 h => ?_)
      exact hq _ _ _ _ hM14 ht12 h
    · refine e_ite (c_eq hv1 (rfl : (2 : Int32) = nI 2)) h (fun h => ?_) (fun h => ?_)
      · refine spX4_tellOnce (fun M16 t17 cM16 ct17 hM16 ht17 h => ?_) hM ht (rfl : (2 : Int32) = nI 2) h
        refine spX4_takeNumber (fun r20 M18 t19 cr20 cM18 ct19 hr20 hM18 ht19 h => ?_) hM16 ht17 (rfl : (0 : Int32) = nI 0) (rfl : (20 : Int32) = nI 20) h
        refine e_wr h hM18 (rfl : (23 : Nat) = 23) (rfl : (2 : Nat) = 2) hr20 (fun M21 cM21 hM21 h => ?_)
        exact hq _ _ _ _ hM21 ht19 h
      · refine e_ite (c_eq hv1 (rfl : (3 : Int32) = nI 3)) h (fun h => ?_) (fun h => ?_)
        · refine spX4_tellOnce (fun M23 t24 cM23 ct24 hM23 ht24 h => ?_) hM ht (rfl : (3 : Int32) = nI 3) h
          refine spX4_readPrices (fun M25 t26 cM25 ct26 hM25 ht26 h => ?_) hM23 ht24 h
          exact hq _ _ _ _ hM25 ht26 h
        · refine e_ite (c_eq hv1 (rfl : (4 : Int32) = nI 4)) h (fun h => ?_) (fun h => ?_)
          · refine spX4_readOfKinds (fun M28 t29 cM28 ct29 hM28 ht29 h => ?_) hM ht (rfl : (25 : Nat) = 25) (rfl : (4 : Int32) = nI 4) h
            exact hq _ _ _ _ hM28 ht29 h
          · refine e_ite (c_eq hv1 (rfl : (5 : Int32) = nI 5)) h (fun h => ?_) (fun h => ?_)
            · refine spX4_readOfKinds (fun M31 t32 cM31 ct32 hM31 ht32 h => ?_) hM ht (rfl : (28 : Nat) = 28) (rfl : (6 : Int32) = nI 6) h
              exact hq _ _ _ _ hM31 ht32 h
            · refine e_ite (c_eq hv1 (rfl : (6 : Int32) = nI 6)) h (fun h => ?_) (fun h => ?_)
              · refine spX4_readLack (fun M34 t35 cM34 ct35 hM34 ht35 h => ?_) hM ht h
                exact hq _ _ _ _ hM34 ht35 h
              · refine e_ite (c_eq hv1 (rfl : (7 : Int32) = nI 7)) h (fun h => ?_) (fun h => ?_)
                · refine spX4_readTwins (fun M37 t38 cM37 ct38 hM37 ht38 h => ?_) hM ht h
                  exact hq _ _ _ _ hM37 ht38 h
                · refine e_ite (c_eq hv1 (rfl : (8 : Int32) = nI 8)) h (fun h => ?_) (fun h => ?_)
                  · refine spX4_readPaint (fun M40 t41 cM40 ct41 hM40 ht41 h => ?_) hM ht h
                    exact hq _ _ _ _ hM40 ht41 h
                  · refine e_ite (c_eq hv1 (rfl : (9 : Int32) = nI 9)) h (fun h => ?_) (fun h => ?_)
                    · refine spX4_readRight (fun M43 t44 cM43 ct44 hM43 ht44 h => ?_) hM ht h
                      exact hq _ _ _ _ hM43 ht44 h
                    · refine e_ite (c_eq hv1 (rfl : (10 : Int32) = nI 10)) h (fun h => ?_) (fun h => ?_)
                      · refine spX4_readThing (fun M46 t47 cM46 ct47 hM46 ht47 h => ?_) hM ht h
                        exact hq _ _ _ _ hM46 ht47 h
                      · refine e_ite (c_eq hv1 (rfl : (11 : Int32) = nI 11)) h (fun h => ?_) (fun h => ?_)
                        · refine spX4_readWork (fun M49 t50 cM49 ct50 hM49 ht50 h => ?_) hM ht h
                          exact hq _ _ _ _ hM49 ht50 h
                        · exact hq _ _ _ _ hM ht h
noncomputable def epX4_readLine (q : Nat → Nat → Bool) (cM ct  : Nat) : Bool :=
  (epX4_nameAmong (fun cr3 cM1 ct2 => (@Bool.rec (fun _ => Bool) (epX4_fail (fun cr6 cM4 ct5 => (eX4_readLine_21 q  cM4 ct5 cr3)) cM1 ct2 2 (rd cM1 22 7)) (eX4_readLine_21 q  cM1 ct2 cr3) (leN 0 cr3))) cM ct 0)
set_option maxHeartbeats 4000000 in
set_option maxRecDepth 20000 in
theorem spX4_readLine {post : MM → Int64 → Prop} {q : Nat → Nat → Bool} (hq : ∀ (M : MM) (tl : Int64) (cM ct : Nat), M = dM cM → tl = i64 ct → q cM ct = true → post M tl) {M : MM} {tl : Int64} {cM ct  : Nat} (hM : M = dM cM) (ht : tl = i64 ct)  (h : epX4_readLine q  cM ct  = true) : wpX4_readLine post  M tl  := by
  unfold wpX4_readLine
  unfold epX4_readLine at h
  refine spX4_nameAmong (fun r3 M1 t2 cr3 cM1 ct2 hr3 hM1 ht2 h => ?_) hM ht (rfl : (0 : Nat) = 0) h
  refine e_ite (c_le (rfl : (0 : Int32) = nI 0) hr3) h (fun h => ?_) (fun h => ?_)
  · exact sX4_readLine_21 hq  hM1 ht2 hr3 h
  · refine spX4_fail (fun r6 M4 t5 cr6 cM4 ct5 hr6 hM4 ht5 h => ?_) hM1 ht2 (rfl : (2 : Int32) = nI 2) (r_rd hM1 (rfl : (22 : Nat) = 22) (rfl : (7 : Nat) = 7)) h
    exact sX4_readLine_21 hq  hM4 ht5 hr3 h
noncomputable def epX4_takeStop (q : Nat → Nat → Bool) (cM ct  : Nat) : Bool :=
  (epX4_takeToken (fun cM1 ct2 => (@Bool.rec (fun _ => Bool) (q cM1 ct2) (@Bool.rec (fun _ => Bool) (epX4_fail (fun cr5 cM3 ct4 => (q cM3 ct4)) cM1 ct2 2 (rd cM1 22 7)) (q cM1 ct2) (eqN (rd cM1 22 8) 3)) (eqN (rd cM1 22 2) 0))) cM ct)
set_option maxHeartbeats 4000000 in
set_option maxRecDepth 20000 in
theorem spX4_takeStop {post : MM → Int64 → Prop} {q : Nat → Nat → Bool} (hq : ∀ (M : MM) (tl : Int64) (cM ct : Nat), M = dM cM → tl = i64 ct → q cM ct = true → post M tl) {M : MM} {tl : Int64} {cM ct  : Nat} (hM : M = dM cM) (ht : tl = i64 ct)  (h : epX4_takeStop q  cM ct  = true) : wpX4_takeStop post  M tl  := by
  unfold wpX4_takeStop
  unfold epX4_takeStop at h
  refine spX4_takeToken (fun M1 t2 cM1 ct2 hM1 ht2 h => ?_) hM ht h
  refine e_ite (c_eq (r_rd hM1 (rfl : (22 : Nat) = 22) (rfl : (2 : Nat) = 2)) (rfl : (0 : Int32) = nI 0)) h (fun h => ?_) (fun h => ?_)
  · refine e_ite (c_eq (r_rd hM1 (rfl : (22 : Nat) = 22) (rfl : (8 : Nat) = 8)) (rfl : (3 : Int32) = nI 3)) h (fun h => ?_) (fun h => ?_)
    · exact hq _ _ _ _ hM1 ht2 h
    · refine spX4_fail (fun r5 M3 t4 cr5 cM3 ct4 hr5 hM3 ht4 h => ?_) hM1 ht2 (rfl : (2 : Int32) = nI 2) (r_rd hM1 (rfl : (22 : Nat) = 22) (rfl : (7 : Nat) = 7)) h
      exact hq _ _ _ _ hM3 ht4 h
  · exact hq _ _ _ _ hM1 ht2 h
noncomputable def eX4_allLotsAre_15 (q : Nat → Nat → Nat → Bool) (cbk2 : Nat → Nat → Nat → Bool) (n : Nat) : Nat → Nat → Nat → Nat → Bool :=
  @Nat.rec (fun _ => Nat → Nat → Nat → Nat → Bool) (fun _ _ _ _ => false) (fun _ ih cM ct cv1 cv2 => (@Bool.rec (fun _ => Bool) (epX10_slot (fun cr3 cM1 ct2 => (@Bool.rec (fun _ => Bool) (q 0 cM1 ct2) (ih cM1 ct2 cv1 (aN cv2 1)) (eqN (lcN (b64 f_land (b64i f_lshr ct (aN 18 cr3)) 1) 0) 0))) cM ct cv1 cv2) (cbk2 cM ct (aN cv1 1)) (leN 8 cv2))) n
set_option maxHeartbeats 4000000 in
set_option maxRecDepth 20000 in
theorem sX4_allLotsAre_15 {post : Int32 → MM → Int64 → Prop} {q : Nat → Nat → Nat → Bool} (hq : ∀ (r : Int32) (M : MM) (tl : Int64) (cr cM ct : Nat), r = nI cr → M = dM cM → tl = i64 ct → q cr cM ct = true → post r M tl) {bk2 : MM → Int64 → Int32 → Prop} {cbk2 : Nat → Nat → Nat → Bool} (hbk2 : ∀ (M : MM) (tl : Int64) (x0 : Int32) (cM ct cx0 : Nat), M = dM cM → tl = i64 ct → x0 = nI cx0 → cbk2 cM ct cx0 = true → bk2 M tl x0) : ∀ (n : Nat) (M : MM) (tl : Int64) (v1 : Int32) (v2 : Int32) (cM ct cv1 cv2 : Nat), M = dM cM → tl = i64 ct → v1 = nI cv1 → v2 = nI cv2 → eX4_allLotsAre_15 q cbk2 n cM ct cv1 cv2 = true → wX4_allLotsAre_15 post bk2 n M tl v1 v2 := by
  intro n
  induction n with
  | zero => intro M tl v1 v2 cM ct cv1 cv2 hM ht hv1 hv2 h; exact Bool.noConfusion h
  | succ n ih =>
    intro M tl v1 v2 cM ct cv1 cv2 hM ht hv1 hv2 h
    unfold wX4_allLotsAre_15
    refine e_ite (c_le (rfl : (8 : Int32) = nI 8) hv2) h (fun h => ?_) (fun h => ?_)
    · exact hbk2 _ _ _ _ _ _ hM ht (r_add hv1 (rfl : (1 : Int32) = nI 1)) h
    · refine spX10_slot (fun r3 M1 t2 cr3 cM1 ct2 hr3 hM1 ht2 h => ?_) hM ht hv1 hv2 h
      refine e_ite (c_eq (r_cmp (r_b64 f_land (r_b64i f_lshr ht (r_add (rfl : (18 : Int32) = nI 18) hr3)) (rfl : (1 : Int64) = i64 1)) (rfl : (0 : Int64) = i64 0)) (rfl : (0 : Int32) = nI 0)) h (fun h => ?_) (fun h => ?_)
      · exact ih _ _ _ _ _ _ _ _ hM1 ht2 hv1 (r_add hv2 (rfl : (1 : Int32) = nI 1)) h
      · exact hq _ _ _ _ _ _ (rfl : (0 : Int32) = nI 0) hM1 ht2 h
noncomputable def eX4_allLotsAre_57 (q : Nat → Nat → Nat → Bool) (n : Nat) : Nat → Nat → Nat → Bool :=
  @Nat.rec (fun _ => Nat → Nat → Nat → Bool) (fun _ _ _ => false) (fun _ ih cM ct cv1 => (@Bool.rec (fun _ => Bool) (epX5_cell (fun cr3 cM1 ct2 => (@Bool.rec (fun _ => Bool) (q 0 cM1 ct2) (ih cM1 ct2 (aN cv1 1)) (ltN cr3 (rd cM1 23 0)))) cM ct 36 cv1 2) (q 1 cM ct) (leN (rd cM 36 3) cv1))) n
set_option maxHeartbeats 4000000 in
set_option maxRecDepth 20000 in
theorem sX4_allLotsAre_57 {post : Int32 → MM → Int64 → Prop} {q : Nat → Nat → Nat → Bool} (hq : ∀ (r : Int32) (M : MM) (tl : Int64) (cr cM ct : Nat), r = nI cr → M = dM cM → tl = i64 ct → q cr cM ct = true → post r M tl) : ∀ (n : Nat) (M : MM) (tl : Int64) (v1 : Int32) (cM ct cv1 : Nat), M = dM cM → tl = i64 ct → v1 = nI cv1 → eX4_allLotsAre_57 q  n cM ct cv1 = true → wX4_allLotsAre_57 post  n M tl v1 := by
  intro n
  induction n with
  | zero => intro M tl v1 cM ct cv1 hM ht hv1 h; exact Bool.noConfusion h
  | succ n ih =>
    intro M tl v1 cM ct cv1 hM ht hv1 h
    unfold wX4_allLotsAre_57
    refine e_ite (c_le (r_rd hM (rfl : (36 : Nat) = 36) (rfl : (3 : Nat) = 3)) hv1) h (fun h => ?_) (fun h => ?_)
    · exact hq _ _ _ _ _ _ (rfl : (1 : Int32) = nI 1) hM ht h
    · refine spX5_cell (fun r3 M1 t2 cr3 cM1 ct2 hr3 hM1 ht2 h => ?_) hM ht (rfl : (36 : Nat) = 36) hv1 (rfl : (2 : Int32) = nI 2) h
      refine e_ite (c_lt hr3 (r_rd hM1 (rfl : (23 : Nat) = 23) (rfl : (0 : Nat) = 0))) h (fun h => ?_) (fun h => ?_)
      · exact ih _ _ _ _ _ _ hM1 ht2 (r_add hv1 (rfl : (1 : Int32) = nI 1)) h
      · exact hq _ _ _ _ _ _ (rfl : (0 : Int32) = nI 0) hM1 ht2 h
noncomputable def eX4_allLotsAre_2 (q : Nat → Nat → Nat → Bool) (n : Nat) : Nat → Nat → Nat → Bool :=
  @Nat.rec (fun _ => Nat → Nat → Nat → Bool) (fun _ _ _ => false) (fun _ ih cM ct cv1 => (@Bool.rec (fun _ => Bool) (eX4_allLotsAre_15 q ih 5000 cM ct cv1 (rd cM 23 0)) (eX4_allLotsAre_57 q  5000 cM ct 0) (leN 2 cv1))) n
set_option maxHeartbeats 4000000 in
set_option maxRecDepth 20000 in
theorem sX4_allLotsAre_2 {post : Int32 → MM → Int64 → Prop} {q : Nat → Nat → Nat → Bool} (hq : ∀ (r : Int32) (M : MM) (tl : Int64) (cr cM ct : Nat), r = nI cr → M = dM cM → tl = i64 ct → q cr cM ct = true → post r M tl) : ∀ (n : Nat) (M : MM) (tl : Int64) (v1 : Int32) (cM ct cv1 : Nat), M = dM cM → tl = i64 ct → v1 = nI cv1 → eX4_allLotsAre_2 q  n cM ct cv1 = true → wX4_allLotsAre_2 post  n M tl v1 := by
  intro n
  induction n with
  | zero => intro M tl v1 cM ct cv1 hM ht hv1 h; exact Bool.noConfusion h
  | succ n ih =>
    intro M tl v1 cM ct cv1 hM ht hv1 h
    unfold wX4_allLotsAre_2
    refine e_ite (c_le (rfl : (2 : Int32) = nI 2) hv1) h (fun h => ?_) (fun h => ?_)
    · exact ⟨5000, sX4_allLotsAre_57 hq  5000 _ _ _ _ _ _ hM ht (rfl : (0 : Int32) = nI 0) h⟩
    · exact ⟨5000, sX4_allLotsAre_15 hq ih 5000 _ _ _ _ _ _ _ _ hM ht hv1 (r_rd hM (rfl : (23 : Nat) = 23) (rfl : (0 : Nat) = 0)) h⟩
noncomputable def epX4_allLotsAre (q : Nat → Nat → Nat → Bool) (cM ct  : Nat) : Bool :=
  (eX4_allLotsAre_2 q  5000 cM ct 0)
set_option maxHeartbeats 4000000 in
set_option maxRecDepth 20000 in
theorem spX4_allLotsAre {post : Int32 → MM → Int64 → Prop} {q : Nat → Nat → Nat → Bool} (hq : ∀ (r : Int32) (M : MM) (tl : Int64) (cr cM ct : Nat), r = nI cr → M = dM cM → tl = i64 ct → q cr cM ct = true → post r M tl) {M : MM} {tl : Int64} {cM ct  : Nat} (hM : M = dM cM) (ht : tl = i64 ct)  (h : epX4_allLotsAre q  cM ct  = true) : wpX4_allLotsAre post  M tl  := by
  unfold wpX4_allLotsAre
  unfold epX4_allLotsAre at h
  exact ⟨5000, sX4_allLotsAre_2 hq  5000 _ _ _ _ _ _ hM ht (rfl : (0 : Int32) = nI 0) h⟩
noncomputable def eX4_readAll_59 (q : Nat → Nat → Bool) (cM ct  : Nat) : Bool :=
  (@Bool.rec (fun _ => Bool) (q cM ct) (epX4_allLotsAre (fun cr3 cM1 ct2 => (@Bool.rec (fun _ => Bool) (q cM1 ct2) (epX4_fail (fun cr6 cM4 ct5 => (q cM4 ct5)) cM1 ct2 6 (rd cM1 1 1)) (eqN cr3 0))) cM ct) (eqN (rd cM 22 2) 0))
set_option maxHeartbeats 4000000 in
set_option maxRecDepth 20000 in
theorem sX4_readAll_59 {post : MM → Int64 → Prop} {q : Nat → Nat → Bool} (hq : ∀ (M : MM) (tl : Int64) (cM ct : Nat), M = dM cM → tl = i64 ct → q cM ct = true → post M tl) {M : MM} {tl : Int64} {cM ct  : Nat} (hM : M = dM cM) (ht : tl = i64 ct)  (h : eX4_readAll_59 q  cM ct  = true) : wX4_readAll_59 post  M tl  := by
  unfold wX4_readAll_59
  unfold eX4_readAll_59 at h
  refine e_ite (c_eq (r_rd hM (rfl : (22 : Nat) = 22) (rfl : (2 : Nat) = 2)) (rfl : (0 : Int32) = nI 0)) h (fun h => ?_) (fun h => ?_)
  · refine spX4_allLotsAre (fun r3 M1 t2 cr3 cM1 ct2 hr3 hM1 ht2 h => ?_) hM ht h
    refine e_ite (c_eq hr3 (rfl : (0 : Int32) = nI 0)) h (fun h => ?_) (fun h => ?_)
    · refine spX4_fail (fun r6 M4 t5 cr6 cM4 ct5 hr6 hM4 ht5 h => ?_) hM1 ht2 (rfl : (6 : Int32) = nI 6) (r_rd hM1 (rfl : (1 : Nat) = 1) (rfl : (1 : Nat) = 1)) h
      exact hq _ _ _ _ hM4 ht5 h
    · exact hq _ _ _ _ hM1 ht2 h
  · exact hq _ _ _ _ hM ht h
noncomputable def eX4_readAll_10 (q : Nat → Nat → Bool) (n : Nat) : Nat → Nat → Nat → Bool :=
  @Nat.rec (fun _ => Nat → Nat → Nat → Bool) (fun _ _ _ => false) (fun _ ih cM ct cv1 => (@Bool.rec (fun _ => Bool) (@Bool.rec (fun _ => Bool) (eX4_readAll_59 q  cM ct) (@Bool.rec (fun _ => Bool) (epX4_readLine (fun cM1 ct2 => (epX4_takeStop (fun cM3 ct4 => (epX4_takeToken (fun cM5 ct6 => (wrB (fun cM7 => (ih cM7 ct6 (aN cv1 1))) cM5 22 4 (aN (rd cM5 22 4) 1))) cM3 ct4)) cM1 ct2)) cM ct) (eX4_readAll_59 q  cM ct) (eqN (rd cM 22 8) 0)) (eqN (rd cM 22 2) 0)) (eX4_readAll_59 q  cM ct) (leN 400 cv1))) n
set_option maxHeartbeats 4000000 in
set_option maxRecDepth 20000 in
theorem sX4_readAll_10 {post : MM → Int64 → Prop} {q : Nat → Nat → Bool} (hq : ∀ (M : MM) (tl : Int64) (cM ct : Nat), M = dM cM → tl = i64 ct → q cM ct = true → post M tl) : ∀ (n : Nat) (M : MM) (tl : Int64) (v1 : Int32) (cM ct cv1 : Nat), M = dM cM → tl = i64 ct → v1 = nI cv1 → eX4_readAll_10 q  n cM ct cv1 = true → wX4_readAll_10 post  n M tl v1 := by
  intro n
  induction n with
  | zero => intro M tl v1 cM ct cv1 hM ht hv1 h; exact Bool.noConfusion h
  | succ n ih =>
    intro M tl v1 cM ct cv1 hM ht hv1 h
    unfold wX4_readAll_10
    refine e_ite (c_le (rfl : (400 : Int32) = nI 400) hv1) h (fun h => ?_) (fun h => ?_)
    · exact sX4_readAll_59 hq  hM ht h
    · refine e_ite (c_eq (r_rd hM (rfl : (22 : Nat) = 22) (rfl : (2 : Nat) = 2)) (rfl : (0 : Int32) = nI 0)) h (fun h => ?_) (fun h => ?_)
      · refine e_ite (c_eq (r_rd hM (rfl : (22 : Nat) = 22) (rfl : (8 : Nat) = 8)) (rfl : (0 : Int32) = nI 0)) h (fun h => ?_) (fun h => ?_)
        · exact sX4_readAll_59 hq  hM ht h
        · refine spX4_readLine (fun M1 t2 cM1 ct2 hM1 ht2 h => ?_) hM ht h
          refine spX4_takeStop (fun M3 t4 cM3 ct4 hM3 ht4 h => ?_) hM1 ht2 h
          refine spX4_takeToken (fun M5 t6 cM5 ct6 hM5 ht6 h => ?_) hM3 ht4 h
          refine e_wr h hM5 (rfl : (22 : Nat) = 22) (rfl : (4 : Nat) = 4) (r_add (r_rd hM5 (rfl : (22 : Nat) = 22) (rfl : (4 : Nat) = 4)) (rfl : (1 : Int32) = nI 1)) (fun M7 cM7 hM7 h => ?_)
          exact ih _ _ _ _ _ _ hM7 ht6 (r_add hv1 (rfl : (1 : Int32) = nI 1)) h
      · exact sX4_readAll_59 hq  hM ht h
noncomputable def epX4_readAll (q : Nat → Nat → Bool) (cM ct  : Nat) : Bool :=
  (epX4_restart (fun cM1 ct2 => (epX4_takeToken (fun cM3 ct4 => (eX4_readAll_10 q  5000 cM3 ct4 0)) cM1 ct2)) cM ct)
set_option maxHeartbeats 4000000 in
set_option maxRecDepth 20000 in
theorem spX4_readAll {post : MM → Int64 → Prop} {q : Nat → Nat → Bool} (hq : ∀ (M : MM) (tl : Int64) (cM ct : Nat), M = dM cM → tl = i64 ct → q cM ct = true → post M tl) {M : MM} {tl : Int64} {cM ct  : Nat} (hM : M = dM cM) (ht : tl = i64 ct)  (h : epX4_readAll q  cM ct  = true) : wpX4_readAll post  M tl  := by
  unfold wpX4_readAll
  unfold epX4_readAll at h
  refine spX4_restart (fun M1 t2 cM1 ct2 hM1 ht2 h => ?_) hM ht h
  refine spX4_takeToken (fun M3 t4 cM3 ct4 hM3 ht4 h => ?_) hM1 ht2 h
  exact ⟨5000, sX4_readAll_10 hq  5000 _ _ _ _ _ _ hM3 ht4 (rfl : (0 : Int32) = nI 0) h⟩
noncomputable def eX10_text_77 (q : Nat → Nat → Nat → Bool) (n : Nat) : Nat → Nat → Nat → Bool :=
  @Nat.rec (fun _ => Nat → Nat → Nat → Bool) (fun _ _ _ => false) (fun _ ih cM ct cv1 => (@Bool.rec (fun _ => Bool) (@Bool.rec (fun _ => Bool) false (wrB (fun cM2 => (ih cM2 ct (aN cv1 1))) cM 55 (tN cv1) (b1 (vp_nar .boolean) 0)) (inN cv1 (alF 55))) (q (rd cM 22 4) cM ct) (leN 2 cv1))) n
set_option maxHeartbeats 4000000 in
set_option maxRecDepth 20000 in
theorem sX10_text_77 {post : Int32 → MM → Int64 → Prop} {q : Nat → Nat → Nat → Bool} (hq : ∀ (r : Int32) (M : MM) (tl : Int64) (cr cM ct : Nat), r = nI cr → M = dM cM → tl = i64 ct → q cr cM ct = true → post r M tl) : ∀ (n : Nat) (M : MM) (tl : Int64) (v1 : Int32) (cM ct cv1 : Nat), M = dM cM → tl = i64 ct → v1 = nI cv1 → eX10_text_77 q  n cM ct cv1 = true → wX10_text_77 post  n M tl v1 := by
  intro n
  induction n with
  | zero => intro M tl v1 cM ct cv1 hM ht hv1 h; exact Bool.noConfusion h
  | succ n ih =>
    intro M tl v1 cM ct cv1 hM ht hv1 h
    unfold wX10_text_77
    refine e_ite (c_le (rfl : (2 : Int32) = nI 2) hv1) h (fun h => ?_) (fun h => ?_)
    · exact hq _ _ _ _ _ _ (r_rd hM (rfl : (22 : Nat) = 22) (rfl : (4 : Nat) = 4)) hM ht h
    · refine e_and (k_in hv1 (r_al (rfl : (55 : Nat) = 55))) h (fun h => ?_)
      refine e_wr h hM (rfl : (55 : Nat) = 55) (r_nat hv1) (r_b1 (vp_nar .boolean) (rfl : (0 : Int32) = nI 0)) (fun M2 cM2 hM2 h => ?_)
      exact ih _ _ _ _ _ _ hM2 ht (r_add hv1 (rfl : (1 : Int32) = nI 1)) h
noncomputable def epX10_text (q : Nat → Nat → Nat → Bool) (cM ct  : Nat) : Bool :=
  (epX4_readAll (fun cM1 ct2 => (wrB (fun cM3 => (wrB (fun cM4 => (@Bool.rec (fun _ => Bool) (q (sN 4294967286 (rd cM4 22 3)) cM4 ct2) (epX1_copyFrom (fun cM5 ct6 => (epX7_copyFrom (fun cM7 ct8 => (eX10_text_77 q  5000 cM7 ct8 0)) cM5 ct6 14 34)) cM4 ct2 3 23) (eqN (rd cM4 22 2) 0))) cM3 0 11 (rd cM3 22 2))) cM1 1 1 0)) cM ct)
set_option maxHeartbeats 4000000 in
set_option maxRecDepth 20000 in
theorem spX10_text {post : Int32 → MM → Int64 → Prop} {q : Nat → Nat → Nat → Bool} (hq : ∀ (r : Int32) (M : MM) (tl : Int64) (cr cM ct : Nat), r = nI cr → M = dM cM → tl = i64 ct → q cr cM ct = true → post r M tl) {M : MM} {tl : Int64} {cM ct  : Nat} (hM : M = dM cM) (ht : tl = i64 ct)  (h : epX10_text q  cM ct  = true) : wpX10_text post  M tl  := by
  unfold wpX10_text
  unfold epX10_text at h
  refine spX4_readAll (fun M1 t2 cM1 ct2 hM1 ht2 h => ?_) hM ht h
  refine e_wr h hM1 (rfl : (1 : Nat) = 1) (rfl : (1 : Nat) = 1) (rfl : (0 : Int32) = nI 0) (fun M3 cM3 hM3 h => ?_)
  refine e_wr h hM3 (rfl : (0 : Nat) = 0) (rfl : (11 : Nat) = 11) (r_rd hM3 (rfl : (22 : Nat) = 22) (rfl : (2 : Nat) = 2)) (fun M4 cM4 hM4 h => ?_)
  refine e_ite (c_eq (r_rd hM4 (rfl : (22 : Nat) = 22) (rfl : (2 : Nat) = 2)) (rfl : (0 : Int32) = nI 0)) h (fun h => ?_) (fun h => ?_)
  · refine spX1_copyFrom (fun M5 t6 cM5 ct6 hM5 ht6 h => ?_) hM4 ht2 (rfl : (3 : Nat) = 3) (rfl : (23 : Nat) = 23) h
    refine spX7_copyFrom (fun M7 t8 cM7 ct8 hM7 ht8 h => ?_) hM5 ht6 (rfl : (14 : Nat) = 14) (rfl : (34 : Nat) = 34) h
    exact ⟨5000, sX10_text_77 hq  5000 _ _ _ _ _ _ hM7 ht8 (rfl : (0 : Int32) = nI 0) h⟩
  · exact hq _ _ _ _ _ _ (r_sub lm10 (r_rd hM4 (rfl : (22 : Nat) = 22) (rfl : (3 : Nat) = 3))) hM4 ht2 h
