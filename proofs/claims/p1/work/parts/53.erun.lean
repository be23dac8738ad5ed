noncomputable def eX6_start_61 (q : Nat → Nat → Bool) (n : Nat) : Nat → Nat → Nat → Bool :=
  @Nat.rec (fun _ => Nat → Nat → Nat → Bool) (fun _ _ _ => false) (fun _ ih cM ct cv1 => (@Bool.rec (fun _ => Bool) (@Bool.rec (fun _ => Bool) false (wrB (fun cM2 => (ih cM2 ct (aN cv1 1))) cM 44 (tN cv1) 0) (inN cv1 (alF 44))) (q cM ct) (leN 2 cv1))) n
set_option maxHeartbeats 4000000 in
set_option maxRecDepth 20000 in
theorem sX6_start_61 {post : MM → Int64 → Prop} {q : Nat → Nat → Bool} (hq : ∀ (M : MM) (tl : Int64) (cM ct : Nat), M = dM cM → tl = i64 ct → q cM ct = true → post M tl) : ∀ (n : Nat) (M : MM) (tl : Int64) (v1 : Int32) (cM ct cv1 : Nat), M = dM cM → tl = i64 ct → v1 = nI cv1 → eX6_start_61 q  n cM ct cv1 = true → wX6_start_61 post  n M tl v1 := by
  intro n
  induction n with
  | zero => intro M tl v1 cM ct cv1 hM ht hv1 h; exact Bool.noConfusion h
  | succ n ih =>
    intro M tl v1 cM ct cv1 hM ht hv1 h
    unfold wX6_start_61
    refine e_ite (c_le (rfl : (2 : Int32) = nI 2) hv1) h (fun h => ?_) (fun h => ?_)
    · exact hq _ _ _ _ hM ht h
    · refine e_and (k_in hv1 (r_al (rfl : (44 : Nat) = 44))) h (fun h => ?_)
      refine e_wr h hM (rfl : (44 : Nat) = 44) (r_nat hv1) (rfl : (0 : Int32) = nI 0) (fun M2 cM2 hM2 h => ?_)
      exact ih _ _ _ _ _ _ hM2 ht (r_add hv1 (rfl : (1 : Int32) = nI 1)) h
noncomputable def eX6_start_39 (q : Nat → Nat → Bool) (n : Nat) : Nat → Nat → Nat → Bool :=
  @Nat.rec (fun _ => Nat → Nat → Nat → Bool) (fun _ _ _ => false) (fun _ ih cM ct cv1 => (@Bool.rec (fun _ => Bool) (@Bool.rec (fun _ => Bool) false (wrB (fun cM2 => (ih cM2 ct (aN cv1 1))) cM 46 (tN cv1) 4294967292) (inN cv1 (alF 46))) (eX6_start_61 q  5000 cM ct 0) (leN 8 cv1))) n
set_option maxHeartbeats 4000000 in
set_option maxRecDepth 20000 in
theorem sX6_start_39 {post : MM → Int64 → Prop} {q : Nat → Nat → Bool} (hq : ∀ (M : MM) (tl : Int64) (cM ct : Nat), M = dM cM → tl = i64 ct → q cM ct = true → post M tl) : ∀ (n : Nat) (M : MM) (tl : Int64) (v1 : Int32) (cM ct cv1 : Nat), M = dM cM → tl = i64 ct → v1 = nI cv1 → eX6_start_39 q  n cM ct cv1 = true → wX6_start_39 post  n M tl v1 := by
  intro n
  induction n with
  | zero => intro M tl v1 cM ct cv1 hM ht hv1 h; exact Bool.noConfusion h
  | succ n ih =>
    intro M tl v1 cM ct cv1 hM ht hv1 h
    unfold wX6_start_39
    refine e_ite (c_le (rfl : (8 : Int32) = nI 8) hv1) h (fun h => ?_) (fun h => ?_)
    · exact ⟨5000, sX6_start_61 hq  5000 _ _ _ _ _ _ hM ht (rfl : (0 : Int32) = nI 0) h⟩
    · refine e_and (k_in hv1 (r_al (rfl : (46 : Nat) = 46))) h (fun h => ?_)
      refine e_wr h hM (rfl : (46 : Nat) = 46) (r_nat hv1) lm4 (fun M2 cM2 hM2 h => ?_)
      exact ih _ _ _ _ _ _ hM2 ht (r_add hv1 (rfl : (1 : Int32) = nI 1)) h
noncomputable def eX6_start_2 (q : Nat → Nat → Bool) (n : Nat) : Nat → Nat → Nat → Bool :=
  @Nat.rec (fun _ => Nat → Nat → Nat → Bool) (fun _ _ _ => false) (fun _ ih cM ct cv1 => (@Bool.rec (fun _ => Bool) (@Bool.rec (fun _ => Bool) false (@Bool.rec (fun _ => Bool) false (wrB (fun cM3 => (@Bool.rec (fun _ => Bool) false (wrB (fun cM5 => (ih cM5 ct (aN cv1 1))) cM3 47 (tN cv1) 4294967292) (inN cv1 (alF 47)))) cM 43 (tN cv1) (rd cM 15 (tN cv1))) (inN cv1 (alF 43))) (inN cv1 (alF 15))) (eX6_start_39 q  5000 cM ct 0) (leN 16 cv1))) n
set_option maxHeartbeats 4000000 in
set_option maxRecDepth 20000 in
theorem sX6_start_2 {post : MM → Int64 → Prop} {q : Nat → Nat → Bool} (hq : ∀ (M : MM) (tl : Int64) (cM ct : Nat), M = dM cM → tl = i64 ct → q cM ct = true → post M tl) : ∀ (n : Nat) (M : MM) (tl : Int64) (v1 : Int32) (cM ct cv1 : Nat), M = dM cM → tl = i64 ct → v1 = nI cv1 → eX6_start_2 q  n cM ct cv1 = true → wX6_start_2 post  n M tl v1 := by
  intro n
  induction n with
  | zero => intro M tl v1 cM ct cv1 hM ht hv1 h; exact Bool.noConfusion h
  | succ n ih =>
    intro M tl v1 cM ct cv1 hM ht hv1 h
    unfold wX6_start_2
    refine e_ite (c_le (rfl : (16 : Int32) = nI 16) hv1) h (fun h => ?_) (fun h => ?_)
    · exact ⟨5000, sX6_start_39 hq  5000 _ _ _ _ _ _ hM ht (rfl : (0 : Int32) = nI 0) h⟩
    · refine e_and (k_in hv1 (r_al (rfl : (15 : Nat) = 15))) h (fun h => ?_)
      refine e_and (k_in hv1 (r_al (rfl : (43 : Nat) = 43))) h (fun h => ?_)
      refine e_wr h hM (rfl : (43 : Nat) = 43) (r_nat hv1) (r_rd hM (rfl : (15 : Nat) = 15) (r_nat hv1)) (fun M3 cM3 hM3 h => ?_)
      refine e_and (k_in hv1 (r_al (rfl : (47 : Nat) = 47))) h (fun h => ?_)
      refine e_wr h hM3 (rfl : (47 : Nat) = 47) (r_nat hv1) lm4 (fun M5 cM5 hM5 h => ?_)
      exact ih _ _ _ _ _ _ hM5 ht (r_add hv1 (rfl : (1 : Int32) = nI 1)) h
noncomputable def epX6_start (q : Nat → Nat → Bool) (cM ct  : Nat) : Bool :=
  (eX6_start_2 q  5000 cM ct 0)
set_option maxHeartbeats 4000000 in
set_option maxRecDepth 20000 in
theorem spX6_start {post : MM → Int64 → Prop} {q : Nat → Nat → Bool} (hq : ∀ (M : MM) (tl : Int64) (cM ct : Nat), M = dM cM → tl = i64 ct → q cM ct = true → post M tl) {M : MM} {tl : Int64} {cM ct  : Nat} (hM : M = dM cM) (ht : tl = i64 ct)  (h : epX6_start q  cM ct  = true) : wpX6_start post  M tl  := by
  unfold wpX6_start
  exact ⟨5000, sX6_start_2 hq  5000 _ _ _ _ _ _ hM ht (rfl : (0 : Int32) = nI 0) h⟩
noncomputable def epX6_build (q : Nat → Nat → Bool) (cM ct cv1 cv2 cv3 : Nat) : Bool :=
  (@Bool.rec (fun _ => Bool) false (epX1_costOf (fun cr4 cM2 ct3 => (@Bool.rec (fun _ => Bool) false (wrB (fun cM6 => (epX10_slot (fun cr9 cM7 ct8 => (@Bool.rec (fun _ => Bool) false (wrB (fun cM11 => (q cM11 ct8)) cM7 43 (tN cr9) cv3) (inN cr9 (alF 43)))) cM6 ct3 cv1 cv2)) cM2 44 (tN cv1) (aN (rd cM 44 (tN cv1)) cr4)) (inN cv1 (alF 44)))) cM ct 3 cv1 (Nat.land cv3 7)) (inN cv1 (alF 44)))
set_option maxHeartbeats 4000000 in
set_option maxRecDepth 20000 in
theorem spX6_build {post : MM → Int64 → Prop} {q : Nat → Nat → Bool} (hq : ∀ (M : MM) (tl : Int64) (cM ct : Nat), M = dM cM → tl = i64 ct → q cM ct = true → post M tl) {M : MM} {tl : Int64} {v1 : Int32} {v2 : Int32} {v3 : Int32} {cM ct cv1 cv2 cv3 : Nat} (hM : M = dM cM) (ht : tl = i64 ct) (hv1 : v1 = nI cv1) (hv2 : v2 = nI cv2) (hv3 : v3 = nI cv3) (h : epX6_build q  cM ct cv1 cv2 cv3 = true) : wpX6_build post  M tl v1 v2 v3 := by
  unfold wpX6_build
  refine e_and (k_in hv1 (r_al (rfl : (44 : Nat) = 44))) h (fun h => ?_)
  refine spX1_costOf (fun r4 M2 t3 cr4 cM2 ct3 hr4 hM2 ht3 h => ?_) hM ht (rfl : (3 : Nat) = 3) hv1 (r_and hv3 (rfl : (7 : Int32) = nI 7)) h
  refine e_and (k_in hv1 (r_al (rfl : (44 : Nat) = 44))) h (fun h => ?_)
  refine e_wr h hM2 (rfl : (44 : Nat) = 44) (r_nat hv1) (r_add (r_rd hM (rfl : (44 : Nat) = 44) (r_nat hv1)) hr4) (fun M6 cM6 hM6 h => ?_)
  refine spX10_slot (fun r9 M7 t8 cr9 cM7 ct8 hr9 hM7 ht8 h => ?_) hM6 ht3 hv1 hv2 h
  refine e_and (k_in hr9 (r_al (rfl : (43 : Nat) = 43))) h (fun h => ?_)
  refine e_wr h hM7 (rfl : (43 : Nat) = 43) (r_nat hr9) hv3 (fun M11 cM11 hM11 h => ?_)
  exact hq _ _ _ _ hM11 ht8 h
noncomputable def eX6_tryWork_133 (q : Nat → Nat → Nat → Bool) (cM ct cv2 cs1 : Nat) : Bool :=
  (@Bool.rec (fun _ => Bool) false (wrB (fun cM2 => (q 0 cM2 ct)) cM 46 (tN cs1) cv2) (inN cs1 (alF 46)))
set_option maxHeartbeats 4000000 in
set_option maxRecDepth 20000 in
theorem sX6_tryWork_133 {post : Int32 → MM → Int64 → Prop} {q : Nat → Nat → Nat → Bool} (hq : ∀ (r : Int32) (M : MM) (tl : Int64) (cr cM ct : Nat), r = nI cr → M = dM cM → tl = i64 ct → q cr cM ct = true → post r M tl) {M : MM} {tl : Int64} {v2 : Int32} {s1 : Int32} {cM ct cv2 cs1 : Nat} (hM : M = dM cM) (ht : tl = i64 ct) (hv2 : v2 = nI cv2) (hs1 : s1 = nI cs1) (h : eX6_tryWork_133 q  cM ct cv2 cs1 = true) : wX6_tryWork_133 post  M tl v2 s1 := by
  unfold wX6_tryWork_133
  refine e_and (k_in hs1 (r_al (rfl : (46 : Nat) = 46))) h (fun h => ?_)
  refine e_wr h hM (rfl : (46 : Nat) = 46) (r_nat hs1) hv2 (fun M2 cM2 hM2 h => ?_)
  exact hq _ _ _ _ _ _ (rfl : (0 : Int32) = nI 0) hM2 ht h
noncomputable def eX6_tryWork_93 (q : Nat → Nat → Nat → Bool) (cM ct cv1 cv2 cv3 cv4 cv5 : Nat) : Bool :=
  (epX6_build (fun cM1 ct2 => (epX10_slot (fun cr5 cM3 ct4 => (@Bool.rec (fun _ => Bool) false (wrB (fun cM7 => (@Bool.rec (fun _ => Bool) (@Bool.rec (fun _ => Bool) (eX6_tryWork_133 q  cM7 ct4 cv2 cv5) (eX6_tryWork_133 q  cM7 ct4 cv2 cv3) (eqN cv2 0)) (q 0 cM7 ct4) (eqN cv5 4294967292))) cM3 47 (tN cr5) cv1) (inN cr5 (alF 47)))) cM1 ct2 cv2 cv3)) cM ct cv2 cv3 cv4)
set_option maxHeartbeats 4000000 in
set_option maxRecDepth 20000 in
theorem sX6_tryWork_93 {post : Int32 → MM → Int64 → Prop} {q : Nat → Nat → Nat → Bool} (hq : ∀ (r : Int32) (M : MM) (tl : Int64) (cr cM ct : Nat), r = nI cr → M = dM cM → tl = i64 ct → q cr cM ct = true → post r M tl) {M : MM} {tl : Int64} {v1 : Int32} {v2 : Int32} {v3 : Int32} {v4 : Int32} {v5 : Int32} {cM ct cv1 cv2 cv3 cv4 cv5 : Nat} (hM : M = dM cM) (ht : tl = i64 ct) (hv1 : v1 = nI cv1) (hv2 : v2 = nI cv2) (hv3 : v3 = nI cv3) (hv4 : v4 = nI cv4) (hv5 : v5 = nI cv5) (h : eX6_tryWork_93 q  cM ct cv1 cv2 cv3 cv4 cv5 = true) : wX6_tryWork_93 post  M tl v1 v2 v3 v4 v5 := by
  unfold wX6_tryWork_93
  refine spX6_build (fun M1 t2 cM1 ct2 hM1 ht2 h => ?_) hM ht hv2 hv3 hv4 h
  refine spX10_slot (fun r5 M3 t4 cr5 cM3 ct4 hr5 hM3 ht4 h => ?_) hM1 ht2 hv2 hv3 h
  refine e_and (k_in hr5 (r_al (rfl : (47 : Nat) = 47))) h (fun h => ?_)
  refine e_wr h hM3 (rfl : (47 : Nat) = 47) (r_nat hr5) hv1 (fun M7 cM7 hM7 h => ?_)
  refine e_ite (c_eq hv5 lm4) h (fun h => ?_) (fun h => ?_)
  · exact hq _ _ _ _ _ _ (rfl : (0 : Int32) = nI 0) hM7 ht4 h
  · refine e_ite (c_eq hv2 (rfl : (0 : Int32) = nI 0)) h (fun h => ?_) (fun h => ?_)
    · exact sX6_tryWork_133 hq  hM7 ht4 hv2 hv3 h
    · exact sX6_tryWork_133 hq  hM7 ht4 hv2 hv5 h
noncomputable def epX6_tryWork (q : Nat → Nat → Nat → Bool) (cM ct cv1 cv2 cv3 cv4 : Nat) : Bool :=
  (epX1_isLot (fun cr3 cM1 ct2 => (@Bool.rec (fun _ => Bool) (epX1_mayBuild (fun cr6 cM4 ct5 => (@Bool.rec (fun _ => Bool) (epX1_matchOf (fun cr9 cM7 ct8 => (@Bool.rec (fun _ => Bool) (epX10_slot (fun cr12 cM10 ct11 => (@Bool.rec (fun _ => Bool) false (@Bool.rec (fun _ => Bool) (eX6_tryWork_93 q  cM10 ct11 cv1 cv2 cv3 cv4 cr9) (epX10_slot (fun cr16 cM14 ct15 => (@Bool.rec (fun _ => Bool) false (epX1_isEven (fun cr20 cM18 ct19 => (@Bool.rec (fun _ => Bool) (eX6_tryWork_93 q  cM18 ct19 cv1 cv2 cv3 cv4 cr9) (q 1 cM18 ct19) (eqN cr20 0))) cM14 ct15 3 cv4 (rd cM14 43 (tN cr16))) (inN cr16 (alF 43)))) cM10 ct11 (sN 1 cv2) cr9) (eqN (rd cM10 47 (tN cr12)) cv1)) (inN cr12 (alF 47)))) cM7 ct8 (sN 1 cv2) cr9) (eX6_tryWork_93 q  cM7 ct8 cv1 cv2 cv3 cv4 cr9) (eqN cr9 4294967292))) cM4 ct5 3 cv2 cv3) (q 2 cM4 ct5) (eqN cr6 0))) cM1 ct2 3 cv2 cv3 (Nat.land cv4 7)) (q 2 cM1 ct2) (eqN cr3 0))) cM ct 3 cv2 cv3)
set_option maxHeartbeats 4000000 in
set_option maxRecDepth 20000 in
theorem spX6_tryWork {post : Int32 → MM → Int64 → Prop} {q : Nat → Nat → Nat → Bool} (hq : ∀ (r : Int32) (M : MM) (tl : Int64) (cr cM ct : Nat), r = nI cr → M = dM cM → tl = i64 ct → q cr cM ct = true → post r M tl) {M : MM} {tl : Int64} {v1 : Int32} {v2 : Int32} {v3 : Int32} {v4 : Int32} {cM ct cv1 cv2 cv3 cv4 : Nat} (hM : M = dM cM) (ht : tl = i64 ct) (hv1 : v1 = nI cv1) (hv2 : v2 = nI cv2) (hv3 : v3 = nI cv3) (hv4 : v4 = nI cv4) (h : epX6_tryWork q  cM ct cv1 cv2 cv3 cv4 = true) : wpX6_tryWork post  M tl v1 v2 v3 v4 := by
  unfold wpX6_tryWork
  refine spX1_isLot (fun r3 M1 t2 cr3 cM1 ct2 hr3 hM1 ht2 h => ?_) hM ht (rfl : (3 : Nat) = 3) hv2 hv3 h
  refine e_ite (c_eq hr3 (rfl : (0 : Int32) = nI 0)) h (fun h => ?_) (fun h => ?_)
  · exact hq _ _ _ _ _ _ (rfl : (2 : Int32) = nI 2) hM1 ht2 h
  · refine spX1_mayBuild (fun r6 M4 t5 cr6 cM4 ct5 hr6 hM4 ht5 h => ?_) hM1 ht2 (rfl : (3 : Nat) = 3) hv2 hv3 (r_and hv4 (rfl : (7 : Int32) = nI 7)) h
    refine e_ite (c_eq hr6 (rfl : (0 : Int32) = nI 0)) h (fun h => ?_) (fun h => ?_)
    · exact hq _ _ _ _ _ _ (rfl : (2 : Int32) = nI 2) hM4 ht5 h
    · refine spX1_matchOf (fun r9 M7 t8 cr9 cM7 ct8 hr9 hM7 ht8 h => ?_) hM4 ht5 (rfl : (3 : Nat) = 3) hv2 hv3 h
      refine e_ite (c_eq hr9 lm4) h (fun h => ?_) (fun h => ?_)
      · exact sX6_tryWork_93 hq  hM7 ht8 hv1 hv2 hv3 hv4 hr9 h
      · refine spX10_slot (fun r12 M10 t11 cr12 cM10 ct11 hr12 hM10 ht11 h => ?_) hM7 ht8 (r_sub (rfl : (1 : Int32) = nI 1) hv2) hr9 h
        refine e_and (k_in hr12 (r_al (rfl : (47 : Nat) = 47))) h (fun h => ?_)
        refine e_ite (c_eq (r_rd hM10 (rfl : (47 : Nat) = 47) (r_nat hr12)) hv1) h (fun h => ?_) (fun h => ?_)
        · refine spX10_slot (fun r16 M14 t15 cr16 cM14 ct15 hr16 hM14 ht15 h => ?_) hM10 ht11 (r_sub (rfl : (1 : Int32) = nI 1) hv2) hr9 h
          refine e_and (k_in hr16 (r_al (rfl : (43 : Nat) = 43))) h (fun h => ?_)
          refine spX1_isEven (fun r20 M18 t19 cr20 cM18 ct19 hr20 hM18 ht19 h => ?_) hM14 ht15 (rfl : (3 : Nat) = 3) hv4 (r_rd hM14 (rfl : (43 : Nat) = 43) (r_nat hr16)) h
          refine e_ite (c_eq hr20 (rfl : (0 : Int32) = nI 0)) h (fun h => ?_) (fun h => ?_)
          · exact hq _ _ _ _ _ _ (rfl : (1 : Int32) = nI 1) hM18 ht19 h
          · exact sX6_tryWork_93 hq  hM18 ht19 hv1 hv2 hv3 hv4 hr9 h
        · exact sX6_tryWork_93 hq  hM10 ht11 hv1 hv2 hv3 hv4 hr9 h
noncomputable def epX6_isEvenPair (q : Nat → Nat → Nat → Bool) (cM ct cv1 cv2 : Nat) : Bool :=
  (epX10_slot (fun cr3 cM1 ct2 => (@Bool.rec (fun _ => Bool) false (epX1_mirrorOf (fun cr7 cM5 ct6 => (epX10_slot (fun cr10 cM8 ct9 => (@Bool.rec (fun _ => Bool) false (@Bool.rec (fun _ => Bool) (q 0 cM8 ct9) (q 1 cM8 ct9) (eqN cr7 (rd cM8 43 (tN cr10)))) (inN cr10 (alF 43)))) cM5 ct6 1 cv2)) cM1 ct2 3 (rd cM1 43 (tN cr3))) (inN cr3 (alF 43)))) cM ct 0 cv1)
set_option maxHeartbeats 4000000 in
set_option maxRecDepth 20000 in
theorem spX6_isEvenPair {post : Int32 → MM → Int64 → Prop} {q : Nat → Nat → Nat → Bool} (hq : ∀ (r : Int32) (M : MM) (tl : Int64) (cr cM ct : Nat), r = nI cr → M = dM cM → tl = i64 ct → q cr cM ct = true → post r M tl) {M : MM} {tl : Int64} {v1 : Int32} {v2 : Int32} {cM ct cv1 cv2 : Nat} (hM : M = dM cM) (ht : tl = i64 ct) (hv1 : v1 = nI cv1) (hv2 : v2 = nI cv2) (h : epX6_isEvenPair q  cM ct cv1 cv2 = true) : wpX6_isEvenPair post  M tl v1 v2 := by
  unfold wpX6_isEvenPair
  refine spX10_slot (fun r3 M1 t2 cr3 cM1 ct2 hr3 hM1 ht2 h => ?_) hM ht (rfl : (0 : Int32) = nI 0) hv1 h
  refine e_and (k_in hr3 (r_al (rfl : (43 : Nat) = 43))) h (fun h => ?_)
  refine spX1_mirrorOf (fun r7 M5 t6 cr7 cM5 ct6 hr7 hM5 ht6 h => ?_) hM1 ht2 (rfl : (3 : Nat) = 3) (r_rd hM1 (rfl : (43 : Nat) = 43) (r_nat hr3)) h
  refine spX10_slot (fun r10 M8 t9 cr10 cM8 ct9 hr10 hM8 ht9 h => ?_) hM5 ht6 (rfl : (1 : Int32) = nI 1) hv2 h
  refine e_and (k_in hr10 (r_al (rfl : (43 : Nat) = 43))) h (fun h => ?_)
  refine e_ite (c_eq hr7 (r_rd hM8 (rfl : (43 : Nat) = 43) (r_nat hr10))) h (fun h => ?_) (fun h => ?_)
  · exact hq _ _ _ _ _ _ (rfl : (1 : Int32) = nI 1) hM8 ht9 h
  · exact hq _ _ _ _ _ _ (rfl : (0 : Int32) = nI 0) hM8 ht9 h
noncomputable def epX6_answer (q : Nat → Nat → Bool) (cM ct cv1 cv2 : Nat) : Bool :=
  (epX1_matchOf (fun cr3 cM1 ct2 => (@Bool.rec (fun _ => Bool) (@Bool.rec (fun _ => Bool) false (@Bool.rec (fun _ => Bool) (epX6_isEvenPair (fun cr7 cM5 ct6 => (@Bool.rec (fun _ => Bool) (q cM5 ct6) (epX10_slot (fun cr10 cM8 ct9 => (@Bool.rec (fun _ => Bool) false (@Bool.rec (fun _ => Bool) (epX10_slot (fun cr14 cM12 ct13 => (@Bool.rec (fun _ => Bool) false (@Bool.rec (fun _ => Bool) (@Bool.rec (fun _ => Bool) false (@Bool.rec (fun _ => Bool) (epX10_slot (fun cr19 cM17 ct18 => (@Bool.rec (fun _ => Bool) false (epX1_mirrorOf (fun cr23 cM21 ct22 => (epX6_build (fun cM24 ct25 => (q cM24 ct25)) cM21 ct22 0 cv2 cr23)) cM17 ct18 3 (rd cM17 43 (tN cr19))) (inN cr19 (alF 43)))) cM12 ct13 1 cr3) (epX10_slot (fun cr28 cM26 ct27 => (@Bool.rec (fun _ => Bool) false (epX1_mirrorOf (fun cr32 cM30 ct31 => (epX6_build (fun cM33 ct34 => (q cM33 ct34)) cM30 ct31 1 cr3 cr32)) cM26 ct27 3 (rd cM26 43 (tN cr28))) (inN cr28 (alF 43)))) cM12 ct13 0 cv2) (eqN (rd cM12 46 (tN cv2)) 0)) (inN cv2 (alF 46))) (q cM12 ct13) (eqN (rd cM12 47 (tN cr14)) cv1)) (inN cr14 (alF 47)))) cM8 ct9 1 cr3) (q cM8 ct9) (eqN (rd cM8 47 (tN cr10)) cv1)) (inN cr10 (alF 47)))) cM5 ct6 0 cv2) (eqN cr7 0))) cM1 ct2 cv2 cr3) (q cM1 ct2) (eqN (rd cM1 46 (tN cv2)) 4294967292)) (inN cv2 (alF 46))) (q cM1 ct2) (eqN cr3 4294967292))) cM ct 3 0 cv2)
set_option maxHeartbeats 4000000 in
set_option maxRecDepth 20000 in
theorem spX6_answer {post : MM → Int64 → Prop} {q : Nat → Nat → Bool} (hq : ∀ (M : MM) (tl : Int64) (cM ct : Nat), M = dM cM → tl = i64 ct → q cM ct = true → post M tl) {M : MM} {tl : Int64} {v1 : Int32} {v2 : Int32} {cM ct cv1 cv2 : Nat} (hM : M = dM cM) (ht : tl = i64 ct) (hv1 : v1 = nI cv1) (hv2 : v2 = nI cv2) (h : epX6_answer q  cM ct cv1 cv2 = true) : wpX6_answer post  M tl v1 v2 := by
  unfold wpX6_answer
  refine spX1_matchOf (fun r3 M1 t2 cr3 cM1 ct2 hr3 hM1 ht2 h => ?_) hM ht (rfl : (3 : Nat) = 3) (rfl : (0 : Int32) = nI 0) hv2 h
  refine e_ite (c_eq hr3 lm4) h (fun h => ?_) (fun h => ?_)
  · exact hq _ _ _ _ hM1 ht2 h
  · refine e_and (k_in hv2 (r_al (rfl : (46 : Nat) = 46))) h (fun h => ?_)
    refine e_ite (c_eq (r_rd hM1 (rfl : (46 : Nat) = 46) (r_nat hv2)) lm4) h (fun h => ?_) (fun h => ?_)
    · exact hq _ _ _ _ hM1 ht2 h
    · refine spX6_isEvenPair (fun r7 M5 t6 cr7 cM5 ct6 hr7 hM5 ht6 h => ?_) hM1 ht2 hv2 hr3 h
      refine e_ite (c_eq hr7 (rfl : (0 : Int32) = nI 0)) h (fun h => ?_) (fun h => ?_)
      · refine spX10_slot (fun r10 M8 t9 cr10 cM8 ct9 hr10 hM8 ht9 h => ?_) hM5 ht6 (rfl : (0 : Int32) = nI 0) hv2 h
        refine e_and (k_in hr10 (r_al (rfl : (47 : Nat) = 47))) h (fun h => ?_)
        refine e_ite (c_eq (r_rd hM8 (rfl : (47 : Nat) = 47) (r_nat hr10)) hv1) h (fun h => ?_) (fun h => ?_)
        · exact hq _ _ _ _ hM8 ht9 h
        · refine spX10_slot (fun r14 M12 t13 cr14 cM12 ct13 hr14 hM12 ht13 h => ?_) hM8 ht9 (rfl : (1 : Int32) = nI 1) hr3 h
          refine e_and (k_in hr14 (r_al (rfl : (47 : Nat) = 47))) h (fun h => ?_)
          refine e_ite (c_eq (r_rd hM12 (rfl : (47 : Nat) = 47) (r_nat hr14)) hv1) h (fun h => ?_) (fun h => ?_)
          · exact hq _ _ _ _ hM12 ht13 h
          · refine e_and (k_in hv2 (r_al (rfl : (46 : Nat) = 46))) h (fun h => ?_)
            refine e_ite (c_eq (r_rd hM12 (rfl : (46 : Nat) = 46) (r_nat hv2)) (rfl : (0 : Int32) = nI 0)) h (fun h => ?_) (fun h => ?_)
            · refine spX10_slot (fun r28 M26 t27 cr28 cM26 ct27 hr28 hM26 ht27 h => ?_) hM12 ht13 (rfl : (0 : Int32) = nI 0) hv2 h
              refine e_and (k_in hr28 (r_al (rfl : (43 : Nat) = 43))) h (fun h => ?_)
              refine spX1_mirrorOf (fun r32 M30 t31 cr32 cM30 ct31 hr32 hM30 ht31 h => ?_) hM26 ht27 (rfl : (3 : Nat) = 3) (r_rd hM26 (rfl : (43 : Nat) = 43) (r_nat hr28)) h
              refine spX6_build (fun M33 t34 cM33 ct34 hM33 ht34 h => ?_) hM30 ht31 (rfl : (1 : Int32) = nI 1) hr3 hr32 h
              exact hq _ _ _ _ hM33 ht34 h
            · refine spX10_slot (fun r19 M17 t18 cr19 cM17 ct18 hr19 hM17 ht18 h => ?_) hM12 ht13 (rfl : (1 : Int32) = nI 1) hr3 h
              refine e_and (k_in hr19 (r_al (rfl : (43 : Nat) = 43))) h (fun h => ?_)
              refine spX1_mirrorOf (fun r23 M21 t22 cr23 cM21 ct22 hr23 hM21 ht22 h => ?_) hM17 ht18 (rfl : (3 : Nat) = 3) (r_rd hM17 (rfl : (43 : Nat) = 43) (r_nat hr19)) h
              refine spX6_build (fun M24 t25 cM24 ct25 hM24 ht25 h => ?_) hM21 ht22 (rfl : (0 : Int32) = nI 0) hv2 hr23 h
              exact hq _ _ _ _ hM24 ht25 h
      · exact hq _ _ _ _ hM5 ht6 h
noncomputable def eX6_runMonth_63 (q : Nat → Nat → Bool) (cbk10 : Nat → Nat → Nat → Nat → Bool) (cM ct cv1 cv3 : Nat) : Bool :=
  (cbk10 cM ct cv1 (aN cv3 1))
set_option maxHeartbeats 4000000 in
set_option maxRecDepth 20000 in
theorem sX6_runMonth_63 {post : MM → Int64 → Prop} {q : Nat → Nat → Bool} (hq : ∀ (M : MM) (tl : Int64) (cM ct : Nat), M = dM cM → tl = i64 ct → q cM ct = true → post M tl) {bk10 : MM → Int64 → Int32 → Int32 → Prop} {cbk10 : Nat → Nat → Nat → Nat → Bool} (hbk10 : ∀ (M : MM) (tl : Int64) (x0 : Int32) (x1 : Int32) (cM ct cx0 cx1 : Nat), M = dM cM → tl = i64 ct → x0 = nI cx0 → x1 = nI cx1 → cbk10 cM ct cx0 cx1 = true → bk10 M tl x0 x1) {M : MM} {tl : Int64} {v1 : Int32} {v3 : Int32} {cM ct cv1 cv3 : Nat} (hM : M = dM cM) (ht : tl = i64 ct) (hv1 : v1 = nI cv1) (hv3 : v3 = nI cv3) (h : eX6_runMonth_63 q cbk10 cM ct cv1 cv3 = true) : wX6_runMonth_63 post bk10 M tl v1 v3 := by
  unfold wX6_runMonth_63
  exact hbk10 _ _ _ _ _ _ _ _ hM ht hv1 (r_add hv3 (rfl : (1 : Int32) = nI 1)) h
noncomputable def eX6_runMonth_71 (q : Nat → Nat → Bool) (n : Nat) : Nat → Nat → Nat → Nat → Bool :=
  @Nat.rec (fun _ => Nat → Nat → Nat → Nat → Bool) (fun _ _ _ _ => false) (fun _ ih cM ct cv1 cv3 => (@Bool.rec (fun _ => Bool) (epX6_answer (fun cM1 ct2 => (ih cM1 ct2 cv1 (aN cv3 1))) cM ct cv1 cv3) (q cM ct) (leN (rd cM 3 0) cv3))) n
set_option maxHeartbeats 4000000 in
set_option maxRecDepth 20000 in
theorem sX6_runMonth_71 {post : MM → Int64 → Prop} {q : Nat → Nat → Bool} (hq : ∀ (M : MM) (tl : Int64) (cM ct : Nat), M = dM cM → tl = i64 ct → q cM ct = true → post M tl) : ∀ (n : Nat) (M : MM) (tl : Int64) (v1 : Int32) (v3 : Int32) (cM ct cv1 cv3 : Nat), M = dM cM → tl = i64 ct → v1 = nI cv1 → v3 = nI cv3 → eX6_runMonth_71 q  n cM ct cv1 cv3 = true → wX6_runMonth_71 post  n M tl v1 v3 := by
  intro n
  induction n with
  | zero => intro M tl v1 v3 cM ct cv1 cv3 hM ht hv1 hv3 h; exact Bool.noConfusion h
  | succ n ih =>
    intro M tl v1 v3 cM ct cv1 cv3 hM ht hv1 hv3 h
    unfold wX6_runMonth_71
    refine e_ite (c_le (r_rd hM (rfl : (3 : Nat) = 3) (rfl : (0 : Nat) = 0)) hv3) h (fun h => ?_) (fun h => ?_)
    · exact hq _ _ _ _ hM ht h
    · refine spX6_answer (fun M1 t2 cM1 ct2 hM1 ht2 h => ?_) hM ht hv1 hv3 h
      exact ih _ _ _ _ _ _ _ _ hM1 ht2 hv1 (r_add hv3 (rfl : (1 : Int32) = nI 1)) h
noncomputable def eX6_runMonth_69 (q : Nat → Nat → Bool) (cM ct cv1 : Nat) : Bool :=
  (eX6_runMonth_71 q  5000 cM ct cv1 0)
set_option maxHeartbeats 4000000 in
set_option maxRecDepth 20000 in
theorem sX6_runMonth_69 {post : MM → Int64 → Prop} {q : Nat → Nat → Bool} (hq : ∀ (M : MM) (tl : Int64) (cM ct : Nat), M = dM cM → tl = i64 ct → q cM ct = true → post M tl) {M : MM} {tl : Int64} {v1 : Int32} {cM ct cv1 : Nat} (hM : M = dM cM) (ht : tl = i64 ct) (hv1 : v1 = nI cv1) (h : eX6_runMonth_69 q  cM ct cv1 = true) : wX6_runMonth_69 post  M tl v1 := by
  unfold wX6_runMonth_69
  exact ⟨5000, sX6_runMonth_71 hq  5000 _ _ _ _ _ _ _ _ hM ht hv1 (rfl : (0 : Int32) = nI 0) h⟩
noncomputable def eX6_runMonth_10 (q : Nat → Nat → Bool) (n : Nat) : Nat → Nat → Nat → Nat → Bool :=
  @Nat.rec (fun _ => Nat → Nat → Nat → Nat → Bool) (fun _ _ _ _ => false) (fun _ ih cM ct cv1 cv3 => (@Bool.rec (fun _ => Bool) (@Bool.rec (fun _ => Bool) (epX5_cell (fun cr3 cM1 ct2 => (@Bool.rec (fun _ => Bool) (eX6_runMonth_63 q ih cM1 ct2 cv1 cv3) (epX5_cell (fun cr6 cM4 ct5 => (epX5_cell (fun cr9 cM7 ct8 => (epX5_cell (fun cr12 cM10 ct11 => (epX6_tryWork (fun cr15 cM13 ct14 => (@Bool.rec (fun _ => Bool) false (wrB (fun cM17 => (eX6_runMonth_63 q ih cM17 ct14 cv1 cv3)) cM13 45 (tN cv3) cr15) (inN cv3 (alF 45)))) cM10 ct11 cv1 cr6 cr9 cr12)) cM7 ct8 16 cv3 3)) cM4 ct5 16 cv3 2)) cM1 ct2 16 cv3 1) (eqN cr3 cv1))) cM ct 16 cv3 0) (eX6_runMonth_69 q  cM ct cv1) (leN 12 cv3)) (eX6_runMonth_69 q  cM ct cv1) (leN (rd cM 16 3) cv3))) n
set_option maxHeartbeats 4000000 in
set_option maxRecDepth 20000 in
theorem sX6_runMonth_10 {post : MM → Int64 → Prop} {q : Nat → Nat → Bool} (hq : ∀ (M : MM) (tl : Int64) (cM ct : Nat), M = dM cM → tl = i64 ct → q cM ct = true → post M tl) : ∀ (n : Nat) (M : MM) (tl : Int64) (v1 : Int32) (v3 : Int32) (cM ct cv1 cv3 : Nat), M = dM cM → tl = i64 ct → v1 = nI cv1 → v3 = nI cv3 → eX6_runMonth_10 q  n cM ct cv1 cv3 = true → wX6_runMonth_10 post  n M tl v1 v3 := by
  intro n
  induction n with
  | zero => intro M tl v1 v3 cM ct cv1 cv3 hM ht hv1 hv3 h; exact Bool.noConfusion h
  | succ n ih =>
    intro M tl v1 v3 cM ct cv1 cv3 hM ht hv1 hv3 h
    unfold wX6_runMonth_10
    refine e_ite (c_le (r_rd hM (rfl : (16 : Nat) = 16) (rfl : (3 : Nat) = 3)) hv3) h (fun h => ?_) (fun h => ?_)
    · exact sX6_runMonth_69 hq  hM ht hv1 h
    · refine e_ite (c_le (rfl : (12 : Int32) = nI 12) hv3) h (fun h => ?_) (fun h => ?_)
      · exact sX6_runMonth_69 hq  hM ht hv1 h
      · refine spX5_cell (fun r3 M1 t2 cr3 cM1 ct2 hr3 hM1 ht2 h => ?_) hM ht (rfl : (16 : Nat) = 16) hv3 (rfl : (0 : Int32) = nI 0) h
        refine e_ite (c_eq hr3 hv1) h (fun h => ?_) (fun h => ?_)
        · refine spX5_cell (fun r6 M4 t5 cr6 cM4 ct5 hr6 hM4 ht5 h => ?_) hM1 ht2 (rfl : (16 : Nat) = 16) hv3 (rfl : (1 : Int32) = nI 1) h
          refine spX5_cell (fun r9 M7 t8 cr9 cM7 ct8 hr9 hM7 ht8 h => ?_) hM4 ht5 (rfl : (16 : Nat) = 16) hv3 (rfl : (2 : Int32) = nI 2) h
          refine spX5_cell (fun r12 M10 t11 cr12 cM10 ct11 hr12 hM10 ht11 h => ?_) hM7 ht8 (rfl : (16 : Nat) = 16) hv3 (rfl : (3 : Int32) = nI 3) h
          refine spX6_tryWork (fun r15 M13 t14 cr15 cM13 ct14 hr15 hM13 ht14 h => ?_) hM10 ht11 hv1 hr6 hr9 hr12 h
          refine e_and (k_in hv3 (r_al (rfl : (45 : Nat) = 45))) h (fun h => ?_)
          refine e_wr h hM13 (rfl : (45 : Nat) = 45) (r_nat hv3) hr15 (fun M17 cM17 hM17 h => ?_)
          exact sX6_runMonth_63 hq ih hM17 ht14 hv1 hv3 h
        · exact sX6_runMonth_63 hq ih hM1 ht2 hv1 hv3 h
noncomputable def epX6_runMonth (q : Nat → Nat → Bool) (cM ct cv1 : Nat) : Bool :=
  (eX6_runMonth_10 q  5000 cM ct cv1 0)
set_option maxHeartbeats 4000000 in
set_option maxRecDepth 20000 in
theorem spX6_runMonth {post : MM → Int64 → Prop} {q : Nat → Nat → Bool} (hq : ∀ (M : MM) (tl : Int64) (cM ct : Nat), M = dM cM → tl = i64 ct → q cM ct = true → post M tl) {M : MM} {tl : Int64} {v1 : Int32} {cM ct cv1 : Nat} (hM : M = dM cM) (ht : tl = i64 ct) (hv1 : v1 = nI cv1) (h : epX6_runMonth q  cM ct cv1 = true) : wpX6_runMonth post  M tl v1 := by
  unfold wpX6_runMonth
  exact ⟨5000, sX6_runMonth_10 hq  5000 _ _ _ _ _ _ _ _ hM ht hv1 (rfl : (0 : Int32) = nI 0) h⟩
noncomputable def eX6_runMonths_6 (q : Nat → Nat → Bool) (n : Nat) : Nat → Nat → Nat → Nat → Bool :=
  @Nat.rec (fun _ => Nat → Nat → Nat → Nat → Bool) (fun _ _ _ _ => false) (fun _ ih cM ct cv1 cv2 => (@Bool.rec (fun _ => Bool) (epX6_runMonth (fun cM1 ct2 => (ih cM1 ct2 cv1 (aN cv2 1))) cM ct cv2) (q cM ct) (leN cv1 cv2))) n
set_option maxHeartbeats 4000000 in
set_option maxRecDepth 20000 in
theorem sX6_runMonths_6 {post : MM → Int64 → Prop} {q : Nat → Nat → Bool} (hq : ∀ (M : MM) (tl : Int64) (cM ct : Nat), M = dM cM → tl = i64 ct → q cM ct = true → post M tl) : ∀ (n : Nat) (M : MM) (tl : Int64) (v1 : Int32) (v2 : Int32) (cM ct cv1 cv2 : Nat), M = dM cM → tl = i64 ct → v1 = nI cv1 → v2 = nI cv2 → eX6_runMonths_6 q  n cM ct cv1 cv2 = true → wX6_runMonths_6 post  n M tl v1 v2 := by
  intro n
  induction n with
  | zero => intro M tl v1 v2 cM ct cv1 cv2 hM ht hv1 hv2 h; exact Bool.noConfusion h
  | succ n ih =>
    intro M tl v1 v2 cM ct cv1 cv2 hM ht hv1 hv2 h
    unfold wX6_runMonths_6
    refine e_ite (c_le hv1 hv2) h (fun h => ?_) (fun h => ?_)
    · exact hq _ _ _ _ hM ht h
    · refine spX6_runMonth (fun M1 t2 cM1 ct2 hM1 ht2 h => ?_) hM ht hv2 h
      exact ih _ _ _ _ _ _ _ _ hM1 ht2 hv1 (r_add hv2 (rfl : (1 : Int32) = nI 1)) h
noncomputable def epX6_runMonths (q : Nat → Nat → Bool) (cM ct cv1 : Nat) : Bool :=
  (epX6_start (fun cM1 ct2 => (eX6_runMonths_6 q  5000 cM1 ct2 cv1 0)) cM ct)
set_option maxHeartbeats 4000000 in
set_option maxRecDepth 20000 in
theorem spX6_runMonths {post : MM → Int64 → Prop} {q : Nat → Nat → Bool} (hq : ∀ (M : MM) (tl : Int64) (cM ct : Nat), M = dM cM → tl = i64 ct → q cM ct = true → post M tl) {M : MM} {tl : Int64} {v1 : Int32} {cM ct cv1 : Nat} (hM : M = dM cM) (ht : tl = i64 ct) (hv1 : v1 = nI cv1) (h : epX6_runMonths q  cM ct cv1 = true) : wpX6_runMonths post  M tl v1 := by
  unfold wpX6_runMonths
  refine spX6_start (fun M1 t2 cM1 ct2 hM1 ht2 h => ?_) hM ht h
  exact ⟨5000, sX6_runMonths_6 hq  5000 _ _ _ _ _ _ _ _ hM1 ht2 hv1 (rfl : (0 : Int32) = nI 0) h⟩
noncomputable def eX6_lotsOwedBy_70 (q : Nat → Nat → Nat → Bool) (cbk4 : Nat → Nat → Nat → Nat → Nat → Bool) (cM ct cv1 cv2 cv3 : Nat) : Bool :=
  (cbk4 cM ct cv1 cv2 (aN cv3 1))
set_option maxHeartbeats 4000000 in
set_option maxRecDepth 20000 in
theorem sX6_lotsOwedBy_70 {post : Int32 → MM → Int64 → Prop} {q : Nat → Nat → Nat → Bool} (hq : ∀ (r : Int32) (M : MM) (tl : Int64) (cr cM ct : Nat), r = nI cr → M = dM cM → tl = i64 ct → q cr cM ct = true → post r M tl) {bk4 : MM → Int64 → Int32 → Int32 → Int32 → Prop} {cbk4 : Nat → Nat → Nat → Nat → Nat → Bool} (hbk4 : ∀ (M : MM) (tl : Int64) (x0 : Int32) (x1 : Int32) (x2 : Int32) (cM ct cx0 cx1 cx2 : Nat), M = dM cM → tl = i64 ct → x0 = nI cx0 → x1 = nI cx1 → x2 = nI cx2 → cbk4 cM ct cx0 cx1 cx2 = true → bk4 M tl x0 x1 x2) {M : MM} {tl : Int64} {v1 : Int32} {v2 : Int32} {v3 : Int32} {cM ct cv1 cv2 cv3 : Nat} (hM : M = dM cM) (ht : tl = i64 ct) (hv1 : v1 = nI cv1) (hv2 : v2 = nI cv2) (hv3 : v3 = nI cv3) (h : eX6_lotsOwedBy_70 q cbk4 cM ct cv1 cv2 cv3 = true) : wX6_lotsOwedBy_70 post bk4 M tl v1 v2 v3 := by
  unfold wX6_lotsOwedBy_70
  exact hbk4 _ _ _ _ _ _ _ _ _ _ hM ht hv1 hv2 (r_add hv3 (rfl : (1 : Int32) = nI 1)) h
noncomputable def eX6_lotsOwedBy_67 (q : Nat → Nat → Nat → Bool) (cbk4 : Nat → Nat → Nat → Nat → Nat → Bool) (cM ct cv1 cv3 cs0 cs1 cs2 : Nat) : Bool :=
  (eX6_lotsOwedBy_70 q cbk4 cM ct cv1 (Nat.lor cs0 (b2 f_shl cs1 cs2)) cv3)
set_option maxHeartbeats 4000000 in
set_option maxRecDepth 20000 in
theorem sX6_lotsOwedBy_67 {post : Int32 → MM → Int64 → Prop} {q : Nat → Nat → Nat → Bool} (hq : ∀ (r : Int32) (M : MM) (tl : Int64) (cr cM ct : Nat), r = nI cr → M = dM cM → tl = i64 ct → q cr cM ct = true → post r M tl) {bk4 : MM → Int64 → Int32 → Int32 → Int32 → Prop} {cbk4 : Nat → Nat → Nat → Nat → Nat → Bool} (hbk4 : ∀ (M : MM) (tl : Int64) (x0 : Int32) (x1 : Int32) (x2 : Int32) (cM ct cx0 cx1 cx2 : Nat), M = dM cM → tl = i64 ct → x0 = nI cx0 → x1 = nI cx1 → x2 = nI cx2 → cbk4 cM ct cx0 cx1 cx2 = true → bk4 M tl x0 x1 x2) {M : MM} {tl : Int64} {v1 : Int32} {v3 : Int32} {s0 : Int32} {s1 : Int32} {s2 : Int32} {cM ct cv1 cv3 cs0 cs1 cs2 : Nat} (hM : M = dM cM) (ht : tl = i64 ct) (hv1 : v1 = nI cv1) (hv3 : v3 = nI cv3) (hs0 : s0 = nI cs0) (hs1 : s1 = nI cs1) (hs2 : s2 = nI cs2) (h : eX6_lotsOwedBy_67 q cbk4 cM ct cv1 cv3 cs0 cs1 cs2 = true) : wX6_lotsOwedBy_67 post bk4 M tl v1 v3 s0 s1 s2 := by
  unfold wX6_lotsOwedBy_67
  exact sX6_lotsOwedBy_70 hq hbk4 hM ht hv1 (r_or hs0 (r_b2 f_shl hs1 hs2)) hv3 h
noncomputable def eX6_lotsOwedBy_4 (q : Nat → Nat → Nat → Bool) (n : Nat) : Nat → Nat → Nat → Nat → Nat → Bool :=
  @Nat.rec (fun _ => Nat → Nat → Nat → Nat → Nat → Bool) (fun _ _ _ _ _ => false) (fun _ ih cM ct cv1 cv2 cv3 => (@Bool.rec (fun _ => Bool) (epX1_matchOf (fun cr3 cM1 ct2 => (@Bool.rec (fun _ => Bool) (@Bool.rec (fun _ => Bool) false (@Bool.rec (fun _ => Bool) (eX6_lotsOwedBy_70 q ih cM1 ct2 cv1 cv2 cv3) (epX6_isEvenPair (fun cr7 cM5 ct6 => (@Bool.rec (fun _ => Bool) (eX6_lotsOwedBy_70 q ih cM5 ct6 cv1 cv2 cv3) (@Bool.rec (fun _ => Bool) (eX6_lotsOwedBy_67 q ih cM5 ct6 cv1 cv3 cv2 1 cr3) (eX6_lotsOwedBy_67 q ih cM5 ct6 cv1 cv3 cv2 1 cv3) (eqN cv1 0)) (eqN cr7 0))) cM1 ct2 cv3 cr3) (eqN (rd cM1 46 (tN cv3)) (sN 1 cv1))) (inN cv3 (alF 46))) (eX6_lotsOwedBy_70 q ih cM1 ct2 cv1 cv2 cv3) (eqN cr3 4294967292))) cM ct 3 0 cv3) (q cv2 cM ct) (leN (rd cM 3 0) cv3))) n
set_option maxHeartbeats 4000000 in
set_option maxRecDepth 20000 in
theorem sX6_lotsOwedBy_4 {post : Int32 → MM → Int64 → Prop} {q : Nat → Nat → Nat → Bool} (hq : ∀ (r : Int32) (M : MM) (tl : Int64) (cr cM ct : Nat), r = nI cr → M = dM cM → tl = i64 ct → q cr cM ct = true → post r M tl) : ∀ (n : Nat) (M : MM) (tl : Int64) (v1 : Int32) (v2 : Int32) (v3 : Int32) (cM ct cv1 cv2 cv3 : Nat), M = dM cM → tl = i64 ct → v1 = nI cv1 → v2 = nI cv2 → v3 = nI cv3 → eX6_lotsOwedBy_4 q  n cM ct cv1 cv2 cv3 = true → wX6_lotsOwedBy_4 post  n M tl v1 v2 v3 := by
  intro n
  induction n with
  | zero => intro M tl v1 v2 v3 cM ct cv1 cv2 cv3 hM ht hv1 hv2 hv3 h; exact Bool.noConfusion h
  | succ n ih =>
    intro M tl v1 v2 v3 cM ct cv1 cv2 cv3 hM ht hv1 hv2 hv3 h
    unfold wX6_lotsOwedBy_4
    refine e_ite (c_le (r_rd hM (rfl : (3 : Nat) = 3) (rfl : (0 : Nat) = 0)) hv3) h (fun h => ?_) (fun h => ?_)
    · exact hq _ _ _ _ _ _ hv2 hM ht h
    · refine spX1_matchOf (fun r3 M1 t2 cr3 cM1 ct2 hr3 hM1 ht2 h => ?_) hM ht (rfl : (3 : Nat) = 3) (rfl : (0 : Int32) = nI 0) hv3 h
      refine e_ite (c_eq hr3 lm4) h (fun h => ?_) (fun h => ?_)
      · exact sX6_lotsOwedBy_70 hq ih hM1 ht2 hv1 hv2 hv3 h
      · refine e_and (k_in hv3 (r_al (rfl : (46 : Nat) = 46))) h (fun h => ?_)
        refine e_ite (c_eq (r_rd hM1 (rfl : (46 : Nat) = 46) (r_nat hv3)) (r_sub (rfl : (1 : Int32) = nI 1) hv1)) h (fun h => ?_) (fun h => ?_)
        · refine spX6_isEvenPair (fun r7 M5 t6 cr7 cM5 ct6 hr7 hM5 ht6 h => ?_) hM1 ht2 hv3 hr3 h
          refine e_ite (c_eq hr7 (rfl : (0 : Int32) = nI 0)) h (fun h => ?_) (fun h => ?_)
          · refine e_ite (c_eq hv1 (rfl : (0 : Int32) = nI 0)) h (fun h => ?_) (fun h => ?_)
            · exact sX6_lotsOwedBy_67 hq ih hM5 ht6 hv1 hv3 hv2 (rfl : (1 : Int32) = nI 1) hv3 h
            · exact sX6_lotsOwedBy_67 hq ih hM5 ht6 hv1 hv3 hv2 (rfl : (1 : Int32) = nI 1) hr3 h
          · exact sX6_lotsOwedBy_70 hq ih hM5 ht6 hv1 hv2 hv3 h
        · exact sX6_lotsOwedBy_70 hq ih hM1 ht2 hv1 hv2 hv3 h
noncomputable def epX6_lotsOwedBy (q : Nat → Nat → Nat → Bool) (cM ct cv1 : Nat) : Bool :=
  (eX6_lotsOwedBy_4 q  5000 cM ct cv1 0 0)
set_option maxHeartbeats 4000000 in
set_option maxRecDepth 20000 in
theorem spX6_lotsOwedBy {post : Int32 → MM → Int64 → Prop} {q : Nat → Nat → Nat → Bool} (hq : ∀ (r : Int32) (M : MM) (tl : Int64) (cr cM ct : Nat), r = nI cr → M = dM cM → tl = i64 ct → q cr cM ct = true → post r M tl) {M : MM} {tl : Int64} {v1 : Int32} {cM ct cv1 : Nat} (hM : M = dM cM) (ht : tl = i64 ct) (hv1 : v1 = nI cv1) (h : epX6_lotsOwedBy q  cM ct cv1 = true) : wpX6_lotsOwedBy post  M tl v1 := by
  unfold wpX6_lotsOwedBy
  exact ⟨5000, sX6_lotsOwedBy_4 hq  5000 _ _ _ _ _ _ _ _ _ _ hM ht hv1 (rfl : (0 : Int32) = nI 0) (rfl : (0 : Int32) = nI 0) h⟩
noncomputable def eX6_worksDone_39 (q : Nat → Nat → Nat → Bool) (cbk4 : Nat → Nat → Nat → Nat → Bool) (cM ct cv2 cs0 cs1 : Nat) : Bool :=
  (cbk4 cM ct (aN cs0 cs1) (aN cv2 1))
set_option maxHeartbeats 4000000 in
set_option maxRecDepth 20000 in
theorem sX6_worksDone_39 {post : Int32 → MM → Int64 → Prop} {q : Nat → Nat → Nat → Bool} (hq : ∀ (r : Int32) (M : MM) (tl : Int64) (cr cM ct : Nat), r = nI cr → M = dM cM → tl = i64 ct → q cr cM ct = true → post r M tl) {bk4 : MM → Int64 → Int32 → Int32 → Prop} {cbk4 : Nat → Nat → Nat → Nat → Bool} (hbk4 : ∀ (M : MM) (tl : Int64) (x0 : Int32) (x1 : Int32) (cM ct cx0 cx1 : Nat), M = dM cM → tl = i64 ct → x0 = nI cx0 → x1 = nI cx1 → cbk4 cM ct cx0 cx1 = true → bk4 M tl x0 x1) {M : MM} {tl : Int64} {v2 : Int32} {s0 : Int32} {s1 : Int32} {cM ct cv2 cs0 cs1 : Nat} (hM : M = dM cM) (ht : tl = i64 ct) (hv2 : v2 = nI cv2) (hs0 : s0 = nI cs0) (hs1 : s1 = nI cs1) (h : eX6_worksDone_39 q cbk4 cM ct cv2 cs0 cs1 = true) : wX6_worksDone_39 post bk4 M tl v2 s0 s1 := by
  unfold wX6_worksDone_39
  exact hbk4 _ _ _ _ _ _ _ _ hM ht (r_add hs0 hs1) (r_add hv2 (rfl : (1 : Int32) = nI 1)) h
noncomputable def eX6_worksDone_4 (q : Nat → Nat → Nat → Bool) (n : Nat) : Nat → Nat → Nat → Nat → Bool :=
  @Nat.rec (fun _ => Nat → Nat → Nat → Nat → Bool) (fun _ _ _ _ => false) (fun _ ih cM ct cv1 cv2 => (@Bool.rec (fun _ => Bool) (@Bool.rec (fun _ => Bool) (@Bool.rec (fun _ => Bool) false (@Bool.rec (fun _ => Bool) (eX6_worksDone_39 q ih cM ct cv2 cv1 0) (eX6_worksDone_39 q ih cM ct cv2 cv1 1) (eqN (rd cM 45 (tN cv2)) 0)) (inN cv2 (alF 45))) (q cv1 cM ct) (leN 12 cv2)) (q cv1 cM ct) (leN (rd cM 16 3) cv2))) n
set_option maxHeartbeats 4000000 in
set_option maxRecDepth 20000 in
theorem sX6_worksDone_4 {post : Int32 → MM → Int64 → Prop} {q : Nat → Nat → Nat → Bool} (hq : ∀ (r : Int32) (M : MM) (tl : Int64) (cr cM ct : Nat), r = nI cr → M = dM cM → tl = i64 ct → q cr cM ct = true → post r M tl) : ∀ (n : Nat) (M : MM) (tl : Int64) (v1 : Int32) (v2 : Int32) (cM ct cv1 cv2 : Nat), M = dM cM → tl = i64 ct → v1 = nI cv1 → v2 = nI cv2 → eX6_worksDone_4 q  n cM ct cv1 cv2 = true → wX6_worksDone_4 post  n M tl v1 v2 := by
  intro n
  induction n with
  | zero => intro M tl v1 v2 cM ct cv1 cv2 hM ht hv1 hv2 h; exact Bool.noConfusion h
  | succ n ih =>
    intro M tl v1 v2 cM ct cv1 cv2 hM ht hv1 hv2 h
    unfold wX6_worksDone_4
    refine e_ite (c_le (r_rd hM (rfl : (16 : Nat) = 16) (rfl : (3 : Nat) = 3)) hv2) h (fun h => ?_) (fun h => ?_)
    · exact hq _ _ _ _ _ _ hv1 hM ht h
    · refine e_ite (c_le (rfl : (12 : Int32) = nI 12) hv2) h (fun h => ?_) (fun h => ?_)
      · exact hq _ _ _ _ _ _ hv1 hM ht h
      · refine e_and (k_in hv2 (r_al (rfl : (45 : Nat) = 45))) h (fun h => ?_)
        refine e_ite (c_eq (r_rd hM (rfl : (45 : Nat) = 45) (r_nat hv2)) (rfl : (0 : Int32) = nI 0)) h (fun h => ?_) (fun h => ?_)
        · exact sX6_worksDone_39 hq ih hM ht hv2 hv1 (rfl : (1 : Int32) = nI 1) h
        · exact sX6_worksDone_39 hq ih hM ht hv2 hv1 (rfl : (0 : Int32) = nI 0) h
noncomputable def epX6_worksDone (q : Nat → Nat → Nat → Bool) (cM ct  : Nat) : Bool :=
  (eX6_worksDone_4 q  5000 cM ct 0 0)
set_option maxHeartbeats 4000000 in
set_option maxRecDepth 20000 in
theorem spX6_worksDone {post : Int32 → MM → Int64 → Prop} {q : Nat → Nat → Nat → Bool} (hq : ∀ (r : Int32) (M : MM) (tl : Int64) (cr cM ct : Nat), r = nI cr → M = dM cM → tl = i64 ct → q cr cM ct = true → post r M tl) {M : MM} {tl : Int64} {cM ct  : Nat} (hM : M = dM cM) (ht : tl = i64 ct)  (h : epX6_worksDone q  cM ct  = true) : wpX6_worksDone post  M tl  := by
  unfold wpX6_worksDone
  exact ⟨5000, sX6_worksDone_4 hq  5000 _ _ _ _ _ _ _ _ hM ht (rfl : (0 : Int32) = nI 0) (rfl : (0 : Int32) = nI 0) h⟩
noncomputable def epX0_gainOf (q : Nat → Nat → Nat → Bool) (cM ct cv1 cv2 cv3 : Nat) : Bool :=
  (epX1_tasteOf (fun cr3 cM1 ct2 => (epX1_costOf (fun cr6 cM4 ct5 => (epX7_kindAt (fun cr9 cM7 ct8 => (epX1_tasteOf (fun cr12 cM10 ct11 => (q (sN (sN cr3 cr6) cr12) cM10 ct11)) cM7 ct8 3 cv1 cr9)) cM4 ct5 14 cv1 cv2)) cM1 ct2 3 cv1 cv3)) cM ct 3 cv1 cv3)
set_option maxHeartbeats 4000000 in
set_option maxRecDepth 20000 in
theorem spX0_gainOf {post : Int32 → MM → Int64 → Prop} {q : Nat → Nat → Nat → Bool} (hq : ∀ (r : Int32) (M : MM) (tl : Int64) (cr cM ct : Nat), r = nI cr → M = dM cM → tl = i64 ct → q cr cM ct = true → post r M tl) {M : MM} {tl : Int64} {v1 : Int32} {v2 : Int32} {v3 : Int32} {cM ct cv1 cv2 cv3 : Nat} (hM : M = dM cM) (ht : tl = i64 ct) (hv1 : v1 = nI cv1) (hv2 : v2 = nI cv2) (hv3 : v3 = nI cv3) (h : epX0_gainOf q  cM ct cv1 cv2 cv3 = true) : wpX0_gainOf post  M tl v1 v2 v3 := by
  unfold wpX0_gainOf
  refine spX1_tasteOf (fun r3 M1 t2 cr3 cM1 ct2 hr3 hM1 ht2 h => ?_) hM ht (rfl : (3 : Nat) = 3) hv1 hv3 h
  refine spX1_costOf (fun r6 M4 t5 cr6 cM4 ct5 hr6 hM4 ht5 h => ?_) hM1 ht2 (rfl : (3 : Nat) = 3) hv1 hv3 h
  refine spX7_kindAt (fun r9 M7 t8 cr9 cM7 ct8 hr9 hM7 ht8 h => ?_) hM4 ht5 (rfl : (14 : Nat) = 14) hv1 hv2 h
  refine spX1_tasteOf (fun r12 M10 t11 cr12 cM10 ct11 hr12 hM10 ht11 h => ?_) hM7 ht8 (rfl : (3 : Nat) = 3) hv1 hr9 h
  exact hq _ _ _ _ _ _ (r_sub (r_sub hr3 hr6) hr12) hM10 ht11 h
noncomputable def eX0_bestKind_53 (q : Nat → Nat → Nat → Bool) (cbk8 : Nat → Nat → Nat → Nat → Nat → Nat → Nat → Bool) (cM ct cv1 cv2 cv3 cv4 cv5 : Nat) : Bool :=
  (cbk8 cM ct cv1 cv2 cv3 cv4 (aN cv5 1))
set_option maxHeartbeats 4000000 in
set_option maxRecDepth 20000 in
theorem sX0_bestKind_53 {post : Int32 → MM → Int64 → Prop} {q : Nat → Nat → Nat → Bool} (hq : ∀ (r : Int32) (M : MM) (tl : Int64) (cr cM ct : Nat), r = nI cr → M = dM cM → tl = i64 ct → q cr cM ct = true → post r M tl) {bk8 : MM → Int64 → Int32 → Int32 → Int32 → Int32 → Int32 → Prop} {cbk8 : Nat → Nat → Nat → Nat → Nat → Nat → Nat → Bool} (hbk8 : ∀ (M : MM) (tl : Int64) (x0 : Int32) (x1 : Int32) (x2 : Int32) (x3 : Int32) (x4 : Int32) (cM ct cx0 cx1 cx2 cx3 cx4 : Nat), M = dM cM → tl = i64 ct → x0 = nI cx0 → x1 = nI cx1 → x2 = nI cx2 → x3 = nI cx3 → x4 = nI cx4 → cbk8 cM ct cx0 cx1 cx2 cx3 cx4 = true → bk8 M tl x0 x1 x2 x3 x4) {M : MM} {tl : Int64} {v1 : Int32} {v2 : Int32} {v3 : Int32} {v4 : Int32} {v5 : Int32} {cM ct cv1 cv2 cv3 cv4 cv5 : Nat} (hM : M = dM cM) (ht : tl = i64 ct) (hv1 : v1 = nI cv1) (hv2 : v2 = nI cv2) (hv3 : v3 = nI cv3) (hv4 : v4 = nI cv4) (hv5 : v5 = nI cv5) (h : eX0_bestKind_53 q cbk8 cM ct cv1 cv2 cv3 cv4 cv5 = true) : wX0_bestKind_53 post bk8 M tl v1 v2 v3 v4 v5 := by
  unfold wX0_bestKind_53
  exact hbk8 _ _ _ _ _ _ _ _ _ _ _ _ _ _ hM ht hv1 hv2 hv3 hv4 (r_add hv5 (rfl : (1 : Int32) = nI 1)) h
noncomputable def eX0_bestKind_8 (q : Nat → Nat → Nat → Bool) (n : Nat) : Nat → Nat → Nat → Nat → Nat → Nat → Nat → Bool :=
  @Nat.rec (fun _ => Nat → Nat → Nat → Nat → Nat → Nat → Nat → Bool) (fun _ _ _ _ _ _ _ => false) (fun _ ih cM ct cv1 cv2 cv3 cv4 cv5 => (@Bool.rec (fun _ => Bool) (epX0_gainOf (fun cr3 cM1 ct2 => (@Bool.rec (fun _ => Bool) (epX1_mayBuild (fun cr6 cM4 ct5 => (@Bool.rec (fun _ => Bool) (eX0_bestKind_53 q ih cM4 ct5 cv1 cv2 cv5 cr3 cv5) (eX0_bestKind_53 q ih cM4 ct5 cv1 cv2 cv3 cv4 cv5) (eqN cr6 0))) cM1 ct2 3 cv1 cv2 cv5) (eX0_bestKind_53 q ih cM1 ct2 cv1 cv2 cv3 cv4 cv5) (leN cr3 cv4))) cM ct cv1 cv2 cv5) (q cv3 cM ct) (leN 6 cv5))) n
set_option maxHeartbeats 4000000 in
set_option maxRecDepth 20000 in
theorem sX0_bestKind_8 {post : Int32 → MM → Int64 → Prop} {q : Nat → Nat → Nat → Bool} (hq : ∀ (r : Int32) (M : MM) (tl : Int64) (cr cM ct : Nat), r = nI cr → M = dM cM → tl = i64 ct → q cr cM ct = true → post r M tl) : ∀ (n : Nat) (M : MM) (tl : Int64) (v1 : Int32) (v2 : Int32) (v3 : Int32) (v4 : Int32) (v5 : Int32) (cM ct cv1 cv2 cv3 cv4 cv5 : Nat), M = dM cM → tl = i64 ct → v1 = nI cv1 → v2 = nI cv2 → v3 = nI cv3 → v4 = nI cv4 → v5 = nI cv5 → eX0_bestKind_8 q  n cM ct cv1 cv2 cv3 cv4 cv5 = true → wX0_bestKind_8 post  n M tl v1 v2 v3 v4 v5 := by
  intro n
  induction n with
  | zero => intro M tl v1 v2 v3 v4 v5 cM ct cv1 cv2 cv3 cv4 cv5 hM ht hv1 hv2 hv3 hv4 hv5 h; exact Bool.noConfusion h
  | succ n ih =>
    intro M tl v1 v2 v3 v4 v5 cM ct cv1 cv2 cv3 cv4 cv5 hM ht hv1 hv2 hv3 hv4 hv5 h
    unfold wX0_bestKind_8
    refine e_ite (c_le (rfl : (6 : Int32) = nI 6) hv5) h (fun h => ?_) (fun h => ?_)
    · exact hq _ _ _ _ _ _ hv3 hM ht h
    · refine spX0_gainOf (fun r3 M1 t2 cr3 cM1 ct2 hr3 hM1 ht2 h => ?_) hM ht hv1 hv2 hv5 h
      refine e_ite (c_le hr3 hv4) h (fun h => ?_) (fun h => ?_)
      · exact sX0_bestKind_53 hq ih hM1 ht2 hv1 hv2 hv3 hv4 hv5 h
      · refine spX1_mayBuild (fun r6 M4 t5 cr6 cM4 ct5 hr6 hM4 ht5 h => ?_) hM1 ht2 (rfl : (3 : Nat) = 3) hv1 hv2 hv5 h
        refine e_ite (c_eq hr6 (rfl : (0 : Int32) = nI 0)) h (fun h => ?_) (fun h => ?_)
        · exact sX0_bestKind_53 hq ih hM4 ht5 hv1 hv2 hv3 hv4 hv5 h
        · exact sX0_bestKind_53 hq ih hM4 ht5 hv1 hv2 hv5 hr3 hv5 h
noncomputable def epX0_bestKind (q : Nat → Nat → Nat → Bool) (cM ct cv1 cv2 : Nat) : Bool :=
  (eX0_bestKind_8 q  5000 cM ct cv1 cv2 0 0 1)
set_option maxHeartbeats 4000000 in
set_option maxRecDepth 20000 in
theorem spX0_bestKind {post : Int32 → MM → Int64 → Prop} {q : Nat → Nat → Nat → Bool} (hq : ∀ (r : Int32) (M : MM) (tl : Int64) (cr cM ct : Nat), r = nI cr → M = dM cM → tl = i64 ct → q cr cM ct = true → post r M tl) {M : MM} {tl : Int64} {v1 : Int32} {v2 : Int32} {cM ct cv1 cv2 : Nat} (hM : M = dM cM) (ht : tl = i64 ct) (hv1 : v1 = nI cv1) (hv2 : v2 = nI cv2) (h : epX0_bestKind q  cM ct cv1 cv2 = true) : wpX0_bestKind post  M tl v1 v2 := by
  unfold wpX0_bestKind
  exact ⟨5000, sX0_bestKind_8 hq  5000 _ _ _ _ _ _ _ _ _ _ _ _ _ _ hM ht hv1 hv2 (rfl : (0 : Int32) = nI 0) (rfl : (0 : Int32) = nI 0) (rfl : (1 : Int32) = nI 1) h⟩
noncomputable def eX0_weighVex_125 (q : Nat → Nat → Bool) (cM ct cv2 cv4 cv7 : Nat) : Bool :=
  (wrB (fun cM1 => (wrB (fun cM2 => (wrB (fun cM3 => (q cM3 ct)) cM2 48 2 cv4)) cM1 48 1 cv2)) cM 48 0 cv7)
set_option maxHeartbeats 4000000 in
set_option maxRecDepth 20000 in
theorem sX0_weighVex_125 {post : MM → Int64 → Prop} {q : Nat → Nat → Bool} (hq : ∀ (M : MM) (tl : Int64) (cM ct : Nat), M = dM cM → tl = i64 ct → q cM ct = true → post M tl) {M : MM} {tl : Int64} {v2 : Int32} {v4 : Int32} {v7 : Int32} {cM ct cv2 cv4 cv7 : Nat} (hM : M = dM cM) (ht : tl = i64 ct) (hv2 : v2 = nI cv2) (hv4 : v4 = nI cv4) (hv7 : v7 = nI cv7) (h : eX0_weighVex_125 q  cM ct cv2 cv4 cv7 = true) : wX0_weighVex_125 post  M tl v2 v4 v7 := by
  unfold wX0_weighVex_125
  refine e_wr h hM (rfl : (48 : Nat) = 48) (rfl : (0 : Nat) = 0) hv7 (fun M1 cM1 hM1 h => ?_)
  refine e_wr h hM1 (rfl : (48 : Nat) = 48) (rfl : (1 : Nat) = 1) hv2 (fun M2 cM2 hM2 h => ?_)
  refine e_wr h hM2 (rfl : (48 : Nat) = 48) (rfl : (2 : Nat) = 2) hv4 (fun M3 cM3 hM3 h => ?_)
  exact hq _ _ _ _ hM3 ht h
noncomputable def eX0_weighVex_100 (q : Nat → Nat → Bool) (cM ct cv2 cv4 cv7 cs0 : Nat) : Bool :=
  (@Bool.rec (fun _ => Bool) (@Bool.rec (fun _ => Bool) (@Bool.rec (fun _ => Bool) (eX0_weighVex_125 q  cM ct cv2 cv4 cv7) (q cM ct) (eqN cs0 0)) (eX0_weighVex_125 q  cM ct cv2 cv4 cv7) (ltN (rd cM 48 0) cv7)) (eX0_weighVex_125 q  cM ct cv2 cv4 cv7) (eqN (rd cM 48 1) 4294967292))
set_option maxHeartbeats 4000000 in
set_option maxRecDepth 20000 in
theorem sX0_weighVex_100 {post : MM → Int64 → Prop} {q : Nat → Nat → Bool} (hq : ∀ (M : MM) (tl : Int64) (cM ct : Nat), M = dM cM → tl = i64 ct → q cM ct = true → post M tl) {M : MM} {tl : Int64} {v2 : Int32} {v4 : Int32} {v7 : Int32} {s0 : Int32} {cM ct cv2 cv4 cv7 cs0 : Nat} (hM : M = dM cM) (ht : tl = i64 ct) (hv2 : v2 = nI cv2) (hv4 : v4 = nI cv4) (hv7 : v7 = nI cv7) (hs0 : s0 = nI cs0) (h : eX0_weighVex_100 q  cM ct cv2 cv4 cv7 cs0 = true) : wX0_weighVex_100 post  M tl v2 v4 v7 s0 := by
  unfold wX0_weighVex_100
  refine e_ite (c_eq (r_rd hM (rfl : (48 : Nat) = 48) (rfl : (1 : Nat) = 1)) lm4) h (fun h => ?_) (fun h => ?_)
  · exact sX0_weighVex_125 hq  hM ht hv2 hv4 hv7 h
  · refine e_ite (c_lt (r_rd hM (rfl : (48 : Nat) = 48) (rfl : (0 : Nat) = 0)) hv7) h (fun h => ?_) (fun h => ?_)
    · exact sX0_weighVex_125 hq  hM ht hv2 hv4 hv7 h
    · refine e_ite (c_eq hs0 (rfl : (0 : Int32) = nI 0)) h (fun h => ?_) (fun h => ?_)
      · exact hq _ _ _ _ hM ht h
      · exact sX0_weighVex_125 hq  hM ht hv2 hv4 hv7 h
noncomputable def eX0_weighVex_99 (q : Nat → Nat → Bool) (cM ct cv2 cv4 cv7 : Nat) : Bool :=
  (eX0_weighVex_100 q  cM ct cv2 cv4 cv7 0)
set_option maxHeartbeats 4000000 in
set_option maxRecDepth 20000 in
theorem sX0_weighVex_99 {post : MM → Int64 → Prop} {q : Nat → Nat → Bool} (hq : ∀ (M : MM) (tl : Int64) (cM ct : Nat), M = dM cM → tl = i64 ct → q cM ct = true → post M tl) {M : MM} {tl : Int64} {v2 : Int32} {v4 : Int32} {v7 : Int32} {cM ct cv2 cv4 cv7 : Nat} (hM : M = dM cM) (ht : tl = i64 ct) (hv2 : v2 = nI cv2) (hv4 : v4 = nI cv4) (hv7 : v7 = nI cv7) (h : eX0_weighVex_99 q  cM ct cv2 cv4 cv7 = true) : wX0_weighVex_99 post  M tl v2 v4 v7 := by
  unfold wX0_weighVex_99
  exact sX0_weighVex_100 hq  hM ht hv2 hv4 hv7 (rfl : (0 : Int32) = nI 0) h
noncomputable def epX0_weighVex (q : Nat → Nat → Bool) (cM ct cv1 cv2 cv3 cv4 : Nat) : Bool :=
  (epX1_twinOf (fun cr3 cM1 ct2 => (epX1_costOf (fun cr6 cM4 ct5 => (epX7_kindAt (fun cr9 cM7 ct8 => (epX1_tasteOf (fun cr12 cM10 ct11 => (epX1_tasteOf (fun cr15 cM13 ct14 => (@Bool.rec (fun _ => Bool) (eX0_weighVex_99 q  cM13 ct14 cv2 cv4 (sN (aN cr6 cr12) cr15)) (epX1_costOf (fun cr18 cM16 ct17 => (epX1_costOf (fun cr21 cM19 ct20 => (@Bool.rec (fun _ => Bool) (eX0_weighVex_100 q  cM19 ct20 cv2 cv4 (sN (aN cr6 cr12) cr15) 1) (eX0_weighVex_99 q  cM19 ct20 cv2 cv4 (sN (aN cr6 cr12) cr15)) (leN cr21 cr18))) cM16 ct17 3 cv1 (rd cM16 48 2))) cM13 ct14 3 cv1 cv4) (eqN (sN (aN cr6 cr12) cr15) (rd cM13 48 0)))) cM10 ct11 3 (sN 1 cv1) cr3)) cM7 ct8 3 (sN 1 cv1) cr9)) cM4 ct5 14 (sN 1 cv1) cv3)) cM1 ct2 3 (sN 1 cv1) cr3)) cM ct 3 cv4)
set_option maxHeartbeats 4000000 in
set_option maxRecDepth 20000 in
theorem spX0_weighVex {post : MM → Int64 → Prop} {q : Nat → Nat → Bool} (hq : ∀ (M : MM) (tl : Int64) (cM ct : Nat), M = dM cM → tl = i64 ct → q cM ct = true → post M tl) {M : MM} {tl : Int64} {v1 : Int32} {v2 : Int32} {v3 : Int32} {v4 : Int32} {cM ct cv1 cv2 cv3 cv4 : Nat} (hM : M = dM cM) (ht : tl = i64 ct) (hv1 : v1 = nI cv1) (hv2 : v2 = nI cv2) (hv3 : v3 = nI cv3) (hv4 : v4 = nI cv4) (h : epX0_weighVex q  cM ct cv1 cv2 cv3 cv4 = true) : wpX0_weighVex post  M tl v1 v2 v3 v4 := by
  unfold wpX0_weighVex
  refine spX1_twinOf (fun r3 M1 t2 cr3 cM1 ct2 hr3 hM1 ht2 h => ?_) hM ht (rfl : (3 : Nat) = 3) hv4 h
  refine spX1_costOf (fun r6 M4 t5 cr6 cM4 ct5 hr6 hM4 ht5 h => ?_) hM1 ht2 (rfl : (3 : Nat) = 3) (r_sub (rfl : (1 : Int32) = nI 1) hv1) hr3 h
  refine spX7_kindAt (fun r9 M7 t8 cr9 cM7 ct8 hr9 hM7 ht8 h => ?_) hM4 ht5 (rfl : (14 : Nat) = 14) (r_sub (rfl : (1 : Int32) = nI 1) hv1) hv3 h
  refine spX1_tasteOf (fun r12 M10 t11 cr12 cM10 ct11 hr12 hM10 ht11 h => ?_) hM7 ht8 (rfl : (3 : Nat) = 3) (r_sub (rfl : (1 : Int32) = nI 1) hv1) hr9 h
  refine spX1_tasteOf (fun r15 M13 t14 cr15 cM13 ct14 hr15 hM13 ht14 h => ?_) hM10 ht11 (rfl : (3 : Nat) = 3) (r_sub (rfl : (1 : Int32) = nI 1) hv1) hr3 h
  refine e_ite (c_eq (r_sub (r_add hr6 hr12) hr15) (r_rd hM13 (rfl : (48 : Nat) = 48) (rfl : (0 : Nat) = 0))) h (fun h => ?_) (fun h => ?_)
  · refine spX1_costOf (fun r18 M16 t17 cr18 cM16 ct17 hr18 hM16 ht17 h => ?_) hM13 ht14 (rfl : (3 : Nat) = 3) hv1 hv4 h
    refine spX1_costOf (fun r21 M19 t20 cr21 cM19 ct20 hr21 hM19 ht20 h => ?_) hM16 ht17 (rfl : (3 : Nat) = 3) hv1 (r_rd hM16 (rfl : (48 : Nat) = 48) (rfl : (2 : Nat) = 2)) h
    refine e_ite (c_le hr21 hr18) h (fun h => ?_) (fun h => ?_)
    · exact sX0_weighVex_99 hq  hM19 ht20 hv2 hv4 (r_sub (r_add hr6 hr12) hr15) h
    · exact sX0_weighVex_100 hq  hM19 ht20 hv2 hv4 (r_sub (r_add hr6 hr12) hr15) (rfl : (1 : Int32) = nI 1) h
  · exact sX0_weighVex_99 hq  hM13 ht14 hv2 hv4 (r_sub (r_add hr6 hr12) hr15) h
noncomputable def eX0_findVex_92 (q : Nat → Nat → Bool) (cbk18 : Nat → Nat → Nat → Nat → Bool) (cbk42 : Nat → Nat → Nat → Nat → Nat → Nat → Bool) (cM ct cv1 cv2 cv3 cv4 : Nat) : Bool :=
  (cbk42 cM ct cv1 cv2 cv3 (aN cv4 1))
set_option maxHeartbeats 4000000 in
set_option maxRecDepth 20000 in
theorem sX0_findVex_92 {post : MM → Int64 → Prop} {q : Nat → Nat → Bool} (hq : ∀ (M : MM) (tl : Int64) (cM ct : Nat), M = dM cM → tl = i64 ct → q cM ct = true → post M tl) {bk18 : MM → Int64 → Int32 → Int32 → Prop} {cbk18 : Nat → Nat → Nat → Nat → Bool} (hbk18 : ∀ (M : MM) (tl : Int64) (x0 : Int32) (x1 : Int32) (cM ct cx0 cx1 : Nat), M = dM cM → tl = i64 ct → x0 = nI cx0 → x1 = nI cx1 → cbk18 cM ct cx0 cx1 = true → bk18 M tl x0 x1) {bk42 : MM → Int64 → Int32 → Int32 → Int32 → Int32 → Prop} {cbk42 : Nat → Nat → Nat → Nat → Nat → Nat → Bool} (hbk42 : ∀ (M : MM) (tl : Int64) (x0 : Int32) (x1 : Int32) (x2 : Int32) (x3 : Int32) (cM ct cx0 cx1 cx2 cx3 : Nat), M = dM cM → tl = i64 ct → x0 = nI cx0 → x1 = nI cx1 → x2 = nI cx2 → x3 = nI cx3 → cbk42 cM ct cx0 cx1 cx2 cx3 = true → bk42 M tl x0 x1 x2 x3) {M : MM} {tl : Int64} {v1 : Int32} {v2 : Int32} {v3 : Int32} {v4 : Int32} {cM ct cv1 cv2 cv3 cv4 : Nat} (hM : M = dM cM) (ht : tl = i64 ct) (hv1 : v1 = nI cv1) (hv2 : v2 = nI cv2) (hv3 : v3 = nI cv3) (hv4 : v4 = nI cv4) (h : eX0_findVex_92 q cbk18 cbk42 cM ct cv1 cv2 cv3 cv4 = true) : wX0_findVex_92 post bk18 bk42 M tl v1 v2 v3 v4 := by
  unfold wX0_findVex_92
  exact hbk42 _ _ _ _ _ _ _ _ _ _ _ _ hM ht hv1 hv2 hv3 (r_add hv4 (rfl : (1 : Int32) = nI 1)) h
noncomputable def eX0_findVex_98 (q : Nat → Nat → Bool) (cbk18 : Nat → Nat → Nat → Nat → Bool) (cM ct cv1 cv2 : Nat) : Bool :=
  (cbk18 cM ct cv1 (aN cv2 1))
set_option maxHeartbeats 4000000 in
set_option maxRecDepth 20000 in
theorem sX0_findVex_98 {post : MM → Int64 → Prop} {q : Nat → Nat → Bool} (hq : ∀ (M : MM) (tl : Int64) (cM ct : Nat), M = dM cM → tl = i64 ct → q cM ct = true → post M tl) {bk18 : MM → Int64 → Int32 → Int32 → Prop} {cbk18 : Nat → Nat → Nat → Nat → Bool} (hbk18 : ∀ (M : MM) (tl : Int64) (x0 : Int32) (x1 : Int32) (cM ct cx0 cx1 : Nat), M = dM cM → tl = i64 ct → x0 = nI cx0 → x1 = nI cx1 → cbk18 cM ct cx0 cx1 = true → bk18 M tl x0 x1) {M : MM} {tl : Int64} {v1 : Int32} {v2 : Int32} {cM ct cv1 cv2 : Nat} (hM : M = dM cM) (ht : tl = i64 ct) (hv1 : v1 = nI cv1) (hv2 : v2 = nI cv2) (h : eX0_findVex_98 q cbk18 cM ct cv1 cv2 = true) : wX0_findVex_98 post bk18 M tl v1 v2 := by
  unfold wX0_findVex_98
  exact hbk18 _ _ _ _ _ _ _ _ hM ht hv1 (r_add hv2 (rfl : (1 : Int32) = nI 1)) h
noncomputable def eX0_findVex_42 (q : Nat → Nat → Bool) (cbk18 : Nat → Nat → Nat → Nat → Bool) (n : Nat) : Nat → Nat → Nat → Nat → Nat → Nat → Bool :=
  @Nat.rec (fun _ => Nat → Nat → Nat → Nat → Nat → Nat → Bool) (fun _ _ _ _ _ _ => false) (fun _ ih cM ct cv1 cv2 cv3 cv4 => (@Bool.rec (fun _ => Bool) (@Bool.rec (fun _ => Bool) (epX7_kindAt (fun cr3 cM1 ct2 => (@Bool.rec (fun _ => Bool) (epX1_mayBuild (fun cr6 cM4 ct5 => (@Bool.rec (fun _ => Bool) (epX0_weighVex (fun cM7 ct8 => (eX0_findVex_92 q cbk18 ih cM7 ct8 cv1 cv2 cv3 cv4)) cM4 ct5 cv1 cv2 cv3 cv4) (eX0_findVex_92 q cbk18 ih cM4 ct5 cv1 cv2 cv3 cv4) (eqN cr6 0))) cM1 ct2 3 cv1 cv2 cv4) (eX0_findVex_92 q cbk18 ih cM1 ct2 cv1 cv2 cv3 cv4) (eqN cv4 cr3))) cM ct 14 cv1 cv2) (eX0_findVex_98 q cbk18 cM ct cv1 cv2) (eqN cv3 4294967292)) (eX0_findVex_98 q cbk18 cM ct cv1 cv2) (leN 6 cv4))) n
set_option maxHeartbeats 4000000 in
set_option maxRecDepth 20000 in
theorem sX0_findVex_42 {post : MM → Int64 → Prop} {q : Nat → Nat → Bool} (hq : ∀ (M : MM) (tl : Int64) (cM ct : Nat), M = dM cM → tl = i64 ct → q cM ct = true → post M tl) {bk18 : MM → Int64 → Int32 → Int32 → Prop} {cbk18 : Nat → Nat → Nat → Nat → Bool} (hbk18 : ∀ (M : MM) (tl : Int64) (x0 : Int32) (x1 : Int32) (cM ct cx0 cx1 : Nat), M = dM cM → tl = i64 ct → x0 = nI cx0 → x1 = nI cx1 → cbk18 cM ct cx0 cx1 = true → bk18 M tl x0 x1) : ∀ (n : Nat) (M : MM) (tl : Int64) (v1 : Int32) (v2 : Int32) (v3 : Int32) (v4 : Int32) (cM ct cv1 cv2 cv3 cv4 : Nat), M = dM cM → tl = i64 ct → v1 = nI cv1 → v2 = nI cv2 → v3 = nI cv3 → v4 = nI cv4 → eX0_findVex_42 q cbk18 n cM ct cv1 cv2 cv3 cv4 = true → wX0_findVex_42 post bk18 n M tl v1 v2 v3 v4 := by
  intro n
  induction n with
  | zero => intro M tl v1 v2 v3 v4 cM ct cv1 cv2 cv3 cv4 hM ht hv1 hv2 hv3 hv4 h; exact Bool.noConfusion h
  | succ n ih =>
    intro M tl v1 v2 v3 v4 cM ct cv1 cv2 cv3 cv4 hM ht hv1 hv2 hv3 hv4 h
    unfold wX0_findVex_42
    refine e_ite (c_le (rfl : (6 : Int32) = nI 6) hv4) h (fun h => ?_) (fun h => ?_)
    · exact sX0_findVex_98 hq hbk18 hM ht hv1 hv2 h
    · refine e_ite (c_eq hv3 lm4) h (fun h => ?_) (fun h => ?_)
      · exact sX0_findVex_98 hq hbk18 hM ht hv1 hv2 h
      · refine spX7_kindAt (fun r3 M1 t2 cr3 cM1 ct2 hr3 hM1 ht2 h => ?_) hM ht (rfl : (14 : Nat) = 14) hv1 hv2 h
        refine e_ite (c_eq hv4 hr3) h (fun h => ?_) (fun h => ?_)
        · exact sX0_findVex_92 hq hbk18 ih hM1 ht2 hv1 hv2 hv3 hv4 h
        · refine spX1_mayBuild (fun r6 M4 t5 cr6 cM4 ct5 hr6 hM4 ht5 h => ?_) hM1 ht2 (rfl : (3 : Nat) = 3) hv1 hv2 hv4 h
          refine e_ite (c_eq hr6 (rfl : (0 : Int32) = nI 0)) h (fun h => ?_) (fun h => ?_)
          · exact sX0_findVex_92 hq hbk18 ih hM4 ht5 hv1 hv2 hv3 hv4 h
          · refine spX0_weighVex (fun M7 t8 cM7 ct8 hM7 ht8 h => ?_) hM4 ht5 hv1 hv2 hv3 hv4 h
            exact sX0_findVex_92 hq hbk18 ih hM7 ht8 hv1 hv2 hv3 hv4 h
noncomputable def eX0_findVex_18 (q : Nat → Nat → Bool) (n : Nat) : Nat → Nat → Nat → Nat → Bool :=
  @Nat.rec (fun _ => Nat → Nat → Nat → Nat → Bool) (fun _ _ _ _ => false) (fun _ ih cM ct cv1 cv2 => (@Bool.rec (fun _ => Bool) (epX1_matchOf (fun cr3 cM1 ct2 => (eX0_findVex_42 q ih 5000 cM1 ct2 cv1 cv2 cr3 1)) cM ct 3 cv1 cv2) (q cM ct) (leN (rd cM 3 0) cv2))) n
set_option maxHeartbeats 4000000 in
set_option maxRecDepth 20000 in
theorem sX0_findVex_18 {post : MM → Int64 → Prop} {q : Nat → Nat → Bool} (hq : ∀ (M : MM) (tl : Int64) (cM ct : Nat), M = dM cM → tl = i64 ct → q cM ct = true → post M tl) : ∀ (n : Nat) (M : MM) (tl : Int64) (v1 : Int32) (v2 : Int32) (cM ct cv1 cv2 : Nat), M = dM cM → tl = i64 ct → v1 = nI cv1 → v2 = nI cv2 → eX0_findVex_18 q  n cM ct cv1 cv2 = true → wX0_findVex_18 post  n M tl v1 v2 := by
  intro n
  induction n with
  | zero => intro M tl v1 v2 cM ct cv1 cv2 hM ht hv1 hv2 h; exact Bool.noConfusion h
  | succ n ih =>
    intro M tl v1 v2 cM ct cv1 cv2 hM ht hv1 hv2 h
    unfold wX0_findVex_18
    refine e_ite (c_le (r_rd hM (rfl : (3 : Nat) = 3) (rfl : (0 : Nat) = 0)) hv2) h (fun h => ?_) (fun h => ?_)
    · exact hq _ _ _ _ hM ht h
    · refine spX1_matchOf (fun r3 M1 t2 cr3 cM1 ct2 hr3 hM1 ht2 h => ?_) hM ht (rfl : (3 : Nat) = 3) hv1 hv2 h
      exact ⟨5000, sX0_findVex_42 hq ih 5000 _ _ _ _ _ _ _ _ _ _ _ _ hM1 ht2 hv1 hv2 hr3 (rfl : (1 : Int32) = nI 1) h⟩
noncomputable def epX0_findVex (q : Nat → Nat → Bool) (cM ct cv1 : Nat) : Bool :=
  (wrB (fun cM1 => (wrB (fun cM2 => (wrB (fun cM3 => (eX0_findVex_18 q  5000 cM3 ct cv1 0)) cM2 48 2 0)) cM1 48 1 4294967292)) cM 48 0 0)
set_option maxHeartbeats 4000000 in
set_option maxRecDepth 20000 in
theorem spX0_findVex {post : MM → Int64 → Prop} {q : Nat → Nat → Bool} (hq : ∀ (M : MM) (tl : Int64) (cM ct : Nat), M = dM cM → tl = i64 ct → q cM ct = true → post M tl) {M : MM} {tl : Int64} {v1 : Int32} {cM ct cv1 : Nat} (hM : M = dM cM) (ht : tl = i64 ct) (hv1 : v1 = nI cv1) (h : epX0_findVex q  cM ct cv1 = true) : wpX0_findVex post  M tl v1 := by
  unfold wpX0_findVex
  refine e_wr h hM (rfl : (48 : Nat) = 48) (rfl : (0 : Nat) = 0) (rfl : (0 : Int32) = nI 0) (fun M1 cM1 hM1 h => ?_)
  refine e_wr h hM1 (rfl : (48 : Nat) = 48) (rfl : (1 : Nat) = 1) lm4 (fun M2 cM2 hM2 h => ?_)
  refine e_wr h hM2 (rfl : (48 : Nat) = 48) (rfl : (2 : Nat) = 2) (rfl : (0 : Int32) = nI 0) (fun M3 cM3 hM3 h => ?_)
  exact ⟨5000, sX0_findVex_18 hq  5000 _ _ _ _ _ _ _ _ hM3 ht hv1 (rfl : (0 : Int32) = nI 0) h⟩
noncomputable def epX2_hasHistory (q : Nat → Nat → Nat → Bool) (cM ct cv1 : Nat) : Bool :=
  (epX1_matchOf (fun cr3 cM1 ct2 => (epX7_thingAt (fun cr6 cM4 ct5 => (@Bool.rec (fun _ => Bool) (@Bool.rec (fun _ => Bool) (epX7_thingAt (fun cr9 cM7 ct8 => (epX1_isEven (fun cr12 cM10 ct11 => (@Bool.rec (fun _ => Bool) (q 1 cM10 ct11) (q 0 cM10 ct11) (eqN cr12 0))) cM7 ct8 3 cr6 cr9)) cM4 ct5 14 1 cr3) (q 0 cM4 ct5) (eqN cr6 0)) (q 0 cM4 ct5) (eqN cr3 4294967292))) cM1 ct2 14 0 cv1)) cM ct 3 0 cv1)
set_option maxHeartbeats 4000000 in
set_option maxRecDepth 20000 in
theorem spX2_hasHistory {post : Int32 → MM → Int64 → Prop} {q : Nat → Nat → Nat → Bool} (hq : ∀ (r : Int32) (M : MM) (tl : Int64) (cr cM ct : Nat), r = nI cr → M = dM cM → tl = i64 ct → q cr cM ct = true → post r M tl) {M : MM} {tl : Int64} {v1 : Int32} {cM ct cv1 : Nat} (hM : M = dM cM) (ht : tl = i64 ct) (hv1 : v1 = nI cv1) (h : epX2_hasHistory q  cM ct cv1 = true) : wpX2_hasHistory post  M tl v1 := by
  unfold wpX2_hasHistory
  refine spX1_matchOf (fun r3 M1 t2 cr3 cM1 ct2 hr3 hM1 ht2 h => ?_) hM ht (rfl : (3 : Nat) = 3) (rfl : (0 : Int32) = nI 0) hv1 h
  refine spX7_thingAt (fun r6 M4 t5 cr6 cM4 ct5 hr6 hM4 ht5 h => ?_) hM1 ht2 (rfl : (14 : Nat) = 14) (rfl : (0 : Int32) = nI 0) hv1 h
  refine e_ite (c_eq hr3 lm4) h (fun h => ?_) (fun h => ?_)
  · exact hq _ _ _ _ _ _ (rfl : (0 : Int32) = nI 0) hM4 ht5 h
  · refine e_ite (c_eq hr6 (rfl : (0 : Int32) = nI 0)) h (fun h => ?_) (fun h => ?_)
    · exact hq _ _ _ _ _ _ (rfl : (0 : Int32) = nI 0) hM4 ht5 h
    · refine spX7_thingAt (fun r9 M7 t8 cr9 cM7 ct8 hr9 hM7 ht8 h => ?_) hM4 ht5 (rfl : (14 : Nat) = 14) (rfl : (1 : Int32) = nI 1) hr3 h
      refine spX1_isEven (fun r12 M10 t11 cr12 cM10 ct11 hr12 hM10 ht11 h => ?_) hM7 ht8 (rfl : (3 : Nat) = 3) hr6 hr9 h
      refine e_ite (c_eq hr12 (rfl : (0 : Int32) = nI 0)) h (fun h => ?_) (fun h => ?_)
      · exact hq _ _ _ _ _ _ (rfl : (0 : Int32) = nI 0) hM10 ht11 h
      · exact hq _ _ _ _ _ _ (rfl : (1 : Int32) = nI 1) hM10 ht11 h
noncomputable def eX2_fitsSeen_125 (q : Nat → Nat → Nat → Bool) (cbk23 : Nat → Nat → Nat → Nat → Nat → Nat → Nat → Bool) (cM ct cv1 cv2 cv3 cv4 cv6 : Nat) : Bool :=
  (cbk23 cM ct cv1 cv2 cv3 cv4 (aN cv6 1))
set_option maxHeartbeats 4000000 in
set_option maxRecDepth 20000 in
theorem sX2_fitsSeen_125 {post : Int32 → MM → Int64 → Prop} {q : Nat → Nat → Nat → Bool} (hq : ∀ (r : Int32) (M : MM) (tl : Int64) (cr cM ct : Nat), r = nI cr → M = dM cM → tl = i64 ct → q cr cM ct = true → post r M tl) {bk23 : MM → Int64 → Int32 → Int32 → Int32 → Int32 → Int32 → Prop} {cbk23 : Nat → Nat → Nat → Nat → Nat → Nat → Nat → Bool} (hbk23 : ∀ (M : MM) (tl : Int64) (x0 : Int32) (x1 : Int32) (x2 : Int32) (x3 : Int32) (x4 : Int32) (cM ct cx0 cx1 cx2 cx3 cx4 : Nat), M = dM cM → tl = i64 ct → x0 = nI cx0 → x1 = nI cx1 → x2 = nI cx2 → x3 = nI cx3 → x4 = nI cx4 → cbk23 cM ct cx0 cx1 cx2 cx3 cx4 = true → bk23 M tl x0 x1 x2 x3 x4) {M : MM} {tl : Int64} {v1 : Int32} {v2 : Int32} {v3 : Int32} {v4 : Int32} {v6 : Int32} {cM ct cv1 cv2 cv3 cv4 cv6 : Nat} (hM : M = dM cM) (ht : tl = i64 ct) (hv1 : v1 = nI cv1) (hv2 : v2 = nI cv2) (hv3 : v3 = nI cv3) (hv4 : v4 = nI cv4) (hv6 : v6 = nI cv6) (h : eX2_fitsSeen_125 q cbk23 cM ct cv1 cv2 cv3 cv4 cv6 = true) : wX2_fitsSeen_125 post bk23 M tl v1 v2 v3 v4 v6 := by
  unfold wX2_fitsSeen_125
  exact hbk23 _ _ _ _ _ _ _ _ _ _ _ _ _ _ hM ht hv1 hv2 hv3 hv4 (r_add hv6 (rfl : (1 : Int32) = nI 1)) h
noncomputable def eX2_fitsSeen_120 (q : Nat → Nat → Nat → Bool) (cbk23 : Nat → Nat → Nat → Nat → Nat → Nat → Nat → Bool) (cM ct cv1 cv2 cv3 cv4 cv6 cs0 cs1 : Nat) : Bool :=
  (@Bool.rec (fun _ => Bool) (q 0 cM ct) (eX2_fitsSeen_125 q cbk23 cM ct cv1 cv2 cv3 cv4 cv6) (eqN cs0 cs1))
set_option maxHeartbeats 4000000 in
set_option maxRecDepth 20000 in
theorem sX2_fitsSeen_120 {post : Int32 → MM → Int64 → Prop} {q : Nat → Nat → Nat → Bool} (hq : ∀ (r : Int32) (M : MM) (tl : Int64) (cr cM ct : Nat), r = nI cr → M = dM cM → tl = i64 ct → q cr cM ct = true → post r M tl) {bk23 : MM → Int64 → Int32 → Int32 → Int32 → Int32 → Int32 → Prop} {cbk23 : Nat → Nat → Nat → Nat → Nat → Nat → Nat → Bool} (hbk23 : ∀ (M : MM) (tl : Int64) (x0 : Int32) (x1 : Int32) (x2 : Int32) (x3 : Int32) (x4 : Int32) (cM ct cx0 cx1 cx2 cx3 cx4 : Nat), M = dM cM → tl = i64 ct → x0 = nI cx0 → x1 = nI cx1 → x2 = nI cx2 → x3 = nI cx3 → x4 = nI cx4 → cbk23 cM ct cx0 cx1 cx2 cx3 cx4 = true → bk23 M tl x0 x1 x2 x3 x4) {M : MM} {tl : Int64} {v1 : Int32} {v2 : Int32} {v3 : Int32} {v4 : Int32} {v6 : Int32} {s0 : Int32} {s1 : Int32} {cM ct cv1 cv2 cv3 cv4 cv6 cs0 cs1 : Nat} (hM : M = dM cM) (ht : tl = i64 ct) (hv1 : v1 = nI cv1) (hv2 : v2 = nI cv2) (hv3 : v3 = nI cv3) (hv4 : v4 = nI cv4) (hv6 : v6 = nI cv6) (hs0 : s0 = nI cs0) (hs1 : s1 = nI cs1) (h : eX2_fitsSeen_120 q cbk23 cM ct cv1 cv2 cv3 cv4 cv6 cs0 cs1 = true) : wX2_fitsSeen_120 post bk23 M tl v1 v2 v3 v4 v6 s0 s1 := by
  unfold wX2_fitsSeen_120
  refine e_ite (c_eq hs0 hs1) h (fun h => ?_) (fun h => ?_)
  · exact sX2_fitsSeen_125 hq hbk23 hM ht hv1 hv2 hv3 hv4 hv6 h
  · exact hq _ _ _ _ _ _ (rfl : (0 : Int32) = nI 0) hM ht h
noncomputable def eX2_fitsSeen_99 (q : Nat → Nat → Nat → Bool) (cbk23 : Nat → Nat → Nat → Nat → Nat → Nat → Nat → Bool) (cM ct cv1 cv2 cv3 cv4 cv6 cs0 : Nat) : Bool :=
  (epX5_cell (fun cr3 cM1 ct2 => (@Bool.rec (fun _ => Bool) (eX2_fitsSeen_120 q cbk23 cM1 ct2 cv1 cv2 cv3 cv4 cv6 cs0 0) (eX2_fitsSeen_120 q cbk23 cM1 ct2 cv1 cv2 cv3 cv4 cv6 cs0 1) (eqN cr3 1))) cM ct 20 cv6 3)
set_option maxHeartbeats 4000000 in
set_option maxRecDepth 20000 in
theorem sX2_fitsSeen_99 {post : Int32 → MM → Int64 → Prop} {q : Nat → Nat → Nat → Bool} (hq : ∀ (r : Int32) (M : MM) (tl : Int64) (cr cM ct : Nat), r = nI cr → M = dM cM → tl = i64 ct → q cr cM ct = true → post r M tl) {bk23 : MM → Int64 → Int32 → Int32 → Int32 → Int32 → Int32 → Prop} {cbk23 : Nat → Nat → Nat → Nat → Nat → Nat → Nat → Bool} (hbk23 : ∀ (M : MM) (tl : Int64) (x0 : Int32) (x1 : Int32) (x2 : Int32) (x3 : Int32) (x4 : Int32) (cM ct cx0 cx1 cx2 cx3 cx4 : Nat), M = dM cM → tl = i64 ct → x0 = nI cx0 → x1 = nI cx1 → x2 = nI cx2 → x3 = nI cx3 → x4 = nI cx4 → cbk23 cM ct cx0 cx1 cx2 cx3 cx4 = true → bk23 M tl x0 x1 x2 x3 x4) {M : MM} {tl : Int64} {v1 : Int32} {v2 : Int32} {v3 : Int32} {v4 : Int32} {v6 : Int32} {s0 : Int32} {cM ct cv1 cv2 cv3 cv4 cv6 cs0 : Nat} (hM : M = dM cM) (ht : tl = i64 ct) (hv1 : v1 = nI cv1) (hv2 : v2 = nI cv2) (hv3 : v3 = nI cv3) (hv4 : v4 = nI cv4) (hv6 : v6 = nI cv6) (hs0 : s0 = nI cs0) (h : eX2_fitsSeen_99 q cbk23 cM ct cv1 cv2 cv3 cv4 cv6 cs0 = true) : wX2_fitsSeen_99 post bk23 M tl v1 v2 v3 v4 v6 s0 := by
  unfold wX2_fitsSeen_99
  refine spX5_cell (fun r3 M1 t2 cr3 cM1 ct2 hr3 hM1 ht2 h => ?_) hM ht (rfl : (20 : Nat) = 20) hv6 (rfl : (3 : Int32) = nI 3) h
  refine e_ite (c_eq hr3 (rfl : (1 : Int32) = nI 1)) h (fun h => ?_) (fun h => ?_)
  · exact sX2_fitsSeen_120 hq hbk23 hM1 ht2 hv1 hv2 hv3 hv4 hv6 hs0 (rfl : (1 : Int32) = nI 1) h
  · exact sX2_fitsSeen_120 hq hbk23 hM1 ht2 hv1 hv2 hv3 hv4 hv6 hs0 (rfl : (0 : Int32) = nI 0) h
noncomputable def eX2_fitsSeen_83 (q : Nat → Nat → Nat → Bool) (cbk23 : Nat → Nat → Nat → Nat → Nat → Nat → Nat → Bool) (cM ct cv1 cv2 cv3 cv4 cv6 cs0 : Nat) : Bool :=
  (epX5_cell (fun cr3 cM1 ct2 => (@Bool.rec (fun _ => Bool) (eX2_fitsSeen_99 q cbk23 cM1 ct2 cv1 cv2 cv3 cv4 cv6 1) (eX2_fitsSeen_99 q cbk23 cM1 ct2 cv1 cv2 cv3 cv4 cv6 0) (ltN cr3 cs0))) cM ct 20 cv6 2)
set_option maxHeartbeats 4000000 in
set_option maxRecDepth 20000 in
theorem sX2_fitsSeen_83 {post : Int32 → MM → Int64 → Prop} {q : Nat → Nat → Nat → Bool} (hq : ∀ (r : Int32) (M : MM) (tl : Int64) (cr cM ct : Nat), r = nI cr → M = dM cM → tl = i64 ct → q cr cM ct = true → post r M tl) {bk23 : MM → Int64 → Int32 → Int32 → Int32 → Int32 → Int32 → Prop} {cbk23 : Nat → Nat → Nat → Nat → Nat → Nat → Nat → Bool} (hbk23 : ∀ (M : MM) (tl : Int64) (x0 : Int32) (x1 : Int32) (x2 : Int32) (x3 : Int32) (x4 : Int32) (cM ct cx0 cx1 cx2 cx3 cx4 : Nat), M = dM cM → tl = i64 ct → x0 = nI cx0 → x1 = nI cx1 → x2 = nI cx2 → x3 = nI cx3 → x4 = nI cx4 → cbk23 cM ct cx0 cx1 cx2 cx3 cx4 = true → bk23 M tl x0 x1 x2 x3 x4) {M : MM} {tl : Int64} {v1 : Int32} {v2 : Int32} {v3 : Int32} {v4 : Int32} {v6 : Int32} {s0 : Int32} {cM ct cv1 cv2 cv3 cv4 cv6 cs0 : Nat} (hM : M = dM cM) (ht : tl = i64 ct) (hv1 : v1 = nI cv1) (hv2 : v2 = nI cv2) (hv3 : v3 = nI cv3) (hv4 : v4 = nI cv4) (hv6 : v6 = nI cv6) (hs0 : s0 = nI cs0) (h : eX2_fitsSeen_83 q cbk23 cM ct cv1 cv2 cv3 cv4 cv6 cs0 = true) : wX2_fitsSeen_83 post bk23 M tl v1 v2 v3 v4 v6 s0 := by
  unfold wX2_fitsSeen_83
  refine spX5_cell (fun r3 M1 t2 cr3 cM1 ct2 hr3 hM1 ht2 h => ?_) hM ht (rfl : (20 : Nat) = 20) hv6 (rfl : (2 : Int32) = nI 2) h
  refine e_ite (c_lt hr3 hs0) h (fun h => ?_) (fun h => ?_)
  · exact sX2_fitsSeen_99 hq hbk23 hM1 ht2 hv1 hv2 hv3 hv4 hv6 (rfl : (0 : Int32) = nI 0) h
  · exact sX2_fitsSeen_99 hq hbk23 hM1 ht2 hv1 hv2 hv3 hv4 hv6 (rfl : (1 : Int32) = nI 1) h
noncomputable def eX2_fitsSeen_70 (q : Nat → Nat → Nat → Bool) (cbk23 : Nat → Nat → Nat → Nat → Nat → Nat → Nat → Bool) (cM ct cv1 cv2 cv3 cv4 cv6 cv7 cs0 cs1 : Nat) : Bool :=
  (@Bool.rec (fun _ => Bool) (eX2_fitsSeen_125 q cbk23 cM ct cv1 cv2 cv3 cv4 cv6) (@Bool.rec (fun _ => Bool) (eX2_fitsSeen_83 q cbk23 cM ct cv1 cv2 cv3 cv4 cv6 cv2) (eX2_fitsSeen_83 q cbk23 cM ct cv1 cv2 cv3 cv4 cv6 cv3) (eqN cv7 0)) (eqN cs0 cs1))
set_option maxHeartbeats 4000000 in
set_option maxRecDepth 20000 in
theorem sX2_fitsSeen_70 {post : Int32 → MM → Int64 → Prop} {q : Nat → Nat → Nat → Bool} (hq : ∀ (r : Int32) (M : MM) (tl : Int64) (cr cM ct : Nat), r = nI cr → M = dM cM → tl = i64 ct → q cr cM ct = true → post r M tl) {bk23 : MM → Int64 → Int32 → Int32 → Int32 → Int32 → Int32 → Prop} {cbk23 : Nat → Nat → Nat → Nat → Nat → Nat → Nat → Bool} (hbk23 : ∀ (M : MM) (tl : Int64) (x0 : Int32) (x1 : Int32) (x2 : Int32) (x3 : Int32) (x4 : Int32) (cM ct cx0 cx1 cx2 cx3 cx4 : Nat), M = dM cM → tl = i64 ct → x0 = nI cx0 → x1 = nI cx1 → x2 = nI cx2 → x3 = nI cx3 → x4 = nI cx4 → cbk23 cM ct cx0 cx1 cx2 cx3 cx4 = true → bk23 M tl x0 x1 x2 x3 x4) {M : MM} {tl : Int64} {v1 : Int32} {v2 : Int32} {v3 : Int32} {v4 : Int32} {v6 : Int32} {v7 : Int32} {s0 : Int32} {s1 : Int32} {cM ct cv1 cv2 cv3 cv4 cv6 cv7 cs0 cs1 : Nat} (hM : M = dM cM) (ht : tl = i64 ct) (hv1 : v1 = nI cv1) (hv2 : v2 = nI cv2) (hv3 : v3 = nI cv3) (hv4 : v4 = nI cv4) (hv6 : v6 = nI cv6) (hv7 : v7 = nI cv7) (hs0 : s0 = nI cs0) (hs1 : s1 = nI cs1) (h : eX2_fitsSeen_70 q cbk23 cM ct cv1 cv2 cv3 cv4 cv6 cv7 cs0 cs1 = true) : wX2_fitsSeen_70 post bk23 M tl v1 v2 v3 v4 v6 v7 s0 s1 := by
  unfold wX2_fitsSeen_70
  refine e_ite (c_eq hs0 hs1) h (fun h => ?_) (fun h => ?_)
  · refine e_ite (c_eq hv7 (rfl : (0 : Int32) = nI 0)) h (fun h => ?_) (fun h => ?_)
    · exact sX2_fitsSeen_83 hq hbk23 hM ht hv1 hv2 hv3 hv4 hv6 hv3 h
    · exact sX2_fitsSeen_83 hq hbk23 hM ht hv1 hv2 hv3 hv4 hv6 hv2 h
  · exact sX2_fitsSeen_125 hq hbk23 hM ht hv1 hv2 hv3 hv4 hv6 h
noncomputable def eX2_fitsSeen_49 (q : Nat → Nat → Nat → Bool) (cbk23 : Nat → Nat → Nat → Nat → Nat → Nat → Nat → Bool) (cM ct cv1 cv2 cv3 cv4 cv6 cs0 : Nat) : Bool :=
  (epX5_cell (fun cr3 cM1 ct2 => (@Bool.rec (fun _ => Bool) (eX2_fitsSeen_70 q cbk23 cM1 ct2 cv1 cv2 cv3 cv4 cv6 cs0 cr3 cv1) (eX2_fitsSeen_70 q cbk23 cM1 ct2 cv1 cv2 cv3 cv4 cv6 cs0 cr3 cv4) (eqN cs0 0))) cM ct 20 cv6 1)
set_option maxHeartbeats 4000000 in
set_option maxRecDepth 20000 in
theorem sX2_fitsSeen_49 {post : Int32 → MM → Int64 → Prop} {q : Nat → Nat → Nat → Bool} (hq : ∀ (r : Int32) (M : MM) (tl : Int64) (cr cM ct : Nat), r = nI cr → M = dM cM → tl = i64 ct → q cr cM ct = true → post r M tl) {bk23 : MM → Int64 → Int32 → Int32 → Int32 → Int32 → Int32 → Prop} {cbk23 : Nat → Nat → Nat → Nat → Nat → Nat → Nat → Bool} (hbk23 : ∀ (M : MM) (tl : Int64) (x0 : Int32) (x1 : Int32) (x2 : Int32) (x3 : Int32) (x4 : Int32) (cM ct cx0 cx1 cx2 cx3 cx4 : Nat), M = dM cM → tl = i64 ct → x0 = nI cx0 → x1 = nI cx1 → x2 = nI cx2 → x3 = nI cx3 → x4 = nI cx4 → cbk23 cM ct cx0 cx1 cx2 cx3 cx4 = true → bk23 M tl x0 x1 x2 x3 x4) {M : MM} {tl : Int64} {v1 : Int32} {v2 : Int32} {v3 : Int32} {v4 : Int32} {v6 : Int32} {s0 : Int32} {cM ct cv1 cv2 cv3 cv4 cv6 cs0 : Nat} (hM : M = dM cM) (ht : tl = i64 ct) (hv1 : v1 = nI cv1) (hv2 : v2 = nI cv2) (hv3 : v3 = nI cv3) (hv4 : v4 = nI cv4) (hv6 : v6 = nI cv6) (hs0 : s0 = nI cs0) (h : eX2_fitsSeen_49 q cbk23 cM ct cv1 cv2 cv3 cv4 cv6 cs0 = true) : wX2_fitsSeen_49 post bk23 M tl v1 v2 v3 v4 v6 s0 := by
  unfold wX2_fitsSeen_49
  refine spX5_cell (fun r3 M1 t2 cr3 cM1 ct2 hr3 hM1 ht2 h => ?_) hM ht (rfl : (20 : Nat) = 20) hv6 (rfl : (1 : Int32) = nI 1) h
  refine e_ite (c_eq hs0 (rfl : (0 : Int32) = nI 0)) h (fun h => ?_) (fun h => ?_)
  · exact sX2_fitsSeen_70 hq hbk23 hM1 ht2 hv1 hv2 hv3 hv4 hv6 hs0 hr3 hv4 h
  · exact sX2_fitsSeen_70 hq hbk23 hM1 ht2 hv1 hv2 hv3 hv4 hv6 hs0 hr3 hv1 h
noncomputable def eX2_fitsSeen_23 (q : Nat → Nat → Nat → Bool) (n : Nat) : Nat → Nat → Nat → Nat → Nat → Nat → Nat → Bool :=
  @Nat.rec (fun _ => Nat → Nat → Nat → Nat → Nat → Nat → Nat → Bool) (fun _ _ _ _ _ _ _ => false) (fun _ ih cM ct cv1 cv2 cv3 cv4 cv6 => (@Bool.rec (fun _ => Bool) (epX5_cell (fun cr3 cM1 ct2 => (@Bool.rec (fun _ => Bool) (eX2_fitsSeen_49 q ih cM1 ct2 cv1 cv2 cv3 cv4 cv6 0) (eX2_fitsSeen_49 q ih cM1 ct2 cv1 cv2 cv3 cv4 cv6 1) (eqN cr3 0))) cM ct 20 cv6 0) (q 1 cM ct) (leN (rd cM 20 3) cv6))) n
set_option maxHeartbeats 4000000 in
set_option maxRecDepth 20000 in
theorem sX2_fitsSeen_23 {post : Int32 → MM → Int64 → Prop} {q : Nat → Nat → Nat → Bool} (hq : ∀ (r : Int32) (M : MM) (tl : Int64) (cr cM ct : Nat), r = nI cr → M = dM cM → tl = i64 ct → q cr cM ct = true → post r M tl) : ∀ (n : Nat) (M : MM) (tl : Int64) (v1 : Int32) (v2 : Int32) (v3 : Int32) (v4 : Int32) (v6 : Int32) (cM ct cv1 cv2 cv3 cv4 cv6 : Nat), M = dM cM → tl = i64 ct → v1 = nI cv1 → v2 = nI cv2 → v3 = nI cv3 → v4 = nI cv4 → v6 = nI cv6 → eX2_fitsSeen_23 q  n cM ct cv1 cv2 cv3 cv4 cv6 = true → wX2_fitsSeen_23 post  n M tl v1 v2 v3 v4 v6 := by
  intro n
  induction n with
  | zero => intro M tl v1 v2 v3 v4 v6 cM ct cv1 cv2 cv3 cv4 cv6 hM ht hv1 hv2 hv3 hv4 hv6 h; exact Bool.noConfusion h
  | succ n ih =>
    intro M tl v1 v2 v3 v4 v6 cM ct cv1 cv2 cv3 cv4 cv6 hM ht hv1 hv2 hv3 hv4 hv6 h
    unfold wX2_fitsSeen_23
    refine e_ite (c_le (r_rd hM (rfl : (20 : Nat) = 20) (rfl : (3 : Nat) = 3)) hv6) h (fun h => ?_) (fun h => ?_)
    · exact hq _ _ _ _ _ _ (rfl : (1 : Int32) = nI 1) hM ht h
    · refine spX5_cell (fun r3 M1 t2 cr3 cM1 ct2 hr3 hM1 ht2 h => ?_) hM ht (rfl : (20 : Nat) = 20) hv6 (rfl : (0 : Int32) = nI 0) h
      refine e_ite (c_eq hr3 (rfl : (0 : Int32) = nI 0)) h (fun h => ?_) (fun h => ?_)
      · exact sX2_fitsSeen_49 hq ih hM1 ht2 hv1 hv2 hv3 hv4 hv6 (rfl : (1 : Int32) = nI 1) h
      · exact sX2_fitsSeen_49 hq ih hM1 ht2 hv1 hv2 hv3 hv4 hv6 (rfl : (0 : Int32) = nI 0) h
noncomputable def epX2_fitsSeen (q : Nat → Nat → Nat → Bool) (cM ct cv1 cv2 cv3 : Nat) : Bool :=
  (epX1_matchOf (fun cr3 cM1 ct2 => (eX2_fitsSeen_23 q  5000 cM1 ct2 cv1 cv2 cv3 cr3 0)) cM ct 3 0 cv1)
set_option maxHeartbeats 4000000 in
set_option maxRecDepth 20000 in
theorem spX2_fitsSeen {post : Int32 → MM → Int64 → Prop} {q : Nat → Nat → Nat → Bool} (hq : ∀ (r : Int32) (M : MM) (tl : Int64) (cr cM ct : Nat), r = nI cr → M = dM cM → tl = i64 ct → q cr cM ct = true → post r M tl) {M : MM} {tl : Int64} {v1 : Int32} {v2 : Int32} {v3 : Int32} {cM ct cv1 cv2 cv3 : Nat} (hM : M = dM cM) (ht : tl = i64 ct) (hv1 : v1 = nI cv1) (hv2 : v2 = nI cv2) (hv3 : v3 = nI cv3) (h : epX2_fitsSeen q  cM ct cv1 cv2 cv3 = true) : wpX2_fitsSeen post  M tl v1 v2 v3 := by
  unfold wpX2_fitsSeen
  refine spX1_matchOf (fun r3 M1 t2 cr3 cM1 ct2 hr3 hM1 ht2 h => ?_) hM ht (rfl : (3 : Nat) = 3) (rfl : (0 : Int32) = nI 0) hv1 h
  exact ⟨5000, sX2_fitsSeen_23 hq  5000 _ _ _ _ _ _ _ _ _ _ _ _ _ _ hM1 ht2 hv1 hv2 hv3 hr3 (rfl : (0 : Int32) = nI 0) h⟩
noncomputable def eX2_note_12 (q : Nat → Nat → Bool) (cM ct cv1 cv2 : Nat) : Bool :=
  (wrB (fun cM1 => (wrB (fun cM2 => (wrB (fun cM3 => (q cM3 ct)) cM2 53 0 (aN (rd cM2 53 0) 1))) cM1 53 3 (Nat.lor (rd cM1 53 3) (b2 f_shl 1 cv1)))) cM 53 2 cv2)
set_option maxHeartbeats 4000000 in
set_option maxRecDepth 20000 in
theorem sX2_note_12 {post : MM → Int64 → Prop} {q : Nat → Nat → Bool} (hq : ∀ (M : MM) (tl : Int64) (cM ct : Nat), M = dM cM → tl = i64 ct → q cM ct = true → post M tl) {M : MM} {tl : Int64} {v1 : Int32} {v2 : Int32} {cM ct cv1 cv2 : Nat} (hM : M = dM cM) (ht : tl = i64 ct) (hv1 : v1 = nI cv1) (hv2 : v2 = nI cv2) (h : eX2_note_12 q  cM ct cv1 cv2 = true) : wX2_note_12 post  M tl v1 v2 := by
  unfold wX2_note_12
  refine e_wr h hM (rfl : (53 : Nat) = 53) (rfl : (2 : Nat) = 2) hv2 (fun M1 cM1 hM1 h => ?_)
  refine e_wr h hM1 (rfl : (53 : Nat) = 53) (rfl : (3 : Nat) = 3) (r_or (r_rd hM1 (rfl : (53 : Nat) = 53) (rfl : (3 : Nat) = 3)) (r_b2 f_shl (rfl : (1 : Int32) = nI 1) hv1)) (fun M2 cM2 hM2 h => ?_)
  refine e_wr h hM2 (rfl : (53 : Nat) = 53) (rfl : (0 : Nat) = 0) (r_add (r_rd hM2 (rfl : (53 : Nat) = 53) (rfl : (0 : Nat) = 0)) (rfl : (1 : Int32) = nI 1)) (fun M3 cM3 hM3 h => ?_)
  exact hq _ _ _ _ hM3 ht h
noncomputable def epX2_note (q : Nat → Nat → Bool) (cM ct cv1 cv2 : Nat) : Bool :=
  (@Bool.rec (fun _ => Bool) (eX2_note_12 q  cM ct cv1 cv2) (wrB (fun cM1 => (eX2_note_12 q  cM1 ct cv1 cv2)) cM 53 1 cv2) (eqN (rd cM 53 0) 0))
set_option maxHeartbeats 4000000 in
set_option maxRecDepth 20000 in
theorem spX2_note {post : MM → Int64 → Prop} {q : Nat → Nat → Bool} (hq : ∀ (M : MM) (tl : Int64) (cM ct : Nat), M = dM cM → tl = i64 ct → q cM ct = true → post M tl) {M : MM} {tl : Int64} {v1 : Int32} {v2 : Int32} {cM ct cv1 cv2 : Nat} (hM : M = dM cM) (ht : tl = i64 ct) (hv1 : v1 = nI cv1) (hv2 : v2 = nI cv2) (h : epX2_note q  cM ct cv1 cv2 = true) : wpX2_note post  M tl v1 v2 := by
  unfold wpX2_note
  refine e_ite (c_eq (r_rd hM (rfl : (53 : Nat) = 53) (rfl : (0 : Nat) = 0)) (rfl : (0 : Int32) = nI 0)) h (fun h => ?_) (fun h => ?_)
  · refine e_wr h hM (rfl : (53 : Nat) = 53) (rfl : (1 : Nat) = 1) hv2 (fun M1 cM1 hM1 h => ?_)
    exact sX2_note_12 hq  hM1 ht hv1 hv2 h
  · exact sX2_note_12 hq  hM ht hv1 hv2 h
noncomputable def eX2_findHistories_68 (q : Nat → Nat → Bool) (cbk12 : Nat → Nat → Nat → Nat → Nat → Bool) (cbk20 : Nat → Nat → Nat → Nat → Nat → Nat → Bool) (cM ct cv1 cv2 cv3 cv4 : Nat) : Bool :=
  (cbk20 cM ct cv1 cv2 cv3 (aN cv4 1))
set_option maxHeartbeats 4000000 in
set_option maxRecDepth 20000 in
theorem sX2_findHistories_68 {post : MM → Int64 → Prop} {q : Nat → Nat → Bool} (hq : ∀ (M : MM) (tl : Int64) (cM ct : Nat), M = dM cM → tl = i64 ct → q cM ct = true → post M tl) {bk12 : MM → Int64 → Int32 → Int32 → Int32 → Prop} {cbk12 : Nat → Nat → Nat → Nat → Nat → Bool} (hbk12 : ∀ (M : MM) (tl : Int64) (x0 : Int32) (x1 : Int32) (x2 : Int32) (cM ct cx0 cx1 cx2 : Nat), M = dM cM → tl = i64 ct → x0 = nI cx0 → x1 = nI cx1 → x2 = nI cx2 → cbk12 cM ct cx0 cx1 cx2 = true → bk12 M tl x0 x1 x2) {bk20 : MM → Int64 → Int32 → Int32 → Int32 → Int32 → Prop} {cbk20 : Nat → Nat → Nat → Nat → Nat → Nat → Bool} (hbk20 : ∀ (M : MM) (tl : Int64) (x0 : Int32) (x1 : Int32) (x2 : Int32) (x3 : Int32) (cM ct cx0 cx1 cx2 cx3 : Nat), M = dM cM → tl = i64 ct → x0 = nI cx0 → x1 = nI cx1 → x2 = nI cx2 → x3 = nI cx3 → cbk20 cM ct cx0 cx1 cx2 cx3 = true → bk20 M tl x0 x1 x2 x3) {M : MM} {tl : Int64} {v1 : Int32} {v2 : Int32} {v3 : Int32} {v4 : Int32} {cM ct cv1 cv2 cv3 cv4 : Nat} (hM : M = dM cM) (ht : tl = i64 ct) (hv1 : v1 = nI cv1) (hv2 : v2 = nI cv2) (hv3 : v3 = nI cv3) (hv4 : v4 = nI cv4) (h : eX2_findHistories_68 q cbk12 cbk20 cM ct cv1 cv2 cv3 cv4 = true) : wX2_findHistories_68 post bk12 bk20 M tl v1 v2 v3 v4 := by
  unfold wX2_findHistories_68
  exact hbk20 _ _ _ _ _ _ _ _ _ _ _ _ hM ht hv1 hv2 hv3 (r_add hv4 (rfl : (1 : Int32) = nI 1)) h
noncomputable def eX2_findHistories_51 (q : Nat → Nat → Bool) (cbk12 : Nat → Nat → Nat → Nat → Nat → Bool) (cbk20 : Nat → Nat → Nat → Nat → Nat → Nat → Bool) (cM ct cv1 cv2 cv3 cv4 : Nat) : Bool :=
  (epX2_fitsSeen (fun cr3 cM1 ct2 => (@Bool.rec (fun _ => Bool) (epX2_note (fun cM4 ct5 => (eX2_findHistories_68 q cbk12 cbk20 cM4 ct5 cv1 cv2 cv3 cv4)) cM1 ct2 1 cv3) (eX2_findHistories_68 q cbk12 cbk20 cM1 ct2 cv1 cv2 cv3 cv4) (eqN cr3 0))) cM ct cv1 cv4 cv3)
set_option maxHeartbeats 4000000 in
set_option maxRecDepth 20000 in
theorem sX2_findHistories_51 {post : MM → Int64 → Prop} {q : Nat → Nat → Bool} (hq : ∀ (M : MM) (tl : Int64) (cM ct : Nat), M = dM cM → tl = i64 ct → q cM ct = true → post M tl) {bk12 : MM → Int64 → Int32 → Int32 → Int32 → Prop} {cbk12 : Nat → Nat → Nat → Nat → Nat → Bool} (hbk12 : ∀ (M : MM) (tl : Int64) (x0 : Int32) (x1 : Int32) (x2 : Int32) (cM ct cx0 cx1 cx2 : Nat), M = dM cM → tl = i64 ct → x0 = nI cx0 → x1 = nI cx1 → x2 = nI cx2 → cbk12 cM ct cx0 cx1 cx2 = true → bk12 M tl x0 x1 x2) {bk20 : MM → Int64 → Int32 → Int32 → Int32 → Int32 → Prop} {cbk20 : Nat → Nat → Nat → Nat → Nat → Nat → Bool} (hbk20 : ∀ (M : MM) (tl : Int64) (x0 : Int32) (x1 : Int32) (x2 : Int32) (x3 : Int32) (cM ct cx0 cx1 cx2 cx3 : Nat), M = dM cM → tl = i64 ct → x0 = nI cx0 → x1 = nI cx1 → x2 = nI cx2 → x3 = nI cx3 → cbk20 cM ct cx0 cx1 cx2 cx3 = true → bk20 M tl x0 x1 x2 x3) {M : MM} {tl : Int64} {v1 : Int32} {v2 : Int32} {v3 : Int32} {v4 : Int32} {cM ct cv1 cv2 cv3 cv4 : Nat} (hM : M = dM cM) (ht : tl = i64 ct) (hv1 : v1 = nI cv1) (hv2 : v2 = nI cv2) (hv3 : v3 = nI cv3) (hv4 : v4 = nI cv4) (h : eX2_findHistories_51 q cbk12 cbk20 cM ct cv1 cv2 cv3 cv4 = true) : wX2_findHistories_51 post bk12 bk20 M tl v1 v2 v3 v4 := by
  unfold wX2_findHistories_51
  refine spX2_fitsSeen (fun r3 M1 t2 cr3 cM1 ct2 hr3 hM1 ht2 h => ?_) hM ht hv1 hv4 hv3 h
  refine e_ite (c_eq hr3 (rfl : (0 : Int32) = nI 0)) h (fun h => ?_) (fun h => ?_)
  · exact sX2_findHistories_68 hq hbk12 hbk20 hM1 ht2 hv1 hv2 hv3 hv4 h
  · refine spX2_note (fun M4 t5 cM4 ct5 hM4 ht5 h => ?_) hM1 ht2 (rfl : (1 : Int32) = nI 1) hv3 h
    exact sX2_findHistories_68 hq hbk12 hbk20 hM4 ht5 hv1 hv2 hv3 hv4 h
noncomputable def eX2_findHistories_74 (q : Nat → Nat → Bool) (cbk12 : Nat → Nat → Nat → Nat → Nat → Bool) (cM ct cv1 cv2 cv3 : Nat) : Bool :=
  (cbk12 cM ct cv1 cv2 (aN cv3 1))
set_option maxHeartbeats 4000000 in
set_option maxRecDepth 20000 in
theorem sX2_findHistories_74 {post : MM → Int64 → Prop} {q : Nat → Nat → Bool} (hq : ∀ (M : MM) (tl : Int64) (cM ct : Nat), M = dM cM → tl = i64 ct → q cM ct = true → post M tl) {bk12 : MM → Int64 → Int32 → Int32 → Int32 → Prop} {cbk12 : Nat → Nat → Nat → Nat → Nat → Bool} (hbk12 : ∀ (M : MM) (tl : Int64) (x0 : Int32) (x1 : Int32) (x2 : Int32) (cM ct cx0 cx1 cx2 : Nat), M = dM cM → tl = i64 ct → x0 = nI cx0 → x1 = nI cx1 → x2 = nI cx2 → cbk12 cM ct cx0 cx1 cx2 = true → bk12 M tl x0 x1 x2) {M : MM} {tl : Int64} {v1 : Int32} {v2 : Int32} {v3 : Int32} {cM ct cv1 cv2 cv3 : Nat} (hM : M = dM cM) (ht : tl = i64 ct) (hv1 : v1 = nI cv1) (hv2 : v2 = nI cv2) (hv3 : v3 = nI cv3) (h : eX2_findHistories_74 q cbk12 cM ct cv1 cv2 cv3 = true) : wX2_findHistories_74 post bk12 M tl v1 v2 v3 := by
  unfold wX2_findHistories_74
  exact hbk12 _ _ _ _ _ _ _ _ _ _ hM ht hv1 hv2 (r_add hv3 (rfl : (1 : Int32) = nI 1)) h
noncomputable def eX2_findHistories_20 (q : Nat → Nat → Bool) (cbk12 : Nat → Nat → Nat → Nat → Nat → Bool) (n : Nat) : Nat → Nat → Nat → Nat → Nat → Nat → Bool :=
  @Nat.rec (fun _ => Nat → Nat → Nat → Nat → Nat → Nat → Bool) (fun _ _ _ _ _ _ => false) (fun _ ih cM ct cv1 cv2 cv3 cv4 => (@Bool.rec (fun _ => Bool) (@Bool.rec (fun _ => Bool) (epX2_fitsSeen (fun cr3 cM1 ct2 => (@Bool.rec (fun _ => Bool) (epX2_note (fun cM4 ct5 => (eX2_findHistories_51 q cbk12 ih cM4 ct5 cv1 cv2 cv3 cv4)) cM1 ct2 0 cv3) (eX2_findHistories_51 q cbk12 ih cM1 ct2 cv1 cv2 cv3 cv4) (eqN cr3 0))) cM ct cv1 cv3 cv4) (eX2_findHistories_74 q cbk12 cM ct cv1 cv2 cv3) (ltN cv2 cv4)) (eX2_findHistories_74 q cbk12 cM ct cv1 cv2 cv3) (ltN (aN cv3 1) cv4))) n
set_option maxHeartbeats 4000000 in
set_option maxRecDepth 20000 in
theorem sX2_findHistories_20 {post : MM → Int64 → Prop} {q : Nat → Nat → Bool} (hq : ∀ (M : MM) (tl : Int64) (cM ct : Nat), M = dM cM → tl = i64 ct → q cM ct = true → post M tl) {bk12 : MM → Int64 → Int32 → Int32 → Int32 → Prop} {cbk12 : Nat → Nat → Nat → Nat → Nat → Bool} (hbk12 : ∀ (M : MM) (tl : Int64) (x0 : Int32) (x1 : Int32) (x2 : Int32) (cM ct cx0 cx1 cx2 : Nat), M = dM cM → tl = i64 ct → x0 = nI cx0 → x1 = nI cx1 → x2 = nI cx2 → cbk12 cM ct cx0 cx1 cx2 = true → bk12 M tl x0 x1 x2) : ∀ (n : Nat) (M : MM) (tl : Int64) (v1 : Int32) (v2 : Int32) (v3 : Int32) (v4 : Int32) (cM ct cv1 cv2 cv3 cv4 : Nat), M = dM cM → tl = i64 ct → v1 = nI cv1 → v2 = nI cv2 → v3 = nI cv3 → v4 = nI cv4 → eX2_findHistories_20 q cbk12 n cM ct cv1 cv2 cv3 cv4 = true → wX2_findHistories_20 post bk12 n M tl v1 v2 v3 v4 := by
  intro n
  induction n with
  | zero => intro M tl v1 v2 v3 v4 cM ct cv1 cv2 cv3 cv4 hM ht hv1 hv2 hv3 hv4 h; exact Bool.noConfusion h
  | succ n ih =>
    intro M tl v1 v2 v3 v4 cM ct cv1 cv2 cv3 cv4 hM ht hv1 hv2 hv3 hv4 h
    unfold wX2_findHistories_20
    refine e_ite (c_lt (r_add hv3 (rfl : (1 : Int32) = nI 1)) hv4) h (fun h => ?_) (fun h => ?_)
    · exact sX2_findHistories_74 hq hbk12 hM ht hv1 hv2 hv3 h
    · refine e_ite (c_lt hv2 hv4) h (fun h => ?_) (fun h => ?_)
      · exact sX2_findHistories_74 hq hbk12 hM ht hv1 hv2 hv3 h
      · refine spX2_fitsSeen (fun r3 M1 t2 cr3 cM1 ct2 hr3 hM1 ht2 h => ?_) hM ht hv1 hv3 hv4 h
        refine e_ite (c_eq hr3 (rfl : (0 : Int32) = nI 0)) h (fun h => ?_) (fun h => ?_)
        · exact sX2_findHistories_51 hq hbk12 ih hM1 ht2 hv1 hv2 hv3 hv4 h
        · refine spX2_note (fun M4 t5 cM4 ct5 hM4 ht5 h => ?_) hM1 ht2 (rfl : (0 : Int32) = nI 0) hv3 h
          exact sX2_findHistories_51 hq hbk12 ih hM4 ht5 hv1 hv2 hv3 hv4 h
noncomputable def eX2_findHistories_12 (q : Nat → Nat → Bool) (n : Nat) : Nat → Nat → Nat → Nat → Nat → Bool :=
  @Nat.rec (fun _ => Nat → Nat → Nat → Nat → Nat → Bool) (fun _ _ _ _ _ => false) (fun _ ih cM ct cv1 cv2 cv3 => (@Bool.rec (fun _ => Bool) (eX2_findHistories_20 q ih 5000 cM ct cv1 cv2 cv3 cv3) (q cM ct) (ltN cv2 cv3))) n
set_option maxHeartbeats 4000000 in
set_option maxRecDepth 20000 in
theorem sX2_findHistories_12 {post : MM → Int64 → Prop} {q : Nat → Nat → Bool} (hq : ∀ (M : MM) (tl : Int64) (cM ct : Nat), M = dM cM → tl = i64 ct → q cM ct = true → post M tl) : ∀ (n : Nat) (M : MM) (tl : Int64) (v1 : Int32) (v2 : Int32) (v3 : Int32) (cM ct cv1 cv2 cv3 : Nat), M = dM cM → tl = i64 ct → v1 = nI cv1 → v2 = nI cv2 → v3 = nI cv3 → eX2_findHistories_12 q  n cM ct cv1 cv2 cv3 = true → wX2_findHistories_12 post  n M tl v1 v2 v3 := by
  intro n
  induction n with
  | zero => intro M tl v1 v2 v3 cM ct cv1 cv2 cv3 hM ht hv1 hv2 hv3 h; exact Bool.noConfusion h
  | succ n ih =>
    intro M tl v1 v2 v3 cM ct cv1 cv2 cv3 hM ht hv1 hv2 hv3 h
    unfold wX2_findHistories_12
    refine e_ite (c_lt hv2 hv3) h (fun h => ?_) (fun h => ?_)
    · exact hq _ _ _ _ hM ht h
    · exact ⟨5000, sX2_findHistories_20 hq ih 5000 _ _ _ _ _ _ _ _ _ _ _ _ hM ht hv1 hv2 hv3 hv3 h⟩
noncomputable def epX2_findHistories (q : Nat → Nat → Bool) (cM ct cv1 cv2 : Nat) : Bool :=
  (wrB (fun cM1 => (wrB (fun cM2 => (eX2_findHistories_12 q  5000 cM2 ct cv1 cv2 0)) cM1 53 3 0)) cM 53 0 0)
set_option maxHeartbeats 4000000 in
set_option maxRecDepth 20000 in
theorem spX2_findHistories {post : MM → Int64 → Prop} {q : Nat → Nat → Bool} (hq : ∀ (M : MM) (tl : Int64) (cM ct : Nat), M = dM cM → tl = i64 ct → q cM ct = true → post M tl) {M : MM} {tl : Int64} {v1 : Int32} {v2 : Int32} {cM ct cv1 cv2 : Nat} (hM : M = dM cM) (ht : tl = i64 ct) (hv1 : v1 = nI cv1) (hv2 : v2 = nI cv2) (h : epX2_findHistories q  cM ct cv1 cv2 = true) : wpX2_findHistories post  M tl v1 v2 := by
  unfold wpX2_findHistories
  refine e_wr h hM (rfl : (53 : Nat) = 53) (rfl : (0 : Nat) = 0) (rfl : (0 : Int32) = nI 0) (fun M1 cM1 hM1 h => ?_)
  refine e_wr h hM1 (rfl : (53 : Nat) = 53) (rfl : (3 : Nat) = 3) (rfl : (0 : Int32) = nI 0) (fun M2 cM2 hM2 h => ?_)
  exact ⟨5000, sX2_findHistories_12 hq  5000 _ _ _ _ _ _ _ _ _ _ hM2 ht hv1 hv2 (rfl : (0 : Int32) = nI 0) h⟩
noncomputable def epX2_onlyBeginner (q : Nat → Nat → Nat → Bool) (cM ct  : Nat) : Bool :=
  (@Bool.rec (fun _ => Bool) (q (sN (rd cM 53 3) 1) cM ct) (q 4294967292 cM ct) (eqN (rd cM 53 3) 3))
set_option maxHeartbeats 4000000 in
set_option maxRecDepth 20000 in
theorem spX2_onlyBeginner {post : Int32 → MM → Int64 → Prop} {q : Nat → Nat → Nat → Bool} (hq : ∀ (r : Int32) (M : MM) (tl : Int64) (cr cM ct : Nat), r = nI cr → M = dM cM → tl = i64 ct → q cr cM ct = true → post r M tl) {M : MM} {tl : Int64} {cM ct  : Nat} (hM : M = dM cM) (ht : tl = i64 ct)  (h : epX2_onlyBeginner q  cM ct  = true) : wpX2_onlyBeginner post  M tl  := by
  unfold wpX2_onlyBeginner
  refine e_ite (c_eq (r_rd hM (rfl : (53 : Nat) = 53) (rfl : (3 : Nat) = 3)) (rfl : (3 : Int32) = nI 3)) h (fun h => ?_) (fun h => ?_)
  · exact hq _ _ _ _ _ _ lm4 hM ht h
  · exact hq _ _ _ _ _ _ (r_sub (r_rd hM (rfl : (53 : Nat) = 53) (rfl : (3 : Nat) = 3)) (rfl : (1 : Int32) = nI 1)) hM ht h
noncomputable def epX3_monthOf (q : Nat → Nat → Nat → Bool) (cM ct cv1 : Nat) : Bool :=
  (@Bool.rec (fun _ => Bool) (@Bool.rec (fun _ => Bool) (@Bool.rec (fun _ => Bool) false (q (rd cM 52 (tN cv1)) cM ct) (inN cv1 (alF 52))) (q 0 cM ct) (leN 6 cv1)) (q 0 cM ct) (ltN cv1 0))
set_option maxHeartbeats 4000000 in
set_option maxRecDepth 20000 in
theorem spX3_monthOf {post : Int32 → MM → Int64 → Prop} {q : Nat → Nat → Nat → Bool} (hq : ∀ (r : Int32) (M : MM) (tl : Int64) (cr cM ct : Nat), r = nI cr → M = dM cM → tl = i64 ct → q cr cM ct = true → post r M tl) {M : MM} {tl : Int64} {v1 : Int32} {cM ct cv1 : Nat} (hM : M = dM cM) (ht : tl = i64 ct) (hv1 : v1 = nI cv1) (h : epX3_monthOf q  cM ct cv1 = true) : wpX3_monthOf post  M tl v1 := by
  unfold wpX3_monthOf
  refine e_ite (c_lt hv1 (rfl : (0 : Int32) = nI 0)) h (fun h => ?_) (fun h => ?_)
  · exact hq _ _ _ _ _ _ (rfl : (0 : Int32) = nI 0) hM ht h
  · refine e_ite (c_le (rfl : (6 : Int32) = nI 6) hv1) h (fun h => ?_) (fun h => ?_)
    · exact hq _ _ _ _ _ _ (rfl : (0 : Int32) = nI 0) hM ht h
    · refine e_and (k_in hv1 (r_al (rfl : (52 : Nat) = 52))) h (fun h => ?_)
      exact hq _ _ _ _ _ _ (r_rd hM (rfl : (52 : Nat) = 52) (r_nat hv1)) hM ht h
noncomputable def epX3_taken (q : Nat → Nat → Nat → Bool) (cM ct cv0 cv1 : Nat) : Bool :=
  (q (Nat.land (b2 f_shr cv0 (mN 2 cv1)) 3) cM ct)
set_option maxHeartbeats 4000000 in
set_option maxRecDepth 20000 in
theorem spX3_taken {post : Int32 → MM → Int64 → Prop} {q : Nat → Nat → Nat → Bool} (hq : ∀ (r : Int32) (M : MM) (tl : Int64) (cr cM ct : Nat), r = nI cr → M = dM cM → tl = i64 ct → q cr cM ct = true → post r M tl) {M : MM} {tl : Int64} {v0 : Int32} {v1 : Int32} {cM ct cv0 cv1 : Nat} (hM : M = dM cM) (ht : tl = i64 ct) (hv0 : v0 = nI cv0) (hv1 : v1 = nI cv1) (h : epX3_taken q  cM ct cv0 cv1 = true) : wpX3_taken post  M tl v0 v1 := by
  unfold wpX3_taken
  exact hq _ _ _ _ _ _ (r_and (r_b2 f_shr hv0 (r_mul (rfl : (2 : Int32) = nI 2) hv1)) (rfl : (3 : Int32) = nI 3)) hM ht h
noncomputable def epX3_withOneMore (q : Nat → Nat → Nat → Bool) (cM ct cv0 cv1 : Nat) : Bool :=
  (q (Nat.land (aN cv0 (b2 f_shl 1 (mN 2 cv1))) 255) cM ct)
set_option maxHeartbeats 4000000 in
set_option maxRecDepth 20000 in
theorem spX3_withOneMore {post : Int32 → MM → Int64 → Prop} {q : Nat → Nat → Nat → Bool} (hq : ∀ (r : Int32) (M : MM) (tl : Int64) (cr cM ct : Nat), r = nI cr → M = dM cM → tl = i64 ct → q cr cM ct = true → post r M tl) {M : MM} {tl : Int64} {v0 : Int32} {v1 : Int32} {cM ct cv0 cv1 : Nat} (hM : M = dM cM) (ht : tl = i64 ct) (hv0 : v0 = nI cv0) (hv1 : v1 = nI cv1) (h : epX3_withOneMore q  cM ct cv0 cv1 = true) : wpX3_withOneMore post  M tl v0 v1 := by
  unfold wpX3_withOneMore
  exact hq _ _ _ _ _ _ (r_and (r_add hv0 (r_b2 f_shl (rfl : (1 : Int32) = nI 1) (r_mul (rfl : (2 : Int32) = nI 2) hv1))) (rfl : (255 : Int32) = nI 255)) hM ht h
noncomputable def epX3_costWith (q : Nat → Nat → Nat → Bool) (cM ct cv1 cv2 cv3 : Nat) : Bool :=
  (@Bool.rec (fun _ => Bool) false (epX3_withOneMore (fun cr4 cM2 ct3 => (@Bool.rec (fun _ => Bool) false (q (aN (mN (rd cM 4 (tN cv2)) cv3) (rd cM2 50 (tN cr4))) cM2 ct3) (inN cr4 (alF 50)))) cM ct cv1 cv2) (inN cv2 (alF 4)))
set_option maxHeartbeats 4000000 in
set_option maxRecDepth 20000 in
theorem spX3_costWith {post : Int32 → MM → Int64 → Prop} {q : Nat → Nat → Nat → Bool} (hq : ∀ (r : Int32) (M : MM) (tl : Int64) (cr cM ct : Nat), r = nI cr → M = dM cM → tl = i64 ct → q cr cM ct = true → post r M tl) {M : MM} {tl : Int64} {v1 : Int32} {v2 : Int32} {v3 : Int32} {cM ct cv1 cv2 cv3 : Nat} (hM : M = dM cM) (ht : tl = i64 ct) (hv1 : v1 = nI cv1) (hv2 : v2 = nI cv2) (hv3 : v3 = nI cv3) (h : epX3_costWith q  cM ct cv1 cv2 cv3 = true) : wpX3_costWith post  M tl v1 v2 v3 := by
  unfold wpX3_costWith
  refine e_and (k_in hv2 (r_al (rfl : (4 : Nat) = 4))) h (fun h => ?_)
  refine spX3_withOneMore (fun r4 M2 t3 cr4 cM2 ct3 hr4 hM2 ht3 h => ?_) hM ht hv1 hv2 h
  refine e_and (k_in hr4 (r_al (rfl : (50 : Nat) = 50))) h (fun h => ?_)
  exact hq _ _ _ _ _ _ (r_add (r_mul (r_rd hM (rfl : (4 : Nat) = 4) (r_nat hv2)) hv3) (r_rd hM2 (rfl : (50 : Nat) = 50) (r_nat hr4))) hM2 ht3 h
noncomputable def eX3_leastFrom_35 (q : Nat → Nat → Nat → Bool) (cbk6 : Nat → Nat → Nat → Nat → Nat → Nat → Bool) (cM ct cv1 cv2 cv3 cv4 : Nat) : Bool :=
  (cbk6 cM ct cv1 cv2 cv3 (aN cv4 1))
set_option maxHeartbeats 4000000 in
set_option maxRecDepth 20000 in
theorem sX3_leastFrom_35 {post : Int32 → MM → Int64 → Prop} {q : Nat → Nat → Nat → Bool} (hq : ∀ (r : Int32) (M : MM) (tl : Int64) (cr cM ct : Nat), r = nI cr → M = dM cM → tl = i64 ct → q cr cM ct = true → post r M tl) {bk6 : MM → Int64 → Int32 → Int32 → Int32 → Int32 → Prop} {cbk6 : Nat → Nat → Nat → Nat → Nat → Nat → Bool} (hbk6 : ∀ (M : MM) (tl : Int64) (x0 : Int32) (x1 : Int32) (x2 : Int32) (x3 : Int32) (cM ct cx0 cx1 cx2 cx3 : Nat), M = dM cM → tl = i64 ct → x0 = nI cx0 → x1 = nI cx1 → x2 = nI cx2 → x3 = nI cx3 → cbk6 cM ct cx0 cx1 cx2 cx3 = true → bk6 M tl x0 x1 x2 x3) {M : MM} {tl : Int64} {v1 : Int32} {v2 : Int32} {v3 : Int32} {v4 : Int32} {cM ct cv1 cv2 cv3 cv4 : Nat} (hM : M = dM cM) (ht : tl = i64 ct) (hv1 : v1 = nI cv1) (hv2 : v2 = nI cv2) (hv3 : v3 = nI cv3) (hv4 : v4 = nI cv4) (h : eX3_leastFrom_35 q cbk6 cM ct cv1 cv2 cv3 cv4 = true) : wX3_leastFrom_35 post bk6 M tl v1 v2 v3 v4 := by
  unfold wX3_leastFrom_35
  exact hbk6 _ _ _ _ _ _ _ _ _ _ _ _ hM ht hv1 hv2 hv3 (r_add hv4 (rfl : (1 : Int32) = nI 1)) h
noncomputable def eX3_leastFrom_6 (q : Nat → Nat → Nat → Bool) (n : Nat) : Nat → Nat → Nat → Nat → Nat → Nat → Bool :=
  @Nat.rec (fun _ => Nat → Nat → Nat → Nat → Nat → Nat → Bool) (fun _ _ _ _ _ _ => false) (fun _ ih cM ct cv1 cv2 cv3 cv4 => (@Bool.rec (fun _ => Bool) (epX3_taken (fun cr3 cM1 ct2 => (@Bool.rec (fun _ => Bool) (epX3_costWith (fun cr6 cM4 ct5 => (eX3_leastFrom_35 q ih cM4 ct5 cv1 cv2 (@Bool.rec (fun _ => Nat) cv3 cr6 (ltN cr6 cv3)) cv4)) cM1 ct2 cv1 cv4 cv2) (eX3_leastFrom_35 q ih cM1 ct2 cv1 cv2 cv3 cv4) (leN 3 cr3))) cM ct cv1 cv4) (q cv3 cM ct) (leN 4 cv4))) n
set_option maxHeartbeats 4000000 in
set_option maxRecDepth 20000 in
theorem sX3_leastFrom_6 {post : Int32 → MM → Int64 → Prop} {q : Nat → Nat → Nat → Bool} (hq : ∀ (r : Int32) (M : MM) (tl : Int64) (cr cM ct : Nat), r = nI cr → M = dM cM → tl = i64 ct → q cr cM ct = true → post r M tl) : ∀ (n : Nat) (M : MM) (tl : Int64) (v1 : Int32) (v2 : Int32) (v3 : Int32) (v4 : Int32) (cM ct cv1 cv2 cv3 cv4 : Nat), M = dM cM → tl = i64 ct → v1 = nI cv1 → v2 = nI cv2 → v3 = nI cv3 → v4 = nI cv4 → eX3_leastFrom_6 q  n cM ct cv1 cv2 cv3 cv4 = true → wX3_leastFrom_6 post  n M tl v1 v2 v3 v4 := by
  intro n
  induction n with
  | zero => intro M tl v1 v2 v3 v4 cM ct cv1 cv2 cv3 cv4 hM ht hv1 hv2 hv3 hv4 h; exact Bool.noConfusion h
  | succ n ih =>
    intro M tl v1 v2 v3 v4 cM ct cv1 cv2 cv3 cv4 hM ht hv1 hv2 hv3 hv4 h
    unfold wX3_leastFrom_6
    refine e_ite (c_le (rfl : (4 : Int32) = nI 4) hv4) h (fun h => ?_) (fun h => ?_)
    · exact hq _ _ _ _ _ _ hv3 hM ht h
    · refine spX3_taken (fun r3 M1 t2 cr3 cM1 ct2 hr3 hM1 ht2 h => ?_) hM ht hv1 hv4 h
      refine e_ite (c_le (rfl : (3 : Int32) = nI 3) hr3) h (fun h => ?_) (fun h => ?_)
      · exact sX3_leastFrom_35 hq ih hM1 ht2 hv1 hv2 hv3 hv4 h
      · refine spX3_costWith (fun r6 M4 t5 cr6 cM4 ct5 hr6 hM4 ht5 h => ?_) hM1 ht2 hv1 hv4 hv2 h
        exact sX3_leastFrom_35 hq ih hM4 ht5 hv1 hv2 (r_ite (c_lt hr6 hv3) hr6 hv3) hv4 h
noncomputable def epX3_leastFrom (q : Nat → Nat → Nat → Bool) (cM ct cv1 cv2 : Nat) : Bool :=
  (eX3_leastFrom_6 q  5000 cM ct cv1 cv2 1000000 0)
set_option maxHeartbeats 4000000 in
set_option maxRecDepth 20000 in
theorem spX3_leastFrom {post : Int32 → MM → Int64 → Prop} {q : Nat → Nat → Nat → Bool} (hq : ∀ (r : Int32) (M : MM) (tl : Int64) (cr cM ct : Nat), r = nI cr → M = dM cM → tl = i64 ct → q cr cM ct = true → post r M tl) {M : MM} {tl : Int64} {v1 : Int32} {v2 : Int32} {cM ct cv1 cv2 : Nat} (hM : M = dM cM) (ht : tl = i64 ct) (hv1 : v1 = nI cv1) (hv2 : v2 = nI cv2) (h : epX3_leastFrom q  cM ct cv1 cv2 = true) : wpX3_leastFrom post  M tl v1 v2 := by
  unfold wpX3_leastFrom
  exact ⟨5000, sX3_leastFrom_6 hq  5000 _ _ _ _ _ _ _ _ _ _ _ _ hM ht hv1 hv2 (rfl : (1000000 : Int32) = nI 1000000) (rfl : (0 : Int32) = nI 0) h⟩
noncomputable def eX3_placeWants_121 (q : Nat → Nat → Bool) (cbk5 : Nat → Nat → Nat → Nat → Nat → Nat → Bool) (cbk26 : Nat → Nat → Nat → Nat → Nat → Nat → Nat → Nat → Bool) (cM ct cv1 cv2 cv3 cv4 cv5 cv6 : Nat) : Bool :=
  (cbk26 cM ct cv1 cv2 cv3 cv4 cv5 (aN cv6 1))
set_option maxHeartbeats 4000000 in
set_option maxRecDepth 20000 in
theorem sX3_placeWants_121 {post : MM → Int64 → Prop} {q : Nat → Nat → Bool} (hq : ∀ (M : MM) (tl : Int64) (cM ct : Nat), M = dM cM → tl = i64 ct → q cM ct = true → post M tl) {bk5 : MM → Int64 → Int32 → Int32 → Int32 → Int32 → Prop} {cbk5 : Nat → Nat → Nat → Nat → Nat → Nat → Bool} (hbk5 : ∀ (M : MM) (tl : Int64) (x0 : Int32) (x1 : Int32) (x2 : Int32) (x3 : Int32) (cM ct cx0 cx1 cx2 cx3 : Nat), M = dM cM → tl = i64 ct → x0 = nI cx0 → x1 = nI cx1 → x2 = nI cx2 → x3 = nI cx3 → cbk5 cM ct cx0 cx1 cx2 cx3 = true → bk5 M tl x0 x1 x2 x3) {bk26 : MM → Int64 → Int32 → Int32 → Int32 → Int32 → Int32 → Int32 → Prop} {cbk26 : Nat → Nat → Nat → Nat → Nat → Nat → Nat → Nat → Bool} (hbk26 : ∀ (M : MM) (tl : Int64) (x0 : Int32) (x1 : Int32) (x2 : Int32) (x3 : Int32) (x4 : Int32) (x5 : Int32) (cM ct cx0 cx1 cx2 cx3 cx4 cx5 : Nat), M = dM cM → tl = i64 ct → x0 = nI cx0 → x1 = nI cx1 → x2 = nI cx2 → x3 = nI cx3 → x4 = nI cx4 → x5 = nI cx5 → cbk26 cM ct cx0 cx1 cx2 cx3 cx4 cx5 = true → bk26 M tl x0 x1 x2 x3 x4 x5) {M : MM} {tl : Int64} {v1 : Int32} {v2 : Int32} {v3 : Int32} {v4 : Int32} {v5 : Int32} {v6 : Int32} {cM ct cv1 cv2 cv3 cv4 cv5 cv6 : Nat} (hM : M = dM cM) (ht : tl = i64 ct) (hv1 : v1 = nI cv1) (hv2 : v2 = nI cv2) (hv3 : v3 = nI cv3) (hv4 : v4 = nI cv4) (hv5 : v5 = nI cv5) (hv6 : v6 = nI cv6) (h : eX3_placeWants_121 q cbk5 cbk26 cM ct cv1 cv2 cv3 cv4 cv5 cv6 = true) : wX3_placeWants_121 post bk5 bk26 M tl v1 v2 v3 v4 v5 v6 := by
  unfold wX3_placeWants_121
  exact hbk26 _ _ _ _ _ _ _ _ _ _ _ _ _ _ _ _ hM ht hv1 hv2 hv3 hv4 hv5 (r_add hv6 (rfl : (1 : Int32) = nI 1)) h
noncomputable def eX3_placeWants_66 (q : Nat → Nat → Bool) (cbk5 : Nat → Nat → Nat → Nat → Nat → Nat → Bool) (cbk26 : Nat → Nat → Nat → Nat → Nat → Nat → Nat → Nat → Bool) (cM ct cv1 cv2 cv3 cv4 cv5 cv6 cv7 cs0 : Nat) : Bool :=
  (@Bool.rec (fun _ => Bool) (@Bool.rec (fun _ => Bool) false (@Bool.rec (fun _ => Bool) (@Bool.rec (fun _ => Bool) false (epX3_costWith (fun cr5 cM3 ct4 => (@Bool.rec (fun _ => Bool) false (@Bool.rec (fun _ => Bool) (eX3_placeWants_121 q cbk5 cbk26 cM3 ct4 cv1 cv2 cv3 cv4 cv5 cv6) (@Bool.rec (fun _ => Bool) false (wrB (fun cM8 => (eX3_placeWants_121 q cbk5 cbk26 cM8 ct4 cv1 cv2 cv3 cv4 cv6 cv6)) cM3 52 (tN cv4) cv7) (inN cv4 (alF 52))) (eqN cr5 (rd cM3 50 (tN cv3)))) (inN cv3 (alF 50)))) cM ct cv3 cv6 (rd cM 51 (tN cv4))) (inN cv4 (alF 51))) (eX3_placeWants_121 q cbk5 cbk26 cM ct cv1 cv2 cv3 cv4 cv5 cv6) (leN (rd cM 52 (tN cv4)) cv7)) (inN cv4 (alF 52))) (eX3_placeWants_121 q cbk5 cbk26 cM ct cv1 cv2 cv3 cv4 cv5 cv6) (eqN cs0 0))
set_option maxHeartbeats 4000000 in
set_option maxRecDepth 20000 in
theorem sX3_placeWants_66 {post : MM → Int64 → Prop} {q : Nat → Nat → Bool} (hq : ∀ (M : MM) (tl : Int64) (cM ct : Nat), M = dM cM → tl = i64 ct → q cM ct = true → post M tl) {bk5 : MM → Int64 → Int32 → Int32 → Int32 → Int32 → Prop} {cbk5 : Nat → Nat → Nat → Nat → Nat → Nat → Bool} (hbk5 : ∀ (M : MM) (tl : Int64) (x0 : Int32) (x1 : Int32) (x2 : Int32) (x3 : Int32) (cM ct cx0 cx1 cx2 cx3 : Nat), M = dM cM → tl = i64 ct → x0 = nI cx0 → x1 = nI cx1 → x2 = nI cx2 → x3 = nI cx3 → cbk5 cM ct cx0 cx1 cx2 cx3 = true → bk5 M tl x0 x1 x2 x3) {bk26 : MM → Int64 → Int32 → Int32 → Int32 → Int32 → Int32 → Int32 → Prop} {cbk26 : Nat → Nat → Nat → Nat → Nat → Nat → Nat → Nat → Bool} (hbk26 : ∀ (M : MM) (tl : Int64) (x0 : Int32) (x1 : Int32) (x2 : Int32) (x3 : Int32) (x4 : Int32) (x5 : Int32) (cM ct cx0 cx1 cx2 cx3 cx4 cx5 : Nat), M = dM cM → tl = i64 ct → x0 = nI cx0 → x1 = nI cx1 → x2 = nI cx2 → x3 = nI cx3 → x4 = nI cx4 → x5 = nI cx5 → cbk26 cM ct cx0 cx1 cx2 cx3 cx4 cx5 = true → bk26 M tl x0 x1 x2 x3 x4 x5) {M : MM} {tl : Int64} {v1 : Int32} {v2 : Int32} {v3 : Int32} {v4 : Int32} {v5 : Int32} {v6 : Int32} {v7 : Int32} {s0 : Int32} {cM ct cv1 cv2 cv3 cv4 cv5 cv6 cv7 cs0 : Nat} (hM : M = dM cM) (ht : tl = i64 ct) (hv1 : v1 = nI cv1) (hv2 : v2 = nI cv2) (hv3 : v3 = nI cv3) (hv4 : v4 = nI cv4) (hv5 : v5 = nI cv5) (hv6 : v6 = nI cv6) (hv7 : v7 = nI cv7) (hs0 : s0 = nI cs0) (h : eX3_placeWants_66 q cbk5 cbk26 cM ct cv1 cv2 cv3 cv4 cv5 cv6 cv7 cs0 = true) : wX3_placeWants_66 post bk5 bk26 M tl v1 v2 v3 v4 v5 v6 v7 s0 := by
  unfold wX3_placeWants_66
  refine e_ite (c_eq hs0 (rfl : (0 : Int32) = nI 0)) h (fun h => ?_) (fun h => ?_)
  · exact sX3_placeWants_121 hq hbk5 hbk26 hM ht hv1 hv2 hv3 hv4 hv5 hv6 h
  · refine e_and (k_in hv4 (r_al (rfl : (52 : Nat) = 52))) h (fun h => ?_)
    refine e_ite (c_le (r_rd hM (rfl : (52 : Nat) = 52) (r_nat hv4)) hv7) h (fun h => ?_) (fun h => ?_)
    · exact sX3_placeWants_121 hq hbk5 hbk26 hM ht hv1 hv2 hv3 hv4 hv5 hv6 h
    · refine e_and (k_in hv4 (r_al (rfl : (51 : Nat) = 51))) h (fun h => ?_)
      refine spX3_costWith (fun r5 M3 t4 cr5 cM3 ct4 hr5 hM3 ht4 h => ?_) hM ht hv3 hv6 (r_rd hM (rfl : (51 : Nat) = 51) (r_nat hv4)) h
      refine e_and (k_in hv3 (r_al (rfl : (50 : Nat) = 50))) h (fun h => ?_)
      refine e_ite (c_eq hr5 (r_rd hM3 (rfl : (50 : Nat) = 50) (r_nat hv3))) h (fun h => ?_) (fun h => ?_)
      · refine e_and (k_in hv4 (r_al (rfl : (52 : Nat) = 52))) h (fun h => ?_)
        refine e_wr h hM3 (rfl : (52 : Nat) = 52) (r_nat hv4) hv7 (fun M8 cM8 hM8 h => ?_)
        exact sX3_placeWants_121 hq hbk5 hbk26 hM8 ht4 hv1 hv2 hv3 hv4 hv6 hv6 h
      · exact sX3_placeWants_121 hq hbk5 hbk26 hM3 ht4 hv1 hv2 hv3 hv4 hv5 hv6 h
noncomputable def eX3_placeWants_26 (q : Nat → Nat → Bool) (cbk5 : Nat → Nat → Nat → Nat → Nat → Nat → Bool) (n : Nat) : Nat → Nat → Nat → Nat → Nat → Nat → Nat → Nat → Bool :=
  @Nat.rec (fun _ => Nat → Nat → Nat → Nat → Nat → Nat → Nat → Nat → Bool) (fun _ _ _ _ _ _ _ _ => false) (fun _ ih cM ct cv1 cv2 cv3 cv4 cv5 cv6 => (@Bool.rec (fun _ => Bool) (epX3_taken (fun cr6 cM4 ct5 => (epX3_taken (fun cr9 cM7 ct8 => (@Bool.rec (fun _ => Bool) (eX3_placeWants_66 q cbk5 ih cM7 ct8 cv1 cv2 cv3 cv4 cv5 cv6 (aN (aN cv1 (Nat.land (sN cv6 cv1) 3)) (mN 4 cr6)) 1) (eX3_placeWants_66 q cbk5 ih cM7 ct8 cv1 cv2 cv3 cv4 cv5 cv6 (aN (aN cv1 (Nat.land (sN cv6 cv1) 3)) (mN 4 cr6)) 0) (leN 3 cr9))) cM4 ct5 cv3 cv6)) cM ct cv3 cv6) (epX3_withOneMore (fun cr3 cM1 ct2 => (cbk5 cM1 ct2 cv1 cv2 cr3 (aN cv4 1))) cM ct cv3 cv5) (leN 4 cv6))) n
set_option maxHeartbeats 4000000 in
set_option maxRecDepth 20000 in
theorem sX3_placeWants_26 {post : MM → Int64 → Prop} {q : Nat → Nat → Bool} (hq : ∀ (M : MM) (tl : Int64) (cM ct : Nat), M = dM cM → tl = i64 ct → q cM ct = true → post M tl) {bk5 : MM → Int64 → Int32 → Int32 → Int32 → Int32 → Prop} {cbk5 : Nat → Nat → Nat → Nat → Nat → Nat → Bool} (hbk5 : ∀ (M : MM) (tl : Int64) (x0 : Int32) (x1 : Int32) (x2 : Int32) (x3 : Int32) (cM ct cx0 cx1 cx2 cx3 : Nat), M = dM cM → tl = i64 ct → x0 = nI cx0 → x1 = nI cx1 → x2 = nI cx2 → x3 = nI cx3 → cbk5 cM ct cx0 cx1 cx2 cx3 = true → bk5 M tl x0 x1 x2 x3) : ∀ (n : Nat) (M : MM) (tl : Int64) (v1 : Int32) (v2 : Int32) (v3 : Int32) (v4 : Int32) (v5 : Int32) (v6 : Int32) (cM ct cv1 cv2 cv3 cv4 cv5 cv6 : Nat), M = dM cM → tl = i64 ct → v1 = nI cv1 → v2 = nI cv2 → v3 = nI cv3 → v4 = nI cv4 → v5 = nI cv5 → v6 = nI cv6 → eX3_placeWants_26 q cbk5 n cM ct cv1 cv2 cv3 cv4 cv5 cv6 = true → wX3_placeWants_26 post bk5 n M tl v1 v2 v3 v4 v5 v6 := by
  intro n
  induction n with
  | zero => intro M tl v1 v2 v3 v4 v5 v6 cM ct cv1 cv2 cv3 cv4 cv5 cv6 hM ht hv1 hv2 hv3 hv4 hv5 hv6 h; exact Bool.noConfusion h
  | succ n ih =>
    intro M tl v1 v2 v3 v4 v5 v6 cM ct cv1 cv2 cv3 cv4 cv5 cv6 hM ht hv1 hv2 hv3 hv4 hv5 hv6 h
    unfold wX3_placeWants_26
    refine e_ite (c_le (rfl : (4 : Int32) = nI 4) hv6) h (fun h => ?_) (fun h => ?_)
    · refine spX3_withOneMore (fun r3 M1 t2 cr3 cM1 ct2 hr3 hM1 ht2 h => ?_) hM ht hv3 hv5 h
      exact hbk5 _ _ _ _ _ _ _ _ _ _ _ _ hM1 ht2 hv1 hv2 hr3 (r_add hv4 (rfl : (1 : Int32) = nI 1)) h
    · refine spX3_taken (fun r6 M4 t5 cr6 cM4 ct5 hr6 hM4 ht5 h => ?_) hM ht hv3 hv6 h
      refine spX3_taken (fun r9 M7 t8 cr9 cM7 ct8 hr9 hM7 ht8 h => ?_) hM4 ht5 hv3 hv6 h
      refine e_ite (c_le (rfl : (3 : Int32) = nI 3) hr9) h (fun h => ?_) (fun h => ?_)
      · exact sX3_placeWants_66 hq hbk5 ih hM7 ht8 hv1 hv2 hv3 hv4 hv5 hv6 (r_add (r_add hv1 (r_and (r_sub hv6 hv1) (rfl : (3 : Int32) = nI 3))) (r_mul (rfl : (4 : Int32) = nI 4) hr6)) (rfl : (0 : Int32) = nI 0) h
      · exact sX3_placeWants_66 hq hbk5 ih hM7 ht8 hv1 hv2 hv3 hv4 hv5 hv6 (r_add (r_add hv1 (r_and (r_sub hv6 hv1) (rfl : (3 : Int32) = nI 3))) (r_mul (rfl : (4 : Int32) = nI 4) hr6)) (rfl : (1 : Int32) = nI 1) h
noncomputable def eX3_placeWants_5 (q : Nat → Nat → Bool) (n : Nat) : Nat → Nat → Nat → Nat → Nat → Nat → Bool :=
  @Nat.rec (fun _ => Nat → Nat → Nat → Nat → Nat → Nat → Bool) (fun _ _ _ _ _ _ => false) (fun _ ih cM ct cv1 cv2 cv3 cv4 => (@Bool.rec (fun _ => Bool) (@Bool.rec (fun _ => Bool) false (wrB (fun cM2 => (eX3_placeWants_26 q ih 5000 cM2 ct cv1 cv2 cv3 cv4 0 0)) cM 52 (tN cv4) 1000000) (inN cv4 (alF 52))) (q cM ct) (leN cv2 cv4))) n
set_option maxHeartbeats 4000000 in
set_option maxRecDepth 20000 in
theorem sX3_placeWants_5 {post : MM → Int64 → Prop} {q : Nat → Nat → Bool} (hq : ∀ (M : MM) (tl : Int64) (cM ct : Nat), M = dM cM → tl = i64 ct → q cM ct = true → post M tl) : ∀ (n : Nat) (M : MM) (tl : Int64) (v1 : Int32) (v2 : Int32) (v3 : Int32) (v4 : Int32) (cM ct cv1 cv2 cv3 cv4 : Nat), M = dM cM → tl = i64 ct → v1 = nI cv1 → v2 = nI cv2 → v3 = nI cv3 → v4 = nI cv4 → eX3_placeWants_5 q  n cM ct cv1 cv2 cv3 cv4 = true → wX3_placeWants_5 post  n M tl v1 v2 v3 v4 := by
  intro n
  induction n with
  | zero => intro M tl v1 v2 v3 v4 cM ct cv1 cv2 cv3 cv4 hM ht hv1 hv2 hv3 hv4 h; exact Bool.noConfusion h
  | succ n ih =>
    intro M tl v1 v2 v3 v4 cM ct cv1 cv2 cv3 cv4 hM ht hv1 hv2 hv3 hv4 h
    unfold wX3_placeWants_5
    refine e_ite (c_le hv2 hv4) h (fun h => ?_) (fun h => ?_)
    · exact hq _ _ _ _ hM ht h
    · refine e_and (k_in hv4 (r_al (rfl : (52 : Nat) = 52))) h (fun h => ?_)
      refine e_wr h hM (rfl : (52 : Nat) = 52) (r_nat hv4) (rfl : (1000000 : Int32) = nI 1000000) (fun M2 cM2 hM2 h => ?_)
      exact ⟨5000, sX3_placeWants_26 hq ih 5000 _ _ _ _ _ _ _ _ _ _ _ _ _ _ _ _ hM2 ht hv1 hv2 hv3 hv4 (rfl : (0 : Int32) = nI 0) (rfl : (0 : Int32) = nI 0) h⟩
noncomputable def epX3_placeWants (q : Nat → Nat → Bool) (cM ct cv1 cv2 : Nat) : Bool :=
  (eX3_placeWants_5 q  5000 cM ct cv1 cv2 0 0)
set_option maxHeartbeats 4000000 in
set_option maxRecDepth 20000 in
theorem spX3_placeWants {post : MM → Int64 → Prop} {q : Nat → Nat → Bool} (hq : ∀ (M : MM) (tl : Int64) (cM ct : Nat), M = dM cM → tl = i64 ct → q cM ct = true → post M tl) {M : MM} {tl : Int64} {v1 : Int32} {v2 : Int32} {cM ct cv1 cv2 : Nat} (hM : M = dM cM) (ht : tl = i64 ct) (hv1 : v1 = nI cv1) (hv2 : v2 = nI cv2) (h : epX3_placeWants q  cM ct cv1 cv2 = true) : wpX3_placeWants post  M tl v1 v2 := by
  unfold wpX3_placeWants
  exact ⟨5000, sX3_placeWants_5 hq  5000 _ _ _ _ _ _ _ _ _ _ _ _ hM ht hv1 hv2 (rfl : (0 : Int32) = nI 0) (rfl : (0 : Int32) = nI 0) h⟩
noncomputable def eX3_findPlan_137 (q : Nat → Nat → Nat → Bool) (cbk81 : Nat → Nat → Nat → Nat → Nat → Bool) (cM ct cv1 cv2 cv3 cs1 cs2 : Nat) : Bool :=
  (@Bool.rec (fun _ => Bool) false (wrB (fun cM2 => (cbk81 cM2 ct cv1 cv2 (aN cv3 4294967295))) cM 50 (tN cs1) cs2) (inN cs1 (alF 50)))
set_option maxHeartbeats 4000000 in
set_option maxRecDepth 20000 in
theorem sX3_findPlan_137 {post : Int32 → MM → Int64 → Prop} {q : Nat → Nat → Nat → Bool} (hq : ∀ (r : Int32) (M : MM) (tl : Int64) (cr cM ct : Nat), r = nI cr → M = dM cM → tl = i64 ct → q cr cM ct = true → post r M tl) {bk81 : MM → Int64 → Int32 → Int32 → Int32 → Prop} {cbk81 : Nat → Nat → Nat → Nat → Nat → Bool} (hbk81 : ∀ (M : MM) (tl : Int64) (x0 : Int32) (x1 : Int32) (x2 : Int32) (cM ct cx0 cx1 cx2 : Nat), M = dM cM → tl = i64 ct → x0 = nI cx0 → x1 = nI cx1 → x2 = nI cx2 → cbk81 cM ct cx0 cx1 cx2 = true → bk81 M tl x0 x1 x2) {M : MM} {tl : Int64} {v1 : Int32} {v2 : Int32} {v3 : Int32} {s1 : Int32} {s2 : Int32} {cM ct cv1 cv2 cv3 cs1 cs2 : Nat} (hM : M = dM cM) (ht : tl = i64 ct) (hv1 : v1 = nI cv1) (hv2 : v2 = nI cv2) (hv3 : v3 = nI cv3) (hs1 : s1 = nI cs1) (hs2 : s2 = nI cs2) (h : eX3_findPlan_137 q cbk81 cM ct cv1 cv2 cv3 cs1 cs2 = true) : wX3_findPlan_137 post bk81 M tl v1 v2 v3 s1 s2 := by
  unfold wX3_findPlan_137
  refine e_and (k_in hs1 (r_al (rfl : (50 : Nat) = 50))) h (fun h => ?_)
  refine e_wr h hM (rfl : (50 : Nat) = 50) (r_nat hs1) hs2 (fun M2 cM2 hM2 h => ?_)
  exact hbk81 _ _ _ _ _ _ _ _ _ _ hM2 ht hv1 hv2 (r_add hv3 lm1) h
noncomputable def eX3_findPlan_81 (q : Nat → Nat → Nat → Bool) (n : Nat) : Nat → Nat → Nat → Nat → Nat → Bool :=
  @Nat.rec (fun _ => Nat → Nat → Nat → Nat → Nat → Bool) (fun _ _ _ _ _ => false) (fun _ ih cM ct cv1 cv2 cv3 => (@Bool.rec (fun _ => Bool) (epX3_taken (fun cr6 cM4 ct5 => (epX3_taken (fun cr9 cM7 ct8 => (epX3_taken (fun cr12 cM10 ct11 => (epX3_taken (fun cr15 cM13 ct14 => (@Bool.rec (fun _ => Bool) (@Bool.rec (fun _ => Bool) false (epX3_leastFrom (fun cr19 cM17 ct18 => (eX3_findPlan_137 q ih cM17 ct18 cv1 cv2 cv3 cv3 cr19)) cM13 ct14 cv3 (rd cM13 51 (tN (aN (aN (aN cr6 cr9) cr12) cr15)))) (inN (aN (aN (aN cr6 cr9) cr12) cr15) (alF 51))) (eX3_findPlan_137 q ih cM13 ct14 cv1 cv2 cv3 cv3 0) (leN cv2 (aN (aN (aN cr6 cr9) cr12) cr15)))) cM10 ct11 cv3 3)) cM7 ct8 cv3 2)) cM4 ct5 cv3 1)) cM ct cv3 0) (epX3_placeWants (fun cM1 ct2 => (@Bool.rec (fun _ => Bool) false (q (rd cM1 50 (tN 0)) cM1 ct2) (inN 0 (alF 50)))) cM ct cv1 cv2) (ltN cv3 0))) n
set_option maxHeartbeats 4000000 in
set_option maxRecDepth 20000 in
theorem sX3_findPlan_81 {post : Int32 → MM → Int64 → Prop} {q : Nat → Nat → Nat → Bool} (hq : ∀ (r : Int32) (M : MM) (tl : Int64) (cr cM ct : Nat), r = nI cr → M = dM cM → tl = i64 ct → q cr cM ct = true → post r M tl) : ∀ (n : Nat) (M : MM) (tl : Int64) (v1 : Int32) (v2 : Int32) (v3 : Int32) (cM ct cv1 cv2 cv3 : Nat), M = dM cM → tl = i64 ct → v1 = nI cv1 → v2 = nI cv2 → v3 = nI cv3 → eX3_findPlan_81 q  n cM ct cv1 cv2 cv3 = true → wX3_findPlan_81 post  n M tl v1 v2 v3 := by
  intro n
  induction n with
  | zero => intro M tl v1 v2 v3 cM ct cv1 cv2 cv3 hM ht hv1 hv2 hv3 h; exact Bool.noConfusion h
  | succ n ih =>
    intro M tl v1 v2 v3 cM ct cv1 cv2 cv3 hM ht hv1 hv2 hv3 h
    unfold wX3_findPlan_81
    refine e_ite (c_lt hv3 (rfl : (0 : Int32) = nI 0)) h (fun h => ?_) (fun h => ?_)
    · refine spX3_placeWants (fun M1 t2 cM1 ct2 hM1 ht2 h => ?_) hM ht hv1 hv2 h
      refine e_and (k_in (rfl : (0 : Int32) = nI 0) (r_al (rfl : (50 : Nat) = 50))) h (fun h => ?_)
      exact hq _ _ _ _ _ _ (r_rd hM1 (rfl : (50 : Nat) = 50) (r_nat (rfl : (0 : Int32) = nI 0))) hM1 ht2 h
    · refine spX3_taken (fun r6 M4 t5 cr6 cM4 ct5 hr6 hM4 ht5 h => ?_) hM ht hv3 (rfl : (0 : Int32) = nI 0) h
      refine spX3_taken (fun r9 M7 t8 cr9 cM7 ct8 hr9 hM7 ht8 h => ?_) hM4 ht5 hv3 (rfl : (1 : Int32) = nI 1) h
      refine spX3_taken (fun r12 M10 t11 cr12 cM10 ct11 hr12 hM10 ht11 h => ?_) hM7 ht8 hv3 (rfl : (2 : Int32) = nI 2) h
      refine spX3_taken (fun r15 M13 t14 cr15 cM13 ct14 hr15 hM13 ht14 h => ?_) hM10 ht11 hv3 (rfl : (3 : Int32) = nI 3) h
      refine e_ite (c_le hv2 (r_add (r_add (r_add hr6 hr9) hr12) hr15)) h (fun h => ?_) (fun h => ?_)
      · exact sX3_findPlan_137 hq ih hM13 ht14 hv1 hv2 hv3 hv3 (rfl : (0 : Int32) = nI 0) h
      · refine e_and (k_in (r_add (r_add (r_add hr6 hr9) hr12) hr15) (r_al (rfl : (51 : Nat) = 51))) h (fun h => ?_)
        refine spX3_leastFrom (fun r19 M17 t18 cr19 cM17 ct18 hr19 hM17 ht18 h => ?_) hM13 ht14 hv3 (r_rd hM13 (rfl : (51 : Nat) = 51) (r_nat (r_add (r_add (r_add hr6 hr9) hr12) hr15))) h
        exact sX3_findPlan_137 hq ih hM17 ht18 hv1 hv2 hv3 hv3 hr19 h
noncomputable def eX3_findPlan_18 (q : Nat → Nat → Nat → Bool) (n : Nat) : Nat → Nat → Nat → Nat → Nat → Bool :=
  @Nat.rec (fun _ => Nat → Nat → Nat → Nat → Nat → Bool) (fun _ _ _ _ _ => false) (fun _ ih cM ct cv1 cv2 cv3 => (@Bool.rec (fun _ => Bool) (epX5_cell (fun cr3 cM1 ct2 => (epX1_costOf (fun cr6 cM4 ct5 => (epX1_twinOf (fun cr9 cM7 ct8 => (epX1_costOf (fun cr12 cM10 ct11 => (@Bool.rec (fun _ => Bool) false (wrB (fun cM14 => (ih cM14 ct11 cv1 cv2 (aN cv3 1))) cM10 51 (tN cv3) (aN cr6 cr12)) (inN cv3 (alF 51)))) cM7 ct8 3 1 cr9)) cM4 ct5 3 cr3)) cM1 ct2 3 0 cr3)) cM ct 18 cv3 1) (eX3_findPlan_81 q  5000 cM ct cv1 cv2 255) (leN cv2 cv3))) n
set_option maxHeartbeats 4000000 in
set_option maxRecDepth 20000 in
theorem sX3_findPlan_18 {post : Int32 → MM → Int64 → Prop} {q : Nat → Nat → Nat → Bool} (hq : ∀ (r : Int32) (M : MM) (tl : Int64) (cr cM ct : Nat), r = nI cr → M = dM cM → tl = i64 ct → q cr cM ct = true → post r M tl) : ∀ (n : Nat) (M : MM) (tl : Int64) (v1 : Int32) (v2 : Int32) (v3 : Int32) (cM ct cv1 cv2 cv3 : Nat), M = dM cM → tl = i64 ct → v1 = nI cv1 → v2 = nI cv2 → v3 = nI cv3 → eX3_findPlan_18 q  n cM ct cv1 cv2 cv3 = true → wX3_findPlan_18 post  n M tl v1 v2 v3 := by
  intro n
  induction n with
  | zero => intro M tl v1 v2 v3 cM ct cv1 cv2 cv3 hM ht hv1 hv2 hv3 h; exact Bool.noConfusion h
  | succ n ih =>
    intro M tl v1 v2 v3 cM ct cv1 cv2 cv3 hM ht hv1 hv2 hv3 h
    unfold wX3_findPlan_18
    refine e_ite (c_le hv2 hv3) h (fun h => ?_) (fun h => ?_)
    · exact ⟨5000, sX3_findPlan_81 hq  5000 _ _ _ _ _ _ _ _ _ _ hM ht hv1 hv2 (rfl : (255 : Int32) = nI 255) h⟩
    · refine spX5_cell (fun r3 M1 t2 cr3 cM1 ct2 hr3 hM1 ht2 h => ?_) hM ht (rfl : (18 : Nat) = 18) hv3 (rfl : (1 : Int32) = nI 1) h
      refine spX1_costOf (fun r6 M4 t5 cr6 cM4 ct5 hr6 hM4 ht5 h => ?_) hM1 ht2 (rfl : (3 : Nat) = 3) (rfl : (0 : Int32) = nI 0) hr3 h
      refine spX1_twinOf (fun r9 M7 t8 cr9 cM7 ct8 hr9 hM7 ht8 h => ?_) hM4 ht5 (rfl : (3 : Nat) = 3) hr3 h
      refine spX1_costOf (fun r12 M10 t11 cr12 cM10 ct11 hr12 hM10 ht11 h => ?_) hM7 ht8 (rfl : (3 : Nat) = 3) (rfl : (1 : Int32) = nI 1) hr9 h
      refine e_and (k_in hv3 (r_al (rfl : (51 : Nat) = 51))) h (fun h => ?_)
      refine e_wr h hM10 (rfl : (51 : Nat) = 51) (r_nat hv3) (r_add hr6 hr12) (fun M14 cM14 hM14 h => ?_)
      exact ih _ _ _ _ _ _ _ _ _ _ hM14 ht11 hv1 hv2 (r_add hv3 (rfl : (1 : Int32) = nI 1)) h
noncomputable def epX3_findPlan (q : Nat → Nat → Nat → Bool) (cM ct cv1 : Nat) : Bool :=
  (eX3_findPlan_18 q  5000 cM ct cv1 (@Bool.rec (fun _ => Nat) (rd cM 18 3) 6 (ltN 6 (rd cM 18 3))) 0)
set_option maxHeartbeats 4000000 in
set_option maxRecDepth 20000 in
theorem spX3_findPlan {post : Int32 → MM → Int64 → Prop} {q : Nat → Nat → Nat → Bool} (hq : ∀ (r : Int32) (M : MM) (tl : Int64) (cr cM ct : Nat), r = nI cr → M = dM cM → tl = i64 ct → q cr cM ct = true → post r M tl) {M : MM} {tl : Int64} {v1 : Int32} {cM ct cv1 : Nat} (hM : M = dM cM) (ht : tl = i64 ct) (hv1 : v1 = nI cv1) (h : epX3_findPlan q  cM ct cv1 = true) : wpX3_findPlan post  M tl v1 := by
  unfold wpX3_findPlan
  exact ⟨5000, sX3_findPlan_18 hq  5000 _ _ _ _ _ _ _ _ _ _ hM ht hv1 (r_ite (c_lt (rfl : (6 : Int32) = nI 6) (r_rd hM (rfl : (18 : Nat) = 18) (rfl : (3 : Nat) = 3))) (rfl : (6 : Int32) = nI 6) (r_rd hM (rfl : (18 : Nat) = 18) (rfl : (3 : Nat) = 3))) (rfl : (0 : Int32) = nI 0) h⟩
noncomputable def eX3_kindsBarred_68 (q : Nat → Nat → Nat → Bool) (cbk4 : Nat → Nat → Nat → Nat → Bool) (cM ct cv1 cv2 : Nat) : Bool :=
  (cbk4 cM ct cv1 (aN cv2 1))
set_option maxHeartbeats 4000000 in
set_option maxRecDepth 20000 in
theorem sX3_kindsBarred_68 {post : Int32 → MM → Int64 → Prop} {q : Nat → Nat → Nat → Bool} (hq : ∀ (r : Int32) (M : MM) (tl : Int64) (cr cM ct : Nat), r = nI cr → M = dM cM → tl = i64 ct → q cr cM ct = true → post r M tl) {bk4 : MM → Int64 → Int32 → Int32 → Prop} {cbk4 : Nat → Nat → Nat → Nat → Bool} (hbk4 : ∀ (M : MM) (tl : Int64) (x0 : Int32) (x1 : Int32) (cM ct cx0 cx1 : Nat), M = dM cM → tl = i64 ct → x0 = nI cx0 → x1 = nI cx1 → cbk4 cM ct cx0 cx1 = true → bk4 M tl x0 x1) {M : MM} {tl : Int64} {v1 : Int32} {v2 : Int32} {cM ct cv1 cv2 : Nat} (hM : M = dM cM) (ht : tl = i64 ct) (hv1 : v1 = nI cv1) (hv2 : v2 = nI cv2) (h : eX3_kindsBarred_68 q cbk4 cM ct cv1 cv2 = true) : wX3_kindsBarred_68 post bk4 M tl v1 v2 := by
  unfold wX3_kindsBarred_68
  exact hbk4 _ _ _ _ _ _ _ _ hM ht hv1 (r_add hv2 (rfl : (1 : Int32) = nI 1)) h
noncomputable def eX3_kindsBarred_62 (q : Nat → Nat → Nat → Bool) (cbk4 : Nat → Nat → Nat → Nat → Bool) (cM ct cv1 cv2 cv3 : Nat) : Bool :=
  (eX3_kindsBarred_68 q cbk4 cM ct (Nat.lor cv1 (b2 f_shl 1 cv3)) cv2)
set_option maxHeartbeats 4000000 in
set_option maxRecDepth 20000 in
theorem sX3_kindsBarred_62 {post : Int32 → MM → Int64 → Prop} {q : Nat → Nat → Nat → Bool} (hq : ∀ (r : Int32) (M : MM) (tl : Int64) (cr cM ct : Nat), r = nI cr → M = dM cM → tl = i64 ct → q cr cM ct = true → post r M tl) {bk4 : MM → Int64 → Int32 → Int32 → Prop} {cbk4 : Nat → Nat → Nat → Nat → Bool} (hbk4 : ∀ (M : MM) (tl : Int64) (x0 : Int32) (x1 : Int32) (cM ct cx0 cx1 : Nat), M = dM cM → tl = i64 ct → x0 = nI cx0 → x1 = nI cx1 → cbk4 cM ct cx0 cx1 = true → bk4 M tl x0 x1) {M : MM} {tl : Int64} {v1 : Int32} {v2 : Int32} {v3 : Int32} {cM ct cv1 cv2 cv3 : Nat} (hM : M = dM cM) (ht : tl = i64 ct) (hv1 : v1 = nI cv1) (hv2 : v2 = nI cv2) (hv3 : v3 = nI cv3) (h : eX3_kindsBarred_62 q cbk4 cM ct cv1 cv2 cv3 = true) : wX3_kindsBarred_62 post bk4 M tl v1 v2 v3 := by
  unfold wX3_kindsBarred_62
  exact sX3_kindsBarred_68 hq hbk4 hM ht (r_or hv1 (r_b2 f_shl (rfl : (1 : Int32) = nI 1) hv3)) hv2 h
noncomputable def eX3_kindsBarred_4 (q : Nat → Nat → Nat → Bool) (n : Nat) : Nat → Nat → Nat → Nat → Bool :=
  @Nat.rec (fun _ => Nat → Nat → Nat → Nat → Bool) (fun _ _ _ _ => false) (fun _ ih cM ct cv1 cv2 => (@Bool.rec (fun _ => Bool) (epX5_cell (fun cr3 cM1 ct2 => (epX1_lacks (fun cr6 cM4 ct5 => (@Bool.rec (fun _ => Bool) (eX3_kindsBarred_62 q ih cM4 ct5 cv1 cv2 cr3) (epX1_twinOf (fun cr9 cM7 ct8 => (epX1_lacks (fun cr12 cM10 ct11 => (@Bool.rec (fun _ => Bool) (eX3_kindsBarred_62 q ih cM10 ct11 cv1 cv2 cr3) (eX3_kindsBarred_68 q ih cM10 ct11 cv1 cv2) (eqN cr12 0))) cM7 ct8 3 1 cr9)) cM4 ct5 3 cr3) (eqN cr6 0))) cM1 ct2 3 0 cr3)) cM ct 18 cv2 1) (q cv1 cM ct) (leN (rd cM 18 3) cv2))) n
set_option maxHeartbeats 4000000 in
set_option maxRecDepth 20000 in
theorem sX3_kindsBarred_4 {post : Int32 → MM → Int64 → Prop} {q : Nat → Nat → Nat → Bool} (hq : ∀ (r : Int32) (M : MM) (tl : Int64) (cr cM ct : Nat), r = nI cr → M = dM cM → tl = i64 ct → q cr cM ct = true → post r M tl) : ∀ (n : Nat) (M : MM) (tl : Int64) (v1 : Int32) (v2 : Int32) (cM ct cv1 cv2 : Nat), M = dM cM → tl = i64 ct → v1 = nI cv1 → v2 = nI cv2 → eX3_kindsBarred_4 q  n cM ct cv1 cv2 = true → wX3_kindsBarred_4 post  n M tl v1 v2 := by
  intro n
  induction n with
  | zero => intro M tl v1 v2 cM ct cv1 cv2 hM ht hv1 hv2 h; exact Bool.noConfusion h
  | succ n ih =>
    intro M tl v1 v2 cM ct cv1 cv2 hM ht hv1 hv2 h
    unfold wX3_kindsBarred_4
    refine e_ite (c_le (r_rd hM (rfl : (18 : Nat) = 18) (rfl : (3 : Nat) = 3)) hv2) h (fun h => ?_) (fun h => ?_)
    · exact hq _ _ _ _ _ _ hv1 hM ht h
    · refine spX5_cell (fun r3 M1 t2 cr3 cM1 ct2 hr3 hM1 ht2 h => ?_) hM ht (rfl : (18 : Nat) = 18) hv2 (rfl : (1 : Int32) = nI 1) h
      refine spX1_lacks (fun r6 M4 t5 cr6 cM4 ct5 hr6 hM4 ht5 h => ?_) hM1 ht2 (rfl : (3 : Nat) = 3) (rfl : (0 : Int32) = nI 0) hr3 h
      refine e_ite (c_eq hr6 (rfl : (0 : Int32) = nI 0)) h (fun h => ?_) (fun h => ?_)
      · refine spX1_twinOf (fun r9 M7 t8 cr9 cM7 ct8 hr9 hM7 ht8 h => ?_) hM4 ht5 (rfl : (3 : Nat) = 3) hr3 h
        refine spX1_lacks (fun r12 M10 t11 cr12 cM10 ct11 hr12 hM10 ht11 h => ?_) hM7 ht8 (rfl : (3 : Nat) = 3) (rfl : (1 : Int32) = nI 1) hr9 h
        refine e_ite (c_eq hr12 (rfl : (0 : Int32) = nI 0)) h (fun h => ?_) (fun h => ?_)
        · exact sX3_kindsBarred_68 hq ih hM10 ht11 hv1 hv2 h
        · exact sX3_kindsBarred_62 hq ih hM10 ht11 hv1 hv2 hr3 h
      · exact sX3_kindsBarred_62 hq ih hM4 ht5 hv1 hv2 hr3 h
noncomputable def epX3_kindsBarred (q : Nat → Nat → Nat → Bool) (cM ct  : Nat) : Bool :=
  (eX3_kindsBarred_4 q  5000 cM ct 0 0)
set_option maxHeartbeats 4000000 in
set_option maxRecDepth 20000 in
theorem spX3_kindsBarred {post : Int32 → MM → Int64 → Prop} {q : Nat → Nat → Nat → Bool} (hq : ∀ (r : Int32) (M : MM) (tl : Int64) (cr cM ct : Nat), r = nI cr → M = dM cM → tl = i64 ct → q cr cM ct = true → post r M tl) {M : MM} {tl : Int64} {cM ct  : Nat} (hM : M = dM cM) (ht : tl = i64 ct)  (h : epX3_kindsBarred q  cM ct  = true) : wpX3_kindsBarred post  M tl  := by
  unfold wpX3_kindsBarred
  exact ⟨5000, sX3_kindsBarred_4 hq  5000 _ _ _ _ _ _ _ _ hM ht (rfl : (0 : Int32) = nI 0) (rfl : (0 : Int32) = nI 0) h⟩
noncomputable def eX3_costInstead_52 (q : Nat → Nat → Nat → Bool) (cbk5 : Nat → Nat → Nat → Nat → Bool) (cM ct cv1 cv2 : Nat) : Bool :=
  (cbk5 cM ct cv1 (aN cv2 1))
set_option maxHeartbeats 4000000 in
set_option maxRecDepth 20000 in
theorem sX3_costInstead_52 {post : Int32 → MM → Int64 → Prop} {q : Nat → Nat → Nat → Bool} (hq : ∀ (r : Int32) (M : MM) (tl : Int64) (cr cM ct : Nat), r = nI cr → M = dM cM → tl = i64 ct → q cr cM ct = true → post r M tl) {bk5 : MM → Int64 → Int32 → Int32 → Prop} {cbk5 : Nat → Nat → Nat → Nat → Bool} (hbk5 : ∀ (M : MM) (tl : Int64) (x0 : Int32) (x1 : Int32) (cM ct cx0 cx1 : Nat), M = dM cM → tl = i64 ct → x0 = nI cx0 → x1 = nI cx1 → cbk5 cM ct cx0 cx1 = true → bk5 M tl x0 x1) {M : MM} {tl : Int64} {v1 : Int32} {v2 : Int32} {cM ct cv1 cv2 : Nat} (hM : M = dM cM) (ht : tl = i64 ct) (hv1 : v1 = nI cv1) (hv2 : v2 = nI cv2) (h : eX3_costInstead_52 q cbk5 cM ct cv1 cv2 = true) : wX3_costInstead_52 post bk5 M tl v1 v2 := by
  unfold wX3_costInstead_52
  exact hbk5 _ _ _ _ _ _ _ _ hM ht hv1 (r_add hv2 (rfl : (1 : Int32) = nI 1)) h
noncomputable def eX3_costInstead_42 (q : Nat → Nat → Nat → Bool) (cbk5 : Nat → Nat → Nat → Nat → Bool) (cM ct cv2 : Nat) : Bool :=
  (epX1_costOf (fun cr3 cM1 ct2 => (eX3_costInstead_52 q cbk5 cM1 ct2 cr3 cv2)) cM ct 3 1 cv2)
set_option maxHeartbeats 4000000 in
set_option maxRecDepth 20000 in
theorem sX3_costInstead_42 {post : Int32 → MM → Int64 → Prop} {q : Nat → Nat → Nat → Bool} (hq : ∀ (r : Int32) (M : MM) (tl : Int64) (cr cM ct : Nat), r = nI cr → M = dM cM → tl = i64 ct → q cr cM ct = true → post r M tl) {bk5 : MM → Int64 → Int32 → Int32 → Prop} {cbk5 : Nat → Nat → Nat → Nat → Bool} (hbk5 : ∀ (M : MM) (tl : Int64) (x0 : Int32) (x1 : Int32) (cM ct cx0 cx1 : Nat), M = dM cM → tl = i64 ct → x0 = nI cx0 → x1 = nI cx1 → cbk5 cM ct cx0 cx1 = true → bk5 M tl x0 x1) {M : MM} {tl : Int64} {v2 : Int32} {cM ct cv2 : Nat} (hM : M = dM cM) (ht : tl = i64 ct) (hv2 : v2 = nI cv2) (h : eX3_costInstead_42 q cbk5 cM ct cv2 = true) : wX3_costInstead_42 post bk5 M tl v2 := by
  unfold wX3_costInstead_42
  refine spX1_costOf (fun r3 M1 t2 cr3 cM1 ct2 hr3 hM1 ht2 h => ?_) hM ht (rfl : (3 : Nat) = 3) (rfl : (1 : Int32) = nI 1) hv2 h
  exact sX3_costInstead_52 hq hbk5 hM1 ht2 hr3 hv2 h
noncomputable def eX3_costInstead_125 (q : Nat → Nat → Nat → Bool) (cbk71 : Nat → Nat → Nat → Nat → Nat → Bool) (cM ct cv1 cv3 cs0 cs1 : Nat) : Bool :=
  (cbk71 cM ct cv1 (aN cs0 cs1) (aN cv3 1))
set_option maxHeartbeats 4000000 in
set_option maxRecDepth 20000 in
theorem sX3_costInstead_125 {post : Int32 → MM → Int64 → Prop} {q : Nat → Nat → Nat → Bool} (hq : ∀ (r : Int32) (M : MM) (tl : Int64) (cr cM ct : Nat), r = nI cr → M = dM cM → tl = i64 ct → q cr cM ct = true → post r M tl) {bk71 : MM → Int64 → Int32 → Int32 → Int32 → Prop} {cbk71 : Nat → Nat → Nat → Nat → Nat → Bool} (hbk71 : ∀ (M : MM) (tl : Int64) (x0 : Int32) (x1 : Int32) (x2 : Int32) (cM ct cx0 cx1 cx2 : Nat), M = dM cM → tl = i64 ct → x0 = nI cx0 → x1 = nI cx1 → x2 = nI cx2 → cbk71 cM ct cx0 cx1 cx2 = true → bk71 M tl x0 x1 x2) {M : MM} {tl : Int64} {v1 : Int32} {v3 : Int32} {s0 : Int32} {s1 : Int32} {cM ct cv1 cv3 cs0 cs1 : Nat} (hM : M = dM cM) (ht : tl = i64 ct) (hv1 : v1 = nI cv1) (hv3 : v3 = nI cv3) (hs0 : s0 = nI cs0) (hs1 : s1 = nI cs1) (h : eX3_costInstead_125 q cbk71 cM ct cv1 cv3 cs0 cs1 = true) : wX3_costInstead_125 post bk71 M tl v1 v3 s0 s1 := by
  unfold wX3_costInstead_125
  exact hbk71 _ _ _ _ _ _ _ _ _ _ hM ht hv1 (r_add hs0 hs1) (r_add hv3 (rfl : (1 : Int32) = nI 1)) h
noncomputable def eX3_costInstead_71 (q : Nat → Nat → Nat → Bool) (n : Nat) : Nat → Nat → Nat → Nat → Nat → Bool :=
  @Nat.rec (fun _ => Nat → Nat → Nat → Nat → Nat → Bool) (fun _ _ _ _ _ => false) (fun _ ih cM ct cv1 cv2 cv3 => (@Bool.rec (fun _ => Bool) (epX5_cell (fun cr3 cM1 ct2 => (epX1_twinOf (fun cr6 cM4 ct5 => (epX1_lacks (fun cr9 cM7 ct8 => (@Bool.rec (fun _ => Bool) (eX3_costInstead_125 q ih cM7 ct8 cv1 cv3 cv2 cv1) (eX3_costInstead_125 q ih cM7 ct8 cv1 cv3 cv2 0) (eqN cr9 0))) cM4 ct5 3 1 cr6)) cM1 ct2 3 cr3)) cM ct 18 cv3 1) (q cv2 cM ct) (leN (rd cM 18 3) cv3))) n
set_option maxHeartbeats 4000000 in
set_option maxRecDepth 20000 in
theorem sX3_costInstead_71 {post : Int32 → MM → Int64 → Prop} {q : Nat → Nat → Nat → Bool} (hq : ∀ (r : Int32) (M : MM) (tl : Int64) (cr cM ct : Nat), r = nI cr → M = dM cM → tl = i64 ct → q cr cM ct = true → post r M tl) : ∀ (n : Nat) (M : MM) (tl : Int64) (v1 : Int32) (v2 : Int32) (v3 : Int32) (cM ct cv1 cv2 cv3 : Nat), M = dM cM → tl = i64 ct → v1 = nI cv1 → v2 = nI cv2 → v3 = nI cv3 → eX3_costInstead_71 q  n cM ct cv1 cv2 cv3 = true → wX3_costInstead_71 post  n M tl v1 v2 v3 := by
  intro n
  induction n with
  | zero => intro M tl v1 v2 v3 cM ct cv1 cv2 cv3 hM ht hv1 hv2 hv3 h; exact Bool.noConfusion h
  | succ n ih =>
    intro M tl v1 v2 v3 cM ct cv1 cv2 cv3 hM ht hv1 hv2 hv3 h
    unfold wX3_costInstead_71
    refine e_ite (c_le (r_rd hM (rfl : (18 : Nat) = 18) (rfl : (3 : Nat) = 3)) hv3) h (fun h => ?_) (fun h => ?_)
    · exact hq _ _ _ _ _ _ hv2 hM ht h
    · refine spX5_cell (fun r3 M1 t2 cr3 cM1 ct2 hr3 hM1 ht2 h => ?_) hM ht (rfl : (18 : Nat) = 18) hv3 (rfl : (1 : Int32) = nI 1) h
      refine spX1_twinOf (fun r6 M4 t5 cr6 cM4 ct5 hr6 hM4 ht5 h => ?_) hM1 ht2 (rfl : (3 : Nat) = 3) hr3 h
      refine spX1_lacks (fun r9 M7 t8 cr9 cM7 ct8 hr9 hM7 ht8 h => ?_) hM4 ht5 (rfl : (3 : Nat) = 3) (rfl : (1 : Int32) = nI 1) hr6 h
      refine e_ite (c_eq hr9 (rfl : (0 : Int32) = nI 0)) h (fun h => ?_) (fun h => ?_)
      · exact sX3_costInstead_125 hq ih hM7 ht8 hv1 hv3 hv2 (rfl : (0 : Int32) = nI 0) h
      · exact sX3_costInstead_125 hq ih hM7 ht8 hv1 hv3 hv2 hv1 h
noncomputable def eX3_costInstead_5 (q : Nat → Nat → Nat → Bool) (n : Nat) : Nat → Nat → Nat → Nat → Bool :=
  @Nat.rec (fun _ => Nat → Nat → Nat → Nat → Bool) (fun _ _ _ _ => false) (fun _ ih cM ct cv1 cv2 => (@Bool.rec (fun _ => Bool) (epX1_lacks (fun cr3 cM1 ct2 => (@Bool.rec (fun _ => Bool) (eX3_costInstead_52 q ih cM1 ct2 cv1 cv2) (@Bool.rec (fun _ => Bool) (epX1_costOf (fun cr6 cM4 ct5 => (@Bool.rec (fun _ => Bool) (eX3_costInstead_42 q ih cM4 ct5 cv2) (eX3_costInstead_52 q ih cM4 ct5 cv1 cv2) (leN cv1 cr6))) cM1 ct2 3 1 cv2) (eX3_costInstead_42 q ih cM1 ct2 cv2) (eqN cv1 4294967292)) (eqN cr3 0))) cM ct 3 1 cv2) (@Bool.rec (fun _ => Bool) (eX3_costInstead_71 q  5000 cM ct cv1 0 0) (q 4294967292 cM ct) (eqN cv1 4294967292)) (leN 6 cv2))) n
set_option maxHeartbeats 4000000 in
set_option maxRecDepth 20000 in
theorem sX3_costInstead_5 {post : Int32 → MM → Int64 → Prop} {q : Nat → Nat → Nat → Bool} (hq : ∀ (r : Int32) (M : MM) (tl : Int64) (cr cM ct : Nat), r = nI cr → M = dM cM → tl = i64 ct → q cr cM ct = true → post r M tl) : ∀ (n : Nat) (M : MM) (tl : Int64) (v1 : Int32) (v2 : Int32) (cM ct cv1 cv2 : Nat), M = dM cM → tl = i64 ct → v1 = nI cv1 → v2 = nI cv2 → eX3_costInstead_5 q  n cM ct cv1 cv2 = true → wX3_costInstead_5 post  n M tl v1 v2 := by
  intro n
  induction n with
  | zero => intro M tl v1 v2 cM ct cv1 cv2 hM ht hv1 hv2 h; exact Bool.noConfusion h
  | succ n ih =>
    intro M tl v1 v2 cM ct cv1 cv2 hM ht hv1 hv2 h
    unfold wX3_costInstead_5
    refine e_ite (c_le (rfl : (6 : Int32) = nI 6) hv2) h (fun h => ?_) (fun h => ?_)
    · refine e_ite (c_eq hv1 lm4) h (fun h => ?_) (fun h => ?_)
      · exact hq _ _ _ _ _ _ lm4 hM ht h
      · exact ⟨5000, sX3_costInstead_71 hq  5000 _ _ _ _ _ _ _ _ _ _ hM ht hv1 (rfl : (0 : Int32) = nI 0) (rfl : (0 : Int32) = nI 0) h⟩
    · refine spX1_lacks (fun r3 M1 t2 cr3 cM1 ct2 hr3 hM1 ht2 h => ?_) hM ht (rfl : (3 : Nat) = 3) (rfl : (1 : Int32) = nI 1) hv2 h
      refine e_ite (c_eq hr3 (rfl : (0 : Int32) = nI 0)) h (fun h => ?_) (fun h => ?_)
      · refine e_ite (c_eq hv1 lm4) h (fun h => ?_) (fun h => ?_)
        · exact sX3_costInstead_42 hq ih hM1 ht2 hv2 h
        · refine spX1_costOf (fun r6 M4 t5 cr6 cM4 ct5 hr6 hM4 ht5 h => ?_) hM1 ht2 (rfl : (3 : Nat) = 3) (rfl : (1 : Int32) = nI 1) hv2 h
          refine e_ite (c_le hv1 hr6) h (fun h => ?_) (fun h => ?_)
          · exact sX3_costInstead_52 hq ih hM4 ht5 hv1 hv2 h
          · exact sX3_costInstead_42 hq ih hM4 ht5 hv2 h
      · exact sX3_costInstead_52 hq ih hM1 ht2 hv1 hv2 h
noncomputable def epX3_costInstead (q : Nat → Nat → Nat → Bool) (cM ct  : Nat) : Bool :=
  (eX3_costInstead_5 q  5000 cM ct 4294967292 1)
set_option maxHeartbeats 4000000 in
set_option maxRecDepth 20000 in
theorem spX3_costInstead {post : Int32 → MM → Int64 → Prop} {q : Nat → Nat → Nat → Bool} (hq : ∀ (r : Int32) (M : MM) (tl : Int64) (cr cM ct : Nat), r = nI cr → M = dM cM → tl = i64 ct → q cr cM ct = true → post r M tl) {M : MM} {tl : Int64} {cM ct  : Nat} (hM : M = dM cM) (ht : tl = i64 ct)  (h : epX3_costInstead q  cM ct  = true) : wpX3_costInstead post  M tl  := by
  unfold wpX3_costInstead
  exact ⟨5000, sX3_costInstead_5 hq  5000 _ _ _ _ _ _ _ _ hM ht lm4 (rfl : (1 : Int32) = nI 1) h⟩
