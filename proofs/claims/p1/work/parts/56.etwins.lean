noncomputable def epX10_feed (q : Nat → Nat → Nat → Bool) (cM ct cv1 : Nat) : Bool :=
  (@Bool.rec (fun _ => Bool) (q 4294967293 cM ct) (epX9_append (fun cM1 ct2 => (q (rd cM1 1 1) cM1 ct2)) cM ct cv1) (leN (aN (rd cM 1 1) 8) 400))
set_option maxHeartbeats 4000000 in
set_option maxRecDepth 20000 in
theorem spX10_feed {post : Int32 → MM → Int64 → Prop} {q : Nat → Nat → Nat → Bool} (hq : ∀ (r : Int32) (M : MM) (tl : Int64) (cr cM ct : Nat), r = nI cr → M = dM cM → tl = i64 ct → q cr cM ct = true → post r M tl) {M : MM} {tl : Int64} {v1 : Int64} {cM ct cv1 : Nat} (hM : M = dM cM) (ht : tl = i64 ct) (hv1 : v1 = i64 cv1) (h : epX10_feed q  cM ct cv1 = true) : wpX10_feed post  M tl v1 := by
  unfold wpX10_feed
  unfold epX10_feed at h
  refine e_ite (c_le (r_add (r_rd hM (rfl : (1 : Nat) = 1) (rfl : (1 : Nat) = 1)) (rfl : (8 : Int32) = nI 8)) (rfl : (400 : Int32) = nI 400)) h (fun h => ?_) (fun h => ?_)
  · refine spX9_append (fun M1 t2 cM1 ct2 hM1 ht2 h => ?_) hM ht hv1 h
    exact hq _ _ _ _ _ _ (r_rd hM1 (rfl : (1 : Nat) = 1) (rfl : (1 : Nat) = 1)) hM1 ht2 h
  · exact hq _ _ _ _ _ _ lm3 hM ht h
noncomputable def epX10_end (q : Nat → Nat → Nat → Bool) (cM ct cv1 : Nat) : Bool :=
  (@Bool.rec (fun _ => Bool) (@Bool.rec (fun _ => Bool) (q 4294967295 cM ct) (wrB (fun cM1 => (q (rd cM 1 1) cM1 ct)) cM 1 1 cv1) (leN cv1 (rd cM 1 1))) (q 4294967295 cM ct) (ltN cv1 0))
set_option maxHeartbeats 4000000 in
set_option maxRecDepth 20000 in
theorem spX10_end {post : Int32 → MM → Int64 → Prop} {q : Nat → Nat → Nat → Bool} (hq : ∀ (r : Int32) (M : MM) (tl : Int64) (cr cM ct : Nat), r = nI cr → M = dM cM → tl = i64 ct → q cr cM ct = true → post r M tl) {M : MM} {tl : Int64} {v1 : Int32} {cM ct cv1 : Nat} (hM : M = dM cM) (ht : tl = i64 ct) (hv1 : v1 = nI cv1) (h : epX10_end q  cM ct cv1 = true) : wpX10_end post  M tl v1 := by
  unfold wpX10_end
  unfold epX10_end at h
  refine e_ite (c_lt hv1 (rfl : (0 : Int32) = nI 0)) h (fun h => ?_) (fun h => ?_)
  · exact hq _ _ _ _ _ _ lm1 hM ht h
  · refine e_ite (c_le hv1 (r_rd hM (rfl : (1 : Nat) = 1) (rfl : (1 : Nat) = 1))) h (fun h => ?_) (fun h => ?_)
    · refine e_wr h hM (rfl : (1 : Nat) = 1) (rfl : (1 : Nat) = 1) hv1 (fun M1 cM1 hM1 h => ?_)
      exact hq _ _ _ _ _ _ (r_rd hM (rfl : (1 : Nat) = 1) (rfl : (1 : Nat) = 1)) hM1 ht h
    · exact hq _ _ _ _ _ _ lm1 hM ht h
noncomputable def epX10_fault (q : Nat → Nat → Nat → Bool) (cM ct  : Nat) : Bool :=
  (q (rd cM 0 11) cM ct)
set_option maxHeartbeats 4000000 in
set_option maxRecDepth 20000 in
theorem spX10_fault {post : Int32 → MM → Int64 → Prop} {q : Nat → Nat → Nat → Bool} (hq : ∀ (r : Int32) (M : MM) (tl : Int64) (cr cM ct : Nat), r = nI cr → M = dM cM → tl = i64 ct → q cr cM ct = true → post r M tl) {M : MM} {tl : Int64} {cM ct  : Nat} (hM : M = dM cM) (ht : tl = i64 ct)  (h : epX10_fault q  cM ct  = true) : wpX10_fault post  M tl  := by
  unfold wpX10_fault
  unfold epX10_fault at h
  exact hq _ _ _ _ _ _ (r_rd hM (rfl : (0 : Nat) = 0) (rfl : (11 : Nat) = 11)) hM ht h
noncomputable def epX10_rule (q : Nat → Nat → Nat → Bool) (cM ct cv1 : Nat) : Bool :=
  (@Bool.rec (fun _ => Bool) (@Bool.rec (fun _ => Bool) (@Bool.rec (fun _ => Bool) (@Bool.rec (fun _ => Bool) (@Bool.rec (fun _ => Bool) (@Bool.rec (fun _ => Bool) (@Bool.rec (fun _ => Bool) false (q (rd cM 4 (tN (sN cv1 10))) cM ct) (inN (sN cv1 10) (alF 4))) (q 4294967295 cM ct) (leN 14 cv1)) (q 4294967295 cM ct) (ltN cv1 10)) (q (rd cM 16 3) cM ct) (eqN cv1 3)) (q (rd cM 3 2) cM ct) (eqN cv1 2)) (q (rd cM 3 1) cM ct) (eqN cv1 1)) (q (rd cM 3 0) cM ct) (eqN cv1 0))
set_option maxHeartbeats 4000000 in
set_option maxRecDepth 20000 in
theorem spX10_rule {post : Int32 → MM → Int64 → Prop} {q : Nat → Nat → Nat → Bool} (hq : ∀ (r : Int32) (M : MM) (tl : Int64) (cr cM ct : Nat), r = nI cr → M = dM cM → tl = i64 ct → q cr cM ct = true → post r M tl) {M : MM} {tl : Int64} {v1 : Int32} {cM ct cv1 : Nat} (hM : M = dM cM) (ht : tl = i64 ct) (hv1 : v1 = nI cv1) (h : epX10_rule q  cM ct cv1 = true) : wpX10_rule post  M tl v1 := by
  unfold wpX10_rule
  unfold epX10_rule at h
  refine e_ite (c_eq hv1 (rfl : (0 : Int32) = nI 0)) h (fun h => ?_) (fun h => ?_)
  · exact hq _ _ _ _ _ _ (r_rd hM (rfl : (3 : Nat) = 3) (rfl : (0 : Nat) = 0)) hM ht h
  · refine e_ite (c_eq hv1 (rfl : (1 : Int32) = nI 1)) h (fun h => ?_) (fun h => ?_)
    · exact hq _ _ _ _ _ _ (r_rd hM (rfl : (3 : Nat) = 3) (rfl : (1 : Nat) = 1)) hM ht h
    · refine e_ite (c_eq hv1 (rfl : (2 : Int32) = nI 2)) h (fun h => ?_) (fun h => ?_)
      · exact hq _ _ _ _ _ _ (r_rd hM (rfl : (3 : Nat) = 3) (rfl : (2 : Nat) = 2)) hM ht h
      · refine e_ite (c_eq hv1 (rfl : (3 : Int32) = nI 3)) h (fun h => ?_) (fun h => ?_)
        · exact hq _ _ _ _ _ _ (r_rd hM (rfl : (16 : Nat) = 16) (rfl : (3 : Nat) = 3)) hM ht h
        · refine e_ite (c_lt hv1 (rfl : (10 : Int32) = nI 10)) h (fun h => ?_) (fun h => ?_)
          · exact hq _ _ _ _ _ _ lm1 hM ht h
          · refine e_ite (c_le (rfl : (14 : Int32) = nI 14) hv1) h (fun h => ?_) (fun h => ?_)
            · exact hq _ _ _ _ _ _ lm1 hM ht h
            · refine e_and (k_in (r_sub hv1 (rfl : (10 : Int32) = nI 10)) (r_al (rfl : (4 : Nat) = 4))) h (fun h => ?_)
              exact hq _ _ _ _ _ _ (r_rd hM (rfl : (4 : Nat) = 4) (r_nat (r_sub hv1 (rfl : (10 : Int32) = nI 10)))) hM ht h
noncomputable def epX10_kind (q : Nat → Nat → Nat → Bool) (cM ct cv1 cv2 : Nat) : Bool :=
  (epX10_isKind (fun cr3 cM1 ct2 => (@Bool.rec (fun _ => Bool) (@Bool.rec (fun _ => Bool) (@Bool.rec (fun _ => Bool) (@Bool.rec (fun _ => Bool) (@Bool.rec (fun _ => Bool) (@Bool.rec (fun _ => Bool) (@Bool.rec (fun _ => Bool) (@Bool.rec (fun _ => Bool) (@Bool.rec (fun _ => Bool) (q 4294967295 cM1 ct2) (epX1_lacks (fun cr32 cM30 ct31 => (@Bool.rec (fun _ => Bool) (q 1 cM30 ct31) (q 0 cM30 ct31) (eqN cr32 0))) cM1 ct2 3 (sN cv2 30) cv1) (eqN cv2 31)) (epX1_lacks (fun cr28 cM26 ct27 => (@Bool.rec (fun _ => Bool) (q 1 cM26 ct27) (q 0 cM26 ct27) (eqN cr28 0))) cM1 ct2 3 (sN cv2 30) cv1) (eqN cv2 30)) (epX1_tasteOf (fun cr24 cM22 ct23 => (q cr24 cM22 ct23)) cM1 ct2 3 (sN cv2 20) cv1) (eqN cv2 21)) (epX1_tasteOf (fun cr20 cM18 ct19 => (q cr20 cM18 ct19)) cM1 ct2 3 (sN cv2 20) cv1) (eqN cv2 20)) (epX1_costOf (fun cr16 cM14 ct15 => (q cr16 cM14 ct15)) cM1 ct2 3 (sN cv2 10) cv1) (eqN cv2 11)) (epX1_costOf (fun cr12 cM10 ct11 => (q cr12 cM10 ct11)) cM1 ct2 3 (sN cv2 10) cv1) (eqN cv2 10)) (q (Nat.land (b2 f_shr (rd cM1 3 3) cv1) 1) cM1 ct2) (eqN cv2 1)) (epX1_twinOf (fun cr7 cM5 ct6 => (q cr7 cM5 ct6)) cM1 ct2 3 cv1) (eqN cv2 0)) (q 4294967295 cM1 ct2) (eqN cr3 0))) cM ct cv1)
set_option maxHeartbeats 4000000 in
set_option maxRecDepth 20000 in
theorem spX10_kind {post : Int32 → MM → Int64 → Prop} {q : Nat → Nat → Nat → Bool} (hq : ∀ (r : Int32) (M : MM) (tl : Int64) (cr cM ct : Nat), r = nI cr → M = dM cM → tl = i64 ct → q cr cM ct = true → post r M tl) {M : MM} {tl : Int64} {v1 : Int32} {v2 : Int32} {cM ct cv1 cv2 : Nat} (hM : M = dM cM) (ht : tl = i64 ct) (hv1 : v1 = nI cv1) (hv2 : v2 = nI cv2) (h : epX10_kind q  cM ct cv1 cv2 = true) : wpX10_kind post  M tl v1 v2 := by
  unfold wpX10_kind
  unfold epX10_kind at h
  refine spX10_isKind (fun r3 M1 t2 cr3 cM1 ct2 hr3 hM1 ht2 h => ?_) hM ht hv1 h
  refine e_ite (c_eq hr3 (rfl : (0 : Int32) = nI 0)) h (fun h => ?_) (fun h => ?_)
  · exact hq _ _ _ _ _ _ lm1 hM1 ht2 h
  · refine e_ite (c_eq hv2 (rfl : (0 : Int32) = nI 0)) h (fun h => ?_) (fun h => ?_)
    · refine spX1_twinOf (fun r7 M5 t6 cr7 cM5 ct6 hr7 hM5 ht6 h => ?_) hM1 ht2 (rfl : (3 : Nat) = 3) hv1 h
      exact hq _ _ _ _ _ _ hr7 hM5 ht6 h
    · refine e_ite (c_eq hv2 (rfl : (1 : Int32) = nI 1)) h (fun h => ?_) (fun h => ?_)
      · exact hq _ _ _ _ _ _ (r_and (r_b2 f_shr (r_rd hM1 (rfl : (3 : Nat) = 3) (rfl : (3 : Nat) = 3)) hv1) (rfl : (1 : Int32) = nI 1)) hM1 ht2 h
      · refine e_ite (c_eq hv2 (rfl : (10 : Int32) = nI 10)) h (fun h => ?_) (fun h => ?_)
        · refine spX1_costOf (fun r12 M10 t11 cr12 cM10 ct11 hr12 hM10 ht11 h => ?_) hM1 ht2 (rfl : (3 : Nat) = 3) (r_sub hv2 (rfl : (10 : Int32) = nI 10)) hv1 h
          exact hq _ _ _ _ _ _ hr12 hM10 ht11 h
        · refine e_ite (c_eq hv2 (rfl : (11 : Int32) = nI 11)) h (fun h => ?_) (fun h => ?_)
          · refine spX1_costOf (fun r16 M14 t15 cr16 cM14 ct15 hr16 hM14 ht15 h => ?_) hM1 ht2 (rfl : (3 : Nat) = 3) (r_sub hv2 (rfl : (10 : Int32) = nI 10)) hv1 h
            exact hq _ _ _ _ _ _ hr16 hM14 ht15 h
          · refine e_ite (c_eq hv2 (rfl : (20 : Int32) = nI 20)) h (fun h => ?_) (fun h => ?_)
            · refine spX1_tasteOf (fun r20 M18 t19 cr20 cM18 ct19 hr20 hM18 ht19 h => ?_) hM1 ht2 (rfl : (3 : Nat) = 3) (r_sub hv2 (rfl : (20 : Int32) = nI 20)) hv1 h
              exact hq _ _ _ _ _ _ hr20 hM18 ht19 h
            · refine e_ite (c_eq hv2 (rfl : (21 : Int32) = nI 21)) h (fun h => ?_) (fun h => ?_)
              · refine spX1_tasteOf (fun r24 M22 t23 cr24 cM22 ct23 hr24 hM22 ht23 h => ?_) hM1 ht2 (rfl : (3 : Nat) = 3) (r_sub hv2 (rfl : (20 : Int32) = nI 20)) hv1 h
                exact hq _ _ _ _ _ _ hr24 hM22 ht23 h
              · refine e_ite (c_eq hv2 (rfl : (30 : Int32) = nI 30)) h (fun h => ?_) (fun h => ?_)
                · refine spX1_lacks (fun r28 M26 t27 cr28 cM26 ct27 hr28 hM26 ht27 h => ?_) hM1 ht2 (rfl : (3 : Nat) = 3) (r_sub hv2 (rfl : (30 : Int32) = nI 30)) hv1 h
                  refine e_ite (c_eq hr28 (rfl : (0 : Int32) = nI 0)) h (fun h => ?_) (fun h => ?_)
                  · exact hq _ _ _ _ _ _ (rfl : (0 : Int32) = nI 0) hM26 ht27 h
                  · exact hq _ _ _ _ _ _ (rfl : (1 : Int32) = nI 1) hM26 ht27 h
                · refine e_ite (c_eq hv2 (rfl : (31 : Int32) = nI 31)) h (fun h => ?_) (fun h => ?_)
                  · refine spX1_lacks (fun r32 M30 t31 cr32 cM30 ct31 hr32 hM30 ht31 h => ?_) hM1 ht2 (rfl : (3 : Nat) = 3) (r_sub hv2 (rfl : (30 : Int32) = nI 30)) hv1 h
                    refine e_ite (c_eq hr32 (rfl : (0 : Int32) = nI 0)) h (fun h => ?_) (fun h => ?_)
                    · exact hq _ _ _ _ _ _ (rfl : (0 : Int32) = nI 0) hM30 ht31 h
                    · exact hq _ _ _ _ _ _ (rfl : (1 : Int32) = nI 1) hM30 ht31 h
                  · exact hq _ _ _ _ _ _ lm1 hM1 ht2 h
noncomputable def epX10_colour (q : Nat → Nat → Nat → Bool) (cM ct cv1 : Nat) : Bool :=
  (@Bool.rec (fun _ => Bool) (@Bool.rec (fun _ => Bool) (@Bool.rec (fun _ => Bool) false (q (rd cM 13 (tN cv1)) cM ct) (inN cv1 (alF 13))) (q 4294967295 cM ct) (leN 4 cv1)) (q 4294967295 cM ct) (ltN cv1 0))
set_option maxHeartbeats 4000000 in
set_option maxRecDepth 20000 in
theorem spX10_colour {post : Int32 → MM → Int64 → Prop} {q : Nat → Nat → Nat → Bool} (hq : ∀ (r : Int32) (M : MM) (tl : Int64) (cr cM ct : Nat), r = nI cr → M = dM cM → tl = i64 ct → q cr cM ct = true → post r M tl) {M : MM} {tl : Int64} {v1 : Int32} {cM ct cv1 : Nat} (hM : M = dM cM) (ht : tl = i64 ct) (hv1 : v1 = nI cv1) (h : epX10_colour q  cM ct cv1 = true) : wpX10_colour post  M tl v1 := by
  unfold wpX10_colour
  unfold epX10_colour at h
  refine e_ite (c_lt hv1 (rfl : (0 : Int32) = nI 0)) h (fun h => ?_) (fun h => ?_)
  · exact hq _ _ _ _ _ _ lm1 hM ht h
  · refine e_ite (c_le (rfl : (4 : Int32) = nI 4) hv1) h (fun h => ?_) (fun h => ?_)
    · exact hq _ _ _ _ _ _ lm1 hM ht h
    · refine e_and (k_in hv1 (r_al (rfl : (13 : Nat) = 13))) h (fun h => ?_)
      exact hq _ _ _ _ _ _ (r_rd hM (rfl : (13 : Nat) = 13) (r_nat hv1)) hM ht h
noncomputable def epX10_mirror (q : Nat → Nat → Nat → Bool) (cM ct cv1 : Nat) : Bool :=
  (epX10_isThing (fun cr3 cM1 ct2 => (@Bool.rec (fun _ => Bool) (epX1_mirrorOf (fun cr6 cM4 ct5 => (q cr6 cM4 ct5)) cM1 ct2 3 cv1) (q 4294967295 cM1 ct2) (eqN cr3 0))) cM ct cv1)
set_option maxHeartbeats 4000000 in
set_option maxRecDepth 20000 in
theorem spX10_mirror {post : Int32 → MM → Int64 → Prop} {q : Nat → Nat → Nat → Bool} (hq : ∀ (r : Int32) (M : MM) (tl : Int64) (cr cM ct : Nat), r = nI cr → M = dM cM → tl = i64 ct → q cr cM ct = true → post r M tl) {M : MM} {tl : Int64} {v1 : Int32} {cM ct cv1 : Nat} (hM : M = dM cM) (ht : tl = i64 ct) (hv1 : v1 = nI cv1) (h : epX10_mirror q  cM ct cv1 = true) : wpX10_mirror post  M tl v1 := by
  unfold wpX10_mirror
  unfold epX10_mirror at h
  refine spX10_isThing (fun r3 M1 t2 cr3 cM1 ct2 hr3 hM1 ht2 h => ?_) hM ht hv1 h
  refine e_ite (c_eq hr3 (rfl : (0 : Int32) = nI 0)) h (fun h => ?_) (fun h => ?_)
  · exact hq _ _ _ _ _ _ lm1 hM1 ht2 h
  · refine spX1_mirrorOf (fun r6 M4 t5 cr6 cM4 ct5 hr6 hM4 ht5 h => ?_) hM1 ht2 (rfl : (3 : Nat) = 3) hv1 h
    exact hq _ _ _ _ _ _ hr6 hM4 ht5 h
noncomputable def epX10_work (q : Nat → Nat → Nat → Bool) (cM ct cv1 cv2 : Nat) : Bool :=
  (@Bool.rec (fun _ => Bool) (@Bool.rec (fun _ => Bool) (@Bool.rec (fun _ => Bool) (@Bool.rec (fun _ => Bool) (q 4294967295 cM ct) (epX5_cell (fun cr3 cM1 ct2 => (q cr3 cM1 ct2)) cM ct 16 cv1 cv2) (ltN cv2 (wdF 16))) (q 4294967295 cM ct) (ltN cv2 0)) (q 4294967295 cM ct) (leN (rd cM 16 3) cv1)) (q 4294967295 cM ct) (ltN cv1 0))
set_option maxHeartbeats 4000000 in
set_option maxRecDepth 20000 in
theorem spX10_work {post : Int32 → MM → Int64 → Prop} {q : Nat → Nat → Nat → Bool} (hq : ∀ (r : Int32) (M : MM) (tl : Int64) (cr cM ct : Nat), r = nI cr → M = dM cM → tl = i64 ct → q cr cM ct = true → post r M tl) {M : MM} {tl : Int64} {v1 : Int32} {v2 : Int32} {cM ct cv1 cv2 : Nat} (hM : M = dM cM) (ht : tl = i64 ct) (hv1 : v1 = nI cv1) (hv2 : v2 = nI cv2) (h : epX10_work q  cM ct cv1 cv2 = true) : wpX10_work post  M tl v1 v2 := by
  unfold wpX10_work
  unfold epX10_work at h
  refine e_ite (c_lt hv1 (rfl : (0 : Int32) = nI 0)) h (fun h => ?_) (fun h => ?_)
  · exact hq _ _ _ _ _ _ lm1 hM ht h
  · refine e_ite (c_le (r_rd hM (rfl : (16 : Nat) = 16) (rfl : (3 : Nat) = 3)) hv1) h (fun h => ?_) (fun h => ?_)
    · exact hq _ _ _ _ _ _ lm1 hM ht h
    · refine e_ite (c_lt hv2 (rfl : (0 : Int32) = nI 0)) h (fun h => ?_) (fun h => ?_)
      · exact hq _ _ _ _ _ _ lm1 hM ht h
      · refine e_ite (c_lt hv2 (r_nI (r_wd (rfl : (16 : Nat) = 16)))) h (fun h => ?_) (fun h => ?_)
        · refine spX5_cell (fun r3 M1 t2 cr3 cM1 ct2 hr3 hM1 ht2 h => ?_) hM ht (rfl : (16 : Nat) = 16) hv1 hv2 h
          exact hq _ _ _ _ _ _ hr3 hM1 ht2 h
        · exact hq _ _ _ _ _ _ lm1 hM ht h
noncomputable def epX10_thing (q : Nat → Nat → Nat → Bool) (cM ct cv1 cv2 : Nat) : Bool :=
  (epX1_isLot (fun cr3 cM1 ct2 => (@Bool.rec (fun _ => Bool) (epX7_thingAt (fun cr6 cM4 ct5 => (q cr6 cM4 ct5)) cM1 ct2 14 cv1 cv2) (q 4294967295 cM1 ct2) (eqN cr3 0))) cM ct 3 cv1 cv2)
set_option maxHeartbeats 4000000 in
set_option maxRecDepth 20000 in
theorem spX10_thing {post : Int32 → MM → Int64 → Prop} {q : Nat → Nat → Nat → Bool} (hq : ∀ (r : Int32) (M : MM) (tl : Int64) (cr cM ct : Nat), r = nI cr → M = dM cM → tl = i64 ct → q cr cM ct = true → post r M tl) {M : MM} {tl : Int64} {v1 : Int32} {v2 : Int32} {cM ct cv1 cv2 : Nat} (hM : M = dM cM) (ht : tl = i64 ct) (hv1 : v1 = nI cv1) (hv2 : v2 = nI cv2) (h : epX10_thing q  cM ct cv1 cv2 = true) : wpX10_thing post  M tl v1 v2 := by
  unfold wpX10_thing
  unfold epX10_thing at h
  refine spX1_isLot (fun r3 M1 t2 cr3 cM1 ct2 hr3 hM1 ht2 h => ?_) hM ht (rfl : (3 : Nat) = 3) hv1 hv2 h
  refine e_ite (c_eq hr3 (rfl : (0 : Int32) = nI 0)) h (fun h => ?_) (fun h => ?_)
  · exact hq _ _ _ _ _ _ lm1 hM1 ht2 h
  · refine spX7_thingAt (fun r6 M4 t5 cr6 cM4 ct5 hr6 hM4 ht5 h => ?_) hM1 ht2 (rfl : (14 : Nat) = 14) hv1 hv2 h
    exact hq _ _ _ _ _ _ hr6 hM4 ht5 h
noncomputable def epX10_put (q : Nat → Nat → Nat → Bool) (cM ct cv1 cv2 cv3 : Nat) : Bool :=
  (epX1_isLot (fun cr3 cM1 ct2 => (@Bool.rec (fun _ => Bool) (epX10_isThing (fun cr6 cM4 ct5 => (@Bool.rec (fun _ => Bool) (epX7_thingAt (fun cr9 cM7 ct8 => (epX7_setThing (fun cM10 ct11 => (q cr9 cM10 ct11)) cM7 ct8 14 cv1 cv2 cv3)) cM4 ct5 14 cv1 cv2) (q 4294967295 cM4 ct5) (eqN cr6 0))) cM1 ct2 cv3) (q 4294967295 cM1 ct2) (eqN cr3 0))) cM ct 3 cv1 cv2)
set_option maxHeartbeats 4000000 in
set_option maxRecDepth 20000 in
theorem spX10_put {post : Int32 → MM → Int64 → Prop} {q : Nat → Nat → Nat → Bool} (hq : ∀ (r : Int32) (M : MM) (tl : Int64) (cr cM ct : Nat), r = nI cr → M = dM cM → tl = i64 ct → q cr cM ct = true → post r M tl) {M : MM} {tl : Int64} {v1 : Int32} {v2 : Int32} {v3 : Int32} {cM ct cv1 cv2 cv3 : Nat} (hM : M = dM cM) (ht : tl = i64 ct) (hv1 : v1 = nI cv1) (hv2 : v2 = nI cv2) (hv3 : v3 = nI cv3) (h : epX10_put q  cM ct cv1 cv2 cv3 = true) : wpX10_put post  M tl v1 v2 v3 := by
  unfold wpX10_put
  unfold epX10_put at h
  refine spX1_isLot (fun r3 M1 t2 cr3 cM1 ct2 hr3 hM1 ht2 h => ?_) hM ht (rfl : (3 : Nat) = 3) hv1 hv2 h
  refine e_ite (c_eq hr3 (rfl : (0 : Int32) = nI 0)) h (fun h => ?_) (fun h => ?_)
  · exact hq _ _ _ _ _ _ lm1 hM1 ht2 h
  · refine spX10_isThing (fun r6 M4 t5 cr6 cM4 ct5 hr6 hM4 ht5 h => ?_) hM1 ht2 hv3 h
    refine e_ite (c_eq hr6 (rfl : (0 : Int32) = nI 0)) h (fun h => ?_) (fun h => ?_)
    · exact hq _ _ _ _ _ _ lm1 hM4 ht5 h
    · refine spX7_thingAt (fun r9 M7 t8 cr9 cM7 ct8 hr9 hM7 ht8 h => ?_) hM4 ht5 (rfl : (14 : Nat) = 14) hv1 hv2 h
      refine spX7_setThing (fun M10 t11 cM10 ct11 hM10 ht11 h => ?_) hM7 ht8 (rfl : (14 : Nat) = 14) hv1 hv2 hv3 h
      exact hq _ _ _ _ _ _ hr9 hM10 ht11 h
noncomputable def epX10_match (q : Nat → Nat → Nat → Bool) (cM ct cv1 cv2 : Nat) : Bool :=
  (epX1_isLot (fun cr3 cM1 ct2 => (@Bool.rec (fun _ => Bool) (epX1_matchOf (fun cr6 cM4 ct5 => (q cr6 cM4 ct5)) cM1 ct2 3 cv1 cv2) (q 4294967295 cM1 ct2) (eqN cr3 0))) cM ct 3 cv1 cv2)
set_option maxHeartbeats 4000000 in
set_option maxRecDepth 20000 in
theorem spX10_match {post : Int32 → MM → Int64 → Prop} {q : Nat → Nat → Nat → Bool} (hq : ∀ (r : Int32) (M : MM) (tl : Int64) (cr cM ct : Nat), r = nI cr → M = dM cM → tl = i64 ct → q cr cM ct = true → post r M tl) {M : MM} {tl : Int64} {v1 : Int32} {v2 : Int32} {cM ct cv1 cv2 : Nat} (hM : M = dM cM) (ht : tl = i64 ct) (hv1 : v1 = nI cv1) (hv2 : v2 = nI cv2) (h : epX10_match q  cM ct cv1 cv2 = true) : wpX10_match post  M tl v1 v2 := by
  unfold wpX10_match
  unfold epX10_match at h
  refine spX1_isLot (fun r3 M1 t2 cr3 cM1 ct2 hr3 hM1 ht2 h => ?_) hM ht (rfl : (3 : Nat) = 3) hv1 hv2 h
  refine e_ite (c_eq hr3 (rfl : (0 : Int32) = nI 0)) h (fun h => ?_) (fun h => ?_)
  · exact hq _ _ _ _ _ _ lm1 hM1 ht2 h
  · refine spX1_matchOf (fun r6 M4 t5 cr6 cM4 ct5 hr6 hM4 ht5 h => ?_) hM1 ht2 (rfl : (3 : Nat) = 3) hv1 hv2 h
    exact hq _ _ _ _ _ _ hr6 hM4 ht5 h
noncomputable def epX10_odd (q : Nat → Nat → Nat → Bool) (cM ct  : Nat) : Bool :=
  (epX1_unevenLots (fun cr3 cM1 ct2 => (q cr3 cM1 ct2)) cM ct 3 15)
set_option maxHeartbeats 4000000 in
set_option maxRecDepth 20000 in
theorem spX10_odd {post : Int32 → MM → Int64 → Prop} {q : Nat → Nat → Nat → Bool} (hq : ∀ (r : Int32) (M : MM) (tl : Int64) (cr cM ct : Nat), r = nI cr → M = dM cM → tl = i64 ct → q cr cM ct = true → post r M tl) {M : MM} {tl : Int64} {cM ct  : Nat} (hM : M = dM cM) (ht : tl = i64 ct)  (h : epX10_odd q  cM ct  = true) : wpX10_odd post  M tl  := by
  unfold wpX10_odd
  unfold epX10_odd at h
  refine spX1_unevenLots (fun r3 M1 t2 cr3 cM1 ct2 hr3 hM1 ht2 h => ?_) hM ht (rfl : (3 : Nat) = 3) (rfl : (15 : Nat) = 15) h
  exact hq _ _ _ _ _ _ hr3 hM1 ht2 h
noncomputable def epX10_third (q : Nat → Nat → Nat → Bool) (cM ct cv1 : Nat) : Bool :=
  (epX1_isLot (fun cr3 cM1 ct2 => (@Bool.rec (fun _ => Bool) (epX1_matchOf (fun cr6 cM4 ct5 => (@Bool.rec (fun _ => Bool) (epX7_thingAt (fun cr9 cM7 ct8 => (epX1_mirrorOf (fun cr12 cM10 ct11 => (q cr12 cM10 ct11)) cM7 ct8 3 cr9)) cM4 ct5 14 1 cr6) (q 4294967292 cM4 ct5) (eqN cr6 4294967292))) cM1 ct2 3 0 cv1) (q 4294967295 cM1 ct2) (eqN cr3 0))) cM ct 3 0 cv1)
set_option maxHeartbeats 4000000 in
set_option maxRecDepth 20000 in
theorem spX10_third {post : Int32 → MM → Int64 → Prop} {q : Nat → Nat → Nat → Bool} (hq : ∀ (r : Int32) (M : MM) (tl : Int64) (cr cM ct : Nat), r = nI cr → M = dM cM → tl = i64 ct → q cr cM ct = true → post r M tl) {M : MM} {tl : Int64} {v1 : Int32} {cM ct cv1 : Nat} (hM : M = dM cM) (ht : tl = i64 ct) (hv1 : v1 = nI cv1) (h : epX10_third q  cM ct cv1 = true) : wpX10_third post  M tl v1 := by
  unfold wpX10_third
  unfold epX10_third at h
  refine spX1_isLot (fun r3 M1 t2 cr3 cM1 ct2 hr3 hM1 ht2 h => ?_) hM ht (rfl : (3 : Nat) = 3) (rfl : (0 : Int32) = nI 0) hv1 h
  refine e_ite (c_eq hr3 (rfl : (0 : Int32) = nI 0)) h (fun h => ?_) (fun h => ?_)
  · exact hq _ _ _ _ _ _ lm1 hM1 ht2 h
  · refine spX1_matchOf (fun r6 M4 t5 cr6 cM4 ct5 hr6 hM4 ht5 h => ?_) hM1 ht2 (rfl : (3 : Nat) = 3) (rfl : (0 : Int32) = nI 0) hv1 h
    refine e_ite (c_eq hr6 lm4) h (fun h => ?_) (fun h => ?_)
    · exact hq _ _ _ _ _ _ lm4 hM4 ht5 h
    · refine spX7_thingAt (fun r9 M7 t8 cr9 cM7 ct8 hr9 hM7 ht8 h => ?_) hM4 ht5 (rfl : (14 : Nat) = 14) (rfl : (1 : Int32) = nI 1) hr6 h
      refine spX1_mirrorOf (fun r12 M10 t11 cr12 cM10 ct11 hr12 hM10 ht11 h => ?_) hM7 ht8 (rfl : (3 : Nat) = 3) hr9 h
      exact hq _ _ _ _ _ _ hr12 hM10 ht11 h
noncomputable def epX10_after (q : Nat → Nat → Nat → Bool) (cM ct cv1 cv2 cv3 : Nat) : Bool :=
  (@Bool.rec (fun _ => Bool) (@Bool.rec (fun _ => Bool) (epX1_isLot (fun cr3 cM1 ct2 => (@Bool.rec (fun _ => Bool) (epX6_runMonths (fun cM4 ct5 => (epX10_slot (fun cr8 cM6 ct7 => (@Bool.rec (fun _ => Bool) false (q (rd cM6 43 (tN cr8)) cM6 ct7) (inN cr8 (alF 43)))) cM4 ct5 cv2 cv3)) cM1 ct2 cv1) (q 4294967295 cM1 ct2) (eqN cr3 0))) cM ct 3 cv2 cv3) (q 4294967295 cM ct) (ltN 24 cv1)) (q 4294967295 cM ct) (ltN cv1 0))
set_option maxHeartbeats 4000000 in
set_option maxRecDepth 20000 in
theorem spX10_after {post : Int32 → MM → Int64 → Prop} {q : Nat → Nat → Nat → Bool} (hq : ∀ (r : Int32) (M : MM) (tl : Int64) (cr cM ct : Nat), r = nI cr → M = dM cM → tl = i64 ct → q cr cM ct = true → post r M tl) {M : MM} {tl : Int64} {v1 : Int32} {v2 : Int32} {v3 : Int32} {cM ct cv1 cv2 cv3 : Nat} (hM : M = dM cM) (ht : tl = i64 ct) (hv1 : v1 = nI cv1) (hv2 : v2 = nI cv2) (hv3 : v3 = nI cv3) (h : epX10_after q  cM ct cv1 cv2 cv3 = true) : wpX10_after post  M tl v1 v2 v3 := by
  unfold wpX10_after
  unfold epX10_after at h
  refine e_ite (c_lt hv1 (rfl : (0 : Int32) = nI 0)) h (fun h => ?_) (fun h => ?_)
  · exact hq _ _ _ _ _ _ lm1 hM ht h
  · refine e_ite (c_lt (rfl : (24 : Int32) = nI 24) hv1) h (fun h => ?_) (fun h => ?_)
    · exact hq _ _ _ _ _ _ lm1 hM ht h
    · refine spX1_isLot (fun r3 M1 t2 cr3 cM1 ct2 hr3 hM1 ht2 h => ?_) hM ht (rfl : (3 : Nat) = 3) hv2 hv3 h
      refine e_ite (c_eq hr3 (rfl : (0 : Int32) = nI 0)) h (fun h => ?_) (fun h => ?_)
      · exact hq _ _ _ _ _ _ lm1 hM1 ht2 h
      · refine spX6_runMonths (fun M4 t5 cM4 ct5 hM4 ht5 h => ?_) hM1 ht2 hv1 h
        refine spX10_slot (fun r8 M6 t7 cr8 cM6 ct7 hr8 hM6 ht7 h => ?_) hM4 ht5 hv2 hv3 h
        refine e_and (k_in hr8 (r_al (rfl : (43 : Nat) = 43))) h (fun h => ?_)
        exact hq _ _ _ _ _ _ (r_rd hM6 (rfl : (43 : Nat) = 43) (r_nat hr8)) hM6 ht7 h
noncomputable def epX10_paid (q : Nat → Nat → Nat → Bool) (cM ct cv1 cv2 : Nat) : Bool :=
  (@Bool.rec (fun _ => Bool) (@Bool.rec (fun _ => Bool) (epX10_isBank (fun cr3 cM1 ct2 => (@Bool.rec (fun _ => Bool) (epX6_runMonths (fun cM4 ct5 => (@Bool.rec (fun _ => Bool) false (q (rd cM4 44 (tN cv2)) cM4 ct5) (inN cv2 (alF 44)))) cM1 ct2 cv1) (q 4294967295 cM1 ct2) (eqN cr3 0))) cM ct cv2) (q 4294967295 cM ct) (ltN 24 cv1)) (q 4294967295 cM ct) (ltN cv1 0))
set_option maxHeartbeats 4000000 in
set_option maxRecDepth 20000 in
theorem spX10_paid {post : Int32 → MM → Int64 → Prop} {q : Nat → Nat → Nat → Bool} (hq : ∀ (r : Int32) (M : MM) (tl : Int64) (cr cM ct : Nat), r = nI cr → M = dM cM → tl = i64 ct → q cr cM ct = true → post r M tl) {M : MM} {tl : Int64} {v1 : Int32} {v2 : Int32} {cM ct cv1 cv2 : Nat} (hM : M = dM cM) (ht : tl = i64 ct) (hv1 : v1 = nI cv1) (hv2 : v2 = nI cv2) (h : epX10_paid q  cM ct cv1 cv2 = true) : wpX10_paid post  M tl v1 v2 := by
  unfold wpX10_paid
  unfold epX10_paid at h
  refine e_ite (c_lt hv1 (rfl : (0 : Int32) = nI 0)) h (fun h => ?_) (fun h => ?_)
  · exact hq _ _ _ _ _ _ lm1 hM ht h
  · refine e_ite (c_lt (rfl : (24 : Int32) = nI 24) hv1) h (fun h => ?_) (fun h => ?_)
    · exact hq _ _ _ _ _ _ lm1 hM ht h
    · refine spX10_isBank (fun r3 M1 t2 cr3 cM1 ct2 hr3 hM1 ht2 h => ?_) hM ht hv2 h
      refine e_ite (c_eq hr3 (rfl : (0 : Int32) = nI 0)) h (fun h => ?_) (fun h => ?_)
      · exact hq _ _ _ _ _ _ lm1 hM1 ht2 h
      · refine spX6_runMonths (fun M4 t5 cM4 ct5 hM4 ht5 h => ?_) hM1 ht2 hv1 h
        refine e_and (k_in hv2 (r_al (rfl : (44 : Nat) = 44))) h (fun h => ?_)
        exact hq _ _ _ _ _ _ (r_rd hM4 (rfl : (44 : Nat) = 44) (r_nat hv2)) hM4 ht5 h
noncomputable def epX10_owes (q : Nat → Nat → Nat → Bool) (cM ct cv1 cv2 : Nat) : Bool :=
  (@Bool.rec (fun _ => Bool) (@Bool.rec (fun _ => Bool) (epX10_isBank (fun cr3 cM1 ct2 => (@Bool.rec (fun _ => Bool) (epX6_runMonths (fun cM4 ct5 => (epX6_lotsOwedBy (fun cr8 cM6 ct7 => (q cr8 cM6 ct7)) cM4 ct5 cv2)) cM1 ct2 cv1) (q 4294967295 cM1 ct2) (eqN cr3 0))) cM ct cv2) (q 4294967295 cM ct) (ltN 24 cv1)) (q 4294967295 cM ct) (ltN cv1 0))
set_option maxHeartbeats 4000000 in
set_option maxRecDepth 20000 in
theorem spX10_owes {post : Int32 → MM → Int64 → Prop} {q : Nat → Nat → Nat → Bool} (hq : ∀ (r : Int32) (M : MM) (tl : Int64) (cr cM ct : Nat), r = nI cr → M = dM cM → tl = i64 ct → q cr cM ct = true → post r M tl) {M : MM} {tl : Int64} {v1 : Int32} {v2 : Int32} {cM ct cv1 cv2 : Nat} (hM : M = dM cM) (ht : tl = i64 ct) (hv1 : v1 = nI cv1) (hv2 : v2 = nI cv2) (h : epX10_owes q  cM ct cv1 cv2 = true) : wpX10_owes post  M tl v1 v2 := by
  unfold wpX10_owes
  unfold epX10_owes at h
  refine e_ite (c_lt hv1 (rfl : (0 : Int32) = nI 0)) h (fun h => ?_) (fun h => ?_)
  · exact hq _ _ _ _ _ _ lm1 hM ht h
  · refine e_ite (c_lt (rfl : (24 : Int32) = nI 24) hv1) h (fun h => ?_) (fun h => ?_)
    · exact hq _ _ _ _ _ _ lm1 hM ht h
    · refine spX10_isBank (fun r3 M1 t2 cr3 cM1 ct2 hr3 hM1 ht2 h => ?_) hM ht hv2 h
      refine e_ite (c_eq hr3 (rfl : (0 : Int32) = nI 0)) h (fun h => ?_) (fun h => ?_)
      · exact hq _ _ _ _ _ _ lm1 hM1 ht2 h
      · refine spX6_runMonths (fun M4 t5 cM4 ct5 hM4 ht5 h => ?_) hM1 ht2 hv1 h
        refine spX6_lotsOwedBy (fun r8 M6 t7 cr8 cM6 ct7 hr8 hM6 ht7 h => ?_) hM4 ht5 hv2 h
        exact hq _ _ _ _ _ _ hr8 hM6 ht7 h
noncomputable def epX10_fate (q : Nat → Nat → Nat → Bool) (cM ct cv1 : Nat) : Bool :=
  (@Bool.rec (fun _ => Bool) (@Bool.rec (fun _ => Bool) (@Bool.rec (fun _ => Bool) (q 4294967295 cM ct) (epX6_runMonths (fun cM1 ct2 => (@Bool.rec (fun _ => Bool) false (q (rd cM1 45 (tN cv1)) cM1 ct2) (inN cv1 (alF 45)))) cM ct 24) (ltN cv1 12)) (q 4294967295 cM ct) (leN (rd cM 16 3) cv1)) (q 4294967295 cM ct) (ltN cv1 0))
set_option maxHeartbeats 4000000 in
set_option maxRecDepth 20000 in
theorem spX10_fate {post : Int32 → MM → Int64 → Prop} {q : Nat → Nat → Nat → Bool} (hq : ∀ (r : Int32) (M : MM) (tl : Int64) (cr cM ct : Nat), r = nI cr → M = dM cM → tl = i64 ct → q cr cM ct = true → post r M tl) {M : MM} {tl : Int64} {v1 : Int32} {cM ct cv1 : Nat} (hM : M = dM cM) (ht : tl = i64 ct) (hv1 : v1 = nI cv1) (h : epX10_fate q  cM ct cv1 = true) : wpX10_fate post  M tl v1 := by
  unfold wpX10_fate
  unfold epX10_fate at h
  refine e_ite (c_lt hv1 (rfl : (0 : Int32) = nI 0)) h (fun h => ?_) (fun h => ?_)
  · exact hq _ _ _ _ _ _ lm1 hM ht h
  · refine e_ite (c_le (r_rd hM (rfl : (16 : Nat) = 16) (rfl : (3 : Nat) = 3)) hv1) h (fun h => ?_) (fun h => ?_)
    · exact hq _ _ _ _ _ _ lm1 hM ht h
    · refine e_ite (c_lt hv1 (rfl : (12 : Int32) = nI 12)) h (fun h => ?_) (fun h => ?_)
      · refine spX6_runMonths (fun M1 t2 cM1 ct2 hM1 ht2 h => ?_) hM ht (rfl : (24 : Int32) = nI 24) h
        refine e_and (k_in hv1 (r_al (rfl : (45 : Nat) = 45))) h (fun h => ?_)
        exact hq _ _ _ _ _ _ (r_rd hM1 (rfl : (45 : Nat) = 45) (r_nat hv1)) hM1 ht2 h
      · exact hq _ _ _ _ _ _ lm1 hM ht h
noncomputable def eX10_firstLot_2 (q : Nat → Nat → Nat → Bool) (n : Nat) : Nat → Nat → Nat → Nat → Bool :=
  @Nat.rec (fun _ => Nat → Nat → Nat → Nat → Bool) (fun _ _ _ _ => false) (fun _ ih cM ct cv0 cv1 => (@Bool.rec (fun _ => Bool) (@Bool.rec (fun _ => Bool) (q cv1 cM ct) (ih cM ct cv0 (aN cv1 1)) (eqN (Nat.land (b2 f_shr cv0 cv1) 1) 0)) (q 4294967292 cM ct) (leN 8 cv1))) n
set_option maxHeartbeats 4000000 in
set_option maxRecDepth 20000 in
theorem sX10_firstLot_2 {post : Int32 → MM → Int64 → Prop} {q : Nat → Nat → Nat → Bool} (hq : ∀ (r : Int32) (M : MM) (tl : Int64) (cr cM ct : Nat), r = nI cr → M = dM cM → tl = i64 ct → q cr cM ct = true → post r M tl) : ∀ (n : Nat) (M : MM) (tl : Int64) (v0 : Int32) (v1 : Int32) (cM ct cv0 cv1 : Nat), M = dM cM → tl = i64 ct → v0 = nI cv0 → v1 = nI cv1 → eX10_firstLot_2 q  n cM ct cv0 cv1 = true → wX10_firstLot_2 post  n M tl v0 v1 := by
  intro n
  induction n with
  | zero => intro M tl v0 v1 cM ct cv0 cv1 hM ht hv0 hv1 h; exact Bool.noConfusion h
  | succ n ih =>
    intro M tl v0 v1 cM ct cv0 cv1 hM ht hv0 hv1 h
    unfold wX10_firstLot_2
    refine e_ite (c_le (rfl : (8 : Int32) = nI 8) hv1) h (fun h => ?_) (fun h => ?_)
    · exact hq _ _ _ _ _ _ lm4 hM ht h
    · refine e_ite (c_eq (r_and (r_b2 f_shr hv0 hv1) (rfl : (1 : Int32) = nI 1)) (rfl : (0 : Int32) = nI 0)) h (fun h => ?_) (fun h => ?_)
      · exact ih _ _ _ _ _ _ _ _ hM ht hv0 (r_add hv1 (rfl : (1 : Int32) = nI 1)) h
      · exact hq _ _ _ _ _ _ hv1 hM ht h
noncomputable def epX10_firstLot (q : Nat → Nat → Nat → Bool) (cM ct cv0 : Nat) : Bool :=
  (eX10_firstLot_2 q  5000 cM ct cv0 0)
set_option maxHeartbeats 4000000 in
set_option maxRecDepth 20000 in
theorem spX10_firstLot {post : Int32 → MM → Int64 → Prop} {q : Nat → Nat → Nat → Bool} (hq : ∀ (r : Int32) (M : MM) (tl : Int64) (cr cM ct : Nat), r = nI cr → M = dM cM → tl = i64 ct → q cr cM ct = true → post r M tl) {M : MM} {tl : Int64} {v0 : Int32} {cM ct cv0 : Nat} (hM : M = dM cM) (ht : tl = i64 ct) (hv0 : v0 = nI cv0) (h : epX10_firstLot q  cM ct cv0 = true) : wpX10_firstLot post  M tl v0 := by
  unfold wpX10_firstLot
  unfold epX10_firstLot at h
  exact ⟨5000, sX10_firstLot_2 hq  5000 _ _ _ _ _ _ _ _ hM ht hv0 (rfl : (0 : Int32) = nI 0) h⟩
noncomputable def eX10_uneven_20 (q : Nat → Nat → Nat → Bool) (n : Nat) : Nat → Nat → Nat → Nat → Bool :=
  @Nat.rec (fun _ => Nat → Nat → Nat → Nat → Bool) (fun _ _ _ _ => false) (fun _ ih cM ct cv1 cv2 => (@Bool.rec (fun _ => Bool) (epX6_runMonth (fun cM1 ct2 => (epX1_unevenLots (fun cr5 cM3 ct4 => (@Bool.rec (fun _ => Bool) (@Bool.rec (fun _ => Bool) (epX10_firstLot (fun cr8 cM6 ct7 => (q cr8 cM6 ct7)) cM3 ct4 cr5) (q cv2 cM3 ct4) (eqN cv1 0)) (ih cM3 ct4 cv1 (aN cv2 1)) (eqN cr5 0))) cM1 ct2 3 43)) cM ct cv2) (q 4294967292 cM ct) (leN 24 cv2))) n
set_option maxHeartbeats 4000000 in
set_option maxRecDepth 20000 in
theorem sX10_uneven_20 {post : Int32 → MM → Int64 → Prop} {q : Nat → Nat → Nat → Bool} (hq : ∀ (r : Int32) (M : MM) (tl : Int64) (cr cM ct : Nat), r = nI cr → M = dM cM → tl = i64 ct → q cr cM ct = true → post r M tl) : ∀ (n : Nat) (M : MM) (tl : Int64) (v1 : Int32) (v2 : Int32) (cM ct cv1 cv2 : Nat), M = dM cM → tl = i64 ct → v1 = nI cv1 → v2 = nI cv2 → eX10_uneven_20 q  n cM ct cv1 cv2 = true → wX10_uneven_20 post  n M tl v1 v2 := by
  intro n
  induction n with
  | zero => intro M tl v1 v2 cM ct cv1 cv2 hM ht hv1 hv2 h; exact Bool.noConfusion h
  | succ n ih =>
    intro M tl v1 v2 cM ct cv1 cv2 hM ht hv1 hv2 h
    unfold wX10_uneven_20
    refine e_ite (c_le (rfl : (24 : Int32) = nI 24) hv2) h (fun h => ?_) (fun h => ?_)
    · exact hq _ _ _ _ _ _ lm4 hM ht h
    · refine spX6_runMonth (fun M1 t2 cM1 ct2 hM1 ht2 h => ?_) hM ht hv2 h
      refine spX1_unevenLots (fun r5 M3 t4 cr5 cM3 ct4 hr5 hM3 ht4 h => ?_) hM1 ht2 (rfl : (3 : Nat) = 3) (rfl : (43 : Nat) = 43) h
      refine e_ite (c_eq hr5 (rfl : (0 : Int32) = nI 0)) h (fun h => ?_) (fun h => ?_)
      · exact ih _ _ _ _ _ _ _ _ hM3 ht4 hv1 (r_add hv2 (rfl : (1 : Int32) = nI 1)) h
      · refine e_ite (c_eq hv1 (rfl : (0 : Int32) = nI 0)) h (fun h => ?_) (fun h => ?_)
        · exact hq _ _ _ _ _ _ hv2 hM3 ht4 h
        · refine spX10_firstLot (fun r8 M6 t7 cr8 cM6 ct7 hr8 hM6 ht7 h => ?_) hM3 ht4 hr5 h
          exact hq _ _ _ _ _ _ hr8 hM6 ht7 h
noncomputable def epX10_uneven (q : Nat → Nat → Nat → Bool) (cM ct cv1 : Nat) : Bool :=
  (@Bool.rec (fun _ => Bool) (@Bool.rec (fun _ => Bool) (q 4294967295 cM ct) (epX6_start (fun cM1 ct2 => (eX10_uneven_20 q  5000 cM1 ct2 cv1 0)) cM ct) (leN cv1 1)) (q 4294967295 cM ct) (ltN cv1 0))
set_option maxHeartbeats 4000000 in
set_option maxRecDepth 20000 in
theorem spX10_uneven {post : Int32 → MM → Int64 → Prop} {q : Nat → Nat → Nat → Bool} (hq : ∀ (r : Int32) (M : MM) (tl : Int64) (cr cM ct : Nat), r = nI cr → M = dM cM → tl = i64 ct → q cr cM ct = true → post r M tl) {M : MM} {tl : Int64} {v1 : Int32} {cM ct cv1 : Nat} (hM : M = dM cM) (ht : tl = i64 ct) (hv1 : v1 = nI cv1) (h : epX10_uneven q  cM ct cv1 = true) : wpX10_uneven post  M tl v1 := by
  unfold wpX10_uneven
  unfold epX10_uneven at h
  refine e_ite (c_lt hv1 (rfl : (0 : Int32) = nI 0)) h (fun h => ?_) (fun h => ?_)
  · exact hq _ _ _ _ _ _ lm1 hM ht h
  · refine e_ite (c_le hv1 (rfl : (1 : Int32) = nI 1)) h (fun h => ?_) (fun h => ?_)
    · refine spX6_start (fun M1 t2 cM1 ct2 hM1 ht2 h => ?_) hM ht h
      exact ⟨5000, sX10_uneven_20 hq  5000 _ _ _ _ _ _ _ _ hM1 ht2 hv1 (rfl : (0 : Int32) = nI 0) h⟩
    · exact hq _ _ _ _ _ _ lm1 hM ht h
noncomputable def epX10_go (q : Nat → Nat → Nat → Bool) (cM ct  : Nat) : Bool :=
  (epX6_runMonths (fun cM1 ct2 => (epX6_worksDone (fun cr5 cM3 ct4 => (@Bool.rec (fun _ => Bool) false (@Bool.rec (fun _ => Bool) false (cpB (fun cM8 => (wrB (fun cM9 => (q cr5 cM9 ct4)) cM8 16 3 0)) cM3 43 15 (tN 16)) (Nat.ble (Nat.add (tN 0) (tN 16)) (alF 15))) (Nat.ble (Nat.add (tN 0) (tN 16)) (alF 43)))) cM1 ct2)) cM ct 24)
set_option maxHeartbeats 4000000 in
set_option maxRecDepth 20000 in
theorem spX10_go {post : Int32 → MM → Int64 → Prop} {q : Nat → Nat → Nat → Bool} (hq : ∀ (r : Int32) (M : MM) (tl : Int64) (cr cM ct : Nat), r = nI cr → M = dM cM → tl = i64 ct → q cr cM ct = true → post r M tl) {M : MM} {tl : Int64} {cM ct  : Nat} (hM : M = dM cM) (ht : tl = i64 ct)  (h : epX10_go q  cM ct  = true) : wpX10_go post  M tl  := by
  unfold wpX10_go
  unfold epX10_go at h
  refine spX6_runMonths (fun M1 t2 cM1 ct2 hM1 ht2 h => ?_) hM ht (rfl : (24 : Int32) = nI 24) h
  refine spX6_worksDone (fun r5 M3 t4 cr5 cM3 ct4 hr5 hM3 ht4 h => ?_) hM1 ht2 h
  refine e_and (k_le (n_add (r_nat (rfl : (0 : Int32) = nI 0)) (r_nat (rfl : (16 : Int32) = nI 16))) (r_al (rfl : (43 : Nat) = 43))) h (fun h => ?_)
  refine e_and (k_le (n_add (r_nat (rfl : (0 : Int32) = nI 0)) (r_nat (rfl : (16 : Int32) = nI 16))) (r_al (rfl : (15 : Nat) = 15))) h (fun h => ?_)
  refine e_cp h hM3 (rfl : (43 : Nat) = 43) (rfl : (15 : Nat) = 15) (r_nat (rfl : (16 : Int32) = nI 16)) (fun M8 cM8 hM8 h => ?_)
  refine e_wr h hM8 (rfl : (16 : Nat) = 16) (rfl : (3 : Nat) = 3) (rfl : (0 : Int32) = nI 0) (fun M9 cM9 hM9 h => ?_)
  exact hq _ _ _ _ _ _ hr5 hM9 ht4 h
noncomputable def epX10_plot (q : Nat → Nat → Nat → Bool) (cM ct cv1 cv2 cv3 cv4 : Nat) : Bool :=
  (epX7_lastMonth (fun cr3 cM1 ct2 => (@Bool.rec (fun _ => Bool) (@Bool.rec (fun _ => Bool) (epX1_isLot (fun cr6 cM4 ct5 => (@Bool.rec (fun _ => Bool) (epX10_isThing (fun cr9 cM7 ct8 => (@Bool.rec (fun _ => Bool) (epX5_isFull (fun cr12 cM10 ct11 => (@Bool.rec (fun _ => Bool) (q 4294967293 cM10 ct11) (epX5_addRow (fun cM13 ct14 => (q (rd cM13 16 3) cM13 ct14)) cM10 ct11 16 cv1 cv2 cv3 cv4) (eqN cr12 0))) cM7 ct8 16) (q 4294967295 cM7 ct8) (eqN cr9 0))) cM4 ct5 cv4) (q 4294967295 cM4 ct5) (eqN cr6 0))) cM1 ct2 3 cv2 cv3) (q 4294967295 cM1 ct2) (leN 24 cv1)) (q 4294967295 cM1 ct2) (ltN cv1 cr3))) cM ct 14)
set_option maxHeartbeats 4000000 in
set_option maxRecDepth 20000 in
theorem spX10_plot {post : Int32 → MM → Int64 → Prop} {q : Nat → Nat → Nat → Bool} (hq : ∀ (r : Int32) (M : MM) (tl : Int64) (cr cM ct : Nat), r = nI cr → M = dM cM → tl = i64 ct → q cr cM ct = true → post r M tl) {M : MM} {tl : Int64} {v1 : Int32} {v2 : Int32} {v3 : Int32} {v4 : Int32} {cM ct cv1 cv2 cv3 cv4 : Nat} (hM : M = dM cM) (ht : tl = i64 ct) (hv1 : v1 = nI cv1) (hv2 : v2 = nI cv2) (hv3 : v3 = nI cv3) (hv4 : v4 = nI cv4) (h : epX10_plot q  cM ct cv1 cv2 cv3 cv4 = true) : wpX10_plot post  M tl v1 v2 v3 v4 := by
  unfold wpX10_plot
  unfold epX10_plot at h
  refine spX7_lastMonth (fun r3 M1 t2 cr3 cM1 ct2 hr3 hM1 ht2 h => ?_) hM ht (rfl : (14 : Nat) = 14) h
  refine e_ite (c_lt hv1 hr3) h (fun h => ?_) (fun h => ?_)
  · exact hq _ _ _ _ _ _ lm1 hM1 ht2 h
  · refine e_ite (c_le (rfl : (24 : Int32) = nI 24) hv1) h (fun h => ?_) (fun h => ?_)
    · exact hq _ _ _ _ _ _ lm1 hM1 ht2 h
    · refine spX1_isLot (fun r6 M4 t5 cr6 cM4 ct5 hr6 hM4 ht5 h => ?_) hM1 ht2 (rfl : (3 : Nat) = 3) hv2 hv3 h
      refine e_ite (c_eq hr6 (rfl : (0 : Int32) = nI 0)) h (fun h => ?_) (fun h => ?_)
      · exact hq _ _ _ _ _ _ lm1 hM4 ht5 h
      · refine spX10_isThing (fun r9 M7 t8 cr9 cM7 ct8 hr9 hM7 ht8 h => ?_) hM4 ht5 hv4 h
        refine e_ite (c_eq hr9 (rfl : (0 : Int32) = nI 0)) h (fun h => ?_) (fun h => ?_)
        · exact hq _ _ _ _ _ _ lm1 hM7 ht8 h
        · refine spX5_isFull (fun r12 M10 t11 cr12 cM10 ct11 hr12 hM10 ht11 h => ?_) hM7 ht8 (rfl : (16 : Nat) = 16) h
          refine e_ite (c_eq hr12 (rfl : (0 : Int32) = nI 0)) h (fun h => ?_) (fun h => ?_)
          · refine spX5_addRow (fun M13 t14 cM13 ct14 hM13 ht14 h => ?_) hM10 ht11 (rfl : (16 : Nat) = 16) hv1 hv2 hv3 hv4 h
            exact hq _ _ _ _ _ _ (r_rd hM13 (rfl : (16 : Nat) = 16) (rfl : (3 : Nat) = 3)) hM13 ht14 h
          · exact hq _ _ _ _ _ _ lm3 hM10 ht11 h
noncomputable def epX10_gain (q : Nat → Nat → Nat → Bool) (cM ct cv1 cv2 cv3 : Nat) : Bool :=
  (epX1_isLot (fun cr3 cM1 ct2 => (@Bool.rec (fun _ => Bool) (epX10_isBuilt (fun cr6 cM4 ct5 => (@Bool.rec (fun _ => Bool) (epX0_gainOf (fun cr9 cM7 ct8 => (q (aN cr9 1000) cM7 ct8)) cM4 ct5 cv1 cv2 cv3) (q 4294967295 cM4 ct5) (eqN cr6 0))) cM1 ct2 cv3) (q 4294967295 cM1 ct2) (eqN cr3 0))) cM ct 3 cv1 cv2)
set_option maxHeartbeats 4000000 in
set_option maxRecDepth 20000 in
theorem spX10_gain {post : Int32 → MM → Int64 → Prop} {q : Nat → Nat → Nat → Bool} (hq : ∀ (r : Int32) (M : MM) (tl : Int64) (cr cM ct : Nat), r = nI cr → M = dM cM → tl = i64 ct → q cr cM ct = true → post r M tl) {M : MM} {tl : Int64} {v1 : Int32} {v2 : Int32} {v3 : Int32} {cM ct cv1 cv2 cv3 : Nat} (hM : M = dM cM) (ht : tl = i64 ct) (hv1 : v1 = nI cv1) (hv2 : v2 = nI cv2) (hv3 : v3 = nI cv3) (h : epX10_gain q  cM ct cv1 cv2 cv3 = true) : wpX10_gain post  M tl v1 v2 v3 := by
  unfold wpX10_gain
  unfold epX10_gain at h
  refine spX1_isLot (fun r3 M1 t2 cr3 cM1 ct2 hr3 hM1 ht2 h => ?_) hM ht (rfl : (3 : Nat) = 3) hv1 hv2 h
  refine e_ite (c_eq hr3 (rfl : (0 : Int32) = nI 0)) h (fun h => ?_) (fun h => ?_)
  · exact hq _ _ _ _ _ _ lm1 hM1 ht2 h
  · refine spX10_isBuilt (fun r6 M4 t5 cr6 cM4 ct5 hr6 hM4 ht5 h => ?_) hM1 ht2 hv3 h
    refine e_ite (c_eq hr6 (rfl : (0 : Int32) = nI 0)) h (fun h => ?_) (fun h => ?_)
    · exact hq _ _ _ _ _ _ lm1 hM4 ht5 h
    · refine spX0_gainOf (fun r9 M7 t8 cr9 cM7 ct8 hr9 hM7 ht8 h => ?_) hM4 ht5 hv1 hv2 hv3 h
      exact hq _ _ _ _ _ _ (r_add hr9 (rfl : (1000 : Int32) = nI 1000)) hM7 ht8 h
noncomputable def epX10_begin (q : Nat → Nat → Nat → Bool) (cM ct cv1 cv2 cv3 : Nat) : Bool :=
  (epX1_isLot (fun cr3 cM1 ct2 => (@Bool.rec (fun _ => Bool) (@Bool.rec (fun _ => Bool) (@Bool.rec (fun _ => Bool) (q 4294967295 cM1 ct2) (epX0_bestKind (fun cr6 cM4 ct5 => (@Bool.rec (fun _ => Bool) (@Bool.rec (fun _ => Bool) (epX0_gainOf (fun cr9 cM7 ct8 => (q cr9 cM7 ct8)) cM4 ct5 cv1 cv2 cr6) (q cr6 cM4 ct5) (eqN cv3 0)) (q 4294967292 cM4 ct5) (eqN cr6 0))) cM1 ct2 cv1 cv2) (leN cv3 1)) (q 4294967295 cM1 ct2) (ltN cv3 0)) (q 4294967295 cM1 ct2) (eqN cr3 0))) cM ct 3 cv1 cv2)
set_option maxHeartbeats 4000000 in
set_option maxRecDepth 20000 in
theorem spX10_begin {post : Int32 → MM → Int64 → Prop} {q : Nat → Nat → Nat → Bool} (hq : ∀ (r : Int32) (M : MM) (tl : Int64) (cr cM ct : Nat), r = nI cr → M = dM cM → tl = i64 ct → q cr cM ct = true → post r M tl) {M : MM} {tl : Int64} {v1 : Int32} {v2 : Int32} {v3 : Int32} {cM ct cv1 cv2 cv3 : Nat} (hM : M = dM cM) (ht : tl = i64 ct) (hv1 : v1 = nI cv1) (hv2 : v2 = nI cv2) (hv3 : v3 = nI cv3) (h : epX10_begin q  cM ct cv1 cv2 cv3 = true) : wpX10_begin post  M tl v1 v2 v3 := by
  unfold wpX10_begin
  unfold epX10_begin at h
  refine spX1_isLot (fun r3 M1 t2 cr3 cM1 ct2 hr3 hM1 ht2 h => ?_) hM ht (rfl : (3 : Nat) = 3) hv1 hv2 h
  refine e_ite (c_eq hr3 (rfl : (0 : Int32) = nI 0)) h (fun h => ?_) (fun h => ?_)
  · exact hq _ _ _ _ _ _ lm1 hM1 ht2 h
  · refine e_ite (c_lt hv3 (rfl : (0 : Int32) = nI 0)) h (fun h => ?_) (fun h => ?_)
    · exact hq _ _ _ _ _ _ lm1 hM1 ht2 h
    · refine e_ite (c_le hv3 (rfl : (1 : Int32) = nI 1)) h (fun h => ?_) (fun h => ?_)
      · refine spX0_bestKind (fun r6 M4 t5 cr6 cM4 ct5 hr6 hM4 ht5 h => ?_) hM1 ht2 hv1 hv2 h
        refine e_ite (c_eq hr6 (rfl : (0 : Int32) = nI 0)) h (fun h => ?_) (fun h => ?_)
        · exact hq _ _ _ _ _ _ lm4 hM4 ht5 h
        · refine e_ite (c_eq hv3 (rfl : (0 : Int32) = nI 0)) h (fun h => ?_) (fun h => ?_)
          · exact hq _ _ _ _ _ _ hr6 hM4 ht5 h
          · refine spX0_gainOf (fun r9 M7 t8 cr9 cM7 ct8 hr9 hM7 ht8 h => ?_) hM4 ht5 hv1 hv2 hr6 h
            exact hq _ _ _ _ _ _ hr9 hM7 ht8 h
      · exact hq _ _ _ _ _ _ lm1 hM1 ht2 h
noncomputable def epX10_waits (q : Nat → Nat → Nat → Bool) (cM ct cv1 cv2 : Nat) : Bool :=
  (epX1_isLot (fun cr3 cM1 ct2 => (@Bool.rec (fun _ => Bool) (epX1_matchOf (fun cr6 cM4 ct5 => (@Bool.rec (fun _ => Bool) (epX0_bestKind (fun cr9 cM7 ct8 => (@Bool.rec (fun _ => Bool) (epX1_twinOf (fun cr12 cM10 ct11 => (epX0_gainOf (fun cr15 cM13 ct14 => (q (aN cr15 1000) cM13 ct14)) cM10 ct11 cv1 cv2 cr12)) cM7 ct8 3 cr9) (q 1000 cM7 ct8) (eqN cr9 0))) cM4 ct5 (sN 1 cv1) cr6) (q 4294967294 cM4 ct5) (eqN cr6 4294967292))) cM1 ct2 3 cv1 cv2) (q 4294967295 cM1 ct2) (eqN cr3 0))) cM ct 3 cv1 cv2)
set_option maxHeartbeats 4000000 in
set_option maxRecDepth 20000 in
theorem spX10_waits {post : Int32 → MM → Int64 → Prop} {q : Nat → Nat → Nat → Bool} (hq : ∀ (r : Int32) (M : MM) (tl : Int64) (cr cM ct : Nat), r = nI cr → M = dM cM → tl = i64 ct → q cr cM ct = true → post r M tl) {M : MM} {tl : Int64} {v1 : Int32} {v2 : Int32} {cM ct cv1 cv2 : Nat} (hM : M = dM cM) (ht : tl = i64 ct) (hv1 : v1 = nI cv1) (hv2 : v2 = nI cv2) (h : epX10_waits q  cM ct cv1 cv2 = true) : wpX10_waits post  M tl v1 v2 := by
  unfold wpX10_waits
  unfold epX10_waits at h
  refine spX1_isLot (fun r3 M1 t2 cr3 cM1 ct2 hr3 hM1 ht2 h => ?_) hM ht (rfl : (3 : Nat) = 3) hv1 hv2 h
  refine e_ite (c_eq hr3 (rfl : (0 : Int32) = nI 0)) h (fun h => ?_) (fun h => ?_)
  · exact hq _ _ _ _ _ _ lm1 hM1 ht2 h
  · refine spX1_matchOf (fun r6 M4 t5 cr6 cM4 ct5 hr6 hM4 ht5 h => ?_) hM1 ht2 (rfl : (3 : Nat) = 3) hv1 hv2 h
    refine e_ite (c_eq hr6 lm4) h (fun h => ?_) (fun h => ?_)
    · exact hq _ _ _ _ _ _ lm2 hM4 ht5 h
    · refine spX0_bestKind (fun r9 M7 t8 cr9 cM7 ct8 hr9 hM7 ht8 h => ?_) hM4 ht5 (r_sub (rfl : (1 : Int32) = nI 1) hv1) hr6 h
      refine e_ite (c_eq hr9 (rfl : (0 : Int32) = nI 0)) h (fun h => ?_) (fun h => ?_)
      · exact hq _ _ _ _ _ _ (rfl : (1000 : Int32) = nI 1000) hM7 ht8 h
      · refine spX1_twinOf (fun r12 M10 t11 cr12 cM10 ct11 hr12 hM10 ht11 h => ?_) hM7 ht8 (rfl : (3 : Nat) = 3) hr9 h
        refine spX0_gainOf (fun r15 M13 t14 cr15 cM13 ct14 hr15 hM13 ht14 h => ?_) hM10 ht11 hv1 hv2 hr12 h
        exact hq _ _ _ _ _ _ (r_add hr15 (rfl : (1000 : Int32) = nI 1000)) hM13 ht14 h
noncomputable def epX10_vex (q : Nat → Nat → Nat → Bool) (cM ct cv1 cv2 : Nat) : Bool :=
  (epX10_isBank (fun cr3 cM1 ct2 => (@Bool.rec (fun _ => Bool) (@Bool.rec (fun _ => Bool) (@Bool.rec (fun _ => Bool) (q 4294967295 cM1 ct2) (epX0_findVex (fun cM4 ct5 => (@Bool.rec (fun _ => Bool) (q 4294967292 cM4 ct5) (@Bool.rec (fun _ => Bool) (@Bool.rec (fun _ => Bool) (q (rd cM4 48 2) cM4 ct5) (q (rd cM4 48 1) cM4 ct5) (eqN cv2 1)) (q (aN (rd cM4 48 0) 1000) cM4 ct5) (eqN cv2 0)) (leN 0 (rd cM4 48 1)))) cM1 ct2 cv1) (leN cv2 2)) (q 4294967295 cM1 ct2) (ltN cv2 0)) (q 4294967295 cM1 ct2) (eqN cr3 0))) cM ct cv1)
set_option maxHeartbeats 4000000 in
set_option maxRecDepth 20000 in
theorem spX10_vex {post : Int32 → MM → Int64 → Prop} {q : Nat → Nat → Nat → Bool} (hq : ∀ (r : Int32) (M : MM) (tl : Int64) (cr cM ct : Nat), r = nI cr → M = dM cM → tl = i64 ct → q cr cM ct = true → post r M tl) {M : MM} {tl : Int64} {v1 : Int32} {v2 : Int32} {cM ct cv1 cv2 : Nat} (hM : M = dM cM) (ht : tl = i64 ct) (hv1 : v1 = nI cv1) (hv2 : v2 = nI cv2) (h : epX10_vex q  cM ct cv1 cv2 = true) : wpX10_vex post  M tl v1 v2 := by
  unfold wpX10_vex
  unfold epX10_vex at h
  refine spX10_isBank (fun r3 M1 t2 cr3 cM1 ct2 hr3 hM1 ht2 h => ?_) hM ht hv1 h
  refine e_ite (c_eq hr3 (rfl : (0 : Int32) = nI 0)) h (fun h => ?_) (fun h => ?_)
  · exact hq _ _ _ _ _ _ lm1 hM1 ht2 h
  · refine e_ite (c_lt hv2 (rfl : (0 : Int32) = nI 0)) h (fun h => ?_) (fun h => ?_)
    · exact hq _ _ _ _ _ _ lm1 hM1 ht2 h
    · refine e_ite (c_le hv2 (rfl : (2 : Int32) = nI 2)) h (fun h => ?_) (fun h => ?_)
      · refine spX0_findVex (fun M4 t5 cM4 ct5 hM4 ht5 h => ?_) hM1 ht2 hv1 h
        refine e_ite (c_le (rfl : (0 : Int32) = nI 0) (r_rd hM4 (rfl : (48 : Nat) = 48) (rfl : (1 : Nat) = 1))) h (fun h => ?_) (fun h => ?_)
        · refine e_ite (c_eq hv2 (rfl : (0 : Int32) = nI 0)) h (fun h => ?_) (fun h => ?_)
          · exact hq _ _ _ _ _ _ (r_add (r_rd hM4 (rfl : (48 : Nat) = 48) (rfl : (0 : Nat) = 0)) (rfl : (1000 : Int32) = nI 1000)) hM4 ht5 h
          · refine e_ite (c_eq hv2 (rfl : (1 : Int32) = nI 1)) h (fun h => ?_) (fun h => ?_)
            · exact hq _ _ _ _ _ _ (r_rd hM4 (rfl : (48 : Nat) = 48) (rfl : (1 : Nat) = 1)) hM4 ht5 h
            · exact hq _ _ _ _ _ _ (r_rd hM4 (rfl : (48 : Nat) = 48) (rfl : (2 : Nat) = 2)) hM4 ht5 h
        · exact hq _ _ _ _ _ _ lm4 hM4 ht5 h
      · exact hq _ _ _ _ _ _ lm1 hM1 ht2 h
noncomputable def epX10_want (q : Nat → Nat → Nat → Bool) (cM ct cv1 cv2 : Nat) : Bool :=
  (epX1_isLot (fun cr3 cM1 ct2 => (@Bool.rec (fun _ => Bool) (epX10_isBuilt (fun cr6 cM4 ct5 => (@Bool.rec (fun _ => Bool) (epX5_isFull (fun cr9 cM7 ct8 => (@Bool.rec (fun _ => Bool) (q 4294967293 cM7 ct8) (epX5_addRow (fun cM10 ct11 => (q (rd cM10 18 3) cM10 ct11)) cM7 ct8 18 cv1 cv2 0 0) (eqN cr9 0))) cM4 ct5 18) (q 4294967295 cM4 ct5) (eqN cr6 0))) cM1 ct2 cv2) (q 4294967295 cM1 ct2) (eqN cr3 0))) cM ct 3 0 cv1)
set_option maxHeartbeats 4000000 in
set_option maxRecDepth 20000 in
theorem spX10_want {post : Int32 → MM → Int64 → Prop} {q : Nat → Nat → Nat → Bool} (hq : ∀ (r : Int32) (M : MM) (tl : Int64) (cr cM ct : Nat), r = nI cr → M = dM cM → tl = i64 ct → q cr cM ct = true → post r M tl) {M : MM} {tl : Int64} {v1 : Int32} {v2 : Int32} {cM ct cv1 cv2 : Nat} (hM : M = dM cM) (ht : tl = i64 ct) (hv1 : v1 = nI cv1) (hv2 : v2 = nI cv2) (h : epX10_want q  cM ct cv1 cv2 = true) : wpX10_want post  M tl v1 v2 := by
  unfold wpX10_want
  unfold epX10_want at h
  refine spX1_isLot (fun r3 M1 t2 cr3 cM1 ct2 hr3 hM1 ht2 h => ?_) hM ht (rfl : (3 : Nat) = 3) (rfl : (0 : Int32) = nI 0) hv1 h
  refine e_ite (c_eq hr3 (rfl : (0 : Int32) = nI 0)) h (fun h => ?_) (fun h => ?_)
  · exact hq _ _ _ _ _ _ lm1 hM1 ht2 h
  · refine spX10_isBuilt (fun r6 M4 t5 cr6 cM4 ct5 hr6 hM4 ht5 h => ?_) hM1 ht2 hv2 h
    refine e_ite (c_eq hr6 (rfl : (0 : Int32) = nI 0)) h (fun h => ?_) (fun h => ?_)
    · exact hq _ _ _ _ _ _ lm1 hM4 ht5 h
    · refine spX5_isFull (fun r9 M7 t8 cr9 cM7 ct8 hr9 hM7 ht8 h => ?_) hM4 ht5 (rfl : (18 : Nat) = 18) h
      refine e_ite (c_eq hr9 (rfl : (0 : Int32) = nI 0)) h (fun h => ?_) (fun h => ?_)
      · refine spX5_addRow (fun M10 t11 cM10 ct11 hM10 ht11 h => ?_) hM7 ht8 (rfl : (18 : Nat) = 18) hv1 hv2 (rfl : (0 : Int32) = nI 0) (rfl : (0 : Int32) = nI 0) h
        exact hq _ _ _ _ _ _ (r_rd hM10 (rfl : (18 : Nat) = 18) (rfl : (3 : Nat) = 3)) hM10 ht11 h
      · exact hq _ _ _ _ _ _ lm3 hM7 ht8 h
noncomputable def epX10_content (q : Nat → Nat → Nat → Bool) (cM ct  : Nat) : Bool :=
  (epX5_empty (fun cr3 cM1 ct2 => (q cr3 cM1 ct2)) cM ct 18)
set_option maxHeartbeats 4000000 in
set_option maxRecDepth 20000 in
theorem spX10_content {post : Int32 → MM → Int64 → Prop} {q : Nat → Nat → Nat → Bool} (hq : ∀ (r : Int32) (M : MM) (tl : Int64) (cr cM ct : Nat), r = nI cr → M = dM cM → tl = i64 ct → q cr cM ct = true → post r M tl) {M : MM} {tl : Int64} {cM ct  : Nat} (hM : M = dM cM) (ht : tl = i64 ct)  (h : epX10_content q  cM ct  = true) : wpX10_content post  M tl  := by
  unfold wpX10_content
  unfold epX10_content at h
  refine spX5_empty (fun r3 M1 t2 cr3 cM1 ct2 hr3 hM1 ht2 h => ?_) hM ht (rfl : (18 : Nat) = 18) h
  exact hq _ _ _ _ _ _ hr3 hM1 ht2 h
noncomputable def eX10_plan_52 (q : Nat → Nat → Nat → Bool) (cM ct cv1 cv2 cv3 : Nat) : Bool :=
  (@Bool.rec (fun _ => Bool) (epX3_findPlan (fun cr3 cM1 ct2 => (@Bool.rec (fun _ => Bool) (epX3_monthOf (fun cr6 cM4 ct5 => (q cr6 cM4 ct5)) cM1 ct2 (sN cv2 10)) (q cr3 cM1 ct2) (eqN cv2 0))) cM ct cv1) (q 4294967294 cM ct) (eqN cv3 0))
set_option maxHeartbeats 4000000 in
set_option maxRecDepth 20000 in
theorem sX10_plan_52 {post : Int32 → MM → Int64 → Prop} {q : Nat → Nat → Nat → Bool} (hq : ∀ (r : Int32) (M : MM) (tl : Int64) (cr cM ct : Nat), r = nI cr → M = dM cM → tl = i64 ct → q cr cM ct = true → post r M tl) {M : MM} {tl : Int64} {v1 : Int32} {v2 : Int32} {v3 : Int32} {cM ct cv1 cv2 cv3 : Nat} (hM : M = dM cM) (ht : tl = i64 ct) (hv1 : v1 = nI cv1) (hv2 : v2 = nI cv2) (hv3 : v3 = nI cv3) (h : eX10_plan_52 q  cM ct cv1 cv2 cv3 = true) : wX10_plan_52 post  M tl v1 v2 v3 := by
  unfold wX10_plan_52
  unfold eX10_plan_52 at h
  refine e_ite (c_eq hv3 (rfl : (0 : Int32) = nI 0)) h (fun h => ?_) (fun h => ?_)
  · exact hq _ _ _ _ _ _ lm2 hM ht h
  · refine spX3_findPlan (fun r3 M1 t2 cr3 cM1 ct2 hr3 hM1 ht2 h => ?_) hM ht hv1 h
    refine e_ite (c_eq hv2 (rfl : (0 : Int32) = nI 0)) h (fun h => ?_) (fun h => ?_)
    · exact hq _ _ _ _ _ _ hr3 hM1 ht2 h
    · refine spX3_monthOf (fun r6 M4 t5 cr6 cM4 ct5 hr6 hM4 ht5 h => ?_) hM1 ht2 (r_sub hv2 (rfl : (10 : Int32) = nI 10)) h
      exact hq _ _ _ _ _ _ hr6 hM4 ht5 h
noncomputable def eX10_plan_30 (q : Nat → Nat → Nat → Bool) (cM ct cv1 cv2 cv3 cs0 : Nat) : Bool :=
  (@Bool.rec (fun _ => Bool) (@Bool.rec (fun _ => Bool) (@Bool.rec (fun _ => Bool) (@Bool.rec (fun _ => Bool) (eX10_plan_52 q  cM ct cv1 cv2 cv3) (q 4294967295 cM ct) (eqN cs0 0)) (eX10_plan_52 q  cM ct cv1 cv2 cv3) (eqN cv2 0)) (q 4294967295 cM ct) (leN 4 cv1)) (q 4294967295 cM ct) (ltN cv1 0))
set_option maxHeartbeats 4000000 in
set_option maxRecDepth 20000 in
theorem sX10_plan_30 {post : Int32 → MM → Int64 → Prop} {q : Nat → Nat → Nat → Bool} (hq : ∀ (r : Int32) (M : MM) (tl : Int64) (cr cM ct : Nat), r = nI cr → M = dM cM → tl = i64 ct → q cr cM ct = true → post r M tl) {M : MM} {tl : Int64} {v1 : Int32} {v2 : Int32} {v3 : Int32} {s0 : Int32} {cM ct cv1 cv2 cv3 cs0 : Nat} (hM : M = dM cM) (ht : tl = i64 ct) (hv1 : v1 = nI cv1) (hv2 : v2 = nI cv2) (hv3 : v3 = nI cv3) (hs0 : s0 = nI cs0) (h : eX10_plan_30 q  cM ct cv1 cv2 cv3 cs0 = true) : wX10_plan_30 post  M tl v1 v2 v3 s0 := by
  unfold wX10_plan_30
  unfold eX10_plan_30 at h
  refine e_ite (c_lt hv1 (rfl : (0 : Int32) = nI 0)) h (fun h => ?_) (fun h => ?_)
  · exact hq _ _ _ _ _ _ lm1 hM ht h
  · refine e_ite (c_le (rfl : (4 : Int32) = nI 4) hv1) h (fun h => ?_) (fun h => ?_)
    · exact hq _ _ _ _ _ _ lm1 hM ht h
    · refine e_ite (c_eq hv2 (rfl : (0 : Int32) = nI 0)) h (fun h => ?_) (fun h => ?_)
      · exact sX10_plan_52 hq  hM ht hv1 hv2 hv3 h
      · refine e_ite (c_eq hs0 (rfl : (0 : Int32) = nI 0)) h (fun h => ?_) (fun h => ?_)
        · exact hq _ _ _ _ _ _ lm1 hM ht h
        · exact sX10_plan_52 hq  hM ht hv1 hv2 hv3 h
noncomputable def eX10_plan_29 (q : Nat → Nat → Nat → Bool) (cM ct cv1 cv2 cv3 : Nat) : Bool :=
  (eX10_plan_30 q  cM ct cv1 cv2 cv3 0)
set_option maxHeartbeats 4000000 in
set_option maxRecDepth 20000 in
theorem sX10_plan_29 {post : Int32 → MM → Int64 → Prop} {q : Nat → Nat → Nat → Bool} (hq : ∀ (r : Int32) (M : MM) (tl : Int64) (cr cM ct : Nat), r = nI cr → M = dM cM → tl = i64 ct → q cr cM ct = true → post r M tl) {M : MM} {tl : Int64} {v1 : Int32} {v2 : Int32} {v3 : Int32} {cM ct cv1 cv2 cv3 : Nat} (hM : M = dM cM) (ht : tl = i64 ct) (hv1 : v1 = nI cv1) (hv2 : v2 = nI cv2) (hv3 : v3 = nI cv3) (h : eX10_plan_29 q  cM ct cv1 cv2 cv3 = true) : wX10_plan_29 post  M tl v1 v2 v3 := by
  unfold wX10_plan_29
  unfold eX10_plan_29 at h
  exact sX10_plan_30 hq  hM ht hv1 hv2 hv3 (rfl : (0 : Int32) = nI 0) h
noncomputable def epX10_plan (q : Nat → Nat → Nat → Bool) (cM ct cv1 cv2 : Nat) : Bool :=
  (@Bool.rec (fun _ => Bool) (@Bool.rec (fun _ => Bool) (eX10_plan_30 q  cM ct cv1 cv2 (rd cM 18 3) 1) (eX10_plan_29 q  cM ct cv1 cv2 (rd cM 18 3)) (leN (aN 10 (rd cM 18 3)) cv2)) (eX10_plan_29 q  cM ct cv1 cv2 (rd cM 18 3)) (ltN cv2 10))
set_option maxHeartbeats 4000000 in
set_option maxRecDepth 20000 in
theorem spX10_plan {post : Int32 → MM → Int64 → Prop} {q : Nat → Nat → Nat → Bool} (hq : ∀ (r : Int32) (M : MM) (tl : Int64) (cr cM ct : Nat), r = nI cr → M = dM cM → tl = i64 ct → q cr cM ct = true → post r M tl) {M : MM} {tl : Int64} {v1 : Int32} {v2 : Int32} {cM ct cv1 cv2 : Nat} (hM : M = dM cM) (ht : tl = i64 ct) (hv1 : v1 = nI cv1) (hv2 : v2 = nI cv2) (h : epX10_plan q  cM ct cv1 cv2 = true) : wpX10_plan post  M tl v1 v2 := by
  unfold wpX10_plan
  unfold epX10_plan at h
  refine e_ite (c_lt hv2 (rfl : (10 : Int32) = nI 10)) h (fun h => ?_) (fun h => ?_)
  · exact sX10_plan_29 hq  hM ht hv1 hv2 (r_rd hM (rfl : (18 : Nat) = 18) (rfl : (3 : Nat) = 3)) h
  · refine e_ite (c_le (r_add (rfl : (10 : Int32) = nI 10) (r_rd hM (rfl : (18 : Nat) = 18) (rfl : (3 : Nat) = 3))) hv2) h (fun h => ?_) (fun h => ?_)
    · exact sX10_plan_29 hq  hM ht hv1 hv2 (r_rd hM (rfl : (18 : Nat) = 18) (rfl : (3 : Nat) = 3)) h
    · exact sX10_plan_30 hq  hM ht hv1 hv2 (r_rd hM (rfl : (18 : Nat) = 18) (rfl : (3 : Nat) = 3)) (rfl : (1 : Int32) = nI 1) h
noncomputable def epX10_cannot (q : Nat → Nat → Nat → Bool) (cM ct cv1 : Nat) : Bool :=
  (@Bool.rec (fun _ => Bool) (@Bool.rec (fun _ => Bool) (q 4294967295 cM ct) (@Bool.rec (fun _ => Bool) (epX3_costInstead (fun cr3 cM1 ct2 => (q cr3 cM1 ct2)) cM ct) (epX3_kindsBarred (fun cr6 cM4 ct5 => (q cr6 cM4 ct5)) cM ct) (eqN cv1 0)) (leN cv1 1)) (q 4294967295 cM ct) (ltN cv1 0))
set_option maxHeartbeats 4000000 in
set_option maxRecDepth 20000 in
theorem spX10_cannot {post : Int32 → MM → Int64 → Prop} {q : Nat → Nat → Nat → Bool} (hq : ∀ (r : Int32) (M : MM) (tl : Int64) (cr cM ct : Nat), r = nI cr → M = dM cM → tl = i64 ct → q cr cM ct = true → post r M tl) {M : MM} {tl : Int64} {v1 : Int32} {cM ct cv1 : Nat} (hM : M = dM cM) (ht : tl = i64 ct) (hv1 : v1 = nI cv1) (h : epX10_cannot q  cM ct cv1 = true) : wpX10_cannot post  M tl v1 := by
  unfold wpX10_cannot
  unfold epX10_cannot at h
  refine e_ite (c_lt hv1 (rfl : (0 : Int32) = nI 0)) h (fun h => ?_) (fun h => ?_)
  · exact hq _ _ _ _ _ _ lm1 hM ht h
  · refine e_ite (c_le hv1 (rfl : (1 : Int32) = nI 1)) h (fun h => ?_) (fun h => ?_)
    · refine e_ite (c_eq hv1 (rfl : (0 : Int32) = nI 0)) h (fun h => ?_) (fun h => ?_)
      · refine spX3_kindsBarred (fun r6 M4 t5 cr6 cM4 ct5 hr6 hM4 ht5 h => ?_) hM ht h
        exact hq _ _ _ _ _ _ hr6 hM4 ht5 h
      · refine spX3_costInstead (fun r3 M1 t2 cr3 cM1 ct2 hr3 hM1 ht2 h => ?_) hM ht h
        exact hq _ _ _ _ _ _ hr3 hM1 ht2 h
    · exact hq _ _ _ _ _ _ lm1 hM ht h
noncomputable def epX10_lossOfBoth (q : Nat → Nat → Nat → Bool) (cM ct cv1 cv2 cv3 : Nat) : Bool :=
  (epX1_tasteOf (fun cr3 cM1 ct2 => (epX1_matchOf (fun cr6 cM4 ct5 => (@Bool.rec (fun _ => Bool) (epX7_kindAt (fun cr9 cM7 ct8 => (epX1_tasteOf (fun cr12 cM10 ct11 => (q (aN (aN (rd cM4 3 2) cr3) cr12) cM10 ct11)) cM7 ct8 3 (sN 1 cv1) cr9)) cM4 ct5 14 (sN 1 cv1) cr6) (q cr3 cM4 ct5) (eqN cr6 4294967292))) cM1 ct2 3 cv1 cv2)) cM ct 3 cv1 cv3)
set_option maxHeartbeats 4000000 in
set_option maxRecDepth 20000 in
theorem spX10_lossOfBoth {post : Int32 → MM → Int64 → Prop} {q : Nat → Nat → Nat → Bool} (hq : ∀ (r : Int32) (M : MM) (tl : Int64) (cr cM ct : Nat), r = nI cr → M = dM cM → tl = i64 ct → q cr cM ct = true → post r M tl) {M : MM} {tl : Int64} {v1 : Int32} {v2 : Int32} {v3 : Int32} {cM ct cv1 cv2 cv3 : Nat} (hM : M = dM cM) (ht : tl = i64 ct) (hv1 : v1 = nI cv1) (hv2 : v2 = nI cv2) (hv3 : v3 = nI cv3) (h : epX10_lossOfBoth q  cM ct cv1 cv2 cv3 = true) : wpX10_lossOfBoth post  M tl v1 v2 v3 := by
  unfold wpX10_lossOfBoth
  unfold epX10_lossOfBoth at h
  refine spX1_tasteOf (fun r3 M1 t2 cr3 cM1 ct2 hr3 hM1 ht2 h => ?_) hM ht (rfl : (3 : Nat) = 3) hv1 hv3 h
  refine spX1_matchOf (fun r6 M4 t5 cr6 cM4 ct5 hr6 hM4 ht5 h => ?_) hM1 ht2 (rfl : (3 : Nat) = 3) hv1 hv2 h
  refine e_ite (c_eq hr6 lm4) h (fun h => ?_) (fun h => ?_)
  · exact hq _ _ _ _ _ _ hr3 hM4 ht5 h
  · refine spX7_kindAt (fun r9 M7 t8 cr9 cM7 ct8 hr9 hM7 ht8 h => ?_) hM4 ht5 (rfl : (14 : Nat) = 14) (r_sub (rfl : (1 : Int32) = nI 1) hv1) hr6 h
    refine spX1_tasteOf (fun r12 M10 t11 cr12 cM10 ct11 hr12 hM10 ht11 h => ?_) hM7 ht8 (rfl : (3 : Nat) = 3) (r_sub (rfl : (1 : Int32) = nI 1) hv1) hr9 h
    exact hq _ _ _ _ _ _ (r_add (r_add (r_rd hM4 (rfl : (3 : Nat) = 3) (rfl : (2 : Nat) = 2)) hr3) hr12) hM10 ht11 h
noncomputable def epX10_fire (q : Nat → Nat → Nat → Bool) (cM ct cv1 cv2 cv3 : Nat) : Bool :=
  (epX1_isLot (fun cr3 cM1 ct2 => (@Bool.rec (fun _ => Bool) (@Bool.rec (fun _ => Bool) (@Bool.rec (fun _ => Bool) (q 4294967295 cM1 ct2) (epX7_kindAt (fun cr6 cM4 ct5 => (@Bool.rec (fun _ => Bool) (epX1_costOf (fun cr9 cM7 ct8 => (epX10_lossOfBoth (fun cr12 cM10 ct11 => (@Bool.rec (fun _ => Bool) (q (@Bool.rec (fun _ => Nat) cr9 cr12 (ltN cr12 cr9)) cM10 ct11) (@Bool.rec (fun _ => Bool) (q 1 cM10 ct11) (q 0 cM10 ct11) (ltN cr12 cr9)) (eqN cv3 0))) cM7 ct8 cv1 cv2 cr6)) cM4 ct5 3 cv1 cr6) (q 4294967294 cM4 ct5) (eqN cr6 0))) cM1 ct2 14 cv1 cv2) (leN cv3 1)) (q 4294967295 cM1 ct2) (ltN cv3 0)) (q 4294967295 cM1 ct2) (eqN cr3 0))) cM ct 3 cv1 cv2)
set_option maxHeartbeats 4000000 in
set_option maxRecDepth 20000 in
theorem spX10_fire {post : Int32 → MM → Int64 → Prop} {q : Nat → Nat → Nat → Bool} (hq : ∀ (r : Int32) (M : MM) (tl : Int64) (cr cM ct : Nat), r = nI cr → M = dM cM → tl = i64 ct → q cr cM ct = true → post r M tl) {M : MM} {tl : Int64} {v1 : Int32} {v2 : Int32} {v3 : Int32} {cM ct cv1 cv2 cv3 : Nat} (hM : M = dM cM) (ht : tl = i64 ct) (hv1 : v1 = nI cv1) (hv2 : v2 = nI cv2) (hv3 : v3 = nI cv3) (h : epX10_fire q  cM ct cv1 cv2 cv3 = true) : wpX10_fire post  M tl v1 v2 v3 := by
  unfold wpX10_fire
  unfold epX10_fire at h
  refine spX1_isLot (fun r3 M1 t2 cr3 cM1 ct2 hr3 hM1 ht2 h => ?_) hM ht (rfl : (3 : Nat) = 3) hv1 hv2 h
  refine e_ite (c_eq hr3 (rfl : (0 : Int32) = nI 0)) h (fun h => ?_) (fun h => ?_)
  · exact hq _ _ _ _ _ _ lm1 hM1 ht2 h
  · refine e_ite (c_lt hv3 (rfl : (0 : Int32) = nI 0)) h (fun h => ?_) (fun h => ?_)
    · exact hq _ _ _ _ _ _ lm1 hM1 ht2 h
    · refine e_ite (c_le hv3 (rfl : (1 : Int32) = nI 1)) h (fun h => ?_) (fun h => ?_)
      · refine spX7_kindAt (fun r6 M4 t5 cr6 cM4 ct5 hr6 hM4 ht5 h => ?_) hM1 ht2 (rfl : (14 : Nat) = 14) hv1 hv2 h
        refine e_ite (c_eq hr6 (rfl : (0 : Int32) = nI 0)) h (fun h => ?_) (fun h => ?_)
        · exact hq _ _ _ _ _ _ lm2 hM4 ht5 h
        · refine spX1_costOf (fun r9 M7 t8 cr9 cM7 ct8 hr9 hM7 ht8 h => ?_) hM4 ht5 (rfl : (3 : Nat) = 3) hv1 hr6 h
          refine spX10_lossOfBoth (fun r12 M10 t11 cr12 cM10 ct11 hr12 hM10 ht11 h => ?_) hM7 ht8 hv1 hv2 hr6 h
          refine e_ite (c_eq hv3 (rfl : (0 : Int32) = nI 0)) h (fun h => ?_) (fun h => ?_)
          · refine e_ite (c_lt hr12 hr9) h (fun h => ?_) (fun h => ?_)
            · exact hq _ _ _ _ _ _ (rfl : (0 : Int32) = nI 0) hM10 ht11 h
            · exact hq _ _ _ _ _ _ (rfl : (1 : Int32) = nI 1) hM10 ht11 h
          · exact hq _ _ _ _ _ _ (r_ite (c_lt hr12 hr9) hr12 hr9) hM10 ht11 h
      · exact hq _ _ _ _ _ _ lm1 hM1 ht2 h
noncomputable def eX10_quarrelBy_119 (q : Nat → Nat → Nat → Bool) (cbk4 : Nat → Nat → Nat → Nat → Nat → Bool) (cM ct cv1 cv2 cv3 : Nat) : Bool :=
  (cbk4 cM ct cv1 cv2 (aN cv3 1))
set_option maxHeartbeats 4000000 in
set_option maxRecDepth 20000 in
theorem sX10_quarrelBy_119 {post : Int32 → MM → Int64 → Prop} {q : Nat → Nat → Nat → Bool} (hq : ∀ (r : Int32) (M : MM) (tl : Int64) (cr cM ct : Nat), r = nI cr → M = dM cM → tl = i64 ct → q cr cM ct = true → post r M tl) {bk4 : MM → Int64 → Int32 → Int32 → Int32 → Prop} {cbk4 : Nat → Nat → Nat → Nat → Nat → Bool} (hbk4 : ∀ (M : MM) (tl : Int64) (x0 : Int32) (x1 : Int32) (x2 : Int32) (cM ct cx0 cx1 cx2 : Nat), M = dM cM → tl = i64 ct → x0 = nI cx0 → x1 = nI cx1 → x2 = nI cx2 → cbk4 cM ct cx0 cx1 cx2 = true → bk4 M tl x0 x1 x2) {M : MM} {tl : Int64} {v1 : Int32} {v2 : Int32} {v3 : Int32} {cM ct cv1 cv2 cv3 : Nat} (hM : M = dM cM) (ht : tl = i64 ct) (hv1 : v1 = nI cv1) (hv2 : v2 = nI cv2) (hv3 : v3 = nI cv3) (h : eX10_quarrelBy_119 q cbk4 cM ct cv1 cv2 cv3 = true) : wX10_quarrelBy_119 post bk4 M tl v1 v2 v3 := by
  unfold wX10_quarrelBy_119
  unfold eX10_quarrelBy_119 at h
  exact hbk4 _ _ _ _ _ _ _ _ _ _ hM ht hv1 hv2 (r_add hv3 (rfl : (1 : Int32) = nI 1)) h
noncomputable def eX10_quarrelBy_89 (q : Nat → Nat → Nat → Bool) (cbk4 : Nat → Nat → Nat → Nat → Nat → Bool) (cM ct cv1 cv2 cv3 : Nat) : Bool :=
  (epX1_matchBy (fun cr3 cM1 ct2 => (@Bool.rec (fun _ => Bool) (eX10_quarrelBy_119 q cbk4 cM1 ct2 cv1 cv2 cv3) (epX7_kindAt (fun cr6 cM4 ct5 => (@Bool.rec (fun _ => Bool) (eX10_quarrelBy_119 q cbk4 cM4 ct5 cv1 (aN cv2 1) cv3) (eX10_quarrelBy_119 q cbk4 cM4 ct5 cv1 cv2 cv3) (eqN cr6 0))) cM1 ct2 14 1 cv3) (eqN cr3 4294967292))) cM ct 3 cv1 1 cv3)
set_option maxHeartbeats 4000000 in
set_option maxRecDepth 20000 in
theorem sX10_quarrelBy_89 {post : Int32 → MM → Int64 → Prop} {q : Nat → Nat → Nat → Bool} (hq : ∀ (r : Int32) (M : MM) (tl : Int64) (cr cM ct : Nat), r = nI cr → M = dM cM → tl = i64 ct → q cr cM ct = true → post r M tl) {bk4 : MM → Int64 → Int32 → Int32 → Int32 → Prop} {cbk4 : Nat → Nat → Nat → Nat → Nat → Bool} (hbk4 : ∀ (M : MM) (tl : Int64) (x0 : Int32) (x1 : Int32) (x2 : Int32) (cM ct cx0 cx1 cx2 : Nat), M = dM cM → tl = i64 ct → x0 = nI cx0 → x1 = nI cx1 → x2 = nI cx2 → cbk4 cM ct cx0 cx1 cx2 = true → bk4 M tl x0 x1 x2) {M : MM} {tl : Int64} {v1 : Int32} {v2 : Int32} {v3 : Int32} {cM ct cv1 cv2 cv3 : Nat} (hM : M = dM cM) (ht : tl = i64 ct) (hv1 : v1 = nI cv1) (hv2 : v2 = nI cv2) (hv3 : v3 = nI cv3) (h : eX10_quarrelBy_89 q cbk4 cM ct cv1 cv2 cv3 = true) : wX10_quarrelBy_89 post bk4 M tl v1 v2 v3 := by
  unfold wX10_quarrelBy_89
  unfold eX10_quarrelBy_89 at h
  refine spX1_matchBy (fun r3 M1 t2 cr3 cM1 ct2 hr3 hM1 ht2 h => ?_) hM ht (rfl : (3 : Nat) = 3) hv1 (rfl : (1 : Int32) = nI 1) hv3 h
  refine e_ite (c_eq hr3 lm4) h (fun h => ?_) (fun h => ?_)
  · refine spX7_kindAt (fun r6 M4 t5 cr6 cM4 ct5 hr6 hM4 ht5 h => ?_) hM1 ht2 (rfl : (14 : Nat) = 14) (rfl : (1 : Int32) = nI 1) hv3 h
    refine e_ite (c_eq hr6 (rfl : (0 : Int32) = nI 0)) h (fun h => ?_) (fun h => ?_)
    · exact sX10_quarrelBy_119 hq hbk4 hM4 ht5 hv1 hv2 hv3 h
    · exact sX10_quarrelBy_119 hq hbk4 hM4 ht5 hv1 (r_add hv2 (rfl : (1 : Int32) = nI 1)) hv3 h
  · exact sX10_quarrelBy_119 hq hbk4 hM1 ht2 hv1 hv2 hv3 h
noncomputable def eX10_quarrelBy_52 (q : Nat → Nat → Nat → Bool) (cbk4 : Nat → Nat → Nat → Nat → Nat → Bool) (cM ct cv1 cv3 cs0 cs1 : Nat) : Bool :=
  (eX10_quarrelBy_89 q cbk4 cM ct cv1 (aN cs0 cs1) cv3)
set_option maxHeartbeats 4000000 in
set_option maxRecDepth 20000 in
theorem sX10_quarrelBy_52 {post : Int32 → MM → Int64 → Prop} {q : Nat → Nat → Nat → Bool} (hq : ∀ (r : Int32) (M : MM) (tl : Int64) (cr cM ct : Nat), r = nI cr → M = dM cM → tl = i64 ct → q cr cM ct = true → post r M tl) {bk4 : MM → Int64 → Int32 → Int32 → Int32 → Prop} {cbk4 : Nat → Nat → Nat → Nat → Nat → Bool} (hbk4 : ∀ (M : MM) (tl : Int64) (x0 : Int32) (x1 : Int32) (x2 : Int32) (cM ct cx0 cx1 cx2 : Nat), M = dM cM → tl = i64 ct → x0 = nI cx0 → x1 = nI cx1 → x2 = nI cx2 → cbk4 cM ct cx0 cx1 cx2 = true → bk4 M tl x0 x1 x2) {M : MM} {tl : Int64} {v1 : Int32} {v3 : Int32} {s0 : Int32} {s1 : Int32} {cM ct cv1 cv3 cs0 cs1 : Nat} (hM : M = dM cM) (ht : tl = i64 ct) (hv1 : v1 = nI cv1) (hv3 : v3 = nI cv3) (hs0 : s0 = nI cs0) (hs1 : s1 = nI cs1) (h : eX10_quarrelBy_52 q cbk4 cM ct cv1 cv3 cs0 cs1 = true) : wX10_quarrelBy_52 post bk4 M tl v1 v3 s0 s1 := by
  unfold wX10_quarrelBy_52
  unfold eX10_quarrelBy_52 at h
  exact sX10_quarrelBy_89 hq hbk4 hM ht hv1 (r_add hs0 hs1) hv3 h
noncomputable def eX10_quarrelBy_4 (q : Nat → Nat → Nat → Bool) (n : Nat) : Nat → Nat → Nat → Nat → Nat → Bool :=
  @Nat.rec (fun _ => Nat → Nat → Nat → Nat → Nat → Bool) (fun _ _ _ _ _ => false) (fun _ ih cM ct cv1 cv2 cv3 => (@Bool.rec (fun _ => Bool) (epX1_matchBy (fun cr3 cM1 ct2 => (@Bool.rec (fun _ => Bool) (epX7_thingAt (fun cr6 cM4 ct5 => (epX7_thingAt (fun cr9 cM7 ct8 => (epX1_isEven (fun cr12 cM10 ct11 => (@Bool.rec (fun _ => Bool) (eX10_quarrelBy_89 q ih cM10 ct11 cv1 cv2 cv3) (eX10_quarrelBy_89 q ih cM10 ct11 cv1 (aN cv2 1) cv3) (eqN cr12 0))) cM7 ct8 3 cr6 cr9)) cM4 ct5 14 1 cr3)) cM1 ct2 14 0 cv3) (epX7_kindAt (fun cr15 cM13 ct14 => (@Bool.rec (fun _ => Bool) (eX10_quarrelBy_52 q ih cM13 ct14 cv1 cv3 cv2 1) (eX10_quarrelBy_52 q ih cM13 ct14 cv1 cv3 cv2 0) (eqN cr15 0))) cM1 ct2 14 0 cv3) (eqN cr3 4294967292))) cM ct 3 cv1 0 cv3) (q cv2 cM ct) (leN (rd cM 3 0) cv3))) n
set_option maxHeartbeats 4000000 in
set_option maxRecDepth 20000 in
theorem sX10_quarrelBy_4 {post : Int32 → MM → Int64 → Prop} {q : Nat → Nat → Nat → Bool} (hq : ∀ (r : Int32) (M : MM) (tl : Int64) (cr cM ct : Nat), r = nI cr → M = dM cM → tl = i64 ct → q cr cM ct = true → post r M tl) : ∀ (n : Nat) (M : MM) (tl : Int64) (v1 : Int32) (v2 : Int32) (v3 : Int32) (cM ct cv1 cv2 cv3 : Nat), M = dM cM → tl = i64 ct → v1 = nI cv1 → v2 = nI cv2 → v3 = nI cv3 → eX10_quarrelBy_4 q  n cM ct cv1 cv2 cv3 = true → wX10_quarrelBy_4 post  n M tl v1 v2 v3 := by
  intro n
  induction n with
  | zero => intro M tl v1 v2 v3 cM ct cv1 cv2 cv3 hM ht hv1 hv2 hv3 h; exact Bool.noConfusion h
  | succ n ih =>
    intro M tl v1 v2 v3 cM ct cv1 cv2 cv3 hM ht hv1 hv2 hv3 h
    unfold wX10_quarrelBy_4
    refine e_ite (c_le (r_rd hM (rfl : (3 : Nat) = 3) (rfl : (0 : Nat) = 0)) hv3) h (fun h => ?_) (fun h => ?_)
    · exact hq _ _ _ _ _ _ hv2 hM ht h
    · refine spX1_matchBy (fun r3 M1 t2 cr3 cM1 ct2 hr3 hM1 ht2 h => ?_) hM ht (rfl : (3 : Nat) = 3) hv1 (rfl : (0 : Int32) = nI 0) hv3 h
      refine e_ite (c_eq hr3 lm4) h (fun h => ?_) (fun h => ?_)
      · refine spX7_kindAt (fun r15 M13 t14 cr15 cM13 ct14 hr15 hM13 ht14 h => ?_) hM1 ht2 (rfl : (14 : Nat) = 14) (rfl : (0 : Int32) = nI 0) hv3 h
        refine e_ite (c_eq hr15 (rfl : (0 : Int32) = nI 0)) h (fun h => ?_) (fun h => ?_)
        · exact sX10_quarrelBy_52 hq ih hM13 ht14 hv1 hv3 hv2 (rfl : (0 : Int32) = nI 0) h
        · exact sX10_quarrelBy_52 hq ih hM13 ht14 hv1 hv3 hv2 (rfl : (1 : Int32) = nI 1) h
      · refine spX7_thingAt (fun r6 M4 t5 cr6 cM4 ct5 hr6 hM4 ht5 h => ?_) hM1 ht2 (rfl : (14 : Nat) = 14) (rfl : (0 : Int32) = nI 0) hv3 h
        refine spX7_thingAt (fun r9 M7 t8 cr9 cM7 ct8 hr9 hM7 ht8 h => ?_) hM4 ht5 (rfl : (14 : Nat) = 14) (rfl : (1 : Int32) = nI 1) hr3 h
        refine spX1_isEven (fun r12 M10 t11 cr12 cM10 ct11 hr12 hM10 ht11 h => ?_) hM7 ht8 (rfl : (3 : Nat) = 3) hr6 hr9 h
        refine e_ite (c_eq hr12 (rfl : (0 : Int32) = nI 0)) h (fun h => ?_) (fun h => ?_)
        · exact sX10_quarrelBy_89 hq ih hM10 ht11 hv1 (r_add hv2 (rfl : (1 : Int32) = nI 1)) hv3 h
        · exact sX10_quarrelBy_89 hq ih hM10 ht11 hv1 hv2 hv3 h
noncomputable def epX10_quarrelBy (q : Nat → Nat → Nat → Bool) (cM ct cv1 : Nat) : Bool :=
  (eX10_quarrelBy_4 q  5000 cM ct cv1 0 0)
set_option maxHeartbeats 4000000 in
set_option maxRecDepth 20000 in
theorem spX10_quarrelBy {post : Int32 → MM → Int64 → Prop} {q : Nat → Nat → Nat → Bool} (hq : ∀ (r : Int32) (M : MM) (tl : Int64) (cr cM ct : Nat), r = nI cr → M = dM cM → tl = i64 ct → q cr cM ct = true → post r M tl) {M : MM} {tl : Int64} {v1 : Int32} {cM ct cv1 : Nat} (hM : M = dM cM) (ht : tl = i64 ct) (hv1 : v1 = nI cv1) (h : epX10_quarrelBy q  cM ct cv1 = true) : wpX10_quarrelBy post  M tl v1 := by
  unfold wpX10_quarrelBy
  unfold epX10_quarrelBy at h
  exact ⟨5000, sX10_quarrelBy_4 hq  5000 _ _ _ _ _ _ _ _ _ _ hM ht hv1 (rfl : (0 : Int32) = nI 0) (rfl : (0 : Int32) = nI 0) h⟩
noncomputable def epX10_quarrel (q : Nat → Nat → Nat → Bool) (cM ct cv1 : Nat) : Bool :=
  (@Bool.rec (fun _ => Bool) (@Bool.rec (fun _ => Bool) (q 4294967295 cM ct) (epX10_quarrelBy (fun cr3 cM1 ct2 => (q cr3 cM1 ct2)) cM ct cv1) (leN cv1 6)) (q 4294967295 cM ct) (ltN cv1 0))
set_option maxHeartbeats 4000000 in
set_option maxRecDepth 20000 in
theorem spX10_quarrel {post : Int32 → MM → Int64 → Prop} {q : Nat → Nat → Nat → Bool} (hq : ∀ (r : Int32) (M : MM) (tl : Int64) (cr cM ct : Nat), r = nI cr → M = dM cM → tl = i64 ct → q cr cM ct = true → post r M tl) {M : MM} {tl : Int64} {v1 : Int32} {cM ct cv1 : Nat} (hM : M = dM cM) (ht : tl = i64 ct) (hv1 : v1 = nI cv1) (h : epX10_quarrel q  cM ct cv1 = true) : wpX10_quarrel post  M tl v1 := by
  unfold wpX10_quarrel
  unfold epX10_quarrel at h
  refine e_ite (c_lt hv1 (rfl : (0 : Int32) = nI 0)) h (fun h => ?_) (fun h => ?_)
  · exact hq _ _ _ _ _ _ lm1 hM ht h
  · refine e_ite (c_le hv1 (rfl : (6 : Int32) = nI 6)) h (fun h => ?_) (fun h => ?_)
    · refine spX10_quarrelBy (fun r3 M1 t2 cr3 cM1 ct2 hr3 hM1 ht2 h => ?_) hM ht hv1 h
      exact hq _ _ _ _ _ _ hr3 hM1 ht2 h
    · exact hq _ _ _ _ _ _ lm1 hM ht h
noncomputable def eX10_bend_34 (q : Nat → Nat → Nat → Bool) (cbk10 : Nat → Nat → Nat → Nat → Nat → Bool) (cM ct cv1 cv2 cv3 : Nat) : Bool :=
  (cbk10 cM ct cv1 cv2 (aN cv3 1))
set_option maxHeartbeats 4000000 in
set_option maxRecDepth 20000 in
theorem sX10_bend_34 {post : Int32 → MM → Int64 → Prop} {q : Nat → Nat → Nat → Bool} (hq : ∀ (r : Int32) (M : MM) (tl : Int64) (cr cM ct : Nat), r = nI cr → M = dM cM → tl = i64 ct → q cr cM ct = true → post r M tl) {bk10 : MM → Int64 → Int32 → Int32 → Int32 → Prop} {cbk10 : Nat → Nat → Nat → Nat → Nat → Bool} (hbk10 : ∀ (M : MM) (tl : Int64) (x0 : Int32) (x1 : Int32) (x2 : Int32) (cM ct cx0 cx1 cx2 : Nat), M = dM cM → tl = i64 ct → x0 = nI cx0 → x1 = nI cx1 → x2 = nI cx2 → cbk10 cM ct cx0 cx1 cx2 = true → bk10 M tl x0 x1 x2) {M : MM} {tl : Int64} {v1 : Int32} {v2 : Int32} {v3 : Int32} {cM ct cv1 cv2 cv3 : Nat} (hM : M = dM cM) (ht : tl = i64 ct) (hv1 : v1 = nI cv1) (hv2 : v2 = nI cv2) (hv3 : v3 = nI cv3) (h : eX10_bend_34 q cbk10 cM ct cv1 cv2 cv3 = true) : wX10_bend_34 post bk10 M tl v1 v2 v3 := by
  unfold wX10_bend_34
  unfold eX10_bend_34 at h
  exact hbk10 _ _ _ _ _ _ _ _ _ _ hM ht hv1 hv2 (r_add hv3 (rfl : (1 : Int32) = nI 1)) h
noncomputable def eX10_bend_10 (q : Nat → Nat → Nat → Bool) (n : Nat) : Nat → Nat → Nat → Nat → Nat → Bool :=
  @Nat.rec (fun _ => Nat → Nat → Nat → Nat → Nat → Bool) (fun _ _ _ _ _ => false) (fun _ ih cM ct cv1 cv2 cv3 => (@Bool.rec (fun _ => Bool) (epX10_quarrelBy (fun cr3 cM1 ct2 => (@Bool.rec (fun _ => Bool) (eX10_bend_34 q ih cM1 ct2 cv3 cr3 cv3) (eX10_bend_34 q ih cM1 ct2 cv1 cv2 cv3) (leN cv2 cr3))) cM ct cv3) (q cv1 cM ct) (ltN 6 cv3))) n
set_option maxHeartbeats 4000000 in
set_option maxRecDepth 20000 in
theorem sX10_bend_10 {post : Int32 → MM → Int64 → Prop} {q : Nat → Nat → Nat → Bool} (hq : ∀ (r : Int32) (M : MM) (tl : Int64) (cr cM ct : Nat), r = nI cr → M = dM cM → tl = i64 ct → q cr cM ct = true → post r M tl) : ∀ (n : Nat) (M : MM) (tl : Int64) (v1 : Int32) (v2 : Int32) (v3 : Int32) (cM ct cv1 cv2 cv3 : Nat), M = dM cM → tl = i64 ct → v1 = nI cv1 → v2 = nI cv2 → v3 = nI cv3 → eX10_bend_10 q  n cM ct cv1 cv2 cv3 = true → wX10_bend_10 post  n M tl v1 v2 v3 := by
  intro n
  induction n with
  | zero => intro M tl v1 v2 v3 cM ct cv1 cv2 cv3 hM ht hv1 hv2 hv3 h; exact Bool.noConfusion h
  | succ n ih =>
    intro M tl v1 v2 v3 cM ct cv1 cv2 cv3 hM ht hv1 hv2 hv3 h
    unfold wX10_bend_10
    refine e_ite (c_lt (rfl : (6 : Int32) = nI 6) hv3) h (fun h => ?_) (fun h => ?_)
    · exact hq _ _ _ _ _ _ hv1 hM ht h
    · refine spX10_quarrelBy (fun r3 M1 t2 cr3 cM1 ct2 hr3 hM1 ht2 h => ?_) hM ht hv3 h
      refine e_ite (c_le hv2 hr3) h (fun h => ?_) (fun h => ?_)
      · exact sX10_bend_34 hq ih hM1 ht2 hv1 hv2 hv3 h
      · exact sX10_bend_34 hq ih hM1 ht2 hv3 hr3 hv3 h
noncomputable def epX10_bend (q : Nat → Nat → Nat → Bool) (cM ct  : Nat) : Bool :=
  (epX10_quarrelBy (fun cr3 cM1 ct2 => (eX10_bend_10 q  5000 cM1 ct2 0 cr3 1)) cM ct 0)
set_option maxHeartbeats 4000000 in
set_option maxRecDepth 20000 in
theorem spX10_bend {post : Int32 → MM → Int64 → Prop} {q : Nat → Nat → Nat → Bool} (hq : ∀ (r : Int32) (M : MM) (tl : Int64) (cr cM ct : Nat), r = nI cr → M = dM cM → tl = i64 ct → q cr cM ct = true → post r M tl) {M : MM} {tl : Int64} {cM ct  : Nat} (hM : M = dM cM) (ht : tl = i64 ct)  (h : epX10_bend q  cM ct  = true) : wpX10_bend post  M tl  := by
  unfold wpX10_bend
  unfold epX10_bend at h
  refine spX10_quarrelBy (fun r3 M1 t2 cr3 cM1 ct2 hr3 hM1 ht2 h => ?_) hM ht (rfl : (0 : Int32) = nI 0) h
  exact ⟨5000, sX10_bend_10 hq  5000 _ _ _ _ _ _ _ _ _ _ hM1 ht2 (rfl : (0 : Int32) = nI 0) hr3 (rfl : (1 : Int32) = nI 1) h⟩
noncomputable def eX10_fewestToGo_34 (q : Nat → Nat → Nat → Bool) (cbk6 : Nat → Nat → Nat → Nat → Nat → Bool) (cM ct cv1 cv2 cv3 : Nat) : Bool :=
  (cbk6 cM ct cv1 cv2 (aN cv3 1))
set_option maxHeartbeats 4000000 in
set_option maxRecDepth 20000 in
theorem sX10_fewestToGo_34 {post : Int32 → MM → Int64 → Prop} {q : Nat → Nat → Nat → Bool} (hq : ∀ (r : Int32) (M : MM) (tl : Int64) (cr cM ct : Nat), r = nI cr → M = dM cM → tl = i64 ct → q cr cM ct = true → post r M tl) {bk6 : MM → Int64 → Int32 → Int32 → Int32 → Prop} {cbk6 : Nat → Nat → Nat → Nat → Nat → Bool} (hbk6 : ∀ (M : MM) (tl : Int64) (x0 : Int32) (x1 : Int32) (x2 : Int32) (cM ct cx0 cx1 cx2 : Nat), M = dM cM → tl = i64 ct → x0 = nI cx0 → x1 = nI cx1 → x2 = nI cx2 → cbk6 cM ct cx0 cx1 cx2 = true → bk6 M tl x0 x1 x2) {M : MM} {tl : Int64} {v1 : Int32} {v2 : Int32} {v3 : Int32} {cM ct cv1 cv2 cv3 : Nat} (hM : M = dM cM) (ht : tl = i64 ct) (hv1 : v1 = nI cv1) (hv2 : v2 = nI cv2) (hv3 : v3 = nI cv3) (h : eX10_fewestToGo_34 q cbk6 cM ct cv1 cv2 cv3 = true) : wX10_fewestToGo_34 post bk6 M tl v1 v2 v3 := by
  unfold wX10_fewestToGo_34
  unfold eX10_fewestToGo_34 at h
  exact hbk6 _ _ _ _ _ _ _ _ _ _ hM ht hv1 hv2 (r_add hv3 (rfl : (1 : Int32) = nI 1)) h
noncomputable def eX10_fewestToGo_6 (q : Nat → Nat → Nat → Bool) (n : Nat) : Nat → Nat → Nat → Nat → Nat → Bool :=
  @Nat.rec (fun _ => Nat → Nat → Nat → Nat → Nat → Bool) (fun _ _ _ _ _ => false) (fun _ ih cM ct cv1 cv2 cv3 => (@Bool.rec (fun _ => Bool) (@Bool.rec (fun _ => Bool) (eX10_fewestToGo_34 q ih cM ct cv1 cv2 cv3) (eX10_fewestToGo_34 q ih cM ct (Nat.land cv1 (Nat.xor (b2 f_shl 1 cv3) 4294967295)) (aN cv2 1) cv3) (eqN (Nat.land (b2 f_shr cv1 (sN cv3 1)) 3) 3)) (q cv2 cM ct) (leN 8 cv3))) n
set_option maxHeartbeats 4000000 in
set_option maxRecDepth 20000 in
theorem sX10_fewestToGo_6 {post : Int32 → MM → Int64 → Prop} {q : Nat → Nat → Nat → Bool} (hq : ∀ (r : Int32) (M : MM) (tl : Int64) (cr cM ct : Nat), r = nI cr → M = dM cM → tl = i64 ct → q cr cM ct = true → post r M tl) : ∀ (n : Nat) (M : MM) (tl : Int64) (v1 : Int32) (v2 : Int32) (v3 : Int32) (cM ct cv1 cv2 cv3 : Nat), M = dM cM → tl = i64 ct → v1 = nI cv1 → v2 = nI cv2 → v3 = nI cv3 → eX10_fewestToGo_6 q  n cM ct cv1 cv2 cv3 = true → wX10_fewestToGo_6 post  n M tl v1 v2 v3 := by
  intro n
  induction n with
  | zero => intro M tl v1 v2 v3 cM ct cv1 cv2 cv3 hM ht hv1 hv2 hv3 h; exact Bool.noConfusion h
  | succ n ih =>
    intro M tl v1 v2 v3 cM ct cv1 cv2 cv3 hM ht hv1 hv2 hv3 h
    unfold wX10_fewestToGo_6
    refine e_ite (c_le (rfl : (8 : Int32) = nI 8) hv3) h (fun h => ?_) (fun h => ?_)
    · exact hq _ _ _ _ _ _ hv2 hM ht h
    · refine e_ite (c_eq (r_and (r_b2 f_shr hv1 (r_sub hv3 (rfl : (1 : Int32) = nI 1))) (rfl : (3 : Int32) = nI 3)) (rfl : (3 : Int32) = nI 3)) h (fun h => ?_) (fun h => ?_)
      · exact sX10_fewestToGo_34 hq ih hM ht (r_and hv1 (r_xor (r_b2 f_shl (rfl : (1 : Int32) = nI 1) hv3) lm1)) (r_add hv2 (rfl : (1 : Int32) = nI 1)) hv3 h
      · exact sX10_fewestToGo_34 hq ih hM ht hv1 hv2 hv3 h
noncomputable def epX10_fewestToGo (q : Nat → Nat → Nat → Bool) (cM ct cv0 : Nat) : Bool :=
  (eX10_fewestToGo_6 q  5000 cM ct cv0 0 1)
set_option maxHeartbeats 4000000 in
set_option maxRecDepth 20000 in
theorem spX10_fewestToGo {post : Int32 → MM → Int64 → Prop} {q : Nat → Nat → Nat → Bool} (hq : ∀ (r : Int32) (M : MM) (tl : Int64) (cr cM ct : Nat), r = nI cr → M = dM cM → tl = i64 ct → q cr cM ct = true → post r M tl) {M : MM} {tl : Int64} {v0 : Int32} {cM ct cv0 : Nat} (hM : M = dM cM) (ht : tl = i64 ct) (hv0 : v0 = nI cv0) (h : epX10_fewestToGo q  cM ct cv0 = true) : wpX10_fewestToGo post  M tl v0 := by
  unfold wpX10_fewestToGo
  unfold epX10_fewestToGo at h
  exact ⟨5000, sX10_fewestToGo_6 hq  5000 _ _ _ _ _ _ _ _ _ _ hM ht hv0 (rfl : (0 : Int32) = nI 0) (rfl : (1 : Int32) = nI 1) h⟩
noncomputable def eX10_shops_56 (q : Nat → Nat → Nat → Bool) (cbk23 : Nat → Nat → Nat → Nat → Nat → Nat → Bool) (cM ct cv1 cv2 cv3 cv4 : Nat) : Bool :=
  (cbk23 cM ct cv1 cv2 cv3 (aN cv4 1))
set_option maxHeartbeats 4000000 in
set_option maxRecDepth 20000 in
theorem sX10_shops_56 {post : Int32 → MM → Int64 → Prop} {q : Nat → Nat → Nat → Bool} (hq : ∀ (r : Int32) (M : MM) (tl : Int64) (cr cM ct : Nat), r = nI cr → M = dM cM → tl = i64 ct → q cr cM ct = true → post r M tl) {bk23 : MM → Int64 → Int32 → Int32 → Int32 → Int32 → Prop} {cbk23 : Nat → Nat → Nat → Nat → Nat → Nat → Bool} (hbk23 : ∀ (M : MM) (tl : Int64) (x0 : Int32) (x1 : Int32) (x2 : Int32) (x3 : Int32) (cM ct cx0 cx1 cx2 cx3 : Nat), M = dM cM → tl = i64 ct → x0 = nI cx0 → x1 = nI cx1 → x2 = nI cx2 → x3 = nI cx3 → cbk23 cM ct cx0 cx1 cx2 cx3 = true → bk23 M tl x0 x1 x2 x3) {M : MM} {tl : Int64} {v1 : Int32} {v2 : Int32} {v3 : Int32} {v4 : Int32} {cM ct cv1 cv2 cv3 cv4 : Nat} (hM : M = dM cM) (ht : tl = i64 ct) (hv1 : v1 = nI cv1) (hv2 : v2 = nI cv2) (hv3 : v3 = nI cv3) (hv4 : v4 = nI cv4) (h : eX10_shops_56 q cbk23 cM ct cv1 cv2 cv3 cv4 = true) : wX10_shops_56 post bk23 M tl v1 v2 v3 v4 := by
  unfold wX10_shops_56
  unfold eX10_shops_56 at h
  exact hbk23 _ _ _ _ _ _ _ _ _ _ _ _ hM ht hv1 hv2 hv3 (r_add hv4 (rfl : (1 : Int32) = nI 1)) h
noncomputable def eX10_shops_23 (q : Nat → Nat → Nat → Bool) (n : Nat) : Nat → Nat → Nat → Nat → Nat → Nat → Bool :=
  @Nat.rec (fun _ => Nat → Nat → Nat → Nat → Nat → Nat → Bool) (fun _ _ _ _ _ _ => false) (fun _ ih cM ct cv1 cv2 cv3 cv4 => (@Bool.rec (fun _ => Bool) (epX7_kindAt (fun cr6 cM4 ct5 => (@Bool.rec (fun _ => Bool) (eX10_shops_56 q ih cM4 ct5 cv1 cv2 cv3 cv4) (eX10_shops_56 q ih cM4 ct5 cv1 cv2 (Nat.lor cv3 (b2 f_shl 1 cv4)) cv4) (eqN cr6 3))) cM ct 14 cv1 cv4) (@Bool.rec (fun _ => Bool) (epX10_fewestToGo (fun cr3 cM1 ct2 => (q cr3 cM1 ct2)) cM ct cv3) (q (Nat.land cv3 (Nat.lor (b2 f_shl cv3 1) (b2 f_shr cv3 1))) cM ct) (eqN cv2 0)) (leN (rd cM 3 0) cv4))) n
set_option maxHeartbeats 4000000 in
set_option maxRecDepth 20000 in
theorem sX10_shops_23 {post : Int32 → MM → Int64 → Prop} {q : Nat → Nat → Nat → Bool} (hq : ∀ (r : Int32) (M : MM) (tl : Int64) (cr cM ct : Nat), r = nI cr → M = dM cM → tl = i64 ct → q cr cM ct = true → post r M tl) : ∀ (n : Nat) (M : MM) (tl : Int64) (v1 : Int32) (v2 : Int32) (v3 : Int32) (v4 : Int32) (cM ct cv1 cv2 cv3 cv4 : Nat), M = dM cM → tl = i64 ct → v1 = nI cv1 → v2 = nI cv2 → v3 = nI cv3 → v4 = nI cv4 → eX10_shops_23 q  n cM ct cv1 cv2 cv3 cv4 = true → wX10_shops_23 post  n M tl v1 v2 v3 v4 := by
  intro n
  induction n with
  | zero => intro M tl v1 v2 v3 v4 cM ct cv1 cv2 cv3 cv4 hM ht hv1 hv2 hv3 hv4 h; exact Bool.noConfusion h
  | succ n ih =>
    intro M tl v1 v2 v3 v4 cM ct cv1 cv2 cv3 cv4 hM ht hv1 hv2 hv3 hv4 h
    unfold wX10_shops_23
    refine e_ite (c_le (r_rd hM (rfl : (3 : Nat) = 3) (rfl : (0 : Nat) = 0)) hv4) h (fun h => ?_) (fun h => ?_)
    · refine e_ite (c_eq hv2 (rfl : (0 : Int32) = nI 0)) h (fun h => ?_) (fun h => ?_)
      · exact hq _ _ _ _ _ _ (r_and hv3 (r_or (r_b2 f_shl hv3 (rfl : (1 : Int32) = nI 1)) (r_b2 f_shr hv3 (rfl : (1 : Int32) = nI 1)))) hM ht h
      · refine spX10_fewestToGo (fun r3 M1 t2 cr3 cM1 ct2 hr3 hM1 ht2 h => ?_) hM ht hv3 h
        exact hq _ _ _ _ _ _ hr3 hM1 ht2 h
    · refine spX7_kindAt (fun r6 M4 t5 cr6 cM4 ct5 hr6 hM4 ht5 h => ?_) hM ht (rfl : (14 : Nat) = 14) hv1 hv4 h
      refine e_ite (c_eq hr6 (rfl : (3 : Int32) = nI 3)) h (fun h => ?_) (fun h => ?_)
      · exact sX10_shops_56 hq ih hM4 ht5 hv1 hv2 (r_or hv3 (r_b2 f_shl (rfl : (1 : Int32) = nI 1) hv4)) hv4 h
      · exact sX10_shops_56 hq ih hM4 ht5 hv1 hv2 hv3 hv4 h
noncomputable def epX10_shops (q : Nat → Nat → Nat → Bool) (cM ct cv1 cv2 : Nat) : Bool :=
  (epX10_isBank (fun cr3 cM1 ct2 => (@Bool.rec (fun _ => Bool) (@Bool.rec (fun _ => Bool) (@Bool.rec (fun _ => Bool) (q 4294967295 cM1 ct2) (eX10_shops_23 q  5000 cM1 ct2 cv1 cv2 0 0) (leN cv2 1)) (q 4294967295 cM1 ct2) (ltN cv2 0)) (q 4294967295 cM1 ct2) (eqN cr3 0))) cM ct cv1)
set_option maxHeartbeats 4000000 in
set_option maxRecDepth 20000 in
theorem spX10_shops {post : Int32 → MM → Int64 → Prop} {q : Nat → Nat → Nat → Bool} (hq : ∀ (r : Int32) (M : MM) (tl : Int64) (cr cM ct : Nat), r = nI cr → M = dM cM → tl = i64 ct → q cr cM ct = true → post r M tl) {M : MM} {tl : Int64} {v1 : Int32} {v2 : Int32} {cM ct cv1 cv2 : Nat} (hM : M = dM cM) (ht : tl = i64 ct) (hv1 : v1 = nI cv1) (hv2 : v2 = nI cv2) (h : epX10_shops q  cM ct cv1 cv2 = true) : wpX10_shops post  M tl v1 v2 := by
  unfold wpX10_shops
  unfold epX10_shops at h
  refine spX10_isBank (fun r3 M1 t2 cr3 cM1 ct2 hr3 hM1 ht2 h => ?_) hM ht hv1 h
  refine e_ite (c_eq hr3 (rfl : (0 : Int32) = nI 0)) h (fun h => ?_) (fun h => ?_)
  · exact hq _ _ _ _ _ _ lm1 hM1 ht2 h
  · refine e_ite (c_lt hv2 (rfl : (0 : Int32) = nI 0)) h (fun h => ?_) (fun h => ?_)
    · exact hq _ _ _ _ _ _ lm1 hM1 ht2 h
    · refine e_ite (c_le hv2 (rfl : (1 : Int32) = nI 1)) h (fun h => ?_) (fun h => ?_)
      · exact ⟨5000, sX10_shops_23 hq  5000 _ _ _ _ _ _ _ _ _ _ _ _ hM1 ht2 hv1 hv2 (rfl : (0 : Int32) = nI 0) (rfl : (0 : Int32) = nI 0) h⟩
      · exact hq _ _ _ _ _ _ lm1 hM1 ht2 h
noncomputable def eX10_saw_60 (q : Nat → Nat → Nat → Bool) (cM ct cs1 cs2 cs3 cs4 : Nat) : Bool :=
  (epX5_addRow (fun cM1 ct2 => (q (rd cM1 20 3) cM1 ct2)) cM ct 20 cs1 cs2 cs3 cs4)
set_option maxHeartbeats 4000000 in
set_option maxRecDepth 20000 in
theorem sX10_saw_60 {post : Int32 → MM → Int64 → Prop} {q : Nat → Nat → Nat → Bool} (hq : ∀ (r : Int32) (M : MM) (tl : Int64) (cr cM ct : Nat), r = nI cr → M = dM cM → tl = i64 ct → q cr cM ct = true → post r M tl) {M : MM} {tl : Int64} {s1 : Int32} {s2 : Int32} {s3 : Int32} {s4 : Int32} {cM ct cs1 cs2 cs3 cs4 : Nat} (hM : M = dM cM) (ht : tl = i64 ct) (hs1 : s1 = nI cs1) (hs2 : s2 = nI cs2) (hs3 : s3 = nI cs3) (hs4 : s4 = nI cs4) (h : eX10_saw_60 q  cM ct cs1 cs2 cs3 cs4 = true) : wX10_saw_60 post  M tl s1 s2 s3 s4 := by
  unfold wX10_saw_60
  unfold eX10_saw_60 at h
  refine spX5_addRow (fun M1 t2 cM1 ct2 hM1 ht2 h => ?_) hM ht (rfl : (20 : Nat) = 20) hs1 hs2 hs3 hs4 h
  exact hq _ _ _ _ _ _ (r_rd hM1 (rfl : (20 : Nat) = 20) (rfl : (3 : Nat) = 3)) hM1 ht2 h
noncomputable def epX10_saw (q : Nat → Nat → Nat → Bool) (cM ct cv1 cv2 cv3 cv4 : Nat) : Bool :=
  (epX1_isLot (fun cr3 cM1 ct2 => (@Bool.rec (fun _ => Bool) (@Bool.rec (fun _ => Bool) (@Bool.rec (fun _ => Bool) (q 4294967295 cM1 ct2) (epX5_isFull (fun cr6 cM4 ct5 => (@Bool.rec (fun _ => Bool) (q 4294967293 cM4 ct5) (@Bool.rec (fun _ => Bool) (eX10_saw_60 q  cM4 ct5 cv1 cv2 cv3 1) (eX10_saw_60 q  cM4 ct5 cv1 cv2 cv3 0) (eqN cv4 0)) (eqN cr6 0))) cM1 ct2 20) (ltN cv3 24)) (q 4294967295 cM1 ct2) (ltN cv3 0)) (q 4294967295 cM1 ct2) (eqN cr3 0))) cM ct 3 cv1 cv2)
set_option maxHeartbeats 4000000 in
set_option maxRecDepth 20000 in
theorem spX10_saw {post : Int32 → MM → Int64 → Prop} {q : Nat → Nat → Nat → Bool} (hq : ∀ (r : Int32) (M : MM) (tl : Int64) (cr cM ct : Nat), r = nI cr → M = dM cM → tl = i64 ct → q cr cM ct = true → post r M tl) {M : MM} {tl : Int64} {v1 : Int32} {v2 : Int32} {v3 : Int32} {v4 : Int32} {cM ct cv1 cv2 cv3 cv4 : Nat} (hM : M = dM cM) (ht : tl = i64 ct) (hv1 : v1 = nI cv1) (hv2 : v2 = nI cv2) (hv3 : v3 = nI cv3) (hv4 : v4 = nI cv4) (h : epX10_saw q  cM ct cv1 cv2 cv3 cv4 = true) : wpX10_saw post  M tl v1 v2 v3 v4 := by
  unfold wpX10_saw
  unfold epX10_saw at h
  refine spX1_isLot (fun r3 M1 t2 cr3 cM1 ct2 hr3 hM1 ht2 h => ?_) hM ht (rfl : (3 : Nat) = 3) hv1 hv2 h
  refine e_ite (c_eq hr3 (rfl : (0 : Int32) = nI 0)) h (fun h => ?_) (fun h => ?_)
  · exact hq _ _ _ _ _ _ lm1 hM1 ht2 h
  · refine e_ite (c_lt hv3 (rfl : (0 : Int32) = nI 0)) h (fun h => ?_) (fun h => ?_)
    · exact hq _ _ _ _ _ _ lm1 hM1 ht2 h
    · refine e_ite (c_lt hv3 (rfl : (24 : Int32) = nI 24)) h (fun h => ?_) (fun h => ?_)
      · refine spX5_isFull (fun r6 M4 t5 cr6 cM4 ct5 hr6 hM4 ht5 h => ?_) hM1 ht2 (rfl : (20 : Nat) = 20) h
        refine e_ite (c_eq hr6 (rfl : (0 : Int32) = nI 0)) h (fun h => ?_) (fun h => ?_)
        · refine e_ite (c_eq hv4 (rfl : (0 : Int32) = nI 0)) h (fun h => ?_) (fun h => ?_)
          · exact sX10_saw_60 hq  hM4 ht5 hv1 hv2 hv3 (rfl : (0 : Int32) = nI 0) h
          · exact sX10_saw_60 hq  hM4 ht5 hv1 hv2 hv3 (rfl : (1 : Int32) = nI 1) h
        · exact hq _ _ _ _ _ _ lm3 hM4 ht5 h
      · exact hq _ _ _ _ _ _ lm1 hM1 ht2 h
noncomputable def epX10_forget (q : Nat → Nat → Nat → Bool) (cM ct  : Nat) : Bool :=
  (epX5_empty (fun cr3 cM1 ct2 => (q cr3 cM1 ct2)) cM ct 20)
set_option maxHeartbeats 4000000 in
set_option maxRecDepth 20000 in
theorem spX10_forget {post : Int32 → MM → Int64 → Prop} {q : Nat → Nat → Nat → Bool} (hq : ∀ (r : Int32) (M : MM) (tl : Int64) (cr cM ct : Nat), r = nI cr → M = dM cM → tl = i64 ct → q cr cM ct = true → post r M tl) {M : MM} {tl : Int64} {cM ct  : Nat} (hM : M = dM cM) (ht : tl = i64 ct)  (h : epX10_forget q  cM ct  = true) : wpX10_forget post  M tl  := by
  unfold wpX10_forget
  unfold epX10_forget at h
  refine spX5_empty (fun r3 M1 t2 cr3 cM1 ct2 hr3 hM1 ht2 h => ?_) hM ht (rfl : (20 : Nat) = 20) h
  exact hq _ _ _ _ _ _ hr3 hM1 ht2 h
noncomputable def eX10_histories_64 (q : Nat → Nat → Nat → Bool) (cbk19 : Nat → Nat → Nat → Nat → Nat → Bool) (cM ct cv1 cv2 cv4 : Nat) : Bool :=
  (cbk19 cM ct cv1 cv2 (aN cv4 1))
set_option maxHeartbeats 4000000 in
set_option maxRecDepth 20000 in
theorem sX10_histories_64 {post : Int64 → MM → Int64 → Prop} {q : Nat → Nat → Nat → Bool} (hq : ∀ (r : Int64) (M : MM) (tl : Int64) (cr cM ct : Nat), r = i64 cr → M = dM cM → tl = i64 ct → q cr cM ct = true → post r M tl) {bk19 : MM → Int64 → Int32 → Int64 → Int32 → Prop} {cbk19 : Nat → Nat → Nat → Nat → Nat → Bool} (hbk19 : ∀ (M : MM) (tl : Int64) (x0 : Int32) (x1 : Int64) (x2 : Int32) (cM ct cx0 cx1 cx2 : Nat), M = dM cM → tl = i64 ct → x0 = nI cx0 → x1 = i64 cx1 → x2 = nI cx2 → cbk19 cM ct cx0 cx1 cx2 = true → bk19 M tl x0 x1 x2) {M : MM} {tl : Int64} {v1 : Int32} {v2 : Int64} {v4 : Int32} {cM ct cv1 cv2 cv4 : Nat} (hM : M = dM cM) (ht : tl = i64 ct) (hv1 : v1 = nI cv1) (hv2 : v2 = i64 cv2) (hv4 : v4 = nI cv4) (h : eX10_histories_64 q cbk19 cM ct cv1 cv2 cv4 = true) : wX10_histories_64 post bk19 M tl v1 v2 v4 := by
  unfold wX10_histories_64
  unfold eX10_histories_64 at h
  exact hbk19 _ _ _ _ _ _ _ _ _ _ hM ht hv1 hv2 (r_add hv4 (rfl : (1 : Int32) = nI 1)) h
noncomputable def eX10_histories_19 (q : Nat → Nat → Nat → Bool) (n : Nat) : Nat → Nat → Nat → Nat → Nat → Bool :=
  @Nat.rec (fun _ => Nat → Nat → Nat → Nat → Nat → Bool) (fun _ _ _ _ _ => false) (fun _ ih cM ct cv1 cv2 cv4 => (@Bool.rec (fun _ => Bool) (epX2_hasHistory (fun cr3 cM1 ct2 => (@Bool.rec (fun _ => Bool) (epX2_findHistories (fun cM4 ct5 => (eX10_histories_64 q ih cM4 ct5 cv1 (b64 f_lmul cv2 (xN (rd cM4 53 0))) cv4)) cM1 ct2 cv4 cv1) (eX10_histories_64 q ih cM1 ct2 cv1 cv2 cv4) (eqN cr3 0))) cM ct cv4) (q cv2 cM ct) (leN (rd cM 3 0) cv4))) n
set_option maxHeartbeats 4000000 in
set_option maxRecDepth 20000 in
theorem sX10_histories_19 {post : Int64 → MM → Int64 → Prop} {q : Nat → Nat → Nat → Bool} (hq : ∀ (r : Int64) (M : MM) (tl : Int64) (cr cM ct : Nat), r = i64 cr → M = dM cM → tl = i64 ct → q cr cM ct = true → post r M tl) : ∀ (n : Nat) (M : MM) (tl : Int64) (v1 : Int32) (v2 : Int64) (v4 : Int32) (cM ct cv1 cv2 cv4 : Nat), M = dM cM → tl = i64 ct → v1 = nI cv1 → v2 = i64 cv2 → v4 = nI cv4 → eX10_histories_19 q  n cM ct cv1 cv2 cv4 = true → wX10_histories_19 post  n M tl v1 v2 v4 := by
  intro n
  induction n with
  | zero => intro M tl v1 v2 v4 cM ct cv1 cv2 cv4 hM ht hv1 hv2 hv4 h; exact Bool.noConfusion h
  | succ n ih =>
    intro M tl v1 v2 v4 cM ct cv1 cv2 cv4 hM ht hv1 hv2 hv4 h
    unfold wX10_histories_19
    refine e_ite (c_le (r_rd hM (rfl : (3 : Nat) = 3) (rfl : (0 : Nat) = 0)) hv4) h (fun h => ?_) (fun h => ?_)
    · exact hq _ _ _ _ _ _ hv2 hM ht h
    · refine spX2_hasHistory (fun r3 M1 t2 cr3 cM1 ct2 hr3 hM1 ht2 h => ?_) hM ht hv4 h
      refine e_ite (c_eq hr3 (rfl : (0 : Int32) = nI 0)) h (fun h => ?_) (fun h => ?_)
      · exact sX10_histories_64 hq ih hM1 ht2 hv1 hv2 hv4 h
      · refine spX2_findHistories (fun M4 t5 cM4 ct5 hM4 ht5 h => ?_) hM1 ht2 hv4 hv1 h
        exact sX10_histories_64 hq ih hM4 ht5 hv1 (r_b64 f_lmul hv2 (r_ext (r_rd hM4 (rfl : (53 : Nat) = 53) (rfl : (0 : Nat) = 0)))) hv4 h
noncomputable def epX10_histories (q : Nat → Nat → Nat → Bool) (cM ct cv1 : Nat) : Bool :=
  (@Bool.rec (fun _ => Bool) (@Bool.rec (fun _ => Bool) (q 18446744073709551615 cM ct) (eX10_histories_19 q  5000 cM ct cv1 1 0) (ltN cv1 24)) (q 18446744073709551615 cM ct) (ltN cv1 0))
set_option maxHeartbeats 4000000 in
set_option maxRecDepth 20000 in
theorem spX10_histories {post : Int64 → MM → Int64 → Prop} {q : Nat → Nat → Nat → Bool} (hq : ∀ (r : Int64) (M : MM) (tl : Int64) (cr cM ct : Nat), r = i64 cr → M = dM cM → tl = i64 ct → q cr cM ct = true → post r M tl) {M : MM} {tl : Int64} {v1 : Int32} {cM ct cv1 : Nat} (hM : M = dM cM) (ht : tl = i64 ct) (hv1 : v1 = nI cv1) (h : epX10_histories q  cM ct cv1 = true) : wpX10_histories post  M tl v1 := by
  unfold wpX10_histories
  unfold epX10_histories at h
  refine e_ite (c_lt hv1 (rfl : (0 : Int32) = nI 0)) h (fun h => ?_) (fun h => ?_)
  · exact hq _ _ _ _ _ _ (rfl : (-1 : Int64) = i64 18446744073709551615) hM ht h
  · refine e_ite (c_lt hv1 (rfl : (24 : Int32) = nI 24)) h (fun h => ?_) (fun h => ?_)
    · exact ⟨5000, sX10_histories_19 hq  5000 _ _ _ _ _ _ _ _ _ _ hM ht hv1 (rfl : (1 : Int64) = i64 1) (rfl : (0 : Int32) = nI 0) h⟩
    · exact hq _ _ _ _ _ _ (rfl : (-1 : Int64) = i64 18446744073709551615) hM ht h
noncomputable def epX10_began (q : Nat → Nat → Nat → Bool) (cM ct cv1 cv2 cv3 : Nat) : Bool :=
  (epX1_isLot (fun cr3 cM1 ct2 => (@Bool.rec (fun _ => Bool) (@Bool.rec (fun _ => Bool) (@Bool.rec (fun _ => Bool) (@Bool.rec (fun _ => Bool) (@Bool.rec (fun _ => Bool) (q 4294967295 cM1 ct2) (epX2_hasHistory (fun cr6 cM4 ct5 => (@Bool.rec (fun _ => Bool) (epX2_findHistories (fun cM7 ct8 => (@Bool.rec (fun _ => Bool) (@Bool.rec (fun _ => Bool) (@Bool.rec (fun _ => Bool) (q (rd cM7 53 2) cM7 ct8) (q (rd cM7 53 1) cM7 ct8) (eqN cv3 1)) (epX2_onlyBeginner (fun cr11 cM9 ct10 => (q cr11 cM9 ct10)) cM7 ct8) (eqN cv3 0)) (q 4294967292 cM7 ct8) (eqN (rd cM7 53 0) 0))) cM4 ct5 cv1 cv2) (q 4294967294 cM4 ct5) (eqN cr6 0))) cM1 ct2 cv1) (leN cv3 2)) (q 4294967295 cM1 ct2) (ltN cv3 0)) (q 4294967295 cM1 ct2) (leN 24 cv2)) (q 4294967295 cM1 ct2) (ltN cv2 0)) (q 4294967295 cM1 ct2) (eqN cr3 0))) cM ct 3 0 cv1)
set_option maxHeartbeats 4000000 in
set_option maxRecDepth 20000 in
theorem spX10_began {post : Int32 → MM → Int64 → Prop} {q : Nat → Nat → Nat → Bool} (hq : ∀ (r : Int32) (M : MM) (tl : Int64) (cr cM ct : Nat), r = nI cr → M = dM cM → tl = i64 ct → q cr cM ct = true → post r M tl) {M : MM} {tl : Int64} {v1 : Int32} {v2 : Int32} {v3 : Int32} {cM ct cv1 cv2 cv3 : Nat} (hM : M = dM cM) (ht : tl = i64 ct) (hv1 : v1 = nI cv1) (hv2 : v2 = nI cv2) (hv3 : v3 = nI cv3) (h : epX10_began q  cM ct cv1 cv2 cv3 = true) : wpX10_began post  M tl v1 v2 v3 := by
  unfold wpX10_began
  unfold epX10_began at h
  refine spX1_isLot (fun r3 M1 t2 cr3 cM1 ct2 hr3 hM1 ht2 h => ?_) hM ht (rfl : (3 : Nat) = 3) (rfl : (0 : Int32) = nI 0) hv1 h
  refine e_ite (c_eq hr3 (rfl : (0 : Int32) = nI 0)) h (fun h => ?_) (fun h => ?_)
  · exact hq _ _ _ _ _ _ lm1 hM1 ht2 h
  · refine e_ite (c_lt hv2 (rfl : (0 : Int32) = nI 0)) h (fun h => ?_) (fun h => ?_)
    · exact hq _ _ _ _ _ _ lm1 hM1 ht2 h
    · refine e_ite (c_le (rfl : (24 : Int32) = nI 24) hv2) h (fun h => ?_) (fun h => ?_)
      · exact hq _ _ _ _ _ _ lm1 hM1 ht2 h
      · refine e_ite (c_lt hv3 (rfl : (0 : Int32) = nI 0)) h (fun h => ?_) (fun h => ?_)
        · exact hq _ _ _ _ _ _ lm1 hM1 ht2 h
        · refine e_ite (c_le hv3 (rfl : (2 : Int32) = nI 2)) h (fun h => ?_) (fun h => ?_)
          · refine spX2_hasHistory (fun r6 M4 t5 cr6 cM4 ct5 hr6 hM4 ht5 h => ?_) hM1 ht2 hv1 h
            refine e_ite (c_eq hr6 (rfl : (0 : Int32) = nI 0)) h (fun h => ?_) (fun h => ?_)
            · exact hq _ _ _ _ _ _ lm2 hM4 ht5 h
            · refine spX2_findHistories (fun M7 t8 cM7 ct8 hM7 ht8 h => ?_) hM4 ht5 hv1 hv2 h
              refine e_ite (c_eq (r_rd hM7 (rfl : (53 : Nat) = 53) (rfl : (0 : Nat) = 0)) (rfl : (0 : Int32) = nI 0)) h (fun h => ?_) (fun h => ?_)
              · exact hq _ _ _ _ _ _ lm4 hM7 ht8 h
              · refine e_ite (c_eq hv3 (rfl : (0 : Int32) = nI 0)) h (fun h => ?_) (fun h => ?_)
                · refine spX2_onlyBeginner (fun r11 M9 t10 cr11 cM9 ct10 hr11 hM9 ht10 h => ?_) hM7 ht8 h
                  exact hq _ _ _ _ _ _ hr11 hM9 ht10 h
                · refine e_ite (c_eq hv3 (rfl : (1 : Int32) = nI 1)) h (fun h => ?_) (fun h => ?_)
                  · exact hq _ _ _ _ _ _ (r_rd hM7 (rfl : (53 : Nat) = 53) (rfl : (1 : Nat) = 1)) hM7 ht8 h
                  · exact hq _ _ _ _ _ _ (r_rd hM7 (rfl : (53 : Nat) = 53) (rfl : (2 : Nat) = 2)) hM7 ht8 h
          · exact hq _ _ _ _ _ _ lm1 hM1 ht2 h
noncomputable def eX10_keep_25 (q : Nat → Nat → Nat → Bool) (cM ct cv1 cs0 : Nat) : Bool :=
  (@Bool.rec (fun _ => Bool) false (@Bool.rec (fun _ => Bool) false (epX7_copyFrom (fun cM3 ct4 => (@Bool.rec (fun _ => Bool) false (wrB (fun cM6 => (q cs0 cM6 ct4)) cM3 55 (tN cv1) (b1 (vp_nar .boolean) 1)) (inN cv1 (alF 55)))) cM ct (Nat.add 56 (Nat.mul 8 (tN cv1))) 14) (kdB (Nat.add 56 (Nat.mul 8 (tN cv1))) 7)) (inN cv1 2))
set_option maxHeartbeats 4000000 in
set_option maxRecDepth 20000 in
theorem sX10_keep_25 {post : Int32 → MM → Int64 → Prop} {q : Nat → Nat → Nat → Bool} (hq : ∀ (r : Int32) (M : MM) (tl : Int64) (cr cM ct : Nat), r = nI cr → M = dM cM → tl = i64 ct → q cr cM ct = true → post r M tl) {M : MM} {tl : Int64} {v1 : Int32} {s0 : Int32} {cM ct cv1 cs0 : Nat} (hM : M = dM cM) (ht : tl = i64 ct) (hv1 : v1 = nI cv1) (hs0 : s0 = nI cs0) (h : eX10_keep_25 q  cM ct cv1 cs0 = true) : wX10_keep_25 post  M tl v1 s0 := by
  unfold wX10_keep_25
  unfold eX10_keep_25 at h
  refine e_and (k_in hv1 (rfl : (2 : Nat) = 2)) h (fun h => ?_)
  refine e_and (k_kd (n_add (rfl : (56 : Nat) = 56) (n_mul (rfl : (8 : Nat) = 8) (r_nat hv1)))) h (fun h => ?_)
  refine spX7_copyFrom (fun M3 t4 cM3 ct4 hM3 ht4 h => ?_) hM ht (n_add (rfl : (56 : Nat) = 56) (n_mul (rfl : (8 : Nat) = 8) (r_nat hv1))) (rfl : (14 : Nat) = 14) h
  refine e_and (k_in hv1 (r_al (rfl : (55 : Nat) = 55))) h (fun h => ?_)
  refine e_wr h hM3 (rfl : (55 : Nat) = 55) (r_nat hv1) (r_b1 (vp_nar .boolean) (rfl : (1 : Int32) = nI 1)) (fun M6 cM6 hM6 h => ?_)
  exact hq _ _ _ _ _ _ hs0 hM6 ht4 h
noncomputable def epX10_keep (q : Nat → Nat → Nat → Bool) (cM ct cv1 : Nat) : Bool :=
  (@Bool.rec (fun _ => Bool) (@Bool.rec (fun _ => Bool) (q 4294967295 cM ct) (@Bool.rec (fun _ => Bool) false (@Bool.rec (fun _ => Bool) (eX10_keep_25 q  cM ct cv1 1) (eX10_keep_25 q  cM ct cv1 0) (eqN (rd cM 55 (tN cv1)) 0)) (inN cv1 (alF 55))) (ltN cv1 2)) (q 4294967295 cM ct) (ltN cv1 0))
set_option maxHeartbeats 4000000 in
set_option maxRecDepth 20000 in
theorem spX10_keep {post : Int32 → MM → Int64 → Prop} {q : Nat → Nat → Nat → Bool} (hq : ∀ (r : Int32) (M : MM) (tl : Int64) (cr cM ct : Nat), r = nI cr → M = dM cM → tl = i64 ct → q cr cM ct = true → post r M tl) {M : MM} {tl : Int64} {v1 : Int32} {cM ct cv1 : Nat} (hM : M = dM cM) (ht : tl = i64 ct) (hv1 : v1 = nI cv1) (h : epX10_keep q  cM ct cv1 = true) : wpX10_keep post  M tl v1 := by
  unfold wpX10_keep
  unfold epX10_keep at h
  refine e_ite (c_lt hv1 (rfl : (0 : Int32) = nI 0)) h (fun h => ?_) (fun h => ?_)
  · exact hq _ _ _ _ _ _ lm1 hM ht h
  · refine e_ite (c_lt hv1 (rfl : (2 : Int32) = nI 2)) h (fun h => ?_) (fun h => ?_)
    · refine e_and (k_in hv1 (r_al (rfl : (55 : Nat) = 55))) h (fun h => ?_)
      refine e_ite (c_eq (r_rd hM (rfl : (55 : Nat) = 55) (r_nat hv1)) (rfl : (0 : Int32) = nI 0)) h (fun h => ?_) (fun h => ?_)
      · exact sX10_keep_25 hq  hM ht hv1 (rfl : (0 : Int32) = nI 0) h
      · exact sX10_keep_25 hq  hM ht hv1 (rfl : (1 : Int32) = nI 1) h
    · exact hq _ _ _ _ _ _ lm1 hM ht h
noncomputable def epX10_back (q : Nat → Nat → Nat → Bool) (cM ct cv1 : Nat) : Bool :=
  (@Bool.rec (fun _ => Bool) (@Bool.rec (fun _ => Bool) (q 4294967295 cM ct) (@Bool.rec (fun _ => Bool) false (@Bool.rec (fun _ => Bool) (@Bool.rec (fun _ => Bool) false (epX7_copyFrom (fun cM3 ct4 => (epX7_countThings (fun cr7 cM5 ct6 => (q cr7 cM5 ct6)) cM3 ct4 14)) cM ct 14 (Nat.add 56 (Nat.mul 8 (tN cv1)))) (inN cv1 2)) (q 4294967294 cM ct) (eqN (rd cM 55 (tN cv1)) 0)) (inN cv1 (alF 55))) (ltN cv1 2)) (q 4294967295 cM ct) (ltN cv1 0))
set_option maxHeartbeats 4000000 in
set_option maxRecDepth 20000 in
theorem spX10_back {post : Int32 → MM → Int64 → Prop} {q : Nat → Nat → Nat → Bool} (hq : ∀ (r : Int32) (M : MM) (tl : Int64) (cr cM ct : Nat), r = nI cr → M = dM cM → tl = i64 ct → q cr cM ct = true → post r M tl) {M : MM} {tl : Int64} {v1 : Int32} {cM ct cv1 : Nat} (hM : M = dM cM) (ht : tl = i64 ct) (hv1 : v1 = nI cv1) (h : epX10_back q  cM ct cv1 = true) : wpX10_back post  M tl v1 := by
  unfold wpX10_back
  unfold epX10_back at h
  refine e_ite (c_lt hv1 (rfl : (0 : Int32) = nI 0)) h (fun h => ?_) (fun h => ?_)
  · exact hq _ _ _ _ _ _ lm1 hM ht h
  · refine e_ite (c_lt hv1 (rfl : (2 : Int32) = nI 2)) h (fun h => ?_) (fun h => ?_)
    · refine e_and (k_in hv1 (r_al (rfl : (55 : Nat) = 55))) h (fun h => ?_)
      refine e_ite (c_eq (r_rd hM (rfl : (55 : Nat) = 55) (r_nat hv1)) (rfl : (0 : Int32) = nI 0)) h (fun h => ?_) (fun h => ?_)
      · exact hq _ _ _ _ _ _ lm2 hM ht h
      · refine e_and (k_in hv1 (rfl : (2 : Nat) = 2)) h (fun h => ?_)
        refine spX7_copyFrom (fun M3 t4 cM3 ct4 hM3 ht4 h => ?_) hM ht (rfl : (14 : Nat) = 14) (n_add (rfl : (56 : Nat) = 56) (n_mul (rfl : (8 : Nat) = 8) (r_nat hv1))) h
        refine spX7_countThings (fun r7 M5 t6 cr7 cM5 ct6 hr7 hM5 ht6 h => ?_) hM3 ht4 (rfl : (14 : Nat) = 14) h
        exact hq _ _ _ _ _ _ hr7 hM5 ht6 h
    · exact hq _ _ _ _ _ _ lm1 hM ht h
noncomputable def epX10_sheet (q : Nat → Nat → Nat → Bool) (cM ct cv1 cv2 cv3 : Nat) : Bool :=
  (epX10_isSheet (fun cr3 cM1 ct2 => (@Bool.rec (fun _ => Bool) (epX10_isLane (fun cr6 cM4 ct5 => (@Bool.rec (fun _ => Bool) (@Bool.rec (fun _ => Bool) (q 4294967295 cM4 ct5) (@Bool.rec (fun _ => Bool) (q 4294967282 cM4 ct5) (@Bool.rec (fun _ => Bool) false (@Bool.rec (fun _ => Bool) false (epX8_renew (fun cM9 ct10 => (q 1 cM9 ct10)) cM4 ct5 (Nat.add 73 (Nat.mul 2 (tN cv1))) cv2 cv3) (kdB (Nat.add 73 (Nat.mul 2 (tN cv1))) 8)) (inN cv1 4)) (leN 0 cv3)) (leN cv3 40)) (q 4294967295 cM4 ct5) (eqN cr6 0))) cM1 ct2 cv2) (q 4294967295 cM1 ct2) (eqN cr3 0))) cM ct cv1)
set_option maxHeartbeats 4000000 in
set_option maxRecDepth 20000 in
theorem spX10_sheet {post : Int32 → MM → Int64 → Prop} {q : Nat → Nat → Nat → Bool} (hq : ∀ (r : Int32) (M : MM) (tl : Int64) (cr cM ct : Nat), r = nI cr → M = dM cM → tl = i64 ct → q cr cM ct = true → post r M tl) {M : MM} {tl : Int64} {v1 : Int32} {v2 : Int32} {v3 : Int32} {cM ct cv1 cv2 cv3 : Nat} (hM : M = dM cM) (ht : tl = i64 ct) (hv1 : v1 = nI cv1) (hv2 : v2 = nI cv2) (hv3 : v3 = nI cv3) (h : epX10_sheet q  cM ct cv1 cv2 cv3 = true) : wpX10_sheet post  M tl v1 v2 v3 := by
  unfold wpX10_sheet
  unfold epX10_sheet at h
  refine spX10_isSheet (fun r3 M1 t2 cr3 cM1 ct2 hr3 hM1 ht2 h => ?_) hM ht hv1 h
  refine e_ite (c_eq hr3 (rfl : (0 : Int32) = nI 0)) h (fun h => ?_) (fun h => ?_)
  · exact hq _ _ _ _ _ _ lm1 hM1 ht2 h
  · refine spX10_isLane (fun r6 M4 t5 cr6 cM4 ct5 hr6 hM4 ht5 h => ?_) hM1 ht2 hv2 h
    refine e_ite (c_eq hr6 (rfl : (0 : Int32) = nI 0)) h (fun h => ?_) (fun h => ?_)
    · exact hq _ _ _ _ _ _ lm1 hM4 ht5 h
    · refine e_ite (c_le hv3 (rfl : (40 : Int32) = nI 40)) h (fun h => ?_) (fun h => ?_)
      · refine e_ite (c_le (rfl : (0 : Int32) = nI 0) hv3) h (fun h => ?_) (fun h => ?_)
        · refine e_and (k_in hv1 (rfl : (4 : Nat) = 4)) h (fun h => ?_)
          refine e_and (k_kd (n_add (rfl : (73 : Nat) = 73) (n_mul (rfl : (2 : Nat) = 2) (r_nat hv1)))) h (fun h => ?_)
          refine spX8_renew (fun M9 t10 cM9 ct10 hM9 ht10 h => ?_) hM4 ht5 (n_add (rfl : (73 : Nat) = 73) (n_mul (rfl : (2 : Nat) = 2) (r_nat hv1))) hv2 hv3 h
          exact hq _ _ _ _ _ _ (rfl : (1 : Int32) = nI 1) hM9 ht10 h
        · exact hq _ _ _ _ _ _ lm14 hM4 ht5 h
      · exact hq _ _ _ _ _ _ lm1 hM4 ht5 h
noncomputable def epX10_lay (q : Nat → Nat → Nat → Bool) (cM ct cv1 cv2 cv3 : Nat) : Bool :=
  (epX10_isSheet (fun cr3 cM1 ct2 => (@Bool.rec (fun _ => Bool) (@Bool.rec (fun _ => Bool) false (@Bool.rec (fun _ => Bool) false (epX8_faultAt (fun cr8 cM6 ct7 => (@Bool.rec (fun _ => Bool) (q (sN 4294967286 cr8) cM6 ct7) (@Bool.rec (fun _ => Bool) false (@Bool.rec (fun _ => Bool) false (epX8_setCell (fun cM11 ct12 => (q 1 cM11 ct12)) cM6 ct7 (Nat.add 73 (Nat.mul 2 (tN cv1))) cv2 cv3) (kdB (Nat.add 73 (Nat.mul 2 (tN cv1))) 8)) (inN cv1 4)) (eqN cr8 0))) cM1 ct2 (Nat.add 73 (Nat.mul 2 (tN cv1))) cv2) (kdB (Nat.add 73 (Nat.mul 2 (tN cv1))) 8)) (inN cv1 4)) (q 4294967295 cM1 ct2) (eqN cr3 0))) cM ct cv1)
set_option maxHeartbeats 4000000 in
set_option maxRecDepth 20000 in
theorem spX10_lay {post : Int32 → MM → Int64 → Prop} {q : Nat → Nat → Nat → Bool} (hq : ∀ (r : Int32) (M : MM) (tl : Int64) (cr cM ct : Nat), r = nI cr → M = dM cM → tl = i64 ct → q cr cM ct = true → post r M tl) {M : MM} {tl : Int64} {v1 : Int32} {v2 : Int32} {v3 : Int32} {cM ct cv1 cv2 cv3 : Nat} (hM : M = dM cM) (ht : tl = i64 ct) (hv1 : v1 = nI cv1) (hv2 : v2 = nI cv2) (hv3 : v3 = nI cv3) (h : epX10_lay q  cM ct cv1 cv2 cv3 = true) : wpX10_lay post  M tl v1 v2 v3 := by
  unfold wpX10_lay
  unfold epX10_lay at h
  refine spX10_isSheet (fun r3 M1 t2 cr3 cM1 ct2 hr3 hM1 ht2 h => ?_) hM ht hv1 h
  refine e_ite (c_eq hr3 (rfl : (0 : Int32) = nI 0)) h (fun h => ?_) (fun h => ?_)
  · exact hq _ _ _ _ _ _ lm1 hM1 ht2 h
  · refine e_and (k_in hv1 (rfl : (4 : Nat) = 4)) h (fun h => ?_)
    refine e_and (k_kd (n_add (rfl : (73 : Nat) = 73) (n_mul (rfl : (2 : Nat) = 2) (r_nat hv1)))) h (fun h => ?_)
    refine spX8_faultAt (fun r8 M6 t7 cr8 cM6 ct7 hr8 hM6 ht7 h => ?_) hM1 ht2 (n_add (rfl : (73 : Nat) = 73) (n_mul (rfl : (2 : Nat) = 2) (r_nat hv1))) hv2 h
    refine e_ite (c_eq hr8 (rfl : (0 : Int32) = nI 0)) h (fun h => ?_) (fun h => ?_)
    · refine e_and (k_in hv1 (rfl : (4 : Nat) = 4)) h (fun h => ?_)
      refine e_and (k_kd (n_add (rfl : (73 : Nat) = 73) (n_mul (rfl : (2 : Nat) = 2) (r_nat hv1)))) h (fun h => ?_)
      refine spX8_setCell (fun M11 t12 cM11 ct12 hM11 ht12 h => ?_) hM6 ht7 (n_add (rfl : (73 : Nat) = 73) (n_mul (rfl : (2 : Nat) = 2) (r_nat hv1))) hv2 hv3 h
      exact hq _ _ _ _ _ _ (rfl : (1 : Int32) = nI 1) hM11 ht12 h
    · exact hq _ _ _ _ _ _ (r_sub lm10 hr8) hM6 ht7 h
noncomputable def eX10_read_142 (q : Nat → Nat → Nat → Bool) (n : Nat) : Nat → Nat → Nat → Nat → Nat → Nat → Nat → Bool :=
  @Nat.rec (fun _ => Nat → Nat → Nat → Nat → Nat → Nat → Nat → Bool) (fun _ _ _ _ _ _ _ => false) (fun _ ih cM ct cv3 cv5 cv6 cv7 cv8 => (@Bool.rec (fun _ => Bool) (@Bool.rec (fun _ => Bool) false (epX8_cell (fun cr5 cM3 ct4 => (@Bool.rec (fun _ => Bool) false (epX8_cell (fun cr9 cM7 ct8 => (@Bool.rec (fun _ => Bool) false (epX8_cell (fun cr13 cM11 ct12 => (epX7_setThing (fun cM14 ct15 => (ih cM14 ct15 cv3 cv5 cv6 cv7 (aN cv8 1))) cM11 ct12 14 cr5 cr9 cr13)) cM7 ct8 cv5 (aN (aN cv3 (mN 3 cv8)) 2)) (kdB cv5 8))) cM3 ct4 cv5 (aN (aN cv3 (mN 3 cv8)) 1)) (kdB cv5 8))) cM ct cv5 (aN cv3 (mN 3 cv8))) (kdB cv5 8)) (wrB (fun cM1 => (q cv7 cM1 ct)) cM 0 12 cv6) (leN cv7 cv8))) n
set_option maxHeartbeats 4000000 in
set_option maxRecDepth 20000 in
theorem sX10_read_142 {post : Int32 → MM → Int64 → Prop} {q : Nat → Nat → Nat → Bool} (hq : ∀ (r : Int32) (M : MM) (tl : Int64) (cr cM ct : Nat), r = nI cr → M = dM cM → tl = i64 ct → q cr cM ct = true → post r M tl) : ∀ (n : Nat) (M : MM) (tl : Int64) (v3 : Int32) (v5 : Nat) (v6 : Int32) (v7 : Int32) (v8 : Int32) (cM ct cv3 cv5 cv6 cv7 cv8 : Nat), M = dM cM → tl = i64 ct → v3 = nI cv3 → v5 = cv5 → v6 = nI cv6 → v7 = nI cv7 → v8 = nI cv8 → eX10_read_142 q  n cM ct cv3 cv5 cv6 cv7 cv8 = true → wX10_read_142 post  n M tl v3 v5 v6 v7 v8 := by
  intro n
  induction n with
  | zero => intro M tl v3 v5 v6 v7 v8 cM ct cv3 cv5 cv6 cv7 cv8 hM ht hv3 hv5 hv6 hv7 hv8 h; exact Bool.noConfusion h
  | succ n ih =>
    intro M tl v3 v5 v6 v7 v8 cM ct cv3 cv5 cv6 cv7 cv8 hM ht hv3 hv5 hv6 hv7 hv8 h
    unfold wX10_read_142
    refine e_ite (c_le hv7 hv8) h (fun h => ?_) (fun h => ?_)
    · refine e_wr h hM (rfl : (0 : Nat) = 0) (rfl : (12 : Nat) = 12) hv6 (fun M1 cM1 hM1 h => ?_)
      exact hq _ _ _ _ _ _ hv7 hM1 ht h
    · refine e_and (k_kd hv5) h (fun h => ?_)
      refine spX8_cell (fun r5 M3 t4 cr5 cM3 ct4 hr5 hM3 ht4 h => ?_) hM ht hv5 (r_add hv3 (r_mul (rfl : (3 : Int32) = nI 3) hv8)) h
      refine e_and (k_kd hv5) h (fun h => ?_)
      refine spX8_cell (fun r9 M7 t8 cr9 cM7 ct8 hr9 hM7 ht8 h => ?_) hM3 ht4 hv5 (r_add (r_add hv3 (r_mul (rfl : (3 : Int32) = nI 3) hv8)) (rfl : (1 : Int32) = nI 1)) h
      refine e_and (k_kd hv5) h (fun h => ?_)
      refine spX8_cell (fun r13 M11 t12 cr13 cM11 ct12 hr13 hM11 ht12 h => ?_) hM7 ht8 hv5 (r_add (r_add hv3 (r_mul (rfl : (3 : Int32) = nI 3) hv8)) (rfl : (2 : Int32) = nI 2)) h
      refine spX7_setThing (fun M14 t15 cM14 ct15 hM14 ht15 h => ?_) hM11 ht12 (rfl : (14 : Nat) = 14) hr5 hr9 hr13 h
      exact ih _ _ _ _ _ _ _ _ _ _ _ _ _ _ hM14 ht15 hv3 hv5 hv6 hv7 (r_add hv8 (rfl : (1 : Int32) = nI 1)) h
noncomputable def eX10_read_71 (q : Nat → Nat → Nat → Bool) (n : Nat) : Nat → Nat → Nat → Nat → Nat → Nat → Nat → Bool :=
  @Nat.rec (fun _ => Nat → Nat → Nat → Nat → Nat → Nat → Nat → Bool) (fun _ _ _ _ _ _ _ => false) (fun _ ih cM ct cv3 cv5 cv6 cv7 cv8 => (@Bool.rec (fun _ => Bool) (@Bool.rec (fun _ => Bool) false (epX8_cell (fun cr4 cM2 ct3 => (@Bool.rec (fun _ => Bool) false (epX8_cell (fun cr8 cM6 ct7 => (epX1_isLot (fun cr11 cM9 ct10 => (@Bool.rec (fun _ => Bool) (@Bool.rec (fun _ => Bool) false (epX8_cell (fun cr15 cM13 ct14 => (epX10_isThing (fun cr18 cM16 ct17 => (@Bool.rec (fun _ => Bool) (ih cM16 ct17 cv3 cv5 cv6 cv7 (aN cv8 1)) (q (sN 4294967276 cv8) cM16 ct17) (eqN cr18 0))) cM13 ct14 cr15)) cM9 ct10 cv5 (aN (aN cv3 (mN 3 cv8)) 2)) (kdB cv5 8)) (q (sN 4294967276 cv8) cM9 ct10) (eqN cr11 0))) cM6 ct7 3 cr4 cr8)) cM2 ct3 cv5 (aN (aN cv3 (mN 3 cv8)) 1)) (kdB cv5 8))) cM ct cv5 (aN cv3 (mN 3 cv8))) (kdB cv5 8)) (eX10_read_142 q  5000 cM ct cv3 cv5 cv6 cv7 0) (leN cv7 cv8))) n
set_option maxHeartbeats 4000000 in
set_option maxRecDepth 20000 in
theorem sX10_read_71 {post : Int32 → MM → Int64 → Prop} {q : Nat → Nat → Nat → Bool} (hq : ∀ (r : Int32) (M : MM) (tl : Int64) (cr cM ct : Nat), r = nI cr → M = dM cM → tl = i64 ct → q cr cM ct = true → post r M tl) : ∀ (n : Nat) (M : MM) (tl : Int64) (v3 : Int32) (v5 : Nat) (v6 : Int32) (v7 : Int32) (v8 : Int32) (cM ct cv3 cv5 cv6 cv7 cv8 : Nat), M = dM cM → tl = i64 ct → v3 = nI cv3 → v5 = cv5 → v6 = nI cv6 → v7 = nI cv7 → v8 = nI cv8 → eX10_read_71 q  n cM ct cv3 cv5 cv6 cv7 cv8 = true → wX10_read_71 post  n M tl v3 v5 v6 v7 v8 := by
  intro n
  induction n with
  | zero => intro M tl v3 v5 v6 v7 v8 cM ct cv3 cv5 cv6 cv7 cv8 hM ht hv3 hv5 hv6 hv7 hv8 h; exact Bool.noConfusion h
  | succ n ih =>
    intro M tl v3 v5 v6 v7 v8 cM ct cv3 cv5 cv6 cv7 cv8 hM ht hv3 hv5 hv6 hv7 hv8 h
    unfold wX10_read_71
    refine e_ite (c_le hv7 hv8) h (fun h => ?_) (fun h => ?_)
    · exact ⟨5000, sX10_read_142 hq  5000 _ _ _ _ _ _ _ _ _ _ _ _ _ _ hM ht hv3 hv5 hv6 hv7 (rfl : (0 : Int32) = nI 0) h⟩
    · refine e_and (k_kd hv5) h (fun h => ?_)
      refine spX8_cell (fun r4 M2 t3 cr4 cM2 ct3 hr4 hM2 ht3 h => ?_) hM ht hv5 (r_add hv3 (r_mul (rfl : (3 : Int32) = nI 3) hv8)) h
      refine e_and (k_kd hv5) h (fun h => ?_)
      refine spX8_cell (fun r8 M6 t7 cr8 cM6 ct7 hr8 hM6 ht7 h => ?_) hM2 ht3 hv5 (r_add (r_add hv3 (r_mul (rfl : (3 : Int32) = nI 3) hv8)) (rfl : (1 : Int32) = nI 1)) h
      refine spX1_isLot (fun r11 M9 t10 cr11 cM9 ct10 hr11 hM9 ht10 h => ?_) hM6 ht7 (rfl : (3 : Nat) = 3) hr4 hr8 h
      refine e_ite (c_eq hr11 (rfl : (0 : Int32) = nI 0)) h (fun h => ?_) (fun h => ?_)
      · exact hq _ _ _ _ _ _ (r_sub lm20 hv8) hM9 ht10 h
      · refine e_and (k_kd hv5) h (fun h => ?_)
        refine spX8_cell (fun r15 M13 t14 cr15 cM13 ct14 hr15 hM13 ht14 h => ?_) hM9 ht10 hv5 (r_add (r_add hv3 (r_mul (rfl : (3 : Int32) = nI 3) hv8)) (rfl : (2 : Int32) = nI 2)) h
        refine spX10_isThing (fun r18 M16 t17 cr18 cM16 ct17 hr18 hM16 ht17 h => ?_) hM13 ht14 hr15 h
        refine e_ite (c_eq hr18 (rfl : (0 : Int32) = nI 0)) h (fun h => ?_) (fun h => ?_)
        · exact hq _ _ _ _ _ _ (r_sub lm20 hv8) hM16 ht17 h
        · exact ih _ _ _ _ _ _ _ _ _ _ _ _ _ _ hM16 ht17 hv3 hv5 hv6 hv7 (r_add hv8 (rfl : (1 : Int32) = nI 1)) h
noncomputable def eX10_read_66 (q : Nat → Nat → Nat → Bool) (cM ct cv3 cv5 cv6 cs0 : Nat) : Bool :=
  (eX10_read_71 q  5000 cM ct cv3 cv5 cv6 cs0 0)
set_option maxHeartbeats 4000000 in
set_option maxRecDepth 20000 in
theorem sX10_read_66 {post : Int32 → MM → Int64 → Prop} {q : Nat → Nat → Nat → Bool} (hq : ∀ (r : Int32) (M : MM) (tl : Int64) (cr cM ct : Nat), r = nI cr → M = dM cM → tl = i64 ct → q cr cM ct = true → post r M tl) {M : MM} {tl : Int64} {v3 : Int32} {v5 : Nat} {v6 : Int32} {s0 : Int32} {cM ct cv3 cv5 cv6 cs0 : Nat} (hM : M = dM cM) (ht : tl = i64 ct) (hv3 : v3 = nI cv3) (hv5 : v5 = cv5) (hv6 : v6 = nI cv6) (hs0 : s0 = nI cs0) (h : eX10_read_66 q  cM ct cv3 cv5 cv6 cs0 = true) : wX10_read_66 post  M tl v3 v5 v6 s0 := by
  unfold wX10_read_66
  unfold eX10_read_66 at h
  exact ⟨5000, sX10_read_71 hq  5000 _ _ _ _ _ _ _ _ _ _ _ _ _ _ hM ht hv3 hv5 hv6 hs0 (rfl : (0 : Int32) = nI 0) h⟩
noncomputable def epX10_read (q : Nat → Nat → Nat → Bool) (cM ct cv1 cv2 cv3 cv4 : Nat) : Bool :=
  (epX10_isSheet (fun cr3 cM1 ct2 => (@Bool.rec (fun _ => Bool) (epX10_isLane (fun cr6 cM4 ct5 => (@Bool.rec (fun _ => Bool) (@Bool.rec (fun _ => Bool) (@Bool.rec (fun _ => Bool) (q 4294967295 cM4 ct5) (@Bool.rec (fun _ => Bool) false (@Bool.rec (fun _ => Bool) false (epX8_faultOfReading (fun cr11 cM9 ct10 => (@Bool.rec (fun _ => Bool) (@Bool.rec (fun _ => Bool) false (epX8_wholeThings (fun cr15 cM13 ct14 => (eX10_read_66 q  cM13 ct14 cv3 (Nat.add 73 (Nat.mul 2 (tN cv1))) cr11 cr15)) cM9 ct10 (Nat.add 73 (Nat.mul 2 (tN cv1))) cv2 cv3 cv4) (kdB (Nat.add 73 (Nat.mul 2 (tN cv1))) 8)) (eX10_read_66 q  cM9 ct10 cv3 (Nat.add 73 (Nat.mul 2 (tN cv1))) cr11 cv4) (eqN cr11 0))) cM4 ct5 (Nat.add 73 (Nat.mul 2 (tN cv1))) cv2 cv3 cv4) (kdB (Nat.add 73 (Nat.mul 2 (tN cv1))) 8)) (inN cv1 4)) (leN cv4 13)) (q 4294967295 cM4 ct5) (ltN cv4 0)) (q 4294967295 cM4 ct5) (eqN cr6 0))) cM1 ct2 cv2) (q 4294967295 cM1 ct2) (eqN cr3 0))) cM ct cv1)
set_option maxHeartbeats 4000000 in
set_option maxRecDepth 20000 in
theorem spX10_read {post : Int32 → MM → Int64 → Prop} {q : Nat → Nat → Nat → Bool} (hq : ∀ (r : Int32) (M : MM) (tl : Int64) (cr cM ct : Nat), r = nI cr → M = dM cM → tl = i64 ct → q cr cM ct = true → post r M tl) {M : MM} {tl : Int64} {v1 : Int32} {v2 : Int32} {v3 : Int32} {v4 : Int32} {cM ct cv1 cv2 cv3 cv4 : Nat} (hM : M = dM cM) (ht : tl = i64 ct) (hv1 : v1 = nI cv1) (hv2 : v2 = nI cv2) (hv3 : v3 = nI cv3) (hv4 : v4 = nI cv4) (h : epX10_read q  cM ct cv1 cv2 cv3 cv4 = true) : wpX10_read post  M tl v1 v2 v3 v4 := by
  unfold wpX10_read
  unfold epX10_read at h
  refine spX10_isSheet (fun r3 M1 t2 cr3 cM1 ct2 hr3 hM1 ht2 h => ?_) hM ht hv1 h
  refine e_ite (c_eq hr3 (rfl : (0 : Int32) = nI 0)) h (fun h => ?_) (fun h => ?_)
  · exact hq _ _ _ _ _ _ lm1 hM1 ht2 h
  · refine spX10_isLane (fun r6 M4 t5 cr6 cM4 ct5 hr6 hM4 ht5 h => ?_) hM1 ht2 hv2 h
    refine e_ite (c_eq hr6 (rfl : (0 : Int32) = nI 0)) h (fun h => ?_) (fun h => ?_)
    · exact hq _ _ _ _ _ _ lm1 hM4 ht5 h
    · refine e_ite (c_lt hv4 (rfl : (0 : Int32) = nI 0)) h (fun h => ?_) (fun h => ?_)
      · exact hq _ _ _ _ _ _ lm1 hM4 ht5 h
      · refine e_ite (c_le hv4 (rfl : (13 : Int32) = nI 13)) h (fun h => ?_) (fun h => ?_)
        · refine e_and (k_in hv1 (rfl : (4 : Nat) = 4)) h (fun h => ?_)
          refine e_and (k_kd (n_add (rfl : (73 : Nat) = 73) (n_mul (rfl : (2 : Nat) = 2) (r_nat hv1)))) h (fun h => ?_)
          refine spX8_faultOfReading (fun r11 M9 t10 cr11 cM9 ct10 hr11 hM9 ht10 h => ?_) hM4 ht5 (n_add (rfl : (73 : Nat) = 73) (n_mul (rfl : (2 : Nat) = 2) (r_nat hv1))) hv2 hv3 hv4 h
          refine e_ite (c_eq hr11 (rfl : (0 : Int32) = nI 0)) h (fun h => ?_) (fun h => ?_)
          · exact sX10_read_66 hq  hM9 ht10 hv3 (n_add (rfl : (73 : Nat) = 73) (n_mul (rfl : (2 : Nat) = 2) (r_nat hv1))) hr11 hv4 h
          · refine e_and (k_kd (n_add (rfl : (73 : Nat) = 73) (n_mul (rfl : (2 : Nat) = 2) (r_nat hv1)))) h (fun h => ?_)
            refine spX8_wholeThings (fun r15 M13 t14 cr15 cM13 ct14 hr15 hM13 ht14 h => ?_) hM9 ht10 (n_add (rfl : (73 : Nat) = 73) (n_mul (rfl : (2 : Nat) = 2) (r_nat hv1))) hv2 hv3 hv4 h
            exact sX10_read_66 hq  hM13 ht14 hv3 (n_add (rfl : (73 : Nat) = 73) (n_mul (rfl : (2 : Nat) = 2) (r_nat hv1))) hr11 hr15 h
        · exact hq _ _ _ _ _ _ lm1 hM4 ht5 h
noncomputable def epX10_torn (q : Nat → Nat → Nat → Bool) (cM ct  : Nat) : Bool :=
  (q (rd cM 0 12) cM ct)
set_option maxHeartbeats 4000000 in
set_option maxRecDepth 20000 in
theorem spX10_torn {post : Int32 → MM → Int64 → Prop} {q : Nat → Nat → Nat → Bool} (hq : ∀ (r : Int32) (M : MM) (tl : Int64) (cr cM ct : Nat), r = nI cr → M = dM cM → tl = i64 ct → q cr cM ct = true → post r M tl) {M : MM} {tl : Int64} {cM ct  : Nat} (hM : M = dM cM) (ht : tl = i64 ct)  (h : epX10_torn q  cM ct  = true) : wpX10_torn post  M tl  := by
  unfold wpX10_torn
  unfold epX10_torn at h
  exact hq _ _ _ _ _ _ (r_rd hM (rfl : (0 : Nat) = 0) (rfl : (12 : Nat) = 12)) hM ht h
noncomputable def eX10_count_96 (q : Nat → Nat → Nat → Bool) (cM ct cs0 : Nat) : Bool :=
  (@Bool.rec (fun _ => Bool) false (@Bool.rec (fun _ => Bool) (q (aN cs0 1) cM ct) (q (aN cs0 0) cM ct) (eqN (rd cM 55 (tN 1)) 0)) (inN 1 (alF 55)))
set_option maxHeartbeats 4000000 in
set_option maxRecDepth 20000 in
theorem sX10_count_96 {post : Int32 → MM → Int64 → Prop} {q : Nat → Nat → Nat → Bool} (hq : ∀ (r : Int32) (M : MM) (tl : Int64) (cr cM ct : Nat), r = nI cr → M = dM cM → tl = i64 ct → q cr cM ct = true → post r M tl) {M : MM} {tl : Int64} {s0 : Int32} {cM ct cs0 : Nat} (hM : M = dM cM) (ht : tl = i64 ct) (hs0 : s0 = nI cs0) (h : eX10_count_96 q  cM ct cs0 = true) : wX10_count_96 post  M tl s0 := by
  unfold wX10_count_96
  unfold eX10_count_96 at h
  refine e_and (k_in (rfl : (1 : Int32) = nI 1) (r_al (rfl : (55 : Nat) = 55))) h (fun h => ?_)
  refine e_ite (c_eq (r_rd hM (rfl : (55 : Nat) = 55) (r_nat (rfl : (1 : Int32) = nI 1))) (rfl : (0 : Int32) = nI 0)) h (fun h => ?_) (fun h => ?_)
  · exact hq _ _ _ _ _ _ (r_add hs0 (rfl : (0 : Int32) = nI 0)) hM ht h
  · exact hq _ _ _ _ _ _ (r_add hs0 (rfl : (1 : Int32) = nI 1)) hM ht h
noncomputable def epX10_count (q : Nat → Nat → Nat → Bool) (cM ct cv1 : Nat) : Bool :=
  (@Bool.rec (fun _ => Bool) (@Bool.rec (fun _ => Bool) (@Bool.rec (fun _ => Bool) (@Bool.rec (fun _ => Bool) (@Bool.rec (fun _ => Bool) (@Bool.rec (fun _ => Bool) (@Bool.rec (fun _ => Bool) (q 4294967295 cM ct) (@Bool.rec (fun _ => Bool) false (@Bool.rec (fun _ => Bool) false (@Bool.rec (fun _ => Bool) (q 4294967292 cM ct) (@Bool.rec (fun _ => Bool) false (@Bool.rec (fun _ => Bool) false (q (rd cM (Nat.add 73 (Nat.mul 2 (tN 0))) 0) cM ct) (kdB (Nat.add 73 (Nat.mul 2 (tN 0))) 8)) (inN 0 4)) (leN 0 (rd cM (Nat.add 73 (Nat.mul 2 (tN 0))) 0))) (kdB (Nat.add 73 (Nat.mul 2 (tN 0))) 8)) (inN 0 4)) (eqN cv1 6)) (q (rd cM 1 1) cM ct) (eqN cv1 5)) (@Bool.rec (fun _ => Bool) false (@Bool.rec (fun _ => Bool) (eX10_count_96 q  cM ct 1) (eX10_count_96 q  cM ct 0) (eqN (rd cM 55 (tN 0)) 0)) (inN 0 (alF 55))) (eqN cv1 4)) (q (rd cM 20 3) cM ct) (eqN cv1 3)) (q (rd cM 18 3) cM ct) (eqN cv1 2)) (epX1_countPairs (fun cr8 cM6 ct7 => (q cr8 cM6 ct7)) cM ct 3) (eqN cv1 1)) (epX7_countThings (fun cr4 cM2 ct3 => (q cr4 cM2 ct3)) cM ct 14) (eqN cv1 0))
set_option maxHeartbeats 4000000 in
set_option maxRecDepth 20000 in
theorem spX10_count {post : Int32 → MM → Int64 → Prop} {q : Nat → Nat → Nat → Bool} (hq : ∀ (r : Int32) (M : MM) (tl : Int64) (cr cM ct : Nat), r = nI cr → M = dM cM → tl = i64 ct → q cr cM ct = true → post r M tl) {M : MM} {tl : Int64} {v1 : Int32} {cM ct cv1 : Nat} (hM : M = dM cM) (ht : tl = i64 ct) (hv1 : v1 = nI cv1) (h : epX10_count q  cM ct cv1 = true) : wpX10_count post  M tl v1 := by
  unfold wpX10_count
  unfold epX10_count at h
  refine e_ite (c_eq hv1 (rfl : (0 : Int32) = nI 0)) h (fun h => ?_) (fun h => ?_)
  · refine spX7_countThings (fun r4 M2 t3 cr4 cM2 ct3 hr4 hM2 ht3 h => ?_) hM ht (rfl : (14 : Nat) = 14) h
    exact hq _ _ _ _ _ _ hr4 hM2 ht3 h
  · refine e_ite (c_eq hv1 (rfl : (1 : Int32) = nI 1)) h (fun h => ?_) (fun h => ?_)
    · refine spX1_countPairs (fun r8 M6 t7 cr8 cM6 ct7 hr8 hM6 ht7 h => ?_) hM ht (rfl : (3 : Nat) = 3) h
      exact hq _ _ _ _ _ _ hr8 hM6 ht7 h
    · refine e_ite (c_eq hv1 (rfl : (2 : Int32) = nI 2)) h (fun h => ?_) (fun h => ?_)
      · exact hq _ _ _ _ _ _ (r_rd hM (rfl : (18 : Nat) = 18) (rfl : (3 : Nat) = 3)) hM ht h
      · refine e_ite (c_eq hv1 (rfl : (3 : Int32) = nI 3)) h (fun h => ?_) (fun h => ?_)
        · exact hq _ _ _ _ _ _ (r_rd hM (rfl : (20 : Nat) = 20) (rfl : (3 : Nat) = 3)) hM ht h
        · refine e_ite (c_eq hv1 (rfl : (4 : Int32) = nI 4)) h (fun h => ?_) (fun h => ?_)
          · refine e_and (k_in (rfl : (0 : Int32) = nI 0) (r_al (rfl : (55 : Nat) = 55))) h (fun h => ?_)
            refine e_ite (c_eq (r_rd hM (rfl : (55 : Nat) = 55) (r_nat (rfl : (0 : Int32) = nI 0))) (rfl : (0 : Int32) = nI 0)) h (fun h => ?_) (fun h => ?_)
            · exact sX10_count_96 hq  hM ht (rfl : (0 : Int32) = nI 0) h
            · exact sX10_count_96 hq  hM ht (rfl : (1 : Int32) = nI 1) h
          · refine e_ite (c_eq hv1 (rfl : (5 : Int32) = nI 5)) h (fun h => ?_) (fun h => ?_)
            · exact hq _ _ _ _ _ _ (r_rd hM (rfl : (1 : Nat) = 1) (rfl : (1 : Nat) = 1)) hM ht h
            · refine e_ite (c_eq hv1 (rfl : (6 : Int32) = nI 6)) h (fun h => ?_) (fun h => ?_)
              · refine e_and (k_in (rfl : (0 : Int32) = nI 0) (rfl : (4 : Nat) = 4)) h (fun h => ?_)
                refine e_and (k_kd (n_add (rfl : (73 : Nat) = 73) (n_mul (rfl : (2 : Nat) = 2) (r_nat (rfl : (0 : Int32) = nI 0))))) h (fun h => ?_)
                refine e_ite (c_le (rfl : (0 : Int32) = nI 0) (r_rd hM (n_add (rfl : (73 : Nat) = 73) (n_mul (rfl : (2 : Nat) = 2) (r_nat (rfl : (0 : Int32) = nI 0)))) (rfl : (0 : Nat) = 0))) h (fun h => ?_) (fun h => ?_)
                · refine e_and (k_in (rfl : (0 : Int32) = nI 0) (rfl : (4 : Nat) = 4)) h (fun h => ?_)
                  refine e_and (k_kd (n_add (rfl : (73 : Nat) = 73) (n_mul (rfl : (2 : Nat) = 2) (r_nat (rfl : (0 : Int32) = nI 0))))) h (fun h => ?_)
                  exact hq _ _ _ _ _ _ (r_rd hM (n_add (rfl : (73 : Nat) = 73) (n_mul (rfl : (2 : Nat) = 2) (r_nat (rfl : (0 : Int32) = nI 0)))) (rfl : (0 : Nat) = 0)) hM ht h
                · exact hq _ _ _ _ _ _ lm4 hM ht h
              · exact hq _ _ _ _ _ _ lm1 hM ht h
