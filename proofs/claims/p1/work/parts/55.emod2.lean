noncomputable def epX11_rule (q : Nat → Nat → Nat → Bool) (cM ct cv1 : Nat) : Bool :=
  (@Bool.rec (fun _ => Bool) (@Bool.rec (fun _ => Bool) (@Bool.rec (fun _ => Bool) (@Bool.rec (fun _ => Bool) (epX11_in (fun cr8 cM6 ct7 => (@Bool.rec (fun _ => Bool) (@Bool.rec (fun _ => Bool) false (q (rd cM6 84 (tN (sN cv1 10))) cM6 ct7) (inN (sN cv1 10) (alF 84))) (q 4294967295 cM6 ct7) (eqN cr8 0))) cM ct (xN cv1) 10 13) (@Bool.rec (fun _ => Bool) false (q (rd cM 82 (tN 16)) cM ct) (inN 16 (alF 82))) (eqN cv1 3)) (q (rd cM 81 4) cM ct) (eqN cv1 2)) (q (rd cM 81 3) cM ct) (eqN cv1 1)) (q (rd cM 81 2) cM ct) (eqN cv1 0))
set_option maxHeartbeats 4000000 in
set_option maxRecDepth 20000 in
theorem spX11_rule {post : Int32 → MM → Int64 → Prop} {q : Nat → Nat → Nat → Bool} (hq : ∀ (r : Int32) (M : MM) (tl : Int64) (cr cM ct : Nat), r = nI cr → M = dM cM → tl = i64 ct → q cr cM ct = true → post r M tl) {M : MM} {tl : Int64} {v1 : Int32} {cM ct cv1 : Nat} (hM : M = dM cM) (ht : tl = i64 ct) (hv1 : v1 = nI cv1) (h : epX11_rule q  cM ct cv1 = true) : wpX11_rule post  M tl v1 := by
  unfold wpX11_rule
  unfold epX11_rule at h
  refine e_ite (c_eq hv1 (rfl : (0 : Int32) = nI 0)) h (fun h => ?_) (fun h => ?_)
  · exact hq _ _ _ _ _ _ (r_rd hM (rfl : (81 : Nat) = 81) (rfl : (2 : Nat) = 2)) hM ht h
  · refine e_ite (c_eq hv1 (rfl : (1 : Int32) = nI 1)) h (fun h => ?_) (fun h => ?_)
    · exact hq _ _ _ _ _ _ (r_rd hM (rfl : (81 : Nat) = 81) (rfl : (3 : Nat) = 3)) hM ht h
    · refine e_ite (c_eq hv1 (rfl : (2 : Int32) = nI 2)) h (fun h => ?_) (fun h => ?_)
      · exact hq _ _ _ _ _ _ (r_rd hM (rfl : (81 : Nat) = 81) (rfl : (4 : Nat) = 4)) hM ht h
      · refine e_ite (c_eq hv1 (rfl : (3 : Int32) = nI 3)) h (fun h => ?_) (fun h => ?_)
        · refine e_and (k_in (rfl : (16 : Int32) = nI 16) (r_al (rfl : (82 : Nat) = 82))) h (fun h => ?_)
          exact hq _ _ _ _ _ _ (r_rd hM (rfl : (82 : Nat) = 82) (r_nat (rfl : (16 : Int32) = nI 16))) hM ht h
        · refine spX11_in (fun r8 M6 t7 cr8 cM6 ct7 hr8 hM6 ht7 h => ?_) hM ht (r_ext hv1) (rfl : (10 : Int64) = i64 10) (rfl : (13 : Int64) = i64 13) h
          refine e_ite (c_eq hr8 (rfl : (0 : Int32) = nI 0)) h (fun h => ?_) (fun h => ?_)
          · exact hq _ _ _ _ _ _ lm1 hM6 ht7 h
          · refine e_and (k_in (r_sub hv1 (rfl : (10 : Int32) = nI 10)) (r_al (rfl : (84 : Nat) = 84))) h (fun h => ?_)
            exact hq _ _ _ _ _ _ (r_rd hM6 (rfl : (84 : Nat) = 84) (r_nat (r_sub hv1 (rfl : (10 : Int32) = nI 10)))) hM6 ht7 h
noncomputable def epX11_isKind (q : Nat → Nat → Nat → Bool) (cM ct cv0 : Nat) : Bool :=
  (epX11_in (fun cr3 cM1 ct2 => (@Bool.rec (fun _ => Bool) false (q cr3 cM1 ct2) (Nat.ble cr3 1))) cM ct (xN cv0) 0 5)
set_option maxHeartbeats 4000000 in
set_option maxRecDepth 20000 in
theorem spX11_isKind {post : Int32 → MM → Int64 → Prop} {q : Nat → Nat → Nat → Bool} (hq : ∀ (r : Int32) (M : MM) (tl : Int64) (cr cM ct : Nat), r = nI cr → M = dM cM → tl = i64 ct → q cr cM ct = true → post r M tl) {M : MM} {tl : Int64} {v0 : Int32} {cM ct cv0 : Nat} (hM : M = dM cM) (ht : tl = i64 ct) (hv0 : v0 = nI cv0) (h : epX11_isKind q  cM ct cv0 = true) : wpX11_isKind post  M tl v0 := by
  unfold wpX11_isKind
  unfold epX11_isKind at h
  refine spX11_in (fun r3 M1 t2 cr3 cM1 ct2 hr3 hM1 ht2 h => ?_) hM ht (r_ext hv0) (rfl : (0 : Int64) = i64 0) (rfl : (5 : Int64) = i64 5) h
  refine e_and (k_nar hr3) h (fun h => ?_)
  exact hq _ _ _ _ _ _ hr3 hM1 ht2 h
noncomputable def epX11_doesLack (q : Nat → Nat → Nat → Bool) (cM ct cv1 cv2 : Nat) : Bool :=
  (@Bool.rec (fun _ => Bool) false (@Bool.rec (fun _ => Bool) (q 0 cM ct) (q 1 cM ct) (eqN (Nat.land (b2 f_shr (rd cM 87 (tN cv1)) cv2) 1) 1)) (inN cv1 (alF 87)))
set_option maxHeartbeats 4000000 in
set_option maxRecDepth 20000 in
theorem spX11_doesLack {post : Int32 → MM → Int64 → Prop} {q : Nat → Nat → Nat → Bool} (hq : ∀ (r : Int32) (M : MM) (tl : Int64) (cr cM ct : Nat), r = nI cr → M = dM cM → tl = i64 ct → q cr cM ct = true → post r M tl) {M : MM} {tl : Int64} {v1 : Int32} {v2 : Int32} {cM ct cv1 cv2 : Nat} (hM : M = dM cM) (ht : tl = i64 ct) (hv1 : v1 = nI cv1) (hv2 : v2 = nI cv2) (h : epX11_doesLack q  cM ct cv1 cv2 = true) : wpX11_doesLack post  M tl v1 v2 := by
  unfold wpX11_doesLack
  unfold epX11_doesLack at h
  refine e_and (k_in hv1 (r_al (rfl : (87 : Nat) = 87))) h (fun h => ?_)
  refine e_ite (c_eq (r_and (r_b2 f_shr (r_rd hM (rfl : (87 : Nat) = 87) (r_nat hv1)) hv2) (rfl : (1 : Int32) = nI 1)) (rfl : (1 : Int32) = nI 1)) h (fun h => ?_) (fun h => ?_)
  · exact hq _ _ _ _ _ _ (rfl : (1 : Int32) = nI 1) hM ht h
  · exact hq _ _ _ _ _ _ (rfl : (0 : Int32) = nI 0) hM ht h
noncomputable def epX11_kind (q : Nat → Nat → Nat → Bool) (cM ct cv1 cv2 : Nat) : Bool :=
  (epX11_isKind (fun cr3 cM1 ct2 => (@Bool.rec (fun _ => Bool) (@Bool.rec (fun _ => Bool) (@Bool.rec (fun _ => Bool) (@Bool.rec (fun _ => Bool) (@Bool.rec (fun _ => Bool) (@Bool.rec (fun _ => Bool) (@Bool.rec (fun _ => Bool) (@Bool.rec (fun _ => Bool) (@Bool.rec (fun _ => Bool) (q 4294967295 cM1 ct2) (epX11_doesLack (fun cr25 cM23 ct24 => (epX11_flag (fun cr28 cM26 ct27 => (q cr28 cM26 ct27)) cM23 ct24 cr25)) cM1 ct2 (sN cv2 30) cv1) (eqN cv2 31)) (epX11_doesLack (fun cr18 cM16 ct17 => (epX11_flag (fun cr21 cM19 ct20 => (q cr21 cM19 ct20)) cM16 ct17 cr18)) cM1 ct2 (sN cv2 30) cv1) (eqN cv2 30)) (@Bool.rec (fun _ => Bool) false (q (rd cM1 86 (tN (aN (mN 6 (sN cv2 20)) cv1))) cM1 ct2) (inN (aN (mN 6 (sN cv2 20)) cv1) (alF 86))) (eqN cv2 21)) (@Bool.rec (fun _ => Bool) false (q (rd cM1 86 (tN (aN (mN 6 (sN cv2 20)) cv1))) cM1 ct2) (inN (aN (mN 6 (sN cv2 20)) cv1) (alF 86))) (eqN cv2 20)) (@Bool.rec (fun _ => Bool) false (q (rd cM1 85 (tN (aN (mN 6 (sN cv2 10)) cv1))) cM1 ct2) (inN (aN (mN 6 (sN cv2 10)) cv1) (alF 85))) (eqN cv2 11)) (@Bool.rec (fun _ => Bool) false (q (rd cM1 85 (tN (aN (mN 6 (sN cv2 10)) cv1))) cM1 ct2) (inN (aN (mN 6 (sN cv2 10)) cv1) (alF 85))) (eqN cv2 10)) (q (Nat.land (b2 f_shr (rd cM1 81 11) cv1) 1) cM1 ct2) (eqN cv2 1)) (@Bool.rec (fun _ => Bool) false (q (rd cM1 88 (tN cv1)) cM1 ct2) (inN cv1 (alF 88))) (eqN cv2 0)) (q 4294967295 cM1 ct2) (eqN cr3 0))) cM ct cv1)
set_option maxHeartbeats 4000000 in
set_option maxRecDepth 20000 in
theorem spX11_kind {post : Int32 → MM → Int64 → Prop} {q : Nat → Nat → Nat → Bool} (hq : ∀ (r : Int32) (M : MM) (tl : Int64) (cr cM ct : Nat), r = nI cr → M = dM cM → tl = i64 ct → q cr cM ct = true → post r M tl) {M : MM} {tl : Int64} {v1 : Int32} {v2 : Int32} {cM ct cv1 cv2 : Nat} (hM : M = dM cM) (ht : tl = i64 ct) (hv1 : v1 = nI cv1) (hv2 : v2 = nI cv2) (h : epX11_kind q  cM ct cv1 cv2 = true) : wpX11_kind post  M tl v1 v2 := by
  unfold wpX11_kind
  unfold epX11_kind at h
  refine spX11_isKind (fun r3 M1 t2 cr3 cM1 ct2 hr3 hM1 ht2 h => ?_) hM ht hv1 h
  refine e_ite (c_eq hr3 (rfl : (0 : Int32) = nI 0)) h (fun h => ?_) (fun h => ?_)
  · exact hq _ _ _ _ _ _ lm1 hM1 ht2 h
  · refine e_ite (c_eq hv2 (rfl : (0 : Int32) = nI 0)) h (fun h => ?_) (fun h => ?_)
    · refine e_and (k_in hv1 (r_al (rfl : (88 : Nat) = 88))) h (fun h => ?_)
      exact hq _ _ _ _ _ _ (r_rd hM1 (rfl : (88 : Nat) = 88) (r_nat hv1)) hM1 ht2 h
    · refine e_ite (c_eq hv2 (rfl : (1 : Int32) = nI 1)) h (fun h => ?_) (fun h => ?_)
      · exact hq _ _ _ _ _ _ (r_and (r_b2 f_shr (r_rd hM1 (rfl : (81 : Nat) = 81) (rfl : (11 : Nat) = 11)) hv1) (rfl : (1 : Int32) = nI 1)) hM1 ht2 h
      · refine e_ite (c_eq hv2 (rfl : (10 : Int32) = nI 10)) h (fun h => ?_) (fun h => ?_)
        · refine e_and (k_in (r_add (r_mul (rfl : (6 : Int32) = nI 6) (r_sub hv2 (rfl : (10 : Int32) = nI 10))) hv1) (r_al (rfl : (85 : Nat) = 85))) h (fun h => ?_)
          exact hq _ _ _ _ _ _ (r_rd hM1 (rfl : (85 : Nat) = 85) (r_nat (r_add (r_mul (rfl : (6 : Int32) = nI 6) (r_sub hv2 (rfl : (10 : Int32) = nI 10))) hv1))) hM1 ht2 h
        · refine e_ite (c_eq hv2 (rfl : (11 : Int32) = nI 11)) h (fun h => ?_) (fun h => ?_)
          · refine e_and (k_in (r_add (r_mul (rfl : (6 : Int32) = nI 6) (r_sub hv2 (rfl : (10 : Int32) = nI 10))) hv1) (r_al (rfl : (85 : Nat) = 85))) h (fun h => ?_)
            exact hq _ _ _ _ _ _ (r_rd hM1 (rfl : (85 : Nat) = 85) (r_nat (r_add (r_mul (rfl : (6 : Int32) = nI 6) (r_sub hv2 (rfl : (10 : Int32) = nI 10))) hv1))) hM1 ht2 h
          · refine e_ite (c_eq hv2 (rfl : (20 : Int32) = nI 20)) h (fun h => ?_) (fun h => ?_)
            · refine e_and (k_in (r_add (r_mul (rfl : (6 : Int32) = nI 6) (r_sub hv2 (rfl : (20 : Int32) = nI 20))) hv1) (r_al (rfl : (86 : Nat) = 86))) h (fun h => ?_)
              exact hq _ _ _ _ _ _ (r_rd hM1 (rfl : (86 : Nat) = 86) (r_nat (r_add (r_mul (rfl : (6 : Int32) = nI 6) (r_sub hv2 (rfl : (20 : Int32) = nI 20))) hv1))) hM1 ht2 h
            · refine e_ite (c_eq hv2 (rfl : (21 : Int32) = nI 21)) h (fun h => ?_) (fun h => ?_)
              · refine e_and (k_in (r_add (r_mul (rfl : (6 : Int32) = nI 6) (r_sub hv2 (rfl : (20 : Int32) = nI 20))) hv1) (r_al (rfl : (86 : Nat) = 86))) h (fun h => ?_)
                exact hq _ _ _ _ _ _ (r_rd hM1 (rfl : (86 : Nat) = 86) (r_nat (r_add (r_mul (rfl : (6 : Int32) = nI 6) (r_sub hv2 (rfl : (20 : Int32) = nI 20))) hv1))) hM1 ht2 h
              · refine e_ite (c_eq hv2 (rfl : (30 : Int32) = nI 30)) h (fun h => ?_) (fun h => ?_)
                · refine spX11_doesLack (fun r18 M16 t17 cr18 cM16 ct17 hr18 hM16 ht17 h => ?_) hM1 ht2 (r_sub hv2 (rfl : (30 : Int32) = nI 30)) hv1 h
                  refine spX11_flag (fun r21 M19 t20 cr21 cM19 ct20 hr21 hM19 ht20 h => ?_) hM16 ht17 hr18 h
                  exact hq _ _ _ _ _ _ hr21 hM19 ht20 h
                · refine e_ite (c_eq hv2 (rfl : (31 : Int32) = nI 31)) h (fun h => ?_) (fun h => ?_)
                  · refine spX11_doesLack (fun r25 M23 t24 cr25 cM23 ct24 hr25 hM23 ht24 h => ?_) hM1 ht2 (r_sub hv2 (rfl : (30 : Int32) = nI 30)) hv1 h
                    refine spX11_flag (fun r28 M26 t27 cr28 cM26 ct27 hr28 hM26 ht27 h => ?_) hM23 ht24 hr25 h
                    exact hq _ _ _ _ _ _ hr28 hM26 ht27 h
                  · exact hq _ _ _ _ _ _ lm1 hM1 ht2 h
noncomputable def epX11_colour (q : Nat → Nat → Nat → Bool) (cM ct cv1 : Nat) : Bool :=
  (epX11_in (fun cr3 cM1 ct2 => (@Bool.rec (fun _ => Bool) (@Bool.rec (fun _ => Bool) false (q (rd cM1 89 (tN cv1)) cM1 ct2) (inN cv1 (alF 89))) (q 4294967295 cM1 ct2) (eqN cr3 0))) cM ct (xN cv1) 0 3)
set_option maxHeartbeats 4000000 in
set_option maxRecDepth 20000 in
theorem spX11_colour {post : Int32 → MM → Int64 → Prop} {q : Nat → Nat → Nat → Bool} (hq : ∀ (r : Int32) (M : MM) (tl : Int64) (cr cM ct : Nat), r = nI cr → M = dM cM → tl = i64 ct → q cr cM ct = true → post r M tl) {M : MM} {tl : Int64} {v1 : Int32} {cM ct cv1 : Nat} (hM : M = dM cM) (ht : tl = i64 ct) (hv1 : v1 = nI cv1) (h : epX11_colour q  cM ct cv1 = true) : wpX11_colour post  M tl v1 := by
  unfold wpX11_colour
  unfold epX11_colour at h
  refine spX11_in (fun r3 M1 t2 cr3 cM1 ct2 hr3 hM1 ht2 h => ?_) hM ht (r_ext hv1) (rfl : (0 : Int64) = i64 0) (rfl : (3 : Int64) = i64 3) h
  refine e_ite (c_eq hr3 (rfl : (0 : Int32) = nI 0)) h (fun h => ?_) (fun h => ?_)
  · exact hq _ _ _ _ _ _ lm1 hM1 ht2 h
  · refine e_and (k_in hv1 (r_al (rfl : (89 : Nat) = 89))) h (fun h => ?_)
    exact hq _ _ _ _ _ _ (r_rd hM1 (rfl : (89 : Nat) = 89) (r_nat hv1)) hM1 ht2 h
noncomputable def epX11_isThing (q : Nat → Nat → Nat → Bool) (cM ct cv0 : Nat) : Bool :=
  (@Bool.rec (fun _ => Bool) (epX11_in (fun cr3 cM1 ct2 => (@Bool.rec (fun _ => Bool) (epX11_in (fun cr6 cM4 ct5 => (@Bool.rec (fun _ => Bool) (q 1 cM4 ct5) (q 0 cM4 ct5) (eqN cr6 0))) cM1 ct2 (xN (sN cv0 (mN (b2 f_div cv0 8) 8))) 1 5) (q 0 cM1 ct2) (eqN cr3 0))) cM ct (xN cv0) 0 63) (q 1 cM ct) (eqN cv0 0))
set_option maxHeartbeats 4000000 in
set_option maxRecDepth 20000 in
theorem spX11_isThing {post : Int32 → MM → Int64 → Prop} {q : Nat → Nat → Nat → Bool} (hq : ∀ (r : Int32) (M : MM) (tl : Int64) (cr cM ct : Nat), r = nI cr → M = dM cM → tl = i64 ct → q cr cM ct = true → post r M tl) {M : MM} {tl : Int64} {v0 : Int32} {cM ct cv0 : Nat} (hM : M = dM cM) (ht : tl = i64 ct) (hv0 : v0 = nI cv0) (h : epX11_isThing q  cM ct cv0 = true) : wpX11_isThing post  M tl v0 := by
  unfold wpX11_isThing
  unfold epX11_isThing at h
  refine e_ite (c_eq hv0 (rfl : (0 : Int32) = nI 0)) h (fun h => ?_) (fun h => ?_)
  · exact hq _ _ _ _ _ _ (rfl : (1 : Int32) = nI 1) hM ht h
  · refine spX11_in (fun r3 M1 t2 cr3 cM1 ct2 hr3 hM1 ht2 h => ?_) hM ht (r_ext hv0) (rfl : (0 : Int64) = i64 0) (rfl : (63 : Int64) = i64 63) h
    refine e_ite (c_eq hr3 (rfl : (0 : Int32) = nI 0)) h (fun h => ?_) (fun h => ?_)
    · exact hq _ _ _ _ _ _ (rfl : (0 : Int32) = nI 0) hM1 ht2 h
    · refine spX11_in (fun r6 M4 t5 cr6 cM4 ct5 hr6 hM4 ht5 h => ?_) hM1 ht2 (r_ext (r_sub hv0 (r_mul (r_b2 f_div hv0 (rfl : (8 : Int32) = nI 8)) (rfl : (8 : Int32) = nI 8)))) (rfl : (1 : Int64) = i64 1) (rfl : (5 : Int64) = i64 5) h
      refine e_ite (c_eq hr6 (rfl : (0 : Int32) = nI 0)) h (fun h => ?_) (fun h => ?_)
      · exact hq _ _ _ _ _ _ (rfl : (0 : Int32) = nI 0) hM4 ht5 h
      · exact hq _ _ _ _ _ _ (rfl : (1 : Int32) = nI 1) hM4 ht5 h
noncomputable def eX11_mirrorOf_29 (q : Nat → Nat → Nat → Bool) (cM ct cv1 cv2 cs0 : Nat) : Bool :=
  (@Bool.rec (fun _ => Bool) (@Bool.rec (fun _ => Bool) false (@Bool.rec (fun _ => Bool) false (q (aN (aN (rd cM 88 (tN cv2)) (mN 8 (rd cM 89 (tN (sN (b2 f_div cv1 8) (mN (b2 f_div (b2 f_div cv1 8) 4) 4)))))) (mN 32 cs0)) cM ct) (inN (sN (b2 f_div cv1 8) (mN (b2 f_div (b2 f_div cv1 8) 4) 4)) (alF 89))) (inN cv2 (alF 88))) (q 0 cM ct) (eqN cv1 0))
set_option maxHeartbeats 4000000 in
set_option maxRecDepth 20000 in
theorem sX11_mirrorOf_29 {post : Int32 → MM → Int64 → Prop} {q : Nat → Nat → Nat → Bool} (hq : ∀ (r : Int32) (M : MM) (tl : Int64) (cr cM ct : Nat), r = nI cr → M = dM cM → tl = i64 ct → q cr cM ct = true → post r M tl) {M : MM} {tl : Int64} {v1 : Int32} {v2 : Int32} {s0 : Int32} {cM ct cv1 cv2 cs0 : Nat} (hM : M = dM cM) (ht : tl = i64 ct) (hv1 : v1 = nI cv1) (hv2 : v2 = nI cv2) (hs0 : s0 = nI cs0) (h : eX11_mirrorOf_29 q  cM ct cv1 cv2 cs0 = true) : wX11_mirrorOf_29 post  M tl v1 v2 s0 := by
  unfold wX11_mirrorOf_29
  unfold eX11_mirrorOf_29 at h
  refine e_ite (c_eq hv1 (rfl : (0 : Int32) = nI 0)) h (fun h => ?_) (fun h => ?_)
  · exact hq _ _ _ _ _ _ (rfl : (0 : Int32) = nI 0) hM ht h
  · refine e_and (k_in hv2 (r_al (rfl : (88 : Nat) = 88))) h (fun h => ?_)
    refine e_and (k_in (r_sub (r_b2 f_div hv1 (rfl : (8 : Int32) = nI 8)) (r_mul (r_b2 f_div (r_b2 f_div hv1 (rfl : (8 : Int32) = nI 8)) (rfl : (4 : Int32) = nI 4)) (rfl : (4 : Int32) = nI 4))) (r_al (rfl : (89 : Nat) = 89))) h (fun h => ?_)
    exact hq _ _ _ _ _ _ (r_add (r_add (r_rd hM (rfl : (88 : Nat) = 88) (r_nat hv2)) (r_mul (rfl : (8 : Int32) = nI 8) (r_rd hM (rfl : (89 : Nat) = 89) (r_nat (r_sub (r_b2 f_div hv1 (rfl : (8 : Int32) = nI 8)) (r_mul (r_b2 f_div (r_b2 f_div hv1 (rfl : (8 : Int32) = nI 8)) (rfl : (4 : Int32) = nI 4)) (rfl : (4 : Int32) = nI 4))))))) (r_mul (rfl : (32 : Int32) = nI 32) hs0)) hM ht h
noncomputable def epX11_mirrorOf (q : Nat → Nat → Nat → Bool) (cM ct cv1 : Nat) : Bool :=
  (@Bool.rec (fun _ => Bool) (eX11_mirrorOf_29 q  cM ct cv1 (sN cv1 (mN (b2 f_div cv1 8) 8)) (sN 1 (b2 f_div cv1 32))) (eX11_mirrorOf_29 q  cM ct cv1 (sN cv1 (mN (b2 f_div cv1 8) 8)) (b2 f_div cv1 32)) (eqN (Nat.land (b2 f_shr (rd cM 81 11) (sN cv1 (mN (b2 f_div cv1 8) 8))) 1) 1))
set_option maxHeartbeats 4000000 in
set_option maxRecDepth 20000 in
theorem spX11_mirrorOf {post : Int32 → MM → Int64 → Prop} {q : Nat → Nat → Nat → Bool} (hq : ∀ (r : Int32) (M : MM) (tl : Int64) (cr cM ct : Nat), r = nI cr → M = dM cM → tl = i64 ct → q cr cM ct = true → post r M tl) {M : MM} {tl : Int64} {v1 : Int32} {cM ct cv1 : Nat} (hM : M = dM cM) (ht : tl = i64 ct) (hv1 : v1 = nI cv1) (h : epX11_mirrorOf q  cM ct cv1 = true) : wpX11_mirrorOf post  M tl v1 := by
  unfold wpX11_mirrorOf
  unfold epX11_mirrorOf at h
  refine e_ite (c_eq (r_and (r_b2 f_shr (r_rd hM (rfl : (81 : Nat) = 81) (rfl : (11 : Nat) = 11)) (r_sub hv1 (r_mul (r_b2 f_div hv1 (rfl : (8 : Int32) = nI 8)) (rfl : (8 : Int32) = nI 8)))) (rfl : (1 : Int32) = nI 1)) (rfl : (1 : Int32) = nI 1)) h (fun h => ?_) (fun h => ?_)
  · exact sX11_mirrorOf_29 hq  hM ht hv1 (r_sub hv1 (r_mul (r_b2 f_div hv1 (rfl : (8 : Int32) = nI 8)) (rfl : (8 : Int32) = nI 8))) (r_b2 f_div hv1 (rfl : (32 : Int32) = nI 32)) h
  · exact sX11_mirrorOf_29 hq  hM ht hv1 (r_sub hv1 (r_mul (r_b2 f_div hv1 (rfl : (8 : Int32) = nI 8)) (rfl : (8 : Int32) = nI 8))) (r_sub (rfl : (1 : Int32) = nI 1) (r_b2 f_div hv1 (rfl : (32 : Int32) = nI 32))) h
noncomputable def epX11_mirror (q : Nat → Nat → Nat → Bool) (cM ct cv1 : Nat) : Bool :=
  (epX11_isThing (fun cr3 cM1 ct2 => (@Bool.rec (fun _ => Bool) (epX11_mirrorOf (fun cr6 cM4 ct5 => (q cr6 cM4 ct5)) cM1 ct2 cv1) (q 4294967295 cM1 ct2) (eqN cr3 0))) cM ct cv1)
set_option maxHeartbeats 4000000 in
set_option maxRecDepth 20000 in
theorem spX11_mirror {post : Int32 → MM → Int64 → Prop} {q : Nat → Nat → Nat → Bool} (hq : ∀ (r : Int32) (M : MM) (tl : Int64) (cr cM ct : Nat), r = nI cr → M = dM cM → tl = i64 ct → q cr cM ct = true → post r M tl) {M : MM} {tl : Int64} {v1 : Int32} {cM ct cv1 : Nat} (hM : M = dM cM) (ht : tl = i64 ct) (hv1 : v1 = nI cv1) (h : epX11_mirror q  cM ct cv1 = true) : wpX11_mirror post  M tl v1 := by
  unfold wpX11_mirror
  unfold epX11_mirror at h
  refine spX11_isThing (fun r3 M1 t2 cr3 cM1 ct2 hr3 hM1 ht2 h => ?_) hM ht hv1 h
  refine e_ite (c_eq hr3 (rfl : (0 : Int32) = nI 0)) h (fun h => ?_) (fun h => ?_)
  · exact hq _ _ _ _ _ _ lm1 hM1 ht2 h
  · refine spX11_mirrorOf (fun r6 M4 t5 cr6 cM4 ct5 hr6 hM4 ht5 h => ?_) hM1 ht2 hv1 h
    exact hq _ _ _ _ _ _ hr6 hM4 ht5 h
noncomputable def epX11_work (q : Nat → Nat → Nat → Bool) (cM ct cv1 cv2 : Nat) : Bool :=
  (@Bool.rec (fun _ => Bool) false (epX11_in (fun cr4 cM2 ct3 => (@Bool.rec (fun _ => Bool) (epX11_in (fun cr7 cM5 ct6 => (@Bool.rec (fun _ => Bool) (@Bool.rec (fun _ => Bool) false (q (rd cM5 82 (tN (aN (aN 17 (mN 4 cv1)) cv2))) cM5 ct6) (inN (aN (aN 17 (mN 4 cv1)) cv2) (alF 82))) (q 4294967295 cM5 ct6) (eqN cr7 0))) cM2 ct3 (xN cv2) 0 3) (q 4294967295 cM2 ct3) (eqN cr4 0))) cM ct (xN cv1) 0 (xN (sN (rd cM 82 (tN 16)) 1))) (inN 16 (alF 82)))
set_option maxHeartbeats 4000000 in
set_option maxRecDepth 20000 in
theorem spX11_work {post : Int32 → MM → Int64 → Prop} {q : Nat → Nat → Nat → Bool} (hq : ∀ (r : Int32) (M : MM) (tl : Int64) (cr cM ct : Nat), r = nI cr → M = dM cM → tl = i64 ct → q cr cM ct = true → post r M tl) {M : MM} {tl : Int64} {v1 : Int32} {v2 : Int32} {cM ct cv1 cv2 : Nat} (hM : M = dM cM) (ht : tl = i64 ct) (hv1 : v1 = nI cv1) (hv2 : v2 = nI cv2) (h : epX11_work q  cM ct cv1 cv2 = true) : wpX11_work post  M tl v1 v2 := by
  unfold wpX11_work
  unfold epX11_work at h
  refine e_and (k_in (rfl : (16 : Int32) = nI 16) (r_al (rfl : (82 : Nat) = 82))) h (fun h => ?_)
  refine spX11_in (fun r4 M2 t3 cr4 cM2 ct3 hr4 hM2 ht3 h => ?_) hM ht (r_ext hv1) (rfl : (0 : Int64) = i64 0) (r_ext (r_sub (r_rd hM (rfl : (82 : Nat) = 82) (r_nat (rfl : (16 : Int32) = nI 16))) (rfl : (1 : Int32) = nI 1))) h
  refine e_ite (c_eq hr4 (rfl : (0 : Int32) = nI 0)) h (fun h => ?_) (fun h => ?_)
  · exact hq _ _ _ _ _ _ lm1 hM2 ht3 h
  · refine spX11_in (fun r7 M5 t6 cr7 cM5 ct6 hr7 hM5 ht6 h => ?_) hM2 ht3 (r_ext hv2) (rfl : (0 : Int64) = i64 0) (rfl : (3 : Int64) = i64 3) h
    refine e_ite (c_eq hr7 (rfl : (0 : Int32) = nI 0)) h (fun h => ?_) (fun h => ?_)
    · exact hq _ _ _ _ _ _ lm1 hM5 ht6 h
    · refine e_and (k_in (r_add (r_add (rfl : (17 : Int32) = nI 17) (r_mul (rfl : (4 : Int32) = nI 4) hv1)) hv2) (r_al (rfl : (82 : Nat) = 82))) h (fun h => ?_)
      exact hq _ _ _ _ _ _ (r_rd hM5 (rfl : (82 : Nat) = 82) (r_nat (r_add (r_add (rfl : (17 : Int32) = nI 17) (r_mul (rfl : (4 : Int32) = nI 4) hv1)) hv2))) hM5 ht6 h
noncomputable def epX11_isBank (q : Nat → Nat → Nat → Bool) (cM ct cv0 : Nat) : Bool :=
  (epX11_in (fun cr3 cM1 ct2 => (@Bool.rec (fun _ => Bool) false (q cr3 cM1 ct2) (Nat.ble cr3 1))) cM ct (xN cv0) 0 1)
set_option maxHeartbeats 4000000 in
set_option maxRecDepth 20000 in
theorem spX11_isBank {post : Int32 → MM → Int64 → Prop} {q : Nat → Nat → Nat → Bool} (hq : ∀ (r : Int32) (M : MM) (tl : Int64) (cr cM ct : Nat), r = nI cr → M = dM cM → tl = i64 ct → q cr cM ct = true → post r M tl) {M : MM} {tl : Int64} {v0 : Int32} {cM ct cv0 : Nat} (hM : M = dM cM) (ht : tl = i64 ct) (hv0 : v0 = nI cv0) (h : epX11_isBank q  cM ct cv0 = true) : wpX11_isBank post  M tl v0 := by
  unfold wpX11_isBank
  unfold epX11_isBank at h
  refine spX11_in (fun r3 M1 t2 cr3 cM1 ct2 hr3 hM1 ht2 h => ?_) hM ht (r_ext hv0) (rfl : (0 : Int64) = i64 0) (rfl : (1 : Int64) = i64 1) h
  refine e_and (k_nar hr3) h (fun h => ?_)
  exact hq _ _ _ _ _ _ hr3 hM1 ht2 h
noncomputable def epX11_isLot (q : Nat → Nat → Nat → Bool) (cM ct cv1 cv2 : Nat) : Bool :=
  (epX11_isBank (fun cr3 cM1 ct2 => (@Bool.rec (fun _ => Bool) (epX11_in (fun cr6 cM4 ct5 => (@Bool.rec (fun _ => Bool) (q 1 cM4 ct5) (q 0 cM4 ct5) (eqN cr6 0))) cM1 ct2 (xN cv2) 0 (xN (sN (rd cM1 81 2) 1))) (q 0 cM1 ct2) (eqN cr3 0))) cM ct cv1)
set_option maxHeartbeats 4000000 in
set_option maxRecDepth 20000 in
theorem spX11_isLot {post : Int32 → MM → Int64 → Prop} {q : Nat → Nat → Nat → Bool} (hq : ∀ (r : Int32) (M : MM) (tl : Int64) (cr cM ct : Nat), r = nI cr → M = dM cM → tl = i64 ct → q cr cM ct = true → post r M tl) {M : MM} {tl : Int64} {v1 : Int32} {v2 : Int32} {cM ct cv1 cv2 : Nat} (hM : M = dM cM) (ht : tl = i64 ct) (hv1 : v1 = nI cv1) (hv2 : v2 = nI cv2) (h : epX11_isLot q  cM ct cv1 cv2 = true) : wpX11_isLot post  M tl v1 v2 := by
  unfold wpX11_isLot
  unfold epX11_isLot at h
  refine spX11_isBank (fun r3 M1 t2 cr3 cM1 ct2 hr3 hM1 ht2 h => ?_) hM ht hv1 h
  refine e_ite (c_eq hr3 (rfl : (0 : Int32) = nI 0)) h (fun h => ?_) (fun h => ?_)
  · exact hq _ _ _ _ _ _ (rfl : (0 : Int32) = nI 0) hM1 ht2 h
  · refine spX11_in (fun r6 M4 t5 cr6 cM4 ct5 hr6 hM4 ht5 h => ?_) hM1 ht2 (r_ext hv2) (rfl : (0 : Int64) = i64 0) (r_ext (r_sub (r_rd hM1 (rfl : (81 : Nat) = 81) (rfl : (2 : Nat) = 2)) (rfl : (1 : Int32) = nI 1))) h
    refine e_ite (c_eq hr6 (rfl : (0 : Int32) = nI 0)) h (fun h => ?_) (fun h => ?_)
    · exact hq _ _ _ _ _ _ (rfl : (0 : Int32) = nI 0) hM4 ht5 h
    · exact hq _ _ _ _ _ _ (rfl : (1 : Int32) = nI 1) hM4 ht5 h
noncomputable def epX11_thing (q : Nat → Nat → Nat → Bool) (cM ct cv1 cv2 : Nat) : Bool :=
  (epX11_isLot (fun cr3 cM1 ct2 => (@Bool.rec (fun _ => Bool) (@Bool.rec (fun _ => Bool) false (q (rd cM1 82 (tN (aN (mN 8 cv1) cv2))) cM1 ct2) (inN (aN (mN 8 cv1) cv2) (alF 82))) (q 4294967295 cM1 ct2) (eqN cr3 0))) cM ct cv1 cv2)
set_option maxHeartbeats 4000000 in
set_option maxRecDepth 20000 in
theorem spX11_thing {post : Int32 → MM → Int64 → Prop} {q : Nat → Nat → Nat → Bool} (hq : ∀ (r : Int32) (M : MM) (tl : Int64) (cr cM ct : Nat), r = nI cr → M = dM cM → tl = i64 ct → q cr cM ct = true → post r M tl) {M : MM} {tl : Int64} {v1 : Int32} {v2 : Int32} {cM ct cv1 cv2 : Nat} (hM : M = dM cM) (ht : tl = i64 ct) (hv1 : v1 = nI cv1) (hv2 : v2 = nI cv2) (h : epX11_thing q  cM ct cv1 cv2 = true) : wpX11_thing post  M tl v1 v2 := by
  unfold wpX11_thing
  unfold epX11_thing at h
  refine spX11_isLot (fun r3 M1 t2 cr3 cM1 ct2 hr3 hM1 ht2 h => ?_) hM ht hv1 hv2 h
  refine e_ite (c_eq hr3 (rfl : (0 : Int32) = nI 0)) h (fun h => ?_) (fun h => ?_)
  · exact hq _ _ _ _ _ _ lm1 hM1 ht2 h
  · refine e_and (k_in (r_add (r_mul (rfl : (8 : Int32) = nI 8) hv1) hv2) (r_al (rfl : (82 : Nat) = 82))) h (fun h => ?_)
    exact hq _ _ _ _ _ _ (r_rd hM1 (rfl : (82 : Nat) = 82) (r_nat (r_add (r_mul (rfl : (8 : Int32) = nI 8) hv1) hv2))) hM1 ht2 h
noncomputable def epX11_put (q : Nat → Nat → Nat → Bool) (cM ct cv1 cv2 cv3 : Nat) : Bool :=
  (epX11_isLot (fun cr3 cM1 ct2 => (@Bool.rec (fun _ => Bool) (epX11_isThing (fun cr6 cM4 ct5 => (@Bool.rec (fun _ => Bool) (@Bool.rec (fun _ => Bool) false (@Bool.rec (fun _ => Bool) false (wrB (fun cM9 => (q (rd cM4 82 (tN (aN (mN 8 cv1) cv2))) cM9 ct5)) cM4 82 (tN (aN (mN 8 cv1) cv2)) cv3) (inN (aN (mN 8 cv1) cv2) (alF 82))) (inN (aN (mN 8 cv1) cv2) (alF 82))) (q 4294967295 cM4 ct5) (eqN cr6 0))) cM1 ct2 cv3) (q 4294967295 cM1 ct2) (eqN cr3 0))) cM ct cv1 cv2)
set_option maxHeartbeats 4000000 in
set_option maxRecDepth 20000 in
theorem spX11_put {post : Int32 → MM → Int64 → Prop} {q : Nat → Nat → Nat → Bool} (hq : ∀ (r : Int32) (M : MM) (tl : Int64) (cr cM ct : Nat), r = nI cr → M = dM cM → tl = i64 ct → q cr cM ct = true → post r M tl) {M : MM} {tl : Int64} {v1 : Int32} {v2 : Int32} {v3 : Int32} {cM ct cv1 cv2 cv3 : Nat} (hM : M = dM cM) (ht : tl = i64 ct) (hv1 : v1 = nI cv1) (hv2 : v2 = nI cv2) (hv3 : v3 = nI cv3) (h : epX11_put q  cM ct cv1 cv2 cv3 = true) : wpX11_put post  M tl v1 v2 v3 := by
  unfold wpX11_put
  unfold epX11_put at h
  refine spX11_isLot (fun r3 M1 t2 cr3 cM1 ct2 hr3 hM1 ht2 h => ?_) hM ht hv1 hv2 h
  refine e_ite (c_eq hr3 (rfl : (0 : Int32) = nI 0)) h (fun h => ?_) (fun h => ?_)
  · exact hq _ _ _ _ _ _ lm1 hM1 ht2 h
  · refine spX11_isThing (fun r6 M4 t5 cr6 cM4 ct5 hr6 hM4 ht5 h => ?_) hM1 ht2 hv3 h
    refine e_ite (c_eq hr6 (rfl : (0 : Int32) = nI 0)) h (fun h => ?_) (fun h => ?_)
    · exact hq _ _ _ _ _ _ lm1 hM4 ht5 h
    · refine e_and (k_in (r_add (r_mul (rfl : (8 : Int32) = nI 8) hv1) hv2) (r_al (rfl : (82 : Nat) = 82))) h (fun h => ?_)
      refine e_and (k_in (r_add (r_mul (rfl : (8 : Int32) = nI 8) hv1) hv2) (r_al (rfl : (82 : Nat) = 82))) h (fun h => ?_)
      refine e_wr h hM4 (rfl : (82 : Nat) = 82) (r_nat (r_add (r_mul (rfl : (8 : Int32) = nI 8) hv1) hv2)) hv3 (fun M9 cM9 hM9 h => ?_)
      exact hq _ _ _ _ _ _ (r_rd hM4 (rfl : (82 : Nat) = 82) (r_nat (r_add (r_mul (rfl : (8 : Int32) = nI 8) hv1) hv2))) hM9 ht5 h
noncomputable def eX11_matchBy_17 (q : Nat → Nat → Nat → Bool) (cM ct cs0 : Nat) : Bool :=
  (epX11_in (fun cr3 cM1 ct2 => (@Bool.rec (fun _ => Bool) (q cs0 cM1 ct2) (q 4294967292 cM1 ct2) (eqN cr3 0))) cM ct (xN cs0) 0 (xN (sN (rd cM 81 2) 1)))
set_option maxHeartbeats 4000000 in
set_option maxRecDepth 20000 in
theorem sX11_matchBy_17 {post : Int32 → MM → Int64 → Prop} {q : Nat → Nat → Nat → Bool} (hq : ∀ (r : Int32) (M : MM) (tl : Int64) (cr cM ct : Nat), r = nI cr → M = dM cM → tl = i64 ct → q cr cM ct = true → post r M tl) {M : MM} {tl : Int64} {s0 : Int32} {cM ct cs0 : Nat} (hM : M = dM cM) (ht : tl = i64 ct) (hs0 : s0 = nI cs0) (h : eX11_matchBy_17 q  cM ct cs0 = true) : wX11_matchBy_17 post  M tl s0 := by
  unfold wX11_matchBy_17
  unfold eX11_matchBy_17 at h
  refine spX11_in (fun r3 M1 t2 cr3 cM1 ct2 hr3 hM1 ht2 h => ?_) hM ht (r_ext hs0) (rfl : (0 : Int64) = i64 0) (r_ext (r_sub (r_rd hM (rfl : (81 : Nat) = 81) (rfl : (2 : Nat) = 2)) (rfl : (1 : Int32) = nI 1))) h
  refine e_ite (c_eq hr3 (rfl : (0 : Int32) = nI 0)) h (fun h => ?_) (fun h => ?_)
  · exact hq _ _ _ _ _ _ lm4 hM1 ht2 h
  · exact hq _ _ _ _ _ _ hs0 hM1 ht2 h
noncomputable def epX11_matchBy (q : Nat → Nat → Nat → Bool) (cM ct cv1 cv2 cv3 : Nat) : Bool :=
  (@Bool.rec (fun _ => Bool) (eX11_matchBy_17 q  cM ct (aN (sN cv3 cv1) 3)) (eX11_matchBy_17 q  cM ct (sN (aN cv3 cv1) 3)) (eqN cv2 0))
set_option maxHeartbeats 4000000 in
set_option maxRecDepth 20000 in
theorem spX11_matchBy {post : Int32 → MM → Int64 → Prop} {q : Nat → Nat → Nat → Bool} (hq : ∀ (r : Int32) (M : MM) (tl : Int64) (cr cM ct : Nat), r = nI cr → M = dM cM → tl = i64 ct → q cr cM ct = true → post r M tl) {M : MM} {tl : Int64} {v1 : Int32} {v2 : Int32} {v3 : Int32} {cM ct cv1 cv2 cv3 : Nat} (hM : M = dM cM) (ht : tl = i64 ct) (hv1 : v1 = nI cv1) (hv2 : v2 = nI cv2) (hv3 : v3 = nI cv3) (h : epX11_matchBy q  cM ct cv1 cv2 cv3 = true) : wpX11_matchBy post  M tl v1 v2 v3 := by
  unfold wpX11_matchBy
  unfold epX11_matchBy at h
  refine e_ite (c_eq hv2 (rfl : (0 : Int32) = nI 0)) h (fun h => ?_) (fun h => ?_)
  · exact sX11_matchBy_17 hq  hM ht (r_sub (r_add hv3 hv1) (rfl : (3 : Int32) = nI 3)) h
  · exact sX11_matchBy_17 hq  hM ht (r_add (r_sub hv3 hv1) (rfl : (3 : Int32) = nI 3)) h
noncomputable def epX11_matchOf (q : Nat → Nat → Nat → Bool) (cM ct cv1 cv2 : Nat) : Bool :=
  (epX11_matchBy (fun cr3 cM1 ct2 => (q cr3 cM1 ct2)) cM ct (rd cM 81 3) cv1 cv2)
set_option maxHeartbeats 4000000 in
set_option maxRecDepth 20000 in
theorem spX11_matchOf {post : Int32 → MM → Int64 → Prop} {q : Nat → Nat → Nat → Bool} (hq : ∀ (r : Int32) (M : MM) (tl : Int64) (cr cM ct : Nat), r = nI cr → M = dM cM → tl = i64 ct → q cr cM ct = true → post r M tl) {M : MM} {tl : Int64} {v1 : Int32} {v2 : Int32} {cM ct cv1 cv2 : Nat} (hM : M = dM cM) (ht : tl = i64 ct) (hv1 : v1 = nI cv1) (hv2 : v2 = nI cv2) (h : epX11_matchOf q  cM ct cv1 cv2 = true) : wpX11_matchOf post  M tl v1 v2 := by
  unfold wpX11_matchOf
  unfold epX11_matchOf at h
  refine spX11_matchBy (fun r3 M1 t2 cr3 cM1 ct2 hr3 hM1 ht2 h => ?_) hM ht (r_rd hM (rfl : (81 : Nat) = 81) (rfl : (3 : Nat) = 3)) hv1 hv2 h
  exact hq _ _ _ _ _ _ hr3 hM1 ht2 h
noncomputable def epX11_match (q : Nat → Nat → Nat → Bool) (cM ct cv1 cv2 : Nat) : Bool :=
  (epX11_isLot (fun cr3 cM1 ct2 => (@Bool.rec (fun _ => Bool) (epX11_matchOf (fun cr6 cM4 ct5 => (q cr6 cM4 ct5)) cM1 ct2 cv1 cv2) (q 4294967295 cM1 ct2) (eqN cr3 0))) cM ct cv1 cv2)
set_option maxHeartbeats 4000000 in
set_option maxRecDepth 20000 in
theorem spX11_match {post : Int32 → MM → Int64 → Prop} {q : Nat → Nat → Nat → Bool} (hq : ∀ (r : Int32) (M : MM) (tl : Int64) (cr cM ct : Nat), r = nI cr → M = dM cM → tl = i64 ct → q cr cM ct = true → post r M tl) {M : MM} {tl : Int64} {v1 : Int32} {v2 : Int32} {cM ct cv1 cv2 : Nat} (hM : M = dM cM) (ht : tl = i64 ct) (hv1 : v1 = nI cv1) (hv2 : v2 = nI cv2) (h : epX11_match q  cM ct cv1 cv2 = true) : wpX11_match post  M tl v1 v2 := by
  unfold wpX11_match
  unfold epX11_match at h
  refine spX11_isLot (fun r3 M1 t2 cr3 cM1 ct2 hr3 hM1 ht2 h => ?_) hM ht hv1 hv2 h
  refine e_ite (c_eq hr3 (rfl : (0 : Int32) = nI 0)) h (fun h => ?_) (fun h => ?_)
  · exact hq _ _ _ _ _ _ lm1 hM1 ht2 h
  · refine spX11_matchOf (fun r6 M4 t5 cr6 cM4 ct5 hr6 hM4 ht5 h => ?_) hM1 ht2 hv1 hv2 h
    exact hq _ _ _ _ _ _ hr6 hM4 ht5 h
noncomputable def eX11_asNow_2 (q : Nat → Nat → Bool) (n : Nat) : Nat → Nat → Nat → Bool :=
  @Nat.rec (fun _ => Nat → Nat → Nat → Bool) (fun _ _ _ => false) (fun _ ih cM ct cv1 => (@Bool.rec (fun _ => Bool) (@Bool.rec (fun _ => Bool) false (@Bool.rec (fun _ => Bool) false (wrB (fun cM3 => (ih cM3 ct (aN cv1 1))) cM 98 (tN cv1) (rd cM 82 (tN cv1))) (inN cv1 (alF 98))) (inN cv1 (alF 82))) (q cM ct) (leN 16 cv1))) n
set_option maxHeartbeats 4000000 in
set_option maxRecDepth 20000 in
theorem sX11_asNow_2 {post : MM → Int64 → Prop} {q : Nat → Nat → Bool} (hq : ∀ (M : MM) (tl : Int64) (cM ct : Nat), M = dM cM → tl = i64 ct → q cM ct = true → post M tl) : ∀ (n : Nat) (M : MM) (tl : Int64) (v1 : Int32) (cM ct cv1 : Nat), M = dM cM → tl = i64 ct → v1 = nI cv1 → eX11_asNow_2 q  n cM ct cv1 = true → wX11_asNow_2 post  n M tl v1 := by
  intro n
  induction n with
  | zero => intro M tl v1 cM ct cv1 hM ht hv1 h; exact Bool.noConfusion h
  | succ n ih =>
    intro M tl v1 cM ct cv1 hM ht hv1 h
    unfold wX11_asNow_2
    refine e_ite (c_le (rfl : (16 : Int32) = nI 16) hv1) h (fun h => ?_) (fun h => ?_)
    · exact hq _ _ _ _ hM ht h
    · refine e_and (k_in hv1 (r_al (rfl : (82 : Nat) = 82))) h (fun h => ?_)
      refine e_and (k_in hv1 (r_al (rfl : (98 : Nat) = 98))) h (fun h => ?_)
      refine e_wr h hM (rfl : (98 : Nat) = 98) (r_nat hv1) (r_rd hM (rfl : (82 : Nat) = 82) (r_nat hv1)) (fun M3 cM3 hM3 h => ?_)
      exact ih _ _ _ _ _ _ hM3 ht (r_add hv1 (rfl : (1 : Int32) = nI 1)) h
noncomputable def epX11_asNow (q : Nat → Nat → Bool) (cM ct  : Nat) : Bool :=
  (eX11_asNow_2 q  5000 cM ct 0)
set_option maxHeartbeats 4000000 in
set_option maxRecDepth 20000 in
theorem spX11_asNow {post : MM → Int64 → Prop} {q : Nat → Nat → Bool} (hq : ∀ (M : MM) (tl : Int64) (cM ct : Nat), M = dM cM → tl = i64 ct → q cM ct = true → post M tl) {M : MM} {tl : Int64} {cM ct  : Nat} (hM : M = dM cM) (ht : tl = i64 ct)  (h : epX11_asNow q  cM ct  = true) : wpX11_asNow post  M tl  := by
  unfold wpX11_asNow
  unfold epX11_asNow at h
  exact ⟨5000, sX11_asNow_2 hq  5000 _ _ _ _ _ _ hM ht (rfl : (0 : Int32) = nI 0) h⟩
noncomputable def epX11_isEven (q : Nat → Nat → Nat → Bool) (cM ct cv1 : Nat) : Bool :=
  (epX11_matchOf (fun cr3 cM1 ct2 => (@Bool.rec (fun _ => Bool) (@Bool.rec (fun _ => Bool) false (@Bool.rec (fun _ => Bool) false (epX11_mirrorOf (fun cr8 cM6 ct7 => (@Bool.rec (fun _ => Bool) (q 0 cM6 ct7) (q 1 cM6 ct7) (eqN (rd cM1 98 (tN (aN 8 cr3))) cr8))) cM1 ct2 (rd cM1 98 (tN cv1))) (inN cv1 (alF 98))) (inN (aN 8 cr3) (alF 98))) (q 1 cM1 ct2) (eqN cr3 4294967292))) cM ct 0 cv1)
set_option maxHeartbeats 4000000 in
set_option maxRecDepth 20000 in
theorem spX11_isEven {post : Int32 → MM → Int64 → Prop} {q : Nat → Nat → Nat → Bool} (hq : ∀ (r : Int32) (M : MM) (tl : Int64) (cr cM ct : Nat), r = nI cr → M = dM cM → tl = i64 ct → q cr cM ct = true → post r M tl) {M : MM} {tl : Int64} {v1 : Int32} {cM ct cv1 : Nat} (hM : M = dM cM) (ht : tl = i64 ct) (hv1 : v1 = nI cv1) (h : epX11_isEven q  cM ct cv1 = true) : wpX11_isEven post  M tl v1 := by
  unfold wpX11_isEven
  unfold epX11_isEven at h
  refine spX11_matchOf (fun r3 M1 t2 cr3 cM1 ct2 hr3 hM1 ht2 h => ?_) hM ht (rfl : (0 : Int32) = nI 0) hv1 h
  refine e_ite (c_eq hr3 lm4) h (fun h => ?_) (fun h => ?_)
  · exact hq _ _ _ _ _ _ (rfl : (1 : Int32) = nI 1) hM1 ht2 h
  · refine e_and (k_in (r_add (rfl : (8 : Int32) = nI 8) hr3) (r_al (rfl : (98 : Nat) = 98))) h (fun h => ?_)
    refine e_and (k_in hv1 (r_al (rfl : (98 : Nat) = 98))) h (fun h => ?_)
    refine spX11_mirrorOf (fun r8 M6 t7 cr8 cM6 ct7 hr8 hM6 ht7 h => ?_) hM1 ht2 (r_rd hM1 (rfl : (98 : Nat) = 98) (r_nat hv1)) h
    refine e_ite (c_eq (r_rd hM1 (rfl : (98 : Nat) = 98) (r_nat (r_add (rfl : (8 : Int32) = nI 8) hr3))) hr8) h (fun h => ?_) (fun h => ?_)
    · exact hq _ _ _ _ _ _ (rfl : (1 : Int32) = nI 1) hM6 ht7 h
    · exact hq _ _ _ _ _ _ (rfl : (0 : Int32) = nI 0) hM6 ht7 h
noncomputable def eX11_oddLots_26 (q : Nat → Nat → Nat → Bool) (cbk4 : Nat → Nat → Nat → Nat → Bool) (cM ct cv2 cs0 cs1 : Nat) : Bool :=
  (epX11_flag (fun cr3 cM1 ct2 => (cbk4 cM1 ct2 (Nat.lor cs0 (b2 f_shl cr3 cv2)) (aN cv2 1))) cM ct cs1)
set_option maxHeartbeats 4000000 in
set_option maxRecDepth 20000 in
theorem sX11_oddLots_26 {post : Int32 → MM → Int64 → Prop} {q : Nat → Nat → Nat → Bool} (hq : ∀ (r : Int32) (M : MM) (tl : Int64) (cr cM ct : Nat), r = nI cr → M = dM cM → tl = i64 ct → q cr cM ct = true → post r M tl) {bk4 : MM → Int64 → Int32 → Int32 → Prop} {cbk4 : Nat → Nat → Nat → Nat → Bool} (hbk4 : ∀ (M : MM) (tl : Int64) (x0 : Int32) (x1 : Int32) (cM ct cx0 cx1 : Nat), M = dM cM → tl = i64 ct → x0 = nI cx0 → x1 = nI cx1 → cbk4 cM ct cx0 cx1 = true → bk4 M tl x0 x1) {M : MM} {tl : Int64} {v2 : Int32} {s0 : Int32} {s1 : Int32} {cM ct cv2 cs0 cs1 : Nat} (hM : M = dM cM) (ht : tl = i64 ct) (hv2 : v2 = nI cv2) (hs0 : s0 = nI cs0) (hs1 : s1 = nI cs1) (h : eX11_oddLots_26 q cbk4 cM ct cv2 cs0 cs1 = true) : wX11_oddLots_26 post bk4 M tl v2 s0 s1 := by
  unfold wX11_oddLots_26
  unfold eX11_oddLots_26 at h
  refine spX11_flag (fun r3 M1 t2 cr3 cM1 ct2 hr3 hM1 ht2 h => ?_) hM ht hs1 h
  exact hbk4 _ _ _ _ _ _ _ _ hM1 ht2 (r_or hs0 (r_b2 f_shl hr3 hv2)) (r_add hv2 (rfl : (1 : Int32) = nI 1)) h
noncomputable def eX11_oddLots_4 (q : Nat → Nat → Nat → Bool) (n : Nat) : Nat → Nat → Nat → Nat → Bool :=
  @Nat.rec (fun _ => Nat → Nat → Nat → Nat → Bool) (fun _ _ _ _ => false) (fun _ ih cM ct cv1 cv2 => (@Bool.rec (fun _ => Bool) (epX11_isEven (fun cr3 cM1 ct2 => (@Bool.rec (fun _ => Bool) (eX11_oddLots_26 q ih cM1 ct2 cv2 cv1 0) (eX11_oddLots_26 q ih cM1 ct2 cv2 cv1 1) (eqN cr3 0))) cM ct cv2) (q cv1 cM ct) (leN (rd cM 81 2) cv2))) n
set_option maxHeartbeats 4000000 in
set_option maxRecDepth 20000 in
theorem sX11_oddLots_4 {post : Int32 → MM → Int64 → Prop} {q : Nat → Nat → Nat → Bool} (hq : ∀ (r : Int32) (M : MM) (tl : Int64) (cr cM ct : Nat), r = nI cr → M = dM cM → tl = i64 ct → q cr cM ct = true → post r M tl) : ∀ (n : Nat) (M : MM) (tl : Int64) (v1 : Int32) (v2 : Int32) (cM ct cv1 cv2 : Nat), M = dM cM → tl = i64 ct → v1 = nI cv1 → v2 = nI cv2 → eX11_oddLots_4 q  n cM ct cv1 cv2 = true → wX11_oddLots_4 post  n M tl v1 v2 := by
  intro n
  induction n with
  | zero => intro M tl v1 v2 cM ct cv1 cv2 hM ht hv1 hv2 h; exact Bool.noConfusion h
  | succ n ih =>
    intro M tl v1 v2 cM ct cv1 cv2 hM ht hv1 hv2 h
    unfold wX11_oddLots_4
    refine e_ite (c_le (r_rd hM (rfl : (81 : Nat) = 81) (rfl : (2 : Nat) = 2)) hv2) h (fun h => ?_) (fun h => ?_)
    · exact hq _ _ _ _ _ _ hv1 hM ht h
    · refine spX11_isEven (fun r3 M1 t2 cr3 cM1 ct2 hr3 hM1 ht2 h => ?_) hM ht hv2 h
      refine e_ite (c_eq hr3 (rfl : (0 : Int32) = nI 0)) h (fun h => ?_) (fun h => ?_)
      · exact sX11_oddLots_26 hq ih hM1 ht2 hv2 hv1 (rfl : (1 : Int32) = nI 1) h
      · exact sX11_oddLots_26 hq ih hM1 ht2 hv2 hv1 (rfl : (0 : Int32) = nI 0) h
noncomputable def epX11_oddLots (q : Nat → Nat → Nat → Bool) (cM ct  : Nat) : Bool :=
  (eX11_oddLots_4 q  5000 cM ct 0 0)
set_option maxHeartbeats 4000000 in
set_option maxRecDepth 20000 in
theorem spX11_oddLots {post : Int32 → MM → Int64 → Prop} {q : Nat → Nat → Nat → Bool} (hq : ∀ (r : Int32) (M : MM) (tl : Int64) (cr cM ct : Nat), r = nI cr → M = dM cM → tl = i64 ct → q cr cM ct = true → post r M tl) {M : MM} {tl : Int64} {cM ct  : Nat} (hM : M = dM cM) (ht : tl = i64 ct)  (h : epX11_oddLots q  cM ct  = true) : wpX11_oddLots post  M tl  := by
  unfold wpX11_oddLots
  unfold epX11_oddLots at h
  exact ⟨5000, sX11_oddLots_4 hq  5000 _ _ _ _ _ _ _ _ hM ht (rfl : (0 : Int32) = nI 0) (rfl : (0 : Int32) = nI 0) h⟩
noncomputable def epX11_odd (q : Nat → Nat → Nat → Bool) (cM ct  : Nat) : Bool :=
  (epX11_asNow (fun cM1 ct2 => (epX11_oddLots (fun cr5 cM3 ct4 => (q cr5 cM3 ct4)) cM1 ct2)) cM ct)
set_option maxHeartbeats 4000000 in
set_option maxRecDepth 20000 in
theorem spX11_odd {post : Int32 → MM → Int64 → Prop} {q : Nat → Nat → Nat → Bool} (hq : ∀ (r : Int32) (M : MM) (tl : Int64) (cr cM ct : Nat), r = nI cr → M = dM cM → tl = i64 ct → q cr cM ct = true → post r M tl) {M : MM} {tl : Int64} {cM ct  : Nat} (hM : M = dM cM) (ht : tl = i64 ct)  (h : epX11_odd q  cM ct  = true) : wpX11_odd post  M tl  := by
  unfold wpX11_odd
  unfold epX11_odd at h
  refine spX11_asNow (fun M1 t2 cM1 ct2 hM1 ht2 h => ?_) hM ht h
  refine spX11_oddLots (fun r5 M3 t4 cr5 cM3 ct4 hr5 hM3 ht4 h => ?_) hM1 ht2 h
  exact hq _ _ _ _ _ _ hr5 hM3 ht4 h
noncomputable def epX11_third (q : Nat → Nat → Nat → Bool) (cM ct cv1 : Nat) : Bool :=
  (epX11_isLot (fun cr3 cM1 ct2 => (@Bool.rec (fun _ => Bool) (epX11_matchOf (fun cr6 cM4 ct5 => (@Bool.rec (fun _ => Bool) (@Bool.rec (fun _ => Bool) false (epX11_mirrorOf (fun cr10 cM8 ct9 => (q cr10 cM8 ct9)) cM4 ct5 (rd cM4 82 (tN (aN 8 cr6)))) (inN (aN 8 cr6) (alF 82))) (q 4294967292 cM4 ct5) (eqN cr6 4294967292))) cM1 ct2 0 cv1) (q 4294967295 cM1 ct2) (eqN cr3 0))) cM ct 0 cv1)
set_option maxHeartbeats 4000000 in
set_option maxRecDepth 20000 in
theorem spX11_third {post : Int32 → MM → Int64 → Prop} {q : Nat → Nat → Nat → Bool} (hq : ∀ (r : Int32) (M : MM) (tl : Int64) (cr cM ct : Nat), r = nI cr → M = dM cM → tl = i64 ct → q cr cM ct = true → post r M tl) {M : MM} {tl : Int64} {v1 : Int32} {cM ct cv1 : Nat} (hM : M = dM cM) (ht : tl = i64 ct) (hv1 : v1 = nI cv1) (h : epX11_third q  cM ct cv1 = true) : wpX11_third post  M tl v1 := by
  unfold wpX11_third
  unfold epX11_third at h
  refine spX11_isLot (fun r3 M1 t2 cr3 cM1 ct2 hr3 hM1 ht2 h => ?_) hM ht (rfl : (0 : Int32) = nI 0) hv1 h
  refine e_ite (c_eq hr3 (rfl : (0 : Int32) = nI 0)) h (fun h => ?_) (fun h => ?_)
  · exact hq _ _ _ _ _ _ lm1 hM1 ht2 h
  · refine spX11_matchOf (fun r6 M4 t5 cr6 cM4 ct5 hr6 hM4 ht5 h => ?_) hM1 ht2 (rfl : (0 : Int32) = nI 0) hv1 h
    refine e_ite (c_eq hr6 lm4) h (fun h => ?_) (fun h => ?_)
    · exact hq _ _ _ _ _ _ lm4 hM4 ht5 h
    · refine e_and (k_in (r_add (rfl : (8 : Int32) = nI 8) hr6) (r_al (rfl : (82 : Nat) = 82))) h (fun h => ?_)
      refine spX11_mirrorOf (fun r10 M8 t9 cr10 cM8 ct9 hr10 hM8 ht9 h => ?_) hM4 ht5 (r_rd hM4 (rfl : (82 : Nat) = 82) (r_nat (r_add (rfl : (8 : Int32) = nI 8) hr6))) h
      exact hq _ _ _ _ _ _ hr10 hM8 ht9 h
noncomputable def eX11_startRun_6 (q : Nat → Nat → Bool) (n : Nat) : Nat → Nat → Nat → Bool :=
  @Nat.rec (fun _ => Nat → Nat → Nat → Bool) (fun _ _ _ => false) (fun _ ih cM ct cv1 => (@Bool.rec (fun _ => Bool) (@Bool.rec (fun _ => Bool) false (wrB (fun cM6 => (@Bool.rec (fun _ => Bool) false (wrB (fun cM8 => (ih cM8 ct (aN cv1 1))) cM6 101 (tN cv1) (b1 (vp_nar .boolean) 0)) (inN cv1 (alF 101)))) cM 99 (tN cv1) 4294967292) (inN cv1 (alF 99))) (@Bool.rec (fun _ => Bool) false (wrB (fun cM2 => (@Bool.rec (fun _ => Bool) false (wrB (fun cM4 => (q cM4 ct)) cM2 102 (tN 1) 0) (inN 1 (alF 102)))) cM 102 (tN 0) 0) (inN 0 (alF 102))) (leN 8 cv1))) n
set_option maxHeartbeats 4000000 in
set_option maxRecDepth 20000 in
theorem sX11_startRun_6 {post : MM → Int64 → Prop} {q : Nat → Nat → Bool} (hq : ∀ (M : MM) (tl : Int64) (cM ct : Nat), M = dM cM → tl = i64 ct → q cM ct = true → post M tl) : ∀ (n : Nat) (M : MM) (tl : Int64) (v1 : Int32) (cM ct cv1 : Nat), M = dM cM → tl = i64 ct → v1 = nI cv1 → eX11_startRun_6 q  n cM ct cv1 = true → wX11_startRun_6 post  n M tl v1 := by
  intro n
  induction n with
  | zero => intro M tl v1 cM ct cv1 hM ht hv1 h; exact Bool.noConfusion h
  | succ n ih =>
    intro M tl v1 cM ct cv1 hM ht hv1 h
    unfold wX11_startRun_6
    refine e_ite (c_le (rfl : (8 : Int32) = nI 8) hv1) h (fun h => ?_) (fun h => ?_)
    · refine e_and (k_in (rfl : (0 : Int32) = nI 0) (r_al (rfl : (102 : Nat) = 102))) h (fun h => ?_)
      refine e_wr h hM (rfl : (102 : Nat) = 102) (r_nat (rfl : (0 : Int32) = nI 0)) (rfl : (0 : Int32) = nI 0) (fun M2 cM2 hM2 h => ?_)
      refine e_and (k_in (rfl : (1 : Int32) = nI 1) (r_al (rfl : (102 : Nat) = 102))) h (fun h => ?_)
      refine e_wr h hM2 (rfl : (102 : Nat) = 102) (r_nat (rfl : (1 : Int32) = nI 1)) (rfl : (0 : Int32) = nI 0) (fun M4 cM4 hM4 h => ?_)
      exact hq _ _ _ _ hM4 ht h
    · refine e_and (k_in hv1 (r_al (rfl : (99 : Nat) = 99))) h (fun h => ?_)
      refine e_wr h hM (rfl : (99 : Nat) = 99) (r_nat hv1) lm4 (fun M6 cM6 hM6 h => ?_)
      refine e_and (k_in hv1 (r_al (rfl : (101 : Nat) = 101))) h (fun h => ?_)
      refine e_wr h hM6 (rfl : (101 : Nat) = 101) (r_nat hv1) (r_b1 (vp_nar .boolean) (rfl : (0 : Int32) = nI 0)) (fun M8 cM8 hM8 h => ?_)
      exact ih _ _ _ _ _ _ hM8 ht (r_add hv1 (rfl : (1 : Int32) = nI 1)) h
noncomputable def epX11_startRun (q : Nat → Nat → Bool) (cM ct  : Nat) : Bool :=
  (epX11_asNow (fun cM1 ct2 => (eX11_startRun_6 q  5000 cM1 ct2 0)) cM ct)
set_option maxHeartbeats 4000000 in
set_option maxRecDepth 20000 in
theorem spX11_startRun {post : MM → Int64 → Prop} {q : Nat → Nat → Bool} (hq : ∀ (M : MM) (tl : Int64) (cM ct : Nat), M = dM cM → tl = i64 ct → q cM ct = true → post M tl) {M : MM} {tl : Int64} {cM ct  : Nat} (hM : M = dM cM) (ht : tl = i64 ct)  (h : epX11_startRun q  cM ct  = true) : wpX11_startRun post  M tl  := by
  unfold wpX11_startRun
  unfold epX11_startRun at h
  refine spX11_asNow (fun M1 t2 cM1 ct2 hM1 ht2 h => ?_) hM ht h
  exact ⟨5000, sX11_startRun_6 hq  5000 _ _ _ _ _ _ hM1 ht2 (rfl : (0 : Int32) = nI 0) h⟩
noncomputable def eX11_works_102 (q : Nat → Nat → Bool) (cM ct cv1 : Nat) : Bool :=
  (@Bool.rec (fun _ => Bool) false (wrB (fun cM2 => (q cM2 ct)) cM 103 (tN cv1) 2) (inN cv1 (alF 103)))
set_option maxHeartbeats 4000000 in
set_option maxRecDepth 20000 in
theorem sX11_works_102 {post : MM → Int64 → Prop} {q : Nat → Nat → Bool} (hq : ∀ (M : MM) (tl : Int64) (cM ct : Nat), M = dM cM → tl = i64 ct → q cM ct = true → post M tl) {M : MM} {tl : Int64} {v1 : Int32} {cM ct cv1 : Nat} (hM : M = dM cM) (ht : tl = i64 ct) (hv1 : v1 = nI cv1) (h : eX11_works_102 q  cM ct cv1 = true) : wX11_works_102 post  M tl v1 := by
  unfold wX11_works_102
  unfold eX11_works_102 at h
  refine e_and (k_in hv1 (r_al (rfl : (103 : Nat) = 103))) h (fun h => ?_)
  refine e_wr h hM (rfl : (103 : Nat) = 103) (r_nat hv1) (rfl : (2 : Int32) = nI 2) (fun M2 cM2 hM2 h => ?_)
  exact hq _ _ _ _ hM2 ht h
noncomputable def eX11_works_232 (q : Nat → Nat → Bool) (cM ct cv2 cs1 : Nat) : Bool :=
  (@Bool.rec (fun _ => Bool) false (wrB (fun cM2 => (q cM2 ct)) cM 99 (tN cs1) cv2) (inN cs1 (alF 99)))
set_option maxHeartbeats 4000000 in
set_option maxRecDepth 20000 in
theorem sX11_works_232 {post : MM → Int64 → Prop} {q : Nat → Nat → Bool} (hq : ∀ (M : MM) (tl : Int64) (cM ct : Nat), M = dM cM → tl = i64 ct → q cM ct = true → post M tl) {M : MM} {tl : Int64} {v2 : Int32} {s1 : Int32} {cM ct cv2 cs1 : Nat} (hM : M = dM cM) (ht : tl = i64 ct) (hv2 : v2 = nI cv2) (hs1 : s1 = nI cs1) (h : eX11_works_232 q  cM ct cv2 cs1 = true) : wX11_works_232 post  M tl v2 s1 := by
  unfold wX11_works_232
  unfold eX11_works_232 at h
  refine e_and (k_in hs1 (r_al (rfl : (99 : Nat) = 99))) h (fun h => ?_)
  refine e_wr h hM (rfl : (99 : Nat) = 99) (r_nat hs1) hv2 (fun M2 cM2 hM2 h => ?_)
  exact hq _ _ _ _ hM2 ht h
noncomputable def eX11_works_155 (q : Nat → Nat → Bool) (cM ct cv1 cv2 cv3 cv4 cv5 : Nat) : Bool :=
  (@Bool.rec (fun _ => Bool) false (wrB (fun cM2 => (@Bool.rec (fun _ => Bool) false (@Bool.rec (fun _ => Bool) false (@Bool.rec (fun _ => Bool) false (wrB (fun cM6 => (@Bool.rec (fun _ => Bool) false (wrB (fun cM8 => (@Bool.rec (fun _ => Bool) false (wrB (fun cM10 => (@Bool.rec (fun _ => Bool) (@Bool.rec (fun _ => Bool) (eX11_works_232 q  cM10 ct cv2 cv5) (eX11_works_232 q  cM10 ct cv2 cv3) (eqN cv2 0)) (q cM10 ct) (eqN cv5 4294967292))) cM8 100 (tN (aN (mN 8 cv2) cv3)) (b1 (vp_nar .boolean) 1)) (inN (aN (mN 8 cv2) cv3) (alF 100)))) cM6 98 (tN (aN (mN 8 cv2) cv3)) cv4) (inN (aN (mN 8 cv2) cv3) (alF 98)))) cM2 102 (tN cv2) (aN (rd cM2 102 (tN cv2)) (rd cM2 85 (tN (aN (mN 6 cv2) (sN cv4 (mN (b2 f_div cv4 8) 8))))))) (inN cv2 (alF 102))) (inN (aN (mN 6 cv2) (sN cv4 (mN (b2 f_div cv4 8) 8))) (alF 85))) (inN cv2 (alF 102)))) cM 103 (tN cv1) 0) (inN cv1 (alF 103)))
set_option maxHeartbeats 4000000 in
set_option maxRecDepth 20000 in
theorem sX11_works_155 {post : MM → Int64 → Prop} {q : Nat → Nat → Bool} (hq : ∀ (M : MM) (tl : Int64) (cM ct : Nat), M = dM cM → tl = i64 ct → q cM ct = true → post M tl) {M : MM} {tl : Int64} {v1 : Int32} {v2 : Int32} {v3 : Int32} {v4 : Int32} {v5 : Int32} {cM ct cv1 cv2 cv3 cv4 cv5 : Nat} (hM : M = dM cM) (ht : tl = i64 ct) (hv1 : v1 = nI cv1) (hv2 : v2 = nI cv2) (hv3 : v3 = nI cv3) (hv4 : v4 = nI cv4) (hv5 : v5 = nI cv5) (h : eX11_works_155 q  cM ct cv1 cv2 cv3 cv4 cv5 = true) : wX11_works_155 post  M tl v1 v2 v3 v4 v5 := by
  unfold wX11_works_155
  unfold eX11_works_155 at h
  refine e_and (k_in hv1 (r_al (rfl : (103 : Nat) = 103))) h (fun h => ?_)
  refine e_wr h hM (rfl : (103 : Nat) = 103) (r_nat hv1) (rfl : (0 : Int32) = nI 0) (fun M2 cM2 hM2 h => ?_)
  refine e_and (k_in hv2 (r_al (rfl : (102 : Nat) = 102))) h (fun h => ?_)
  refine e_and (k_in (r_add (r_mul (rfl : (6 : Int32) = nI 6) hv2) (r_sub hv4 (r_mul (r_b2 f_div hv4 (rfl : (8 : Int32) = nI 8)) (rfl : (8 : Int32) = nI 8)))) (r_al (rfl : (85 : Nat) = 85))) h (fun h => ?_)
  refine e_and (k_in hv2 (r_al (rfl : (102 : Nat) = 102))) h (fun h => ?_)
  refine e_wr h hM2 (rfl : (102 : Nat) = 102) (r_nat hv2) (r_add (r_rd hM2 (rfl : (102 : Nat) = 102) (r_nat hv2)) (r_rd hM2 (rfl : (85 : Nat) = 85) (r_nat (r_add (r_mul (rfl : (6 : Int32) = nI 6) hv2) (r_sub hv4 (r_mul (r_b2 f_div hv4 (rfl : (8 : Int32) = nI 8)) (rfl : (8 : Int32) = nI 8))))))) (fun M6 cM6 hM6 h => ?_)
  refine e_and (k_in (r_add (r_mul (rfl : (8 : Int32) = nI 8) hv2) hv3) (r_al (rfl : (98 : Nat) = 98))) h (fun h => ?_)
  refine e_wr h hM6 (rfl : (98 : Nat) = 98) (r_nat (r_add (r_mul (rfl : (8 : Int32) = nI 8) hv2) hv3)) hv4 (fun M8 cM8 hM8 h => ?_)
  refine e_and (k_in (r_add (r_mul (rfl : (8 : Int32) = nI 8) hv2) hv3) (r_al (rfl : (100 : Nat) = 100))) h (fun h => ?_)
  refine e_wr h hM8 (rfl : (100 : Nat) = 100) (r_nat (r_add (r_mul (rfl : (8 : Int32) = nI 8) hv2) hv3)) (r_b1 (vp_nar .boolean) (rfl : (1 : Int32) = nI 1)) (fun M10 cM10 hM10 h => ?_)
  refine e_ite (c_eq hv5 lm4) h (fun h => ?_) (fun h => ?_)
  · exact hq _ _ _ _ hM10 ht h
  · refine e_ite (c_eq hv2 (rfl : (0 : Int32) = nI 0)) h (fun h => ?_) (fun h => ?_)
    · exact sX11_works_232 hq  hM10 ht hv2 hv3 h
    · exact sX11_works_232 hq  hM10 ht hv2 hv5 h
noncomputable def eX11_works_112 (q : Nat → Nat → Bool) (cM ct cv1 cv2 cv3 cv4 cv5 cv6 : Nat) : Bool :=
  (@Bool.rec (fun _ => Bool) (@Bool.rec (fun _ => Bool) false (@Bool.rec (fun _ => Bool) (@Bool.rec (fun _ => Bool) false (epX11_mirrorOf (fun cr5 cM3 ct4 => (@Bool.rec (fun _ => Bool) (@Bool.rec (fun _ => Bool) false (wrB (fun cM7 => (q cM7 ct4)) cM3 103 (tN cv1) 1) (inN cv1 (alF 103))) (eX11_works_155 q  cM3 ct4 cv1 cv2 cv3 cv4 cv5) (eqN (rd cM 98 (tN cv6)) cr5))) cM ct cv4) (inN cv6 (alF 98))) (eX11_works_155 q  cM ct cv1 cv2 cv3 cv4 cv5) (eqN (rd cM 100 (tN cv6)) 0)) (inN cv6 (alF 100))) (eX11_works_155 q  cM ct cv1 cv2 cv3 cv4 cv5) (eqN cv5 4294967292))
set_option maxHeartbeats 4000000 in
set_option maxRecDepth 20000 in
theorem sX11_works_112 {post : MM → Int64 → Prop} {q : Nat → Nat → Bool} (hq : ∀ (M : MM) (tl : Int64) (cM ct : Nat), M = dM cM → tl = i64 ct → q cM ct = true → post M tl) {M : MM} {tl : Int64} {v1 : Int32} {v2 : Int32} {v3 : Int32} {v4 : Int32} {v5 : Int32} {v6 : Int32} {cM ct cv1 cv2 cv3 cv4 cv5 cv6 : Nat} (hM : M = dM cM) (ht : tl = i64 ct) (hv1 : v1 = nI cv1) (hv2 : v2 = nI cv2) (hv3 : v3 = nI cv3) (hv4 : v4 = nI cv4) (hv5 : v5 = nI cv5) (hv6 : v6 = nI cv6) (h : eX11_works_112 q  cM ct cv1 cv2 cv3 cv4 cv5 cv6 = true) : wX11_works_112 post  M tl v1 v2 v3 v4 v5 v6 := by
  unfold wX11_works_112
  unfold eX11_works_112 at h
  refine e_ite (c_eq hv5 lm4) h (fun h => ?_) (fun h => ?_)
  · exact sX11_works_155 hq  hM ht hv1 hv2 hv3 hv4 hv5 h
  · refine e_and (k_in hv6 (r_al (rfl : (100 : Nat) = 100))) h (fun h => ?_)
    refine e_ite (c_eq (r_rd hM (rfl : (100 : Nat) = 100) (r_nat hv6)) (rfl : (0 : Int32) = nI 0)) h (fun h => ?_) (fun h => ?_)
    · exact sX11_works_155 hq  hM ht hv1 hv2 hv3 hv4 hv5 h
    · refine e_and (k_in hv6 (r_al (rfl : (98 : Nat) = 98))) h (fun h => ?_)
      refine spX11_mirrorOf (fun r5 M3 t4 cr5 cM3 ct4 hr5 hM3 ht4 h => ?_) hM ht hv4 h
      refine e_ite (c_eq (r_rd hM (rfl : (98 : Nat) = 98) (r_nat hv6)) hr5) h (fun h => ?_) (fun h => ?_)
      · exact sX11_works_155 hq  hM3 ht4 hv1 hv2 hv3 hv4 hv5 h
      · refine e_and (k_in hv1 (r_al (rfl : (103 : Nat) = 103))) h (fun h => ?_)
        refine e_wr h hM3 (rfl : (103 : Nat) = 103) (r_nat hv1) (rfl : (1 : Int32) = nI 1) (fun M7 cM7 hM7 h => ?_)
        exact hq _ _ _ _ hM7 ht4 h
noncomputable def epX11_works (q : Nat → Nat → Bool) (cM ct cv1 : Nat) : Bool :=
  (@Bool.rec (fun _ => Bool) false (@Bool.rec (fun _ => Bool) false (@Bool.rec (fun _ => Bool) false (epX11_matchOf (fun cr6 cM4 ct5 => (epX11_doesLack (fun cr9 cM7 ct8 => (@Bool.rec (fun _ => Bool) (eX11_works_102 q  cM7 ct8 cv1) (@Bool.rec (fun _ => Bool) (@Bool.rec (fun _ => Bool) false (epX11_doesLack (fun cr13 cM11 ct12 => (@Bool.rec (fun _ => Bool) (eX11_works_102 q  cM11 ct12 cv1) (eX11_works_112 q  cM11 ct12 cv1 (rd cM 82 (tN (aN (aN 17 (mN 4 cv1)) 1))) (rd cM 82 (tN (aN (aN 17 (mN 4 cv1)) 2))) (rd cM 82 (tN (aN (aN 17 (mN 4 cv1)) 3))) cr6 (aN (mN 8 (sN 1 (rd cM 82 (tN (aN (aN 17 (mN 4 cv1)) 1))))) cr6)) (eqN cr13 0))) cM7 ct8 (sN 1 (rd cM 82 (tN (aN (aN 17 (mN 4 cv1)) 1)))) (rd cM7 88 (tN (sN (rd cM 82 (tN (aN (aN 17 (mN 4 cv1)) 3))) (mN (b2 f_div (rd cM 82 (tN (aN (aN 17 (mN 4 cv1)) 3))) 8) 8))))) (inN (sN (rd cM 82 (tN (aN (aN 17 (mN 4 cv1)) 3))) (mN (b2 f_div (rd cM 82 (tN (aN (aN 17 (mN 4 cv1)) 3))) 8) 8)) (alF 88))) (eX11_works_112 q  cM7 ct8 cv1 (rd cM 82 (tN (aN (aN 17 (mN 4 cv1)) 1))) (rd cM 82 (tN (aN (aN 17 (mN 4 cv1)) 2))) (rd cM 82 (tN (aN (aN 17 (mN 4 cv1)) 3))) cr6 (aN (mN 8 (sN 1 (rd cM 82 (tN (aN (aN 17 (mN 4 cv1)) 1))))) cr6)) (eqN cr6 4294967292)) (eqN cr9 0))) cM4 ct5 (rd cM 82 (tN (aN (aN 17 (mN 4 cv1)) 1))) (sN (rd cM 82 (tN (aN (aN 17 (mN 4 cv1)) 3))) (mN (b2 f_div (rd cM 82 (tN (aN (aN 17 (mN 4 cv1)) 3))) 8) 8)))) cM ct (rd cM 82 (tN (aN (aN 17 (mN 4 cv1)) 1))) (rd cM 82 (tN (aN (aN 17 (mN 4 cv1)) 2)))) (inN (aN (aN 17 (mN 4 cv1)) 3) (alF 82))) (inN (aN (aN 17 (mN 4 cv1)) 2) (alF 82))) (inN (aN (aN 17 (mN 4 cv1)) 1) (alF 82)))
set_option maxHeartbeats 4000000 in
set_option maxRecDepth 20000 in
theorem spX11_works {post : MM → Int64 → Prop} {q : Nat → Nat → Bool} (hq : ∀ (M : MM) (tl : Int64) (cM ct : Nat), M = dM cM → tl = i64 ct → q cM ct = true → post M tl) {M : MM} {tl : Int64} {v1 : Int32} {cM ct cv1 : Nat} (hM : M = dM cM) (ht : tl = i64 ct) (hv1 : v1 = nI cv1) (h : epX11_works q  cM ct cv1 = true) : wpX11_works post  M tl v1 := by
  unfold wpX11_works
  unfold epX11_works at h
  refine e_and (k_in (r_add (r_add (rfl : (17 : Int32) = nI 17) (r_mul (rfl : (4 : Int32) = nI 4) hv1)) (rfl : (1 : Int32) = nI 1)) (r_al (rfl : (82 : Nat) = 82))) h (fun h => ?_)
  refine e_and (k_in (r_add (r_add (rfl : (17 : Int32) = nI 17) (r_mul (rfl : (4 : Int32) = nI 4) hv1)) (rfl : (2 : Int32) = nI 2)) (r_al (rfl : (82 : Nat) = 82))) h (fun h => ?_)
  refine e_and (k_in (r_add (r_add (rfl : (17 : Int32) = nI 17) (r_mul (rfl : (4 : Int32) = nI 4) hv1)) (rfl : (3 : Int32) = nI 3)) (r_al (rfl : (82 : Nat) = 82))) h (fun h => ?_)
  refine spX11_matchOf (fun r6 M4 t5 cr6 cM4 ct5 hr6 hM4 ht5 h => ?_) hM ht (r_rd hM (rfl : (82 : Nat) = 82) (r_nat (r_add (r_add (rfl : (17 : Int32) = nI 17) (r_mul (rfl : (4 : Int32) = nI 4) hv1)) (rfl : (1 : Int32) = nI 1)))) (r_rd hM (rfl : (82 : Nat) = 82) (r_nat (r_add (r_add (rfl : (17 : Int32) = nI 17) (r_mul (rfl : (4 : Int32) = nI 4) hv1)) (rfl : (2 : Int32) = nI 2)))) h
  refine spX11_doesLack (fun r9 M7 t8 cr9 cM7 ct8 hr9 hM7 ht8 h => ?_) hM4 ht5 (r_rd hM (rfl : (82 : Nat) = 82) (r_nat (r_add (r_add (rfl : (17 : Int32) = nI 17) (r_mul (rfl : (4 : Int32) = nI 4) hv1)) (rfl : (1 : Int32) = nI 1)))) (r_sub (r_rd hM (rfl : (82 : Nat) = 82) (r_nat (r_add (r_add (rfl : (17 : Int32) = nI 17) (r_mul (rfl : (4 : Int32) = nI 4) hv1)) (rfl : (3 : Int32) = nI 3)))) (r_mul (r_b2 f_div (r_rd hM (rfl : (82 : Nat) = 82) (r_nat (r_add (r_add (rfl : (17 : Int32) = nI 17) (r_mul (rfl : (4 : Int32) = nI 4) hv1)) (rfl : (3 : Int32) = nI 3)))) (rfl : (8 : Int32) = nI 8)) (rfl : (8 : Int32) = nI 8))) h
  refine e_ite (c_eq hr9 (rfl : (0 : Int32) = nI 0)) h (fun h => ?_) (fun h => ?_)
  · refine e_ite (c_eq hr6 lm4) h (fun h => ?_) (fun h => ?_)
    · exact sX11_works_112 hq  hM7 ht8 hv1 (r_rd hM (rfl : (82 : Nat) = 82) (r_nat (r_add (r_add (rfl : (17 : Int32) = nI 17) (r_mul (rfl : (4 : Int32) = nI 4) hv1)) (rfl : (1 : Int32) = nI 1)))) (r_rd hM (rfl : (82 : Nat) = 82) (r_nat (r_add (r_add (rfl : (17 : Int32) = nI 17) (r_mul (rfl : (4 : Int32) = nI 4) hv1)) (rfl : (2 : Int32) = nI 2)))) (r_rd hM (rfl : (82 : Nat) = 82) (r_nat (r_add (r_add (rfl : (17 : Int32) = nI 17) (r_mul (rfl : (4 : Int32) = nI 4) hv1)) (rfl : (3 : Int32) = nI 3)))) hr6 (r_add (r_mul (rfl : (8 : Int32) = nI 8) (r_sub (rfl : (1 : Int32) = nI 1) (r_rd hM (rfl : (82 : Nat) = 82) (r_nat (r_add (r_add (rfl : (17 : Int32) = nI 17) (r_mul (rfl : (4 : Int32) = nI 4) hv1)) (rfl : (1 : Int32) = nI 1)))))) hr6) h
    · refine e_and (k_in (r_sub (r_rd hM (rfl : (82 : Nat) = 82) (r_nat (r_add (r_add (rfl : (17 : Int32) = nI 17) (r_mul (rfl : (4 : Int32) = nI 4) hv1)) (rfl : (3 : Int32) = nI 3)))) (r_mul (r_b2 f_div (r_rd hM (rfl : (82 : Nat) = 82) (r_nat (r_add (r_add (rfl : (17 : Int32) = nI 17) (r_mul (rfl : (4 : Int32) = nI 4) hv1)) (rfl : (3 : Int32) = nI 3)))) (rfl : (8 : Int32) = nI 8)) (rfl : (8 : Int32) = nI 8))) (r_al (rfl : (88 : Nat) = 88))) h (fun h => ?_)
      refine spX11_doesLack (fun r13 M11 t12 cr13 cM11 ct12 hr13 hM11 ht12 h => ?_) hM7 ht8 (r_sub (rfl : (1 : Int32) = nI 1) (r_rd hM (rfl : (82 : Nat) = 82) (r_nat (r_add (r_add (rfl : (17 : Int32) = nI 17) (r_mul (rfl : (4 : Int32) = nI 4) hv1)) (rfl : (1 : Int32) = nI 1))))) (r_rd hM7 (rfl : (88 : Nat) = 88) (r_nat (r_sub (r_rd hM (rfl : (82 : Nat) = 82) (r_nat (r_add (r_add (rfl : (17 : Int32) = nI 17) (r_mul (rfl : (4 : Int32) = nI 4) hv1)) (rfl : (3 : Int32) = nI 3)))) (r_mul (r_b2 f_div (r_rd hM (rfl : (82 : Nat) = 82) (r_nat (r_add (r_add (rfl : (17 : Int32) = nI 17) (r_mul (rfl : (4 : Int32) = nI 4) hv1)) (rfl : (3 : Int32) = nI 3)))) (rfl : (8 : Int32) = nI 8)) (rfl : (8 : Int32) = nI 8))))) h
      refine e_ite (c_eq hr13 (rfl : (0 : Int32) = nI 0)) h (fun h => ?_) (fun h => ?_)
      · exact sX11_works_112 hq  hM11 ht12 hv1 (r_rd hM (rfl : (82 : Nat) = 82) (r_nat (r_add (r_add (rfl : (17 : Int32) = nI 17) (r_mul (rfl : (4 : Int32) = nI 4) hv1)) (rfl : (1 : Int32) = nI 1)))) (r_rd hM (rfl : (82 : Nat) = 82) (r_nat (r_add (r_add (rfl : (17 : Int32) = nI 17) (r_mul (rfl : (4 : Int32) = nI 4) hv1)) (rfl : (2 : Int32) = nI 2)))) (r_rd hM (rfl : (82 : Nat) = 82) (r_nat (r_add (r_add (rfl : (17 : Int32) = nI 17) (r_mul (rfl : (4 : Int32) = nI 4) hv1)) (rfl : (3 : Int32) = nI 3)))) hr6 (r_add (r_mul (rfl : (8 : Int32) = nI 8) (r_sub (rfl : (1 : Int32) = nI 1) (r_rd hM (rfl : (82 : Nat) = 82) (r_nat (r_add (r_add (rfl : (17 : Int32) = nI 17) (r_mul (rfl : (4 : Int32) = nI 4) hv1)) (rfl : (1 : Int32) = nI 1)))))) hr6) h
      · exact sX11_works_102 hq  hM11 ht12 hv1 h
  · exact sX11_works_102 hq  hM7 ht8 hv1 h
noncomputable def eX11_goMonth_54 (q : Nat → Nat → Bool) (cbk23 : Nat → Nat → Nat → Nat → Bool) (cM ct cv1 cv2 : Nat) : Bool :=
  (cbk23 cM ct cv1 (aN cv2 1))
set_option maxHeartbeats 4000000 in
set_option maxRecDepth 20000 in
theorem sX11_goMonth_54 {post : MM → Int64 → Prop} {q : Nat → Nat → Bool} (hq : ∀ (M : MM) (tl : Int64) (cM ct : Nat), M = dM cM → tl = i64 ct → q cM ct = true → post M tl) {bk23 : MM → Int64 → Int32 → Int32 → Prop} {cbk23 : Nat → Nat → Nat → Nat → Bool} (hbk23 : ∀ (M : MM) (tl : Int64) (x0 : Int32) (x1 : Int32) (cM ct cx0 cx1 : Nat), M = dM cM → tl = i64 ct → x0 = nI cx0 → x1 = nI cx1 → cbk23 cM ct cx0 cx1 = true → bk23 M tl x0 x1) {M : MM} {tl : Int64} {v1 : Int32} {v2 : Int32} {cM ct cv1 cv2 : Nat} (hM : M = dM cM) (ht : tl = i64 ct) (hv1 : v1 = nI cv1) (hv2 : v2 = nI cv2) (h : eX11_goMonth_54 q cbk23 cM ct cv1 cv2 = true) : wX11_goMonth_54 post bk23 M tl v1 v2 := by
  unfold wX11_goMonth_54
  unfold eX11_goMonth_54 at h
  exact hbk23 _ _ _ _ _ _ _ _ hM ht hv1 (r_add hv2 (rfl : (1 : Int32) = nI 1)) h
noncomputable def eX11_goMonth_246 (q : Nat → Nat → Bool) (cbk62 : Nat → Nat → Nat → Bool) (cM ct cv2 cs1 cs2 : Nat) : Bool :=
  (@Bool.rec (fun _ => Bool) false (wrB (fun cM2 => (cbk62 cM2 ct (aN cv2 1))) cM 101 (tN cs1) (b1 (vp_nar .boolean) cs2)) (inN cs1 (alF 101)))
set_option maxHeartbeats 4000000 in
set_option maxRecDepth 20000 in
theorem sX11_goMonth_246 {post : MM → Int64 → Prop} {q : Nat → Nat → Bool} (hq : ∀ (M : MM) (tl : Int64) (cM ct : Nat), M = dM cM → tl = i64 ct → q cM ct = true → post M tl) {bk62 : MM → Int64 → Int32 → Prop} {cbk62 : Nat → Nat → Nat → Bool} (hbk62 : ∀ (M : MM) (tl : Int64) (x0 : Int32) (cM ct cx0 : Nat), M = dM cM → tl = i64 ct → x0 = nI cx0 → cbk62 cM ct cx0 = true → bk62 M tl x0) {M : MM} {tl : Int64} {v2 : Int32} {s1 : Int32} {s2 : Int32} {cM ct cv2 cs1 cs2 : Nat} (hM : M = dM cM) (ht : tl = i64 ct) (hv2 : v2 = nI cv2) (hs1 : s1 = nI cs1) (hs2 : s2 = nI cs2) (h : eX11_goMonth_246 q cbk62 cM ct cv2 cs1 cs2 = true) : wX11_goMonth_246 post bk62 M tl v2 s1 s2 := by
  unfold wX11_goMonth_246
  unfold eX11_goMonth_246 at h
  refine e_and (k_in hs1 (r_al (rfl : (101 : Nat) = 101))) h (fun h => ?_)
  refine e_wr h hM (rfl : (101 : Nat) = 101) (r_nat hs1) (r_b1 (vp_nar .boolean) hs2) (fun M2 cM2 hM2 h => ?_)
  exact hbk62 _ _ _ _ _ _ hM2 ht (r_add hv2 (rfl : (1 : Int32) = nI 1)) h
noncomputable def eX11_goMonth_241 (q : Nat → Nat → Bool) (cbk62 : Nat → Nat → Nat → Bool) (cM ct cv2 cs1 : Nat) : Bool :=
  (eX11_goMonth_246 q cbk62 cM ct cv2 cs1 1)
set_option maxHeartbeats 4000000 in
set_option maxRecDepth 20000 in
theorem sX11_goMonth_241 {post : MM → Int64 → Prop} {q : Nat → Nat → Bool} (hq : ∀ (M : MM) (tl : Int64) (cM ct : Nat), M = dM cM → tl = i64 ct → q cM ct = true → post M tl) {bk62 : MM → Int64 → Int32 → Prop} {cbk62 : Nat → Nat → Nat → Bool} (hbk62 : ∀ (M : MM) (tl : Int64) (x0 : Int32) (cM ct cx0 : Nat), M = dM cM → tl = i64 ct → x0 = nI cx0 → cbk62 cM ct cx0 = true → bk62 M tl x0) {M : MM} {tl : Int64} {v2 : Int32} {s1 : Int32} {cM ct cv2 cs1 : Nat} (hM : M = dM cM) (ht : tl = i64 ct) (hv2 : v2 = nI cv2) (hs1 : s1 = nI cs1) (h : eX11_goMonth_241 q cbk62 cM ct cv2 cs1 = true) : wX11_goMonth_241 post bk62 M tl v2 s1 := by
  unfold wX11_goMonth_241
  unfold eX11_goMonth_241 at h
  exact sX11_goMonth_246 hq hbk62 hM ht hv2 hs1 (rfl : (1 : Int32) = nI 1) h
noncomputable def eX11_goMonth_222 (q : Nat → Nat → Bool) (cbk62 : Nat → Nat → Nat → Bool) (cM ct cv2 cv4 : Nat) : Bool :=
  (@Bool.rec (fun _ => Bool) false (@Bool.rec (fun _ => Bool) (eX11_goMonth_241 q cbk62 cM ct cv2 cv2) (@Bool.rec (fun _ => Bool) (eX11_goMonth_241 q cbk62 cM ct cv2 cv2) (eX11_goMonth_246 q cbk62 cM ct cv2 cv2 0) (eqN cv4 0)) (eqN (rd cM 101 (tN cv2)) 0)) (inN cv2 (alF 101)))
set_option maxHeartbeats 4000000 in
set_option maxRecDepth 20000 in
theorem sX11_goMonth_222 {post : MM → Int64 → Prop} {q : Nat → Nat → Bool} (hq : ∀ (M : MM) (tl : Int64) (cM ct : Nat), M = dM cM → tl = i64 ct → q cM ct = true → post M tl) {bk62 : MM → Int64 → Int32 → Prop} {cbk62 : Nat → Nat → Nat → Bool} (hbk62 : ∀ (M : MM) (tl : Int64) (x0 : Int32) (cM ct cx0 : Nat), M = dM cM → tl = i64 ct → x0 = nI cx0 → cbk62 cM ct cx0 = true → bk62 M tl x0) {M : MM} {tl : Int64} {v2 : Int32} {v4 : Int32} {cM ct cv2 cv4 : Nat} (hM : M = dM cM) (ht : tl = i64 ct) (hv2 : v2 = nI cv2) (hv4 : v4 = nI cv4) (h : eX11_goMonth_222 q cbk62 cM ct cv2 cv4 = true) : wX11_goMonth_222 post bk62 M tl v2 v4 := by
  unfold wX11_goMonth_222
  unfold eX11_goMonth_222 at h
  refine e_and (k_in hv2 (r_al (rfl : (101 : Nat) = 101))) h (fun h => ?_)
  refine e_ite (c_eq (r_rd hM (rfl : (101 : Nat) = 101) (r_nat hv2)) (rfl : (0 : Int32) = nI 0)) h (fun h => ?_) (fun h => ?_)
  · refine e_ite (c_eq hv4 (rfl : (0 : Int32) = nI 0)) h (fun h => ?_) (fun h => ?_)
    · exact sX11_goMonth_246 hq hbk62 hM ht hv2 hv2 (rfl : (0 : Int32) = nI 0) h
    · exact sX11_goMonth_241 hq hbk62 hM ht hv2 hv2 h
  · exact sX11_goMonth_241 hq hbk62 hM ht hv2 hv2 h
noncomputable def eX11_goMonth_171 (q : Nat → Nat → Bool) (cbk62 : Nat → Nat → Nat → Bool) (cM ct cv2 cv4 cv5 cv6 cs0 : Nat) : Bool :=
  (@Bool.rec (fun _ => Bool) false (epX11_mirrorOf (fun cr4 cM2 ct3 => (@Bool.rec (fun _ => Bool) false (wrB (fun cM6 => (@Bool.rec (fun _ => Bool) false (@Bool.rec (fun _ => Bool) false (@Bool.rec (fun _ => Bool) false (@Bool.rec (fun _ => Bool) false (wrB (fun cM11 => (eX11_goMonth_222 q cbk62 cM11 ct3 cv2 cv4)) cM6 102 (tN cv5) (aN (rd cM6 102 (tN cv5)) (rd cM6 85 (tN (aN (mN 6 cv5) (sN (rd cM6 98 (tN cv6)) (mN (b2 f_div (rd cM6 98 (tN cv6)) 8) 8))))))) (inN cv5 (alF 102))) (inN (aN (mN 6 cv5) (sN (rd cM6 98 (tN cv6)) (mN (b2 f_div (rd cM6 98 (tN cv6)) 8) 8))) (alF 85))) (inN cv6 (alF 98))) (inN cv5 (alF 102)))) cM2 98 (tN cv6) cr4) (inN cv6 (alF 98)))) cM ct (rd cM 98 (tN cs0))) (inN cs0 (alF 98)))
set_option maxHeartbeats 4000000 in
set_option maxRecDepth 20000 in
theorem sX11_goMonth_171 {post : MM → Int64 → Prop} {q : Nat → Nat → Bool} (hq : ∀ (M : MM) (tl : Int64) (cM ct : Nat), M = dM cM → tl = i64 ct → q cM ct = true → post M tl) {bk62 : MM → Int64 → Int32 → Prop} {cbk62 : Nat → Nat → Nat → Bool} (hbk62 : ∀ (M : MM) (tl : Int64) (x0 : Int32) (cM ct cx0 : Nat), M = dM cM → tl = i64 ct → x0 = nI cx0 → cbk62 cM ct cx0 = true → bk62 M tl x0) {M : MM} {tl : Int64} {v2 : Int32} {v4 : Int32} {v5 : Int32} {v6 : Int32} {s0 : Int32} {cM ct cv2 cv4 cv5 cv6 cs0 : Nat} (hM : M = dM cM) (ht : tl = i64 ct) (hv2 : v2 = nI cv2) (hv4 : v4 = nI cv4) (hv5 : v5 = nI cv5) (hv6 : v6 = nI cv6) (hs0 : s0 = nI cs0) (h : eX11_goMonth_171 q cbk62 cM ct cv2 cv4 cv5 cv6 cs0 = true) : wX11_goMonth_171 post bk62 M tl v2 v4 v5 v6 s0 := by
  unfold wX11_goMonth_171
  unfold eX11_goMonth_171 at h
  refine e_and (k_in hs0 (r_al (rfl : (98 : Nat) = 98))) h (fun h => ?_)
  refine spX11_mirrorOf (fun r4 M2 t3 cr4 cM2 ct3 hr4 hM2 ht3 h => ?_) hM ht (r_rd hM (rfl : (98 : Nat) = 98) (r_nat hs0)) h
  refine e_and (k_in hv6 (r_al (rfl : (98 : Nat) = 98))) h (fun h => ?_)
  refine e_wr h hM2 (rfl : (98 : Nat) = 98) (r_nat hv6) hr4 (fun M6 cM6 hM6 h => ?_)
  refine e_and (k_in hv5 (r_al (rfl : (102 : Nat) = 102))) h (fun h => ?_)
  refine e_and (k_in hv6 (r_al (rfl : (98 : Nat) = 98))) h (fun h => ?_)
  refine e_and (k_in (r_add (r_mul (rfl : (6 : Int32) = nI 6) hv5) (r_sub (r_rd hM6 (rfl : (98 : Nat) = 98) (r_nat hv6)) (r_mul (r_b2 f_div (r_rd hM6 (rfl : (98 : Nat) = 98) (r_nat hv6)) (rfl : (8 : Int32) = nI 8)) (rfl : (8 : Int32) = nI 8)))) (r_al (rfl : (85 : Nat) = 85))) h (fun h => ?_)
  refine e_and (k_in hv5 (r_al (rfl : (102 : Nat) = 102))) h (fun h => ?_)
  refine e_wr h hM6 (rfl : (102 : Nat) = 102) (r_nat hv5) (r_add (r_rd hM6 (rfl : (102 : Nat) = 102) (r_nat hv5)) (r_rd hM6 (rfl : (85 : Nat) = 85) (r_nat (r_add (r_mul (rfl : (6 : Int32) = nI 6) hv5) (r_sub (r_rd hM6 (rfl : (98 : Nat) = 98) (r_nat hv6)) (r_mul (r_b2 f_div (r_rd hM6 (rfl : (98 : Nat) = 98) (r_nat hv6)) (rfl : (8 : Int32) = nI 8)) (rfl : (8 : Int32) = nI 8))))))) (fun M11 cM11 hM11 h => ?_)
  exact sX11_goMonth_222 hq hbk62 hM11 ht3 hv2 hv4 h
noncomputable def eX11_goMonth_156 (q : Nat → Nat → Bool) (cbk62 : Nat → Nat → Nat → Bool) (cM ct cv2 cv3 cv4 cv5 cs0 : Nat) : Bool :=
  (@Bool.rec (fun _ => Bool) (eX11_goMonth_171 q cbk62 cM ct cv2 cv4 cv5 cs0 cv2) (eX11_goMonth_171 q cbk62 cM ct cv2 cv4 cv5 cs0 (aN 8 cv3)) (eqN cv5 0))
set_option maxHeartbeats 4000000 in
set_option maxRecDepth 20000 in
theorem sX11_goMonth_156 {post : MM → Int64 → Prop} {q : Nat → Nat → Bool} (hq : ∀ (M : MM) (tl : Int64) (cM ct : Nat), M = dM cM → tl = i64 ct → q cM ct = true → post M tl) {bk62 : MM → Int64 → Int32 → Prop} {cbk62 : Nat → Nat → Nat → Bool} (hbk62 : ∀ (M : MM) (tl : Int64) (x0 : Int32) (cM ct cx0 : Nat), M = dM cM → tl = i64 ct → x0 = nI cx0 → cbk62 cM ct cx0 = true → bk62 M tl x0) {M : MM} {tl : Int64} {v2 : Int32} {v3 : Int32} {v4 : Int32} {v5 : Int32} {s0 : Int32} {cM ct cv2 cv3 cv4 cv5 cs0 : Nat} (hM : M = dM cM) (ht : tl = i64 ct) (hv2 : v2 = nI cv2) (hv3 : v3 = nI cv3) (hv4 : v4 = nI cv4) (hv5 : v5 = nI cv5) (hs0 : s0 = nI cs0) (h : eX11_goMonth_156 q cbk62 cM ct cv2 cv3 cv4 cv5 cs0 = true) : wX11_goMonth_156 post bk62 M tl v2 v3 v4 v5 s0 := by
  unfold wX11_goMonth_156
  unfold eX11_goMonth_156 at h
  refine e_ite (c_eq hv5 (rfl : (0 : Int32) = nI 0)) h (fun h => ?_) (fun h => ?_)
  · exact sX11_goMonth_171 hq hbk62 hM ht hv2 hv4 hv5 hs0 (r_add (rfl : (8 : Int32) = nI 8) hv3) h
  · exact sX11_goMonth_171 hq hbk62 hM ht hv2 hv4 hv5 hs0 hv2 h
noncomputable def eX11_goMonth_109 (q : Nat → Nat → Bool) (cbk62 : Nat → Nat → Nat → Bool) (cM ct cv2 cv3 cs0 : Nat) : Bool :=
  (epX11_isEven (fun cr3 cM1 ct2 => (@Bool.rec (fun _ => Bool) (eX11_goMonth_222 q cbk62 cM1 ct2 cv2 cs0) (@Bool.rec (fun _ => Bool) (eX11_goMonth_222 q cbk62 cM1 ct2 cv2 cs0) (@Bool.rec (fun _ => Bool) false (@Bool.rec (fun _ => Bool) (@Bool.rec (fun _ => Bool) false (@Bool.rec (fun _ => Bool) (eX11_goMonth_156 q cbk62 cM1 ct2 cv2 cv3 cs0 (sN 1 (rd cM1 99 (tN cv2))) (aN 8 cv3)) (eX11_goMonth_156 q cbk62 cM1 ct2 cv2 cv3 cs0 (sN 1 (rd cM1 99 (tN cv2))) cv2) (eqN (sN 1 (rd cM1 99 (tN cv2))) 0)) (inN cv2 (alF 99))) (eX11_goMonth_222 q cbk62 cM1 ct2 cv2 cs0) (eqN (rd cM1 101 (tN cv2)) 0)) (inN cv2 (alF 101))) (eqN cs0 0)) (eqN cr3 0))) cM ct cv2)
set_option maxHeartbeats 4000000 in
set_option maxRecDepth 20000 in
theorem sX11_goMonth_109 {post : MM → Int64 → Prop} {q : Nat → Nat → Bool} (hq : ∀ (M : MM) (tl : Int64) (cM ct : Nat), M = dM cM → tl = i64 ct → q cM ct = true → post M tl) {bk62 : MM → Int64 → Int32 → Prop} {cbk62 : Nat → Nat → Nat → Bool} (hbk62 : ∀ (M : MM) (tl : Int64) (x0 : Int32) (cM ct cx0 : Nat), M = dM cM → tl = i64 ct → x0 = nI cx0 → cbk62 cM ct cx0 = true → bk62 M tl x0) {M : MM} {tl : Int64} {v2 : Int32} {v3 : Int32} {s0 : Int32} {cM ct cv2 cv3 cs0 : Nat} (hM : M = dM cM) (ht : tl = i64 ct) (hv2 : v2 = nI cv2) (hv3 : v3 = nI cv3) (hs0 : s0 = nI cs0) (h : eX11_goMonth_109 q cbk62 cM ct cv2 cv3 cs0 = true) : wX11_goMonth_109 post bk62 M tl v2 v3 s0 := by
  unfold wX11_goMonth_109
  unfold eX11_goMonth_109 at h
  refine spX11_isEven (fun r3 M1 t2 cr3 cM1 ct2 hr3 hM1 ht2 h => ?_) hM ht hv2 h
  refine e_ite (c_eq hr3 (rfl : (0 : Int32) = nI 0)) h (fun h => ?_) (fun h => ?_)
  · refine e_ite (c_eq hs0 (rfl : (0 : Int32) = nI 0)) h (fun h => ?_) (fun h => ?_)
    · refine e_and (k_in hv2 (r_al (rfl : (101 : Nat) = 101))) h (fun h => ?_)
      refine e_ite (c_eq (r_rd hM1 (rfl : (101 : Nat) = 101) (r_nat hv2)) (rfl : (0 : Int32) = nI 0)) h (fun h => ?_) (fun h => ?_)
      · exact sX11_goMonth_222 hq hbk62 hM1 ht2 hv2 hs0 h
      · refine e_and (k_in hv2 (r_al (rfl : (99 : Nat) = 99))) h (fun h => ?_)
        refine e_ite (c_eq (r_sub (rfl : (1 : Int32) = nI 1) (r_rd hM1 (rfl : (99 : Nat) = 99) (r_nat hv2))) (rfl : (0 : Int32) = nI 0)) h (fun h => ?_) (fun h => ?_)
        · exact sX11_goMonth_156 hq hbk62 hM1 ht2 hv2 hv3 hs0 (r_sub (rfl : (1 : Int32) = nI 1) (r_rd hM1 (rfl : (99 : Nat) = 99) (r_nat hv2))) hv2 h
        · exact sX11_goMonth_156 hq hbk62 hM1 ht2 hv2 hv3 hs0 (r_sub (rfl : (1 : Int32) = nI 1) (r_rd hM1 (rfl : (99 : Nat) = 99) (r_nat hv2))) (r_add (rfl : (8 : Int32) = nI 8) hv3) h
    · exact sX11_goMonth_222 hq hbk62 hM1 ht2 hv2 hs0 h
  · exact sX11_goMonth_222 hq hbk62 hM1 ht2 hv2 hs0 h
noncomputable def eX11_goMonth_104 (q : Nat → Nat → Bool) (cbk62 : Nat → Nat → Nat → Bool) (cM ct cv2 cv3 : Nat) : Bool :=
  (eX11_goMonth_109 q cbk62 cM ct cv2 cv3 1)
set_option maxHeartbeats 4000000 in
set_option maxRecDepth 20000 in
theorem sX11_goMonth_104 {post : MM → Int64 → Prop} {q : Nat → Nat → Bool} (hq : ∀ (M : MM) (tl : Int64) (cM ct : Nat), M = dM cM → tl = i64 ct → q cM ct = true → post M tl) {bk62 : MM → Int64 → Int32 → Prop} {cbk62 : Nat → Nat → Nat → Bool} (hbk62 : ∀ (M : MM) (tl : Int64) (x0 : Int32) (cM ct cx0 : Nat), M = dM cM → tl = i64 ct → x0 = nI cx0 → cbk62 cM ct cx0 = true → bk62 M tl x0) {M : MM} {tl : Int64} {v2 : Int32} {v3 : Int32} {cM ct cv2 cv3 : Nat} (hM : M = dM cM) (ht : tl = i64 ct) (hv2 : v2 = nI cv2) (hv3 : v3 = nI cv3) (h : eX11_goMonth_104 q cbk62 cM ct cv2 cv3 = true) : wX11_goMonth_104 post bk62 M tl v2 v3 := by
  unfold wX11_goMonth_104
  unfold eX11_goMonth_104 at h
  exact sX11_goMonth_109 hq hbk62 hM ht hv2 hv3 (rfl : (1 : Int32) = nI 1) h
noncomputable def eX11_goMonth_108 (q : Nat → Nat → Bool) (cbk62 : Nat → Nat → Nat → Bool) (cM ct cv2 cv3 : Nat) : Bool :=
  (eX11_goMonth_109 q cbk62 cM ct cv2 cv3 0)
set_option maxHeartbeats 4000000 in
set_option maxRecDepth 20000 in
theorem sX11_goMonth_108 {post : MM → Int64 → Prop} {q : Nat → Nat → Bool} (hq : ∀ (M : MM) (tl : Int64) (cM ct : Nat), M = dM cM → tl = i64 ct → q cM ct = true → post M tl) {bk62 : MM → Int64 → Int32 → Prop} {cbk62 : Nat → Nat → Nat → Bool} (hbk62 : ∀ (M : MM) (tl : Int64) (x0 : Int32) (cM ct cx0 : Nat), M = dM cM → tl = i64 ct → x0 = nI cx0 → cbk62 cM ct cx0 = true → bk62 M tl x0) {M : MM} {tl : Int64} {v2 : Int32} {v3 : Int32} {cM ct cv2 cv3 : Nat} (hM : M = dM cM) (ht : tl = i64 ct) (hv2 : v2 = nI cv2) (hv3 : v3 = nI cv3) (h : eX11_goMonth_108 q cbk62 cM ct cv2 cv3 = true) : wX11_goMonth_108 post bk62 M tl v2 v3 := by
  unfold wX11_goMonth_108
  unfold eX11_goMonth_108 at h
  exact sX11_goMonth_109 hq hbk62 hM ht hv2 hv3 (rfl : (0 : Int32) = nI 0) h
noncomputable def eX11_goMonth_62 (q : Nat → Nat → Bool) (n : Nat) : Nat → Nat → Nat → Bool :=
  @Nat.rec (fun _ => Nat → Nat → Nat → Bool) (fun _ _ _ => false) (fun _ ih cM ct cv2 => (@Bool.rec (fun _ => Bool) (epX11_matchOf (fun cr3 cM1 ct2 => (@Bool.rec (fun _ => Bool) (@Bool.rec (fun _ => Bool) false (@Bool.rec (fun _ => Bool) (eX11_goMonth_104 q ih cM1 ct2 cv2 cr3) (@Bool.rec (fun _ => Bool) false (@Bool.rec (fun _ => Bool) (eX11_goMonth_104 q ih cM1 ct2 cv2 cr3) (eX11_goMonth_108 q ih cM1 ct2 cv2 cr3) (eqN (rd cM1 100 (tN (aN 8 cr3))) 0)) (inN (aN 8 cr3) (alF 100))) (eqN (rd cM1 100 (tN cv2)) 0)) (inN cv2 (alF 100))) (eX11_goMonth_108 q ih cM1 ct2 cv2 cr3) (eqN cr3 4294967292))) cM ct 0 cv2) (q cM ct) (leN (rd cM 81 2) cv2))) n
set_option maxHeartbeats 4000000 in
set_option maxRecDepth 20000 in
theorem sX11_goMonth_62 {post : MM → Int64 → Prop} {q : Nat → Nat → Bool} (hq : ∀ (M : MM) (tl : Int64) (cM ct : Nat), M = dM cM → tl = i64 ct → q cM ct = true → post M tl) : ∀ (n : Nat) (M : MM) (tl : Int64) (v2 : Int32) (cM ct cv2 : Nat), M = dM cM → tl = i64 ct → v2 = nI cv2 → eX11_goMonth_62 q  n cM ct cv2 = true → wX11_goMonth_62 post  n M tl v2 := by
  intro n
  induction n with
  | zero => intro M tl v2 cM ct cv2 hM ht hv2 h; exact Bool.noConfusion h
  | succ n ih =>
    intro M tl v2 cM ct cv2 hM ht hv2 h
    unfold wX11_goMonth_62
    refine e_ite (c_le (r_rd hM (rfl : (81 : Nat) = 81) (rfl : (2 : Nat) = 2)) hv2) h (fun h => ?_) (fun h => ?_)
    · exact hq _ _ _ _ hM ht h
    · refine spX11_matchOf (fun r3 M1 t2 cr3 cM1 ct2 hr3 hM1 ht2 h => ?_) hM ht (rfl : (0 : Int32) = nI 0) hv2 h
      refine e_ite (c_eq hr3 lm4) h (fun h => ?_) (fun h => ?_)
      · exact sX11_goMonth_108 hq ih hM1 ht2 hv2 hr3 h
      · refine e_and (k_in hv2 (r_al (rfl : (100 : Nat) = 100))) h (fun h => ?_)
        refine e_ite (c_eq (r_rd hM1 (rfl : (100 : Nat) = 100) (r_nat hv2)) (rfl : (0 : Int32) = nI 0)) h (fun h => ?_) (fun h => ?_)
        · refine e_and (k_in (r_add (rfl : (8 : Int32) = nI 8) hr3) (r_al (rfl : (100 : Nat) = 100))) h (fun h => ?_)
          refine e_ite (c_eq (r_rd hM1 (rfl : (100 : Nat) = 100) (r_nat (r_add (rfl : (8 : Int32) = nI 8) hr3))) (rfl : (0 : Int32) = nI 0)) h (fun h => ?_) (fun h => ?_)
          · exact sX11_goMonth_108 hq ih hM1 ht2 hv2 hr3 h
          · exact sX11_goMonth_104 hq ih hM1 ht2 hv2 hr3 h
        · exact sX11_goMonth_104 hq ih hM1 ht2 hv2 hr3 h
noncomputable def eX11_goMonth_23 (q : Nat → Nat → Bool) (n : Nat) : Nat → Nat → Nat → Nat → Bool :=
  @Nat.rec (fun _ => Nat → Nat → Nat → Nat → Bool) (fun _ _ _ _ => false) (fun _ ih cM ct cv1 cv2 => (@Bool.rec (fun _ => Bool) false (@Bool.rec (fun _ => Bool) (@Bool.rec (fun _ => Bool) false (@Bool.rec (fun _ => Bool) (eX11_goMonth_54 q ih cM ct cv1 cv2) (epX11_works (fun cM3 ct4 => (eX11_goMonth_54 q ih cM3 ct4 cv1 cv2)) cM ct cv2) (eqN (rd cM 82 (tN (aN 17 (mN 4 cv2)))) cv1)) (inN (aN 17 (mN 4 cv2)) (alF 82))) (eX11_goMonth_62 q  5000 cM ct 0) (leN (rd cM 82 (tN 16)) cv2)) (inN 16 (alF 82)))) n
set_option maxHeartbeats 4000000 in
set_option maxRecDepth 20000 in
theorem sX11_goMonth_23 {post : MM → Int64 → Prop} {q : Nat → Nat → Bool} (hq : ∀ (M : MM) (tl : Int64) (cM ct : Nat), M = dM cM → tl = i64 ct → q cM ct = true → post M tl) : ∀ (n : Nat) (M : MM) (tl : Int64) (v1 : Int32) (v2 : Int32) (cM ct cv1 cv2 : Nat), M = dM cM → tl = i64 ct → v1 = nI cv1 → v2 = nI cv2 → eX11_goMonth_23 q  n cM ct cv1 cv2 = true → wX11_goMonth_23 post  n M tl v1 v2 := by
  intro n
  induction n with
  | zero => intro M tl v1 v2 cM ct cv1 cv2 hM ht hv1 hv2 h; exact Bool.noConfusion h
  | succ n ih =>
    intro M tl v1 v2 cM ct cv1 cv2 hM ht hv1 hv2 h
    unfold wX11_goMonth_23
    have h : (@Bool.rec (fun _ => Bool) false (@Bool.rec (fun _ => Bool) (@Bool.rec (fun _ => Bool) false (@Bool.rec (fun _ => Bool) (eX11_goMonth_54 q (eX11_goMonth_23 q  n) cM ct cv1 cv2) (epX11_works (fun cM3 ct4 => (eX11_goMonth_54 q (eX11_goMonth_23 q  n) cM3 ct4 cv1 cv2)) cM ct cv2) (eqN (rd cM 82 (tN (aN 17 (mN 4 cv2)))) cv1)) (inN (aN 17 (mN 4 cv2)) (alF 82))) (eX11_goMonth_62 q  5000 cM ct 0) (leN (rd cM 82 (tN 16)) cv2)) (inN 16 (alF 82))) = true := h
    refine e_and (k_in (rfl : (16 : Int32) = nI 16) (r_al (rfl : (82 : Nat) = 82))) h (fun h => ?_)
    refine e_ite (c_le (r_rd hM (rfl : (82 : Nat) = 82) (r_nat (rfl : (16 : Int32) = nI 16))) hv2) h (fun h => ?_) (fun h => ?_)
    · exact ⟨5000, sX11_goMonth_62 hq  5000 _ _ _ _ _ _ hM ht (rfl : (0 : Int32) = nI 0) h⟩
    · refine e_and (k_in (r_add (rfl : (17 : Int32) = nI 17) (r_mul (rfl : (4 : Int32) = nI 4) hv2)) (r_al (rfl : (82 : Nat) = 82))) h (fun h => ?_)
      refine e_ite (c_eq (r_rd hM (rfl : (82 : Nat) = 82) (r_nat (r_add (rfl : (17 : Int32) = nI 17) (r_mul (rfl : (4 : Int32) = nI 4) hv2)))) hv1) h (fun h => ?_) (fun h => ?_)
      · refine spX11_works (fun M3 t4 cM3 ct4 hM3 ht4 h => ?_) hM ht hv2 h
        exact sX11_goMonth_54 hq ih hM3 ht4 hv1 hv2 h
      · exact sX11_goMonth_54 hq ih hM ht hv1 hv2 h
noncomputable def eX11_goMonth_2 (q : Nat → Nat → Bool) (n : Nat) : Nat → Nat → Nat → Nat → Bool :=
  @Nat.rec (fun _ => Nat → Nat → Nat → Nat → Bool) (fun _ _ _ _ => false) (fun _ ih cM ct cv1 cv2 => (@Bool.rec (fun _ => Bool) (@Bool.rec (fun _ => Bool) false (wrB (fun cM2 => (ih cM2 ct cv1 (aN cv2 1))) cM 100 (tN cv2) (b1 (vp_nar .boolean) 0)) (inN cv2 (alF 100))) (eX11_goMonth_23 q  5000 cM ct cv1 0) (leN 16 cv2))) n
set_option maxHeartbeats 4000000 in
set_option maxRecDepth 20000 in
theorem sX11_goMonth_2 {post : MM → Int64 → Prop} {q : Nat → Nat → Bool} (hq : ∀ (M : MM) (tl : Int64) (cM ct : Nat), M = dM cM → tl = i64 ct → q cM ct = true → post M tl) : ∀ (n : Nat) (M : MM) (tl : Int64) (v1 : Int32) (v2 : Int32) (cM ct cv1 cv2 : Nat), M = dM cM → tl = i64 ct → v1 = nI cv1 → v2 = nI cv2 → eX11_goMonth_2 q  n cM ct cv1 cv2 = true → wX11_goMonth_2 post  n M tl v1 v2 := by
  intro n
  induction n with
  | zero => intro M tl v1 v2 cM ct cv1 cv2 hM ht hv1 hv2 h; exact Bool.noConfusion h
  | succ n ih =>
    intro M tl v1 v2 cM ct cv1 cv2 hM ht hv1 hv2 h
    unfold wX11_goMonth_2
    refine e_ite (c_le (rfl : (16 : Int32) = nI 16) hv2) h (fun h => ?_) (fun h => ?_)
    · exact ⟨5000, sX11_goMonth_23 hq  5000 _ _ _ _ _ _ _ _ hM ht hv1 (rfl : (0 : Int32) = nI 0) h⟩
    · refine e_and (k_in hv2 (r_al (rfl : (100 : Nat) = 100))) h (fun h => ?_)
      refine e_wr h hM (rfl : (100 : Nat) = 100) (r_nat hv2) (r_b1 (vp_nar .boolean) (rfl : (0 : Int32) = nI 0)) (fun M2 cM2 hM2 h => ?_)
      exact ih _ _ _ _ _ _ _ _ hM2 ht hv1 (r_add hv2 (rfl : (1 : Int32) = nI 1)) h
noncomputable def epX11_goMonth (q : Nat → Nat → Bool) (cM ct cv1 : Nat) : Bool :=
  (eX11_goMonth_2 q  5000 cM ct cv1 0)
set_option maxHeartbeats 4000000 in
set_option maxRecDepth 20000 in
theorem spX11_goMonth {post : MM → Int64 → Prop} {q : Nat → Nat → Bool} (hq : ∀ (M : MM) (tl : Int64) (cM ct : Nat), M = dM cM → tl = i64 ct → q cM ct = true → post M tl) {M : MM} {tl : Int64} {v1 : Int32} {cM ct cv1 : Nat} (hM : M = dM cM) (ht : tl = i64 ct) (hv1 : v1 = nI cv1) (h : epX11_goMonth q  cM ct cv1 = true) : wpX11_goMonth post  M tl v1 := by
  unfold wpX11_goMonth
  unfold epX11_goMonth at h
  exact ⟨5000, sX11_goMonth_2 hq  5000 _ _ _ _ _ _ _ _ hM ht hv1 (rfl : (0 : Int32) = nI 0) h⟩
noncomputable def eX11_goRun_6 (q : Nat → Nat → Bool) (n : Nat) : Nat → Nat → Nat → Nat → Bool :=
  @Nat.rec (fun _ => Nat → Nat → Nat → Nat → Bool) (fun _ _ _ _ => false) (fun _ ih cM ct cv1 cv2 => (@Bool.rec (fun _ => Bool) (epX11_goMonth (fun cM1 ct2 => (ih cM1 ct2 cv1 (aN cv2 1))) cM ct cv2) (q cM ct) (leN cv1 cv2))) n
set_option maxHeartbeats 4000000 in
set_option maxRecDepth 20000 in
theorem sX11_goRun_6 {post : MM → Int64 → Prop} {q : Nat → Nat → Bool} (hq : ∀ (M : MM) (tl : Int64) (cM ct : Nat), M = dM cM → tl = i64 ct → q cM ct = true → post M tl) : ∀ (n : Nat) (M : MM) (tl : Int64) (v1 : Int32) (v2 : Int32) (cM ct cv1 cv2 : Nat), M = dM cM → tl = i64 ct → v1 = nI cv1 → v2 = nI cv2 → eX11_goRun_6 q  n cM ct cv1 cv2 = true → wX11_goRun_6 post  n M tl v1 v2 := by
  intro n
  induction n with
  | zero => intro M tl v1 v2 cM ct cv1 cv2 hM ht hv1 hv2 h; exact Bool.noConfusion h
  | succ n ih =>
    intro M tl v1 v2 cM ct cv1 cv2 hM ht hv1 hv2 h
    unfold wX11_goRun_6
    refine e_ite (c_le hv1 hv2) h (fun h => ?_) (fun h => ?_)
    · exact hq _ _ _ _ hM ht h
    · refine spX11_goMonth (fun M1 t2 cM1 ct2 hM1 ht2 h => ?_) hM ht hv2 h
      exact ih _ _ _ _ _ _ _ _ hM1 ht2 hv1 (r_add hv2 (rfl : (1 : Int32) = nI 1)) h
noncomputable def epX11_goRun (q : Nat → Nat → Bool) (cM ct cv1 : Nat) : Bool :=
  (epX11_startRun (fun cM1 ct2 => (eX11_goRun_6 q  5000 cM1 ct2 cv1 0)) cM ct)
set_option maxHeartbeats 4000000 in
set_option maxRecDepth 20000 in
theorem spX11_goRun {post : MM → Int64 → Prop} {q : Nat → Nat → Bool} (hq : ∀ (M : MM) (tl : Int64) (cM ct : Nat), M = dM cM → tl = i64 ct → q cM ct = true → post M tl) {M : MM} {tl : Int64} {v1 : Int32} {cM ct cv1 : Nat} (hM : M = dM cM) (ht : tl = i64 ct) (hv1 : v1 = nI cv1) (h : epX11_goRun q  cM ct cv1 = true) : wpX11_goRun post  M tl v1 := by
  unfold wpX11_goRun
  unfold epX11_goRun at h
  refine spX11_startRun (fun M1 t2 cM1 ct2 hM1 ht2 h => ?_) hM ht h
  exact ⟨5000, sX11_goRun_6 hq  5000 _ _ _ _ _ _ _ _ hM1 ht2 hv1 (rfl : (0 : Int32) = nI 0) h⟩
noncomputable def epX11_isMany (q : Nat → Nat → Nat → Bool) (cM ct cv0 : Nat) : Bool :=
  (epX11_in (fun cr3 cM1 ct2 => (@Bool.rec (fun _ => Bool) false (q cr3 cM1 ct2) (Nat.ble cr3 1))) cM ct (xN cv0) 0 24)
set_option maxHeartbeats 4000000 in
set_option maxRecDepth 20000 in
theorem spX11_isMany {post : Int32 → MM → Int64 → Prop} {q : Nat → Nat → Nat → Bool} (hq : ∀ (r : Int32) (M : MM) (tl : Int64) (cr cM ct : Nat), r = nI cr → M = dM cM → tl = i64 ct → q cr cM ct = true → post r M tl) {M : MM} {tl : Int64} {v0 : Int32} {cM ct cv0 : Nat} (hM : M = dM cM) (ht : tl = i64 ct) (hv0 : v0 = nI cv0) (h : epX11_isMany q  cM ct cv0 = true) : wpX11_isMany post  M tl v0 := by
  unfold wpX11_isMany
  unfold epX11_isMany at h
  refine spX11_in (fun r3 M1 t2 cr3 cM1 ct2 hr3 hM1 ht2 h => ?_) hM ht (r_ext hv0) (rfl : (0 : Int64) = i64 0) (rfl : (24 : Int64) = i64 24) h
  refine e_and (k_nar hr3) h (fun h => ?_)
  exact hq _ _ _ _ _ _ hr3 hM1 ht2 h
noncomputable def epX11_after (q : Nat → Nat → Nat → Bool) (cM ct cv1 cv2 cv3 : Nat) : Bool :=
  (epX11_isMany (fun cr3 cM1 ct2 => (@Bool.rec (fun _ => Bool) (epX11_isLot (fun cr6 cM4 ct5 => (@Bool.rec (fun _ => Bool) (epX11_goRun (fun cM7 ct8 => (@Bool.rec (fun _ => Bool) false (q (rd cM7 98 (tN (aN (mN 8 cv2) cv3))) cM7 ct8) (inN (aN (mN 8 cv2) cv3) (alF 98)))) cM4 ct5 cv1) (q 4294967295 cM4 ct5) (eqN cr6 0))) cM1 ct2 cv2 cv3) (q 4294967295 cM1 ct2) (eqN cr3 0))) cM ct cv1)
set_option maxHeartbeats 4000000 in
set_option maxRecDepth 20000 in
theorem spX11_after {post : Int32 → MM → Int64 → Prop} {q : Nat → Nat → Nat → Bool} (hq : ∀ (r : Int32) (M : MM) (tl : Int64) (cr cM ct : Nat), r = nI cr → M = dM cM → tl = i64 ct → q cr cM ct = true → post r M tl) {M : MM} {tl : Int64} {v1 : Int32} {v2 : Int32} {v3 : Int32} {cM ct cv1 cv2 cv3 : Nat} (hM : M = dM cM) (ht : tl = i64 ct) (hv1 : v1 = nI cv1) (hv2 : v2 = nI cv2) (hv3 : v3 = nI cv3) (h : epX11_after q  cM ct cv1 cv2 cv3 = true) : wpX11_after post  M tl v1 v2 v3 := by
  unfold wpX11_after
  unfold epX11_after at h
  refine spX11_isMany (fun r3 M1 t2 cr3 cM1 ct2 hr3 hM1 ht2 h => ?_) hM ht hv1 h
  refine e_ite (c_eq hr3 (rfl : (0 : Int32) = nI 0)) h (fun h => ?_) (fun h => ?_)
  · exact hq _ _ _ _ _ _ lm1 hM1 ht2 h
  · refine spX11_isLot (fun r6 M4 t5 cr6 cM4 ct5 hr6 hM4 ht5 h => ?_) hM1 ht2 hv2 hv3 h
    refine e_ite (c_eq hr6 (rfl : (0 : Int32) = nI 0)) h (fun h => ?_) (fun h => ?_)
    · exact hq _ _ _ _ _ _ lm1 hM4 ht5 h
    · refine spX11_goRun (fun M7 t8 cM7 ct8 hM7 ht8 h => ?_) hM4 ht5 hv1 h
      refine e_and (k_in (r_add (r_mul (rfl : (8 : Int32) = nI 8) hv2) hv3) (r_al (rfl : (98 : Nat) = 98))) h (fun h => ?_)
      exact hq _ _ _ _ _ _ (r_rd hM7 (rfl : (98 : Nat) = 98) (r_nat (r_add (r_mul (rfl : (8 : Int32) = nI 8) hv2) hv3))) hM7 ht8 h
noncomputable def epX11_paid (q : Nat → Nat → Nat → Bool) (cM ct cv1 cv2 : Nat) : Bool :=
  (epX11_isMany (fun cr3 cM1 ct2 => (@Bool.rec (fun _ => Bool) (epX11_isBank (fun cr6 cM4 ct5 => (@Bool.rec (fun _ => Bool) (epX11_goRun (fun cM7 ct8 => (@Bool.rec (fun _ => Bool) false (q (rd cM7 102 (tN cv2)) cM7 ct8) (inN cv2 (alF 102)))) cM4 ct5 cv1) (q 4294967295 cM4 ct5) (eqN cr6 0))) cM1 ct2 cv2) (q 4294967295 cM1 ct2) (eqN cr3 0))) cM ct cv1)
set_option maxHeartbeats 4000000 in
set_option maxRecDepth 20000 in
theorem spX11_paid {post : Int32 → MM → Int64 → Prop} {q : Nat → Nat → Nat → Bool} (hq : ∀ (r : Int32) (M : MM) (tl : Int64) (cr cM ct : Nat), r = nI cr → M = dM cM → tl = i64 ct → q cr cM ct = true → post r M tl) {M : MM} {tl : Int64} {v1 : Int32} {v2 : Int32} {cM ct cv1 cv2 : Nat} (hM : M = dM cM) (ht : tl = i64 ct) (hv1 : v1 = nI cv1) (hv2 : v2 = nI cv2) (h : epX11_paid q  cM ct cv1 cv2 = true) : wpX11_paid post  M tl v1 v2 := by
  unfold wpX11_paid
  unfold epX11_paid at h
  refine spX11_isMany (fun r3 M1 t2 cr3 cM1 ct2 hr3 hM1 ht2 h => ?_) hM ht hv1 h
  refine e_ite (c_eq hr3 (rfl : (0 : Int32) = nI 0)) h (fun h => ?_) (fun h => ?_)
  · exact hq _ _ _ _ _ _ lm1 hM1 ht2 h
  · refine spX11_isBank (fun r6 M4 t5 cr6 cM4 ct5 hr6 hM4 ht5 h => ?_) hM1 ht2 hv2 h
    refine e_ite (c_eq hr6 (rfl : (0 : Int32) = nI 0)) h (fun h => ?_) (fun h => ?_)
    · exact hq _ _ _ _ _ _ lm1 hM4 ht5 h
    · refine spX11_goRun (fun M7 t8 cM7 ct8 hM7 ht8 h => ?_) hM4 ht5 hv1 h
      refine e_and (k_in hv2 (r_al (rfl : (102 : Nat) = 102))) h (fun h => ?_)
      exact hq _ _ _ _ _ _ (r_rd hM7 (rfl : (102 : Nat) = 102) (r_nat hv2)) hM7 ht8 h
noncomputable def eX11_owes_78 (q : Nat → Nat → Nat → Bool) (cbk26 : Nat → Nat → Nat → Nat → Nat → Bool) (cM ct cv2 cv3 cv4 : Nat) : Bool :=
  (cbk26 cM ct cv2 cv3 (aN cv4 1))
set_option maxHeartbeats 4000000 in
set_option maxRecDepth 20000 in
theorem sX11_owes_78 {post : Int32 → MM → Int64 → Prop} {q : Nat → Nat → Nat → Bool} (hq : ∀ (r : Int32) (M : MM) (tl : Int64) (cr cM ct : Nat), r = nI cr → M = dM cM → tl = i64 ct → q cr cM ct = true → post r M tl) {bk26 : MM → Int64 → Int32 → Int32 → Int32 → Prop} {cbk26 : Nat → Nat → Nat → Nat → Nat → Bool} (hbk26 : ∀ (M : MM) (tl : Int64) (x0 : Int32) (x1 : Int32) (x2 : Int32) (cM ct cx0 cx1 cx2 : Nat), M = dM cM → tl = i64 ct → x0 = nI cx0 → x1 = nI cx1 → x2 = nI cx2 → cbk26 cM ct cx0 cx1 cx2 = true → bk26 M tl x0 x1 x2) {M : MM} {tl : Int64} {v2 : Int32} {v3 : Int32} {v4 : Int32} {cM ct cv2 cv3 cv4 : Nat} (hM : M = dM cM) (ht : tl = i64 ct) (hv2 : v2 = nI cv2) (hv3 : v3 = nI cv3) (hv4 : v4 = nI cv4) (h : eX11_owes_78 q cbk26 cM ct cv2 cv3 cv4 = true) : wX11_owes_78 post bk26 M tl v2 v3 v4 := by
  unfold wX11_owes_78
  unfold eX11_owes_78 at h
  exact hbk26 _ _ _ _ _ _ _ _ _ _ hM ht hv2 hv3 (r_add hv4 (rfl : (1 : Int32) = nI 1)) h
noncomputable def eX11_owes_75 (q : Nat → Nat → Nat → Bool) (cbk26 : Nat → Nat → Nat → Nat → Nat → Bool) (cM ct cv2 cv4 cs0 cs1 cs2 : Nat) : Bool :=
  (eX11_owes_78 q cbk26 cM ct cv2 (Nat.lor cs0 (b2 f_shl cs1 cs2)) cv4)
set_option maxHeartbeats 4000000 in
set_option maxRecDepth 20000 in
theorem sX11_owes_75 {post : Int32 → MM → Int64 → Prop} {q : Nat → Nat → Nat → Bool} (hq : ∀ (r : Int32) (M : MM) (tl : Int64) (cr cM ct : Nat), r = nI cr → M = dM cM → tl = i64 ct → q cr cM ct = true → post r M tl) {bk26 : MM → Int64 → Int32 → Int32 → Int32 → Prop} {cbk26 : Nat → Nat → Nat → Nat → Nat → Bool} (hbk26 : ∀ (M : MM) (tl : Int64) (x0 : Int32) (x1 : Int32) (x2 : Int32) (cM ct cx0 cx1 cx2 : Nat), M = dM cM → tl = i64 ct → x0 = nI cx0 → x1 = nI cx1 → x2 = nI cx2 → cbk26 cM ct cx0 cx1 cx2 = true → bk26 M tl x0 x1 x2) {M : MM} {tl : Int64} {v2 : Int32} {v4 : Int32} {s0 : Int32} {s1 : Int32} {s2 : Int32} {cM ct cv2 cv4 cs0 cs1 cs2 : Nat} (hM : M = dM cM) (ht : tl = i64 ct) (hv2 : v2 = nI cv2) (hv4 : v4 = nI cv4) (hs0 : s0 = nI cs0) (hs1 : s1 = nI cs1) (hs2 : s2 = nI cs2) (h : eX11_owes_75 q cbk26 cM ct cv2 cv4 cs0 cs1 cs2 = true) : wX11_owes_75 post bk26 M tl v2 v4 s0 s1 s2 := by
  unfold wX11_owes_75
  unfold eX11_owes_75 at h
  exact sX11_owes_78 hq hbk26 hM ht hv2 (r_or hs0 (r_b2 f_shl hs1 hs2)) hv4 h
noncomputable def eX11_owes_26 (q : Nat → Nat → Nat → Bool) (n : Nat) : Nat → Nat → Nat → Nat → Nat → Bool :=
  @Nat.rec (fun _ => Nat → Nat → Nat → Nat → Nat → Bool) (fun _ _ _ _ _ => false) (fun _ ih cM ct cv2 cv3 cv4 => (@Bool.rec (fun _ => Bool) (epX11_isEven (fun cr3 cM1 ct2 => (@Bool.rec (fun _ => Bool) (eX11_owes_78 q ih cM1 ct2 cv2 cv3 cv4) (@Bool.rec (fun _ => Bool) false (@Bool.rec (fun _ => Bool) (eX11_owes_78 q ih cM1 ct2 cv2 cv3 cv4) (@Bool.rec (fun _ => Bool) (epX11_matchOf (fun cr7 cM5 ct6 => (eX11_owes_75 q ih cM5 ct6 cv2 cv4 cv3 1 cr7)) cM1 ct2 0 cv4) (eX11_owes_75 q ih cM1 ct2 cv2 cv4 cv3 1 cv4) (eqN cv2 0)) (eqN (rd cM1 99 (tN cv4)) (sN 1 cv2))) (inN cv4 (alF 99))) (eqN cr3 0))) cM ct cv4) (q cv3 cM ct) (leN (rd cM 81 2) cv4))) n
set_option maxHeartbeats 4000000 in
set_option maxRecDepth 20000 in
theorem sX11_owes_26 {post : Int32 → MM → Int64 → Prop} {q : Nat → Nat → Nat → Bool} (hq : ∀ (r : Int32) (M : MM) (tl : Int64) (cr cM ct : Nat), r = nI cr → M = dM cM → tl = i64 ct → q cr cM ct = true → post r M tl) : ∀ (n : Nat) (M : MM) (tl : Int64) (v2 : Int32) (v3 : Int32) (v4 : Int32) (cM ct cv2 cv3 cv4 : Nat), M = dM cM → tl = i64 ct → v2 = nI cv2 → v3 = nI cv3 → v4 = nI cv4 → eX11_owes_26 q  n cM ct cv2 cv3 cv4 = true → wX11_owes_26 post  n M tl v2 v3 v4 := by
  intro n
  induction n with
  | zero => intro M tl v2 v3 v4 cM ct cv2 cv3 cv4 hM ht hv2 hv3 hv4 h; exact Bool.noConfusion h
  | succ n ih =>
    intro M tl v2 v3 v4 cM ct cv2 cv3 cv4 hM ht hv2 hv3 hv4 h
    unfold wX11_owes_26
    refine e_ite (c_le (r_rd hM (rfl : (81 : Nat) = 81) (rfl : (2 : Nat) = 2)) hv4) h (fun h => ?_) (fun h => ?_)
    · exact hq _ _ _ _ _ _ hv3 hM ht h
    · refine spX11_isEven (fun r3 M1 t2 cr3 cM1 ct2 hr3 hM1 ht2 h => ?_) hM ht hv4 h
      refine e_ite (c_eq hr3 (rfl : (0 : Int32) = nI 0)) h (fun h => ?_) (fun h => ?_)
      · refine e_and (k_in hv4 (r_al (rfl : (99 : Nat) = 99))) h (fun h => ?_)
        refine e_ite (c_eq (r_rd hM1 (rfl : (99 : Nat) = 99) (r_nat hv4)) (r_sub (rfl : (1 : Int32) = nI 1) hv2)) h (fun h => ?_) (fun h => ?_)
        · refine e_ite (c_eq hv2 (rfl : (0 : Int32) = nI 0)) h (fun h => ?_) (fun h => ?_)
          · exact sX11_owes_75 hq ih hM1 ht2 hv2 hv4 hv3 (rfl : (1 : Int32) = nI 1) hv4 h
          · refine spX11_matchOf (fun r7 M5 t6 cr7 cM5 ct6 hr7 hM5 ht6 h => ?_) hM1 ht2 (rfl : (0 : Int32) = nI 0) hv4 h
            exact sX11_owes_75 hq ih hM5 ht6 hv2 hv4 hv3 (rfl : (1 : Int32) = nI 1) hr7 h
        · exact sX11_owes_78 hq ih hM1 ht2 hv2 hv3 hv4 h
      · exact sX11_owes_78 hq ih hM1 ht2 hv2 hv3 hv4 h
noncomputable def epX11_owes (q : Nat → Nat → Nat → Bool) (cM ct cv1 cv2 : Nat) : Bool :=
  (epX11_isMany (fun cr3 cM1 ct2 => (@Bool.rec (fun _ => Bool) (epX11_isBank (fun cr6 cM4 ct5 => (@Bool.rec (fun _ => Bool) (epX11_goRun (fun cM7 ct8 => (eX11_owes_26 q  5000 cM7 ct8 cv2 0 0)) cM4 ct5 cv1) (q 4294967295 cM4 ct5) (eqN cr6 0))) cM1 ct2 cv2) (q 4294967295 cM1 ct2) (eqN cr3 0))) cM ct cv1)
set_option maxHeartbeats 4000000 in
set_option maxRecDepth 20000 in
theorem spX11_owes {post : Int32 → MM → Int64 → Prop} {q : Nat → Nat → Nat → Bool} (hq : ∀ (r : Int32) (M : MM) (tl : Int64) (cr cM ct : Nat), r = nI cr → M = dM cM → tl = i64 ct → q cr cM ct = true → post r M tl) {M : MM} {tl : Int64} {v1 : Int32} {v2 : Int32} {cM ct cv1 cv2 : Nat} (hM : M = dM cM) (ht : tl = i64 ct) (hv1 : v1 = nI cv1) (hv2 : v2 = nI cv2) (h : epX11_owes q  cM ct cv1 cv2 = true) : wpX11_owes post  M tl v1 v2 := by
  unfold wpX11_owes
  unfold epX11_owes at h
  refine spX11_isMany (fun r3 M1 t2 cr3 cM1 ct2 hr3 hM1 ht2 h => ?_) hM ht hv1 h
  refine e_ite (c_eq hr3 (rfl : (0 : Int32) = nI 0)) h (fun h => ?_) (fun h => ?_)
  · exact hq _ _ _ _ _ _ lm1 hM1 ht2 h
  · refine spX11_isBank (fun r6 M4 t5 cr6 cM4 ct5 hr6 hM4 ht5 h => ?_) hM1 ht2 hv2 h
    refine e_ite (c_eq hr6 (rfl : (0 : Int32) = nI 0)) h (fun h => ?_) (fun h => ?_)
    · exact hq _ _ _ _ _ _ lm1 hM4 ht5 h
    · refine spX11_goRun (fun M7 t8 cM7 ct8 hM7 ht8 h => ?_) hM4 ht5 hv1 h
      exact ⟨5000, sX11_owes_26 hq  5000 _ _ _ _ _ _ _ _ _ _ hM7 ht8 hv2 (rfl : (0 : Int32) = nI 0) (rfl : (0 : Int32) = nI 0) h⟩
noncomputable def epX11_fate (q : Nat → Nat → Nat → Bool) (cM ct cv1 : Nat) : Bool :=
  (@Bool.rec (fun _ => Bool) false (epX11_in (fun cr4 cM2 ct3 => (@Bool.rec (fun _ => Bool) (epX11_goRun (fun cM5 ct6 => (@Bool.rec (fun _ => Bool) false (q (rd cM5 103 (tN cv1)) cM5 ct6) (inN cv1 (alF 103)))) cM2 ct3 24) (q 4294967295 cM2 ct3) (eqN cr4 0))) cM ct (xN cv1) 0 (xN (sN (rd cM 82 (tN 16)) 1))) (inN 16 (alF 82)))
set_option maxHeartbeats 4000000 in
set_option maxRecDepth 20000 in
theorem spX11_fate {post : Int32 → MM → Int64 → Prop} {q : Nat → Nat → Nat → Bool} (hq : ∀ (r : Int32) (M : MM) (tl : Int64) (cr cM ct : Nat), r = nI cr → M = dM cM → tl = i64 ct → q cr cM ct = true → post r M tl) {M : MM} {tl : Int64} {v1 : Int32} {cM ct cv1 : Nat} (hM : M = dM cM) (ht : tl = i64 ct) (hv1 : v1 = nI cv1) (h : epX11_fate q  cM ct cv1 = true) : wpX11_fate post  M tl v1 := by
  unfold wpX11_fate
  unfold epX11_fate at h
  refine e_and (k_in (rfl : (16 : Int32) = nI 16) (r_al (rfl : (82 : Nat) = 82))) h (fun h => ?_)
  refine spX11_in (fun r4 M2 t3 cr4 cM2 ct3 hr4 hM2 ht3 h => ?_) hM ht (r_ext hv1) (rfl : (0 : Int64) = i64 0) (r_ext (r_sub (r_rd hM (rfl : (82 : Nat) = 82) (r_nat (rfl : (16 : Int32) = nI 16))) (rfl : (1 : Int32) = nI 1))) h
  refine e_ite (c_eq hr4 (rfl : (0 : Int32) = nI 0)) h (fun h => ?_) (fun h => ?_)
  · exact hq _ _ _ _ _ _ lm1 hM2 ht3 h
  · refine spX11_goRun (fun M5 t6 cM5 ct6 hM5 ht6 h => ?_) hM2 ht3 (rfl : (24 : Int32) = nI 24) h
    refine e_and (k_in hv1 (r_al (rfl : (103 : Nat) = 103))) h (fun h => ?_)
    exact hq _ _ _ _ _ _ (r_rd hM5 (rfl : (103 : Nat) = 103) (r_nat hv1)) hM5 ht6 h
noncomputable def eX11_uneven_41 (q : Nat → Nat → Nat → Bool) (n : Nat) : Nat → Nat → Nat → Nat → Nat → Nat → Bool :=
  @Nat.rec (fun _ => Nat → Nat → Nat → Nat → Nat → Nat → Bool) (fun _ _ _ _ _ _ => false) (fun _ ih cM ct cv1 cv2 cv3 cv4 => (@Bool.rec (fun _ => Bool) (@Bool.rec (fun _ => Bool) (q cv4 cM ct) (q cv2 cM ct) (eqN cv1 0)) (ih cM ct cv1 cv2 cv3 (aN cv4 1)) (eqN (Nat.land (b2 f_shr cv3 cv4) 1) 0))) n
set_option maxHeartbeats 4000000 in
set_option maxRecDepth 20000 in
theorem sX11_uneven_41 {post : Int32 → MM → Int64 → Prop} {q : Nat → Nat → Nat → Bool} (hq : ∀ (r : Int32) (M : MM) (tl : Int64) (cr cM ct : Nat), r = nI cr → M = dM cM → tl = i64 ct → q cr cM ct = true → post r M tl) : ∀ (n : Nat) (M : MM) (tl : Int64) (v1 : Int32) (v2 : Int32) (v3 : Int32) (v4 : Int32) (cM ct cv1 cv2 cv3 cv4 : Nat), M = dM cM → tl = i64 ct → v1 = nI cv1 → v2 = nI cv2 → v3 = nI cv3 → v4 = nI cv4 → eX11_uneven_41 q  n cM ct cv1 cv2 cv3 cv4 = true → wX11_uneven_41 post  n M tl v1 v2 v3 v4 := by
  intro n
  induction n with
  | zero => intro M tl v1 v2 v3 v4 cM ct cv1 cv2 cv3 cv4 hM ht hv1 hv2 hv3 hv4 h; exact Bool.noConfusion h
  | succ n ih =>
    intro M tl v1 v2 v3 v4 cM ct cv1 cv2 cv3 cv4 hM ht hv1 hv2 hv3 hv4 h
    unfold wX11_uneven_41
    refine e_ite (c_eq (r_and (r_b2 f_shr hv3 hv4) (rfl : (1 : Int32) = nI 1)) (rfl : (0 : Int32) = nI 0)) h (fun h => ?_) (fun h => ?_)
    · exact ih _ _ _ _ _ _ _ _ _ _ _ _ hM ht hv1 hv2 hv3 (r_add hv4 (rfl : (1 : Int32) = nI 1)) h
    · refine e_ite (c_eq hv1 (rfl : (0 : Int32) = nI 0)) h (fun h => ?_) (fun h => ?_)
      · exact hq _ _ _ _ _ _ hv2 hM ht h
      · exact hq _ _ _ _ _ _ hv4 hM ht h
noncomputable def eX11_uneven_18 (q : Nat → Nat → Nat → Bool) (n : Nat) : Nat → Nat → Nat → Nat → Bool :=
  @Nat.rec (fun _ => Nat → Nat → Nat → Nat → Bool) (fun _ _ _ _ => false) (fun _ ih cM ct cv1 cv2 => (@Bool.rec (fun _ => Bool) (epX11_goMonth (fun cM1 ct2 => (epX11_oddLots (fun cr5 cM3 ct4 => (@Bool.rec (fun _ => Bool) (eX11_uneven_41 q  5000 cM3 ct4 cv1 cv2 cr5 0) (ih cM3 ct4 cv1 (aN cv2 1)) (eqN cr5 0))) cM1 ct2)) cM ct cv2) (q 4294967292 cM ct) (leN 24 cv2))) n
set_option maxHeartbeats 4000000 in
set_option maxRecDepth 20000 in
theorem sX11_uneven_18 {post : Int32 → MM → Int64 → Prop} {q : Nat → Nat → Nat → Bool} (hq : ∀ (r : Int32) (M : MM) (tl : Int64) (cr cM ct : Nat), r = nI cr → M = dM cM → tl = i64 ct → q cr cM ct = true → post r M tl) : ∀ (n : Nat) (M : MM) (tl : Int64) (v1 : Int32) (v2 : Int32) (cM ct cv1 cv2 : Nat), M = dM cM → tl = i64 ct → v1 = nI cv1 → v2 = nI cv2 → eX11_uneven_18 q  n cM ct cv1 cv2 = true → wX11_uneven_18 post  n M tl v1 v2 := by
  intro n
  induction n with
  | zero => intro M tl v1 v2 cM ct cv1 cv2 hM ht hv1 hv2 h; exact Bool.noConfusion h
  | succ n ih =>
    intro M tl v1 v2 cM ct cv1 cv2 hM ht hv1 hv2 h
    unfold wX11_uneven_18
    refine e_ite (c_le (rfl : (24 : Int32) = nI 24) hv2) h (fun h => ?_) (fun h => ?_)
    · exact hq _ _ _ _ _ _ lm4 hM ht h
    · refine spX11_goMonth (fun M1 t2 cM1 ct2 hM1 ht2 h => ?_) hM ht hv2 h
      refine spX11_oddLots (fun r5 M3 t4 cr5 cM3 ct4 hr5 hM3 ht4 h => ?_) hM1 ht2 h
      refine e_ite (c_eq hr5 (rfl : (0 : Int32) = nI 0)) h (fun h => ?_) (fun h => ?_)
      · exact ih _ _ _ _ _ _ _ _ hM3 ht4 hv1 (r_add hv2 (rfl : (1 : Int32) = nI 1)) h
      · exact ⟨5000, sX11_uneven_41 hq  5000 _ _ _ _ _ _ _ _ _ _ _ _ hM3 ht4 hv1 hv2 hr5 (rfl : (0 : Int32) = nI 0) h⟩
noncomputable def epX11_uneven (q : Nat → Nat → Nat → Bool) (cM ct cv1 : Nat) : Bool :=
  (epX11_in (fun cr3 cM1 ct2 => (@Bool.rec (fun _ => Bool) (epX11_startRun (fun cM4 ct5 => (eX11_uneven_18 q  5000 cM4 ct5 cv1 0)) cM1 ct2) (q 4294967295 cM1 ct2) (eqN cr3 0))) cM ct (xN cv1) 0 1)
set_option maxHeartbeats 4000000 in
set_option maxRecDepth 20000 in
theorem spX11_uneven {post : Int32 → MM → Int64 → Prop} {q : Nat → Nat → Nat → Bool} (hq : ∀ (r : Int32) (M : MM) (tl : Int64) (cr cM ct : Nat), r = nI cr → M = dM cM → tl = i64 ct → q cr cM ct = true → post r M tl) {M : MM} {tl : Int64} {v1 : Int32} {cM ct cv1 : Nat} (hM : M = dM cM) (ht : tl = i64 ct) (hv1 : v1 = nI cv1) (h : epX11_uneven q  cM ct cv1 = true) : wpX11_uneven post  M tl v1 := by
  unfold wpX11_uneven
  unfold epX11_uneven at h
  refine spX11_in (fun r3 M1 t2 cr3 cM1 ct2 hr3 hM1 ht2 h => ?_) hM ht (r_ext hv1) (rfl : (0 : Int64) = i64 0) (rfl : (1 : Int64) = i64 1) h
  refine e_ite (c_eq hr3 (rfl : (0 : Int32) = nI 0)) h (fun h => ?_) (fun h => ?_)
  · exact hq _ _ _ _ _ _ lm1 hM1 ht2 h
  · refine spX11_startRun (fun M4 t5 cM4 ct5 hM4 ht5 h => ?_) hM1 ht2 h
    exact ⟨5000, sX11_uneven_18 hq  5000 _ _ _ _ _ _ _ _ hM4 ht5 hv1 (rfl : (0 : Int32) = nI 0) h⟩
noncomputable def eX11_go_36 (q : Nat → Nat → Nat → Bool) (cbk10 : Nat → Nat → Nat → Nat → Bool) (cM ct cv2 cs0 cs1 : Nat) : Bool :=
  (epX11_flag (fun cr3 cM1 ct2 => (cbk10 cM1 ct2 (aN cs0 cr3) (aN cv2 1))) cM ct cs1)
set_option maxHeartbeats 4000000 in
set_option maxRecDepth 20000 in
theorem sX11_go_36 {post : Int32 → MM → Int64 → Prop} {q : Nat → Nat → Nat → Bool} (hq : ∀ (r : Int32) (M : MM) (tl : Int64) (cr cM ct : Nat), r = nI cr → M = dM cM → tl = i64 ct → q cr cM ct = true → post r M tl) {bk10 : MM → Int64 → Int32 → Int32 → Prop} {cbk10 : Nat → Nat → Nat → Nat → Bool} (hbk10 : ∀ (M : MM) (tl : Int64) (x0 : Int32) (x1 : Int32) (cM ct cx0 cx1 : Nat), M = dM cM → tl = i64 ct → x0 = nI cx0 → x1 = nI cx1 → cbk10 cM ct cx0 cx1 = true → bk10 M tl x0 x1) {M : MM} {tl : Int64} {v2 : Int32} {s0 : Int32} {s1 : Int32} {cM ct cv2 cs0 cs1 : Nat} (hM : M = dM cM) (ht : tl = i64 ct) (hv2 : v2 = nI cv2) (hs0 : s0 = nI cs0) (hs1 : s1 = nI cs1) (h : eX11_go_36 q cbk10 cM ct cv2 cs0 cs1 = true) : wX11_go_36 post bk10 M tl v2 s0 s1 := by
  unfold wX11_go_36
  unfold eX11_go_36 at h
  refine spX11_flag (fun r3 M1 t2 cr3 cM1 ct2 hr3 hM1 ht2 h => ?_) hM ht hs1 h
  exact hbk10 _ _ _ _ _ _ _ _ hM1 ht2 (r_add hs0 hr3) (r_add hv2 (rfl : (1 : Int32) = nI 1)) h
noncomputable def eX11_go_49 (q : Nat → Nat → Nat → Bool) (n : Nat) : Nat → Nat → Nat → Nat → Bool :=
  @Nat.rec (fun _ => Nat → Nat → Nat → Nat → Bool) (fun _ _ _ _ => false) (fun _ ih cM ct cv1 cv2 => (@Bool.rec (fun _ => Bool) (@Bool.rec (fun _ => Bool) false (@Bool.rec (fun _ => Bool) false (wrB (fun cM5 => (ih cM5 ct cv1 (aN cv2 1))) cM 82 (tN cv2) (rd cM 98 (tN cv2))) (inN cv2 (alF 82))) (inN cv2 (alF 98))) (@Bool.rec (fun _ => Bool) false (wrB (fun cM2 => (q cv1 cM2 ct)) cM 82 (tN 16) 0) (inN 16 (alF 82))) (leN 16 cv2))) n
set_option maxHeartbeats 4000000 in
set_option maxRecDepth 20000 in
theorem sX11_go_49 {post : Int32 → MM → Int64 → Prop} {q : Nat → Nat → Nat → Bool} (hq : ∀ (r : Int32) (M : MM) (tl : Int64) (cr cM ct : Nat), r = nI cr → M = dM cM → tl = i64 ct → q cr cM ct = true → post r M tl) : ∀ (n : Nat) (M : MM) (tl : Int64) (v1 : Int32) (v2 : Int32) (cM ct cv1 cv2 : Nat), M = dM cM → tl = i64 ct → v1 = nI cv1 → v2 = nI cv2 → eX11_go_49 q  n cM ct cv1 cv2 = true → wX11_go_49 post  n M tl v1 v2 := by
  intro n
  induction n with
  | zero => intro M tl v1 v2 cM ct cv1 cv2 hM ht hv1 hv2 h; exact Bool.noConfusion h
  | succ n ih =>
    intro M tl v1 v2 cM ct cv1 cv2 hM ht hv1 hv2 h
    unfold wX11_go_49
    refine e_ite (c_le (rfl : (16 : Int32) = nI 16) hv2) h (fun h => ?_) (fun h => ?_)
    · refine e_and (k_in (rfl : (16 : Int32) = nI 16) (r_al (rfl : (82 : Nat) = 82))) h (fun h => ?_)
      refine e_wr h hM (rfl : (82 : Nat) = 82) (r_nat (rfl : (16 : Int32) = nI 16)) (rfl : (0 : Int32) = nI 0) (fun M2 cM2 hM2 h => ?_)
      exact hq _ _ _ _ _ _ hv1 hM2 ht h
    · refine e_and (k_in hv2 (r_al (rfl : (98 : Nat) = 98))) h (fun h => ?_)
      refine e_and (k_in hv2 (r_al (rfl : (82 : Nat) = 82))) h (fun h => ?_)
      refine e_wr h hM (rfl : (82 : Nat) = 82) (r_nat hv2) (r_rd hM (rfl : (98 : Nat) = 98) (r_nat hv2)) (fun M5 cM5 hM5 h => ?_)
      exact ih _ _ _ _ _ _ _ _ hM5 ht hv1 (r_add hv2 (rfl : (1 : Int32) = nI 1)) h
noncomputable def eX11_go_10 (q : Nat → Nat → Nat → Bool) (n : Nat) : Nat → Nat → Nat → Nat → Bool :=
  @Nat.rec (fun _ => Nat → Nat → Nat → Nat → Bool) (fun _ _ _ _ => false) (fun _ ih cM ct cv1 cv2 => (@Bool.rec (fun _ => Bool) false (@Bool.rec (fun _ => Bool) (@Bool.rec (fun _ => Bool) false (@Bool.rec (fun _ => Bool) (eX11_go_36 q ih cM ct cv2 cv1 0) (eX11_go_36 q ih cM ct cv2 cv1 1) (eqN (rd cM 103 (tN cv2)) 0)) (inN cv2 (alF 103))) (eX11_go_49 q  5000 cM ct cv1 0) (leN (rd cM 82 (tN 16)) cv2)) (inN 16 (alF 82)))) n
set_option maxHeartbeats 4000000 in
set_option maxRecDepth 20000 in
theorem sX11_go_10 {post : Int32 → MM → Int64 → Prop} {q : Nat → Nat → Nat → Bool} (hq : ∀ (r : Int32) (M : MM) (tl : Int64) (cr cM ct : Nat), r = nI cr → M = dM cM → tl = i64 ct → q cr cM ct = true → post r M tl) : ∀ (n : Nat) (M : MM) (tl : Int64) (v1 : Int32) (v2 : Int32) (cM ct cv1 cv2 : Nat), M = dM cM → tl = i64 ct → v1 = nI cv1 → v2 = nI cv2 → eX11_go_10 q  n cM ct cv1 cv2 = true → wX11_go_10 post  n M tl v1 v2 := by
  intro n
  induction n with
  | zero => intro M tl v1 v2 cM ct cv1 cv2 hM ht hv1 hv2 h; exact Bool.noConfusion h
  | succ n ih =>
    intro M tl v1 v2 cM ct cv1 cv2 hM ht hv1 hv2 h
    unfold wX11_go_10
    have h : (@Bool.rec (fun _ => Bool) false (@Bool.rec (fun _ => Bool) (@Bool.rec (fun _ => Bool) false (@Bool.rec (fun _ => Bool) (eX11_go_36 q (eX11_go_10 q  n) cM ct cv2 cv1 0) (eX11_go_36 q (eX11_go_10 q  n) cM ct cv2 cv1 1) (eqN (rd cM 103 (tN cv2)) 0)) (inN cv2 (alF 103))) (eX11_go_49 q  5000 cM ct cv1 0) (leN (rd cM 82 (tN 16)) cv2)) (inN 16 (alF 82))) = true := h
    refine e_and (k_in (rfl : (16 : Int32) = nI 16) (r_al (rfl : (82 : Nat) = 82))) h (fun h => ?_)
    refine e_ite (c_le (r_rd hM (rfl : (82 : Nat) = 82) (r_nat (rfl : (16 : Int32) = nI 16))) hv2) h (fun h => ?_) (fun h => ?_)
    · exact ⟨5000, sX11_go_49 hq  5000 _ _ _ _ _ _ _ _ hM ht hv1 (rfl : (0 : Int32) = nI 0) h⟩
    · refine e_and (k_in hv2 (r_al (rfl : (103 : Nat) = 103))) h (fun h => ?_)
      refine e_ite (c_eq (r_rd hM (rfl : (103 : Nat) = 103) (r_nat hv2)) (rfl : (0 : Int32) = nI 0)) h (fun h => ?_) (fun h => ?_)
      · exact sX11_go_36 hq ih hM ht hv2 hv1 (rfl : (1 : Int32) = nI 1) h
      · exact sX11_go_36 hq ih hM ht hv2 hv1 (rfl : (0 : Int32) = nI 0) h
noncomputable def epX11_go (q : Nat → Nat → Nat → Bool) (cM ct  : Nat) : Bool :=
  (epX11_goRun (fun cM1 ct2 => (eX11_go_10 q  5000 cM1 ct2 0 0)) cM ct 24)
set_option maxHeartbeats 4000000 in
set_option maxRecDepth 20000 in
theorem spX11_go {post : Int32 → MM → Int64 → Prop} {q : Nat → Nat → Nat → Bool} (hq : ∀ (r : Int32) (M : MM) (tl : Int64) (cr cM ct : Nat), r = nI cr → M = dM cM → tl = i64 ct → q cr cM ct = true → post r M tl) {M : MM} {tl : Int64} {cM ct  : Nat} (hM : M = dM cM) (ht : tl = i64 ct)  (h : epX11_go q  cM ct  = true) : wpX11_go post  M tl  := by
  unfold wpX11_go
  unfold epX11_go at h
  refine spX11_goRun (fun M1 t2 cM1 ct2 hM1 ht2 h => ?_) hM ht (rfl : (24 : Int32) = nI 24) h
  exact ⟨5000, sX11_go_10 hq  5000 _ _ _ _ _ _ _ _ hM1 ht2 (rfl : (0 : Int32) = nI 0) (rfl : (0 : Int32) = nI 0) h⟩
noncomputable def eX11_plot_39 (q : Nat → Nat → Nat → Bool) (cM ct cv1 cv2 cv3 cv4 cv5 cv6 cs0 cs1 : Nat) : Bool :=
  (epX11_in (fun cr3 cM1 ct2 => (@Bool.rec (fun _ => Bool) (epX11_isLot (fun cr6 cM4 ct5 => (@Bool.rec (fun _ => Bool) (epX11_isThing (fun cr9 cM7 ct8 => (@Bool.rec (fun _ => Bool) (@Bool.rec (fun _ => Bool) (@Bool.rec (fun _ => Bool) false (wrB (fun cM11 => (@Bool.rec (fun _ => Bool) false (wrB (fun cM13 => (@Bool.rec (fun _ => Bool) false (wrB (fun cM15 => (@Bool.rec (fun _ => Bool) false (wrB (fun cM17 => (@Bool.rec (fun _ => Bool) false (wrB (fun cM19 => (q (aN cv5 1) cM19 ct8)) cM17 82 (tN 16) (aN cv5 1)) (inN 16 (alF 82)))) cM15 82 (tN (aN cv6 3)) cv4) (inN (aN cv6 3) (alF 82)))) cM13 82 (tN (aN cv6 2)) cv3) (inN (aN cv6 2) (alF 82)))) cM11 82 (tN (aN cv6 1)) cv2) (inN (aN cv6 1) (alF 82)))) cM7 82 (tN cv6) cv1) (inN cv6 (alF 82))) (q 4294967293 cM7 ct8) (eqN cv5 12)) (q 4294967295 cM7 ct8) (eqN cr9 0))) cM4 ct5 cv4) (q 4294967295 cM4 ct5) (eqN cr6 0))) cM1 ct2 cv2 cv3) (q 4294967295 cM1 ct2) (eqN cr3 0))) cM ct cs0 cs1 23)
set_option maxHeartbeats 4000000 in
set_option maxRecDepth 20000 in
theorem sX11_plot_39 {post : Int32 → MM → Int64 → Prop} {q : Nat → Nat → Nat → Bool} (hq : ∀ (r : Int32) (M : MM) (tl : Int64) (cr cM ct : Nat), r = nI cr → M = dM cM → tl = i64 ct → q cr cM ct = true → post r M tl) {M : MM} {tl : Int64} {v1 : Int32} {v2 : Int32} {v3 : Int32} {v4 : Int32} {v5 : Int32} {v6 : Int32} {s0 : Int64} {s1 : Int64} {cM ct cv1 cv2 cv3 cv4 cv5 cv6 cs0 cs1 : Nat} (hM : M = dM cM) (ht : tl = i64 ct) (hv1 : v1 = nI cv1) (hv2 : v2 = nI cv2) (hv3 : v3 = nI cv3) (hv4 : v4 = nI cv4) (hv5 : v5 = nI cv5) (hv6 : v6 = nI cv6) (hs0 : s0 = i64 cs0) (hs1 : s1 = i64 cs1) (h : eX11_plot_39 q  cM ct cv1 cv2 cv3 cv4 cv5 cv6 cs0 cs1 = true) : wX11_plot_39 post  M tl v1 v2 v3 v4 v5 v6 s0 s1 := by
  unfold wX11_plot_39
  unfold eX11_plot_39 at h
  refine spX11_in (fun r3 M1 t2 cr3 cM1 ct2 hr3 hM1 ht2 h => ?_) hM ht hs0 hs1 (rfl : (23 : Int64) = i64 23) h
  refine e_ite (c_eq hr3 (rfl : (0 : Int32) = nI 0)) h (fun h => ?_) (fun h => ?_)
  · exact hq _ _ _ _ _ _ lm1 hM1 ht2 h
  · refine spX11_isLot (fun r6 M4 t5 cr6 cM4 ct5 hr6 hM4 ht5 h => ?_) hM1 ht2 hv2 hv3 h
    refine e_ite (c_eq hr6 (rfl : (0 : Int32) = nI 0)) h (fun h => ?_) (fun h => ?_)
    · exact hq _ _ _ _ _ _ lm1 hM4 ht5 h
    · refine spX11_isThing (fun r9 M7 t8 cr9 cM7 ct8 hr9 hM7 ht8 h => ?_) hM4 ht5 hv4 h
      refine e_ite (c_eq hr9 (rfl : (0 : Int32) = nI 0)) h (fun h => ?_) (fun h => ?_)
      · exact hq _ _ _ _ _ _ lm1 hM7 ht8 h
      · refine e_ite (c_eq hv5 (rfl : (12 : Int32) = nI 12)) h (fun h => ?_) (fun h => ?_)
        · exact hq _ _ _ _ _ _ lm3 hM7 ht8 h
        · refine e_and (k_in hv6 (r_al (rfl : (82 : Nat) = 82))) h (fun h => ?_)
          refine e_wr h hM7 (rfl : (82 : Nat) = 82) (r_nat hv6) hv1 (fun M11 cM11 hM11 h => ?_)
          refine e_and (k_in (r_add hv6 (rfl : (1 : Int32) = nI 1)) (r_al (rfl : (82 : Nat) = 82))) h (fun h => ?_)
          refine e_wr h hM11 (rfl : (82 : Nat) = 82) (r_nat (r_add hv6 (rfl : (1 : Int32) = nI 1))) hv2 (fun M13 cM13 hM13 h => ?_)
          refine e_and (k_in (r_add hv6 (rfl : (2 : Int32) = nI 2)) (r_al (rfl : (82 : Nat) = 82))) h (fun h => ?_)
          refine e_wr h hM13 (rfl : (82 : Nat) = 82) (r_nat (r_add hv6 (rfl : (2 : Int32) = nI 2))) hv3 (fun M15 cM15 hM15 h => ?_)
          refine e_and (k_in (r_add hv6 (rfl : (3 : Int32) = nI 3)) (r_al (rfl : (82 : Nat) = 82))) h (fun h => ?_)
          refine e_wr h hM15 (rfl : (82 : Nat) = 82) (r_nat (r_add hv6 (rfl : (3 : Int32) = nI 3))) hv4 (fun M17 cM17 hM17 h => ?_)
          refine e_and (k_in (rfl : (16 : Int32) = nI 16) (r_al (rfl : (82 : Nat) = 82))) h (fun h => ?_)
          refine e_wr h hM17 (rfl : (82 : Nat) = 82) (r_nat (rfl : (16 : Int32) = nI 16)) (r_add hv5 (rfl : (1 : Int32) = nI 1)) (fun M19 cM19 hM19 h => ?_)
          exact hq _ _ _ _ _ _ (r_add hv5 (rfl : (1 : Int32) = nI 1)) hM19 ht8 h
noncomputable def epX11_plot (q : Nat → Nat → Nat → Bool) (cM ct cv1 cv2 cv3 cv4 : Nat) : Bool :=
  (@Bool.rec (fun _ => Bool) false (@Bool.rec (fun _ => Bool) (@Bool.rec (fun _ => Bool) false (eX11_plot_39 q  cM ct cv1 cv2 cv3 cv4 (rd cM 82 (tN 16)) (aN 17 (mN 4 (rd cM 82 (tN 16)))) (xN cv1) (xN (rd cM 82 (tN (sN (aN 17 (mN 4 (rd cM 82 (tN 16)))) 4))))) (inN (sN (aN 17 (mN 4 (rd cM 82 (tN 16)))) 4) (alF 82))) (eX11_plot_39 q  cM ct cv1 cv2 cv3 cv4 (rd cM 82 (tN 16)) (aN 17 (mN 4 (rd cM 82 (tN 16)))) (xN cv1) 0) (eqN (rd cM 82 (tN 16)) 0)) (inN 16 (alF 82)))
set_option maxHeartbeats 4000000 in
set_option maxRecDepth 20000 in
theorem spX11_plot {post : Int32 → MM → Int64 → Prop} {q : Nat → Nat → Nat → Bool} (hq : ∀ (r : Int32) (M : MM) (tl : Int64) (cr cM ct : Nat), r = nI cr → M = dM cM → tl = i64 ct → q cr cM ct = true → post r M tl) {M : MM} {tl : Int64} {v1 : Int32} {v2 : Int32} {v3 : Int32} {v4 : Int32} {cM ct cv1 cv2 cv3 cv4 : Nat} (hM : M = dM cM) (ht : tl = i64 ct) (hv1 : v1 = nI cv1) (hv2 : v2 = nI cv2) (hv3 : v3 = nI cv3) (hv4 : v4 = nI cv4) (h : epX11_plot q  cM ct cv1 cv2 cv3 cv4 = true) : wpX11_plot post  M tl v1 v2 v3 v4 := by
  unfold wpX11_plot
  unfold epX11_plot at h
  refine e_and (k_in (rfl : (16 : Int32) = nI 16) (r_al (rfl : (82 : Nat) = 82))) h (fun h => ?_)
  refine e_ite (c_eq (r_rd hM (rfl : (82 : Nat) = 82) (r_nat (rfl : (16 : Int32) = nI 16))) (rfl : (0 : Int32) = nI 0)) h (fun h => ?_) (fun h => ?_)
  · exact sX11_plot_39 hq  hM ht hv1 hv2 hv3 hv4 (r_rd hM (rfl : (82 : Nat) = 82) (r_nat (rfl : (16 : Int32) = nI 16))) (r_add (rfl : (17 : Int32) = nI 17) (r_mul (rfl : (4 : Int32) = nI 4) (r_rd hM (rfl : (82 : Nat) = 82) (r_nat (rfl : (16 : Int32) = nI 16))))) (r_ext hv1) (rfl : (0 : Int64) = i64 0) h
  · refine e_and (k_in (r_sub (r_add (rfl : (17 : Int32) = nI 17) (r_mul (rfl : (4 : Int32) = nI 4) (r_rd hM (rfl : (82 : Nat) = 82) (r_nat (rfl : (16 : Int32) = nI 16))))) (rfl : (4 : Int32) = nI 4)) (r_al (rfl : (82 : Nat) = 82))) h (fun h => ?_)
    exact sX11_plot_39 hq  hM ht hv1 hv2 hv3 hv4 (r_rd hM (rfl : (82 : Nat) = 82) (r_nat (rfl : (16 : Int32) = nI 16))) (r_add (rfl : (17 : Int32) = nI 17) (r_mul (rfl : (4 : Int32) = nI 4) (r_rd hM (rfl : (82 : Nat) = 82) (r_nat (rfl : (16 : Int32) = nI 16))))) (r_ext hv1) (r_ext (r_rd hM (rfl : (82 : Nat) = 82) (r_nat (r_sub (r_add (rfl : (17 : Int32) = nI 17) (r_mul (rfl : (4 : Int32) = nI 4) (r_rd hM (rfl : (82 : Nat) = 82) (r_nat (rfl : (16 : Int32) = nI 16))))) (rfl : (4 : Int32) = nI 4))))) h
noncomputable def epX11_kindThere (q : Nat → Nat → Nat → Bool) (cM ct cv1 cv2 : Nat) : Bool :=
  (@Bool.rec (fun _ => Bool) false (q (sN (rd cM 82 (tN (aN (mN 8 cv1) cv2))) (mN (b2 f_div (rd cM 82 (tN (aN (mN 8 cv1) cv2))) 8) 8)) cM ct) (inN (aN (mN 8 cv1) cv2) (alF 82)))
set_option maxHeartbeats 4000000 in
set_option maxRecDepth 20000 in
theorem spX11_kindThere {post : Int32 → MM → Int64 → Prop} {q : Nat → Nat → Nat → Bool} (hq : ∀ (r : Int32) (M : MM) (tl : Int64) (cr cM ct : Nat), r = nI cr → M = dM cM → tl = i64 ct → q cr cM ct = true → post r M tl) {M : MM} {tl : Int64} {v1 : Int32} {v2 : Int32} {cM ct cv1 cv2 : Nat} (hM : M = dM cM) (ht : tl = i64 ct) (hv1 : v1 = nI cv1) (hv2 : v2 = nI cv2) (h : epX11_kindThere q  cM ct cv1 cv2 = true) : wpX11_kindThere post  M tl v1 v2 := by
  unfold wpX11_kindThere
  unfold epX11_kindThere at h
  refine e_and (k_in (r_add (r_mul (rfl : (8 : Int32) = nI 8) hv1) hv2) (r_al (rfl : (82 : Nat) = 82))) h (fun h => ?_)
  exact hq _ _ _ _ _ _ (r_sub (r_rd hM (rfl : (82 : Nat) = 82) (r_nat (r_add (r_mul (rfl : (8 : Int32) = nI 8) hv1) hv2))) (r_mul (r_b2 f_div (r_rd hM (rfl : (82 : Nat) = 82) (r_nat (r_add (r_mul (rfl : (8 : Int32) = nI 8) hv1) hv2))) (rfl : (8 : Int32) = nI 8)) (rfl : (8 : Int32) = nI 8))) hM ht h
noncomputable def epX11_gainOf (q : Nat → Nat → Nat → Bool) (cM ct cv1 cv2 cv3 : Nat) : Bool :=
  (@Bool.rec (fun _ => Bool) false (@Bool.rec (fun _ => Bool) false (epX11_kindThere (fun cr5 cM3 ct4 => (@Bool.rec (fun _ => Bool) false (q (sN (sN (rd cM 86 (tN (aN (mN 6 cv1) cv3))) (rd cM 85 (tN (aN (mN 6 cv1) cv3)))) (rd cM3 86 (tN (aN (mN 6 cv1) cr5)))) cM3 ct4) (inN (aN (mN 6 cv1) cr5) (alF 86)))) cM ct cv1 cv2) (inN (aN (mN 6 cv1) cv3) (alF 85))) (inN (aN (mN 6 cv1) cv3) (alF 86)))
set_option maxHeartbeats 4000000 in
set_option maxRecDepth 20000 in
theorem spX11_gainOf {post : Int32 → MM → Int64 → Prop} {q : Nat → Nat → Nat → Bool} (hq : ∀ (r : Int32) (M : MM) (tl : Int64) (cr cM ct : Nat), r = nI cr → M = dM cM → tl = i64 ct → q cr cM ct = true → post r M tl) {M : MM} {tl : Int64} {v1 : Int32} {v2 : Int32} {v3 : Int32} {cM ct cv1 cv2 cv3 : Nat} (hM : M = dM cM) (ht : tl = i64 ct) (hv1 : v1 = nI cv1) (hv2 : v2 = nI cv2) (hv3 : v3 = nI cv3) (h : epX11_gainOf q  cM ct cv1 cv2 cv3 = true) : wpX11_gainOf post  M tl v1 v2 v3 := by
  unfold wpX11_gainOf
  unfold epX11_gainOf at h
  refine e_and (k_in (r_add (r_mul (rfl : (6 : Int32) = nI 6) hv1) hv3) (r_al (rfl : (86 : Nat) = 86))) h (fun h => ?_)
  refine e_and (k_in (r_add (r_mul (rfl : (6 : Int32) = nI 6) hv1) hv3) (r_al (rfl : (85 : Nat) = 85))) h (fun h => ?_)
  refine spX11_kindThere (fun r5 M3 t4 cr5 cM3 ct4 hr5 hM3 ht4 h => ?_) hM ht hv1 hv2 h
  refine e_and (k_in (r_add (r_mul (rfl : (6 : Int32) = nI 6) hv1) hr5) (r_al (rfl : (86 : Nat) = 86))) h (fun h => ?_)
  exact hq _ _ _ _ _ _ (r_sub (r_sub (r_rd hM (rfl : (86 : Nat) = 86) (r_nat (r_add (r_mul (rfl : (6 : Int32) = nI 6) hv1) hv3))) (r_rd hM (rfl : (85 : Nat) = 85) (r_nat (r_add (r_mul (rfl : (6 : Int32) = nI 6) hv1) hv3)))) (r_rd hM3 (rfl : (86 : Nat) = 86) (r_nat (r_add (r_mul (rfl : (6 : Int32) = nI 6) hv1) hr5)))) hM3 ht4 h
noncomputable def epX11_gain (q : Nat → Nat → Nat → Bool) (cM ct cv1 cv2 cv3 : Nat) : Bool :=
  (epX11_isLot (fun cr3 cM1 ct2 => (@Bool.rec (fun _ => Bool) (epX11_in (fun cr6 cM4 ct5 => (@Bool.rec (fun _ => Bool) (epX11_gainOf (fun cr9 cM7 ct8 => (q (aN cr9 1000) cM7 ct8)) cM4 ct5 cv1 cv2 cv3) (q 4294967295 cM4 ct5) (eqN cr6 0))) cM1 ct2 (xN cv3) 1 5) (q 4294967295 cM1 ct2) (eqN cr3 0))) cM ct cv1 cv2)
set_option maxHeartbeats 4000000 in
set_option maxRecDepth 20000 in
theorem spX11_gain {post : Int32 → MM → Int64 → Prop} {q : Nat → Nat → Nat → Bool} (hq : ∀ (r : Int32) (M : MM) (tl : Int64) (cr cM ct : Nat), r = nI cr → M = dM cM → tl = i64 ct → q cr cM ct = true → post r M tl) {M : MM} {tl : Int64} {v1 : Int32} {v2 : Int32} {v3 : Int32} {cM ct cv1 cv2 cv3 : Nat} (hM : M = dM cM) (ht : tl = i64 ct) (hv1 : v1 = nI cv1) (hv2 : v2 = nI cv2) (hv3 : v3 = nI cv3) (h : epX11_gain q  cM ct cv1 cv2 cv3 = true) : wpX11_gain post  M tl v1 v2 v3 := by
  unfold wpX11_gain
  unfold epX11_gain at h
  refine spX11_isLot (fun r3 M1 t2 cr3 cM1 ct2 hr3 hM1 ht2 h => ?_) hM ht hv1 hv2 h
  refine e_ite (c_eq hr3 (rfl : (0 : Int32) = nI 0)) h (fun h => ?_) (fun h => ?_)
  · exact hq _ _ _ _ _ _ lm1 hM1 ht2 h
  · refine spX11_in (fun r6 M4 t5 cr6 cM4 ct5 hr6 hM4 ht5 h => ?_) hM1 ht2 (r_ext hv3) (rfl : (1 : Int64) = i64 1) (rfl : (5 : Int64) = i64 5) h
    refine e_ite (c_eq hr6 (rfl : (0 : Int32) = nI 0)) h (fun h => ?_) (fun h => ?_)
    · exact hq _ _ _ _ _ _ lm1 hM4 ht5 h
    · refine spX11_gainOf (fun r9 M7 t8 cr9 cM7 ct8 hr9 hM7 ht8 h => ?_) hM4 ht5 hv1 hv2 hv3 h
      exact hq _ _ _ _ _ _ (r_add hr9 (rfl : (1000 : Int32) = nI 1000)) hM7 ht8 h
noncomputable def epX11_mayBe (q : Nat → Nat → Nat → Bool) (cM ct cv1 cv2 cv3 : Nat) : Bool :=
  (epX11_doesLack (fun cr3 cM1 ct2 => (@Bool.rec (fun _ => Bool) (q 0 cM1 ct2) (epX11_matchOf (fun cr6 cM4 ct5 => (@Bool.rec (fun _ => Bool) (@Bool.rec (fun _ => Bool) false (epX11_doesLack (fun cr10 cM8 ct9 => (@Bool.rec (fun _ => Bool) (q 0 cM8 ct9) (q 1 cM8 ct9) (eqN cr10 0))) cM4 ct5 (sN 1 cv1) (rd cM4 88 (tN cv3))) (inN cv3 (alF 88))) (q 1 cM4 ct5) (eqN cr6 4294967292))) cM1 ct2 cv1 cv2) (eqN cr3 0))) cM ct cv1 cv3)
set_option maxHeartbeats 4000000 in
set_option maxRecDepth 20000 in
theorem spX11_mayBe {post : Int32 → MM → Int64 → Prop} {q : Nat → Nat → Nat → Bool} (hq : ∀ (r : Int32) (M : MM) (tl : Int64) (cr cM ct : Nat), r = nI cr → M = dM cM → tl = i64 ct → q cr cM ct = true → post r M tl) {M : MM} {tl : Int64} {v1 : Int32} {v2 : Int32} {v3 : Int32} {cM ct cv1 cv2 cv3 : Nat} (hM : M = dM cM) (ht : tl = i64 ct) (hv1 : v1 = nI cv1) (hv2 : v2 = nI cv2) (hv3 : v3 = nI cv3) (h : epX11_mayBe q  cM ct cv1 cv2 cv3 = true) : wpX11_mayBe post  M tl v1 v2 v3 := by
  unfold wpX11_mayBe
  unfold epX11_mayBe at h
  refine spX11_doesLack (fun r3 M1 t2 cr3 cM1 ct2 hr3 hM1 ht2 h => ?_) hM ht hv1 hv3 h
  refine e_ite (c_eq hr3 (rfl : (0 : Int32) = nI 0)) h (fun h => ?_) (fun h => ?_)
  · refine spX11_matchOf (fun r6 M4 t5 cr6 cM4 ct5 hr6 hM4 ht5 h => ?_) hM1 ht2 hv1 hv2 h
    refine e_ite (c_eq hr6 lm4) h (fun h => ?_) (fun h => ?_)
    · exact hq _ _ _ _ _ _ (rfl : (1 : Int32) = nI 1) hM4 ht5 h
    · refine e_and (k_in hv3 (r_al (rfl : (88 : Nat) = 88))) h (fun h => ?_)
      refine spX11_doesLack (fun r10 M8 t9 cr10 cM8 ct9 hr10 hM8 ht9 h => ?_) hM4 ht5 (r_sub (rfl : (1 : Int32) = nI 1) hv1) (r_rd hM4 (rfl : (88 : Nat) = 88) (r_nat hv3)) h
      refine e_ite (c_eq hr10 (rfl : (0 : Int32) = nI 0)) h (fun h => ?_) (fun h => ?_)
      · exact hq _ _ _ _ _ _ (rfl : (1 : Int32) = nI 1) hM8 ht9 h
      · exact hq _ _ _ _ _ _ (rfl : (0 : Int32) = nI 0) hM8 ht9 h
  · exact hq _ _ _ _ _ _ (rfl : (0 : Int32) = nI 0) hM1 ht2 h
noncomputable def eX11_beginOf_77 (q : Nat → Nat → Nat → Bool) (cbk9 : Nat → Nat → Nat → Nat → Nat → Nat → Nat → Bool) (cM ct cv1 cv2 cv3 cv5 cs0 : Nat) : Bool :=
  (cbk9 cM ct cv1 cv2 cv3 cs0 (aN cv5 1))
set_option maxHeartbeats 4000000 in
set_option maxRecDepth 20000 in
theorem sX11_beginOf_77 {post : Int32 → MM → Int64 → Prop} {q : Nat → Nat → Nat → Bool} (hq : ∀ (r : Int32) (M : MM) (tl : Int64) (cr cM ct : Nat), r = nI cr → M = dM cM → tl = i64 ct → q cr cM ct = true → post r M tl) {bk9 : MM → Int64 → Int32 → Int32 → Int32 → Int32 → Int32 → Prop} {cbk9 : Nat → Nat → Nat → Nat → Nat → Nat → Nat → Bool} (hbk9 : ∀ (M : MM) (tl : Int64) (x0 : Int32) (x1 : Int32) (x2 : Int32) (x3 : Int32) (x4 : Int32) (cM ct cx0 cx1 cx2 cx3 cx4 : Nat), M = dM cM → tl = i64 ct → x0 = nI cx0 → x1 = nI cx1 → x2 = nI cx2 → x3 = nI cx3 → x4 = nI cx4 → cbk9 cM ct cx0 cx1 cx2 cx3 cx4 = true → bk9 M tl x0 x1 x2 x3 x4) {M : MM} {tl : Int64} {v1 : Int32} {v2 : Int32} {v3 : Int32} {v5 : Int32} {s0 : Int32} {cM ct cv1 cv2 cv3 cv5 cs0 : Nat} (hM : M = dM cM) (ht : tl = i64 ct) (hv1 : v1 = nI cv1) (hv2 : v2 = nI cv2) (hv3 : v3 = nI cv3) (hv5 : v5 = nI cv5) (hs0 : s0 = nI cs0) (h : eX11_beginOf_77 q cbk9 cM ct cv1 cv2 cv3 cv5 cs0 = true) : wX11_beginOf_77 post bk9 M tl v1 v2 v3 v5 s0 := by
  unfold wX11_beginOf_77
  unfold eX11_beginOf_77 at h
  exact hbk9 _ _ _ _ _ _ _ _ _ _ _ _ _ _ hM ht hv1 hv2 hv3 hs0 (r_add hv5 (rfl : (1 : Int32) = nI 1)) h
noncomputable def eX11_beginOf_58 (q : Nat → Nat → Nat → Bool) (cbk9 : Nat → Nat → Nat → Nat → Nat → Nat → Nat → Bool) (cM ct cv1 cv2 cv4 cv5 cv6 cs0 : Nat) : Bool :=
  (@Bool.rec (fun _ => Bool) (epX11_gainOf (fun cr3 cM1 ct2 => (eX11_beginOf_77 q cbk9 cM1 ct2 cv1 cv2 cs0 cv5 cr3)) cM ct cv1 cv2 cv5) (eX11_beginOf_77 q cbk9 cM ct cv1 cv2 cs0 cv5 cv4) (eqN cv6 0))
set_option maxHeartbeats 4000000 in
set_option maxRecDepth 20000 in
theorem sX11_beginOf_58 {post : Int32 → MM → Int64 → Prop} {q : Nat → Nat → Nat → Bool} (hq : ∀ (r : Int32) (M : MM) (tl : Int64) (cr cM ct : Nat), r = nI cr → M = dM cM → tl = i64 ct → q cr cM ct = true → post r M tl) {bk9 : MM → Int64 → Int32 → Int32 → Int32 → Int32 → Int32 → Prop} {cbk9 : Nat → Nat → Nat → Nat → Nat → Nat → Nat → Bool} (hbk9 : ∀ (M : MM) (tl : Int64) (x0 : Int32) (x1 : Int32) (x2 : Int32) (x3 : Int32) (x4 : Int32) (cM ct cx0 cx1 cx2 cx3 cx4 : Nat), M = dM cM → tl = i64 ct → x0 = nI cx0 → x1 = nI cx1 → x2 = nI cx2 → x3 = nI cx3 → x4 = nI cx4 → cbk9 cM ct cx0 cx1 cx2 cx3 cx4 = true → bk9 M tl x0 x1 x2 x3 x4) {M : MM} {tl : Int64} {v1 : Int32} {v2 : Int32} {v4 : Int32} {v5 : Int32} {v6 : Int32} {s0 : Int32} {cM ct cv1 cv2 cv4 cv5 cv6 cs0 : Nat} (hM : M = dM cM) (ht : tl = i64 ct) (hv1 : v1 = nI cv1) (hv2 : v2 = nI cv2) (hv4 : v4 = nI cv4) (hv5 : v5 = nI cv5) (hv6 : v6 = nI cv6) (hs0 : s0 = nI cs0) (h : eX11_beginOf_58 q cbk9 cM ct cv1 cv2 cv4 cv5 cv6 cs0 = true) : wX11_beginOf_58 post bk9 M tl v1 v2 v4 v5 v6 s0 := by
  unfold wX11_beginOf_58
  unfold eX11_beginOf_58 at h
  refine e_ite (c_eq hv6 (rfl : (0 : Int32) = nI 0)) h (fun h => ?_) (fun h => ?_)
  · exact sX11_beginOf_77 hq hbk9 hM ht hv1 hv2 hs0 hv5 hv4 h
  · refine spX11_gainOf (fun r3 M1 t2 cr3 cM1 ct2 hr3 hM1 ht2 h => ?_) hM ht hv1 hv2 hv5 h
    exact sX11_beginOf_77 hq hbk9 hM1 ht2 hv1 hv2 hs0 hv5 hr3 h
noncomputable def eX11_beginOf_45 (q : Nat → Nat → Nat → Bool) (cbk9 : Nat → Nat → Nat → Nat → Nat → Nat → Nat → Bool) (cM ct cv1 cv2 cv3 cv4 cv5 cs0 : Nat) : Bool :=
  (@Bool.rec (fun _ => Bool) (eX11_beginOf_58 q cbk9 cM ct cv1 cv2 cv4 cv5 cs0 cv5) (eX11_beginOf_58 q cbk9 cM ct cv1 cv2 cv4 cv5 cs0 cv3) (eqN cs0 0))
set_option maxHeartbeats 4000000 in
set_option maxRecDepth 20000 in
theorem sX11_beginOf_45 {post : Int32 → MM → Int64 → Prop} {q : Nat → Nat → Nat → Bool} (hq : ∀ (r : Int32) (M : MM) (tl : Int64) (cr cM ct : Nat), r = nI cr → M = dM cM → tl = i64 ct → q cr cM ct = true → post r M tl) {bk9 : MM → Int64 → Int32 → Int32 → Int32 → Int32 → Int32 → Prop} {cbk9 : Nat → Nat → Nat → Nat → Nat → Nat → Nat → Bool} (hbk9 : ∀ (M : MM) (tl : Int64) (x0 : Int32) (x1 : Int32) (x2 : Int32) (x3 : Int32) (x4 : Int32) (cM ct cx0 cx1 cx2 cx3 cx4 : Nat), M = dM cM → tl = i64 ct → x0 = nI cx0 → x1 = nI cx1 → x2 = nI cx2 → x3 = nI cx3 → x4 = nI cx4 → cbk9 cM ct cx0 cx1 cx2 cx3 cx4 = true → bk9 M tl x0 x1 x2 x3 x4) {M : MM} {tl : Int64} {v1 : Int32} {v2 : Int32} {v3 : Int32} {v4 : Int32} {v5 : Int32} {s0 : Int32} {cM ct cv1 cv2 cv3 cv4 cv5 cs0 : Nat} (hM : M = dM cM) (ht : tl = i64 ct) (hv1 : v1 = nI cv1) (hv2 : v2 = nI cv2) (hv3 : v3 = nI cv3) (hv4 : v4 = nI cv4) (hv5 : v5 = nI cv5) (hs0 : s0 = nI cs0) (h : eX11_beginOf_45 q cbk9 cM ct cv1 cv2 cv3 cv4 cv5 cs0 = true) : wX11_beginOf_45 post bk9 M tl v1 v2 v3 v4 v5 s0 := by
  unfold wX11_beginOf_45
  unfold eX11_beginOf_45 at h
  refine e_ite (c_eq hs0 (rfl : (0 : Int32) = nI 0)) h (fun h => ?_) (fun h => ?_)
  · exact sX11_beginOf_58 hq hbk9 hM ht hv1 hv2 hv4 hv5 hs0 hv3 h
  · exact sX11_beginOf_58 hq hbk9 hM ht hv1 hv2 hv4 hv5 hs0 hv5 h
noncomputable def eX11_beginOf_44 (q : Nat → Nat → Nat → Bool) (cbk9 : Nat → Nat → Nat → Nat → Nat → Nat → Nat → Bool) (cM ct cv1 cv2 cv3 cv4 cv5 : Nat) : Bool :=
  (eX11_beginOf_45 q cbk9 cM ct cv1 cv2 cv3 cv4 cv5 0)
set_option maxHeartbeats 4000000 in
set_option maxRecDepth 20000 in
theorem sX11_beginOf_44 {post : Int32 → MM → Int64 → Prop} {q : Nat → Nat → Nat → Bool} (hq : ∀ (r : Int32) (M : MM) (tl : Int64) (cr cM ct : Nat), r = nI cr → M = dM cM → tl = i64 ct → q cr cM ct = true → post r M tl) {bk9 : MM → Int64 → Int32 → Int32 → Int32 → Int32 → Int32 → Prop} {cbk9 : Nat → Nat → Nat → Nat → Nat → Nat → Nat → Bool} (hbk9 : ∀ (M : MM) (tl : Int64) (x0 : Int32) (x1 : Int32) (x2 : Int32) (x3 : Int32) (x4 : Int32) (cM ct cx0 cx1 cx2 cx3 cx4 : Nat), M = dM cM → tl = i64 ct → x0 = nI cx0 → x1 = nI cx1 → x2 = nI cx2 → x3 = nI cx3 → x4 = nI cx4 → cbk9 cM ct cx0 cx1 cx2 cx3 cx4 = true → bk9 M tl x0 x1 x2 x3 x4) {M : MM} {tl : Int64} {v1 : Int32} {v2 : Int32} {v3 : Int32} {v4 : Int32} {v5 : Int32} {cM ct cv1 cv2 cv3 cv4 cv5 : Nat} (hM : M = dM cM) (ht : tl = i64 ct) (hv1 : v1 = nI cv1) (hv2 : v2 = nI cv2) (hv3 : v3 = nI cv3) (hv4 : v4 = nI cv4) (hv5 : v5 = nI cv5) (h : eX11_beginOf_44 q cbk9 cM ct cv1 cv2 cv3 cv4 cv5 = true) : wX11_beginOf_44 post bk9 M tl v1 v2 v3 v4 v5 := by
  unfold wX11_beginOf_44
  unfold eX11_beginOf_44 at h
  exact sX11_beginOf_45 hq hbk9 hM ht hv1 hv2 hv3 hv4 hv5 (rfl : (0 : Int32) = nI 0) h
noncomputable def eX11_beginOf_9 (q : Nat → Nat → Nat → Bool) (n : Nat) : Nat → Nat → Nat → Nat → Nat → Nat → Nat → Bool :=
  @Nat.rec (fun _ => Nat → Nat → Nat → Nat → Nat → Nat → Nat → Bool) (fun _ _ _ _ _ _ _ => false) (fun _ ih cM ct cv1 cv2 cv3 cv4 cv5 => (@Bool.rec (fun _ => Bool) (epX11_mayBe (fun cr3 cM1 ct2 => (@Bool.rec (fun _ => Bool) (epX11_gainOf (fun cr6 cM4 ct5 => (@Bool.rec (fun _ => Bool) (eX11_beginOf_45 q ih cM4 ct5 cv1 cv2 cv3 cv4 cv5 1) (eX11_beginOf_44 q ih cM4 ct5 cv1 cv2 cv3 cv4 cv5) (leN cr6 cv4))) cM1 ct2 cv1 cv2 cv5) (eX11_beginOf_44 q ih cM1 ct2 cv1 cv2 cv3 cv4 cv5) (eqN cr3 0))) cM ct cv1 cv2 cv5) (q cv3 cM ct) (leN 6 cv5))) n
set_option maxHeartbeats 4000000 in
set_option maxRecDepth 20000 in
theorem sX11_beginOf_9 {post : Int32 → MM → Int64 → Prop} {q : Nat → Nat → Nat → Bool} (hq : ∀ (r : Int32) (M : MM) (tl : Int64) (cr cM ct : Nat), r = nI cr → M = dM cM → tl = i64 ct → q cr cM ct = true → post r M tl) : ∀ (n : Nat) (M : MM) (tl : Int64) (v1 : Int32) (v2 : Int32) (v3 : Int32) (v4 : Int32) (v5 : Int32) (cM ct cv1 cv2 cv3 cv4 cv5 : Nat), M = dM cM → tl = i64 ct → v1 = nI cv1 → v2 = nI cv2 → v3 = nI cv3 → v4 = nI cv4 → v5 = nI cv5 → eX11_beginOf_9 q  n cM ct cv1 cv2 cv3 cv4 cv5 = true → wX11_beginOf_9 post  n M tl v1 v2 v3 v4 v5 := by
  intro n
  induction n with
  | zero => intro M tl v1 v2 v3 v4 v5 cM ct cv1 cv2 cv3 cv4 cv5 hM ht hv1 hv2 hv3 hv4 hv5 h; exact Bool.noConfusion h
  | succ n ih =>
    intro M tl v1 v2 v3 v4 v5 cM ct cv1 cv2 cv3 cv4 cv5 hM ht hv1 hv2 hv3 hv4 hv5 h
    unfold wX11_beginOf_9
    refine e_ite (c_le (rfl : (6 : Int32) = nI 6) hv5) h (fun h => ?_) (fun h => ?_)
    · exact hq _ _ _ _ _ _ hv3 hM ht h
    · refine spX11_mayBe (fun r3 M1 t2 cr3 cM1 ct2 hr3 hM1 ht2 h => ?_) hM ht hv1 hv2 hv5 h
      refine e_ite (c_eq hr3 (rfl : (0 : Int32) = nI 0)) h (fun h => ?_) (fun h => ?_)
      · exact sX11_beginOf_44 hq ih hM1 ht2 hv1 hv2 hv3 hv4 hv5 h
      · refine spX11_gainOf (fun r6 M4 t5 cr6 cM4 ct5 hr6 hM4 ht5 h => ?_) hM1 ht2 hv1 hv2 hv5 h
        refine e_ite (c_le hr6 hv4) h (fun h => ?_) (fun h => ?_)
        · exact sX11_beginOf_44 hq ih hM4 ht5 hv1 hv2 hv3 hv4 hv5 h
        · exact sX11_beginOf_45 hq ih hM4 ht5 hv1 hv2 hv3 hv4 hv5 (rfl : (1 : Int32) = nI 1) h
noncomputable def epX11_beginOf (q : Nat → Nat → Nat → Bool) (cM ct cv1 cv2 : Nat) : Bool :=
  (eX11_beginOf_9 q  5000 cM ct cv1 cv2 4294967292 0 1)
set_option maxHeartbeats 4000000 in
set_option maxRecDepth 20000 in
theorem spX11_beginOf {post : Int32 → MM → Int64 → Prop} {q : Nat → Nat → Nat → Bool} (hq : ∀ (r : Int32) (M : MM) (tl : Int64) (cr cM ct : Nat), r = nI cr → M = dM cM → tl = i64 ct → q cr cM ct = true → post r M tl) {M : MM} {tl : Int64} {v1 : Int32} {v2 : Int32} {cM ct cv1 cv2 : Nat} (hM : M = dM cM) (ht : tl = i64 ct) (hv1 : v1 = nI cv1) (hv2 : v2 = nI cv2) (h : epX11_beginOf q  cM ct cv1 cv2 = true) : wpX11_beginOf post  M tl v1 v2 := by
  unfold wpX11_beginOf
  unfold epX11_beginOf at h
  exact ⟨5000, sX11_beginOf_9 hq  5000 _ _ _ _ _ _ _ _ _ _ _ _ _ _ hM ht hv1 hv2 lm4 (rfl : (0 : Int32) = nI 0) (rfl : (1 : Int32) = nI 1) h⟩
noncomputable def epX11_begin (q : Nat → Nat → Nat → Bool) (cM ct cv1 cv2 cv3 : Nat) : Bool :=
  (epX11_isLot (fun cr3 cM1 ct2 => (@Bool.rec (fun _ => Bool) (epX11_in (fun cr6 cM4 ct5 => (@Bool.rec (fun _ => Bool) (epX11_beginOf (fun cr9 cM7 ct8 => (@Bool.rec (fun _ => Bool) (@Bool.rec (fun _ => Bool) (epX11_gainOf (fun cr12 cM10 ct11 => (q cr12 cM10 ct11)) cM7 ct8 cv1 cv2 cr9) (q cr9 cM7 ct8) (eqN cv3 0)) (q 4294967292 cM7 ct8) (eqN cr9 4294967292))) cM4 ct5 cv1 cv2) (q 4294967295 cM4 ct5) (eqN cr6 0))) cM1 ct2 (xN cv3) 0 1) (q 4294967295 cM1 ct2) (eqN cr3 0))) cM ct cv1 cv2)
set_option maxHeartbeats 4000000 in
set_option maxRecDepth 20000 in
theorem spX11_begin {post : Int32 → MM → Int64 → Prop} {q : Nat → Nat → Nat → Bool} (hq : ∀ (r : Int32) (M : MM) (tl : Int64) (cr cM ct : Nat), r = nI cr → M = dM cM → tl = i64 ct → q cr cM ct = true → post r M tl) {M : MM} {tl : Int64} {v1 : Int32} {v2 : Int32} {v3 : Int32} {cM ct cv1 cv2 cv3 : Nat} (hM : M = dM cM) (ht : tl = i64 ct) (hv1 : v1 = nI cv1) (hv2 : v2 = nI cv2) (hv3 : v3 = nI cv3) (h : epX11_begin q  cM ct cv1 cv2 cv3 = true) : wpX11_begin post  M tl v1 v2 v3 := by
  unfold wpX11_begin
  unfold epX11_begin at h
  refine spX11_isLot (fun r3 M1 t2 cr3 cM1 ct2 hr3 hM1 ht2 h => ?_) hM ht hv1 hv2 h
  refine e_ite (c_eq hr3 (rfl : (0 : Int32) = nI 0)) h (fun h => ?_) (fun h => ?_)
  · exact hq _ _ _ _ _ _ lm1 hM1 ht2 h
  · refine spX11_in (fun r6 M4 t5 cr6 cM4 ct5 hr6 hM4 ht5 h => ?_) hM1 ht2 (r_ext hv3) (rfl : (0 : Int64) = i64 0) (rfl : (1 : Int64) = i64 1) h
    refine e_ite (c_eq hr6 (rfl : (0 : Int32) = nI 0)) h (fun h => ?_) (fun h => ?_)
    · exact hq _ _ _ _ _ _ lm1 hM4 ht5 h
    · refine spX11_beginOf (fun r9 M7 t8 cr9 cM7 ct8 hr9 hM7 ht8 h => ?_) hM4 ht5 hv1 hv2 h
      refine e_ite (c_eq hr9 lm4) h (fun h => ?_) (fun h => ?_)
      · exact hq _ _ _ _ _ _ lm4 hM7 ht8 h
      · refine e_ite (c_eq hv3 (rfl : (0 : Int32) = nI 0)) h (fun h => ?_) (fun h => ?_)
        · exact hq _ _ _ _ _ _ hr9 hM7 ht8 h
        · refine spX11_gainOf (fun r12 M10 t11 cr12 cM10 ct11 hr12 hM10 ht11 h => ?_) hM7 ht8 hv1 hv2 hr9 h
          exact hq _ _ _ _ _ _ hr12 hM10 ht11 h
noncomputable def epX11_waits (q : Nat → Nat → Nat → Bool) (cM ct cv1 cv2 : Nat) : Bool :=
  (epX11_isLot (fun cr3 cM1 ct2 => (@Bool.rec (fun _ => Bool) (epX11_matchOf (fun cr6 cM4 ct5 => (@Bool.rec (fun _ => Bool) (epX11_beginOf (fun cr9 cM7 ct8 => (@Bool.rec (fun _ => Bool) (@Bool.rec (fun _ => Bool) false (epX11_gainOf (fun cr13 cM11 ct12 => (q (aN 1000 cr13) cM11 ct12)) cM7 ct8 cv1 cv2 (rd cM7 88 (tN cr9))) (inN cr9 (alF 88))) (q (aN 1000 0) cM7 ct8) (eqN cr9 4294967292))) cM4 ct5 (sN 1 cv1) cr6) (q 4294967294 cM4 ct5) (eqN cr6 4294967292))) cM1 ct2 cv1 cv2) (q 4294967295 cM1 ct2) (eqN cr3 0))) cM ct cv1 cv2)
set_option maxHeartbeats 4000000 in
set_option maxRecDepth 20000 in
theorem spX11_waits {post : Int32 → MM → Int64 → Prop} {q : Nat → Nat → Nat → Bool} (hq : ∀ (r : Int32) (M : MM) (tl : Int64) (cr cM ct : Nat), r = nI cr → M = dM cM → tl = i64 ct → q cr cM ct = true → post r M tl) {M : MM} {tl : Int64} {v1 : Int32} {v2 : Int32} {cM ct cv1 cv2 : Nat} (hM : M = dM cM) (ht : tl = i64 ct) (hv1 : v1 = nI cv1) (hv2 : v2 = nI cv2) (h : epX11_waits q  cM ct cv1 cv2 = true) : wpX11_waits post  M tl v1 v2 := by
  unfold wpX11_waits
  unfold epX11_waits at h
  refine spX11_isLot (fun r3 M1 t2 cr3 cM1 ct2 hr3 hM1 ht2 h => ?_) hM ht hv1 hv2 h
  refine e_ite (c_eq hr3 (rfl : (0 : Int32) = nI 0)) h (fun h => ?_) (fun h => ?_)
  · exact hq _ _ _ _ _ _ lm1 hM1 ht2 h
  · refine spX11_matchOf (fun r6 M4 t5 cr6 cM4 ct5 hr6 hM4 ht5 h => ?_) hM1 ht2 hv1 hv2 h
    refine e_ite (c_eq hr6 lm4) h (fun h => ?_) (fun h => ?_)
    · exact hq _ _ _ _ _ _ lm2 hM4 ht5 h
    · refine spX11_beginOf (fun r9 M7 t8 cr9 cM7 ct8 hr9 hM7 ht8 h => ?_) hM4 ht5 (r_sub (rfl : (1 : Int32) = nI 1) hv1) hr6 h
      refine e_ite (c_eq hr9 lm4) h (fun h => ?_) (fun h => ?_)
      · exact hq _ _ _ _ _ _ (r_add (rfl : (1000 : Int32) = nI 1000) (rfl : (0 : Int32) = nI 0)) hM7 ht8 h
      · refine e_and (k_in hr9 (r_al (rfl : (88 : Nat) = 88))) h (fun h => ?_)
        refine spX11_gainOf (fun r13 M11 t12 cr13 cM11 ct12 hr13 hM11 ht12 h => ?_) hM7 ht8 hv1 hv2 (r_rd hM7 (rfl : (88 : Nat) = 88) (r_nat hr9)) h
        exact hq _ _ _ _ _ _ (r_add (rfl : (1000 : Int32) = nI 1000) hr13) hM11 ht12 h
noncomputable def eX11_vex_222 (q : Nat → Nat → Nat → Bool) (cbk45 : Nat → Nat → Nat → Nat → Nat → Nat → Nat → Nat → Nat → Nat → Bool) (cbk66 : Nat → Nat → Nat → Nat → Nat → Nat → Nat → Nat → Nat → Nat → Nat → Nat → Bool) (cM ct cv1 cv2 cv3 cv4 cv5 cv6 cv7 cv8 cv9 cv10 : Nat) : Bool :=
  (cbk66 cM ct cv1 cv2 cv3 cv4 cv5 cv6 cv7 cv8 cv9 (aN cv10 1))
set_option maxHeartbeats 4000000 in
set_option maxRecDepth 20000 in
theorem sX11_vex_222 {post : Int32 → MM → Int64 → Prop} {q : Nat → Nat → Nat → Bool} (hq : ∀ (r : Int32) (M : MM) (tl : Int64) (cr cM ct : Nat), r = nI cr → M = dM cM → tl = i64 ct → q cr cM ct = true → post r M tl) {bk45 : MM → Int64 → Int32 → Int32 → Int32 → Int32 → Int32 → Int32 → Int32 → Int32 → Prop} {cbk45 : Nat → Nat → Nat → Nat → Nat → Nat → Nat → Nat → Nat → Nat → Bool} (hbk45 : ∀ (M : MM) (tl : Int64) (x0 : Int32) (x1 : Int32) (x2 : Int32) (x3 : Int32) (x4 : Int32) (x5 : Int32) (x6 : Int32) (x7 : Int32) (cM ct cx0 cx1 cx2 cx3 cx4 cx5 cx6 cx7 : Nat), M = dM cM → tl = i64 ct → x0 = nI cx0 → x1 = nI cx1 → x2 = nI cx2 → x3 = nI cx3 → x4 = nI cx4 → x5 = nI cx5 → x6 = nI cx6 → x7 = nI cx7 → cbk45 cM ct cx0 cx1 cx2 cx3 cx4 cx5 cx6 cx7 = true → bk45 M tl x0 x1 x2 x3 x4 x5 x6 x7) {bk66 : MM → Int64 → Int32 → Int32 → Int32 → Int32 → Int32 → Int32 → Int32 → Int32 → Int32 → Int32 → Prop} {cbk66 : Nat → Nat → Nat → Nat → Nat → Nat → Nat → Nat → Nat → Nat → Nat → Nat → Bool} (hbk66 : ∀ (M : MM) (tl : Int64) (x0 : Int32) (x1 : Int32) (x2 : Int32) (x3 : Int32) (x4 : Int32) (x5 : Int32) (x6 : Int32) (x7 : Int32) (x8 : Int32) (x9 : Int32) (cM ct cx0 cx1 cx2 cx3 cx4 cx5 cx6 cx7 cx8 cx9 : Nat), M = dM cM → tl = i64 ct → x0 = nI cx0 → x1 = nI cx1 → x2 = nI cx2 → x3 = nI cx3 → x4 = nI cx4 → x5 = nI cx5 → x6 = nI cx6 → x7 = nI cx7 → x8 = nI cx8 → x9 = nI cx9 → cbk66 cM ct cx0 cx1 cx2 cx3 cx4 cx5 cx6 cx7 cx8 cx9 = true → bk66 M tl x0 x1 x2 x3 x4 x5 x6 x7 x8 x9) {M : MM} {tl : Int64} {v1 : Int32} {v2 : Int32} {v3 : Int32} {v4 : Int32} {v5 : Int32} {v6 : Int32} {v7 : Int32} {v8 : Int32} {v9 : Int32} {v10 : Int32} {cM ct cv1 cv2 cv3 cv4 cv5 cv6 cv7 cv8 cv9 cv10 : Nat} (hM : M = dM cM) (ht : tl = i64 ct) (hv1 : v1 = nI cv1) (hv2 : v2 = nI cv2) (hv3 : v3 = nI cv3) (hv4 : v4 = nI cv4) (hv5 : v5 = nI cv5) (hv6 : v6 = nI cv6) (hv7 : v7 = nI cv7) (hv8 : v8 = nI cv8) (hv9 : v9 = nI cv9) (hv10 : v10 = nI cv10) (h : eX11_vex_222 q cbk45 cbk66 cM ct cv1 cv2 cv3 cv4 cv5 cv6 cv7 cv8 cv9 cv10 = true) : wX11_vex_222 post bk45 bk66 M tl v1 v2 v3 v4 v5 v6 v7 v8 v9 v10 := by
  unfold wX11_vex_222
  unfold eX11_vex_222 at h
  exact hbk66 _ _ _ _ _ _ _ _ _ _ _ _ _ _ _ _ _ _ _ _ _ _ _ _ hM ht hv1 hv2 hv3 hv4 hv5 hv6 hv7 hv8 hv9 (r_add hv10 (rfl : (1 : Int32) = nI 1)) h
noncomputable def eX11_vex_207 (q : Nat → Nat → Nat → Bool) (cbk45 : Nat → Nat → Nat → Nat → Nat → Nat → Nat → Nat → Nat → Nat → Bool) (cbk66 : Nat → Nat → Nat → Nat → Nat → Nat → Nat → Nat → Nat → Nat → Nat → Nat → Bool) (cM ct cv1 cv2 cv7 cv8 cv9 cv10 cv11 cv12 : Nat) : Bool :=
  (eX11_vex_222 q cbk45 cbk66 cM ct cv1 cv2 cv11 cv12 cv8 cv10 cv7 cv8 cv9 cv10)
set_option maxHeartbeats 4000000 in
set_option maxRecDepth 20000 in
theorem sX11_vex_207 {post : Int32 → MM → Int64 → Prop} {q : Nat → Nat → Nat → Bool} (hq : ∀ (r : Int32) (M : MM) (tl : Int64) (cr cM ct : Nat), r = nI cr → M = dM cM → tl = i64 ct → q cr cM ct = true → post r M tl) {bk45 : MM → Int64 → Int32 → Int32 → Int32 → Int32 → Int32 → Int32 → Int32 → Int32 → Prop} {cbk45 : Nat → Nat → Nat → Nat → Nat → Nat → Nat → Nat → Nat → Nat → Bool} (hbk45 : ∀ (M : MM) (tl : Int64) (x0 : Int32) (x1 : Int32) (x2 : Int32) (x3 : Int32) (x4 : Int32) (x5 : Int32) (x6 : Int32) (x7 : Int32) (cM ct cx0 cx1 cx2 cx3 cx4 cx5 cx6 cx7 : Nat), M = dM cM → tl = i64 ct → x0 = nI cx0 → x1 = nI cx1 → x2 = nI cx2 → x3 = nI cx3 → x4 = nI cx4 → x5 = nI cx5 → x6 = nI cx6 → x7 = nI cx7 → cbk45 cM ct cx0 cx1 cx2 cx3 cx4 cx5 cx6 cx7 = true → bk45 M tl x0 x1 x2 x3 x4 x5 x6 x7) {bk66 : MM → Int64 → Int32 → Int32 → Int32 → Int32 → Int32 → Int32 → Int32 → Int32 → Int32 → Int32 → Prop} {cbk66 : Nat → Nat → Nat → Nat → Nat → Nat → Nat → Nat → Nat → Nat → Nat → Nat → Bool} (hbk66 : ∀ (M : MM) (tl : Int64) (x0 : Int32) (x1 : Int32) (x2 : Int32) (x3 : Int32) (x4 : Int32) (x5 : Int32) (x6 : Int32) (x7 : Int32) (x8 : Int32) (x9 : Int32) (cM ct cx0 cx1 cx2 cx3 cx4 cx5 cx6 cx7 cx8 cx9 : Nat), M = dM cM → tl = i64 ct → x0 = nI cx0 → x1 = nI cx1 → x2 = nI cx2 → x3 = nI cx3 → x4 = nI cx4 → x5 = nI cx5 → x6 = nI cx6 → x7 = nI cx7 → x8 = nI cx8 → x9 = nI cx9 → cbk66 cM ct cx0 cx1 cx2 cx3 cx4 cx5 cx6 cx7 cx8 cx9 = true → bk66 M tl x0 x1 x2 x3 x4 x5 x6 x7 x8 x9) {M : MM} {tl : Int64} {v1 : Int32} {v2 : Int32} {v7 : Int32} {v8 : Int32} {v9 : Int32} {v10 : Int32} {v11 : Int32} {v12 : Int32} {cM ct cv1 cv2 cv7 cv8 cv9 cv10 cv11 cv12 : Nat} (hM : M = dM cM) (ht : tl = i64 ct) (hv1 : v1 = nI cv1) (hv2 : v2 = nI cv2) (hv7 : v7 = nI cv7) (hv8 : v8 = nI cv8) (hv9 : v9 = nI cv9) (hv10 : v10 = nI cv10) (hv11 : v11 = nI cv11) (hv12 : v12 = nI cv12) (h : eX11_vex_207 q cbk45 cbk66 cM ct cv1 cv2 cv7 cv8 cv9 cv10 cv11 cv12 = true) : wX11_vex_207 post bk45 bk66 M tl v1 v2 v7 v8 v9 v10 v11 v12 := by
  unfold wX11_vex_207
  unfold eX11_vex_207 at h
  exact sX11_vex_222 hq hbk45 hbk66 hM ht hv1 hv2 hv11 hv12 hv8 hv10 hv7 hv8 hv9 hv10 h
noncomputable def eX11_vex_174 (q : Nat → Nat → Nat → Bool) (cbk45 : Nat → Nat → Nat → Nat → Nat → Nat → Nat → Nat → Nat → Nat → Bool) (cbk66 : Nat → Nat → Nat → Nat → Nat → Nat → Nat → Nat → Nat → Nat → Nat → Nat → Bool) (cM ct cv1 cv2 cv3 cv4 cv5 cv6 cv7 cv8 cv9 cv10 cv11 cv12 cs0 : Nat) : Bool :=
  (@Bool.rec (fun _ => Bool) (@Bool.rec (fun _ => Bool) (@Bool.rec (fun _ => Bool) (@Bool.rec (fun _ => Bool) (eX11_vex_222 q cbk45 cbk66 cM ct cv1 cv2 cv3 cv4 cv5 cv6 cv7 cv8 cv9 cv10) (@Bool.rec (fun _ => Bool) (eX11_vex_207 q cbk45 cbk66 cM ct cv1 cv2 cv7 cv8 cv9 cv10 cv11 cv12) (eX11_vex_222 q cbk45 cbk66 cM ct cv1 cv2 cv3 cv4 cv5 cv6 cv7 cv8 cv9 cv10) (leN cv4 cv12)) (eqN cv11 cv3)) (eX11_vex_207 q cbk45 cbk66 cM ct cv1 cv2 cv7 cv8 cv9 cv10 cv11 cv12) (ltN cv3 cv11)) (eX11_vex_207 q cbk45 cbk66 cM ct cv1 cv2 cv7 cv8 cv9 cv10 cv11 cv12) (eqN cv5 4294967292)) (eX11_vex_222 q cbk45 cbk66 cM ct cv1 cv2 cv3 cv4 cv5 cv6 cv7 cv8 cv9 cv10) (eqN cs0 0))
set_option maxHeartbeats 4000000 in
set_option maxRecDepth 20000 in
theorem sX11_vex_174 {post : Int32 → MM → Int64 → Prop} {q : Nat → Nat → Nat → Bool} (hq : ∀ (r : Int32) (M : MM) (tl : Int64) (cr cM ct : Nat), r = nI cr → M = dM cM → tl = i64 ct → q cr cM ct = true → post r M tl) {bk45 : MM → Int64 → Int32 → Int32 → Int32 → Int32 → Int32 → Int32 → Int32 → Int32 → Prop} {cbk45 : Nat → Nat → Nat → Nat → Nat → Nat → Nat → Nat → Nat → Nat → Bool} (hbk45 : ∀ (M : MM) (tl : Int64) (x0 : Int32) (x1 : Int32) (x2 : Int32) (x3 : Int32) (x4 : Int32) (x5 : Int32) (x6 : Int32) (x7 : Int32) (cM ct cx0 cx1 cx2 cx3 cx4 cx5 cx6 cx7 : Nat), M = dM cM → tl = i64 ct → x0 = nI cx0 → x1 = nI cx1 → x2 = nI cx2 → x3 = nI cx3 → x4 = nI cx4 → x5 = nI cx5 → x6 = nI cx6 → x7 = nI cx7 → cbk45 cM ct cx0 cx1 cx2 cx3 cx4 cx5 cx6 cx7 = true → bk45 M tl x0 x1 x2 x3 x4 x5 x6 x7) {bk66 : MM → Int64 → Int32 → Int32 → Int32 → Int32 → Int32 → Int32 → Int32 → Int32 → Int32 → Int32 → Prop} {cbk66 : Nat → Nat → Nat → Nat → Nat → Nat → Nat → Nat → Nat → Nat → Nat → Nat → Bool} (hbk66 : ∀ (M : MM) (tl : Int64) (x0 : Int32) (x1 : Int32) (x2 : Int32) (x3 : Int32) (x4 : Int32) (x5 : Int32) (x6 : Int32) (x7 : Int32) (x8 : Int32) (x9 : Int32) (cM ct cx0 cx1 cx2 cx3 cx4 cx5 cx6 cx7 cx8 cx9 : Nat), M = dM cM → tl = i64 ct → x0 = nI cx0 → x1 = nI cx1 → x2 = nI cx2 → x3 = nI cx3 → x4 = nI cx4 → x5 = nI cx5 → x6 = nI cx6 → x7 = nI cx7 → x8 = nI cx8 → x9 = nI cx9 → cbk66 cM ct cx0 cx1 cx2 cx3 cx4 cx5 cx6 cx7 cx8 cx9 = true → bk66 M tl x0 x1 x2 x3 x4 x5 x6 x7 x8 x9) {M : MM} {tl : Int64} {v1 : Int32} {v2 : Int32} {v3 : Int32} {v4 : Int32} {v5 : Int32} {v6 : Int32} {v7 : Int32} {v8 : Int32} {v9 : Int32} {v10 : Int32} {v11 : Int32} {v12 : Int32} {s0 : Int32} {cM ct cv1 cv2 cv3 cv4 cv5 cv6 cv7 cv8 cv9 cv10 cv11 cv12 cs0 : Nat} (hM : M = dM cM) (ht : tl = i64 ct) (hv1 : v1 = nI cv1) (hv2 : v2 = nI cv2) (hv3 : v3 = nI cv3) (hv4 : v4 = nI cv4) (hv5 : v5 = nI cv5) (hv6 : v6 = nI cv6) (hv7 : v7 = nI cv7) (hv8 : v8 = nI cv8) (hv9 : v9 = nI cv9) (hv10 : v10 = nI cv10) (hv11 : v11 = nI cv11) (hv12 : v12 = nI cv12) (hs0 : s0 = nI cs0) (h : eX11_vex_174 q cbk45 cbk66 cM ct cv1 cv2 cv3 cv4 cv5 cv6 cv7 cv8 cv9 cv10 cv11 cv12 cs0 = true) : wX11_vex_174 post bk45 bk66 M tl v1 v2 v3 v4 v5 v6 v7 v8 v9 v10 v11 v12 s0 := by
  unfold wX11_vex_174
  unfold eX11_vex_174 at h
  refine e_ite (c_eq hs0 (rfl : (0 : Int32) = nI 0)) h (fun h => ?_) (fun h => ?_)
  · exact sX11_vex_222 hq hbk45 hbk66 hM ht hv1 hv2 hv3 hv4 hv5 hv6 hv7 hv8 hv9 hv10 h
  · refine e_ite (c_eq hv5 lm4) h (fun h => ?_) (fun h => ?_)
    · exact sX11_vex_207 hq hbk45 hbk66 hM ht hv1 hv2 hv7 hv8 hv9 hv10 hv11 hv12 h
    · refine e_ite (c_lt hv3 hv11) h (fun h => ?_) (fun h => ?_)
      · exact sX11_vex_207 hq hbk45 hbk66 hM ht hv1 hv2 hv7 hv8 hv9 hv10 hv11 hv12 h
      · refine e_ite (c_eq hv11 hv3) h (fun h => ?_) (fun h => ?_)
        · refine e_ite (c_le hv4 hv12) h (fun h => ?_) (fun h => ?_)
          · exact sX11_vex_222 hq hbk45 hbk66 hM ht hv1 hv2 hv3 hv4 hv5 hv6 hv7 hv8 hv9 hv10 h
          · exact sX11_vex_207 hq hbk45 hbk66 hM ht hv1 hv2 hv7 hv8 hv9 hv10 hv11 hv12 h
        · exact sX11_vex_222 hq hbk45 hbk66 hM ht hv1 hv2 hv3 hv4 hv5 hv6 hv7 hv8 hv9 hv10 h
noncomputable def eX11_vex_173 (q : Nat → Nat → Nat → Bool) (cbk45 : Nat → Nat → Nat → Nat → Nat → Nat → Nat → Nat → Nat → Nat → Bool) (cbk66 : Nat → Nat → Nat → Nat → Nat → Nat → Nat → Nat → Nat → Nat → Nat → Nat → Bool) (cM ct cv1 cv2 cv3 cv4 cv5 cv6 cv7 cv8 cv9 cv10 cv11 cv12 : Nat) : Bool :=
  (eX11_vex_174 q cbk45 cbk66 cM ct cv1 cv2 cv3 cv4 cv5 cv6 cv7 cv8 cv9 cv10 cv11 cv12 0)
set_option maxHeartbeats 4000000 in
set_option maxRecDepth 20000 in
theorem sX11_vex_173 {post : Int32 → MM → Int64 → Prop} {q : Nat → Nat → Nat → Bool} (hq : ∀ (r : Int32) (M : MM) (tl : Int64) (cr cM ct : Nat), r = nI cr → M = dM cM → tl = i64 ct → q cr cM ct = true → post r M tl) {bk45 : MM → Int64 → Int32 → Int32 → Int32 → Int32 → Int32 → Int32 → Int32 → Int32 → Prop} {cbk45 : Nat → Nat → Nat → Nat → Nat → Nat → Nat → Nat → Nat → Nat → Bool} (hbk45 : ∀ (M : MM) (tl : Int64) (x0 : Int32) (x1 : Int32) (x2 : Int32) (x3 : Int32) (x4 : Int32) (x5 : Int32) (x6 : Int32) (x7 : Int32) (cM ct cx0 cx1 cx2 cx3 cx4 cx5 cx6 cx7 : Nat), M = dM cM → tl = i64 ct → x0 = nI cx0 → x1 = nI cx1 → x2 = nI cx2 → x3 = nI cx3 → x4 = nI cx4 → x5 = nI cx5 → x6 = nI cx6 → x7 = nI cx7 → cbk45 cM ct cx0 cx1 cx2 cx3 cx4 cx5 cx6 cx7 = true → bk45 M tl x0 x1 x2 x3 x4 x5 x6 x7) {bk66 : MM → Int64 → Int32 → Int32 → Int32 → Int32 → Int32 → Int32 → Int32 → Int32 → Int32 → Int32 → Prop} {cbk66 : Nat → Nat → Nat → Nat → Nat → Nat → Nat → Nat → Nat → Nat → Nat → Nat → Bool} (hbk66 : ∀ (M : MM) (tl : Int64) (x0 : Int32) (x1 : Int32) (x2 : Int32) (x3 : Int32) (x4 : Int32) (x5 : Int32) (x6 : Int32) (x7 : Int32) (x8 : Int32) (x9 : Int32) (cM ct cx0 cx1 cx2 cx3 cx4 cx5 cx6 cx7 cx8 cx9 : Nat), M = dM cM → tl = i64 ct → x0 = nI cx0 → x1 = nI cx1 → x2 = nI cx2 → x3 = nI cx3 → x4 = nI cx4 → x5 = nI cx5 → x6 = nI cx6 → x7 = nI cx7 → x8 = nI cx8 → x9 = nI cx9 → cbk66 cM ct cx0 cx1 cx2 cx3 cx4 cx5 cx6 cx7 cx8 cx9 = true → bk66 M tl x0 x1 x2 x3 x4 x5 x6 x7 x8 x9) {M : MM} {tl : Int64} {v1 : Int32} {v2 : Int32} {v3 : Int32} {v4 : Int32} {v5 : Int32} {v6 : Int32} {v7 : Int32} {v8 : Int32} {v9 : Int32} {v10 : Int32} {v11 : Int32} {v12 : Int32} {cM ct cv1 cv2 cv3 cv4 cv5 cv6 cv7 cv8 cv9 cv10 cv11 cv12 : Nat} (hM : M = dM cM) (ht : tl = i64 ct) (hv1 : v1 = nI cv1) (hv2 : v2 = nI cv2) (hv3 : v3 = nI cv3) (hv4 : v4 = nI cv4) (hv5 : v5 = nI cv5) (hv6 : v6 = nI cv6) (hv7 : v7 = nI cv7) (hv8 : v8 = nI cv8) (hv9 : v9 = nI cv9) (hv10 : v10 = nI cv10) (hv11 : v11 = nI cv11) (hv12 : v12 = nI cv12) (h : eX11_vex_173 q cbk45 cbk66 cM ct cv1 cv2 cv3 cv4 cv5 cv6 cv7 cv8 cv9 cv10 cv11 cv12 = true) : wX11_vex_173 post bk45 bk66 M tl v1 v2 v3 v4 v5 v6 v7 v8 v9 v10 v11 v12 := by
  unfold wX11_vex_173
  unfold eX11_vex_173 at h
  exact sX11_vex_174 hq hbk45 hbk66 hM ht hv1 hv2 hv3 hv4 hv5 hv6 hv7 hv8 hv9 hv10 hv11 hv12 (rfl : (0 : Int32) = nI 0) h
noncomputable def eX11_vex_228 (q : Nat → Nat → Nat → Bool) (cbk45 : Nat → Nat → Nat → Nat → Nat → Nat → Nat → Nat → Nat → Nat → Bool) (cM ct cv1 cv2 cv3 cv4 cv5 cv6 cv7 cv8 : Nat) : Bool :=
  (cbk45 cM ct cv1 cv2 cv3 cv4 cv5 cv6 cv7 (aN cv8 1))
set_option maxHeartbeats 4000000 in
set_option maxRecDepth 20000 in
theorem sX11_vex_228 {post : Int32 → MM → Int64 → Prop} {q : Nat → Nat → Nat → Bool} (hq : ∀ (r : Int32) (M : MM) (tl : Int64) (cr cM ct : Nat), r = nI cr → M = dM cM → tl = i64 ct → q cr cM ct = true → post r M tl) {bk45 : MM → Int64 → Int32 → Int32 → Int32 → Int32 → Int32 → Int32 → Int32 → Int32 → Prop} {cbk45 : Nat → Nat → Nat → Nat → Nat → Nat → Nat → Nat → Nat → Nat → Bool} (hbk45 : ∀ (M : MM) (tl : Int64) (x0 : Int32) (x1 : Int32) (x2 : Int32) (x3 : Int32) (x4 : Int32) (x5 : Int32) (x6 : Int32) (x7 : Int32) (cM ct cx0 cx1 cx2 cx3 cx4 cx5 cx6 cx7 : Nat), M = dM cM → tl = i64 ct → x0 = nI cx0 → x1 = nI cx1 → x2 = nI cx2 → x3 = nI cx3 → x4 = nI cx4 → x5 = nI cx5 → x6 = nI cx6 → x7 = nI cx7 → cbk45 cM ct cx0 cx1 cx2 cx3 cx4 cx5 cx6 cx7 = true → bk45 M tl x0 x1 x2 x3 x4 x5 x6 x7) {M : MM} {tl : Int64} {v1 : Int32} {v2 : Int32} {v3 : Int32} {v4 : Int32} {v5 : Int32} {v6 : Int32} {v7 : Int32} {v8 : Int32} {cM ct cv1 cv2 cv3 cv4 cv5 cv6 cv7 cv8 : Nat} (hM : M = dM cM) (ht : tl = i64 ct) (hv1 : v1 = nI cv1) (hv2 : v2 = nI cv2) (hv3 : v3 = nI cv3) (hv4 : v4 = nI cv4) (hv5 : v5 = nI cv5) (hv6 : v6 = nI cv6) (hv7 : v7 = nI cv7) (hv8 : v8 = nI cv8) (h : eX11_vex_228 q cbk45 cM ct cv1 cv2 cv3 cv4 cv5 cv6 cv7 cv8 = true) : wX11_vex_228 post bk45 M tl v1 v2 v3 v4 v5 v6 v7 v8 := by
  unfold wX11_vex_228
  unfold eX11_vex_228 at h
  exact hbk45 _ _ _ _ _ _ _ _ _ _ _ _ _ _ _ _ _ _ _ _ hM ht hv1 hv2 hv3 hv4 hv5 hv6 hv7 (r_add hv8 (rfl : (1 : Int32) = nI 1)) h
noncomputable def eX11_vex_66 (q : Nat → Nat → Nat → Bool) (cbk45 : Nat → Nat → Nat → Nat → Nat → Nat → Nat → Nat → Nat → Nat → Bool) (n : Nat) : Nat → Nat → Nat → Nat → Nat → Nat → Nat → Nat → Nat → Nat → Nat → Nat → Bool :=
  @Nat.rec (fun _ => Nat → Nat → Nat → Nat → Nat → Nat → Nat → Nat → Nat → Nat → Nat → Nat → Bool) (fun _ _ _ _ _ _ _ _ _ _ _ _ => false) (fun _ ih cM ct cv1 cv2 cv3 cv4 cv5 cv6 cv7 cv8 cv9 cv10 => (@Bool.rec (fun _ => Bool) (@Bool.rec (fun _ => Bool) (@Bool.rec (fun _ => Bool) false (@Bool.rec (fun _ => Bool) false (epX11_kindThere (fun cr5 cM3 ct4 => (@Bool.rec (fun _ => Bool) false (@Bool.rec (fun _ => Bool) false (@Bool.rec (fun _ => Bool) false (@Bool.rec (fun _ => Bool) false (epX11_mayBe (fun cr12 cM10 ct11 => (@Bool.rec (fun _ => Bool) (epX11_kindThere (fun cr15 cM13 ct14 => (@Bool.rec (fun _ => Bool) (eX11_vex_174 q cbk45 ih cM13 ct14 cv1 cv2 cv3 cv4 cv5 cv6 cv7 cv8 cv9 cv10 (sN (aN (rd cM 85 (tN (aN cv7 (rd cM 88 (tN cv10))))) (rd cM3 86 (tN (aN cv7 cr5)))) (rd cM3 86 (tN (aN cv7 (rd cM3 88 (tN cv10)))))) (rd cM3 85 (tN (aN (mN 6 cv1) cv10))) 1) (eX11_vex_173 q cbk45 ih cM13 ct14 cv1 cv2 cv3 cv4 cv5 cv6 cv7 cv8 cv9 cv10 (sN (aN (rd cM 85 (tN (aN cv7 (rd cM 88 (tN cv10))))) (rd cM3 86 (tN (aN cv7 cr5)))) (rd cM3 86 (tN (aN cv7 (rd cM3 88 (tN cv10)))))) (rd cM3 85 (tN (aN (mN 6 cv1) cv10)))) (eqN cv10 cr15))) cM10 ct11 cv1 cv8) (eX11_vex_173 q cbk45 ih cM10 ct11 cv1 cv2 cv3 cv4 cv5 cv6 cv7 cv8 cv9 cv10 (sN (aN (rd cM 85 (tN (aN cv7 (rd cM 88 (tN cv10))))) (rd cM3 86 (tN (aN cv7 cr5)))) (rd cM3 86 (tN (aN cv7 (rd cM3 88 (tN cv10)))))) (rd cM3 85 (tN (aN (mN 6 cv1) cv10)))) (eqN cr12 0))) cM3 ct4 cv1 cv8 cv10) (inN (aN (mN 6 cv1) cv10) (alF 85))) (inN (aN cv7 (rd cM3 88 (tN cv10))) (alF 86))) (inN cv10 (alF 88))) (inN (aN cv7 cr5) (alF 86)))) cM ct (sN 1 cv1) cv9) (inN (aN cv7 (rd cM 88 (tN cv10))) (alF 85))) (inN cv10 (alF 88))) (eX11_vex_228 q cbk45 cM ct cv1 cv2 cv3 cv4 cv5 cv6 cv7 cv8) (eqN cv9 4294967292)) (eX11_vex_228 q cbk45 cM ct cv1 cv2 cv3 cv4 cv5 cv6 cv7 cv8) (leN 6 cv10))) n
set_option maxHeartbeats 4000000 in
set_option maxRecDepth 20000 in
theorem sX11_vex_66 {post : Int32 → MM → Int64 → Prop} {q : Nat → Nat → Nat → Bool} (hq : ∀ (r : Int32) (M : MM) (tl : Int64) (cr cM ct : Nat), r = nI cr → M = dM cM → tl = i64 ct → q cr cM ct = true → post r M tl) {bk45 : MM → Int64 → Int32 → Int32 → Int32 → Int32 → Int32 → Int32 → Int32 → Int32 → Prop} {cbk45 : Nat → Nat → Nat → Nat → Nat → Nat → Nat → Nat → Nat → Nat → Bool} (hbk45 : ∀ (M : MM) (tl : Int64) (x0 : Int32) (x1 : Int32) (x2 : Int32) (x3 : Int32) (x4 : Int32) (x5 : Int32) (x6 : Int32) (x7 : Int32) (cM ct cx0 cx1 cx2 cx3 cx4 cx5 cx6 cx7 : Nat), M = dM cM → tl = i64 ct → x0 = nI cx0 → x1 = nI cx1 → x2 = nI cx2 → x3 = nI cx3 → x4 = nI cx4 → x5 = nI cx5 → x6 = nI cx6 → x7 = nI cx7 → cbk45 cM ct cx0 cx1 cx2 cx3 cx4 cx5 cx6 cx7 = true → bk45 M tl x0 x1 x2 x3 x4 x5 x6 x7) : ∀ (n : Nat) (M : MM) (tl : Int64) (v1 : Int32) (v2 : Int32) (v3 : Int32) (v4 : Int32) (v5 : Int32) (v6 : Int32) (v7 : Int32) (v8 : Int32) (v9 : Int32) (v10 : Int32) (cM ct cv1 cv2 cv3 cv4 cv5 cv6 cv7 cv8 cv9 cv10 : Nat), M = dM cM → tl = i64 ct → v1 = nI cv1 → v2 = nI cv2 → v3 = nI cv3 → v4 = nI cv4 → v5 = nI cv5 → v6 = nI cv6 → v7 = nI cv7 → v8 = nI cv8 → v9 = nI cv9 → v10 = nI cv10 → eX11_vex_66 q cbk45 n cM ct cv1 cv2 cv3 cv4 cv5 cv6 cv7 cv8 cv9 cv10 = true → wX11_vex_66 post bk45 n M tl v1 v2 v3 v4 v5 v6 v7 v8 v9 v10 := by
  intro n
  induction n with
  | zero => intro M tl v1 v2 v3 v4 v5 v6 v7 v8 v9 v10 cM ct cv1 cv2 cv3 cv4 cv5 cv6 cv7 cv8 cv9 cv10 hM ht hv1 hv2 hv3 hv4 hv5 hv6 hv7 hv8 hv9 hv10 h; exact Bool.noConfusion h
  | succ n ih =>
    intro M tl v1 v2 v3 v4 v5 v6 v7 v8 v9 v10 cM ct cv1 cv2 cv3 cv4 cv5 cv6 cv7 cv8 cv9 cv10 hM ht hv1 hv2 hv3 hv4 hv5 hv6 hv7 hv8 hv9 hv10 h
    unfold wX11_vex_66
    refine e_ite (c_le (rfl : (6 : Int32) = nI 6) hv10) h (fun h => ?_) (fun h => ?_)
    · exact sX11_vex_228 hq hbk45 hM ht hv1 hv2 hv3 hv4 hv5 hv6 hv7 hv8 h
    · refine e_ite (c_eq hv9 lm4) h (fun h => ?_) (fun h => ?_)
      · exact sX11_vex_228 hq hbk45 hM ht hv1 hv2 hv3 hv4 hv5 hv6 hv7 hv8 h
      · refine e_and (k_in hv10 (r_al (rfl : (88 : Nat) = 88))) h (fun h => ?_)
        refine e_and (k_in (r_add hv7 (r_rd hM (rfl : (88 : Nat) = 88) (r_nat hv10))) (r_al (rfl : (85 : Nat) = 85))) h (fun h => ?_)
        refine spX11_kindThere (fun r5 M3 t4 cr5 cM3 ct4 hr5 hM3 ht4 h => ?_) hM ht (r_sub (rfl : (1 : Int32) = nI 1) hv1) hv9 h
        refine e_and (k_in (r_add hv7 hr5) (r_al (rfl : (86 : Nat) = 86))) h (fun h => ?_)
        refine e_and (k_in hv10 (r_al (rfl : (88 : Nat) = 88))) h (fun h => ?_)
        refine e_and (k_in (r_add hv7 (r_rd hM3 (rfl : (88 : Nat) = 88) (r_nat hv10))) (r_al (rfl : (86 : Nat) = 86))) h (fun h => ?_)
        refine e_and (k_in (r_add (r_mul (rfl : (6 : Int32) = nI 6) hv1) hv10) (r_al (rfl : (85 : Nat) = 85))) h (fun h => ?_)
        refine spX11_mayBe (fun r12 M10 t11 cr12 cM10 ct11 hr12 hM10 ht11 h => ?_) hM3 ht4 hv1 hv8 hv10 h
        refine e_ite (c_eq hr12 (rfl : (0 : Int32) = nI 0)) h (fun h => ?_) (fun h => ?_)
        · exact sX11_vex_173 hq hbk45 ih hM10 ht11 hv1 hv2 hv3 hv4 hv5 hv6 hv7 hv8 hv9 hv10 (r_sub (r_add (r_rd hM (rfl : (85 : Nat) = 85) (r_nat (r_add hv7 (r_rd hM (rfl : (88 : Nat) = 88) (r_nat hv10))))) (r_rd hM3 (rfl : (86 : Nat) = 86) (r_nat (r_add hv7 hr5)))) (r_rd hM3 (rfl : (86 : Nat) = 86) (r_nat (r_add hv7 (r_rd hM3 (rfl : (88 : Nat) = 88) (r_nat hv10)))))) (r_rd hM3 (rfl : (85 : Nat) = 85) (r_nat (r_add (r_mul (rfl : (6 : Int32) = nI 6) hv1) hv10))) h
        · refine spX11_kindThere (fun r15 M13 t14 cr15 cM13 ct14 hr15 hM13 ht14 h => ?_) hM10 ht11 hv1 hv8 h
          refine e_ite (c_eq hv10 hr15) h (fun h => ?_) (fun h => ?_)
          · exact sX11_vex_173 hq hbk45 ih hM13 ht14 hv1 hv2 hv3 hv4 hv5 hv6 hv7 hv8 hv9 hv10 (r_sub (r_add (r_rd hM (rfl : (85 : Nat) = 85) (r_nat (r_add hv7 (r_rd hM (rfl : (88 : Nat) = 88) (r_nat hv10))))) (r_rd hM3 (rfl : (86 : Nat) = 86) (r_nat (r_add hv7 hr5)))) (r_rd hM3 (rfl : (86 : Nat) = 86) (r_nat (r_add hv7 (r_rd hM3 (rfl : (88 : Nat) = 88) (r_nat hv10)))))) (r_rd hM3 (rfl : (85 : Nat) = 85) (r_nat (r_add (r_mul (rfl : (6 : Int32) = nI 6) hv1) hv10))) h
          · exact sX11_vex_174 hq hbk45 ih hM13 ht14 hv1 hv2 hv3 hv4 hv5 hv6 hv7 hv8 hv9 hv10 (r_sub (r_add (r_rd hM (rfl : (85 : Nat) = 85) (r_nat (r_add hv7 (r_rd hM (rfl : (88 : Nat) = 88) (r_nat hv10))))) (r_rd hM3 (rfl : (86 : Nat) = 86) (r_nat (r_add hv7 hr5)))) (r_rd hM3 (rfl : (86 : Nat) = 86) (r_nat (r_add hv7 (r_rd hM3 (rfl : (88 : Nat) = 88) (r_nat hv10)))))) (r_rd hM3 (rfl : (85 : Nat) = 85) (r_nat (r_add (r_mul (rfl : (6 : Int32) = nI 6) hv1) hv10))) (rfl : (1 : Int32) = nI 1) h
noncomputable def eX11_vex_45 (q : Nat → Nat → Nat → Bool) (n : Nat) : Nat → Nat → Nat → Nat → Nat → Nat → Nat → Nat → Nat → Nat → Bool :=
  @Nat.rec (fun _ => Nat → Nat → Nat → Nat → Nat → Nat → Nat → Nat → Nat → Nat → Bool) (fun _ _ _ _ _ _ _ _ _ _ => false) (fun _ ih cM ct cv1 cv2 cv3 cv4 cv5 cv6 cv7 cv8 => (@Bool.rec (fun _ => Bool) (epX11_matchOf (fun cr3 cM1 ct2 => (eX11_vex_66 q ih 5000 cM1 ct2 cv1 cv2 cv3 cv4 cv5 cv6 cv7 cv8 cr3 1)) cM ct cv1 cv8) (@Bool.rec (fun _ => Bool) (@Bool.rec (fun _ => Bool) (@Bool.rec (fun _ => Bool) (q cv6 cM ct) (q cv5 cM ct) (eqN cv2 1)) (q (aN cv3 1000) cM ct) (eqN cv2 0)) (q 4294967292 cM ct) (eqN cv5 4294967292)) (leN (rd cM 81 2) cv8))) n
set_option maxHeartbeats 4000000 in
set_option maxRecDepth 20000 in
theorem sX11_vex_45 {post : Int32 → MM → Int64 → Prop} {q : Nat → Nat → Nat → Bool} (hq : ∀ (r : Int32) (M : MM) (tl : Int64) (cr cM ct : Nat), r = nI cr → M = dM cM → tl = i64 ct → q cr cM ct = true → post r M tl) : ∀ (n : Nat) (M : MM) (tl : Int64) (v1 : Int32) (v2 : Int32) (v3 : Int32) (v4 : Int32) (v5 : Int32) (v6 : Int32) (v7 : Int32) (v8 : Int32) (cM ct cv1 cv2 cv3 cv4 cv5 cv6 cv7 cv8 : Nat), M = dM cM → tl = i64 ct → v1 = nI cv1 → v2 = nI cv2 → v3 = nI cv3 → v4 = nI cv4 → v5 = nI cv5 → v6 = nI cv6 → v7 = nI cv7 → v8 = nI cv8 → eX11_vex_45 q  n cM ct cv1 cv2 cv3 cv4 cv5 cv6 cv7 cv8 = true → wX11_vex_45 post  n M tl v1 v2 v3 v4 v5 v6 v7 v8 := by
  intro n
  induction n with
  | zero => intro M tl v1 v2 v3 v4 v5 v6 v7 v8 cM ct cv1 cv2 cv3 cv4 cv5 cv6 cv7 cv8 hM ht hv1 hv2 hv3 hv4 hv5 hv6 hv7 hv8 h; exact Bool.noConfusion h
  | succ n ih =>
    intro M tl v1 v2 v3 v4 v5 v6 v7 v8 cM ct cv1 cv2 cv3 cv4 cv5 cv6 cv7 cv8 hM ht hv1 hv2 hv3 hv4 hv5 hv6 hv7 hv8 h
    unfold wX11_vex_45
    refine e_ite (c_le (r_rd hM (rfl : (81 : Nat) = 81) (rfl : (2 : Nat) = 2)) hv8) h (fun h => ?_) (fun h => ?_)
    · refine e_ite (c_eq hv5 lm4) h (fun h => ?_) (fun h => ?_)
      · exact hq _ _ _ _ _ _ lm4 hM ht h
      · refine e_ite (c_eq hv2 (rfl : (0 : Int32) = nI 0)) h (fun h => ?_) (fun h => ?_)
        · exact hq _ _ _ _ _ _ (r_add hv3 (rfl : (1000 : Int32) = nI 1000)) hM ht h
        · refine e_ite (c_eq hv2 (rfl : (1 : Int32) = nI 1)) h (fun h => ?_) (fun h => ?_)
          · exact hq _ _ _ _ _ _ hv5 hM ht h
          · exact hq _ _ _ _ _ _ hv6 hM ht h
    · refine spX11_matchOf (fun r3 M1 t2 cr3 cM1 ct2 hr3 hM1 ht2 h => ?_) hM ht hv1 hv8 h
      exact ⟨5000, sX11_vex_66 hq ih 5000 _ _ _ _ _ _ _ _ _ _ _ _ _ _ _ _ _ _ _ _ _ _ _ _ hM1 ht2 hv1 hv2 hv3 hv4 hv5 hv6 hv7 hv8 hr3 (rfl : (1 : Int32) = nI 1) h⟩
noncomputable def epX11_vex (q : Nat → Nat → Nat → Bool) (cM ct cv1 cv2 : Nat) : Bool :=
  (epX11_isBank (fun cr3 cM1 ct2 => (@Bool.rec (fun _ => Bool) (epX11_in (fun cr6 cM4 ct5 => (@Bool.rec (fun _ => Bool) (eX11_vex_45 q  5000 cM4 ct5 cv1 cv2 0 0 4294967292 4294967292 (mN 6 (sN 1 cv1)) 0) (q 4294967295 cM4 ct5) (eqN cr6 0))) cM1 ct2 (xN cv2) 0 2) (q 4294967295 cM1 ct2) (eqN cr3 0))) cM ct cv1)
set_option maxHeartbeats 4000000 in
set_option maxRecDepth 20000 in
theorem spX11_vex {post : Int32 → MM → Int64 → Prop} {q : Nat → Nat → Nat → Bool} (hq : ∀ (r : Int32) (M : MM) (tl : Int64) (cr cM ct : Nat), r = nI cr → M = dM cM → tl = i64 ct → q cr cM ct = true → post r M tl) {M : MM} {tl : Int64} {v1 : Int32} {v2 : Int32} {cM ct cv1 cv2 : Nat} (hM : M = dM cM) (ht : tl = i64 ct) (hv1 : v1 = nI cv1) (hv2 : v2 = nI cv2) (h : epX11_vex q  cM ct cv1 cv2 = true) : wpX11_vex post  M tl v1 v2 := by
  unfold wpX11_vex
  unfold epX11_vex at h
  refine spX11_isBank (fun r3 M1 t2 cr3 cM1 ct2 hr3 hM1 ht2 h => ?_) hM ht hv1 h
  refine e_ite (c_eq hr3 (rfl : (0 : Int32) = nI 0)) h (fun h => ?_) (fun h => ?_)
  · exact hq _ _ _ _ _ _ lm1 hM1 ht2 h
  · refine spX11_in (fun r6 M4 t5 cr6 cM4 ct5 hr6 hM4 ht5 h => ?_) hM1 ht2 (r_ext hv2) (rfl : (0 : Int64) = i64 0) (rfl : (2 : Int64) = i64 2) h
    refine e_ite (c_eq hr6 (rfl : (0 : Int32) = nI 0)) h (fun h => ?_) (fun h => ?_)
    · exact hq _ _ _ _ _ _ lm1 hM4 ht5 h
    · exact ⟨5000, sX11_vex_45 hq  5000 _ _ _ _ _ _ _ _ _ _ _ _ _ _ _ _ _ _ _ _ hM4 ht5 hv1 hv2 (rfl : (0 : Int32) = nI 0) (rfl : (0 : Int32) = nI 0) lm4 lm4 (r_mul (rfl : (6 : Int32) = nI 6) (r_sub (rfl : (1 : Int32) = nI 1) hv1)) (rfl : (0 : Int32) = nI 0) h⟩
noncomputable def epX11_want (q : Nat → Nat → Nat → Bool) (cM ct cv1 cv2 : Nat) : Bool :=
  (epX11_isLot (fun cr3 cM1 ct2 => (@Bool.rec (fun _ => Bool) (epX11_in (fun cr6 cM4 ct5 => (@Bool.rec (fun _ => Bool) (@Bool.rec (fun _ => Bool) false (@Bool.rec (fun _ => Bool) (@Bool.rec (fun _ => Bool) false (@Bool.rec (fun _ => Bool) false (wrB (fun cM10 => (@Bool.rec (fun _ => Bool) false (wrB (fun cM12 => (@Bool.rec (fun _ => Bool) false (@Bool.rec (fun _ => Bool) false (wrB (fun cM15 => (@Bool.rec (fun _ => Bool) false (q (rd cM15 82 (tN 65)) cM15 ct5) (inN 65 (alF 82)))) cM12 82 (tN 65) (aN (rd cM12 82 (tN 65)) 1)) (inN 65 (alF 82))) (inN 65 (alF 82)))) cM10 82 (tN (aN (aN 66 (mN 2 (rd cM4 82 (tN 65)))) 1)) cv2) (inN (aN (aN 66 (mN 2 (rd cM4 82 (tN 65)))) 1) (alF 82)))) cM4 82 (tN (aN 66 (mN 2 (rd cM4 82 (tN 65))))) cv1) (inN (aN 66 (mN 2 (rd cM4 82 (tN 65)))) (alF 82))) (inN 65 (alF 82))) (q 4294967293 cM4 ct5) (eqN (rd cM4 82 (tN 65)) 6)) (inN 65 (alF 82))) (q 4294967295 cM4 ct5) (eqN cr6 0))) cM1 ct2 (xN cv2) 1 5) (q 4294967295 cM1 ct2) (eqN cr3 0))) cM ct 0 cv1)
set_option maxHeartbeats 4000000 in
set_option maxRecDepth 20000 in
theorem spX11_want {post : Int32 → MM → Int64 → Prop} {q : Nat → Nat → Nat → Bool} (hq : ∀ (r : Int32) (M : MM) (tl : Int64) (cr cM ct : Nat), r = nI cr → M = dM cM → tl = i64 ct → q cr cM ct = true → post r M tl) {M : MM} {tl : Int64} {v1 : Int32} {v2 : Int32} {cM ct cv1 cv2 : Nat} (hM : M = dM cM) (ht : tl = i64 ct) (hv1 : v1 = nI cv1) (hv2 : v2 = nI cv2) (h : epX11_want q  cM ct cv1 cv2 = true) : wpX11_want post  M tl v1 v2 := by
  unfold wpX11_want
  unfold epX11_want at h
  refine spX11_isLot (fun r3 M1 t2 cr3 cM1 ct2 hr3 hM1 ht2 h => ?_) hM ht (rfl : (0 : Int32) = nI 0) hv1 h
  refine e_ite (c_eq hr3 (rfl : (0 : Int32) = nI 0)) h (fun h => ?_) (fun h => ?_)
  · exact hq _ _ _ _ _ _ lm1 hM1 ht2 h
  · refine spX11_in (fun r6 M4 t5 cr6 cM4 ct5 hr6 hM4 ht5 h => ?_) hM1 ht2 (r_ext hv2) (rfl : (1 : Int64) = i64 1) (rfl : (5 : Int64) = i64 5) h
    refine e_ite (c_eq hr6 (rfl : (0 : Int32) = nI 0)) h (fun h => ?_) (fun h => ?_)
    · exact hq _ _ _ _ _ _ lm1 hM4 ht5 h
    · refine e_and (k_in (rfl : (65 : Int32) = nI 65) (r_al (rfl : (82 : Nat) = 82))) h (fun h => ?_)
      refine e_ite (c_eq (r_rd hM4 (rfl : (82 : Nat) = 82) (r_nat (rfl : (65 : Int32) = nI 65))) (rfl : (6 : Int32) = nI 6)) h (fun h => ?_) (fun h => ?_)
      · exact hq _ _ _ _ _ _ lm3 hM4 ht5 h
      · refine e_and (k_in (rfl : (65 : Int32) = nI 65) (r_al (rfl : (82 : Nat) = 82))) h (fun h => ?_)
        refine e_and (k_in (r_add (rfl : (66 : Int32) = nI 66) (r_mul (rfl : (2 : Int32) = nI 2) (r_rd hM4 (rfl : (82 : Nat) = 82) (r_nat (rfl : (65 : Int32) = nI 65))))) (r_al (rfl : (82 : Nat) = 82))) h (fun h => ?_)
        refine e_wr h hM4 (rfl : (82 : Nat) = 82) (r_nat (r_add (rfl : (66 : Int32) = nI 66) (r_mul (rfl : (2 : Int32) = nI 2) (r_rd hM4 (rfl : (82 : Nat) = 82) (r_nat (rfl : (65 : Int32) = nI 65)))))) hv1 (fun M10 cM10 hM10 h => ?_)
        refine e_and (k_in (r_add (r_add (rfl : (66 : Int32) = nI 66) (r_mul (rfl : (2 : Int32) = nI 2) (r_rd hM4 (rfl : (82 : Nat) = 82) (r_nat (rfl : (65 : Int32) = nI 65))))) (rfl : (1 : Int32) = nI 1)) (r_al (rfl : (82 : Nat) = 82))) h (fun h => ?_)
        refine e_wr h hM10 (rfl : (82 : Nat) = 82) (r_nat (r_add (r_add (rfl : (66 : Int32) = nI 66) (r_mul (rfl : (2 : Int32) = nI 2) (r_rd hM4 (rfl : (82 : Nat) = 82) (r_nat (rfl : (65 : Int32) = nI 65))))) (rfl : (1 : Int32) = nI 1))) hv2 (fun M12 cM12 hM12 h => ?_)
        refine e_and (k_in (rfl : (65 : Int32) = nI 65) (r_al (rfl : (82 : Nat) = 82))) h (fun h => ?_)
        refine e_and (k_in (rfl : (65 : Int32) = nI 65) (r_al (rfl : (82 : Nat) = 82))) h (fun h => ?_)
        refine e_wr h hM12 (rfl : (82 : Nat) = 82) (r_nat (rfl : (65 : Int32) = nI 65)) (r_add (r_rd hM12 (rfl : (82 : Nat) = 82) (r_nat (rfl : (65 : Int32) = nI 65))) (rfl : (1 : Int32) = nI 1)) (fun M15 cM15 hM15 h => ?_)
        refine e_and (k_in (rfl : (65 : Int32) = nI 65) (r_al (rfl : (82 : Nat) = 82))) h (fun h => ?_)
        exact hq _ _ _ _ _ _ (r_rd hM15 (rfl : (82 : Nat) = 82) (r_nat (rfl : (65 : Int32) = nI 65))) hM15 ht5 h
noncomputable def epX11_content (q : Nat → Nat → Nat → Bool) (cM ct  : Nat) : Bool :=
  (@Bool.rec (fun _ => Bool) false (@Bool.rec (fun _ => Bool) false (wrB (fun cM3 => (q (rd cM 82 (tN 65)) cM3 ct)) cM 82 (tN 65) 0) (inN 65 (alF 82))) (inN 65 (alF 82)))
set_option maxHeartbeats 4000000 in
set_option maxRecDepth 20000 in
theorem spX11_content {post : Int32 → MM → Int64 → Prop} {q : Nat → Nat → Nat → Bool} (hq : ∀ (r : Int32) (M : MM) (tl : Int64) (cr cM ct : Nat), r = nI cr → M = dM cM → tl = i64 ct → q cr cM ct = true → post r M tl) {M : MM} {tl : Int64} {cM ct  : Nat} (hM : M = dM cM) (ht : tl = i64 ct)  (h : epX11_content q  cM ct  = true) : wpX11_content post  M tl  := by
  unfold wpX11_content
  unfold epX11_content at h
  refine e_and (k_in (rfl : (65 : Int32) = nI 65) (r_al (rfl : (82 : Nat) = 82))) h (fun h => ?_)
  refine e_and (k_in (rfl : (65 : Int32) = nI 65) (r_al (rfl : (82 : Nat) = 82))) h (fun h => ?_)
  refine e_wr h hM (rfl : (82 : Nat) = 82) (r_nat (rfl : (65 : Int32) = nI 65)) (rfl : (0 : Int32) = nI 0) (fun M3 cM3 hM3 h => ?_)
  exact hq _ _ _ _ _ _ (r_rd hM (rfl : (82 : Nat) = 82) (r_nat (rfl : (65 : Int32) = nI 65))) hM3 ht h
noncomputable def eX11_bitsOf_4 (q : Nat → Nat → Nat → Bool) (n : Nat) : Nat → Nat → Nat → Nat → Nat → Bool :=
  @Nat.rec (fun _ => Nat → Nat → Nat → Nat → Nat → Bool) (fun _ _ _ _ _ => false) (fun _ ih cM ct cv0 cv1 cv2 => (@Bool.rec (fun _ => Bool) (ih cM ct cv0 (aN cv1 (Nat.land (b2 f_shr cv0 cv2) 1)) (aN cv2 1)) (q cv1 cM ct) (leN 12 cv2))) n
set_option maxHeartbeats 4000000 in
set_option maxRecDepth 20000 in
theorem sX11_bitsOf_4 {post : Int32 → MM → Int64 → Prop} {q : Nat → Nat → Nat → Bool} (hq : ∀ (r : Int32) (M : MM) (tl : Int64) (cr cM ct : Nat), r = nI cr → M = dM cM → tl = i64 ct → q cr cM ct = true → post r M tl) : ∀ (n : Nat) (M : MM) (tl : Int64) (v0 : Int32) (v1 : Int32) (v2 : Int32) (cM ct cv0 cv1 cv2 : Nat), M = dM cM → tl = i64 ct → v0 = nI cv0 → v1 = nI cv1 → v2 = nI cv2 → eX11_bitsOf_4 q  n cM ct cv0 cv1 cv2 = true → wX11_bitsOf_4 post  n M tl v0 v1 v2 := by
  intro n
  induction n with
  | zero => intro M tl v0 v1 v2 cM ct cv0 cv1 cv2 hM ht hv0 hv1 hv2 h; exact Bool.noConfusion h
  | succ n ih =>
    intro M tl v0 v1 v2 cM ct cv0 cv1 cv2 hM ht hv0 hv1 hv2 h
    unfold wX11_bitsOf_4
    refine e_ite (c_le (rfl : (12 : Int32) = nI 12) hv2) h (fun h => ?_) (fun h => ?_)
    · exact hq _ _ _ _ _ _ hv1 hM ht h
    · exact ih _ _ _ _ _ _ _ _ _ _ hM ht hv0 (r_add hv1 (r_and (r_b2 f_shr hv0 hv2) (rfl : (1 : Int32) = nI 1))) (r_add hv2 (rfl : (1 : Int32) = nI 1)) h
noncomputable def epX11_bitsOf (q : Nat → Nat → Nat → Bool) (cM ct cv0 : Nat) : Bool :=
  (eX11_bitsOf_4 q  5000 cM ct cv0 0 0)
set_option maxHeartbeats 4000000 in
set_option maxRecDepth 20000 in
theorem spX11_bitsOf {post : Int32 → MM → Int64 → Prop} {q : Nat → Nat → Nat → Bool} (hq : ∀ (r : Int32) (M : MM) (tl : Int64) (cr cM ct : Nat), r = nI cr → M = dM cM → tl = i64 ct → q cr cM ct = true → post r M tl) {M : MM} {tl : Int64} {v0 : Int32} {cM ct cv0 : Nat} (hM : M = dM cM) (ht : tl = i64 ct) (hv0 : v0 = nI cv0) (h : epX11_bitsOf q  cM ct cv0 = true) : wpX11_bitsOf post  M tl v0 := by
  unfold wpX11_bitsOf
  unfold epX11_bitsOf at h
  exact ⟨5000, sX11_bitsOf_4 hq  5000 _ _ _ _ _ _ _ _ _ _ hM ht hv0 (rfl : (0 : Int32) = nI 0) (rfl : (0 : Int32) = nI 0) h⟩
noncomputable def epX11_wantCost (q : Nat → Nat → Nat → Bool) (cM ct cv1 cv2 : Nat) : Bool :=
  (@Bool.rec (fun _ => Bool) false (@Bool.rec (fun _ => Bool) false (@Bool.rec (fun _ => Bool) false (@Bool.rec (fun _ => Bool) false (@Bool.rec (fun _ => Bool) false (q (mN (rd cM 84 (tN (sN cv2 (mN (b2 f_div cv2 4) 4)))) (aN (rd cM 85 (tN (rd cM 82 (tN (aN (aN 66 (mN 2 cv1)) 1))))) (rd cM 85 (tN (aN 6 (rd cM 88 (tN (rd cM 82 (tN (aN (aN 66 (mN 2 cv1)) 1)))))))))) cM ct) (inN (aN 6 (rd cM 88 (tN (rd cM 82 (tN (aN (aN 66 (mN 2 cv1)) 1)))))) (alF 85))) (inN (rd cM 82 (tN (aN (aN 66 (mN 2 cv1)) 1))) (alF 88))) (inN (rd cM 82 (tN (aN (aN 66 (mN 2 cv1)) 1))) (alF 85))) (inN (sN cv2 (mN (b2 f_div cv2 4) 4)) (alF 84))) (inN (aN (aN 66 (mN 2 cv1)) 1) (alF 82)))
set_option maxHeartbeats 4000000 in
set_option maxRecDepth 20000 in
theorem spX11_wantCost {post : Int32 → MM → Int64 → Prop} {q : Nat → Nat → Nat → Bool} (hq : ∀ (r : Int32) (M : MM) (tl : Int64) (cr cM ct : Nat), r = nI cr → M = dM cM → tl = i64 ct → q cr cM ct = true → post r M tl) {M : MM} {tl : Int64} {v1 : Int32} {v2 : Int32} {cM ct cv1 cv2 : Nat} (hM : M = dM cM) (ht : tl = i64 ct) (hv1 : v1 = nI cv1) (hv2 : v2 = nI cv2) (h : epX11_wantCost q  cM ct cv1 cv2 = true) : wpX11_wantCost post  M tl v1 v2 := by
  unfold wpX11_wantCost
  unfold epX11_wantCost at h
  refine e_and (k_in (r_add (r_add (rfl : (66 : Int32) = nI 66) (r_mul (rfl : (2 : Int32) = nI 2) hv1)) (rfl : (1 : Int32) = nI 1)) (r_al (rfl : (82 : Nat) = 82))) h (fun h => ?_)
  refine e_and (k_in (r_sub hv2 (r_mul (r_b2 f_div hv2 (rfl : (4 : Int32) = nI 4)) (rfl : (4 : Int32) = nI 4))) (r_al (rfl : (84 : Nat) = 84))) h (fun h => ?_)
  refine e_and (k_in (r_rd hM (rfl : (82 : Nat) = 82) (r_nat (r_add (r_add (rfl : (66 : Int32) = nI 66) (r_mul (rfl : (2 : Int32) = nI 2) hv1)) (rfl : (1 : Int32) = nI 1)))) (r_al (rfl : (85 : Nat) = 85))) h (fun h => ?_)
  refine e_and (k_in (r_rd hM (rfl : (82 : Nat) = 82) (r_nat (r_add (r_add (rfl : (66 : Int32) = nI 66) (r_mul (rfl : (2 : Int32) = nI 2) hv1)) (rfl : (1 : Int32) = nI 1)))) (r_al (rfl : (88 : Nat) = 88))) h (fun h => ?_)
  refine e_and (k_in (r_add (rfl : (6 : Int32) = nI 6) (r_rd hM (rfl : (88 : Nat) = 88) (r_nat (r_rd hM (rfl : (82 : Nat) = 82) (r_nat (r_add (r_add (rfl : (66 : Int32) = nI 66) (r_mul (rfl : (2 : Int32) = nI 2) hv1)) (rfl : (1 : Int32) = nI 1))))))) (r_al (rfl : (85 : Nat) = 85))) h (fun h => ?_)
  exact hq _ _ _ _ _ _ (r_mul (r_rd hM (rfl : (84 : Nat) = 84) (r_nat (r_sub hv2 (r_mul (r_b2 f_div hv2 (rfl : (4 : Int32) = nI 4)) (rfl : (4 : Int32) = nI 4))))) (r_add (r_rd hM (rfl : (85 : Nat) = 85) (r_nat (r_rd hM (rfl : (82 : Nat) = 82) (r_nat (r_add (r_add (rfl : (66 : Int32) = nI 66) (r_mul (rfl : (2 : Int32) = nI 2) hv1)) (rfl : (1 : Int32) = nI 1)))))) (r_rd hM (rfl : (85 : Nat) = 85) (r_nat (r_add (rfl : (6 : Int32) = nI 6) (r_rd hM (rfl : (88 : Nat) = 88) (r_nat (r_rd hM (rfl : (82 : Nat) = 82) (r_nat (r_add (r_add (rfl : (66 : Int32) = nI 66) (r_mul (rfl : (2 : Int32) = nI 2) hv1)) (rfl : (1 : Int32) = nI 1))))))))))) hM ht h
noncomputable def eX11_findRests_118 (q : Nat → Nat → Bool) (cbk4 : Nat → Nat → Nat → Nat → Bool) (cbk40 : Nat → Nat → Nat → Nat → Nat → Nat → Bool) (cM ct cv1 cv2 cv3 cv4 : Nat) : Bool :=
  (cbk40 cM ct cv1 cv2 cv3 (aN cv4 1))
set_option maxHeartbeats 4000000 in
set_option maxRecDepth 20000 in
theorem sX11_findRests_118 {post : MM → Int64 → Prop} {q : Nat → Nat → Bool} (hq : ∀ (M : MM) (tl : Int64) (cM ct : Nat), M = dM cM → tl = i64 ct → q cM ct = true → post M tl) {bk4 : MM → Int64 → Int32 → Int32 → Prop} {cbk4 : Nat → Nat → Nat → Nat → Bool} (hbk4 : ∀ (M : MM) (tl : Int64) (x0 : Int32) (x1 : Int32) (cM ct cx0 cx1 : Nat), M = dM cM → tl = i64 ct → x0 = nI cx0 → x1 = nI cx1 → cbk4 cM ct cx0 cx1 = true → bk4 M tl x0 x1) {bk40 : MM → Int64 → Int32 → Int32 → Int32 → Int32 → Prop} {cbk40 : Nat → Nat → Nat → Nat → Nat → Nat → Bool} (hbk40 : ∀ (M : MM) (tl : Int64) (x0 : Int32) (x1 : Int32) (x2 : Int32) (x3 : Int32) (cM ct cx0 cx1 cx2 cx3 : Nat), M = dM cM → tl = i64 ct → x0 = nI cx0 → x1 = nI cx1 → x2 = nI cx2 → x3 = nI cx3 → cbk40 cM ct cx0 cx1 cx2 cx3 = true → bk40 M tl x0 x1 x2 x3) {M : MM} {tl : Int64} {v1 : Int32} {v2 : Int32} {v3 : Int32} {v4 : Int32} {cM ct cv1 cv2 cv3 cv4 : Nat} (hM : M = dM cM) (ht : tl = i64 ct) (hv1 : v1 = nI cv1) (hv2 : v2 = nI cv2) (hv3 : v3 = nI cv3) (hv4 : v4 = nI cv4) (h : eX11_findRests_118 q cbk4 cbk40 cM ct cv1 cv2 cv3 cv4 = true) : wX11_findRests_118 post bk4 bk40 M tl v1 v2 v3 v4 := by
  unfold wX11_findRests_118
  unfold eX11_findRests_118 at h
  exact hbk40 _ _ _ _ _ _ _ _ _ _ _ _ hM ht hv1 hv2 hv3 (r_add hv4 (rfl : (1 : Int32) = nI 1)) h
noncomputable def eX11_findRests_117 (q : Nat → Nat → Bool) (cbk4 : Nat → Nat → Nat → Nat → Bool) (cbk40 : Nat → Nat → Nat → Nat → Nat → Nat → Bool) (cM ct cv1 cv2 cv3 cv4 cs1 cs2 : Nat) : Bool :=
  (@Bool.rec (fun _ => Bool) false (wrB (fun cM2 => (eX11_findRests_118 q cbk4 cbk40 cM2 ct cv1 cv2 cv3 cv4)) cM 104 (tN cs1) cs2) (inN cs1 (alF 104)))
set_option maxHeartbeats 4000000 in
set_option maxRecDepth 20000 in
theorem sX11_findRests_117 {post : MM → Int64 → Prop} {q : Nat → Nat → Bool} (hq : ∀ (M : MM) (tl : Int64) (cM ct : Nat), M = dM cM → tl = i64 ct → q cM ct = true → post M tl) {bk4 : MM → Int64 → Int32 → Int32 → Prop} {cbk4 : Nat → Nat → Nat → Nat → Bool} (hbk4 : ∀ (M : MM) (tl : Int64) (x0 : Int32) (x1 : Int32) (cM ct cx0 cx1 : Nat), M = dM cM → tl = i64 ct → x0 = nI cx0 → x1 = nI cx1 → cbk4 cM ct cx0 cx1 = true → bk4 M tl x0 x1) {bk40 : MM → Int64 → Int32 → Int32 → Int32 → Int32 → Prop} {cbk40 : Nat → Nat → Nat → Nat → Nat → Nat → Bool} (hbk40 : ∀ (M : MM) (tl : Int64) (x0 : Int32) (x1 : Int32) (x2 : Int32) (x3 : Int32) (cM ct cx0 cx1 cx2 cx3 : Nat), M = dM cM → tl = i64 ct → x0 = nI cx0 → x1 = nI cx1 → x2 = nI cx2 → x3 = nI cx3 → cbk40 cM ct cx0 cx1 cx2 cx3 = true → bk40 M tl x0 x1 x2 x3) {M : MM} {tl : Int64} {v1 : Int32} {v2 : Int32} {v3 : Int32} {v4 : Int32} {s1 : Int32} {s2 : Int32} {cM ct cv1 cv2 cv3 cv4 cs1 cs2 : Nat} (hM : M = dM cM) (ht : tl = i64 ct) (hv1 : v1 = nI cv1) (hv2 : v2 = nI cv2) (hv3 : v3 = nI cv3) (hv4 : v4 = nI cv4) (hs1 : s1 = nI cs1) (hs2 : s2 = nI cs2) (h : eX11_findRests_117 q cbk4 cbk40 cM ct cv1 cv2 cv3 cv4 cs1 cs2 = true) : wX11_findRests_117 post bk4 bk40 M tl v1 v2 v3 v4 s1 s2 := by
  unfold wX11_findRests_117
  unfold eX11_findRests_117 at h
  refine e_and (k_in hs1 (r_al (rfl : (104 : Nat) = 104))) h (fun h => ?_)
  refine e_wr h hM (rfl : (104 : Nat) = 104) (r_nat hs1) hs2 (fun M2 cM2 hM2 h => ?_)
  exact sX11_findRests_118 hq hbk4 hbk40 hM2 ht hv1 hv2 hv3 hv4 h
noncomputable def eX11_findRests_124 (q : Nat → Nat → Bool) (cbk4 : Nat → Nat → Nat → Nat → Bool) (cM ct cv1 cv2 : Nat) : Bool :=
  (cbk4 cM ct cv1 (aN cv2 4294967295))
set_option maxHeartbeats 4000000 in
set_option maxRecDepth 20000 in
theorem sX11_findRests_124 {post : MM → Int64 → Prop} {q : Nat → Nat → Bool} (hq : ∀ (M : MM) (tl : Int64) (cM ct : Nat), M = dM cM → tl = i64 ct → q cM ct = true → post M tl) {bk4 : MM → Int64 → Int32 → Int32 → Prop} {cbk4 : Nat → Nat → Nat → Nat → Bool} (hbk4 : ∀ (M : MM) (tl : Int64) (x0 : Int32) (x1 : Int32) (cM ct cx0 cx1 : Nat), M = dM cM → tl = i64 ct → x0 = nI cx0 → x1 = nI cx1 → cbk4 cM ct cx0 cx1 = true → bk4 M tl x0 x1) {M : MM} {tl : Int64} {v1 : Int32} {v2 : Int32} {cM ct cv1 cv2 : Nat} (hM : M = dM cM) (ht : tl = i64 ct) (hv1 : v1 = nI cv1) (hv2 : v2 = nI cv2) (h : eX11_findRests_124 q cbk4 cM ct cv1 cv2 = true) : wX11_findRests_124 post bk4 M tl v1 v2 := by
  unfold wX11_findRests_124
  unfold eX11_findRests_124 at h
  exact hbk4 _ _ _ _ _ _ _ _ hM ht hv1 (r_add hv2 lm1) h
noncomputable def eX11_findRests_40 (q : Nat → Nat → Bool) (cbk4 : Nat → Nat → Nat → Nat → Bool) (n : Nat) : Nat → Nat → Nat → Nat → Nat → Nat → Bool :=
  @Nat.rec (fun _ => Nat → Nat → Nat → Nat → Nat → Nat → Bool) (fun _ _ _ _ _ _ => false) (fun _ ih cM ct cv1 cv2 cv3 cv4 => (@Bool.rec (fun _ => Bool) (@Bool.rec (fun _ => Bool) false (@Bool.rec (fun _ => Bool) (@Bool.rec (fun _ => Bool) (eX11_findRests_118 q cbk4 ih cM ct cv1 cv2 cv3 cv4) (epX11_wantCost (fun cr4 cM2 ct3 => (@Bool.rec (fun _ => Bool) false (@Bool.rec (fun _ => Bool) false (@Bool.rec (fun _ => Bool) (eX11_findRests_117 q cbk4 ih cM2 ct3 cv1 cv2 cv3 cv4 cv2 (aN cr4 (rd cM2 104 (tN (Nat.lor cv2 (b2 f_shl 1 cv4)))))) (@Bool.rec (fun _ => Bool) false (eX11_findRests_117 q cbk4 ih cM2 ct3 cv1 cv2 cv3 cv4 cv2 (rd cM2 104 (tN cv2))) (inN cv2 (alF 104))) (leN (rd cM2 104 (tN cv2)) (aN cr4 (rd cM2 104 (tN (Nat.lor cv2 (b2 f_shl 1 cv4))))))) (inN cv2 (alF 104))) (inN (Nat.lor cv2 (b2 f_shl 1 cv4)) (alF 104)))) cM ct cv3 (aN cv1 cv4)) (eqN (Nat.land (b2 f_shr cv2 cv4) 1) 0)) (eX11_findRests_124 q cbk4 cM ct cv1 cv2) (leN (rd cM 82 (tN 65)) cv3)) (inN 65 (alF 82))) (eX11_findRests_124 q cbk4 cM ct cv1 cv2) (leN 12 cv4))) n
set_option maxHeartbeats 4000000 in
set_option maxRecDepth 20000 in
theorem sX11_findRests_40 {post : MM → Int64 → Prop} {q : Nat → Nat → Bool} (hq : ∀ (M : MM) (tl : Int64) (cM ct : Nat), M = dM cM → tl = i64 ct → q cM ct = true → post M tl) {bk4 : MM → Int64 → Int32 → Int32 → Prop} {cbk4 : Nat → Nat → Nat → Nat → Bool} (hbk4 : ∀ (M : MM) (tl : Int64) (x0 : Int32) (x1 : Int32) (cM ct cx0 cx1 : Nat), M = dM cM → tl = i64 ct → x0 = nI cx0 → x1 = nI cx1 → cbk4 cM ct cx0 cx1 = true → bk4 M tl x0 x1) : ∀ (n : Nat) (M : MM) (tl : Int64) (v1 : Int32) (v2 : Int32) (v3 : Int32) (v4 : Int32) (cM ct cv1 cv2 cv3 cv4 : Nat), M = dM cM → tl = i64 ct → v1 = nI cv1 → v2 = nI cv2 → v3 = nI cv3 → v4 = nI cv4 → eX11_findRests_40 q cbk4 n cM ct cv1 cv2 cv3 cv4 = true → wX11_findRests_40 post bk4 n M tl v1 v2 v3 v4 := by
  intro n
  induction n with
  | zero => intro M tl v1 v2 v3 v4 cM ct cv1 cv2 cv3 cv4 hM ht hv1 hv2 hv3 hv4 h; exact Bool.noConfusion h
  | succ n ih =>
    intro M tl v1 v2 v3 v4 cM ct cv1 cv2 cv3 cv4 hM ht hv1 hv2 hv3 hv4 h
    unfold wX11_findRests_40
    refine e_ite (c_le (rfl : (12 : Int32) = nI 12) hv4) h (fun h => ?_) (fun h => ?_)
    · exact sX11_findRests_124 hq hbk4 hM ht hv1 hv2 h
    · refine e_and (k_in (rfl : (65 : Int32) = nI 65) (r_al (rfl : (82 : Nat) = 82))) h (fun h => ?_)
      refine e_ite (c_le (r_rd hM (rfl : (82 : Nat) = 82) (r_nat (rfl : (65 : Int32) = nI 65))) hv3) h (fun h => ?_) (fun h => ?_)
      · exact sX11_findRests_124 hq hbk4 hM ht hv1 hv2 h
      · refine e_ite (c_eq (r_and (r_b2 f_shr hv2 hv4) (rfl : (1 : Int32) = nI 1)) (rfl : (0 : Int32) = nI 0)) h (fun h => ?_) (fun h => ?_)
        · refine spX11_wantCost (fun r4 M2 t3 cr4 cM2 ct3 hr4 hM2 ht3 h => ?_) hM ht hv3 (r_add hv1 hv4) h
          refine e_and (k_in (r_or hv2 (r_b2 f_shl (rfl : (1 : Int32) = nI 1) hv4)) (r_al (rfl : (104 : Nat) = 104))) h (fun h => ?_)
          refine e_and (k_in hv2 (r_al (rfl : (104 : Nat) = 104))) h (fun h => ?_)
          refine e_ite (c_le (r_rd hM2 (rfl : (104 : Nat) = 104) (r_nat hv2)) (r_add hr4 (r_rd hM2 (rfl : (104 : Nat) = 104) (r_nat (r_or hv2 (r_b2 f_shl (rfl : (1 : Int32) = nI 1) hv4)))))) h (fun h => ?_) (fun h => ?_)
          · refine e_and (k_in hv2 (r_al (rfl : (104 : Nat) = 104))) h (fun h => ?_)
            exact sX11_findRests_117 hq hbk4 ih hM2 ht3 hv1 hv2 hv3 hv4 hv2 (r_rd hM2 (rfl : (104 : Nat) = 104) (r_nat hv2)) h
          · exact sX11_findRests_117 hq hbk4 ih hM2 ht3 hv1 hv2 hv3 hv4 hv2 (r_add hr4 (r_rd hM2 (rfl : (104 : Nat) = 104) (r_nat (r_or hv2 (r_b2 f_shl (rfl : (1 : Int32) = nI 1) hv4))))) h
        · exact sX11_findRests_118 hq hbk4 ih hM ht hv1 hv2 hv3 hv4 h
noncomputable def eX11_findRests_36 (q : Nat → Nat → Bool) (cbk4 : Nat → Nat → Nat → Nat → Bool) (cM ct cv1 cv2 cv3 cs1 cs2 : Nat) : Bool :=
  (@Bool.rec (fun _ => Bool) false (wrB (fun cM2 => (eX11_findRests_40 q cbk4 5000 cM2 ct cv1 cv2 cv3 0)) cM 104 (tN cs1) cs2) (inN cs1 (alF 104)))
set_option maxHeartbeats 4000000 in
set_option maxRecDepth 20000 in
theorem sX11_findRests_36 {post : MM → Int64 → Prop} {q : Nat → Nat → Bool} (hq : ∀ (M : MM) (tl : Int64) (cM ct : Nat), M = dM cM → tl = i64 ct → q cM ct = true → post M tl) {bk4 : MM → Int64 → Int32 → Int32 → Prop} {cbk4 : Nat → Nat → Nat → Nat → Bool} (hbk4 : ∀ (M : MM) (tl : Int64) (x0 : Int32) (x1 : Int32) (cM ct cx0 cx1 : Nat), M = dM cM → tl = i64 ct → x0 = nI cx0 → x1 = nI cx1 → cbk4 cM ct cx0 cx1 = true → bk4 M tl x0 x1) {M : MM} {tl : Int64} {v1 : Int32} {v2 : Int32} {v3 : Int32} {s1 : Int32} {s2 : Int32} {cM ct cv1 cv2 cv3 cs1 cs2 : Nat} (hM : M = dM cM) (ht : tl = i64 ct) (hv1 : v1 = nI cv1) (hv2 : v2 = nI cv2) (hv3 : v3 = nI cv3) (hs1 : s1 = nI cs1) (hs2 : s2 = nI cs2) (h : eX11_findRests_36 q cbk4 cM ct cv1 cv2 cv3 cs1 cs2 = true) : wX11_findRests_36 post bk4 M tl v1 v2 v3 s1 s2 := by
  unfold wX11_findRests_36
  unfold eX11_findRests_36 at h
  refine e_and (k_in hs1 (r_al (rfl : (104 : Nat) = 104))) h (fun h => ?_)
  refine e_wr h hM (rfl : (104 : Nat) = 104) (r_nat hs1) hs2 (fun M2 cM2 hM2 h => ?_)
  exact ⟨5000, sX11_findRests_40 hq hbk4 5000 _ _ _ _ _ _ _ _ _ _ _ _ hM2 ht hv1 hv2 hv3 (rfl : (0 : Int32) = nI 0) h⟩
noncomputable def eX11_findRests_4 (q : Nat → Nat → Bool) (n : Nat) : Nat → Nat → Nat → Nat → Bool :=
  @Nat.rec (fun _ => Nat → Nat → Nat → Nat → Bool) (fun _ _ _ _ => false) (fun _ ih cM ct cv1 cv2 => (@Bool.rec (fun _ => Bool) (epX11_bitsOf (fun cr3 cM1 ct2 => (@Bool.rec (fun _ => Bool) false (@Bool.rec (fun _ => Bool) (eX11_findRests_36 q ih cM1 ct2 cv1 cv2 cr3 cv2 99999) (eX11_findRests_36 q ih cM1 ct2 cv1 cv2 cr3 cv2 0) (eqN cr3 (rd cM1 82 (tN 65)))) (inN 65 (alF 82)))) cM ct cv2) (q cM ct) (ltN cv2 0))) n
set_option maxHeartbeats 4000000 in
set_option maxRecDepth 20000 in
theorem sX11_findRests_4 {post : MM → Int64 → Prop} {q : Nat → Nat → Bool} (hq : ∀ (M : MM) (tl : Int64) (cM ct : Nat), M = dM cM → tl = i64 ct → q cM ct = true → post M tl) : ∀ (n : Nat) (M : MM) (tl : Int64) (v1 : Int32) (v2 : Int32) (cM ct cv1 cv2 : Nat), M = dM cM → tl = i64 ct → v1 = nI cv1 → v2 = nI cv2 → eX11_findRests_4 q  n cM ct cv1 cv2 = true → wX11_findRests_4 post  n M tl v1 v2 := by
  intro n
  induction n with
  | zero => intro M tl v1 v2 cM ct cv1 cv2 hM ht hv1 hv2 h; exact Bool.noConfusion h
  | succ n ih =>
    intro M tl v1 v2 cM ct cv1 cv2 hM ht hv1 hv2 h
    unfold wX11_findRests_4
    refine e_ite (c_lt hv2 (rfl : (0 : Int32) = nI 0)) h (fun h => ?_) (fun h => ?_)
    · exact hq _ _ _ _ hM ht h
    · refine spX11_bitsOf (fun r3 M1 t2 cr3 cM1 ct2 hr3 hM1 ht2 h => ?_) hM ht hv2 h
      refine e_and (k_in (rfl : (65 : Int32) = nI 65) (r_al (rfl : (82 : Nat) = 82))) h (fun h => ?_)
      refine e_ite (c_eq hr3 (r_rd hM1 (rfl : (82 : Nat) = 82) (r_nat (rfl : (65 : Int32) = nI 65)))) h (fun h => ?_) (fun h => ?_)
      · exact sX11_findRests_36 hq ih hM1 ht2 hv1 hv2 hr3 hv2 (rfl : (0 : Int32) = nI 0) h
      · exact sX11_findRests_36 hq ih hM1 ht2 hv1 hv2 hr3 hv2 (rfl : (99999 : Int32) = nI 99999) h
noncomputable def epX11_findRests (q : Nat → Nat → Bool) (cM ct cv1 : Nat) : Bool :=
  (eX11_findRests_4 q  5000 cM ct cv1 4095)
set_option maxHeartbeats 4000000 in
set_option maxRecDepth 20000 in
theorem spX11_findRests {post : MM → Int64 → Prop} {q : Nat → Nat → Bool} (hq : ∀ (M : MM) (tl : Int64) (cM ct : Nat), M = dM cM → tl = i64 ct → q cM ct = true → post M tl) {M : MM} {tl : Int64} {v1 : Int32} {cM ct cv1 : Nat} (hM : M = dM cM) (ht : tl = i64 ct) (hv1 : v1 = nI cv1) (h : epX11_findRests q  cM ct cv1 = true) : wpX11_findRests post  M tl v1 := by
  unfold wpX11_findRests
  unfold epX11_findRests at h
  exact ⟨5000, sX11_findRests_4 hq  5000 _ _ _ _ _ _ _ _ hM ht hv1 (rfl : (4095 : Int32) = nI 4095) h⟩
noncomputable def eX11_plan_159 (q : Nat → Nat → Nat → Bool) (cbk78 : Nat → Nat → Nat → Nat → Nat → Nat → Nat → Bool) (cbk95 : Nat → Nat → Nat → Nat → Nat → Nat → Nat → Nat → Bool) (cM ct cv1 cv2 cv3 cv5 cv6 cs0 : Nat) : Bool :=
  (cbk95 cM ct cv1 cv2 cv3 cs0 cv5 (aN cv6 4294967295))
set_option maxHeartbeats 4000000 in
set_option maxRecDepth 20000 in
theorem sX11_plan_159 {post : Int32 → MM → Int64 → Prop} {q : Nat → Nat → Nat → Bool} (hq : ∀ (r : Int32) (M : MM) (tl : Int64) (cr cM ct : Nat), r = nI cr → M = dM cM → tl = i64 ct → q cr cM ct = true → post r M tl) {bk78 : MM → Int64 → Int32 → Int32 → Int32 → Int32 → Int32 → Prop} {cbk78 : Nat → Nat → Nat → Nat → Nat → Nat → Nat → Bool} (hbk78 : ∀ (M : MM) (tl : Int64) (x0 : Int32) (x1 : Int32) (x2 : Int32) (x3 : Int32) (x4 : Int32) (cM ct cx0 cx1 cx2 cx3 cx4 : Nat), M = dM cM → tl = i64 ct → x0 = nI cx0 → x1 = nI cx1 → x2 = nI cx2 → x3 = nI cx3 → x4 = nI cx4 → cbk78 cM ct cx0 cx1 cx2 cx3 cx4 = true → bk78 M tl x0 x1 x2 x3 x4) {bk95 : MM → Int64 → Int32 → Int32 → Int32 → Int32 → Int32 → Int32 → Prop} {cbk95 : Nat → Nat → Nat → Nat → Nat → Nat → Nat → Nat → Bool} (hbk95 : ∀ (M : MM) (tl : Int64) (x0 : Int32) (x1 : Int32) (x2 : Int32) (x3 : Int32) (x4 : Int32) (x5 : Int32) (cM ct cx0 cx1 cx2 cx3 cx4 cx5 : Nat), M = dM cM → tl = i64 ct → x0 = nI cx0 → x1 = nI cx1 → x2 = nI cx2 → x3 = nI cx3 → x4 = nI cx4 → x5 = nI cx5 → cbk95 cM ct cx0 cx1 cx2 cx3 cx4 cx5 = true → bk95 M tl x0 x1 x2 x3 x4 x5) {M : MM} {tl : Int64} {v1 : Int32} {v2 : Int32} {v3 : Int32} {v5 : Int32} {v6 : Int32} {s0 : Int32} {cM ct cv1 cv2 cv3 cv5 cv6 cs0 : Nat} (hM : M = dM cM) (ht : tl = i64 ct) (hv1 : v1 = nI cv1) (hv2 : v2 = nI cv2) (hv3 : v3 = nI cv3) (hv5 : v5 = nI cv5) (hv6 : v6 = nI cv6) (hs0 : s0 = nI cs0) (h : eX11_plan_159 q cbk78 cbk95 cM ct cv1 cv2 cv3 cv5 cv6 cs0 = true) : wX11_plan_159 post bk78 bk95 M tl v1 v2 v3 v5 v6 s0 := by
  unfold wX11_plan_159
  unfold eX11_plan_159 at h
  exact hbk95 _ _ _ _ _ _ _ _ _ _ _ _ _ _ _ _ hM ht hv1 hv2 hv3 hs0 hv5 (r_add hv6 lm1) h
noncomputable def eX11_plan_145 (q : Nat → Nat → Nat → Bool) (cbk78 : Nat → Nat → Nat → Nat → Nat → Nat → Nat → Bool) (cbk95 : Nat → Nat → Nat → Nat → Nat → Nat → Nat → Nat → Bool) (cM ct cv1 cv2 cv3 cv4 cv5 cv6 cs0 : Nat) : Bool :=
  (@Bool.rec (fun _ => Bool) (eX11_plan_159 q cbk78 cbk95 cM ct cv1 cv2 cv3 cv5 cv6 cv6) (eX11_plan_159 q cbk78 cbk95 cM ct cv1 cv2 cv3 cv5 cv6 cv4) (eqN cs0 0))
set_option maxHeartbeats 4000000 in
set_option maxRecDepth 20000 in
theorem sX11_plan_145 {post : Int32 → MM → Int64 → Prop} {q : Nat → Nat → Nat → Bool} (hq : ∀ (r : Int32) (M : MM) (tl : Int64) (cr cM ct : Nat), r = nI cr → M = dM cM → tl = i64 ct → q cr cM ct = true → post r M tl) {bk78 : MM → Int64 → Int32 → Int32 → Int32 → Int32 → Int32 → Prop} {cbk78 : Nat → Nat → Nat → Nat → Nat → Nat → Nat → Bool} (hbk78 : ∀ (M : MM) (tl : Int64) (x0 : Int32) (x1 : Int32) (x2 : Int32) (x3 : Int32) (x4 : Int32) (cM ct cx0 cx1 cx2 cx3 cx4 : Nat), M = dM cM → tl = i64 ct → x0 = nI cx0 → x1 = nI cx1 → x2 = nI cx2 → x3 = nI cx3 → x4 = nI cx4 → cbk78 cM ct cx0 cx1 cx2 cx3 cx4 = true → bk78 M tl x0 x1 x2 x3 x4) {bk95 : MM → Int64 → Int32 → Int32 → Int32 → Int32 → Int32 → Int32 → Prop} {cbk95 : Nat → Nat → Nat → Nat → Nat → Nat → Nat → Nat → Bool} (hbk95 : ∀ (M : MM) (tl : Int64) (x0 : Int32) (x1 : Int32) (x2 : Int32) (x3 : Int32) (x4 : Int32) (x5 : Int32) (cM ct cx0 cx1 cx2 cx3 cx4 cx5 : Nat), M = dM cM → tl = i64 ct → x0 = nI cx0 → x1 = nI cx1 → x2 = nI cx2 → x3 = nI cx3 → x4 = nI cx4 → x5 = nI cx5 → cbk95 cM ct cx0 cx1 cx2 cx3 cx4 cx5 = true → bk95 M tl x0 x1 x2 x3 x4 x5) {M : MM} {tl : Int64} {v1 : Int32} {v2 : Int32} {v3 : Int32} {v4 : Int32} {v5 : Int32} {v6 : Int32} {s0 : Int32} {cM ct cv1 cv2 cv3 cv4 cv5 cv6 cs0 : Nat} (hM : M = dM cM) (ht : tl = i64 ct) (hv1 : v1 = nI cv1) (hv2 : v2 = nI cv2) (hv3 : v3 = nI cv3) (hv4 : v4 = nI cv4) (hv5 : v5 = nI cv5) (hv6 : v6 = nI cv6) (hs0 : s0 = nI cs0) (h : eX11_plan_145 q cbk78 cbk95 cM ct cv1 cv2 cv3 cv4 cv5 cv6 cs0 = true) : wX11_plan_145 post bk78 bk95 M tl v1 v2 v3 v4 v5 v6 s0 := by
  unfold wX11_plan_145
  unfold eX11_plan_145 at h
  refine e_ite (c_eq hs0 (rfl : (0 : Int32) = nI 0)) h (fun h => ?_) (fun h => ?_)
  · exact sX11_plan_159 hq hbk78 hbk95 hM ht hv1 hv2 hv3 hv5 hv6 hv4 h
  · exact sX11_plan_159 hq hbk78 hbk95 hM ht hv1 hv2 hv3 hv5 hv6 hv6 h
noncomputable def eX11_plan_144 (q : Nat → Nat → Nat → Bool) (cbk78 : Nat → Nat → Nat → Nat → Nat → Nat → Nat → Bool) (cbk95 : Nat → Nat → Nat → Nat → Nat → Nat → Nat → Nat → Bool) (cM ct cv1 cv2 cv3 cv4 cv5 cv6 : Nat) : Bool :=
  (eX11_plan_145 q cbk78 cbk95 cM ct cv1 cv2 cv3 cv4 cv5 cv6 0)
set_option maxHeartbeats 4000000 in
set_option maxRecDepth 20000 in
theorem sX11_plan_144 {post : Int32 → MM → Int64 → Prop} {q : Nat → Nat → Nat → Bool} (hq : ∀ (r : Int32) (M : MM) (tl : Int64) (cr cM ct : Nat), r = nI cr → M = dM cM → tl = i64 ct → q cr cM ct = true → post r M tl) {bk78 : MM → Int64 → Int32 → Int32 → Int32 → Int32 → Int32 → Prop} {cbk78 : Nat → Nat → Nat → Nat → Nat → Nat → Nat → Bool} (hbk78 : ∀ (M : MM) (tl : Int64) (x0 : Int32) (x1 : Int32) (x2 : Int32) (x3 : Int32) (x4 : Int32) (cM ct cx0 cx1 cx2 cx3 cx4 : Nat), M = dM cM → tl = i64 ct → x0 = nI cx0 → x1 = nI cx1 → x2 = nI cx2 → x3 = nI cx3 → x4 = nI cx4 → cbk78 cM ct cx0 cx1 cx2 cx3 cx4 = true → bk78 M tl x0 x1 x2 x3 x4) {bk95 : MM → Int64 → Int32 → Int32 → Int32 → Int32 → Int32 → Int32 → Prop} {cbk95 : Nat → Nat → Nat → Nat → Nat → Nat → Nat → Nat → Bool} (hbk95 : ∀ (M : MM) (tl : Int64) (x0 : Int32) (x1 : Int32) (x2 : Int32) (x3 : Int32) (x4 : Int32) (x5 : Int32) (cM ct cx0 cx1 cx2 cx3 cx4 cx5 : Nat), M = dM cM → tl = i64 ct → x0 = nI cx0 → x1 = nI cx1 → x2 = nI cx2 → x3 = nI cx3 → x4 = nI cx4 → x5 = nI cx5 → cbk95 cM ct cx0 cx1 cx2 cx3 cx4 cx5 = true → bk95 M tl x0 x1 x2 x3 x4 x5) {M : MM} {tl : Int64} {v1 : Int32} {v2 : Int32} {v3 : Int32} {v4 : Int32} {v5 : Int32} {v6 : Int32} {cM ct cv1 cv2 cv3 cv4 cv5 cv6 : Nat} (hM : M = dM cM) (ht : tl = i64 ct) (hv1 : v1 = nI cv1) (hv2 : v2 = nI cv2) (hv3 : v3 = nI cv3) (hv4 : v4 = nI cv4) (hv5 : v5 = nI cv5) (hv6 : v6 = nI cv6) (h : eX11_plan_144 q cbk78 cbk95 cM ct cv1 cv2 cv3 cv4 cv5 cv6 = true) : wX11_plan_144 post bk78 bk95 M tl v1 v2 v3 v4 v5 v6 := by
  unfold wX11_plan_144
  unfold eX11_plan_144 at h
  exact sX11_plan_145 hq hbk78 hbk95 hM ht hv1 hv2 hv3 hv4 hv5 hv6 (rfl : (0 : Int32) = nI 0) h
noncomputable def eX11_plan_95 (q : Nat → Nat → Nat → Bool) (cbk78 : Nat → Nat → Nat → Nat → Nat → Nat → Nat → Bool) (n : Nat) : Nat → Nat → Nat → Nat → Nat → Nat → Nat → Nat → Bool :=
  @Nat.rec (fun _ => Nat → Nat → Nat → Nat → Nat → Nat → Nat → Nat → Bool) (fun _ _ _ _ _ _ _ _ => false) (fun _ ih cM ct cv1 cv2 cv3 cv4 cv5 cv6 => (@Bool.rec (fun _ => Bool) (@Bool.rec (fun _ => Bool) (eX11_plan_144 q cbk78 ih cM ct cv1 cv2 cv3 cv4 cv5 cv6) (epX11_wantCost (fun cr3 cM1 ct2 => (@Bool.rec (fun _ => Bool) false (@Bool.rec (fun _ => Bool) false (@Bool.rec (fun _ => Bool) (eX11_plan_144 q cbk78 ih cM1 ct2 cv1 cv2 cv3 cv4 cv5 cv6) (eX11_plan_145 q cbk78 ih cM1 ct2 cv1 cv2 cv3 cv4 cv5 cv6 1) (eqN (aN cr3 (rd cM1 104 (tN (Nat.lor cv3 (b2 f_shl 1 cv6))))) (rd cM1 104 (tN cv3)))) (inN cv3 (alF 104))) (inN (Nat.lor cv3 (b2 f_shl 1 cv6)) (alF 104)))) cM ct cv5 (aN cv1 cv6)) (eqN (Nat.land (b2 f_shr cv3 cv6) 1) 0)) (cbk78 cM ct cv1 cv2 (Nat.lor cv3 (b2 f_shl 1 cv4)) cv4 (aN cv5 1)) (ltN cv6 0))) n
set_option maxHeartbeats 4000000 in
set_option maxRecDepth 20000 in
theorem sX11_plan_95 {post : Int32 → MM → Int64 → Prop} {q : Nat → Nat → Nat → Bool} (hq : ∀ (r : Int32) (M : MM) (tl : Int64) (cr cM ct : Nat), r = nI cr → M = dM cM → tl = i64 ct → q cr cM ct = true → post r M tl) {bk78 : MM → Int64 → Int32 → Int32 → Int32 → Int32 → Int32 → Prop} {cbk78 : Nat → Nat → Nat → Nat → Nat → Nat → Nat → Bool} (hbk78 : ∀ (M : MM) (tl : Int64) (x0 : Int32) (x1 : Int32) (x2 : Int32) (x3 : Int32) (x4 : Int32) (cM ct cx0 cx1 cx2 cx3 cx4 : Nat), M = dM cM → tl = i64 ct → x0 = nI cx0 → x1 = nI cx1 → x2 = nI cx2 → x3 = nI cx3 → x4 = nI cx4 → cbk78 cM ct cx0 cx1 cx2 cx3 cx4 = true → bk78 M tl x0 x1 x2 x3 x4) : ∀ (n : Nat) (M : MM) (tl : Int64) (v1 : Int32) (v2 : Int32) (v3 : Int32) (v4 : Int32) (v5 : Int32) (v6 : Int32) (cM ct cv1 cv2 cv3 cv4 cv5 cv6 : Nat), M = dM cM → tl = i64 ct → v1 = nI cv1 → v2 = nI cv2 → v3 = nI cv3 → v4 = nI cv4 → v5 = nI cv5 → v6 = nI cv6 → eX11_plan_95 q cbk78 n cM ct cv1 cv2 cv3 cv4 cv5 cv6 = true → wX11_plan_95 post bk78 n M tl v1 v2 v3 v4 v5 v6 := by
  intro n
  induction n with
  | zero => intro M tl v1 v2 v3 v4 v5 v6 cM ct cv1 cv2 cv3 cv4 cv5 cv6 hM ht hv1 hv2 hv3 hv4 hv5 hv6 h; exact Bool.noConfusion h
  | succ n ih =>
    intro M tl v1 v2 v3 v4 v5 v6 cM ct cv1 cv2 cv3 cv4 cv5 cv6 hM ht hv1 hv2 hv3 hv4 hv5 hv6 h
    unfold wX11_plan_95
    refine e_ite (c_lt hv6 (rfl : (0 : Int32) = nI 0)) h (fun h => ?_) (fun h => ?_)
    · exact hbk78 _ _ _ _ _ _ _ _ _ _ _ _ _ _ hM ht hv1 hv2 (r_or hv3 (r_b2 f_shl (rfl : (1 : Int32) = nI 1) hv4)) hv4 (r_add hv5 (rfl : (1 : Int32) = nI 1)) h
    · refine e_ite (c_eq (r_and (r_b2 f_shr hv3 hv6) (rfl : (1 : Int32) = nI 1)) (rfl : (0 : Int32) = nI 0)) h (fun h => ?_) (fun h => ?_)
      · refine spX11_wantCost (fun r3 M1 t2 cr3 cM1 ct2 hr3 hM1 ht2 h => ?_) hM ht hv5 (r_add hv1 hv6) h
        refine e_and (k_in (r_or hv3 (r_b2 f_shl (rfl : (1 : Int32) = nI 1) hv6)) (r_al (rfl : (104 : Nat) = 104))) h (fun h => ?_)
        refine e_and (k_in hv3 (r_al (rfl : (104 : Nat) = 104))) h (fun h => ?_)
        refine e_ite (c_eq (r_add hr3 (r_rd hM1 (rfl : (104 : Nat) = 104) (r_nat (r_or hv3 (r_b2 f_shl (rfl : (1 : Int32) = nI 1) hv6))))) (r_rd hM1 (rfl : (104 : Nat) = 104) (r_nat hv3))) h (fun h => ?_) (fun h => ?_)
        · exact sX11_plan_145 hq hbk78 ih hM1 ht2 hv1 hv2 hv3 hv4 hv5 hv6 (rfl : (1 : Int32) = nI 1) h
        · exact sX11_plan_144 hq hbk78 ih hM1 ht2 hv1 hv2 hv3 hv4 hv5 hv6 h
      · exact sX11_plan_144 hq hbk78 ih hM ht hv1 hv2 hv3 hv4 hv5 hv6 h
noncomputable def eX11_plan_78 (q : Nat → Nat → Nat → Bool) (n : Nat) : Nat → Nat → Nat → Nat → Nat → Nat → Nat → Bool :=
  @Nat.rec (fun _ => Nat → Nat → Nat → Nat → Nat → Nat → Nat → Bool) (fun _ _ _ _ _ _ _ => false) (fun _ ih cM ct cv1 cv2 cv3 cv4 cv5 => (@Bool.rec (fun _ => Bool) (eX11_plan_95 q ih 5000 cM ct cv1 cv2 cv3 4294967292 cv5 11) (q (aN cv1 cv4) cM ct) (ltN (sN cv2 10) cv5))) n
set_option maxHeartbeats 4000000 in
set_option maxRecDepth 20000 in
theorem sX11_plan_78 {post : Int32 → MM → Int64 → Prop} {q : Nat → Nat → Nat → Bool} (hq : ∀ (r : Int32) (M : MM) (tl : Int64) (cr cM ct : Nat), r = nI cr → M = dM cM → tl = i64 ct → q cr cM ct = true → post r M tl) : ∀ (n : Nat) (M : MM) (tl : Int64) (v1 : Int32) (v2 : Int32) (v3 : Int32) (v4 : Int32) (v5 : Int32) (cM ct cv1 cv2 cv3 cv4 cv5 : Nat), M = dM cM → tl = i64 ct → v1 = nI cv1 → v2 = nI cv2 → v3 = nI cv3 → v4 = nI cv4 → v5 = nI cv5 → eX11_plan_78 q  n cM ct cv1 cv2 cv3 cv4 cv5 = true → wX11_plan_78 post  n M tl v1 v2 v3 v4 v5 := by
  intro n
  induction n with
  | zero => intro M tl v1 v2 v3 v4 v5 cM ct cv1 cv2 cv3 cv4 cv5 hM ht hv1 hv2 hv3 hv4 hv5 h; exact Bool.noConfusion h
  | succ n ih =>
    intro M tl v1 v2 v3 v4 v5 cM ct cv1 cv2 cv3 cv4 cv5 hM ht hv1 hv2 hv3 hv4 hv5 h
    unfold wX11_plan_78
    refine e_ite (c_lt (r_sub hv2 (rfl : (10 : Int32) = nI 10)) hv5) h (fun h => ?_) (fun h => ?_)
    · exact hq _ _ _ _ _ _ (r_add hv1 hv4) hM ht h
    · exact ⟨5000, sX11_plan_95 hq ih 5000 _ _ _ _ _ _ _ _ _ _ _ _ _ _ _ _ hM ht hv1 hv2 hv3 lm4 hv5 (rfl : (11 : Int32) = nI 11) h⟩
noncomputable def eX11_plan_40 (q : Nat → Nat → Nat → Bool) (cM ct cv1 cv2 : Nat) : Bool :=
  (@Bool.rec (fun _ => Bool) false (@Bool.rec (fun _ => Bool) (epX11_findRests (fun cM2 ct3 => (@Bool.rec (fun _ => Bool) (eX11_plan_78 q  5000 cM2 ct3 cv1 cv2 0 4294967292 0) (@Bool.rec (fun _ => Bool) false (q (rd cM2 104 (tN 0)) cM2 ct3) (inN 0 (alF 104))) (eqN cv2 0))) cM ct cv1) (q 4294967294 cM ct) (eqN (rd cM 82 (tN 65)) 0)) (inN 65 (alF 82)))
set_option maxHeartbeats 4000000 in
set_option maxRecDepth 20000 in
theorem sX11_plan_40 {post : Int32 → MM → Int64 → Prop} {q : Nat → Nat → Nat → Bool} (hq : ∀ (r : Int32) (M : MM) (tl : Int64) (cr cM ct : Nat), r = nI cr → M = dM cM → tl = i64 ct → q cr cM ct = true → post r M tl) {M : MM} {tl : Int64} {v1 : Int32} {v2 : Int32} {cM ct cv1 cv2 : Nat} (hM : M = dM cM) (ht : tl = i64 ct) (hv1 : v1 = nI cv1) (hv2 : v2 = nI cv2) (h : eX11_plan_40 q  cM ct cv1 cv2 = true) : wX11_plan_40 post  M tl v1 v2 := by
  unfold wX11_plan_40
  unfold eX11_plan_40 at h
  refine e_and (k_in (rfl : (65 : Int32) = nI 65) (r_al (rfl : (82 : Nat) = 82))) h (fun h => ?_)
  refine e_ite (c_eq (r_rd hM (rfl : (82 : Nat) = 82) (r_nat (rfl : (65 : Int32) = nI 65))) (rfl : (0 : Int32) = nI 0)) h (fun h => ?_) (fun h => ?_)
  · exact hq _ _ _ _ _ _ lm2 hM ht h
  · refine spX11_findRests (fun M2 t3 cM2 ct3 hM2 ht3 h => ?_) hM ht hv1 h
    refine e_ite (c_eq hv2 (rfl : (0 : Int32) = nI 0)) h (fun h => ?_) (fun h => ?_)
    · refine e_and (k_in (rfl : (0 : Int32) = nI 0) (r_al (rfl : (104 : Nat) = 104))) h (fun h => ?_)
      exact hq _ _ _ _ _ _ (r_rd hM2 (rfl : (104 : Nat) = 104) (r_nat (rfl : (0 : Int32) = nI 0))) hM2 ht3 h
    · exact ⟨5000, sX11_plan_78 hq  5000 _ _ _ _ _ _ _ _ _ _ _ _ _ _ hM2 ht3 hv1 hv2 (rfl : (0 : Int32) = nI 0) lm4 (rfl : (0 : Int32) = nI 0) h⟩
noncomputable def epX11_plan (q : Nat → Nat → Nat → Bool) (cM ct cv1 cv2 : Nat) : Bool :=
  (epX11_in (fun cr3 cM1 ct2 => (@Bool.rec (fun _ => Bool) (@Bool.rec (fun _ => Bool) (@Bool.rec (fun _ => Bool) false (epX11_in (fun cr7 cM5 ct6 => (@Bool.rec (fun _ => Bool) (eX11_plan_40 q  cM5 ct6 cv1 cv2) (q 4294967295 cM5 ct6) (eqN cr7 0))) cM1 ct2 (xN cv2) 10 (xN (aN 9 (rd cM1 82 (tN 65))))) (inN 65 (alF 82))) (eX11_plan_40 q  cM1 ct2 cv1 cv2) (eqN cv2 0)) (q 4294967295 cM1 ct2) (eqN cr3 0))) cM ct (xN cv1) 0 3)
set_option maxHeartbeats 4000000 in
set_option maxRecDepth 20000 in
theorem spX11_plan {post : Int32 → MM → Int64 → Prop} {q : Nat → Nat → Nat → Bool} (hq : ∀ (r : Int32) (M : MM) (tl : Int64) (cr cM ct : Nat), r = nI cr → M = dM cM → tl = i64 ct → q cr cM ct = true → post r M tl) {M : MM} {tl : Int64} {v1 : Int32} {v2 : Int32} {cM ct cv1 cv2 : Nat} (hM : M = dM cM) (ht : tl = i64 ct) (hv1 : v1 = nI cv1) (hv2 : v2 = nI cv2) (h : epX11_plan q  cM ct cv1 cv2 = true) : wpX11_plan post  M tl v1 v2 := by
  unfold wpX11_plan
  unfold epX11_plan at h
  refine spX11_in (fun r3 M1 t2 cr3 cM1 ct2 hr3 hM1 ht2 h => ?_) hM ht (r_ext hv1) (rfl : (0 : Int64) = i64 0) (rfl : (3 : Int64) = i64 3) h
  refine e_ite (c_eq hr3 (rfl : (0 : Int32) = nI 0)) h (fun h => ?_) (fun h => ?_)
  · exact hq _ _ _ _ _ _ lm1 hM1 ht2 h
  · refine e_ite (c_eq hv2 (rfl : (0 : Int32) = nI 0)) h (fun h => ?_) (fun h => ?_)
    · exact sX11_plan_40 hq  hM1 ht2 hv1 hv2 h
    · refine e_and (k_in (rfl : (65 : Int32) = nI 65) (r_al (rfl : (82 : Nat) = 82))) h (fun h => ?_)
      refine spX11_in (fun r7 M5 t6 cr7 cM5 ct6 hr7 hM5 ht6 h => ?_) hM1 ht2 (r_ext hv2) (rfl : (10 : Int64) = i64 10) (r_ext (r_add (rfl : (9 : Int32) = nI 9) (r_rd hM1 (rfl : (82 : Nat) = 82) (r_nat (rfl : (65 : Int32) = nI 65))))) h
      refine e_ite (c_eq hr7 (rfl : (0 : Int32) = nI 0)) h (fun h => ?_) (fun h => ?_)
      · exact hq _ _ _ _ _ _ lm1 hM5 ht6 h
      · exact sX11_plan_40 hq  hM5 ht6 hv1 hv2 h
noncomputable def eX11_cannot_83 (q : Nat → Nat → Nat → Bool) (cbk20 : Nat → Nat → Nat → Nat → Nat → Nat → Bool) (cM ct cv1 cv2 cv4 cs0 : Nat) : Bool :=
  (cbk20 cM ct cv1 cv2 cs0 (aN cv4 1))
set_option maxHeartbeats 4000000 in
set_option maxRecDepth 20000 in
theorem sX11_cannot_83 {post : Int32 → MM → Int64 → Prop} {q : Nat → Nat → Nat → Bool} (hq : ∀ (r : Int32) (M : MM) (tl : Int64) (cr cM ct : Nat), r = nI cr → M = dM cM → tl = i64 ct → q cr cM ct = true → post r M tl) {bk20 : MM → Int64 → Int32 → Int32 → Int32 → Int32 → Prop} {cbk20 : Nat → Nat → Nat → Nat → Nat → Nat → Bool} (hbk20 : ∀ (M : MM) (tl : Int64) (x0 : Int32) (x1 : Int32) (x2 : Int32) (x3 : Int32) (cM ct cx0 cx1 cx2 cx3 : Nat), M = dM cM → tl = i64 ct → x0 = nI cx0 → x1 = nI cx1 → x2 = nI cx2 → x3 = nI cx3 → cbk20 cM ct cx0 cx1 cx2 cx3 = true → bk20 M tl x0 x1 x2 x3) {M : MM} {tl : Int64} {v1 : Int32} {v2 : Int32} {v4 : Int32} {s0 : Int32} {cM ct cv1 cv2 cv4 cs0 : Nat} (hM : M = dM cM) (ht : tl = i64 ct) (hv1 : v1 = nI cv1) (hv2 : v2 = nI cv2) (hv4 : v4 = nI cv4) (hs0 : s0 = nI cs0) (h : eX11_cannot_83 q cbk20 cM ct cv1 cv2 cv4 cs0 = true) : wX11_cannot_83 post bk20 M tl v1 v2 v4 s0 := by
  unfold wX11_cannot_83
  unfold eX11_cannot_83 at h
  exact hbk20 _ _ _ _ _ _ _ _ _ _ _ _ hM ht hv1 hv2 hs0 (r_add hv4 (rfl : (1 : Int32) = nI 1)) h
noncomputable def eX11_cannot_62 (q : Nat → Nat → Nat → Bool) (cbk20 : Nat → Nat → Nat → Nat → Nat → Nat → Bool) (cM ct cv1 cv2 cv3 cv4 cs0 : Nat) : Bool :=
  (@Bool.rec (fun _ => Bool) (@Bool.rec (fun _ => Bool) false (eX11_cannot_83 q cbk20 cM ct cv1 cv2 cv4 (rd cM 85 (tN (aN 6 cv4)))) (inN (aN 6 cv4) (alF 85))) (eX11_cannot_83 q cbk20 cM ct cv1 cv2 cv4 cv3) (eqN cs0 0))
set_option maxHeartbeats 4000000 in
set_option maxRecDepth 20000 in
theorem sX11_cannot_62 {post : Int32 → MM → Int64 → Prop} {q : Nat → Nat → Nat → Bool} (hq : ∀ (r : Int32) (M : MM) (tl : Int64) (cr cM ct : Nat), r = nI cr → M = dM cM → tl = i64 ct → q cr cM ct = true → post r M tl) {bk20 : MM → Int64 → Int32 → Int32 → Int32 → Int32 → Prop} {cbk20 : Nat → Nat → Nat → Nat → Nat → Nat → Bool} (hbk20 : ∀ (M : MM) (tl : Int64) (x0 : Int32) (x1 : Int32) (x2 : Int32) (x3 : Int32) (cM ct cx0 cx1 cx2 cx3 : Nat), M = dM cM → tl = i64 ct → x0 = nI cx0 → x1 = nI cx1 → x2 = nI cx2 → x3 = nI cx3 → cbk20 cM ct cx0 cx1 cx2 cx3 = true → bk20 M tl x0 x1 x2 x3) {M : MM} {tl : Int64} {v1 : Int32} {v2 : Int32} {v3 : Int32} {v4 : Int32} {s0 : Int32} {cM ct cv1 cv2 cv3 cv4 cs0 : Nat} (hM : M = dM cM) (ht : tl = i64 ct) (hv1 : v1 = nI cv1) (hv2 : v2 = nI cv2) (hv3 : v3 = nI cv3) (hv4 : v4 = nI cv4) (hs0 : s0 = nI cs0) (h : eX11_cannot_62 q cbk20 cM ct cv1 cv2 cv3 cv4 cs0 = true) : wX11_cannot_62 post bk20 M tl v1 v2 v3 v4 s0 := by
  unfold wX11_cannot_62
  unfold eX11_cannot_62 at h
  refine e_ite (c_eq hs0 (rfl : (0 : Int32) = nI 0)) h (fun h => ?_) (fun h => ?_)
  · exact sX11_cannot_83 hq hbk20 hM ht hv1 hv2 hv4 hv3 h
  · refine e_and (k_in (r_add (rfl : (6 : Int32) = nI 6) hv4) (r_al (rfl : (85 : Nat) = 85))) h (fun h => ?_)
    exact sX11_cannot_83 hq hbk20 hM ht hv1 hv2 hv4 (r_rd hM (rfl : (85 : Nat) = 85) (r_nat (r_add (rfl : (6 : Int32) = nI 6) hv4))) h
noncomputable def eX11_cannot_57 (q : Nat → Nat → Nat → Bool) (cbk20 : Nat → Nat → Nat → Nat → Nat → Nat → Bool) (cM ct cv1 cv2 cv3 cv4 : Nat) : Bool :=
  (eX11_cannot_62 q cbk20 cM ct cv1 cv2 cv3 cv4 1)
set_option maxHeartbeats 4000000 in
set_option maxRecDepth 20000 in
theorem sX11_cannot_57 {post : Int32 → MM → Int64 → Prop} {q : Nat → Nat → Nat → Bool} (hq : ∀ (r : Int32) (M : MM) (tl : Int64) (cr cM ct : Nat), r = nI cr → M = dM cM → tl = i64 ct → q cr cM ct = true → post r M tl) {bk20 : MM → Int64 → Int32 → Int32 → Int32 → Int32 → Prop} {cbk20 : Nat → Nat → Nat → Nat → Nat → Nat → Bool} (hbk20 : ∀ (M : MM) (tl : Int64) (x0 : Int32) (x1 : Int32) (x2 : Int32) (x3 : Int32) (cM ct cx0 cx1 cx2 cx3 : Nat), M = dM cM → tl = i64 ct → x0 = nI cx0 → x1 = nI cx1 → x2 = nI cx2 → x3 = nI cx3 → cbk20 cM ct cx0 cx1 cx2 cx3 = true → bk20 M tl x0 x1 x2 x3) {M : MM} {tl : Int64} {v1 : Int32} {v2 : Int32} {v3 : Int32} {v4 : Int32} {cM ct cv1 cv2 cv3 cv4 : Nat} (hM : M = dM cM) (ht : tl = i64 ct) (hv1 : v1 = nI cv1) (hv2 : v2 = nI cv2) (hv3 : v3 = nI cv3) (hv4 : v4 = nI cv4) (h : eX11_cannot_57 q cbk20 cM ct cv1 cv2 cv3 cv4 = true) : wX11_cannot_57 post bk20 M tl v1 v2 v3 v4 := by
  unfold wX11_cannot_57
  unfold eX11_cannot_57 at h
  exact sX11_cannot_62 hq hbk20 hM ht hv1 hv2 hv3 hv4 (rfl : (1 : Int32) = nI 1) h
noncomputable def eX11_cannot_61 (q : Nat → Nat → Nat → Bool) (cbk20 : Nat → Nat → Nat → Nat → Nat → Nat → Bool) (cM ct cv1 cv2 cv3 cv4 : Nat) : Bool :=
  (eX11_cannot_62 q cbk20 cM ct cv1 cv2 cv3 cv4 0)
set_option maxHeartbeats 4000000 in
set_option maxRecDepth 20000 in
theorem sX11_cannot_61 {post : Int32 → MM → Int64 → Prop} {q : Nat → Nat → Nat → Bool} (hq : ∀ (r : Int32) (M : MM) (tl : Int64) (cr cM ct : Nat), r = nI cr → M = dM cM → tl = i64 ct → q cr cM ct = true → post r M tl) {bk20 : MM → Int64 → Int32 → Int32 → Int32 → Int32 → Prop} {cbk20 : Nat → Nat → Nat → Nat → Nat → Nat → Bool} (hbk20 : ∀ (M : MM) (tl : Int64) (x0 : Int32) (x1 : Int32) (x2 : Int32) (x3 : Int32) (cM ct cx0 cx1 cx2 cx3 : Nat), M = dM cM → tl = i64 ct → x0 = nI cx0 → x1 = nI cx1 → x2 = nI cx2 → x3 = nI cx3 → cbk20 cM ct cx0 cx1 cx2 cx3 = true → bk20 M tl x0 x1 x2 x3) {M : MM} {tl : Int64} {v1 : Int32} {v2 : Int32} {v3 : Int32} {v4 : Int32} {cM ct cv1 cv2 cv3 cv4 : Nat} (hM : M = dM cM) (ht : tl = i64 ct) (hv1 : v1 = nI cv1) (hv2 : v2 = nI cv2) (hv3 : v3 = nI cv3) (hv4 : v4 = nI cv4) (h : eX11_cannot_61 q cbk20 cM ct cv1 cv2 cv3 cv4 = true) : wX11_cannot_61 post bk20 M tl v1 v2 v3 v4 := by
  unfold wX11_cannot_61
  unfold eX11_cannot_61 at h
  exact sX11_cannot_62 hq hbk20 hM ht hv1 hv2 hv3 hv4 (rfl : (0 : Int32) = nI 0) h
noncomputable def eX11_cannot_182 (q : Nat → Nat → Nat → Bool) (cbk96 : Nat → Nat → Nat → Nat → Nat → Nat → Nat → Bool) (cM ct cv1 cv2 cv3 cv5 cs0 cs1 : Nat) : Bool :=
  (cbk96 cM ct cv1 cv2 cv3 (aN cs0 cs1) (aN cv5 1))
set_option maxHeartbeats 4000000 in
set_option maxRecDepth 20000 in
theorem sX11_cannot_182 {post : Int32 → MM → Int64 → Prop} {q : Nat → Nat → Nat → Bool} (hq : ∀ (r : Int32) (M : MM) (tl : Int64) (cr cM ct : Nat), r = nI cr → M = dM cM → tl = i64 ct → q cr cM ct = true → post r M tl) {bk96 : MM → Int64 → Int32 → Int32 → Int32 → Int32 → Int32 → Prop} {cbk96 : Nat → Nat → Nat → Nat → Nat → Nat → Nat → Bool} (hbk96 : ∀ (M : MM) (tl : Int64) (x0 : Int32) (x1 : Int32) (x2 : Int32) (x3 : Int32) (x4 : Int32) (cM ct cx0 cx1 cx2 cx3 cx4 : Nat), M = dM cM → tl = i64 ct → x0 = nI cx0 → x1 = nI cx1 → x2 = nI cx2 → x3 = nI cx3 → x4 = nI cx4 → cbk96 cM ct cx0 cx1 cx2 cx3 cx4 = true → bk96 M tl x0 x1 x2 x3 x4) {M : MM} {tl : Int64} {v1 : Int32} {v2 : Int32} {v3 : Int32} {v5 : Int32} {s0 : Int32} {s1 : Int32} {cM ct cv1 cv2 cv3 cv5 cs0 cs1 : Nat} (hM : M = dM cM) (ht : tl = i64 ct) (hv1 : v1 = nI cv1) (hv2 : v2 = nI cv2) (hv3 : v3 = nI cv3) (hv5 : v5 = nI cv5) (hs0 : s0 = nI cs0) (hs1 : s1 = nI cs1) (h : eX11_cannot_182 q cbk96 cM ct cv1 cv2 cv3 cv5 cs0 cs1 = true) : wX11_cannot_182 post bk96 M tl v1 v2 v3 v5 s0 s1 := by
  unfold wX11_cannot_182
  unfold eX11_cannot_182 at h
  exact hbk96 _ _ _ _ _ _ _ _ _ _ _ _ _ _ hM ht hv1 hv2 hv3 (r_add hs0 hs1) (r_add hv5 (rfl : (1 : Int32) = nI 1)) h
noncomputable def eX11_cannot_158 (q : Nat → Nat → Nat → Bool) (cbk96 : Nat → Nat → Nat → Nat → Nat → Nat → Nat → Bool) (cM ct cv1 cv3 cv4 cv5 cv6 cs0 cs1 : Nat) : Bool :=
  (@Bool.rec (fun _ => Bool) false (epX11_doesLack (fun cr4 cM2 ct3 => (@Bool.rec (fun _ => Bool) (eX11_cannot_182 q cbk96 cM2 ct3 cv1 (Nat.lor cs0 cs1) cv3 cv5 cv4 cv3) (eX11_cannot_182 q cbk96 cM2 ct3 cv1 (Nat.lor cs0 cs1) cv3 cv5 cv4 0) (eqN cr4 0))) cM ct 1 (rd cM 88 (tN cv6))) (inN cv6 (alF 88)))
set_option maxHeartbeats 4000000 in
set_option maxRecDepth 20000 in
theorem sX11_cannot_158 {post : Int32 → MM → Int64 → Prop} {q : Nat → Nat → Nat → Bool} (hq : ∀ (r : Int32) (M : MM) (tl : Int64) (cr cM ct : Nat), r = nI cr → M = dM cM → tl = i64 ct → q cr cM ct = true → post r M tl) {bk96 : MM → Int64 → Int32 → Int32 → Int32 → Int32 → Int32 → Prop} {cbk96 : Nat → Nat → Nat → Nat → Nat → Nat → Nat → Bool} (hbk96 : ∀ (M : MM) (tl : Int64) (x0 : Int32) (x1 : Int32) (x2 : Int32) (x3 : Int32) (x4 : Int32) (cM ct cx0 cx1 cx2 cx3 cx4 : Nat), M = dM cM → tl = i64 ct → x0 = nI cx0 → x1 = nI cx1 → x2 = nI cx2 → x3 = nI cx3 → x4 = nI cx4 → cbk96 cM ct cx0 cx1 cx2 cx3 cx4 = true → bk96 M tl x0 x1 x2 x3 x4) {M : MM} {tl : Int64} {v1 : Int32} {v3 : Int32} {v4 : Int32} {v5 : Int32} {v6 : Int32} {s0 : Int32} {s1 : Int32} {cM ct cv1 cv3 cv4 cv5 cv6 cs0 cs1 : Nat} (hM : M = dM cM) (ht : tl = i64 ct) (hv1 : v1 = nI cv1) (hv3 : v3 = nI cv3) (hv4 : v4 = nI cv4) (hv5 : v5 = nI cv5) (hv6 : v6 = nI cv6) (hs0 : s0 = nI cs0) (hs1 : s1 = nI cs1) (h : eX11_cannot_158 q cbk96 cM ct cv1 cv3 cv4 cv5 cv6 cs0 cs1 = true) : wX11_cannot_158 post bk96 M tl v1 v3 v4 v5 v6 s0 s1 := by
  unfold wX11_cannot_158
  unfold eX11_cannot_158 at h
  refine e_and (k_in hv6 (r_al (rfl : (88 : Nat) = 88))) h (fun h => ?_)
  refine spX11_doesLack (fun r4 M2 t3 cr4 cM2 ct3 hr4 hM2 ht3 h => ?_) hM ht (rfl : (1 : Int32) = nI 1) (r_rd hM (rfl : (88 : Nat) = 88) (r_nat hv6)) h
  refine e_ite (c_eq hr4 (rfl : (0 : Int32) = nI 0)) h (fun h => ?_) (fun h => ?_)
  · exact sX11_cannot_182 hq hbk96 hM2 ht3 hv1 (r_or hs0 hs1) hv3 hv5 hv4 (rfl : (0 : Int32) = nI 0) h
  · exact sX11_cannot_182 hq hbk96 hM2 ht3 hv1 (r_or hs0 hs1) hv3 hv5 hv4 hv3 h
noncomputable def eX11_cannot_150 (q : Nat → Nat → Nat → Bool) (cbk96 : Nat → Nat → Nat → Nat → Nat → Nat → Nat → Bool) (cM ct cv1 cv3 cv4 cv5 cv6 cs0 : Nat) : Bool :=
  (eX11_cannot_158 q cbk96 cM ct cv1 cv3 cv4 cv5 cv6 cs0 (b2 f_shl 1 cv6))
set_option maxHeartbeats 4000000 in
set_option maxRecDepth 20000 in
theorem sX11_cannot_150 {post : Int32 → MM → Int64 → Prop} {q : Nat → Nat → Nat → Bool} (hq : ∀ (r : Int32) (M : MM) (tl : Int64) (cr cM ct : Nat), r = nI cr → M = dM cM → tl = i64 ct → q cr cM ct = true → post r M tl) {bk96 : MM → Int64 → Int32 → Int32 → Int32 → Int32 → Int32 → Prop} {cbk96 : Nat → Nat → Nat → Nat → Nat → Nat → Nat → Bool} (hbk96 : ∀ (M : MM) (tl : Int64) (x0 : Int32) (x1 : Int32) (x2 : Int32) (x3 : Int32) (x4 : Int32) (cM ct cx0 cx1 cx2 cx3 cx4 : Nat), M = dM cM → tl = i64 ct → x0 = nI cx0 → x1 = nI cx1 → x2 = nI cx2 → x3 = nI cx3 → x4 = nI cx4 → cbk96 cM ct cx0 cx1 cx2 cx3 cx4 = true → bk96 M tl x0 x1 x2 x3 x4) {M : MM} {tl : Int64} {v1 : Int32} {v3 : Int32} {v4 : Int32} {v5 : Int32} {v6 : Int32} {s0 : Int32} {cM ct cv1 cv3 cv4 cv5 cv6 cs0 : Nat} (hM : M = dM cM) (ht : tl = i64 ct) (hv1 : v1 = nI cv1) (hv3 : v3 = nI cv3) (hv4 : v4 = nI cv4) (hv5 : v5 = nI cv5) (hv6 : v6 = nI cv6) (hs0 : s0 = nI cs0) (h : eX11_cannot_150 q cbk96 cM ct cv1 cv3 cv4 cv5 cv6 cs0 = true) : wX11_cannot_150 post bk96 M tl v1 v3 v4 v5 v6 s0 := by
  unfold wX11_cannot_150
  unfold eX11_cannot_150 at h
  exact sX11_cannot_158 hq hbk96 hM ht hv1 hv3 hv4 hv5 hv6 hs0 (r_b2 f_shl (rfl : (1 : Int32) = nI 1) hv6) h
noncomputable def eX11_cannot_96 (q : Nat → Nat → Nat → Bool) (n : Nat) : Nat → Nat → Nat → Nat → Nat → Nat → Nat → Bool :=
  @Nat.rec (fun _ => Nat → Nat → Nat → Nat → Nat → Nat → Nat → Bool) (fun _ _ _ _ _ _ _ => false) (fun _ ih cM ct cv1 cv2 cv3 cv4 cv5 => (@Bool.rec (fun _ => Bool) false (@Bool.rec (fun _ => Bool) (@Bool.rec (fun _ => Bool) false (epX11_doesLack (fun cr5 cM3 ct4 => (@Bool.rec (fun _ => Bool) (eX11_cannot_150 q ih cM3 ct4 cv1 cv3 cv4 cv5 (rd cM 82 (tN (aN (aN 66 (mN 2 cv5)) 1))) cv2) (@Bool.rec (fun _ => Bool) false (epX11_doesLack (fun cr9 cM7 ct8 => (@Bool.rec (fun _ => Bool) (eX11_cannot_150 q ih cM7 ct8 cv1 cv3 cv4 cv5 (rd cM 82 (tN (aN (aN 66 (mN 2 cv5)) 1))) cv2) (eX11_cannot_158 q ih cM7 ct8 cv1 cv3 cv4 cv5 (rd cM 82 (tN (aN (aN 66 (mN 2 cv5)) 1))) cv2 0) (eqN cr9 0))) cM3 ct4 1 (rd cM3 88 (tN (rd cM 82 (tN (aN (aN 66 (mN 2 cv5)) 1)))))) (inN (rd cM 82 (tN (aN (aN 66 (mN 2 cv5)) 1))) (alF 88))) (eqN cr5 0))) cM ct 0 (rd cM 82 (tN (aN (aN 66 (mN 2 cv5)) 1)))) (inN (aN (aN 66 (mN 2 cv5)) 1) (alF 82))) (@Bool.rec (fun _ => Bool) (@Bool.rec (fun _ => Bool) (q cv4 cM ct) (q 4294967292 cM ct) (eqN cv3 4294967292)) (q cv2 cM ct) (eqN cv1 0)) (leN (rd cM 82 (tN 65)) cv5)) (inN 65 (alF 82)))) n
set_option maxHeartbeats 4000000 in
set_option maxRecDepth 20000 in
theorem sX11_cannot_96 {post : Int32 → MM → Int64 → Prop} {q : Nat → Nat → Nat → Bool} (hq : ∀ (r : Int32) (M : MM) (tl : Int64) (cr cM ct : Nat), r = nI cr → M = dM cM → tl = i64 ct → q cr cM ct = true → post r M tl) : ∀ (n : Nat) (M : MM) (tl : Int64) (v1 : Int32) (v2 : Int32) (v3 : Int32) (v4 : Int32) (v5 : Int32) (cM ct cv1 cv2 cv3 cv4 cv5 : Nat), M = dM cM → tl = i64 ct → v1 = nI cv1 → v2 = nI cv2 → v3 = nI cv3 → v4 = nI cv4 → v5 = nI cv5 → eX11_cannot_96 q  n cM ct cv1 cv2 cv3 cv4 cv5 = true → wX11_cannot_96 post  n M tl v1 v2 v3 v4 v5 := by
  intro n
  induction n with
  | zero => intro M tl v1 v2 v3 v4 v5 cM ct cv1 cv2 cv3 cv4 cv5 hM ht hv1 hv2 hv3 hv4 hv5 h; exact Bool.noConfusion h
  | succ n ih =>
    intro M tl v1 v2 v3 v4 v5 cM ct cv1 cv2 cv3 cv4 cv5 hM ht hv1 hv2 hv3 hv4 hv5 h
    unfold wX11_cannot_96
    have h : (@Bool.rec (fun _ => Bool) false (@Bool.rec (fun _ => Bool) (@Bool.rec (fun _ => Bool) false (epX11_doesLack (fun cr5 cM3 ct4 => (@Bool.rec (fun _ => Bool) (eX11_cannot_150 q (eX11_cannot_96 q  n) cM3 ct4 cv1 cv3 cv4 cv5 (rd cM 82 (tN (aN (aN 66 (mN 2 cv5)) 1))) cv2) (@Bool.rec (fun _ => Bool) false (epX11_doesLack (fun cr9 cM7 ct8 => (@Bool.rec (fun _ => Bool) (eX11_cannot_150 q (eX11_cannot_96 q  n) cM7 ct8 cv1 cv3 cv4 cv5 (rd cM 82 (tN (aN (aN 66 (mN 2 cv5)) 1))) cv2) (eX11_cannot_158 q (eX11_cannot_96 q  n) cM7 ct8 cv1 cv3 cv4 cv5 (rd cM 82 (tN (aN (aN 66 (mN 2 cv5)) 1))) cv2 0) (eqN cr9 0))) cM3 ct4 1 (rd cM3 88 (tN (rd cM 82 (tN (aN (aN 66 (mN 2 cv5)) 1)))))) (inN (rd cM 82 (tN (aN (aN 66 (mN 2 cv5)) 1))) (alF 88))) (eqN cr5 0))) cM ct 0 (rd cM 82 (tN (aN (aN 66 (mN 2 cv5)) 1)))) (inN (aN (aN 66 (mN 2 cv5)) 1) (alF 82))) (@Bool.rec (fun _ => Bool) (@Bool.rec (fun _ => Bool) (q cv4 cM ct) (q 4294967292 cM ct) (eqN cv3 4294967292)) (q cv2 cM ct) (eqN cv1 0)) (leN (rd cM 82 (tN 65)) cv5)) (inN 65 (alF 82))) = true := h
    refine e_and (k_in (rfl : (65 : Int32) = nI 65) (r_al (rfl : (82 : Nat) = 82))) h (fun h => ?_)
    refine e_ite (c_le (r_rd hM (rfl : (82 : Nat) = 82) (r_nat (rfl : (65 : Int32) = nI 65))) hv5) h (fun h => ?_) (fun h => ?_)
    · refine e_ite (c_eq hv1 (rfl : (0 : Int32) = nI 0)) h (fun h => ?_) (fun h => ?_)
      · exact hq _ _ _ _ _ _ hv2 hM ht h
      · refine e_ite (c_eq hv3 lm4) h (fun h => ?_) (fun h => ?_)
        · exact hq _ _ _ _ _ _ lm4 hM ht h
        · exact hq _ _ _ _ _ _ hv4 hM ht h
    · refine e_and (k_in (r_add (r_add (rfl : (66 : Int32) = nI 66) (r_mul (rfl : (2 : Int32) = nI 2) hv5)) (rfl : (1 : Int32) = nI 1)) (r_al (rfl : (82 : Nat) = 82))) h (fun h => ?_)
      refine spX11_doesLack (fun r5 M3 t4 cr5 cM3 ct4 hr5 hM3 ht4 h => ?_) hM ht (rfl : (0 : Int32) = nI 0) (r_rd hM (rfl : (82 : Nat) = 82) (r_nat (r_add (r_add (rfl : (66 : Int32) = nI 66) (r_mul (rfl : (2 : Int32) = nI 2) hv5)) (rfl : (1 : Int32) = nI 1)))) h
      refine e_ite (c_eq hr5 (rfl : (0 : Int32) = nI 0)) h (fun h => ?_) (fun h => ?_)
      · refine e_and (k_in (r_rd hM (rfl : (82 : Nat) = 82) (r_nat (r_add (r_add (rfl : (66 : Int32) = nI 66) (r_mul (rfl : (2 : Int32) = nI 2) hv5)) (rfl : (1 : Int32) = nI 1)))) (r_al (rfl : (88 : Nat) = 88))) h (fun h => ?_)
        refine spX11_doesLack (fun r9 M7 t8 cr9 cM7 ct8 hr9 hM7 ht8 h => ?_) hM3 ht4 (rfl : (1 : Int32) = nI 1) (r_rd hM3 (rfl : (88 : Nat) = 88) (r_nat (r_rd hM (rfl : (82 : Nat) = 82) (r_nat (r_add (r_add (rfl : (66 : Int32) = nI 66) (r_mul (rfl : (2 : Int32) = nI 2) hv5)) (rfl : (1 : Int32) = nI 1)))))) h
        refine e_ite (c_eq hr9 (rfl : (0 : Int32) = nI 0)) h (fun h => ?_) (fun h => ?_)
        · exact sX11_cannot_158 hq ih hM7 ht8 hv1 hv3 hv4 hv5 (r_rd hM (rfl : (82 : Nat) = 82) (r_nat (r_add (r_add (rfl : (66 : Int32) = nI 66) (r_mul (rfl : (2 : Int32) = nI 2) hv5)) (rfl : (1 : Int32) = nI 1)))) hv2 (rfl : (0 : Int32) = nI 0) h
        · exact sX11_cannot_150 hq ih hM7 ht8 hv1 hv3 hv4 hv5 (r_rd hM (rfl : (82 : Nat) = 82) (r_nat (r_add (r_add (rfl : (66 : Int32) = nI 66) (r_mul (rfl : (2 : Int32) = nI 2) hv5)) (rfl : (1 : Int32) = nI 1)))) hv2 h
      · exact sX11_cannot_150 hq ih hM3 ht4 hv1 hv3 hv4 hv5 (r_rd hM (rfl : (82 : Nat) = 82) (r_nat (r_add (r_add (rfl : (66 : Int32) = nI 66) (r_mul (rfl : (2 : Int32) = nI 2) hv5)) (rfl : (1 : Int32) = nI 1)))) hv2 h
noncomputable def eX11_cannot_20 (q : Nat → Nat → Nat → Bool) (n : Nat) : Nat → Nat → Nat → Nat → Nat → Nat → Bool :=
  @Nat.rec (fun _ => Nat → Nat → Nat → Nat → Nat → Nat → Bool) (fun _ _ _ _ _ _ => false) (fun _ ih cM ct cv1 cv2 cv3 cv4 => (@Bool.rec (fun _ => Bool) (epX11_doesLack (fun cr3 cM1 ct2 => (@Bool.rec (fun _ => Bool) (eX11_cannot_61 q ih cM1 ct2 cv1 cv2 cv3 cv4) (@Bool.rec (fun _ => Bool) (@Bool.rec (fun _ => Bool) false (@Bool.rec (fun _ => Bool) (eX11_cannot_57 q ih cM1 ct2 cv1 cv2 cv3 cv4) (eX11_cannot_61 q ih cM1 ct2 cv1 cv2 cv3 cv4) (leN cv3 (rd cM1 85 (tN (aN 6 cv4))))) (inN (aN 6 cv4) (alF 85))) (eX11_cannot_57 q ih cM1 ct2 cv1 cv2 cv3 cv4) (eqN cv3 4294967292)) (eqN cr3 0))) cM ct 1 cv4) (eX11_cannot_96 q  5000 cM ct cv1 cv2 cv3 0 0) (leN 6 cv4))) n
set_option maxHeartbeats 4000000 in
set_option maxRecDepth 20000 in
theorem sX11_cannot_20 {post : Int32 → MM → Int64 → Prop} {q : Nat → Nat → Nat → Bool} (hq : ∀ (r : Int32) (M : MM) (tl : Int64) (cr cM ct : Nat), r = nI cr → M = dM cM → tl = i64 ct → q cr cM ct = true → post r M tl) : ∀ (n : Nat) (M : MM) (tl : Int64) (v1 : Int32) (v2 : Int32) (v3 : Int32) (v4 : Int32) (cM ct cv1 cv2 cv3 cv4 : Nat), M = dM cM → tl = i64 ct → v1 = nI cv1 → v2 = nI cv2 → v3 = nI cv3 → v4 = nI cv4 → eX11_cannot_20 q  n cM ct cv1 cv2 cv3 cv4 = true → wX11_cannot_20 post  n M tl v1 v2 v3 v4 := by
  intro n
  induction n with
  | zero => intro M tl v1 v2 v3 v4 cM ct cv1 cv2 cv3 cv4 hM ht hv1 hv2 hv3 hv4 h; exact Bool.noConfusion h
  | succ n ih =>
    intro M tl v1 v2 v3 v4 cM ct cv1 cv2 cv3 cv4 hM ht hv1 hv2 hv3 hv4 h
    unfold wX11_cannot_20
    refine e_ite (c_le (rfl : (6 : Int32) = nI 6) hv4) h (fun h => ?_) (fun h => ?_)
    · exact ⟨5000, sX11_cannot_96 hq  5000 _ _ _ _ _ _ _ _ _ _ _ _ _ _ hM ht hv1 hv2 hv3 (rfl : (0 : Int32) = nI 0) (rfl : (0 : Int32) = nI 0) h⟩
    · refine spX11_doesLack (fun r3 M1 t2 cr3 cM1 ct2 hr3 hM1 ht2 h => ?_) hM ht (rfl : (1 : Int32) = nI 1) hv4 h
      refine e_ite (c_eq hr3 (rfl : (0 : Int32) = nI 0)) h (fun h => ?_) (fun h => ?_)
      · refine e_ite (c_eq hv3 lm4) h (fun h => ?_) (fun h => ?_)
        · exact sX11_cannot_57 hq ih hM1 ht2 hv1 hv2 hv3 hv4 h
        · refine e_and (k_in (r_add (rfl : (6 : Int32) = nI 6) hv4) (r_al (rfl : (85 : Nat) = 85))) h (fun h => ?_)
          refine e_ite (c_le hv3 (r_rd hM1 (rfl : (85 : Nat) = 85) (r_nat (r_add (rfl : (6 : Int32) = nI 6) hv4)))) h (fun h => ?_) (fun h => ?_)
          · exact sX11_cannot_61 hq ih hM1 ht2 hv1 hv2 hv3 hv4 h
          · exact sX11_cannot_57 hq ih hM1 ht2 hv1 hv2 hv3 hv4 h
      · exact sX11_cannot_61 hq ih hM1 ht2 hv1 hv2 hv3 hv4 h
noncomputable def epX11_cannot (q : Nat → Nat → Nat → Bool) (cM ct cv1 : Nat) : Bool :=
  (epX11_in (fun cr3 cM1 ct2 => (@Bool.rec (fun _ => Bool) (eX11_cannot_20 q  5000 cM1 ct2 cv1 0 4294967292 1) (q 4294967295 cM1 ct2) (eqN cr3 0))) cM ct (xN cv1) 0 1)
set_option maxHeartbeats 4000000 in
set_option maxRecDepth 20000 in
theorem spX11_cannot {post : Int32 → MM → Int64 → Prop} {q : Nat → Nat → Nat → Bool} (hq : ∀ (r : Int32) (M : MM) (tl : Int64) (cr cM ct : Nat), r = nI cr → M = dM cM → tl = i64 ct → q cr cM ct = true → post r M tl) {M : MM} {tl : Int64} {v1 : Int32} {cM ct cv1 : Nat} (hM : M = dM cM) (ht : tl = i64 ct) (hv1 : v1 = nI cv1) (h : epX11_cannot q  cM ct cv1 = true) : wpX11_cannot post  M tl v1 := by
  unfold wpX11_cannot
  unfold epX11_cannot at h
  refine spX11_in (fun r3 M1 t2 cr3 cM1 ct2 hr3 hM1 ht2 h => ?_) hM ht (r_ext hv1) (rfl : (0 : Int64) = i64 0) (rfl : (1 : Int64) = i64 1) h
  refine e_ite (c_eq hr3 (rfl : (0 : Int32) = nI 0)) h (fun h => ?_) (fun h => ?_)
  · exact hq _ _ _ _ _ _ lm1 hM1 ht2 h
  · exact ⟨5000, sX11_cannot_20 hq  5000 _ _ _ _ _ _ _ _ _ _ _ _ hM1 ht2 hv1 (rfl : (0 : Int32) = nI 0) lm4 (rfl : (1 : Int32) = nI 1) h⟩
noncomputable def eX11_fire_127 (q : Nat → Nat → Nat → Bool) (cM ct cs0 : Nat) : Bool :=
  (epX11_flag (fun cr3 cM1 ct2 => (q cr3 cM1 ct2)) cM ct cs0)
set_option maxHeartbeats 4000000 in
set_option maxRecDepth 20000 in
theorem sX11_fire_127 {post : Int32 → MM → Int64 → Prop} {q : Nat → Nat → Nat → Bool} (hq : ∀ (r : Int32) (M : MM) (tl : Int64) (cr cM ct : Nat), r = nI cr → M = dM cM → tl = i64 ct → q cr cM ct = true → post r M tl) {M : MM} {tl : Int64} {s0 : Int32} {cM ct cs0 : Nat} (hM : M = dM cM) (ht : tl = i64 ct) (hs0 : s0 = nI cs0) (h : eX11_fire_127 q  cM ct cs0 = true) : wX11_fire_127 post  M tl s0 := by
  unfold wX11_fire_127
  unfold eX11_fire_127 at h
  refine spX11_flag (fun r3 M1 t2 cr3 cM1 ct2 hr3 hM1 ht2 h => ?_) hM ht hs0 h
  exact hq _ _ _ _ _ _ hr3 hM1 ht2 h
noncomputable def eX11_fire_108 (q : Nat → Nat → Nat → Bool) (cM ct cv3 cv6 cs0 cs1 : Nat) : Bool :=
  (@Bool.rec (fun _ => Bool) (@Bool.rec (fun _ => Bool) (q cv6 cM ct) (q (aN cs0 cs1) cM ct) (ltN (aN cs0 cs1) cv6)) (@Bool.rec (fun _ => Bool) (eX11_fire_127 q  cM ct 1) (eX11_fire_127 q  cM ct 0) (ltN (aN cs0 cs1) cv6)) (eqN cv3 0))
set_option maxHeartbeats 4000000 in
set_option maxRecDepth 20000 in
theorem sX11_fire_108 {post : Int32 → MM → Int64 → Prop} {q : Nat → Nat → Nat → Bool} (hq : ∀ (r : Int32) (M : MM) (tl : Int64) (cr cM ct : Nat), r = nI cr → M = dM cM → tl = i64 ct → q cr cM ct = true → post r M tl) {M : MM} {tl : Int64} {v3 : Int32} {v6 : Int32} {s0 : Int32} {s1 : Int32} {cM ct cv3 cv6 cs0 cs1 : Nat} (hM : M = dM cM) (ht : tl = i64 ct) (hv3 : v3 = nI cv3) (hv6 : v6 = nI cv6) (hs0 : s0 = nI cs0) (hs1 : s1 = nI cs1) (h : eX11_fire_108 q  cM ct cv3 cv6 cs0 cs1 = true) : wX11_fire_108 post  M tl v3 v6 s0 s1 := by
  unfold wX11_fire_108
  unfold eX11_fire_108 at h
  refine e_ite (c_eq hv3 (rfl : (0 : Int32) = nI 0)) h (fun h => ?_) (fun h => ?_)
  · refine e_ite (c_lt (r_add hs0 hs1) hv6) h (fun h => ?_) (fun h => ?_)
    · exact sX11_fire_127 hq  hM ht (rfl : (0 : Int32) = nI 0) h
    · exact sX11_fire_127 hq  hM ht (rfl : (1 : Int32) = nI 1) h
  · refine e_ite (c_lt (r_add hs0 hs1) hv6) h (fun h => ?_) (fun h => ?_)
    · exact hq _ _ _ _ _ _ (r_add hs0 hs1) hM ht h
    · exact hq _ _ _ _ _ _ hv6 hM ht h
noncomputable def epX11_fire (q : Nat → Nat → Nat → Bool) (cM ct cv1 cv2 cv3 : Nat) : Bool :=
  (epX11_isLot (fun cr3 cM1 ct2 => (@Bool.rec (fun _ => Bool) (epX11_in (fun cr6 cM4 ct5 => (@Bool.rec (fun _ => Bool) (epX11_kindThere (fun cr9 cM7 ct8 => (@Bool.rec (fun _ => Bool) (epX11_matchOf (fun cr12 cM10 ct11 => (@Bool.rec (fun _ => Bool) false (@Bool.rec (fun _ => Bool) false (@Bool.rec (fun _ => Bool) (epX11_kindThere (fun cr17 cM15 ct16 => (@Bool.rec (fun _ => Bool) false (eX11_fire_108 q  cM15 ct16 cv3 (rd cM10 85 (tN (aN (mN 6 cv1) cr9))) (rd cM10 86 (tN (aN (mN 6 cv1) cr9))) (aN (rd cM10 81 4) (rd cM15 86 (tN (aN (mN 6 (sN 1 cv1)) cr17))))) (inN (aN (mN 6 (sN 1 cv1)) cr17) (alF 86)))) cM10 ct11 (sN 1 cv1) cr12) (eX11_fire_108 q  cM10 ct11 cv3 (rd cM10 85 (tN (aN (mN 6 cv1) cr9))) (rd cM10 86 (tN (aN (mN 6 cv1) cr9))) 0) (eqN cr12 4294967292)) (inN (aN (mN 6 cv1) cr9) (alF 86))) (inN (aN (mN 6 cv1) cr9) (alF 85)))) cM7 ct8 cv1 cv2) (q 4294967294 cM7 ct8) (eqN cr9 0))) cM4 ct5 cv1 cv2) (q 4294967295 cM4 ct5) (eqN cr6 0))) cM1 ct2 (xN cv3) 0 1) (q 4294967295 cM1 ct2) (eqN cr3 0))) cM ct cv1 cv2)
set_option maxHeartbeats 4000000 in
set_option maxRecDepth 20000 in
theorem spX11_fire {post : Int32 → MM → Int64 → Prop} {q : Nat → Nat → Nat → Bool} (hq : ∀ (r : Int32) (M : MM) (tl : Int64) (cr cM ct : Nat), r = nI cr → M = dM cM → tl = i64 ct → q cr cM ct = true → post r M tl) {M : MM} {tl : Int64} {v1 : Int32} {v2 : Int32} {v3 : Int32} {cM ct cv1 cv2 cv3 : Nat} (hM : M = dM cM) (ht : tl = i64 ct) (hv1 : v1 = nI cv1) (hv2 : v2 = nI cv2) (hv3 : v3 = nI cv3) (h : epX11_fire q  cM ct cv1 cv2 cv3 = true) : wpX11_fire post  M tl v1 v2 v3 := by
  unfold wpX11_fire
  unfold epX11_fire at h
  refine spX11_isLot (fun r3 M1 t2 cr3 cM1 ct2 hr3 hM1 ht2 h => ?_) hM ht hv1 hv2 h
  refine e_ite (c_eq hr3 (rfl : (0 : Int32) = nI 0)) h (fun h => ?_) (fun h => ?_)
  · exact hq _ _ _ _ _ _ lm1 hM1 ht2 h
  · refine spX11_in (fun r6 M4 t5 cr6 cM4 ct5 hr6 hM4 ht5 h => ?_) hM1 ht2 (r_ext hv3) (rfl : (0 : Int64) = i64 0) (rfl : (1 : Int64) = i64 1) h
    refine e_ite (c_eq hr6 (rfl : (0 : Int32) = nI 0)) h (fun h => ?_) (fun h => ?_)
    · exact hq _ _ _ _ _ _ lm1 hM4 ht5 h
    · refine spX11_kindThere (fun r9 M7 t8 cr9 cM7 ct8 hr9 hM7 ht8 h => ?_) hM4 ht5 hv1 hv2 h
      refine e_ite (c_eq hr9 (rfl : (0 : Int32) = nI 0)) h (fun h => ?_) (fun h => ?_)
      · exact hq _ _ _ _ _ _ lm2 hM7 ht8 h
      · refine spX11_matchOf (fun r12 M10 t11 cr12 cM10 ct11 hr12 hM10 ht11 h => ?_) hM7 ht8 hv1 hv2 h
        refine e_and (k_in (r_add (r_mul (rfl : (6 : Int32) = nI 6) hv1) hr9) (r_al (rfl : (85 : Nat) = 85))) h (fun h => ?_)
        refine e_and (k_in (r_add (r_mul (rfl : (6 : Int32) = nI 6) hv1) hr9) (r_al (rfl : (86 : Nat) = 86))) h (fun h => ?_)
        refine e_ite (c_eq hr12 lm4) h (fun h => ?_) (fun h => ?_)
        · exact sX11_fire_108 hq  hM10 ht11 hv3 (r_rd hM10 (rfl : (85 : Nat) = 85) (r_nat (r_add (r_mul (rfl : (6 : Int32) = nI 6) hv1) hr9))) (r_rd hM10 (rfl : (86 : Nat) = 86) (r_nat (r_add (r_mul (rfl : (6 : Int32) = nI 6) hv1) hr9))) (rfl : (0 : Int32) = nI 0) h
        · refine spX11_kindThere (fun r17 M15 t16 cr17 cM15 ct16 hr17 hM15 ht16 h => ?_) hM10 ht11 (r_sub (rfl : (1 : Int32) = nI 1) hv1) hr12 h
          refine e_and (k_in (r_add (r_mul (rfl : (6 : Int32) = nI 6) (r_sub (rfl : (1 : Int32) = nI 1) hv1)) hr17) (r_al (rfl : (86 : Nat) = 86))) h (fun h => ?_)
          exact sX11_fire_108 hq  hM15 ht16 hv3 (r_rd hM10 (rfl : (85 : Nat) = 85) (r_nat (r_add (r_mul (rfl : (6 : Int32) = nI 6) hv1) hr9))) (r_rd hM10 (rfl : (86 : Nat) = 86) (r_nat (r_add (r_mul (rfl : (6 : Int32) = nI 6) hv1) hr9))) (r_add (r_rd hM10 (rfl : (81 : Nat) = 81) (rfl : (4 : Nat) = 4)) (r_rd hM15 (rfl : (86 : Nat) = 86) (r_nat (r_add (r_mul (rfl : (6 : Int32) = nI 6) (r_sub (rfl : (1 : Int32) = nI 1) hv1)) hr17)))) h
noncomputable def eX11_quarrelOf_119 (q : Nat → Nat → Nat → Bool) (cbk4 : Nat → Nat → Nat → Nat → Nat → Bool) (cM ct cv1 cv3 cs0 cs1 : Nat) : Bool :=
  (cbk4 cM ct cv1 (aN cs0 cs1) (aN cv3 1))
set_option maxHeartbeats 4000000 in
set_option maxRecDepth 20000 in
theorem sX11_quarrelOf_119 {post : Int32 → MM → Int64 → Prop} {q : Nat → Nat → Nat → Bool} (hq : ∀ (r : Int32) (M : MM) (tl : Int64) (cr cM ct : Nat), r = nI cr → M = dM cM → tl = i64 ct → q cr cM ct = true → post r M tl) {bk4 : MM → Int64 → Int32 → Int32 → Int32 → Prop} {cbk4 : Nat → Nat → Nat → Nat → Nat → Bool} (hbk4 : ∀ (M : MM) (tl : Int64) (x0 : Int32) (x1 : Int32) (x2 : Int32) (cM ct cx0 cx1 cx2 : Nat), M = dM cM → tl = i64 ct → x0 = nI cx0 → x1 = nI cx1 → x2 = nI cx2 → cbk4 cM ct cx0 cx1 cx2 = true → bk4 M tl x0 x1 x2) {M : MM} {tl : Int64} {v1 : Int32} {v3 : Int32} {s0 : Int32} {s1 : Int32} {cM ct cv1 cv3 cs0 cs1 : Nat} (hM : M = dM cM) (ht : tl = i64 ct) (hv1 : v1 = nI cv1) (hv3 : v3 = nI cv3) (hs0 : s0 = nI cs0) (hs1 : s1 = nI cs1) (h : eX11_quarrelOf_119 q cbk4 cM ct cv1 cv3 cs0 cs1 = true) : wX11_quarrelOf_119 post bk4 M tl v1 v3 s0 s1 := by
  unfold wX11_quarrelOf_119
  unfold eX11_quarrelOf_119 at h
  exact hbk4 _ _ _ _ _ _ _ _ _ _ hM ht hv1 (r_add hs0 hs1) (r_add hv3 (rfl : (1 : Int32) = nI 1)) h
noncomputable def eX11_quarrelOf_112 (q : Nat → Nat → Nat → Bool) (cbk4 : Nat → Nat → Nat → Nat → Nat → Bool) (cM ct cv1 cv3 cs0 cs1 : Nat) : Bool :=
  (epX11_flag (fun cr3 cM1 ct2 => (eX11_quarrelOf_119 q cbk4 cM1 ct2 cv1 cv3 cs0 cr3)) cM ct cs1)
set_option maxHeartbeats 4000000 in
set_option maxRecDepth 20000 in
theorem sX11_quarrelOf_112 {post : Int32 → MM → Int64 → Prop} {q : Nat → Nat → Nat → Bool} (hq : ∀ (r : Int32) (M : MM) (tl : Int64) (cr cM ct : Nat), r = nI cr → M = dM cM → tl = i64 ct → q cr cM ct = true → post r M tl) {bk4 : MM → Int64 → Int32 → Int32 → Int32 → Prop} {cbk4 : Nat → Nat → Nat → Nat → Nat → Bool} (hbk4 : ∀ (M : MM) (tl : Int64) (x0 : Int32) (x1 : Int32) (x2 : Int32) (cM ct cx0 cx1 cx2 : Nat), M = dM cM → tl = i64 ct → x0 = nI cx0 → x1 = nI cx1 → x2 = nI cx2 → cbk4 cM ct cx0 cx1 cx2 = true → bk4 M tl x0 x1 x2) {M : MM} {tl : Int64} {v1 : Int32} {v3 : Int32} {s0 : Int32} {s1 : Int32} {cM ct cv1 cv3 cs0 cs1 : Nat} (hM : M = dM cM) (ht : tl = i64 ct) (hv1 : v1 = nI cv1) (hv3 : v3 = nI cv3) (hs0 : s0 = nI cs0) (hs1 : s1 = nI cs1) (h : eX11_quarrelOf_112 q cbk4 cM ct cv1 cv3 cs0 cs1 = true) : wX11_quarrelOf_112 post bk4 M tl v1 v3 s0 s1 := by
  unfold wX11_quarrelOf_112
  unfold eX11_quarrelOf_112 at h
  refine spX11_flag (fun r3 M1 t2 cr3 cM1 ct2 hr3 hM1 ht2 h => ?_) hM ht hs1 h
  exact sX11_quarrelOf_119 hq hbk4 hM1 ht2 hv1 hv3 hs0 hr3 h
noncomputable def eX11_quarrelOf_80 (q : Nat → Nat → Nat → Bool) (cbk4 : Nat → Nat → Nat → Nat → Nat → Bool) (cM ct cv1 cv3 cs0 cs1 : Nat) : Bool :=
  (epX11_matchBy (fun cr3 cM1 ct2 => (@Bool.rec (fun _ => Bool) (eX11_quarrelOf_119 q cbk4 cM1 ct2 cv1 cv3 (aN cs0 cs1) 0) (@Bool.rec (fun _ => Bool) false (@Bool.rec (fun _ => Bool) (eX11_quarrelOf_112 q cbk4 cM1 ct2 cv1 cv3 (aN cs0 cs1) 1) (eX11_quarrelOf_112 q cbk4 cM1 ct2 cv1 cv3 (aN cs0 cs1) 0) (eqN (rd cM1 82 (tN (aN 8 cv3))) 0)) (inN (aN 8 cv3) (alF 82))) (eqN cr3 4294967292))) cM ct cv1 1 cv3)
set_option maxHeartbeats 4000000 in
set_option maxRecDepth 20000 in
theorem sX11_quarrelOf_80 {post : Int32 → MM → Int64 → Prop} {q : Nat → Nat → Nat → Bool} (hq : ∀ (r : Int32) (M : MM) (tl : Int64) (cr cM ct : Nat), r = nI cr → M = dM cM → tl = i64 ct → q cr cM ct = true → post r M tl) {bk4 : MM → Int64 → Int32 → Int32 → Int32 → Prop} {cbk4 : Nat → Nat → Nat → Nat → Nat → Bool} (hbk4 : ∀ (M : MM) (tl : Int64) (x0 : Int32) (x1 : Int32) (x2 : Int32) (cM ct cx0 cx1 cx2 : Nat), M = dM cM → tl = i64 ct → x0 = nI cx0 → x1 = nI cx1 → x2 = nI cx2 → cbk4 cM ct cx0 cx1 cx2 = true → bk4 M tl x0 x1 x2) {M : MM} {tl : Int64} {v1 : Int32} {v3 : Int32} {s0 : Int32} {s1 : Int32} {cM ct cv1 cv3 cs0 cs1 : Nat} (hM : M = dM cM) (ht : tl = i64 ct) (hv1 : v1 = nI cv1) (hv3 : v3 = nI cv3) (hs0 : s0 = nI cs0) (hs1 : s1 = nI cs1) (h : eX11_quarrelOf_80 q cbk4 cM ct cv1 cv3 cs0 cs1 = true) : wX11_quarrelOf_80 post bk4 M tl v1 v3 s0 s1 := by
  unfold wX11_quarrelOf_80
  unfold eX11_quarrelOf_80 at h
  refine spX11_matchBy (fun r3 M1 t2 cr3 cM1 ct2 hr3 hM1 ht2 h => ?_) hM ht hv1 (rfl : (1 : Int32) = nI 1) hv3 h
  refine e_ite (c_eq hr3 lm4) h (fun h => ?_) (fun h => ?_)
  · refine e_and (k_in (r_add (rfl : (8 : Int32) = nI 8) hv3) (r_al (rfl : (82 : Nat) = 82))) h (fun h => ?_)
    refine e_ite (c_eq (r_rd hM1 (rfl : (82 : Nat) = 82) (r_nat (r_add (rfl : (8 : Int32) = nI 8) hv3))) (rfl : (0 : Int32) = nI 0)) h (fun h => ?_) (fun h => ?_)
    · exact sX11_quarrelOf_112 hq hbk4 hM1 ht2 hv1 hv3 (r_add hs0 hs1) (rfl : (0 : Int32) = nI 0) h
    · exact sX11_quarrelOf_112 hq hbk4 hM1 ht2 hv1 hv3 (r_add hs0 hs1) (rfl : (1 : Int32) = nI 1) h
  · exact sX11_quarrelOf_119 hq hbk4 hM1 ht2 hv1 hv3 (r_add hs0 hs1) (rfl : (0 : Int32) = nI 0) h
noncomputable def eX11_quarrelOf_43 (q : Nat → Nat → Nat → Bool) (cbk4 : Nat → Nat → Nat → Nat → Nat → Bool) (cM ct cv1 cv3 cs0 cs1 : Nat) : Bool :=
  (epX11_flag (fun cr3 cM1 ct2 => (eX11_quarrelOf_80 q cbk4 cM1 ct2 cv1 cv3 cs0 cr3)) cM ct cs1)
set_option maxHeartbeats 4000000 in
set_option maxRecDepth 20000 in
theorem sX11_quarrelOf_43 {post : Int32 → MM → Int64 → Prop} {q : Nat → Nat → Nat → Bool} (hq : ∀ (r : Int32) (M : MM) (tl : Int64) (cr cM ct : Nat), r = nI cr → M = dM cM → tl = i64 ct → q cr cM ct = true → post r M tl) {bk4 : MM → Int64 → Int32 → Int32 → Int32 → Prop} {cbk4 : Nat → Nat → Nat → Nat → Nat → Bool} (hbk4 : ∀ (M : MM) (tl : Int64) (x0 : Int32) (x1 : Int32) (x2 : Int32) (cM ct cx0 cx1 cx2 : Nat), M = dM cM → tl = i64 ct → x0 = nI cx0 → x1 = nI cx1 → x2 = nI cx2 → cbk4 cM ct cx0 cx1 cx2 = true → bk4 M tl x0 x1 x2) {M : MM} {tl : Int64} {v1 : Int32} {v3 : Int32} {s0 : Int32} {s1 : Int32} {cM ct cv1 cv3 cs0 cs1 : Nat} (hM : M = dM cM) (ht : tl = i64 ct) (hv1 : v1 = nI cv1) (hv3 : v3 = nI cv3) (hs0 : s0 = nI cs0) (hs1 : s1 = nI cs1) (h : eX11_quarrelOf_43 q cbk4 cM ct cv1 cv3 cs0 cs1 = true) : wX11_quarrelOf_43 post bk4 M tl v1 v3 s0 s1 := by
  unfold wX11_quarrelOf_43
  unfold eX11_quarrelOf_43 at h
  refine spX11_flag (fun r3 M1 t2 cr3 cM1 ct2 hr3 hM1 ht2 h => ?_) hM ht hs1 h
  exact sX11_quarrelOf_80 hq hbk4 hM1 ht2 hv1 hv3 hs0 hr3 h
noncomputable def eX11_quarrelOf_77 (q : Nat → Nat → Nat → Bool) (cbk4 : Nat → Nat → Nat → Nat → Nat → Bool) (cM ct cv1 cv3 cs0 cs1 : Nat) : Bool :=
  (epX11_flag (fun cr3 cM1 ct2 => (eX11_quarrelOf_80 q cbk4 cM1 ct2 cv1 cv3 cs0 cr3)) cM ct cs1)
set_option maxHeartbeats 4000000 in
set_option maxRecDepth 20000 in
theorem sX11_quarrelOf_77 {post : Int32 → MM → Int64 → Prop} {q : Nat → Nat → Nat → Bool} (hq : ∀ (r : Int32) (M : MM) (tl : Int64) (cr cM ct : Nat), r = nI cr → M = dM cM → tl = i64 ct → q cr cM ct = true → post r M tl) {bk4 : MM → Int64 → Int32 → Int32 → Int32 → Prop} {cbk4 : Nat → Nat → Nat → Nat → Nat → Bool} (hbk4 : ∀ (M : MM) (tl : Int64) (x0 : Int32) (x1 : Int32) (x2 : Int32) (cM ct cx0 cx1 cx2 : Nat), M = dM cM → tl = i64 ct → x0 = nI cx0 → x1 = nI cx1 → x2 = nI cx2 → cbk4 cM ct cx0 cx1 cx2 = true → bk4 M tl x0 x1 x2) {M : MM} {tl : Int64} {v1 : Int32} {v3 : Int32} {s0 : Int32} {s1 : Int32} {cM ct cv1 cv3 cs0 cs1 : Nat} (hM : M = dM cM) (ht : tl = i64 ct) (hv1 : v1 = nI cv1) (hv3 : v3 = nI cv3) (hs0 : s0 = nI cs0) (hs1 : s1 = nI cs1) (h : eX11_quarrelOf_77 q cbk4 cM ct cv1 cv3 cs0 cs1 = true) : wX11_quarrelOf_77 post bk4 M tl v1 v3 s0 s1 := by
  unfold wX11_quarrelOf_77
  unfold eX11_quarrelOf_77 at h
  refine spX11_flag (fun r3 M1 t2 cr3 cM1 ct2 hr3 hM1 ht2 h => ?_) hM ht hs1 h
  exact sX11_quarrelOf_80 hq hbk4 hM1 ht2 hv1 hv3 hs0 hr3 h
noncomputable def eX11_quarrelOf_4 (q : Nat → Nat → Nat → Bool) (n : Nat) : Nat → Nat → Nat → Nat → Nat → Bool :=
  @Nat.rec (fun _ => Nat → Nat → Nat → Nat → Nat → Bool) (fun _ _ _ _ _ => false) (fun _ ih cM ct cv1 cv2 cv3 => (@Bool.rec (fun _ => Bool) (epX11_matchBy (fun cr3 cM1 ct2 => (@Bool.rec (fun _ => Bool) (@Bool.rec (fun _ => Bool) false (@Bool.rec (fun _ => Bool) false (epX11_mirrorOf (fun cr8 cM6 ct7 => (@Bool.rec (fun _ => Bool) (eX11_quarrelOf_77 q ih cM6 ct7 cv1 cv3 cv2 1) (eX11_quarrelOf_77 q ih cM6 ct7 cv1 cv3 cv2 0) (eqN (rd cM1 82 (tN (aN 8 cr3))) cr8))) cM1 ct2 (rd cM1 82 (tN cv3))) (inN cv3 (alF 82))) (inN (aN 8 cr3) (alF 82))) (@Bool.rec (fun _ => Bool) false (@Bool.rec (fun _ => Bool) (eX11_quarrelOf_43 q ih cM1 ct2 cv1 cv3 cv2 1) (eX11_quarrelOf_43 q ih cM1 ct2 cv1 cv3 cv2 0) (eqN (rd cM1 82 (tN cv3)) 0)) (inN cv3 (alF 82))) (eqN cr3 4294967292))) cM ct cv1 0 cv3) (q cv2 cM ct) (leN (rd cM 81 2) cv3))) n
set_option maxHeartbeats 4000000 in
set_option maxRecDepth 20000 in
theorem sX11_quarrelOf_4 {post : Int32 → MM → Int64 → Prop} {q : Nat → Nat → Nat → Bool} (hq : ∀ (r : Int32) (M : MM) (tl : Int64) (cr cM ct : Nat), r = nI cr → M = dM cM → tl = i64 ct → q cr cM ct = true → post r M tl) : ∀ (n : Nat) (M : MM) (tl : Int64) (v1 : Int32) (v2 : Int32) (v3 : Int32) (cM ct cv1 cv2 cv3 : Nat), M = dM cM → tl = i64 ct → v1 = nI cv1 → v2 = nI cv2 → v3 = nI cv3 → eX11_quarrelOf_4 q  n cM ct cv1 cv2 cv3 = true → wX11_quarrelOf_4 post  n M tl v1 v2 v3 := by
  intro n
  induction n with
  | zero => intro M tl v1 v2 v3 cM ct cv1 cv2 cv3 hM ht hv1 hv2 hv3 h; exact Bool.noConfusion h
  | succ n ih =>
    intro M tl v1 v2 v3 cM ct cv1 cv2 cv3 hM ht hv1 hv2 hv3 h
    unfold wX11_quarrelOf_4
    refine e_ite (c_le (r_rd hM (rfl : (81 : Nat) = 81) (rfl : (2 : Nat) = 2)) hv3) h (fun h => ?_) (fun h => ?_)
    · exact hq _ _ _ _ _ _ hv2 hM ht h
    · refine spX11_matchBy (fun r3 M1 t2 cr3 cM1 ct2 hr3 hM1 ht2 h => ?_) hM ht hv1 (rfl : (0 : Int32) = nI 0) hv3 h
      refine e_ite (c_eq hr3 lm4) h (fun h => ?_) (fun h => ?_)
      · refine e_and (k_in hv3 (r_al (rfl : (82 : Nat) = 82))) h (fun h => ?_)
        refine e_ite (c_eq (r_rd hM1 (rfl : (82 : Nat) = 82) (r_nat hv3)) (rfl : (0 : Int32) = nI 0)) h (fun h => ?_) (fun h => ?_)
        · exact sX11_quarrelOf_43 hq ih hM1 ht2 hv1 hv3 hv2 (rfl : (0 : Int32) = nI 0) h
        · exact sX11_quarrelOf_43 hq ih hM1 ht2 hv1 hv3 hv2 (rfl : (1 : Int32) = nI 1) h
      · refine e_and (k_in (r_add (rfl : (8 : Int32) = nI 8) hr3) (r_al (rfl : (82 : Nat) = 82))) h (fun h => ?_)
        refine e_and (k_in hv3 (r_al (rfl : (82 : Nat) = 82))) h (fun h => ?_)
        refine spX11_mirrorOf (fun r8 M6 t7 cr8 cM6 ct7 hr8 hM6 ht7 h => ?_) hM1 ht2 (r_rd hM1 (rfl : (82 : Nat) = 82) (r_nat hv3)) h
        refine e_ite (c_eq (r_rd hM1 (rfl : (82 : Nat) = 82) (r_nat (r_add (rfl : (8 : Int32) = nI 8) hr3))) hr8) h (fun h => ?_) (fun h => ?_)
        · exact sX11_quarrelOf_77 hq ih hM6 ht7 hv1 hv3 hv2 (rfl : (0 : Int32) = nI 0) h
        · exact sX11_quarrelOf_77 hq ih hM6 ht7 hv1 hv3 hv2 (rfl : (1 : Int32) = nI 1) h
noncomputable def epX11_quarrelOf (q : Nat → Nat → Nat → Bool) (cM ct cv1 : Nat) : Bool :=
  (eX11_quarrelOf_4 q  5000 cM ct cv1 0 0)
set_option maxHeartbeats 4000000 in
set_option maxRecDepth 20000 in
theorem spX11_quarrelOf {post : Int32 → MM → Int64 → Prop} {q : Nat → Nat → Nat → Bool} (hq : ∀ (r : Int32) (M : MM) (tl : Int64) (cr cM ct : Nat), r = nI cr → M = dM cM → tl = i64 ct → q cr cM ct = true → post r M tl) {M : MM} {tl : Int64} {v1 : Int32} {cM ct cv1 : Nat} (hM : M = dM cM) (ht : tl = i64 ct) (hv1 : v1 = nI cv1) (h : epX11_quarrelOf q  cM ct cv1 = true) : wpX11_quarrelOf post  M tl v1 := by
  unfold wpX11_quarrelOf
  unfold epX11_quarrelOf at h
  exact ⟨5000, sX11_quarrelOf_4 hq  5000 _ _ _ _ _ _ _ _ _ _ hM ht hv1 (rfl : (0 : Int32) = nI 0) (rfl : (0 : Int32) = nI 0) h⟩
noncomputable def epX11_quarrel (q : Nat → Nat → Nat → Bool) (cM ct cv1 : Nat) : Bool :=
  (epX11_in (fun cr3 cM1 ct2 => (@Bool.rec (fun _ => Bool) (epX11_quarrelOf (fun cr6 cM4 ct5 => (q cr6 cM4 ct5)) cM1 ct2 cv1) (q 4294967295 cM1 ct2) (eqN cr3 0))) cM ct (xN cv1) 0 6)
set_option maxHeartbeats 4000000 in
set_option maxRecDepth 20000 in
theorem spX11_quarrel {post : Int32 → MM → Int64 → Prop} {q : Nat → Nat → Nat → Bool} (hq : ∀ (r : Int32) (M : MM) (tl : Int64) (cr cM ct : Nat), r = nI cr → M = dM cM → tl = i64 ct → q cr cM ct = true → post r M tl) {M : MM} {tl : Int64} {v1 : Int32} {cM ct cv1 : Nat} (hM : M = dM cM) (ht : tl = i64 ct) (hv1 : v1 = nI cv1) (h : epX11_quarrel q  cM ct cv1 = true) : wpX11_quarrel post  M tl v1 := by
  unfold wpX11_quarrel
  unfold epX11_quarrel at h
  refine spX11_in (fun r3 M1 t2 cr3 cM1 ct2 hr3 hM1 ht2 h => ?_) hM ht (r_ext hv1) (rfl : (0 : Int64) = i64 0) (rfl : (6 : Int64) = i64 6) h
  refine e_ite (c_eq hr3 (rfl : (0 : Int32) = nI 0)) h (fun h => ?_) (fun h => ?_)
  · exact hq _ _ _ _ _ _ lm1 hM1 ht2 h
  · refine spX11_quarrelOf (fun r6 M4 t5 cr6 cM4 ct5 hr6 hM4 ht5 h => ?_) hM1 ht2 hv1 h
    exact hq _ _ _ _ _ _ hr6 hM4 ht5 h
noncomputable def eX11_bend_28 (q : Nat → Nat → Nat → Bool) (cbk4 : Nat → Nat → Nat → Nat → Bool) (cM ct cv2 cs0 : Nat) : Bool :=
  (cbk4 cM ct cs0 (aN cv2 1))
set_option maxHeartbeats 4000000 in
set_option maxRecDepth 20000 in
theorem sX11_bend_28 {post : Int32 → MM → Int64 → Prop} {q : Nat → Nat → Nat → Bool} (hq : ∀ (r : Int32) (M : MM) (tl : Int64) (cr cM ct : Nat), r = nI cr → M = dM cM → tl = i64 ct → q cr cM ct = true → post r M tl) {bk4 : MM → Int64 → Int32 → Int32 → Prop} {cbk4 : Nat → Nat → Nat → Nat → Bool} (hbk4 : ∀ (M : MM) (tl : Int64) (x0 : Int32) (x1 : Int32) (cM ct cx0 cx1 : Nat), M = dM cM → tl = i64 ct → x0 = nI cx0 → x1 = nI cx1 → cbk4 cM ct cx0 cx1 = true → bk4 M tl x0 x1) {M : MM} {tl : Int64} {v2 : Int32} {s0 : Int32} {cM ct cv2 cs0 : Nat} (hM : M = dM cM) (ht : tl = i64 ct) (hv2 : v2 = nI cv2) (hs0 : s0 = nI cs0) (h : eX11_bend_28 q cbk4 cM ct cv2 cs0 = true) : wX11_bend_28 post bk4 M tl v2 s0 := by
  unfold wX11_bend_28
  unfold eX11_bend_28 at h
  exact hbk4 _ _ _ _ _ _ _ _ hM ht hs0 (r_add hv2 (rfl : (1 : Int32) = nI 1)) h
noncomputable def eX11_bend_4 (q : Nat → Nat → Nat → Bool) (n : Nat) : Nat → Nat → Nat → Nat → Bool :=
  @Nat.rec (fun _ => Nat → Nat → Nat → Nat → Bool) (fun _ _ _ _ => false) (fun _ ih cM ct cv1 cv2 => (@Bool.rec (fun _ => Bool) (epX11_quarrelOf (fun cr3 cM1 ct2 => (epX11_quarrelOf (fun cr6 cM4 ct5 => (@Bool.rec (fun _ => Bool) (eX11_bend_28 q ih cM4 ct5 cv2 cv2) (eX11_bend_28 q ih cM4 ct5 cv2 cv1) (leN cr6 cr3))) cM1 ct2 cv1)) cM ct cv2) (q cv1 cM ct) (leN 7 cv2))) n
set_option maxHeartbeats 4000000 in
set_option maxRecDepth 20000 in
theorem sX11_bend_4 {post : Int32 → MM → Int64 → Prop} {q : Nat → Nat → Nat → Bool} (hq : ∀ (r : Int32) (M : MM) (tl : Int64) (cr cM ct : Nat), r = nI cr → M = dM cM → tl = i64 ct → q cr cM ct = true → post r M tl) : ∀ (n : Nat) (M : MM) (tl : Int64) (v1 : Int32) (v2 : Int32) (cM ct cv1 cv2 : Nat), M = dM cM → tl = i64 ct → v1 = nI cv1 → v2 = nI cv2 → eX11_bend_4 q  n cM ct cv1 cv2 = true → wX11_bend_4 post  n M tl v1 v2 := by
  intro n
  induction n with
  | zero => intro M tl v1 v2 cM ct cv1 cv2 hM ht hv1 hv2 h; exact Bool.noConfusion h
  | succ n ih =>
    intro M tl v1 v2 cM ct cv1 cv2 hM ht hv1 hv2 h
    unfold wX11_bend_4
    refine e_ite (c_le (rfl : (7 : Int32) = nI 7) hv2) h (fun h => ?_) (fun h => ?_)
    · exact hq _ _ _ _ _ _ hv1 hM ht h
    · refine spX11_quarrelOf (fun r3 M1 t2 cr3 cM1 ct2 hr3 hM1 ht2 h => ?_) hM ht hv2 h
      refine spX11_quarrelOf (fun r6 M4 t5 cr6 cM4 ct5 hr6 hM4 ht5 h => ?_) hM1 ht2 hv1 h
      refine e_ite (c_le hr6 hr3) h (fun h => ?_) (fun h => ?_)
      · exact sX11_bend_28 hq ih hM4 ht5 hv2 hv1 h
      · exact sX11_bend_28 hq ih hM4 ht5 hv2 hv2 h
noncomputable def epX11_bend (q : Nat → Nat → Nat → Bool) (cM ct  : Nat) : Bool :=
  (eX11_bend_4 q  5000 cM ct 0 1)
set_option maxHeartbeats 4000000 in
set_option maxRecDepth 20000 in
theorem spX11_bend {post : Int32 → MM → Int64 → Prop} {q : Nat → Nat → Nat → Bool} (hq : ∀ (r : Int32) (M : MM) (tl : Int64) (cr cM ct : Nat), r = nI cr → M = dM cM → tl = i64 ct → q cr cM ct = true → post r M tl) {M : MM} {tl : Int64} {cM ct  : Nat} (hM : M = dM cM) (ht : tl = i64 ct)  (h : epX11_bend q  cM ct  = true) : wpX11_bend post  M tl  := by
  unfold wpX11_bend
  unfold epX11_bend at h
  exact ⟨5000, sX11_bend_4 hq  5000 _ _ _ _ _ _ _ _ hM ht (rfl : (0 : Int32) = nI 0) (rfl : (1 : Int32) = nI 1) h⟩
noncomputable def epX11_isShop (q : Nat → Nat → Nat → Bool) (cM ct cv1 cv2 : Nat) : Bool :=
  (epX11_in (fun cr3 cM1 ct2 => (@Bool.rec (fun _ => Bool) (epX11_kindThere (fun cr6 cM4 ct5 => (@Bool.rec (fun _ => Bool) (q 0 cM4 ct5) (q 1 cM4 ct5) (eqN cr6 3))) cM1 ct2 cv1 cv2) (q 0 cM1 ct2) (eqN cr3 0))) cM ct (xN cv2) 0 (xN (sN (rd cM 81 2) 1)))
set_option maxHeartbeats 4000000 in
set_option maxRecDepth 20000 in
theorem spX11_isShop {post : Int32 → MM → Int64 → Prop} {q : Nat → Nat → Nat → Bool} (hq : ∀ (r : Int32) (M : MM) (tl : Int64) (cr cM ct : Nat), r = nI cr → M = dM cM → tl = i64 ct → q cr cM ct = true → post r M tl) {M : MM} {tl : Int64} {v1 : Int32} {v2 : Int32} {cM ct cv1 cv2 : Nat} (hM : M = dM cM) (ht : tl = i64 ct) (hv1 : v1 = nI cv1) (hv2 : v2 = nI cv2) (h : epX11_isShop q  cM ct cv1 cv2 = true) : wpX11_isShop post  M tl v1 v2 := by
  unfold wpX11_isShop
  unfold epX11_isShop at h
  refine spX11_in (fun r3 M1 t2 cr3 cM1 ct2 hr3 hM1 ht2 h => ?_) hM ht (r_ext hv2) (rfl : (0 : Int64) = i64 0) (r_ext (r_sub (r_rd hM (rfl : (81 : Nat) = 81) (rfl : (2 : Nat) = 2)) (rfl : (1 : Int32) = nI 1))) h
  refine e_ite (c_eq hr3 (rfl : (0 : Int32) = nI 0)) h (fun h => ?_) (fun h => ?_)
  · exact hq _ _ _ _ _ _ (rfl : (0 : Int32) = nI 0) hM1 ht2 h
  · refine spX11_kindThere (fun r6 M4 t5 cr6 cM4 ct5 hr6 hM4 ht5 h => ?_) hM1 ht2 hv1 hv2 h
    refine e_ite (c_eq hr6 (rfl : (3 : Int32) = nI 3)) h (fun h => ?_) (fun h => ?_)
    · exact hq _ _ _ _ _ _ (rfl : (1 : Int32) = nI 1) hM4 ht5 h
    · exact hq _ _ _ _ _ _ (rfl : (0 : Int32) = nI 0) hM4 ht5 h
noncomputable def eX11_shops_126 (q : Nat → Nat → Nat → Bool) (cbk30 : Nat → Nat → Nat → Nat → Nat → Nat → Nat → Nat → Bool) (cM ct cv1 cv2 cv3 cv5 cv6 cs0 cs1 : Nat) : Bool :=
  (cbk30 cM ct cv1 cv2 cv3 (aN cs0 cs1) cv5 (aN cv6 1))
set_option maxHeartbeats 4000000 in
set_option maxRecDepth 20000 in
theorem sX11_shops_126 {post : Int32 → MM → Int64 → Prop} {q : Nat → Nat → Nat → Bool} (hq : ∀ (r : Int32) (M : MM) (tl : Int64) (cr cM ct : Nat), r = nI cr → M = dM cM → tl = i64 ct → q cr cM ct = true → post r M tl) {bk30 : MM → Int64 → Int32 → Int32 → Int32 → Int32 → Int32 → Int32 → Prop} {cbk30 : Nat → Nat → Nat → Nat → Nat → Nat → Nat → Nat → Bool} (hbk30 : ∀ (M : MM) (tl : Int64) (x0 : Int32) (x1 : Int32) (x2 : Int32) (x3 : Int32) (x4 : Int32) (x5 : Int32) (cM ct cx0 cx1 cx2 cx3 cx4 cx5 : Nat), M = dM cM → tl = i64 ct → x0 = nI cx0 → x1 = nI cx1 → x2 = nI cx2 → x3 = nI cx3 → x4 = nI cx4 → x5 = nI cx5 → cbk30 cM ct cx0 cx1 cx2 cx3 cx4 cx5 = true → bk30 M tl x0 x1 x2 x3 x4 x5) {M : MM} {tl : Int64} {v1 : Int32} {v2 : Int32} {v3 : Int32} {v5 : Int32} {v6 : Int32} {s0 : Int32} {s1 : Int32} {cM ct cv1 cv2 cv3 cv5 cv6 cs0 cs1 : Nat} (hM : M = dM cM) (ht : tl = i64 ct) (hv1 : v1 = nI cv1) (hv2 : v2 = nI cv2) (hv3 : v3 = nI cv3) (hv5 : v5 = nI cv5) (hv6 : v6 = nI cv6) (hs0 : s0 = nI cs0) (hs1 : s1 = nI cs1) (h : eX11_shops_126 q cbk30 cM ct cv1 cv2 cv3 cv5 cv6 cs0 cs1 = true) : wX11_shops_126 post bk30 M tl v1 v2 v3 v5 v6 s0 s1 := by
  unfold wX11_shops_126
  unfold eX11_shops_126 at h
  exact hbk30 _ _ _ _ _ _ _ _ _ _ _ _ _ _ _ _ hM ht hv1 hv2 hv3 (r_add hs0 hs1) hv5 (r_add hv6 (rfl : (1 : Int32) = nI 1)) h
noncomputable def eX11_shops_125 (q : Nat → Nat → Nat → Bool) (cbk30 : Nat → Nat → Nat → Nat → Nat → Nat → Nat → Nat → Bool) (cM ct cv1 cv2 cv3 cv5 cv6 cs0 : Nat) : Bool :=
  (eX11_shops_126 q cbk30 cM ct cv1 cv2 cv3 cv5 cv6 cs0 0)
set_option maxHeartbeats 4000000 in
set_option maxRecDepth 20000 in
theorem sX11_shops_125 {post : Int32 → MM → Int64 → Prop} {q : Nat → Nat → Nat → Bool} (hq : ∀ (r : Int32) (M : MM) (tl : Int64) (cr cM ct : Nat), r = nI cr → M = dM cM → tl = i64 ct → q cr cM ct = true → post r M tl) {bk30 : MM → Int64 → Int32 → Int32 → Int32 → Int32 → Int32 → Int32 → Prop} {cbk30 : Nat → Nat → Nat → Nat → Nat → Nat → Nat → Nat → Bool} (hbk30 : ∀ (M : MM) (tl : Int64) (x0 : Int32) (x1 : Int32) (x2 : Int32) (x3 : Int32) (x4 : Int32) (x5 : Int32) (cM ct cx0 cx1 cx2 cx3 cx4 cx5 : Nat), M = dM cM → tl = i64 ct → x0 = nI cx0 → x1 = nI cx1 → x2 = nI cx2 → x3 = nI cx3 → x4 = nI cx4 → x5 = nI cx5 → cbk30 cM ct cx0 cx1 cx2 cx3 cx4 cx5 = true → bk30 M tl x0 x1 x2 x3 x4 x5) {M : MM} {tl : Int64} {v1 : Int32} {v2 : Int32} {v3 : Int32} {v5 : Int32} {v6 : Int32} {s0 : Int32} {cM ct cv1 cv2 cv3 cv5 cv6 cs0 : Nat} (hM : M = dM cM) (ht : tl = i64 ct) (hv1 : v1 = nI cv1) (hv2 : v2 = nI cv2) (hv3 : v3 = nI cv3) (hv5 : v5 = nI cv5) (hv6 : v6 = nI cv6) (hs0 : s0 = nI cs0) (h : eX11_shops_125 q cbk30 cM ct cv1 cv2 cv3 cv5 cv6 cs0 = true) : wX11_shops_125 post bk30 M tl v1 v2 v3 v5 v6 s0 := by
  unfold wX11_shops_125
  unfold eX11_shops_125 at h
  exact sX11_shops_126 hq hbk30 hM ht hv1 hv2 hv3 hv5 hv6 hs0 (rfl : (0 : Int32) = nI 0) h
noncomputable def eX11_shops_105 (q : Nat → Nat → Nat → Bool) (cbk30 : Nat → Nat → Nat → Nat → Nat → Nat → Nat → Nat → Bool) (cM ct cv1 cv2 cv3 cv4 cv6 cs0 : Nat) : Bool :=
  (@Bool.rec (fun _ => Bool) (@Bool.rec (fun _ => Bool) (eX11_shops_125 q cbk30 cM ct cv1 cv2 cv3 cs0 cv6 cv4) (eX11_shops_126 q cbk30 cM ct cv1 cv2 cv3 cs0 cv6 cv4 1) (eqN (sN cs0 (mN (b2 f_div cs0 2) 2)) 0)) (eX11_shops_125 q cbk30 cM ct cv1 cv2 cv3 cs0 cv6 cv4) (leN cs0 0))
set_option maxHeartbeats 4000000 in
set_option maxRecDepth 20000 in
theorem sX11_shops_105 {post : Int32 → MM → Int64 → Prop} {q : Nat → Nat → Nat → Bool} (hq : ∀ (r : Int32) (M : MM) (tl : Int64) (cr cM ct : Nat), r = nI cr → M = dM cM → tl = i64 ct → q cr cM ct = true → post r M tl) {bk30 : MM → Int64 → Int32 → Int32 → Int32 → Int32 → Int32 → Int32 → Prop} {cbk30 : Nat → Nat → Nat → Nat → Nat → Nat → Nat → Nat → Bool} (hbk30 : ∀ (M : MM) (tl : Int64) (x0 : Int32) (x1 : Int32) (x2 : Int32) (x3 : Int32) (x4 : Int32) (x5 : Int32) (cM ct cx0 cx1 cx2 cx3 cx4 cx5 : Nat), M = dM cM → tl = i64 ct → x0 = nI cx0 → x1 = nI cx1 → x2 = nI cx2 → x3 = nI cx3 → x4 = nI cx4 → x5 = nI cx5 → cbk30 cM ct cx0 cx1 cx2 cx3 cx4 cx5 = true → bk30 M tl x0 x1 x2 x3 x4 x5) {M : MM} {tl : Int64} {v1 : Int32} {v2 : Int32} {v3 : Int32} {v4 : Int32} {v6 : Int32} {s0 : Int32} {cM ct cv1 cv2 cv3 cv4 cv6 cs0 : Nat} (hM : M = dM cM) (ht : tl = i64 ct) (hv1 : v1 = nI cv1) (hv2 : v2 = nI cv2) (hv3 : v3 = nI cv3) (hv4 : v4 = nI cv4) (hv6 : v6 = nI cv6) (hs0 : s0 = nI cs0) (h : eX11_shops_105 q cbk30 cM ct cv1 cv2 cv3 cv4 cv6 cs0 = true) : wX11_shops_105 post bk30 M tl v1 v2 v3 v4 v6 s0 := by
  unfold wX11_shops_105
  unfold eX11_shops_105 at h
  refine e_ite (c_le hs0 (rfl : (0 : Int32) = nI 0)) h (fun h => ?_) (fun h => ?_)
  · exact sX11_shops_125 hq hbk30 hM ht hv1 hv2 hv3 hs0 hv6 hv4 h
  · refine e_ite (c_eq (r_sub hs0 (r_mul (r_b2 f_div hs0 (rfl : (2 : Int32) = nI 2)) (rfl : (2 : Int32) = nI 2))) (rfl : (0 : Int32) = nI 0)) h (fun h => ?_) (fun h => ?_)
    · exact sX11_shops_126 hq hbk30 hM ht hv1 hv2 hv3 hs0 hv6 hv4 (rfl : (1 : Int32) = nI 1) h
    · exact sX11_shops_125 hq hbk30 hM ht hv1 hv2 hv3 hs0 hv6 hv4 h
noncomputable def eX11_shops_79 (q : Nat → Nat → Nat → Bool) (cbk30 : Nat → Nat → Nat → Nat → Nat → Nat → Nat → Nat → Bool) (cM ct cv1 cv2 cv4 cv5 cv6 cs0 cs1 : Nat) : Bool :=
  (epX11_flag (fun cr3 cM1 ct2 => (epX11_isShop (fun cr6 cM4 ct5 => (@Bool.rec (fun _ => Bool) (eX11_shops_105 q cbk30 cM4 ct5 cv1 cv2 (Nat.lor cs0 (b2 f_shl cr3 cv6)) cv4 cv6 (aN cv5 1)) (eX11_shops_105 q cbk30 cM4 ct5 cv1 cv2 (Nat.lor cs0 (b2 f_shl cr3 cv6)) cv4 cv6 0) (eqN cr6 0))) cM1 ct2 cv1 cv6)) cM ct cs1)
set_option maxHeartbeats 4000000 in
set_option maxRecDepth 20000 in
theorem sX11_shops_79 {post : Int32 → MM → Int64 → Prop} {q : Nat → Nat → Nat → Bool} (hq : ∀ (r : Int32) (M : MM) (tl : Int64) (cr cM ct : Nat), r = nI cr → M = dM cM → tl = i64 ct → q cr cM ct = true → post r M tl) {bk30 : MM → Int64 → Int32 → Int32 → Int32 → Int32 → Int32 → Int32 → Prop} {cbk30 : Nat → Nat → Nat → Nat → Nat → Nat → Nat → Nat → Bool} (hbk30 : ∀ (M : MM) (tl : Int64) (x0 : Int32) (x1 : Int32) (x2 : Int32) (x3 : Int32) (x4 : Int32) (x5 : Int32) (cM ct cx0 cx1 cx2 cx3 cx4 cx5 : Nat), M = dM cM → tl = i64 ct → x0 = nI cx0 → x1 = nI cx1 → x2 = nI cx2 → x3 = nI cx3 → x4 = nI cx4 → x5 = nI cx5 → cbk30 cM ct cx0 cx1 cx2 cx3 cx4 cx5 = true → bk30 M tl x0 x1 x2 x3 x4 x5) {M : MM} {tl : Int64} {v1 : Int32} {v2 : Int32} {v4 : Int32} {v5 : Int32} {v6 : Int32} {s0 : Int32} {s1 : Int32} {cM ct cv1 cv2 cv4 cv5 cv6 cs0 cs1 : Nat} (hM : M = dM cM) (ht : tl = i64 ct) (hv1 : v1 = nI cv1) (hv2 : v2 = nI cv2) (hv4 : v4 = nI cv4) (hv5 : v5 = nI cv5) (hv6 : v6 = nI cv6) (hs0 : s0 = nI cs0) (hs1 : s1 = nI cs1) (h : eX11_shops_79 q cbk30 cM ct cv1 cv2 cv4 cv5 cv6 cs0 cs1 = true) : wX11_shops_79 post bk30 M tl v1 v2 v4 v5 v6 s0 s1 := by
  unfold wX11_shops_79
  unfold eX11_shops_79 at h
  refine spX11_flag (fun r3 M1 t2 cr3 cM1 ct2 hr3 hM1 ht2 h => ?_) hM ht hs1 h
  refine spX11_isShop (fun r6 M4 t5 cr6 cM4 ct5 hr6 hM4 ht5 h => ?_) hM1 ht2 hv1 hv6 h
  refine e_ite (c_eq hr6 (rfl : (0 : Int32) = nI 0)) h (fun h => ?_) (fun h => ?_)
  · exact sX11_shops_105 hq hbk30 hM4 ht5 hv1 hv2 (r_or hs0 (r_b2 f_shl hr3 hv6)) hv4 hv6 (rfl : (0 : Int32) = nI 0) h
  · exact sX11_shops_105 hq hbk30 hM4 ht5 hv1 hv2 (r_or hs0 (r_b2 f_shl hr3 hv6)) hv4 hv6 (r_add hv5 (rfl : (1 : Int32) = nI 1)) h
noncomputable def eX11_shops_74 (q : Nat → Nat → Nat → Bool) (cbk30 : Nat → Nat → Nat → Nat → Nat → Nat → Nat → Nat → Bool) (cM ct cv1 cv2 cv4 cv5 cv6 cs0 : Nat) : Bool :=
  (eX11_shops_79 q cbk30 cM ct cv1 cv2 cv4 cv5 cv6 cs0 1)
set_option maxHeartbeats 4000000 in
set_option maxRecDepth 20000 in
theorem sX11_shops_74 {post : Int32 → MM → Int64 → Prop} {q : Nat → Nat → Nat → Bool} (hq : ∀ (r : Int32) (M : MM) (tl : Int64) (cr cM ct : Nat), r = nI cr → M = dM cM → tl = i64 ct → q cr cM ct = true → post r M tl) {bk30 : MM → Int64 → Int32 → Int32 → Int32 → Int32 → Int32 → Int32 → Prop} {cbk30 : Nat → Nat → Nat → Nat → Nat → Nat → Nat → Nat → Bool} (hbk30 : ∀ (M : MM) (tl : Int64) (x0 : Int32) (x1 : Int32) (x2 : Int32) (x3 : Int32) (x4 : Int32) (x5 : Int32) (cM ct cx0 cx1 cx2 cx3 cx4 cx5 : Nat), M = dM cM → tl = i64 ct → x0 = nI cx0 → x1 = nI cx1 → x2 = nI cx2 → x3 = nI cx3 → x4 = nI cx4 → x5 = nI cx5 → cbk30 cM ct cx0 cx1 cx2 cx3 cx4 cx5 = true → bk30 M tl x0 x1 x2 x3 x4 x5) {M : MM} {tl : Int64} {v1 : Int32} {v2 : Int32} {v4 : Int32} {v5 : Int32} {v6 : Int32} {s0 : Int32} {cM ct cv1 cv2 cv4 cv5 cv6 cs0 : Nat} (hM : M = dM cM) (ht : tl = i64 ct) (hv1 : v1 = nI cv1) (hv2 : v2 = nI cv2) (hv4 : v4 = nI cv4) (hv5 : v5 = nI cv5) (hv6 : v6 = nI cv6) (hs0 : s0 = nI cs0) (h : eX11_shops_74 q cbk30 cM ct cv1 cv2 cv4 cv5 cv6 cs0 = true) : wX11_shops_74 post bk30 M tl v1 v2 v4 v5 v6 s0 := by
  unfold wX11_shops_74
  unfold eX11_shops_74 at h
  exact sX11_shops_79 hq hbk30 hM ht hv1 hv2 hv4 hv5 hv6 hs0 (rfl : (1 : Int32) = nI 1) h
noncomputable def eX11_shops_78 (q : Nat → Nat → Nat → Bool) (cbk30 : Nat → Nat → Nat → Nat → Nat → Nat → Nat → Nat → Bool) (cM ct cv1 cv2 cv4 cv5 cv6 cs0 : Nat) : Bool :=
  (eX11_shops_79 q cbk30 cM ct cv1 cv2 cv4 cv5 cv6 cs0 0)
set_option maxHeartbeats 4000000 in
set_option maxRecDepth 20000 in
theorem sX11_shops_78 {post : Int32 → MM → Int64 → Prop} {q : Nat → Nat → Nat → Bool} (hq : ∀ (r : Int32) (M : MM) (tl : Int64) (cr cM ct : Nat), r = nI cr → M = dM cM → tl = i64 ct → q cr cM ct = true → post r M tl) {bk30 : MM → Int64 → Int32 → Int32 → Int32 → Int32 → Int32 → Int32 → Prop} {cbk30 : Nat → Nat → Nat → Nat → Nat → Nat → Nat → Nat → Bool} (hbk30 : ∀ (M : MM) (tl : Int64) (x0 : Int32) (x1 : Int32) (x2 : Int32) (x3 : Int32) (x4 : Int32) (x5 : Int32) (cM ct cx0 cx1 cx2 cx3 cx4 cx5 : Nat), M = dM cM → tl = i64 ct → x0 = nI cx0 → x1 = nI cx1 → x2 = nI cx2 → x3 = nI cx3 → x4 = nI cx4 → x5 = nI cx5 → cbk30 cM ct cx0 cx1 cx2 cx3 cx4 cx5 = true → bk30 M tl x0 x1 x2 x3 x4 x5) {M : MM} {tl : Int64} {v1 : Int32} {v2 : Int32} {v4 : Int32} {v5 : Int32} {v6 : Int32} {s0 : Int32} {cM ct cv1 cv2 cv4 cv5 cv6 cs0 : Nat} (hM : M = dM cM) (ht : tl = i64 ct) (hv1 : v1 = nI cv1) (hv2 : v2 = nI cv2) (hv4 : v4 = nI cv4) (hv5 : v5 = nI cv5) (hv6 : v6 = nI cv6) (hs0 : s0 = nI cs0) (h : eX11_shops_78 q cbk30 cM ct cv1 cv2 cv4 cv5 cv6 cs0 = true) : wX11_shops_78 post bk30 M tl v1 v2 v4 v5 v6 s0 := by
  unfold wX11_shops_78
  unfold eX11_shops_78 at h
  exact sX11_shops_79 hq hbk30 hM ht hv1 hv2 hv4 hv5 hv6 hs0 (rfl : (0 : Int32) = nI 0) h
noncomputable def eX11_shops_30 (q : Nat → Nat → Nat → Bool) (n : Nat) : Nat → Nat → Nat → Nat → Nat → Nat → Nat → Nat → Bool :=
  @Nat.rec (fun _ => Nat → Nat → Nat → Nat → Nat → Nat → Nat → Nat → Bool) (fun _ _ _ _ _ _ _ _ => false) (fun _ ih cM ct cv1 cv2 cv3 cv4 cv5 cv6 => (@Bool.rec (fun _ => Bool) (epX11_isShop (fun cr3 cM1 ct2 => (@Bool.rec (fun _ => Bool) (epX11_isShop (fun cr6 cM4 ct5 => (@Bool.rec (fun _ => Bool) (eX11_shops_74 q ih cM4 ct5 cv1 cv2 cv4 cv5 cv6 cv3) (epX11_isShop (fun cr9 cM7 ct8 => (@Bool.rec (fun _ => Bool) (eX11_shops_74 q ih cM7 ct8 cv1 cv2 cv4 cv5 cv6 cv3) (eX11_shops_78 q ih cM7 ct8 cv1 cv2 cv4 cv5 cv6 cv3) (eqN cr9 0))) cM4 ct5 cv1 (aN cv6 1)) (eqN cr6 0))) cM1 ct2 cv1 (sN cv6 1)) (eX11_shops_78 q ih cM1 ct2 cv1 cv2 cv4 cv5 cv6 cv3) (eqN cr3 0))) cM ct cv1 cv6) (@Bool.rec (fun _ => Bool) (q cv4 cM ct) (q cv3 cM ct) (eqN cv2 0)) (leN (rd cM 81 2) cv6))) n
set_option maxHeartbeats 4000000 in
set_option maxRecDepth 20000 in
theorem sX11_shops_30 {post : Int32 → MM → Int64 → Prop} {q : Nat → Nat → Nat → Bool} (hq : ∀ (r : Int32) (M : MM) (tl : Int64) (cr cM ct : Nat), r = nI cr → M = dM cM → tl = i64 ct → q cr cM ct = true → post r M tl) : ∀ (n : Nat) (M : MM) (tl : Int64) (v1 : Int32) (v2 : Int32) (v3 : Int32) (v4 : Int32) (v5 : Int32) (v6 : Int32) (cM ct cv1 cv2 cv3 cv4 cv5 cv6 : Nat), M = dM cM → tl = i64 ct → v1 = nI cv1 → v2 = nI cv2 → v3 = nI cv3 → v4 = nI cv4 → v5 = nI cv5 → v6 = nI cv6 → eX11_shops_30 q  n cM ct cv1 cv2 cv3 cv4 cv5 cv6 = true → wX11_shops_30 post  n M tl v1 v2 v3 v4 v5 v6 := by
  intro n
  induction n with
  | zero => intro M tl v1 v2 v3 v4 v5 v6 cM ct cv1 cv2 cv3 cv4 cv5 cv6 hM ht hv1 hv2 hv3 hv4 hv5 hv6 h; exact Bool.noConfusion h
  | succ n ih =>
    intro M tl v1 v2 v3 v4 v5 v6 cM ct cv1 cv2 cv3 cv4 cv5 cv6 hM ht hv1 hv2 hv3 hv4 hv5 hv6 h
    unfold wX11_shops_30
    refine e_ite (c_le (r_rd hM (rfl : (81 : Nat) = 81) (rfl : (2 : Nat) = 2)) hv6) h (fun h => ?_) (fun h => ?_)
    · refine e_ite (c_eq hv2 (rfl : (0 : Int32) = nI 0)) h (fun h => ?_) (fun h => ?_)
      · exact hq _ _ _ _ _ _ hv3 hM ht h
      · exact hq _ _ _ _ _ _ hv4 hM ht h
    · refine spX11_isShop (fun r3 M1 t2 cr3 cM1 ct2 hr3 hM1 ht2 h => ?_) hM ht hv1 hv6 h
      refine e_ite (c_eq hr3 (rfl : (0 : Int32) = nI 0)) h (fun h => ?_) (fun h => ?_)
      · exact sX11_shops_78 hq ih hM1 ht2 hv1 hv2 hv4 hv5 hv6 hv3 h
      · refine spX11_isShop (fun r6 M4 t5 cr6 cM4 ct5 hr6 hM4 ht5 h => ?_) hM1 ht2 hv1 (r_sub hv6 (rfl : (1 : Int32) = nI 1)) h
        refine e_ite (c_eq hr6 (rfl : (0 : Int32) = nI 0)) h (fun h => ?_) (fun h => ?_)
        · refine spX11_isShop (fun r9 M7 t8 cr9 cM7 ct8 hr9 hM7 ht8 h => ?_) hM4 ht5 hv1 (r_add hv6 (rfl : (1 : Int32) = nI 1)) h
          refine e_ite (c_eq hr9 (rfl : (0 : Int32) = nI 0)) h (fun h => ?_) (fun h => ?_)
          · exact sX11_shops_78 hq ih hM7 ht8 hv1 hv2 hv4 hv5 hv6 hv3 h
          · exact sX11_shops_74 hq ih hM7 ht8 hv1 hv2 hv4 hv5 hv6 hv3 h
        · exact sX11_shops_74 hq ih hM4 ht5 hv1 hv2 hv4 hv5 hv6 hv3 h
noncomputable def epX11_shops (q : Nat → Nat → Nat → Bool) (cM ct cv1 cv2 : Nat) : Bool :=
  (epX11_isBank (fun cr3 cM1 ct2 => (@Bool.rec (fun _ => Bool) (epX11_in (fun cr6 cM4 ct5 => (@Bool.rec (fun _ => Bool) (eX11_shops_30 q  5000 cM4 ct5 cv1 cv2 0 0 0 0) (q 4294967295 cM4 ct5) (eqN cr6 0))) cM1 ct2 (xN cv2) 0 1) (q 4294967295 cM1 ct2) (eqN cr3 0))) cM ct cv1)
set_option maxHeartbeats 4000000 in
set_option maxRecDepth 20000 in
theorem spX11_shops {post : Int32 → MM → Int64 → Prop} {q : Nat → Nat → Nat → Bool} (hq : ∀ (r : Int32) (M : MM) (tl : Int64) (cr cM ct : Nat), r = nI cr → M = dM cM → tl = i64 ct → q cr cM ct = true → post r M tl) {M : MM} {tl : Int64} {v1 : Int32} {v2 : Int32} {cM ct cv1 cv2 : Nat} (hM : M = dM cM) (ht : tl = i64 ct) (hv1 : v1 = nI cv1) (hv2 : v2 = nI cv2) (h : epX11_shops q  cM ct cv1 cv2 = true) : wpX11_shops post  M tl v1 v2 := by
  unfold wpX11_shops
  unfold epX11_shops at h
  refine spX11_isBank (fun r3 M1 t2 cr3 cM1 ct2 hr3 hM1 ht2 h => ?_) hM ht hv1 h
  refine e_ite (c_eq hr3 (rfl : (0 : Int32) = nI 0)) h (fun h => ?_) (fun h => ?_)
  · exact hq _ _ _ _ _ _ lm1 hM1 ht2 h
  · refine spX11_in (fun r6 M4 t5 cr6 cM4 ct5 hr6 hM4 ht5 h => ?_) hM1 ht2 (r_ext hv2) (rfl : (0 : Int64) = i64 0) (rfl : (1 : Int64) = i64 1) h
    refine e_ite (c_eq hr6 (rfl : (0 : Int32) = nI 0)) h (fun h => ?_) (fun h => ?_)
    · exact hq _ _ _ _ _ _ lm1 hM4 ht5 h
    · exact ⟨5000, sX11_shops_30 hq  5000 _ _ _ _ _ _ _ _ _ _ _ _ _ _ _ _ hM4 ht5 hv1 hv2 (rfl : (0 : Int32) = nI 0) (rfl : (0 : Int32) = nI 0) (rfl : (0 : Int32) = nI 0) (rfl : (0 : Int32) = nI 0) h⟩
noncomputable def epX11_saw (q : Nat → Nat → Nat → Bool) (cM ct cv1 cv2 cv3 cv4 : Nat) : Bool :=
  (epX11_isLot (fun cr3 cM1 ct2 => (@Bool.rec (fun _ => Bool) (epX11_in (fun cr6 cM4 ct5 => (@Bool.rec (fun _ => Bool) (@Bool.rec (fun _ => Bool) false (@Bool.rec (fun _ => Bool) (@Bool.rec (fun _ => Bool) false (@Bool.rec (fun _ => Bool) false (wrB (fun cM10 => (@Bool.rec (fun _ => Bool) false (wrB (fun cM12 => (@Bool.rec (fun _ => Bool) false (wrB (fun cM14 => (epX11_flag (fun cr17 cM15 ct16 => (@Bool.rec (fun _ => Bool) false (wrB (fun cM19 => (@Bool.rec (fun _ => Bool) false (@Bool.rec (fun _ => Bool) false (wrB (fun cM22 => (@Bool.rec (fun _ => Bool) false (q (rd cM22 82 (tN 78)) cM22 ct16) (inN 78 (alF 82)))) cM19 82 (tN 78) (aN (rd cM19 82 (tN 78)) 1)) (inN 78 (alF 82))) (inN 78 (alF 82)))) cM15 82 (tN (aN (aN 79 (mN 4 (rd cM4 82 (tN 78)))) 3)) cr17) (inN (aN (aN 79 (mN 4 (rd cM4 82 (tN 78)))) 3) (alF 82)))) cM14 ct5 cv4)) cM12 82 (tN (aN (aN 79 (mN 4 (rd cM4 82 (tN 78)))) 2)) cv3) (inN (aN (aN 79 (mN 4 (rd cM4 82 (tN 78)))) 2) (alF 82)))) cM10 82 (tN (aN (aN 79 (mN 4 (rd cM4 82 (tN 78)))) 1)) cv2) (inN (aN (aN 79 (mN 4 (rd cM4 82 (tN 78)))) 1) (alF 82)))) cM4 82 (tN (aN 79 (mN 4 (rd cM4 82 (tN 78))))) cv1) (inN (aN 79 (mN 4 (rd cM4 82 (tN 78)))) (alF 82))) (inN 78 (alF 82))) (q 4294967293 cM4 ct5) (eqN (rd cM4 82 (tN 78)) 12)) (inN 78 (alF 82))) (q 4294967295 cM4 ct5) (eqN cr6 0))) cM1 ct2 (xN cv3) 0 23) (q 4294967295 cM1 ct2) (eqN cr3 0))) cM ct cv1 cv2)
set_option maxHeartbeats 4000000 in
set_option maxRecDepth 20000 in
theorem spX11_saw {post : Int32 → MM → Int64 → Prop} {q : Nat → Nat → Nat → Bool} (hq : ∀ (r : Int32) (M : MM) (tl : Int64) (cr cM ct : Nat), r = nI cr → M = dM cM → tl = i64 ct → q cr cM ct = true → post r M tl) {M : MM} {tl : Int64} {v1 : Int32} {v2 : Int32} {v3 : Int32} {v4 : Int32} {cM ct cv1 cv2 cv3 cv4 : Nat} (hM : M = dM cM) (ht : tl = i64 ct) (hv1 : v1 = nI cv1) (hv2 : v2 = nI cv2) (hv3 : v3 = nI cv3) (hv4 : v4 = nI cv4) (h : epX11_saw q  cM ct cv1 cv2 cv3 cv4 = true) : wpX11_saw post  M tl v1 v2 v3 v4 := by
  unfold wpX11_saw
  unfold epX11_saw at h
  refine spX11_isLot (fun r3 M1 t2 cr3 cM1 ct2 hr3 hM1 ht2 h => ?_) hM ht hv1 hv2 h
  refine e_ite (c_eq hr3 (rfl : (0 : Int32) = nI 0)) h (fun h => ?_) (fun h => ?_)
  · exact hq _ _ _ _ _ _ lm1 hM1 ht2 h
  · refine spX11_in (fun r6 M4 t5 cr6 cM4 ct5 hr6 hM4 ht5 h => ?_) hM1 ht2 (r_ext hv3) (rfl : (0 : Int64) = i64 0) (rfl : (23 : Int64) = i64 23) h
    refine e_ite (c_eq hr6 (rfl : (0 : Int32) = nI 0)) h (fun h => ?_) (fun h => ?_)
    · exact hq _ _ _ _ _ _ lm1 hM4 ht5 h
    · refine e_and (k_in (rfl : (78 : Int32) = nI 78) (r_al (rfl : (82 : Nat) = 82))) h (fun h => ?_)
      refine e_ite (c_eq (r_rd hM4 (rfl : (82 : Nat) = 82) (r_nat (rfl : (78 : Int32) = nI 78))) (rfl : (12 : Int32) = nI 12)) h (fun h => ?_) (fun h => ?_)
      · exact hq _ _ _ _ _ _ lm3 hM4 ht5 h
      · refine e_and (k_in (rfl : (78 : Int32) = nI 78) (r_al (rfl : (82 : Nat) = 82))) h (fun h => ?_)
        refine e_and (k_in (r_add (rfl : (79 : Int32) = nI 79) (r_mul (rfl : (4 : Int32) = nI 4) (r_rd hM4 (rfl : (82 : Nat) = 82) (r_nat (rfl : (78 : Int32) = nI 78))))) (r_al (rfl : (82 : Nat) = 82))) h (fun h => ?_)
        refine e_wr h hM4 (rfl : (82 : Nat) = 82) (r_nat (r_add (rfl : (79 : Int32) = nI 79) (r_mul (rfl : (4 : Int32) = nI 4) (r_rd hM4 (rfl : (82 : Nat) = 82) (r_nat (rfl : (78 : Int32) = nI 78)))))) hv1 (fun M10 cM10 hM10 h => ?_)
        refine e_and (k_in (r_add (r_add (rfl : (79 : Int32) = nI 79) (r_mul (rfl : (4 : Int32) = nI 4) (r_rd hM4 (rfl : (82 : Nat) = 82) (r_nat (rfl : (78 : Int32) = nI 78))))) (rfl : (1 : Int32) = nI 1)) (r_al (rfl : (82 : Nat) = 82))) h (fun h => ?_)
        refine e_wr h hM10 (rfl : (82 : Nat) = 82) (r_nat (r_add (r_add (rfl : (79 : Int32) = nI 79) (r_mul (rfl : (4 : Int32) = nI 4) (r_rd hM4 (rfl : (82 : Nat) = 82) (r_nat (rfl : (78 : Int32) = nI 78))))) (rfl : (1 : Int32) = nI 1))) hv2 (fun M12 cM12 hM12 h => ?_)
        refine e_and (k_in (r_add (r_add (rfl : (79 : Int32) = nI 79) (r_mul (rfl : (4 : Int32) = nI 4) (r_rd hM4 (rfl : (82 : Nat) = 82) (r_nat (rfl : (78 : Int32) = nI 78))))) (rfl : (2 : Int32) = nI 2)) (r_al (rfl : (82 : Nat) = 82))) h (fun h => ?_)
        refine e_wr h hM12 (rfl : (82 : Nat) = 82) (r_nat (r_add (r_add (rfl : (79 : Int32) = nI 79) (r_mul (rfl : (4 : Int32) = nI 4) (r_rd hM4 (rfl : (82 : Nat) = 82) (r_nat (rfl : (78 : Int32) = nI 78))))) (rfl : (2 : Int32) = nI 2))) hv3 (fun M14 cM14 hM14 h => ?_)
        refine spX11_flag (fun r17 M15 t16 cr17 cM15 ct16 hr17 hM15 ht16 h => ?_) hM14 ht5 hv4 h
        refine e_and (k_in (r_add (r_add (rfl : (79 : Int32) = nI 79) (r_mul (rfl : (4 : Int32) = nI 4) (r_rd hM4 (rfl : (82 : Nat) = 82) (r_nat (rfl : (78 : Int32) = nI 78))))) (rfl : (3 : Int32) = nI 3)) (r_al (rfl : (82 : Nat) = 82))) h (fun h => ?_)
        refine e_wr h hM15 (rfl : (82 : Nat) = 82) (r_nat (r_add (r_add (rfl : (79 : Int32) = nI 79) (r_mul (rfl : (4 : Int32) = nI 4) (r_rd hM4 (rfl : (82 : Nat) = 82) (r_nat (rfl : (78 : Int32) = nI 78))))) (rfl : (3 : Int32) = nI 3))) hr17 (fun M19 cM19 hM19 h => ?_)
        refine e_and (k_in (rfl : (78 : Int32) = nI 78) (r_al (rfl : (82 : Nat) = 82))) h (fun h => ?_)
        refine e_and (k_in (rfl : (78 : Int32) = nI 78) (r_al (rfl : (82 : Nat) = 82))) h (fun h => ?_)
        refine e_wr h hM19 (rfl : (82 : Nat) = 82) (r_nat (rfl : (78 : Int32) = nI 78)) (r_add (r_rd hM19 (rfl : (82 : Nat) = 82) (r_nat (rfl : (78 : Int32) = nI 78))) (rfl : (1 : Int32) = nI 1)) (fun M22 cM22 hM22 h => ?_)
        refine e_and (k_in (rfl : (78 : Int32) = nI 78) (r_al (rfl : (82 : Nat) = 82))) h (fun h => ?_)
        exact hq _ _ _ _ _ _ (r_rd hM22 (rfl : (82 : Nat) = 82) (r_nat (rfl : (78 : Int32) = nI 78))) hM22 ht16 h
noncomputable def epX11_forget (q : Nat → Nat → Nat → Bool) (cM ct  : Nat) : Bool :=
  (@Bool.rec (fun _ => Bool) false (@Bool.rec (fun _ => Bool) false (wrB (fun cM3 => (q (rd cM 82 (tN 78)) cM3 ct)) cM 82 (tN 78) 0) (inN 78 (alF 82))) (inN 78 (alF 82)))
set_option maxHeartbeats 4000000 in
set_option maxRecDepth 20000 in
theorem spX11_forget {post : Int32 → MM → Int64 → Prop} {q : Nat → Nat → Nat → Bool} (hq : ∀ (r : Int32) (M : MM) (tl : Int64) (cr cM ct : Nat), r = nI cr → M = dM cM → tl = i64 ct → q cr cM ct = true → post r M tl) {M : MM} {tl : Int64} {cM ct  : Nat} (hM : M = dM cM) (ht : tl = i64 ct)  (h : epX11_forget q  cM ct  = true) : wpX11_forget post  M tl  := by
  unfold wpX11_forget
  unfold epX11_forget at h
  refine e_and (k_in (rfl : (78 : Int32) = nI 78) (r_al (rfl : (82 : Nat) = 82))) h (fun h => ?_)
  refine e_and (k_in (rfl : (78 : Int32) = nI 78) (r_al (rfl : (82 : Nat) = 82))) h (fun h => ?_)
  refine e_wr h hM (rfl : (82 : Nat) = 82) (r_nat (rfl : (78 : Int32) = nI 78)) (rfl : (0 : Int32) = nI 0) (fun M3 cM3 hM3 h => ?_)
  exact hq _ _ _ _ _ _ (r_rd hM (rfl : (82 : Nat) = 82) (r_nat (rfl : (78 : Int32) = nI 78))) hM3 ht h
noncomputable def epX11_isTold (q : Nat → Nat → Nat → Bool) (cM ct cv1 : Nat) : Bool :=
  (epX11_matchOf (fun cr3 cM1 ct2 => (@Bool.rec (fun _ => Bool) (@Bool.rec (fun _ => Bool) false (@Bool.rec (fun _ => Bool) (@Bool.rec (fun _ => Bool) false (@Bool.rec (fun _ => Bool) false (epX11_mirrorOf (fun cr9 cM7 ct8 => (@Bool.rec (fun _ => Bool) (q 0 cM7 ct8) (q 1 cM7 ct8) (eqN (rd cM1 82 (tN (aN 8 cr3))) cr9))) cM1 ct2 (rd cM1 82 (tN cv1))) (inN cv1 (alF 82))) (inN (aN 8 cr3) (alF 82))) (q 0 cM1 ct2) (eqN (rd cM1 82 (tN cv1)) 0)) (inN cv1 (alF 82))) (q 0 cM1 ct2) (eqN cr3 4294967292))) cM ct 0 cv1)
set_option maxHeartbeats 4000000 in
set_option maxRecDepth 20000 in
theorem spX11_isTold {post : Int32 → MM → Int64 → Prop} {q : Nat → Nat → Nat → Bool} (hq : ∀ (r : Int32) (M : MM) (tl : Int64) (cr cM ct : Nat), r = nI cr → M = dM cM → tl = i64 ct → q cr cM ct = true → post r M tl) {M : MM} {tl : Int64} {v1 : Int32} {cM ct cv1 : Nat} (hM : M = dM cM) (ht : tl = i64 ct) (hv1 : v1 = nI cv1) (h : epX11_isTold q  cM ct cv1 = true) : wpX11_isTold post  M tl v1 := by
  unfold wpX11_isTold
  unfold epX11_isTold at h
  refine spX11_matchOf (fun r3 M1 t2 cr3 cM1 ct2 hr3 hM1 ht2 h => ?_) hM ht (rfl : (0 : Int32) = nI 0) hv1 h
  refine e_ite (c_eq hr3 lm4) h (fun h => ?_) (fun h => ?_)
  · exact hq _ _ _ _ _ _ (rfl : (0 : Int32) = nI 0) hM1 ht2 h
  · refine e_and (k_in hv1 (r_al (rfl : (82 : Nat) = 82))) h (fun h => ?_)
    refine e_ite (c_eq (r_rd hM1 (rfl : (82 : Nat) = 82) (r_nat hv1)) (rfl : (0 : Int32) = nI 0)) h (fun h => ?_) (fun h => ?_)
    · exact hq _ _ _ _ _ _ (rfl : (0 : Int32) = nI 0) hM1 ht2 h
    · refine e_and (k_in (r_add (rfl : (8 : Int32) = nI 8) hr3) (r_al (rfl : (82 : Nat) = 82))) h (fun h => ?_)
      refine e_and (k_in hv1 (r_al (rfl : (82 : Nat) = 82))) h (fun h => ?_)
      refine spX11_mirrorOf (fun r9 M7 t8 cr9 cM7 ct8 hr9 hM7 ht8 h => ?_) hM1 ht2 (r_rd hM1 (rfl : (82 : Nat) = 82) (r_nat hv1)) h
      refine e_ite (c_eq (r_rd hM1 (rfl : (82 : Nat) = 82) (r_nat (r_add (rfl : (8 : Int32) = nI 8) hr3))) hr9) h (fun h => ?_) (fun h => ?_)
      · exact hq _ _ _ _ _ _ (rfl : (1 : Int32) = nI 1) hM7 ht8 h
      · exact hq _ _ _ _ _ _ (rfl : (0 : Int32) = nI 0) hM7 ht8 h
noncomputable def eX11_fits_94 (q : Nat → Nat → Nat → Bool) (cbk6 : Nat → Nat → Nat → Nat → Nat → Nat → Nat → Bool) (cM ct cv1 cv2 cv3 cv5 cs0 : Nat) : Bool :=
  (cbk6 cM ct cv1 cv2 cv3 cs0 (aN cv5 1))
set_option maxHeartbeats 4000000 in
set_option maxRecDepth 20000 in
theorem sX11_fits_94 {post : Int32 → MM → Int64 → Prop} {q : Nat → Nat → Nat → Bool} (hq : ∀ (r : Int32) (M : MM) (tl : Int64) (cr cM ct : Nat), r = nI cr → M = dM cM → tl = i64 ct → q cr cM ct = true → post r M tl) {bk6 : MM → Int64 → Int32 → Int32 → Int32 → Int32 → Int32 → Prop} {cbk6 : Nat → Nat → Nat → Nat → Nat → Nat → Nat → Bool} (hbk6 : ∀ (M : MM) (tl : Int64) (x0 : Int32) (x1 : Int32) (x2 : Int32) (x3 : Int32) (x4 : Int32) (cM ct cx0 cx1 cx2 cx3 cx4 : Nat), M = dM cM → tl = i64 ct → x0 = nI cx0 → x1 = nI cx1 → x2 = nI cx2 → x3 = nI cx3 → x4 = nI cx4 → cbk6 cM ct cx0 cx1 cx2 cx3 cx4 = true → bk6 M tl x0 x1 x2 x3 x4) {M : MM} {tl : Int64} {v1 : Int32} {v2 : Int32} {v3 : Int32} {v5 : Int32} {s0 : Int32} {cM ct cv1 cv2 cv3 cv5 cs0 : Nat} (hM : M = dM cM) (ht : tl = i64 ct) (hv1 : v1 = nI cv1) (hv2 : v2 = nI cv2) (hv3 : v3 = nI cv3) (hv5 : v5 = nI cv5) (hs0 : s0 = nI cs0) (h : eX11_fits_94 q cbk6 cM ct cv1 cv2 cv3 cv5 cs0 = true) : wX11_fits_94 post bk6 M tl v1 v2 v3 v5 s0 := by
  unfold wX11_fits_94
  unfold eX11_fits_94 at h
  exact hbk6 _ _ _ _ _ _ _ _ _ _ _ _ _ _ hM ht hv1 hv2 hv3 hs0 (r_add hv5 (rfl : (1 : Int32) = nI 1)) h
noncomputable def eX11_fits_89 (q : Nat → Nat → Nat → Bool) (cbk6 : Nat → Nat → Nat → Nat → Nat → Nat → Nat → Bool) (cM ct cv1 cv2 cv3 cv5 : Nat) : Bool :=
  (eX11_fits_94 q cbk6 cM ct cv1 cv2 cv3 cv5 1)
set_option maxHeartbeats 4000000 in
set_option maxRecDepth 20000 in
theorem sX11_fits_89 {post : Int32 → MM → Int64 → Prop} {q : Nat → Nat → Nat → Bool} (hq : ∀ (r : Int32) (M : MM) (tl : Int64) (cr cM ct : Nat), r = nI cr → M = dM cM → tl = i64 ct → q cr cM ct = true → post r M tl) {bk6 : MM → Int64 → Int32 → Int32 → Int32 → Int32 → Int32 → Prop} {cbk6 : Nat → Nat → Nat → Nat → Nat → Nat → Nat → Bool} (hbk6 : ∀ (M : MM) (tl : Int64) (x0 : Int32) (x1 : Int32) (x2 : Int32) (x3 : Int32) (x4 : Int32) (cM ct cx0 cx1 cx2 cx3 cx4 : Nat), M = dM cM → tl = i64 ct → x0 = nI cx0 → x1 = nI cx1 → x2 = nI cx2 → x3 = nI cx3 → x4 = nI cx4 → cbk6 cM ct cx0 cx1 cx2 cx3 cx4 = true → bk6 M tl x0 x1 x2 x3 x4) {M : MM} {tl : Int64} {v1 : Int32} {v2 : Int32} {v3 : Int32} {v5 : Int32} {cM ct cv1 cv2 cv3 cv5 : Nat} (hM : M = dM cM) (ht : tl = i64 ct) (hv1 : v1 = nI cv1) (hv2 : v2 = nI cv2) (hv3 : v3 = nI cv3) (hv5 : v5 = nI cv5) (h : eX11_fits_89 q cbk6 cM ct cv1 cv2 cv3 cv5 = true) : wX11_fits_89 post bk6 M tl v1 v2 v3 v5 := by
  unfold wX11_fits_89
  unfold eX11_fits_89 at h
  exact sX11_fits_94 hq hbk6 hM ht hv1 hv2 hv3 hv5 (rfl : (1 : Int32) = nI 1) h
noncomputable def eX11_fits_93 (q : Nat → Nat → Nat → Bool) (cbk6 : Nat → Nat → Nat → Nat → Nat → Nat → Nat → Bool) (cM ct cv1 cv2 cv3 cv5 : Nat) : Bool :=
  (eX11_fits_94 q cbk6 cM ct cv1 cv2 cv3 cv5 0)
set_option maxHeartbeats 4000000 in
set_option maxRecDepth 20000 in
theorem sX11_fits_93 {post : Int32 → MM → Int64 → Prop} {q : Nat → Nat → Nat → Bool} (hq : ∀ (r : Int32) (M : MM) (tl : Int64) (cr cM ct : Nat), r = nI cr → M = dM cM → tl = i64 ct → q cr cM ct = true → post r M tl) {bk6 : MM → Int64 → Int32 → Int32 → Int32 → Int32 → Int32 → Prop} {cbk6 : Nat → Nat → Nat → Nat → Nat → Nat → Nat → Bool} (hbk6 : ∀ (M : MM) (tl : Int64) (x0 : Int32) (x1 : Int32) (x2 : Int32) (x3 : Int32) (x4 : Int32) (cM ct cx0 cx1 cx2 cx3 cx4 : Nat), M = dM cM → tl = i64 ct → x0 = nI cx0 → x1 = nI cx1 → x2 = nI cx2 → x3 = nI cx3 → x4 = nI cx4 → cbk6 cM ct cx0 cx1 cx2 cx3 cx4 = true → bk6 M tl x0 x1 x2 x3 x4) {M : MM} {tl : Int64} {v1 : Int32} {v2 : Int32} {v3 : Int32} {v5 : Int32} {cM ct cv1 cv2 cv3 cv5 : Nat} (hM : M = dM cM) (ht : tl = i64 ct) (hv1 : v1 = nI cv1) (hv2 : v2 = nI cv2) (hv3 : v3 = nI cv3) (hv5 : v5 = nI cv5) (h : eX11_fits_93 q cbk6 cM ct cv1 cv2 cv3 cv5 = true) : wX11_fits_93 post bk6 M tl v1 v2 v3 v5 := by
  unfold wX11_fits_93
  unfold eX11_fits_93 at h
  exact sX11_fits_94 hq hbk6 hM ht hv1 hv2 hv3 hv5 (rfl : (0 : Int32) = nI 0) h
noncomputable def eX11_fits_83 (q : Nat → Nat → Nat → Bool) (cbk6 : Nat → Nat → Nat → Nat → Nat → Nat → Nat → Bool) (cM ct cv1 cv2 cv3 cv5 cs0 cs1 : Nat) : Bool :=
  (epX11_flag (fun cr3 cM1 ct2 => (@Bool.rec (fun _ => Bool) (eX11_fits_93 q cbk6 cM1 ct2 cv1 cv2 cv3 cv5) (eX11_fits_89 q cbk6 cM1 ct2 cv1 cv2 cv3 cv5) (eqN cs0 cr3))) cM ct cs1)
set_option maxHeartbeats 4000000 in
set_option maxRecDepth 20000 in
theorem sX11_fits_83 {post : Int32 → MM → Int64 → Prop} {q : Nat → Nat → Nat → Bool} (hq : ∀ (r : Int32) (M : MM) (tl : Int64) (cr cM ct : Nat), r = nI cr → M = dM cM → tl = i64 ct → q cr cM ct = true → post r M tl) {bk6 : MM → Int64 → Int32 → Int32 → Int32 → Int32 → Int32 → Prop} {cbk6 : Nat → Nat → Nat → Nat → Nat → Nat → Nat → Bool} (hbk6 : ∀ (M : MM) (tl : Int64) (x0 : Int32) (x1 : Int32) (x2 : Int32) (x3 : Int32) (x4 : Int32) (cM ct cx0 cx1 cx2 cx3 cx4 : Nat), M = dM cM → tl = i64 ct → x0 = nI cx0 → x1 = nI cx1 → x2 = nI cx2 → x3 = nI cx3 → x4 = nI cx4 → cbk6 cM ct cx0 cx1 cx2 cx3 cx4 = true → bk6 M tl x0 x1 x2 x3 x4) {M : MM} {tl : Int64} {v1 : Int32} {v2 : Int32} {v3 : Int32} {v5 : Int32} {s0 : Int32} {s1 : Int32} {cM ct cv1 cv2 cv3 cv5 cs0 cs1 : Nat} (hM : M = dM cM) (ht : tl = i64 ct) (hv1 : v1 = nI cv1) (hv2 : v2 = nI cv2) (hv3 : v3 = nI cv3) (hv5 : v5 = nI cv5) (hs0 : s0 = nI cs0) (hs1 : s1 = nI cs1) (h : eX11_fits_83 q cbk6 cM ct cv1 cv2 cv3 cv5 cs0 cs1 = true) : wX11_fits_83 post bk6 M tl v1 v2 v3 v5 s0 s1 := by
  unfold wX11_fits_83
  unfold eX11_fits_83 at h
  refine spX11_flag (fun r3 M1 t2 cr3 cM1 ct2 hr3 hM1 ht2 h => ?_) hM ht hs1 h
  refine e_ite (c_eq hs0 hr3) h (fun h => ?_) (fun h => ?_)
  · exact sX11_fits_89 hq hbk6 hM1 ht2 hv1 hv2 hv3 hv5 h
  · exact sX11_fits_93 hq hbk6 hM1 ht2 hv1 hv2 hv3 hv5 h
noncomputable def eX11_fits_6 (q : Nat → Nat → Nat → Bool) (n : Nat) : Nat → Nat → Nat → Nat → Nat → Nat → Nat → Bool :=
  @Nat.rec (fun _ => Nat → Nat → Nat → Nat → Nat → Nat → Nat → Bool) (fun _ _ _ _ _ _ _ => false) (fun _ ih cM ct cv1 cv2 cv3 cv4 cv5 => (@Bool.rec (fun _ => Bool) false (@Bool.rec (fun _ => Bool) (@Bool.rec (fun _ => Bool) (@Bool.rec (fun _ => Bool) false (@Bool.rec (fun _ => Bool) (eX11_fits_89 q ih cM ct cv1 cv2 cv3 cv5) (@Bool.rec (fun _ => Bool) false (@Bool.rec (fun _ => Bool) (eX11_fits_89 q ih cM ct cv1 cv2 cv3 cv5) (@Bool.rec (fun _ => Bool) false (@Bool.rec (fun _ => Bool) false (@Bool.rec (fun _ => Bool) (eX11_fits_83 q ih cM ct cv1 cv2 cv3 cv5 (rd cM 82 (tN (aN (aN 79 (mN 4 cv5)) 3))) 1) (eX11_fits_83 q ih cM ct cv1 cv2 cv3 cv5 (rd cM 82 (tN (aN (aN 79 (mN 4 cv5)) 3))) 0) (ltN (rd cM 82 (tN (aN (aN 79 (mN 4 cv5)) 2))) cv3)) (inN (aN (aN 79 (mN 4 cv5)) 2) (alF 82))) (inN (aN (aN 79 (mN 4 cv5)) 3) (alF 82))) (eqN (rd cM 82 (tN (aN (aN 79 (mN 4 cv5)) 1))) cv2)) (inN (aN (aN 79 (mN 4 cv5)) 1) (alF 82))) (eqN (rd cM 82 (tN (aN 79 (mN 4 cv5)))) cv1)) (inN (aN 79 (mN 4 cv5)) (alF 82))) (eX11_fits_93 q ih cM ct cv1 cv2 cv3 cv5) (eqN cv4 0)) (@Bool.rec (fun _ => Bool) false (q cv4 cM ct) (Nat.ble cv4 1)) (leN (rd cM 82 (tN 78)) cv5)) (inN 78 (alF 82)))) n
set_option maxHeartbeats 4000000 in
set_option maxRecDepth 20000 in
theorem sX11_fits_6 {post : Int32 → MM → Int64 → Prop} {q : Nat → Nat → Nat → Bool} (hq : ∀ (r : Int32) (M : MM) (tl : Int64) (cr cM ct : Nat), r = nI cr → M = dM cM → tl = i64 ct → q cr cM ct = true → post r M tl) : ∀ (n : Nat) (M : MM) (tl : Int64) (v1 : Int32) (v2 : Int32) (v3 : Int32) (v4 : Int32) (v5 : Int32) (cM ct cv1 cv2 cv3 cv4 cv5 : Nat), M = dM cM → tl = i64 ct → v1 = nI cv1 → v2 = nI cv2 → v3 = nI cv3 → v4 = nI cv4 → v5 = nI cv5 → eX11_fits_6 q  n cM ct cv1 cv2 cv3 cv4 cv5 = true → wX11_fits_6 post  n M tl v1 v2 v3 v4 v5 := by
  intro n
  induction n with
  | zero => intro M tl v1 v2 v3 v4 v5 cM ct cv1 cv2 cv3 cv4 cv5 hM ht hv1 hv2 hv3 hv4 hv5 h; exact Bool.noConfusion h
  | succ n ih =>
    intro M tl v1 v2 v3 v4 v5 cM ct cv1 cv2 cv3 cv4 cv5 hM ht hv1 hv2 hv3 hv4 hv5 h
    unfold wX11_fits_6
    have h : (@Bool.rec (fun _ => Bool) false (@Bool.rec (fun _ => Bool) (@Bool.rec (fun _ => Bool) (@Bool.rec (fun _ => Bool) false (@Bool.rec (fun _ => Bool) (eX11_fits_89 q (eX11_fits_6 q  n) cM ct cv1 cv2 cv3 cv5) (@Bool.rec (fun _ => Bool) false (@Bool.rec (fun _ => Bool) (eX11_fits_89 q (eX11_fits_6 q  n) cM ct cv1 cv2 cv3 cv5) (@Bool.rec (fun _ => Bool) false (@Bool.rec (fun _ => Bool) false (@Bool.rec (fun _ => Bool) (eX11_fits_83 q (eX11_fits_6 q  n) cM ct cv1 cv2 cv3 cv5 (rd cM 82 (tN (aN (aN 79 (mN 4 cv5)) 3))) 1) (eX11_fits_83 q (eX11_fits_6 q  n) cM ct cv1 cv2 cv3 cv5 (rd cM 82 (tN (aN (aN 79 (mN 4 cv5)) 3))) 0) (ltN (rd cM 82 (tN (aN (aN 79 (mN 4 cv5)) 2))) cv3)) (inN (aN (aN 79 (mN 4 cv5)) 2) (alF 82))) (inN (aN (aN 79 (mN 4 cv5)) 3) (alF 82))) (eqN (rd cM 82 (tN (aN (aN 79 (mN 4 cv5)) 1))) cv2)) (inN (aN (aN 79 (mN 4 cv5)) 1) (alF 82))) (eqN (rd cM 82 (tN (aN 79 (mN 4 cv5)))) cv1)) (inN (aN 79 (mN 4 cv5)) (alF 82))) (eX11_fits_93 q (eX11_fits_6 q  n) cM ct cv1 cv2 cv3 cv5) (eqN cv4 0)) (@Bool.rec (fun _ => Bool) false (q cv4 cM ct) (Nat.ble cv4 1)) (leN (rd cM 82 (tN 78)) cv5)) (inN 78 (alF 82))) = true := h
    refine e_and (k_in (rfl : (78 : Int32) = nI 78) (r_al (rfl : (82 : Nat) = 82))) h (fun h => ?_)
    refine e_ite (c_le (r_rd hM (rfl : (82 : Nat) = 82) (r_nat (rfl : (78 : Int32) = nI 78))) hv5) h (fun h => ?_) (fun h => ?_)
    · refine e_and (k_nar hv4) h (fun h => ?_)
      exact hq _ _ _ _ _ _ hv4 hM ht h
    · refine e_ite (c_eq hv4 (rfl : (0 : Int32) = nI 0)) h (fun h => ?_) (fun h => ?_)
      · exact sX11_fits_93 hq ih hM ht hv1 hv2 hv3 hv5 h
      · refine e_and (k_in (r_add (rfl : (79 : Int32) = nI 79) (r_mul (rfl : (4 : Int32) = nI 4) hv5)) (r_al (rfl : (82 : Nat) = 82))) h (fun h => ?_)
        refine e_ite (c_eq (r_rd hM (rfl : (82 : Nat) = 82) (r_nat (r_add (rfl : (79 : Int32) = nI 79) (r_mul (rfl : (4 : Int32) = nI 4) hv5)))) hv1) h (fun h => ?_) (fun h => ?_)
        · refine e_and (k_in (r_add (r_add (rfl : (79 : Int32) = nI 79) (r_mul (rfl : (4 : Int32) = nI 4) hv5)) (rfl : (1 : Int32) = nI 1)) (r_al (rfl : (82 : Nat) = 82))) h (fun h => ?_)
          refine e_ite (c_eq (r_rd hM (rfl : (82 : Nat) = 82) (r_nat (r_add (r_add (rfl : (79 : Int32) = nI 79) (r_mul (rfl : (4 : Int32) = nI 4) hv5)) (rfl : (1 : Int32) = nI 1)))) hv2) h (fun h => ?_) (fun h => ?_)
          · refine e_and (k_in (r_add (r_add (rfl : (79 : Int32) = nI 79) (r_mul (rfl : (4 : Int32) = nI 4) hv5)) (rfl : (3 : Int32) = nI 3)) (r_al (rfl : (82 : Nat) = 82))) h (fun h => ?_)
            refine e_and (k_in (r_add (r_add (rfl : (79 : Int32) = nI 79) (r_mul (rfl : (4 : Int32) = nI 4) hv5)) (rfl : (2 : Int32) = nI 2)) (r_al (rfl : (82 : Nat) = 82))) h (fun h => ?_)
            refine e_ite (c_lt (r_rd hM (rfl : (82 : Nat) = 82) (r_nat (r_add (r_add (rfl : (79 : Int32) = nI 79) (r_mul (rfl : (4 : Int32) = nI 4) hv5)) (rfl : (2 : Int32) = nI 2)))) hv3) h (fun h => ?_) (fun h => ?_)
            · exact sX11_fits_83 hq ih hM ht hv1 hv2 hv3 hv5 (r_rd hM (rfl : (82 : Nat) = 82) (r_nat (r_add (r_add (rfl : (79 : Int32) = nI 79) (r_mul (rfl : (4 : Int32) = nI 4) hv5)) (rfl : (3 : Int32) = nI 3)))) (rfl : (0 : Int32) = nI 0) h
            · exact sX11_fits_83 hq ih hM ht hv1 hv2 hv3 hv5 (r_rd hM (rfl : (82 : Nat) = 82) (r_nat (r_add (r_add (rfl : (79 : Int32) = nI 79) (r_mul (rfl : (4 : Int32) = nI 4) hv5)) (rfl : (3 : Int32) = nI 3)))) (rfl : (1 : Int32) = nI 1) h
          · exact sX11_fits_89 hq ih hM ht hv1 hv2 hv3 hv5 h
        · exact sX11_fits_89 hq ih hM ht hv1 hv2 hv3 hv5 h
noncomputable def epX11_fits (q : Nat → Nat → Nat → Bool) (cM ct cv1 cv2 cv3 : Nat) : Bool :=
  (eX11_fits_6 q  5000 cM ct cv1 cv2 cv3 1 0)
set_option maxHeartbeats 4000000 in
set_option maxRecDepth 20000 in
theorem spX11_fits {post : Int32 → MM → Int64 → Prop} {q : Nat → Nat → Nat → Bool} (hq : ∀ (r : Int32) (M : MM) (tl : Int64) (cr cM ct : Nat), r = nI cr → M = dM cM → tl = i64 ct → q cr cM ct = true → post r M tl) {M : MM} {tl : Int64} {v1 : Int32} {v2 : Int32} {v3 : Int32} {cM ct cv1 cv2 cv3 : Nat} (hM : M = dM cM) (ht : tl = i64 ct) (hv1 : v1 = nI cv1) (hv2 : v2 = nI cv2) (hv3 : v3 = nI cv3) (h : epX11_fits q  cM ct cv1 cv2 cv3 = true) : wpX11_fits post  M tl v1 v2 v3 := by
  unfold wpX11_fits
  unfold epX11_fits at h
  exact ⟨5000, sX11_fits_6 hq  5000 _ _ _ _ _ _ _ _ _ _ _ _ _ _ hM ht hv1 hv2 hv3 (rfl : (1 : Int32) = nI 1) (rfl : (0 : Int32) = nI 0) h⟩
noncomputable def eX11_waysOf_84 (q : Nat → Nat → Nat → Bool) (cM ct cs0 cs1 : Nat) : Bool :=
  (epX11_flag (fun cr3 cM1 ct2 => (q (aN cs0 cr3) cM1 ct2)) cM ct cs1)
set_option maxHeartbeats 4000000 in
set_option maxRecDepth 20000 in
theorem sX11_waysOf_84 {post : Int32 → MM → Int64 → Prop} {q : Nat → Nat → Nat → Bool} (hq : ∀ (r : Int32) (M : MM) (tl : Int64) (cr cM ct : Nat), r = nI cr → M = dM cM → tl = i64 ct → q cr cM ct = true → post r M tl) {M : MM} {tl : Int64} {s0 : Int32} {s1 : Int32} {cM ct cs0 cs1 : Nat} (hM : M = dM cM) (ht : tl = i64 ct) (hs0 : s0 = nI cs0) (hs1 : s1 = nI cs1) (h : eX11_waysOf_84 q  cM ct cs0 cs1 = true) : wX11_waysOf_84 post  M tl s0 s1 := by
  unfold wX11_waysOf_84
  unfold eX11_waysOf_84 at h
  refine spX11_flag (fun r3 M1 t2 cr3 cM1 ct2 hr3 hM1 ht2 h => ?_) hM ht hs1 h
  exact hq _ _ _ _ _ _ (r_add hs0 hr3) hM1 ht2 h
noncomputable def eX11_waysOf_83 (q : Nat → Nat → Nat → Bool) (cM ct cs0 : Nat) : Bool :=
  (eX11_waysOf_84 q  cM ct cs0 0)
set_option maxHeartbeats 4000000 in
set_option maxRecDepth 20000 in
theorem sX11_waysOf_83 {post : Int32 → MM → Int64 → Prop} {q : Nat → Nat → Nat → Bool} (hq : ∀ (r : Int32) (M : MM) (tl : Int64) (cr cM ct : Nat), r = nI cr → M = dM cM → tl = i64 ct → q cr cM ct = true → post r M tl) {M : MM} {tl : Int64} {s0 : Int32} {cM ct cs0 : Nat} (hM : M = dM cM) (ht : tl = i64 ct) (hs0 : s0 = nI cs0) (h : eX11_waysOf_83 q  cM ct cs0 = true) : wX11_waysOf_83 post  M tl s0 := by
  unfold wX11_waysOf_83
  unfold eX11_waysOf_83 at h
  exact sX11_waysOf_84 hq  hM ht hs0 (rfl : (0 : Int32) = nI 0) h
noncomputable def eX11_waysOf_30 (q : Nat → Nat → Nat → Bool) (cM ct cv2 cv3 cv4 cv6 cs0 : Nat) : Bool :=
  (epX11_fits (fun cr3 cM1 ct2 => (@Bool.rec (fun _ => Bool) (epX11_fits (fun cr6 cM4 ct5 => (epX11_flag (fun cr9 cM7 ct8 => (@Bool.rec (fun _ => Bool) (epX11_fits (fun cr12 cM10 ct11 => (@Bool.rec (fun _ => Bool) (eX11_waysOf_84 q  cM10 ct11 cr9 1) (eX11_waysOf_83 q  cM10 ct11 cr9) (eqN cr12 0))) cM7 ct8 (sN 1 cv2) cs0 (aN cv3 1)) (eX11_waysOf_83 q  cM7 ct8 cr9) (leN cv4 cv3))) cM4 ct5 cr6)) cM1 ct2 (sN 1 cv2) cs0 cv3) (q 0 cM1 ct2) (eqN cr3 0))) cM ct cv2 cv6 cv3)
set_option maxHeartbeats 4000000 in
set_option maxRecDepth 20000 in
theorem sX11_waysOf_30 {post : Int32 → MM → Int64 → Prop} {q : Nat → Nat → Nat → Bool} (hq : ∀ (r : Int32) (M : MM) (tl : Int64) (cr cM ct : Nat), r = nI cr → M = dM cM → tl = i64 ct → q cr cM ct = true → post r M tl) {M : MM} {tl : Int64} {v2 : Int32} {v3 : Int32} {v4 : Int32} {v6 : Int32} {s0 : Int32} {cM ct cv2 cv3 cv4 cv6 cs0 : Nat} (hM : M = dM cM) (ht : tl = i64 ct) (hv2 : v2 = nI cv2) (hv3 : v3 = nI cv3) (hv4 : v4 = nI cv4) (hv6 : v6 = nI cv6) (hs0 : s0 = nI cs0) (h : eX11_waysOf_30 q  cM ct cv2 cv3 cv4 cv6 cs0 = true) : wX11_waysOf_30 post  M tl v2 v3 v4 v6 s0 := by
  unfold wX11_waysOf_30
  unfold eX11_waysOf_30 at h
  refine spX11_fits (fun r3 M1 t2 cr3 cM1 ct2 hr3 hM1 ht2 h => ?_) hM ht hv2 hv6 hv3 h
  refine e_ite (c_eq hr3 (rfl : (0 : Int32) = nI 0)) h (fun h => ?_) (fun h => ?_)
  · exact hq _ _ _ _ _ _ (rfl : (0 : Int32) = nI 0) hM1 ht2 h
  · refine spX11_fits (fun r6 M4 t5 cr6 cM4 ct5 hr6 hM4 ht5 h => ?_) hM1 ht2 (r_sub (rfl : (1 : Int32) = nI 1) hv2) hs0 hv3 h
    refine spX11_flag (fun r9 M7 t8 cr9 cM7 ct8 hr9 hM7 ht8 h => ?_) hM4 ht5 hr6 h
    refine e_ite (c_le hv4 hv3) h (fun h => ?_) (fun h => ?_)
    · exact sX11_waysOf_83 hq  hM7 ht8 hr9 h
    · refine spX11_fits (fun r12 M10 t11 cr12 cM10 ct11 hr12 hM10 ht11 h => ?_) hM7 ht8 (r_sub (rfl : (1 : Int32) = nI 1) hv2) hs0 (r_add hv3 (rfl : (1 : Int32) = nI 1)) h
      refine e_ite (c_eq hr12 (rfl : (0 : Int32) = nI 0)) h (fun h => ?_) (fun h => ?_)
      · exact sX11_waysOf_83 hq  hM10 ht11 hr9 h
      · exact sX11_waysOf_84 hq  hM10 ht11 hr9 (rfl : (1 : Int32) = nI 1) h
noncomputable def eX11_waysOf_18 (q : Nat → Nat → Nat → Bool) (cM ct cv1 cv2 cv3 cv4 cv5 cs0 : Nat) : Bool :=
  (@Bool.rec (fun _ => Bool) (eX11_waysOf_30 q  cM ct cv2 cv3 cv4 cs0 cv1) (eX11_waysOf_30 q  cM ct cv2 cv3 cv4 cs0 cv5) (eqN cv2 0))
set_option maxHeartbeats 4000000 in
set_option maxRecDepth 20000 in
theorem sX11_waysOf_18 {post : Int32 → MM → Int64 → Prop} {q : Nat → Nat → Nat → Bool} (hq : ∀ (r : Int32) (M : MM) (tl : Int64) (cr cM ct : Nat), r = nI cr → M = dM cM → tl = i64 ct → q cr cM ct = true → post r M tl) {M : MM} {tl : Int64} {v1 : Int32} {v2 : Int32} {v3 : Int32} {v4 : Int32} {v5 : Int32} {s0 : Int32} {cM ct cv1 cv2 cv3 cv4 cv5 cs0 : Nat} (hM : M = dM cM) (ht : tl = i64 ct) (hv1 : v1 = nI cv1) (hv2 : v2 = nI cv2) (hv3 : v3 = nI cv3) (hv4 : v4 = nI cv4) (hv5 : v5 = nI cv5) (hs0 : s0 = nI cs0) (h : eX11_waysOf_18 q  cM ct cv1 cv2 cv3 cv4 cv5 cs0 = true) : wX11_waysOf_18 post  M tl v1 v2 v3 v4 v5 s0 := by
  unfold wX11_waysOf_18
  unfold eX11_waysOf_18 at h
  refine e_ite (c_eq hv2 (rfl : (0 : Int32) = nI 0)) h (fun h => ?_) (fun h => ?_)
  · exact sX11_waysOf_30 hq  hM ht hv2 hv3 hv4 hs0 hv5 h
  · exact sX11_waysOf_30 hq  hM ht hv2 hv3 hv4 hs0 hv1 h
noncomputable def epX11_waysOf (q : Nat → Nat → Nat → Bool) (cM ct cv1 cv2 cv3 cv4 : Nat) : Bool :=
  (epX11_matchOf (fun cr3 cM1 ct2 => (@Bool.rec (fun _ => Bool) (eX11_waysOf_18 q  cM1 ct2 cv1 cv2 cv3 cv4 cr3 cr3) (eX11_waysOf_18 q  cM1 ct2 cv1 cv2 cv3 cv4 cr3 cv1) (eqN cv2 0))) cM ct 0 cv1)
set_option maxHeartbeats 4000000 in
set_option maxRecDepth 20000 in
theorem spX11_waysOf {post : Int32 → MM → Int64 → Prop} {q : Nat → Nat → Nat → Bool} (hq : ∀ (r : Int32) (M : MM) (tl : Int64) (cr cM ct : Nat), r = nI cr → M = dM cM → tl = i64 ct → q cr cM ct = true → post r M tl) {M : MM} {tl : Int64} {v1 : Int32} {v2 : Int32} {v3 : Int32} {v4 : Int32} {cM ct cv1 cv2 cv3 cv4 : Nat} (hM : M = dM cM) (ht : tl = i64 ct) (hv1 : v1 = nI cv1) (hv2 : v2 = nI cv2) (hv3 : v3 = nI cv3) (hv4 : v4 = nI cv4) (h : epX11_waysOf q  cM ct cv1 cv2 cv3 cv4 = true) : wpX11_waysOf post  M tl v1 v2 v3 v4 := by
  unfold wpX11_waysOf
  unfold epX11_waysOf at h
  refine spX11_matchOf (fun r3 M1 t2 cr3 cM1 ct2 hr3 hM1 ht2 h => ?_) hM ht (rfl : (0 : Int32) = nI 0) hv1 h
  refine e_ite (c_eq hv2 (rfl : (0 : Int32) = nI 0)) h (fun h => ?_) (fun h => ?_)
  · exact sX11_waysOf_18 hq  hM1 ht2 hv1 hv2 hv3 hv4 hr3 hv1 h
  · exact sX11_waysOf_18 hq  hM1 ht2 hv1 hv2 hv3 hv4 hr3 hr3 h
noncomputable def eX11_histories_89 (q : Nat → Nat → Nat → Bool) (cbk21 : Nat → Nat → Nat → Nat → Nat → Bool) (cM ct cv1 cv2 cv4 : Nat) : Bool :=
  (cbk21 cM ct cv1 cv2 (aN cv4 1))
set_option maxHeartbeats 4000000 in
set_option maxRecDepth 20000 in
theorem sX11_histories_89 {post : Int64 → MM → Int64 → Prop} {q : Nat → Nat → Nat → Bool} (hq : ∀ (r : Int64) (M : MM) (tl : Int64) (cr cM ct : Nat), r = i64 cr → M = dM cM → tl = i64 ct → q cr cM ct = true → post r M tl) {bk21 : MM → Int64 → Int32 → Int64 → Int32 → Prop} {cbk21 : Nat → Nat → Nat → Nat → Nat → Bool} (hbk21 : ∀ (M : MM) (tl : Int64) (x0 : Int32) (x1 : Int64) (x2 : Int32) (cM ct cx0 cx1 cx2 : Nat), M = dM cM → tl = i64 ct → x0 = nI cx0 → x1 = i64 cx1 → x2 = nI cx2 → cbk21 cM ct cx0 cx1 cx2 = true → bk21 M tl x0 x1 x2) {M : MM} {tl : Int64} {v1 : Int32} {v2 : Int64} {v4 : Int32} {cM ct cv1 cv2 cv4 : Nat} (hM : M = dM cM) (ht : tl = i64 ct) (hv1 : v1 = nI cv1) (hv2 : v2 = i64 cv2) (hv4 : v4 = nI cv4) (h : eX11_histories_89 q cbk21 cM ct cv1 cv2 cv4 = true) : wX11_histories_89 post bk21 M tl v1 v2 v4 := by
  unfold wX11_histories_89
  unfold eX11_histories_89 at h
  exact hbk21 _ _ _ _ _ _ _ _ _ _ hM ht hv1 hv2 (r_add hv4 (rfl : (1 : Int32) = nI 1)) h
noncomputable def eX11_histories_45 (q : Nat → Nat → Nat → Bool) (cbk21 : Nat → Nat → Nat → Nat → Nat → Bool) (n : Nat) : Nat → Nat → Nat → Nat → Nat → Nat → Nat → Bool :=
  @Nat.rec (fun _ => Nat → Nat → Nat → Nat → Nat → Nat → Nat → Bool) (fun _ _ _ _ _ _ _ => false) (fun _ ih cM ct cv1 cv2 cv4 cv5 cv7 => (@Bool.rec (fun _ => Bool) (epX11_waysOf (fun cr3 cM1 ct2 => (epX11_waysOf (fun cr6 cM4 ct5 => (ih cM4 ct5 cv1 cv2 cv4 (b64 f_ladd cv5 (xN (aN cr3 cr6))) (aN cv7 1))) cM1 ct2 cv4 1 cv7 cv1)) cM ct cv4 0 cv7 cv1) (eX11_histories_89 q cbk21 cM ct cv1 (b64 f_lmul cv2 cv5) cv4) (ltN cv1 cv7))) n
set_option maxHeartbeats 4000000 in
set_option maxRecDepth 20000 in
theorem sX11_histories_45 {post : Int64 → MM → Int64 → Prop} {q : Nat → Nat → Nat → Bool} (hq : ∀ (r : Int64) (M : MM) (tl : Int64) (cr cM ct : Nat), r = i64 cr → M = dM cM → tl = i64 ct → q cr cM ct = true → post r M tl) {bk21 : MM → Int64 → Int32 → Int64 → Int32 → Prop} {cbk21 : Nat → Nat → Nat → Nat → Nat → Bool} (hbk21 : ∀ (M : MM) (tl : Int64) (x0 : Int32) (x1 : Int64) (x2 : Int32) (cM ct cx0 cx1 cx2 : Nat), M = dM cM → tl = i64 ct → x0 = nI cx0 → x1 = i64 cx1 → x2 = nI cx2 → cbk21 cM ct cx0 cx1 cx2 = true → bk21 M tl x0 x1 x2) : ∀ (n : Nat) (M : MM) (tl : Int64) (v1 : Int32) (v2 : Int64) (v4 : Int32) (v5 : Int64) (v7 : Int32) (cM ct cv1 cv2 cv4 cv5 cv7 : Nat), M = dM cM → tl = i64 ct → v1 = nI cv1 → v2 = i64 cv2 → v4 = nI cv4 → v5 = i64 cv5 → v7 = nI cv7 → eX11_histories_45 q cbk21 n cM ct cv1 cv2 cv4 cv5 cv7 = true → wX11_histories_45 post bk21 n M tl v1 v2 v4 v5 v7 := by
  intro n
  induction n with
  | zero => intro M tl v1 v2 v4 v5 v7 cM ct cv1 cv2 cv4 cv5 cv7 hM ht hv1 hv2 hv4 hv5 hv7 h; exact Bool.noConfusion h
  | succ n ih =>
    intro M tl v1 v2 v4 v5 v7 cM ct cv1 cv2 cv4 cv5 cv7 hM ht hv1 hv2 hv4 hv5 hv7 h
    unfold wX11_histories_45
    refine e_ite (c_lt hv1 hv7) h (fun h => ?_) (fun h => ?_)
    · exact sX11_histories_89 hq hbk21 hM ht hv1 (r_b64 f_lmul hv2 hv5) hv4 h
    · refine spX11_waysOf (fun r3 M1 t2 cr3 cM1 ct2 hr3 hM1 ht2 h => ?_) hM ht hv4 (rfl : (0 : Int32) = nI 0) hv7 hv1 h
      refine spX11_waysOf (fun r6 M4 t5 cr6 cM4 ct5 hr6 hM4 ht5 h => ?_) hM1 ht2 hv4 (rfl : (1 : Int32) = nI 1) hv7 hv1 h
      exact ih _ _ _ _ _ _ _ _ _ _ _ _ _ _ hM4 ht5 hv1 hv2 hv4 (r_b64 f_ladd hv5 (r_ext (r_add hr3 hr6))) (r_add hv7 (rfl : (1 : Int32) = nI 1)) h
noncomputable def eX11_histories_21 (q : Nat → Nat → Nat → Bool) (n : Nat) : Nat → Nat → Nat → Nat → Nat → Bool :=
  @Nat.rec (fun _ => Nat → Nat → Nat → Nat → Nat → Bool) (fun _ _ _ _ _ => false) (fun _ ih cM ct cv1 cv2 cv4 => (@Bool.rec (fun _ => Bool) (epX11_isTold (fun cr3 cM1 ct2 => (@Bool.rec (fun _ => Bool) (eX11_histories_45 q ih 5000 cM1 ct2 cv1 cv2 cv4 0 0) (eX11_histories_89 q ih cM1 ct2 cv1 cv2 cv4) (eqN cr3 0))) cM ct cv4) (q cv2 cM ct) (leN (rd cM 81 2) cv4))) n
set_option maxHeartbeats 4000000 in
set_option maxRecDepth 20000 in
theorem sX11_histories_21 {post : Int64 → MM → Int64 → Prop} {q : Nat → Nat → Nat → Bool} (hq : ∀ (r : Int64) (M : MM) (tl : Int64) (cr cM ct : Nat), r = i64 cr → M = dM cM → tl = i64 ct → q cr cM ct = true → post r M tl) : ∀ (n : Nat) (M : MM) (tl : Int64) (v1 : Int32) (v2 : Int64) (v4 : Int32) (cM ct cv1 cv2 cv4 : Nat), M = dM cM → tl = i64 ct → v1 = nI cv1 → v2 = i64 cv2 → v4 = nI cv4 → eX11_histories_21 q  n cM ct cv1 cv2 cv4 = true → wX11_histories_21 post  n M tl v1 v2 v4 := by
  intro n
  induction n with
  | zero => intro M tl v1 v2 v4 cM ct cv1 cv2 cv4 hM ht hv1 hv2 hv4 h; exact Bool.noConfusion h
  | succ n ih =>
    intro M tl v1 v2 v4 cM ct cv1 cv2 cv4 hM ht hv1 hv2 hv4 h
    unfold wX11_histories_21
    refine e_ite (c_le (r_rd hM (rfl : (81 : Nat) = 81) (rfl : (2 : Nat) = 2)) hv4) h (fun h => ?_) (fun h => ?_)
    · exact hq _ _ _ _ _ _ hv2 hM ht h
    · refine spX11_isTold (fun r3 M1 t2 cr3 cM1 ct2 hr3 hM1 ht2 h => ?_) hM ht hv4 h
      refine e_ite (c_eq hr3 (rfl : (0 : Int32) = nI 0)) h (fun h => ?_) (fun h => ?_)
      · exact sX11_histories_89 hq ih hM1 ht2 hv1 hv2 hv4 h
      · exact ⟨5000, sX11_histories_45 hq ih 5000 _ _ _ _ _ _ _ _ _ _ _ _ _ _ hM1 ht2 hv1 hv2 hv4 (rfl : (0 : Int64) = i64 0) (rfl : (0 : Int32) = nI 0) h⟩
noncomputable def epX11_histories (q : Nat → Nat → Nat → Bool) (cM ct cv1 : Nat) : Bool :=
  (epX11_in (fun cr3 cM1 ct2 => (@Bool.rec (fun _ => Bool) (eX11_histories_21 q  5000 cM1 ct2 cv1 1 0) (q 18446744073709551615 cM1 ct2) (eqN cr3 0))) cM ct (xN cv1) 0 23)
set_option maxHeartbeats 4000000 in
set_option maxRecDepth 20000 in
theorem spX11_histories {post : Int64 → MM → Int64 → Prop} {q : Nat → Nat → Nat → Bool} (hq : ∀ (r : Int64) (M : MM) (tl : Int64) (cr cM ct : Nat), r = i64 cr → M = dM cM → tl = i64 ct → q cr cM ct = true → post r M tl) {M : MM} {tl : Int64} {v1 : Int32} {cM ct cv1 : Nat} (hM : M = dM cM) (ht : tl = i64 ct) (hv1 : v1 = nI cv1) (h : epX11_histories q  cM ct cv1 = true) : wpX11_histories post  M tl v1 := by
  unfold wpX11_histories
  unfold epX11_histories at h
  refine spX11_in (fun r3 M1 t2 cr3 cM1 ct2 hr3 hM1 ht2 h => ?_) hM ht (r_ext hv1) (rfl : (0 : Int64) = i64 0) (rfl : (23 : Int64) = i64 23) h
  refine e_ite (c_eq hr3 (rfl : (0 : Int32) = nI 0)) h (fun h => ?_) (fun h => ?_)
  · exact hq _ _ _ _ _ _ (rfl : (-1 : Int64) = i64 18446744073709551615) hM1 ht2 h
  · exact ⟨5000, sX11_histories_21 hq  5000 _ _ _ _ _ _ _ _ _ _ hM1 ht2 hv1 (rfl : (1 : Int64) = i64 1) (rfl : (0 : Int32) = nI 0) h⟩
noncomputable def eX11_began_144 (q : Nat → Nat → Nat → Bool) (cbk63 : Nat → Nat → Nat → Nat → Nat → Nat → Nat → Nat → Nat → Nat → Bool) (cM ct cv1 cv2 cv3 cv4 cv5 cv6 cv8 cs0 : Nat) : Bool :=
  (cbk63 cM ct cv1 cv2 cv3 cv4 cv5 cv6 cs0 (aN cv8 1))
set_option maxHeartbeats 4000000 in
set_option maxRecDepth 20000 in
theorem sX11_began_144 {post : Int32 → MM → Int64 → Prop} {q : Nat → Nat → Nat → Bool} (hq : ∀ (r : Int32) (M : MM) (tl : Int64) (cr cM ct : Nat), r = nI cr → M = dM cM → tl = i64 ct → q cr cM ct = true → post r M tl) {bk63 : MM → Int64 → Int32 → Int32 → Int32 → Int32 → Int32 → Int32 → Int32 → Int32 → Prop} {cbk63 : Nat → Nat → Nat → Nat → Nat → Nat → Nat → Nat → Nat → Nat → Bool} (hbk63 : ∀ (M : MM) (tl : Int64) (x0 : Int32) (x1 : Int32) (x2 : Int32) (x3 : Int32) (x4 : Int32) (x5 : Int32) (x6 : Int32) (x7 : Int32) (cM ct cx0 cx1 cx2 cx3 cx4 cx5 cx6 cx7 : Nat), M = dM cM → tl = i64 ct → x0 = nI cx0 → x1 = nI cx1 → x2 = nI cx2 → x3 = nI cx3 → x4 = nI cx4 → x5 = nI cx5 → x6 = nI cx6 → x7 = nI cx7 → cbk63 cM ct cx0 cx1 cx2 cx3 cx4 cx5 cx6 cx7 = true → bk63 M tl x0 x1 x2 x3 x4 x5 x6 x7) {M : MM} {tl : Int64} {v1 : Int32} {v2 : Int32} {v3 : Int32} {v4 : Int32} {v5 : Int32} {v6 : Int32} {v8 : Int32} {s0 : Int32} {cM ct cv1 cv2 cv3 cv4 cv5 cv6 cv8 cs0 : Nat} (hM : M = dM cM) (ht : tl = i64 ct) (hv1 : v1 = nI cv1) (hv2 : v2 = nI cv2) (hv3 : v3 = nI cv3) (hv4 : v4 = nI cv4) (hv5 : v5 = nI cv5) (hv6 : v6 = nI cv6) (hv8 : v8 = nI cv8) (hs0 : s0 = nI cs0) (h : eX11_began_144 q cbk63 cM ct cv1 cv2 cv3 cv4 cv5 cv6 cv8 cs0 = true) : wX11_began_144 post bk63 M tl v1 v2 v3 v4 v5 v6 v8 s0 := by
  unfold wX11_began_144
  unfold eX11_began_144 at h
  exact hbk63 _ _ _ _ _ _ _ _ _ _ _ _ _ _ _ _ _ _ _ _ hM ht hv1 hv2 hv3 hv4 hv5 hv6 hs0 (r_add hv8 (rfl : (1 : Int32) = nI 1)) h
noncomputable def eX11_began_127 (q : Nat → Nat → Nat → Bool) (cbk63 : Nat → Nat → Nat → Nat → Nat → Nat → Nat → Nat → Nat → Nat → Bool) (cM ct cv1 cv2 cv3 cv4 cv5 cv7 cv8 cv9 cv10 cs0 : Nat) : Bool :=
  (@Bool.rec (fun _ => Bool) (eX11_began_144 q cbk63 cM ct cv1 cv2 cv3 cv4 cv5 cs0 cv8 cv8) (eX11_began_144 q cbk63 cM ct cv1 cv2 cv3 cv4 cv5 cs0 cv8 cv7) (leN (aN cv9 cv10) 0))
set_option maxHeartbeats 4000000 in
set_option maxRecDepth 20000 in
theorem sX11_began_127 {post : Int32 → MM → Int64 → Prop} {q : Nat → Nat → Nat → Bool} (hq : ∀ (r : Int32) (M : MM) (tl : Int64) (cr cM ct : Nat), r = nI cr → M = dM cM → tl = i64 ct → q cr cM ct = true → post r M tl) {bk63 : MM → Int64 → Int32 → Int32 → Int32 → Int32 → Int32 → Int32 → Int32 → Int32 → Prop} {cbk63 : Nat → Nat → Nat → Nat → Nat → Nat → Nat → Nat → Nat → Nat → Bool} (hbk63 : ∀ (M : MM) (tl : Int64) (x0 : Int32) (x1 : Int32) (x2 : Int32) (x3 : Int32) (x4 : Int32) (x5 : Int32) (x6 : Int32) (x7 : Int32) (cM ct cx0 cx1 cx2 cx3 cx4 cx5 cx6 cx7 : Nat), M = dM cM → tl = i64 ct → x0 = nI cx0 → x1 = nI cx1 → x2 = nI cx2 → x3 = nI cx3 → x4 = nI cx4 → x5 = nI cx5 → x6 = nI cx6 → x7 = nI cx7 → cbk63 cM ct cx0 cx1 cx2 cx3 cx4 cx5 cx6 cx7 = true → bk63 M tl x0 x1 x2 x3 x4 x5 x6 x7) {M : MM} {tl : Int64} {v1 : Int32} {v2 : Int32} {v3 : Int32} {v4 : Int32} {v5 : Int32} {v7 : Int32} {v8 : Int32} {v9 : Int32} {v10 : Int32} {s0 : Int32} {cM ct cv1 cv2 cv3 cv4 cv5 cv7 cv8 cv9 cv10 cs0 : Nat} (hM : M = dM cM) (ht : tl = i64 ct) (hv1 : v1 = nI cv1) (hv2 : v2 = nI cv2) (hv3 : v3 = nI cv3) (hv4 : v4 = nI cv4) (hv5 : v5 = nI cv5) (hv7 : v7 = nI cv7) (hv8 : v8 = nI cv8) (hv9 : v9 = nI cv9) (hv10 : v10 = nI cv10) (hs0 : s0 = nI cs0) (h : eX11_began_127 q cbk63 cM ct cv1 cv2 cv3 cv4 cv5 cv7 cv8 cv9 cv10 cs0 = true) : wX11_began_127 post bk63 M tl v1 v2 v3 v4 v5 v7 v8 v9 v10 s0 := by
  unfold wX11_began_127
  unfold eX11_began_127 at h
  refine e_ite (c_le (r_add hv9 hv10) (rfl : (0 : Int32) = nI 0)) h (fun h => ?_) (fun h => ?_)
  · exact sX11_began_144 hq hbk63 hM ht hv1 hv2 hv3 hv4 hv5 hs0 hv8 hv7 h
  · exact sX11_began_144 hq hbk63 hM ht hv1 hv2 hv3 hv4 hv5 hs0 hv8 hv8 h
noncomputable def eX11_began_125 (q : Nat → Nat → Nat → Bool) (cbk63 : Nat → Nat → Nat → Nat → Nat → Nat → Nat → Nat → Nat → Nat → Bool) (cM ct cv1 cv2 cv3 cv4 cv5 cv6 cv7 cv8 cv9 cv10 : Nat) : Bool :=
  (eX11_began_127 q cbk63 cM ct cv1 cv2 cv3 cv4 cv5 cv7 cv8 cv9 cv10 cv6)
set_option maxHeartbeats 4000000 in
set_option maxRecDepth 20000 in
theorem sX11_began_125 {post : Int32 → MM → Int64 → Prop} {q : Nat → Nat → Nat → Bool} (hq : ∀ (r : Int32) (M : MM) (tl : Int64) (cr cM ct : Nat), r = nI cr → M = dM cM → tl = i64 ct → q cr cM ct = true → post r M tl) {bk63 : MM → Int64 → Int32 → Int32 → Int32 → Int32 → Int32 → Int32 → Int32 → Int32 → Prop} {cbk63 : Nat → Nat → Nat → Nat → Nat → Nat → Nat → Nat → Nat → Nat → Bool} (hbk63 : ∀ (M : MM) (tl : Int64) (x0 : Int32) (x1 : Int32) (x2 : Int32) (x3 : Int32) (x4 : Int32) (x5 : Int32) (x6 : Int32) (x7 : Int32) (cM ct cx0 cx1 cx2 cx3 cx4 cx5 cx6 cx7 : Nat), M = dM cM → tl = i64 ct → x0 = nI cx0 → x1 = nI cx1 → x2 = nI cx2 → x3 = nI cx3 → x4 = nI cx4 → x5 = nI cx5 → x6 = nI cx6 → x7 = nI cx7 → cbk63 cM ct cx0 cx1 cx2 cx3 cx4 cx5 cx6 cx7 = true → bk63 M tl x0 x1 x2 x3 x4 x5 x6 x7) {M : MM} {tl : Int64} {v1 : Int32} {v2 : Int32} {v3 : Int32} {v4 : Int32} {v5 : Int32} {v6 : Int32} {v7 : Int32} {v8 : Int32} {v9 : Int32} {v10 : Int32} {cM ct cv1 cv2 cv3 cv4 cv5 cv6 cv7 cv8 cv9 cv10 : Nat} (hM : M = dM cM) (ht : tl = i64 ct) (hv1 : v1 = nI cv1) (hv2 : v2 = nI cv2) (hv3 : v3 = nI cv3) (hv4 : v4 = nI cv4) (hv5 : v5 = nI cv5) (hv6 : v6 = nI cv6) (hv7 : v7 = nI cv7) (hv8 : v8 = nI cv8) (hv9 : v9 = nI cv9) (hv10 : v10 = nI cv10) (h : eX11_began_125 q cbk63 cM ct cv1 cv2 cv3 cv4 cv5 cv6 cv7 cv8 cv9 cv10 = true) : wX11_began_125 post bk63 M tl v1 v2 v3 v4 v5 v6 v7 v8 v9 v10 := by
  unfold wX11_began_125
  unfold eX11_began_125 at h
  exact sX11_began_127 hq hbk63 hM ht hv1 hv2 hv3 hv4 hv5 hv7 hv8 hv9 hv10 hv6 h
noncomputable def eX11_began_186 (q : Nat → Nat → Nat → Bool) (cM ct cv4 cv5 : Nat) : Bool :=
  (@Bool.rec (fun _ => Bool) (@Bool.rec (fun _ => Bool) (q 4294967292 cM ct) (q 1 cM ct) (eqN cv4 0)) (q 4294967292 cM ct) (leN cv5 0))
set_option maxHeartbeats 4000000 in
set_option maxRecDepth 20000 in
theorem sX11_began_186 {post : Int32 → MM → Int64 → Prop} {q : Nat → Nat → Nat → Bool} (hq : ∀ (r : Int32) (M : MM) (tl : Int64) (cr cM ct : Nat), r = nI cr → M = dM cM → tl = i64 ct → q cr cM ct = true → post r M tl) {M : MM} {tl : Int64} {v4 : Int32} {v5 : Int32} {cM ct cv4 cv5 : Nat} (hM : M = dM cM) (ht : tl = i64 ct) (hv4 : v4 = nI cv4) (hv5 : v5 = nI cv5) (h : eX11_began_186 q  cM ct cv4 cv5 = true) : wX11_began_186 post  M tl v4 v5 := by
  unfold wX11_began_186
  unfold eX11_began_186 at h
  refine e_ite (c_le hv5 (rfl : (0 : Int32) = nI 0)) h (fun h => ?_) (fun h => ?_)
  · exact hq _ _ _ _ _ _ lm4 hM ht h
  · refine e_ite (c_eq hv4 (rfl : (0 : Int32) = nI 0)) h (fun h => ?_) (fun h => ?_)
    · exact hq _ _ _ _ _ _ (rfl : (1 : Int32) = nI 1) hM ht h
    · exact hq _ _ _ _ _ _ lm4 hM ht h
noncomputable def eX11_began_63 (q : Nat → Nat → Nat → Bool) (n : Nat) : Nat → Nat → Nat → Nat → Nat → Nat → Nat → Nat → Nat → Nat → Bool :=
  @Nat.rec (fun _ => Nat → Nat → Nat → Nat → Nat → Nat → Nat → Nat → Nat → Nat → Bool) (fun _ _ _ _ _ _ _ _ _ _ => false) (fun _ ih cM ct cv1 cv2 cv3 cv4 cv5 cv6 cv7 cv8 => (@Bool.rec (fun _ => Bool) (epX11_waysOf (fun cr3 cM1 ct2 => (epX11_waysOf (fun cr6 cM4 ct5 => (@Bool.rec (fun _ => Bool) (eX11_began_125 q ih cM4 ct5 cv1 cv2 cv3 (aN cv4 cr3) (aN cv5 cr6) cv6 cv7 cv8 cr3 cr6) (@Bool.rec (fun _ => Bool) (eX11_began_127 q ih cM4 ct5 cv1 cv2 cv3 (aN cv4 cr3) (aN cv5 cr6) cv7 cv8 cr3 cr6 cv8) (eX11_began_125 q ih cM4 ct5 cv1 cv2 cv3 (aN cv4 cr3) (aN cv5 cr6) cv6 cv7 cv8 cr3 cr6) (leN (aN cr3 cr6) 0)) (eqN cv6 4294967292))) cM1 ct2 cv1 1 cv8 cv2)) cM ct cv1 0 cv8 cv2) (@Bool.rec (fun _ => Bool) (@Bool.rec (fun _ => Bool) (@Bool.rec (fun _ => Bool) (@Bool.rec (fun _ => Bool) (eX11_began_186 q  cM ct cv4 cv5) (q 0 cM ct) (eqN cv5 0)) (eX11_began_186 q  cM ct cv4 cv5) (leN cv4 0)) (q cv7 cM ct) (eqN cv3 2)) (q cv6 cM ct) (eqN cv3 1)) (ltN cv2 cv8))) n
set_option maxHeartbeats 4000000 in
set_option maxRecDepth 20000 in
theorem sX11_began_63 {post : Int32 → MM → Int64 → Prop} {q : Nat → Nat → Nat → Bool} (hq : ∀ (r : Int32) (M : MM) (tl : Int64) (cr cM ct : Nat), r = nI cr → M = dM cM → tl = i64 ct → q cr cM ct = true → post r M tl) : ∀ (n : Nat) (M : MM) (tl : Int64) (v1 : Int32) (v2 : Int32) (v3 : Int32) (v4 : Int32) (v5 : Int32) (v6 : Int32) (v7 : Int32) (v8 : Int32) (cM ct cv1 cv2 cv3 cv4 cv5 cv6 cv7 cv8 : Nat), M = dM cM → tl = i64 ct → v1 = nI cv1 → v2 = nI cv2 → v3 = nI cv3 → v4 = nI cv4 → v5 = nI cv5 → v6 = nI cv6 → v7 = nI cv7 → v8 = nI cv8 → eX11_began_63 q  n cM ct cv1 cv2 cv3 cv4 cv5 cv6 cv7 cv8 = true → wX11_began_63 post  n M tl v1 v2 v3 v4 v5 v6 v7 v8 := by
  intro n
  induction n with
  | zero => intro M tl v1 v2 v3 v4 v5 v6 v7 v8 cM ct cv1 cv2 cv3 cv4 cv5 cv6 cv7 cv8 hM ht hv1 hv2 hv3 hv4 hv5 hv6 hv7 hv8 h; exact Bool.noConfusion h
  | succ n ih =>
    intro M tl v1 v2 v3 v4 v5 v6 v7 v8 cM ct cv1 cv2 cv3 cv4 cv5 cv6 cv7 cv8 hM ht hv1 hv2 hv3 hv4 hv5 hv6 hv7 hv8 h
    unfold wX11_began_63
    refine e_ite (c_lt hv2 hv8) h (fun h => ?_) (fun h => ?_)
    · refine e_ite (c_eq hv3 (rfl : (1 : Int32) = nI 1)) h (fun h => ?_) (fun h => ?_)
      · exact hq _ _ _ _ _ _ hv6 hM ht h
      · refine e_ite (c_eq hv3 (rfl : (2 : Int32) = nI 2)) h (fun h => ?_) (fun h => ?_)
        · exact hq _ _ _ _ _ _ hv7 hM ht h
        · refine e_ite (c_le hv4 (rfl : (0 : Int32) = nI 0)) h (fun h => ?_) (fun h => ?_)
          · exact sX11_began_186 hq  hM ht hv4 hv5 h
          · refine e_ite (c_eq hv5 (rfl : (0 : Int32) = nI 0)) h (fun h => ?_) (fun h => ?_)
            · exact hq _ _ _ _ _ _ (rfl : (0 : Int32) = nI 0) hM ht h
            · exact sX11_began_186 hq  hM ht hv4 hv5 h
    · refine spX11_waysOf (fun r3 M1 t2 cr3 cM1 ct2 hr3 hM1 ht2 h => ?_) hM ht hv1 (rfl : (0 : Int32) = nI 0) hv8 hv2 h
      refine spX11_waysOf (fun r6 M4 t5 cr6 cM4 ct5 hr6 hM4 ht5 h => ?_) hM1 ht2 hv1 (rfl : (1 : Int32) = nI 1) hv8 hv2 h
      refine e_ite (c_eq hv6 lm4) h (fun h => ?_) (fun h => ?_)
      · refine e_ite (c_le (r_add hr3 hr6) (rfl : (0 : Int32) = nI 0)) h (fun h => ?_) (fun h => ?_)
        · exact sX11_began_125 hq ih hM4 ht5 hv1 hv2 hv3 (r_add hv4 hr3) (r_add hv5 hr6) hv6 hv7 hv8 hr3 hr6 h
        · exact sX11_began_127 hq ih hM4 ht5 hv1 hv2 hv3 (r_add hv4 hr3) (r_add hv5 hr6) hv7 hv8 hr3 hr6 hv8 h
      · exact sX11_began_125 hq ih hM4 ht5 hv1 hv2 hv3 (r_add hv4 hr3) (r_add hv5 hr6) hv6 hv7 hv8 hr3 hr6 h
noncomputable def epX11_began (q : Nat → Nat → Nat → Bool) (cM ct cv1 cv2 cv3 : Nat) : Bool :=
  (epX11_isLot (fun cr3 cM1 ct2 => (@Bool.rec (fun _ => Bool) (epX11_in (fun cr6 cM4 ct5 => (@Bool.rec (fun _ => Bool) (epX11_in (fun cr9 cM7 ct8 => (@Bool.rec (fun _ => Bool) (epX11_isTold (fun cr12 cM10 ct11 => (@Bool.rec (fun _ => Bool) (eX11_began_63 q  5000 cM10 ct11 cv1 cv2 cv3 0 0 4294967292 4294967292 0) (q 4294967294 cM10 ct11) (eqN cr12 0))) cM7 ct8 cv1) (q 4294967295 cM7 ct8) (eqN cr9 0))) cM4 ct5 (xN cv3) 0 2) (q 4294967295 cM4 ct5) (eqN cr6 0))) cM1 ct2 (xN cv2) 0 23) (q 4294967295 cM1 ct2) (eqN cr3 0))) cM ct 0 cv1)
set_option maxHeartbeats 4000000 in
set_option maxRecDepth 20000 in
theorem spX11_began {post : Int32 → MM → Int64 → Prop} {q : Nat → Nat → Nat → Bool} (hq : ∀ (r : Int32) (M : MM) (tl : Int64) (cr cM ct : Nat), r = nI cr → M = dM cM → tl = i64 ct → q cr cM ct = true → post r M tl) {M : MM} {tl : Int64} {v1 : Int32} {v2 : Int32} {v3 : Int32} {cM ct cv1 cv2 cv3 : Nat} (hM : M = dM cM) (ht : tl = i64 ct) (hv1 : v1 = nI cv1) (hv2 : v2 = nI cv2) (hv3 : v3 = nI cv3) (h : epX11_began q  cM ct cv1 cv2 cv3 = true) : wpX11_began post  M tl v1 v2 v3 := by
  unfold wpX11_began
  unfold epX11_began at h
  refine spX11_isLot (fun r3 M1 t2 cr3 cM1 ct2 hr3 hM1 ht2 h => ?_) hM ht (rfl : (0 : Int32) = nI 0) hv1 h
  refine e_ite (c_eq hr3 (rfl : (0 : Int32) = nI 0)) h (fun h => ?_) (fun h => ?_)
  · exact hq _ _ _ _ _ _ lm1 hM1 ht2 h
  · refine spX11_in (fun r6 M4 t5 cr6 cM4 ct5 hr6 hM4 ht5 h => ?_) hM1 ht2 (r_ext hv2) (rfl : (0 : Int64) = i64 0) (rfl : (23 : Int64) = i64 23) h
    refine e_ite (c_eq hr6 (rfl : (0 : Int32) = nI 0)) h (fun h => ?_) (fun h => ?_)
    · exact hq _ _ _ _ _ _ lm1 hM4 ht5 h
    · refine spX11_in (fun r9 M7 t8 cr9 cM7 ct8 hr9 hM7 ht8 h => ?_) hM4 ht5 (r_ext hv3) (rfl : (0 : Int64) = i64 0) (rfl : (2 : Int64) = i64 2) h
      refine e_ite (c_eq hr9 (rfl : (0 : Int32) = nI 0)) h (fun h => ?_) (fun h => ?_)
      · exact hq _ _ _ _ _ _ lm1 hM7 ht8 h
      · refine spX11_isTold (fun r12 M10 t11 cr12 cM10 ct11 hr12 hM10 ht11 h => ?_) hM7 ht8 hv1 h
        refine e_ite (c_eq hr12 (rfl : (0 : Int32) = nI 0)) h (fun h => ?_) (fun h => ?_)
        · exact hq _ _ _ _ _ _ lm2 hM10 ht11 h
        · exact ⟨5000, sX11_began_63 hq  5000 _ _ _ _ _ _ _ _ _ _ _ _ _ _ _ _ _ _ _ _ hM10 ht11 hv1 hv2 hv3 (rfl : (0 : Int32) = nI 0) (rfl : (0 : Int32) = nI 0) lm4 lm4 (rfl : (0 : Int32) = nI 0) h⟩
noncomputable def eX11_thingMany_25 (q : Nat → Nat → Nat → Bool) (cbk4 : Nat → Nat → Nat → Nat → Bool) (cM ct cv2 cs0 cs1 : Nat) : Bool :=
  (epX11_flag (fun cr3 cM1 ct2 => (cbk4 cM1 ct2 (aN cs0 cr3) (aN cv2 1))) cM ct cs1)
set_option maxHeartbeats 4000000 in
set_option maxRecDepth 20000 in
theorem sX11_thingMany_25 {post : Int32 → MM → Int64 → Prop} {q : Nat → Nat → Nat → Bool} (hq : ∀ (r : Int32) (M : MM) (tl : Int64) (cr cM ct : Nat), r = nI cr → M = dM cM → tl = i64 ct → q cr cM ct = true → post r M tl) {bk4 : MM → Int64 → Int32 → Int32 → Prop} {cbk4 : Nat → Nat → Nat → Nat → Bool} (hbk4 : ∀ (M : MM) (tl : Int64) (x0 : Int32) (x1 : Int32) (cM ct cx0 cx1 : Nat), M = dM cM → tl = i64 ct → x0 = nI cx0 → x1 = nI cx1 → cbk4 cM ct cx0 cx1 = true → bk4 M tl x0 x1) {M : MM} {tl : Int64} {v2 : Int32} {s0 : Int32} {s1 : Int32} {cM ct cv2 cs0 cs1 : Nat} (hM : M = dM cM) (ht : tl = i64 ct) (hv2 : v2 = nI cv2) (hs0 : s0 = nI cs0) (hs1 : s1 = nI cs1) (h : eX11_thingMany_25 q cbk4 cM ct cv2 cs0 cs1 = true) : wX11_thingMany_25 post bk4 M tl v2 s0 s1 := by
  unfold wX11_thingMany_25
  unfold eX11_thingMany_25 at h
  refine spX11_flag (fun r3 M1 t2 cr3 cM1 ct2 hr3 hM1 ht2 h => ?_) hM ht hs1 h
  exact hbk4 _ _ _ _ _ _ _ _ hM1 ht2 (r_add hs0 hr3) (r_add hv2 (rfl : (1 : Int32) = nI 1)) h
noncomputable def eX11_thingMany_4 (q : Nat → Nat → Nat → Bool) (n : Nat) : Nat → Nat → Nat → Nat → Bool :=
  @Nat.rec (fun _ => Nat → Nat → Nat → Nat → Bool) (fun _ _ _ _ => false) (fun _ ih cM ct cv1 cv2 => (@Bool.rec (fun _ => Bool) (@Bool.rec (fun _ => Bool) false (@Bool.rec (fun _ => Bool) (eX11_thingMany_25 q ih cM ct cv2 cv1 1) (eX11_thingMany_25 q ih cM ct cv2 cv1 0) (eqN (rd cM 82 (tN cv2)) 0)) (inN cv2 (alF 82))) (q cv1 cM ct) (leN 16 cv2))) n
set_option maxHeartbeats 4000000 in
set_option maxRecDepth 20000 in
theorem sX11_thingMany_4 {post : Int32 → MM → Int64 → Prop} {q : Nat → Nat → Nat → Bool} (hq : ∀ (r : Int32) (M : MM) (tl : Int64) (cr cM ct : Nat), r = nI cr → M = dM cM → tl = i64 ct → q cr cM ct = true → post r M tl) : ∀ (n : Nat) (M : MM) (tl : Int64) (v1 : Int32) (v2 : Int32) (cM ct cv1 cv2 : Nat), M = dM cM → tl = i64 ct → v1 = nI cv1 → v2 = nI cv2 → eX11_thingMany_4 q  n cM ct cv1 cv2 = true → wX11_thingMany_4 post  n M tl v1 v2 := by
  intro n
  induction n with
  | zero => intro M tl v1 v2 cM ct cv1 cv2 hM ht hv1 hv2 h; exact Bool.noConfusion h
  | succ n ih =>
    intro M tl v1 v2 cM ct cv1 cv2 hM ht hv1 hv2 h
    unfold wX11_thingMany_4
    refine e_ite (c_le (rfl : (16 : Int32) = nI 16) hv2) h (fun h => ?_) (fun h => ?_)
    · exact hq _ _ _ _ _ _ hv1 hM ht h
    · refine e_and (k_in hv2 (r_al (rfl : (82 : Nat) = 82))) h (fun h => ?_)
      refine e_ite (c_eq (r_rd hM (rfl : (82 : Nat) = 82) (r_nat hv2)) (rfl : (0 : Int32) = nI 0)) h (fun h => ?_) (fun h => ?_)
      · exact sX11_thingMany_25 hq ih hM ht hv2 hv1 (rfl : (0 : Int32) = nI 0) h
      · exact sX11_thingMany_25 hq ih hM ht hv2 hv1 (rfl : (1 : Int32) = nI 1) h
noncomputable def epX11_thingMany (q : Nat → Nat → Nat → Bool) (cM ct  : Nat) : Bool :=
  (eX11_thingMany_4 q  5000 cM ct 0 0)
set_option maxHeartbeats 4000000 in
set_option maxRecDepth 20000 in
theorem spX11_thingMany {post : Int32 → MM → Int64 → Prop} {q : Nat → Nat → Nat → Bool} (hq : ∀ (r : Int32) (M : MM) (tl : Int64) (cr cM ct : Nat), r = nI cr → M = dM cM → tl = i64 ct → q cr cM ct = true → post r M tl) {M : MM} {tl : Int64} {cM ct  : Nat} (hM : M = dM cM) (ht : tl = i64 ct)  (h : epX11_thingMany q  cM ct  = true) : wpX11_thingMany post  M tl  := by
  unfold wpX11_thingMany
  unfold epX11_thingMany at h
  exact ⟨5000, sX11_thingMany_4 hq  5000 _ _ _ _ _ _ _ _ hM ht (rfl : (0 : Int32) = nI 0) (rfl : (0 : Int32) = nI 0) h⟩
noncomputable def eX11_copies_2 (q : Nat → Nat → Bool) (n : Nat) : Nat → Nat → Nat → Nat → Nat → Bool :=
  @Nat.rec (fun _ => Nat → Nat → Nat → Nat → Nat → Bool) (fun _ _ _ _ _ => false) (fun _ ih cM ct cv1 cv2 cv3 => (@Bool.rec (fun _ => Bool) (@Bool.rec (fun _ => Bool) false (@Bool.rec (fun _ => Bool) false (wrB (fun cM3 => (ih cM3 ct cv1 cv2 (aN cv3 1))) cM 82 (tN (aN cv1 cv3)) (rd cM 82 (tN (aN cv2 cv3)))) (inN (aN cv1 cv3) (alF 82))) (inN (aN cv2 cv3) (alF 82))) (q cM ct) (leN 127 cv3))) n
set_option maxHeartbeats 4000000 in
set_option maxRecDepth 20000 in
theorem sX11_copies_2 {post : MM → Int64 → Prop} {q : Nat → Nat → Bool} (hq : ∀ (M : MM) (tl : Int64) (cM ct : Nat), M = dM cM → tl = i64 ct → q cM ct = true → post M tl) : ∀ (n : Nat) (M : MM) (tl : Int64) (v1 : Int32) (v2 : Int32) (v3 : Int32) (cM ct cv1 cv2 cv3 : Nat), M = dM cM → tl = i64 ct → v1 = nI cv1 → v2 = nI cv2 → v3 = nI cv3 → eX11_copies_2 q  n cM ct cv1 cv2 cv3 = true → wX11_copies_2 post  n M tl v1 v2 v3 := by
  intro n
  induction n with
  | zero => intro M tl v1 v2 v3 cM ct cv1 cv2 cv3 hM ht hv1 hv2 hv3 h; exact Bool.noConfusion h
  | succ n ih =>
    intro M tl v1 v2 v3 cM ct cv1 cv2 cv3 hM ht hv1 hv2 hv3 h
    unfold wX11_copies_2
    refine e_ite (c_le (rfl : (127 : Int32) = nI 127) hv3) h (fun h => ?_) (fun h => ?_)
    · exact hq _ _ _ _ hM ht h
    · refine e_and (k_in (r_add hv2 hv3) (r_al (rfl : (82 : Nat) = 82))) h (fun h => ?_)
      refine e_and (k_in (r_add hv1 hv3) (r_al (rfl : (82 : Nat) = 82))) h (fun h => ?_)
      refine e_wr h hM (rfl : (82 : Nat) = 82) (r_nat (r_add hv1 hv3)) (r_rd hM (rfl : (82 : Nat) = 82) (r_nat (r_add hv2 hv3))) (fun M3 cM3 hM3 h => ?_)
      exact ih _ _ _ _ _ _ _ _ _ _ hM3 ht hv1 hv2 (r_add hv3 (rfl : (1 : Int32) = nI 1)) h
noncomputable def epX11_copies (q : Nat → Nat → Bool) (cM ct cv1 cv2 : Nat) : Bool :=
  (eX11_copies_2 q  5000 cM ct cv1 cv2 0)
set_option maxHeartbeats 4000000 in
set_option maxRecDepth 20000 in
theorem spX11_copies {post : MM → Int64 → Prop} {q : Nat → Nat → Bool} (hq : ∀ (M : MM) (tl : Int64) (cM ct : Nat), M = dM cM → tl = i64 ct → q cM ct = true → post M tl) {M : MM} {tl : Int64} {v1 : Int32} {v2 : Int32} {cM ct cv1 cv2 : Nat} (hM : M = dM cM) (ht : tl = i64 ct) (hv1 : v1 = nI cv1) (hv2 : v2 = nI cv2) (h : epX11_copies q  cM ct cv1 cv2 = true) : wpX11_copies post  M tl v1 v2 := by
  unfold wpX11_copies
  unfold epX11_copies at h
  exact ⟨5000, sX11_copies_2 hq  5000 _ _ _ _ _ _ _ _ _ _ hM ht hv1 hv2 (rfl : (0 : Int32) = nI 0) h⟩
noncomputable def epX11_keep (q : Nat → Nat → Nat → Bool) (cM ct cv1 : Nat) : Bool :=
  (epX11_in (fun cr3 cM1 ct2 => (@Bool.rec (fun _ => Bool) (@Bool.rec (fun _ => Bool) false (epX11_flag (fun cr7 cM5 ct6 => (@Bool.rec (fun _ => Bool) false (wrB (fun cM9 => (epX11_copies (fun cM10 ct11 => (q cr7 cM10 ct11)) cM9 ct6 (mN 127 (aN cv1 1)) 0)) cM5 83 (tN cv1) (b1 (vp_nar .boolean) 1)) (inN cv1 (alF 83)))) cM1 ct2 (rd cM1 83 (tN cv1))) (inN cv1 (alF 83))) (q 4294967295 cM1 ct2) (eqN cr3 0))) cM ct (xN cv1) 0 1)
set_option maxHeartbeats 4000000 in
set_option maxRecDepth 20000 in
theorem spX11_keep {post : Int32 → MM → Int64 → Prop} {q : Nat → Nat → Nat → Bool} (hq : ∀ (r : Int32) (M : MM) (tl : Int64) (cr cM ct : Nat), r = nI cr → M = dM cM → tl = i64 ct → q cr cM ct = true → post r M tl) {M : MM} {tl : Int64} {v1 : Int32} {cM ct cv1 : Nat} (hM : M = dM cM) (ht : tl = i64 ct) (hv1 : v1 = nI cv1) (h : epX11_keep q  cM ct cv1 = true) : wpX11_keep post  M tl v1 := by
  unfold wpX11_keep
  unfold epX11_keep at h
  refine spX11_in (fun r3 M1 t2 cr3 cM1 ct2 hr3 hM1 ht2 h => ?_) hM ht (r_ext hv1) (rfl : (0 : Int64) = i64 0) (rfl : (1 : Int64) = i64 1) h
  refine e_ite (c_eq hr3 (rfl : (0 : Int32) = nI 0)) h (fun h => ?_) (fun h => ?_)
  · exact hq _ _ _ _ _ _ lm1 hM1 ht2 h
  · refine e_and (k_in hv1 (r_al (rfl : (83 : Nat) = 83))) h (fun h => ?_)
    refine spX11_flag (fun r7 M5 t6 cr7 cM5 ct6 hr7 hM5 ht6 h => ?_) hM1 ht2 (r_rd hM1 (rfl : (83 : Nat) = 83) (r_nat hv1)) h
    refine e_and (k_in hv1 (r_al (rfl : (83 : Nat) = 83))) h (fun h => ?_)
    refine e_wr h hM5 (rfl : (83 : Nat) = 83) (r_nat hv1) (r_b1 (vp_nar .boolean) (rfl : (1 : Int32) = nI 1)) (fun M9 cM9 hM9 h => ?_)
    refine spX11_copies (fun M10 t11 cM10 ct11 hM10 ht11 h => ?_) hM9 ht6 (r_mul (rfl : (127 : Int32) = nI 127) (r_add hv1 (rfl : (1 : Int32) = nI 1))) (rfl : (0 : Int32) = nI 0) h
    exact hq _ _ _ _ _ _ hr7 hM10 ht11 h
noncomputable def epX11_back (q : Nat → Nat → Nat → Bool) (cM ct cv1 : Nat) : Bool :=
  (epX11_in (fun cr3 cM1 ct2 => (@Bool.rec (fun _ => Bool) (@Bool.rec (fun _ => Bool) false (@Bool.rec (fun _ => Bool) (epX11_copies (fun cM5 ct6 => (epX11_thingMany (fun cr9 cM7 ct8 => (q cr9 cM7 ct8)) cM5 ct6)) cM1 ct2 0 (mN 127 (aN cv1 1))) (q 4294967294 cM1 ct2) (eqN (rd cM1 83 (tN cv1)) 0)) (inN cv1 (alF 83))) (q 4294967295 cM1 ct2) (eqN cr3 0))) cM ct (xN cv1) 0 1)
set_option maxHeartbeats 4000000 in
set_option maxRecDepth 20000 in
theorem spX11_back {post : Int32 → MM → Int64 → Prop} {q : Nat → Nat → Nat → Bool} (hq : ∀ (r : Int32) (M : MM) (tl : Int64) (cr cM ct : Nat), r = nI cr → M = dM cM → tl = i64 ct → q cr cM ct = true → post r M tl) {M : MM} {tl : Int64} {v1 : Int32} {cM ct cv1 : Nat} (hM : M = dM cM) (ht : tl = i64 ct) (hv1 : v1 = nI cv1) (h : epX11_back q  cM ct cv1 = true) : wpX11_back post  M tl v1 := by
  unfold wpX11_back
  unfold epX11_back at h
  refine spX11_in (fun r3 M1 t2 cr3 cM1 ct2 hr3 hM1 ht2 h => ?_) hM ht (r_ext hv1) (rfl : (0 : Int64) = i64 0) (rfl : (1 : Int64) = i64 1) h
  refine e_ite (c_eq hr3 (rfl : (0 : Int32) = nI 0)) h (fun h => ?_) (fun h => ?_)
  · exact hq _ _ _ _ _ _ lm1 hM1 ht2 h
  · refine e_and (k_in hv1 (r_al (rfl : (83 : Nat) = 83))) h (fun h => ?_)
    refine e_ite (c_eq (r_rd hM1 (rfl : (83 : Nat) = 83) (r_nat hv1)) (rfl : (0 : Int32) = nI 0)) h (fun h => ?_) (fun h => ?_)
    · exact hq _ _ _ _ _ _ lm2 hM1 ht2 h
    · refine spX11_copies (fun M5 t6 cM5 ct6 hM5 ht6 h => ?_) hM1 ht2 (rfl : (0 : Int32) = nI 0) (r_mul (rfl : (127 : Int32) = nI 127) (r_add hv1 (rfl : (1 : Int32) = nI 1))) h
      refine spX11_thingMany (fun r9 M7 t8 cr9 cM7 ct8 hr9 hM7 ht8 h => ?_) hM5 ht6 h
      exact hq _ _ _ _ _ _ hr9 hM7 ht8 h
noncomputable def epX11_isSheet (q : Nat → Nat → Nat → Bool) (cM ct cv0 cv1 : Nat) : Bool :=
  (epX11_in (fun cr3 cM1 ct2 => (@Bool.rec (fun _ => Bool) (epX11_in (fun cr6 cM4 ct5 => (@Bool.rec (fun _ => Bool) (q 1 cM4 ct5) (q 0 cM4 ct5) (eqN cr6 0))) cM1 ct2 (xN cv1) 0 2) (q 0 cM1 ct2) (eqN cr3 0))) cM ct (xN cv0) 0 3)
set_option maxHeartbeats 4000000 in
set_option maxRecDepth 20000 in
theorem spX11_isSheet {post : Int32 → MM → Int64 → Prop} {q : Nat → Nat → Nat → Bool} (hq : ∀ (r : Int32) (M : MM) (tl : Int64) (cr cM ct : Nat), r = nI cr → M = dM cM → tl = i64 ct → q cr cM ct = true → post r M tl) {M : MM} {tl : Int64} {v0 : Int32} {v1 : Int32} {cM ct cv0 cv1 : Nat} (hM : M = dM cM) (ht : tl = i64 ct) (hv0 : v0 = nI cv0) (hv1 : v1 = nI cv1) (h : epX11_isSheet q  cM ct cv0 cv1 = true) : wpX11_isSheet post  M tl v0 v1 := by
  unfold wpX11_isSheet
  unfold epX11_isSheet at h
  refine spX11_in (fun r3 M1 t2 cr3 cM1 ct2 hr3 hM1 ht2 h => ?_) hM ht (r_ext hv0) (rfl : (0 : Int64) = i64 0) (rfl : (3 : Int64) = i64 3) h
  refine e_ite (c_eq hr3 (rfl : (0 : Int32) = nI 0)) h (fun h => ?_) (fun h => ?_)
  · exact hq _ _ _ _ _ _ (rfl : (0 : Int32) = nI 0) hM1 ht2 h
  · refine spX11_in (fun r6 M4 t5 cr6 cM4 ct5 hr6 hM4 ht5 h => ?_) hM1 ht2 (r_ext hv1) (rfl : (0 : Int64) = i64 0) (rfl : (2 : Int64) = i64 2) h
    refine e_ite (c_eq hr6 (rfl : (0 : Int32) = nI 0)) h (fun h => ?_) (fun h => ?_)
    · exact hq _ _ _ _ _ _ (rfl : (0 : Int32) = nI 0) hM4 ht5 h
    · exact hq _ _ _ _ _ _ (rfl : (1 : Int32) = nI 1) hM4 ht5 h
noncomputable def eX11_sheet_40 (q : Nat → Nat → Nat → Bool) (n : Nat) : Nat → Nat → Nat → Nat → Bool :=
  @Nat.rec (fun _ => Nat → Nat → Nat → Nat → Bool) (fun _ _ _ _ => false) (fun _ ih cM ct cv1 cv4 => (@Bool.rec (fun _ => Bool) (@Bool.rec (fun _ => Bool) false (wrB (fun cM2 => (ih cM2 ct cv1 (aN cv4 1))) cM 107 (tN (aN (mN 40 cv1) cv4)) 0) (inN (aN (mN 40 cv1) cv4) (alF 107))) (q 1 cM ct) (leN 40 cv4))) n
set_option maxHeartbeats 4000000 in
set_option maxRecDepth 20000 in
theorem sX11_sheet_40 {post : Int32 → MM → Int64 → Prop} {q : Nat → Nat → Nat → Bool} (hq : ∀ (r : Int32) (M : MM) (tl : Int64) (cr cM ct : Nat), r = nI cr → M = dM cM → tl = i64 ct → q cr cM ct = true → post r M tl) : ∀ (n : Nat) (M : MM) (tl : Int64) (v1 : Int32) (v4 : Int32) (cM ct cv1 cv4 : Nat), M = dM cM → tl = i64 ct → v1 = nI cv1 → v4 = nI cv4 → eX11_sheet_40 q  n cM ct cv1 cv4 = true → wX11_sheet_40 post  n M tl v1 v4 := by
  intro n
  induction n with
  | zero => intro M tl v1 v4 cM ct cv1 cv4 hM ht hv1 hv4 h; exact Bool.noConfusion h
  | succ n ih =>
    intro M tl v1 v4 cM ct cv1 cv4 hM ht hv1 hv4 h
    unfold wX11_sheet_40
    refine e_ite (c_le (rfl : (40 : Int32) = nI 40) hv4) h (fun h => ?_) (fun h => ?_)
    · exact hq _ _ _ _ _ _ (rfl : (1 : Int32) = nI 1) hM ht h
    · refine e_and (k_in (r_add (r_mul (rfl : (40 : Int32) = nI 40) hv1) hv4) (r_al (rfl : (107 : Nat) = 107))) h (fun h => ?_)
      refine e_wr h hM (rfl : (107 : Nat) = 107) (r_nat (r_add (r_mul (rfl : (40 : Int32) = nI 40) hv1) hv4)) (rfl : (0 : Int32) = nI 0) (fun M2 cM2 hM2 h => ?_)
      exact ih _ _ _ _ _ _ _ _ hM2 ht hv1 (r_add hv4 (rfl : (1 : Int32) = nI 1)) h
noncomputable def epX11_sheet (q : Nat → Nat → Nat → Bool) (cM ct cv1 cv2 cv3 : Nat) : Bool :=
  (epX11_isSheet (fun cr3 cM1 ct2 => (@Bool.rec (fun _ => Bool) (@Bool.rec (fun _ => Bool) (q 4294967295 cM1 ct2) (@Bool.rec (fun _ => Bool) (q 4294967282 cM1 ct2) (@Bool.rec (fun _ => Bool) false (wrB (fun cM5 => (@Bool.rec (fun _ => Bool) false (wrB (fun cM7 => (eX11_sheet_40 q  5000 cM7 ct2 cv1 0)) cM5 106 (tN cv1) cv3) (inN cv1 (alF 106)))) cM1 105 (tN cv1) cv2) (inN cv1 (alF 105))) (leN 0 cv3)) (leN cv3 40)) (q 4294967295 cM1 ct2) (eqN cr3 0))) cM ct cv1 cv2)
set_option maxHeartbeats 4000000 in
set_option maxRecDepth 20000 in
theorem spX11_sheet {post : Int32 → MM → Int64 → Prop} {q : Nat → Nat → Nat → Bool} (hq : ∀ (r : Int32) (M : MM) (tl : Int64) (cr cM ct : Nat), r = nI cr → M = dM cM → tl = i64 ct → q cr cM ct = true → post r M tl) {M : MM} {tl : Int64} {v1 : Int32} {v2 : Int32} {v3 : Int32} {cM ct cv1 cv2 cv3 : Nat} (hM : M = dM cM) (ht : tl = i64 ct) (hv1 : v1 = nI cv1) (hv2 : v2 = nI cv2) (hv3 : v3 = nI cv3) (h : epX11_sheet q  cM ct cv1 cv2 cv3 = true) : wpX11_sheet post  M tl v1 v2 v3 := by
  unfold wpX11_sheet
  unfold epX11_sheet at h
  refine spX11_isSheet (fun r3 M1 t2 cr3 cM1 ct2 hr3 hM1 ht2 h => ?_) hM ht hv1 hv2 h
  refine e_ite (c_eq hr3 (rfl : (0 : Int32) = nI 0)) h (fun h => ?_) (fun h => ?_)
  · exact hq _ _ _ _ _ _ lm1 hM1 ht2 h
  · refine e_ite (c_le hv3 (rfl : (40 : Int32) = nI 40)) h (fun h => ?_) (fun h => ?_)
    · refine e_ite (c_le (rfl : (0 : Int32) = nI 0) hv3) h (fun h => ?_) (fun h => ?_)
      · refine e_and (k_in hv1 (r_al (rfl : (105 : Nat) = 105))) h (fun h => ?_)
        refine e_wr h hM1 (rfl : (105 : Nat) = 105) (r_nat hv1) hv2 (fun M5 cM5 hM5 h => ?_)
        refine e_and (k_in hv1 (r_al (rfl : (106 : Nat) = 106))) h (fun h => ?_)
        refine e_wr h hM5 (rfl : (106 : Nat) = 106) (r_nat hv1) hv3 (fun M7 cM7 hM7 h => ?_)
        exact ⟨5000, sX11_sheet_40 hq  5000 _ _ _ _ _ _ _ _ hM7 ht2 hv1 (rfl : (0 : Int32) = nI 0) h⟩
      · exact hq _ _ _ _ _ _ lm14 hM1 ht2 h
    · exact hq _ _ _ _ _ _ lm1 hM1 ht2 h
noncomputable def eX11_lay_85 (q : Nat → Nat → Nat → Bool) (cM ct cs1 cs2 : Nat) : Bool :=
  (@Bool.rec (fun _ => Bool) false (wrB (fun cM2 => (q 1 cM2 ct)) cM 107 (tN cs1) cs2) (inN cs1 (alF 107)))
set_option maxHeartbeats 4000000 in
set_option maxRecDepth 20000 in
theorem sX11_lay_85 {post : Int32 → MM → Int64 → Prop} {q : Nat → Nat → Nat → Bool} (hq : ∀ (r : Int32) (M : MM) (tl : Int64) (cr cM ct : Nat), r = nI cr → M = dM cM → tl = i64 ct → q cr cM ct = true → post r M tl) {M : MM} {tl : Int64} {s1 : Int32} {s2 : Int32} {cM ct cs1 cs2 : Nat} (hM : M = dM cM) (ht : tl = i64 ct) (hs1 : s1 = nI cs1) (hs2 : s2 = nI cs2) (h : eX11_lay_85 q  cM ct cs1 cs2 = true) : wX11_lay_85 post  M tl s1 s2 := by
  unfold wX11_lay_85
  unfold eX11_lay_85 at h
  refine e_and (k_in hs1 (r_al (rfl : (107 : Nat) = 107))) h (fun h => ?_)
  refine e_wr h hM (rfl : (107 : Nat) = 107) (r_nat hs1) hs2 (fun M2 cM2 hM2 h => ?_)
  exact hq _ _ _ _ _ _ (rfl : (1 : Int32) = nI 1) hM2 ht h
noncomputable def epX11_lay (q : Nat → Nat → Nat → Bool) (cM ct cv1 cv2 cv3 : Nat) : Bool :=
  (epX11_isSheet (fun cr3 cM1 ct2 => (@Bool.rec (fun _ => Bool) (@Bool.rec (fun _ => Bool) false (@Bool.rec (fun _ => Bool) (@Bool.rec (fun _ => Bool) false (epX11_in (fun cr8 cM6 ct7 => (@Bool.rec (fun _ => Bool) (@Bool.rec (fun _ => Bool) false (@Bool.rec (fun _ => Bool) (@Bool.rec (fun _ => Bool) false (@Bool.rec (fun _ => Bool) (eX11_lay_85 q  cM6 ct7 (aN (mN 40 cv1) cv2) cv3) (eX11_lay_85 q  cM6 ct7 (aN (mN 40 cv1) cv2) (b1 f_i16 cv3)) (eqN (rd cM6 105 (tN cv1)) 1)) (inN cv1 (alF 105))) (eX11_lay_85 q  cM6 ct7 (aN (mN 40 cv1) cv2) (b1 f_i8 cv3)) (eqN (rd cM6 105 (tN cv1)) 0)) (inN cv1 (alF 105))) (q 4294967284 cM6 ct7) (eqN cr8 0))) cM1 ct2 (xN cv2) 0 (xN (sN (rd cM1 106 (tN cv1)) 1))) (inN cv1 (alF 106))) (q 4294967285 cM1 ct2) (eqN (rd cM1 105 (tN cv1)) 4294967292)) (inN cv1 (alF 105))) (q 4294967295 cM1 ct2) (eqN cr3 0))) cM ct cv1 0)
set_option maxHeartbeats 4000000 in
set_option maxRecDepth 20000 in
theorem spX11_lay {post : Int32 → MM → Int64 → Prop} {q : Nat → Nat → Nat → Bool} (hq : ∀ (r : Int32) (M : MM) (tl : Int64) (cr cM ct : Nat), r = nI cr → M = dM cM → tl = i64 ct → q cr cM ct = true → post r M tl) {M : MM} {tl : Int64} {v1 : Int32} {v2 : Int32} {v3 : Int32} {cM ct cv1 cv2 cv3 : Nat} (hM : M = dM cM) (ht : tl = i64 ct) (hv1 : v1 = nI cv1) (hv2 : v2 = nI cv2) (hv3 : v3 = nI cv3) (h : epX11_lay q  cM ct cv1 cv2 cv3 = true) : wpX11_lay post  M tl v1 v2 v3 := by
  unfold wpX11_lay
  unfold epX11_lay at h
  refine spX11_isSheet (fun r3 M1 t2 cr3 cM1 ct2 hr3 hM1 ht2 h => ?_) hM ht hv1 (rfl : (0 : Int32) = nI 0) h
  refine e_ite (c_eq hr3 (rfl : (0 : Int32) = nI 0)) h (fun h => ?_) (fun h => ?_)
  · exact hq _ _ _ _ _ _ lm1 hM1 ht2 h
  · refine e_and (k_in hv1 (r_al (rfl : (105 : Nat) = 105))) h (fun h => ?_)
    refine e_ite (c_eq (r_rd hM1 (rfl : (105 : Nat) = 105) (r_nat hv1)) lm4) h (fun h => ?_) (fun h => ?_)
    · exact hq _ _ _ _ _ _ lm11 hM1 ht2 h
    · refine e_and (k_in hv1 (r_al (rfl : (106 : Nat) = 106))) h (fun h => ?_)
      refine spX11_in (fun r8 M6 t7 cr8 cM6 ct7 hr8 hM6 ht7 h => ?_) hM1 ht2 (r_ext hv2) (rfl : (0 : Int64) = i64 0) (r_ext (r_sub (r_rd hM1 (rfl : (106 : Nat) = 106) (r_nat hv1)) (rfl : (1 : Int32) = nI 1))) h
      refine e_ite (c_eq hr8 (rfl : (0 : Int32) = nI 0)) h (fun h => ?_) (fun h => ?_)
      · exact hq _ _ _ _ _ _ lm12 hM6 ht7 h
      · refine e_and (k_in hv1 (r_al (rfl : (105 : Nat) = 105))) h (fun h => ?_)
        refine e_ite (c_eq (r_rd hM6 (rfl : (105 : Nat) = 105) (r_nat hv1)) (rfl : (0 : Int32) = nI 0)) h (fun h => ?_) (fun h => ?_)
        · exact sX11_lay_85 hq  hM6 ht7 (r_add (r_mul (rfl : (40 : Int32) = nI 40) hv1) hv2) (r_b1 f_i8 hv3) h
        · refine e_and (k_in hv1 (r_al (rfl : (105 : Nat) = 105))) h (fun h => ?_)
          refine e_ite (c_eq (r_rd hM6 (rfl : (105 : Nat) = 105) (r_nat hv1)) (rfl : (1 : Int32) = nI 1)) h (fun h => ?_) (fun h => ?_)
          · exact sX11_lay_85 hq  hM6 ht7 (r_add (r_mul (rfl : (40 : Int32) = nI 40) hv1) hv2) (r_b1 f_i16 hv3) h
          · exact sX11_lay_85 hq  hM6 ht7 (r_add (r_mul (rfl : (40 : Int32) = nI 40) hv1) hv2) hv3 h
noncomputable def eX11_read_126 (q : Nat → Nat → Nat → Bool) (cbk32 : Nat → Nat → Nat → Nat → Nat → Nat → Nat → Nat → Nat → Bool) (cbk47 : Nat → Nat → Nat → Nat → Nat → Nat → Nat → Nat → Nat → Nat → Bool) (cM ct cv1 cv2 cv3 cv4 cv6 cv7 cv8 cs0 : Nat) : Bool :=
  (cbk47 cM ct cv1 cv2 cv3 cv4 cs0 cv6 cv7 (aN cv8 1))
set_option maxHeartbeats 4000000 in
set_option maxRecDepth 20000 in
theorem sX11_read_126 {post : Int32 → MM → Int64 → Prop} {q : Nat → Nat → Nat → Bool} (hq : ∀ (r : Int32) (M : MM) (tl : Int64) (cr cM ct : Nat), r = nI cr → M = dM cM → tl = i64 ct → q cr cM ct = true → post r M tl) {bk32 : MM → Int64 → Int32 → Int32 → Int32 → Int32 → Int32 → Int32 → Int32 → Prop} {cbk32 : Nat → Nat → Nat → Nat → Nat → Nat → Nat → Nat → Nat → Bool} (hbk32 : ∀ (M : MM) (tl : Int64) (x0 : Int32) (x1 : Int32) (x2 : Int32) (x3 : Int32) (x4 : Int32) (x5 : Int32) (x6 : Int32) (cM ct cx0 cx1 cx2 cx3 cx4 cx5 cx6 : Nat), M = dM cM → tl = i64 ct → x0 = nI cx0 → x1 = nI cx1 → x2 = nI cx2 → x3 = nI cx3 → x4 = nI cx4 → x5 = nI cx5 → x6 = nI cx6 → cbk32 cM ct cx0 cx1 cx2 cx3 cx4 cx5 cx6 = true → bk32 M tl x0 x1 x2 x3 x4 x5 x6) {bk47 : MM → Int64 → Int32 → Int32 → Int32 → Int32 → Int32 → Int32 → Int32 → Int32 → Prop} {cbk47 : Nat → Nat → Nat → Nat → Nat → Nat → Nat → Nat → Nat → Nat → Bool} (hbk47 : ∀ (M : MM) (tl : Int64) (x0 : Int32) (x1 : Int32) (x2 : Int32) (x3 : Int32) (x4 : Int32) (x5 : Int32) (x6 : Int32) (x7 : Int32) (cM ct cx0 cx1 cx2 cx3 cx4 cx5 cx6 cx7 : Nat), M = dM cM → tl = i64 ct → x0 = nI cx0 → x1 = nI cx1 → x2 = nI cx2 → x3 = nI cx3 → x4 = nI cx4 → x5 = nI cx5 → x6 = nI cx6 → x7 = nI cx7 → cbk47 cM ct cx0 cx1 cx2 cx3 cx4 cx5 cx6 cx7 = true → bk47 M tl x0 x1 x2 x3 x4 x5 x6 x7) {M : MM} {tl : Int64} {v1 : Int32} {v2 : Int32} {v3 : Int32} {v4 : Int32} {v6 : Int32} {v7 : Int32} {v8 : Int32} {s0 : Int32} {cM ct cv1 cv2 cv3 cv4 cv6 cv7 cv8 cs0 : Nat} (hM : M = dM cM) (ht : tl = i64 ct) (hv1 : v1 = nI cv1) (hv2 : v2 = nI cv2) (hv3 : v3 = nI cv3) (hv4 : v4 = nI cv4) (hv6 : v6 = nI cv6) (hv7 : v7 = nI cv7) (hv8 : v8 = nI cv8) (hs0 : s0 = nI cs0) (h : eX11_read_126 q cbk32 cbk47 cM ct cv1 cv2 cv3 cv4 cv6 cv7 cv8 cs0 = true) : wX11_read_126 post bk32 bk47 M tl v1 v2 v3 v4 v6 v7 v8 s0 := by
  unfold wX11_read_126
  unfold eX11_read_126 at h
  exact hbk47 _ _ _ _ _ _ _ _ _ _ _ _ _ _ _ _ _ _ _ _ hM ht hv1 hv2 hv3 hv4 hs0 hv6 hv7 (r_add hv8 (rfl : (1 : Int32) = nI 1)) h
noncomputable def eX11_read_121 (q : Nat → Nat → Nat → Bool) (cbk32 : Nat → Nat → Nat → Nat → Nat → Nat → Nat → Nat → Nat → Bool) (cbk47 : Nat → Nat → Nat → Nat → Nat → Nat → Nat → Nat → Nat → Nat → Bool) (cM ct cv1 cv2 cv3 cv4 cv6 cv7 cv8 : Nat) : Bool :=
  (eX11_read_126 q cbk32 cbk47 cM ct cv1 cv2 cv3 cv4 cv6 cv7 cv8 2)
set_option maxHeartbeats 4000000 in
set_option maxRecDepth 20000 in
theorem sX11_read_121 {post : Int32 → MM → Int64 → Prop} {q : Nat → Nat → Nat → Bool} (hq : ∀ (r : Int32) (M : MM) (tl : Int64) (cr cM ct : Nat), r = nI cr → M = dM cM → tl = i64 ct → q cr cM ct = true → post r M tl) {bk32 : MM → Int64 → Int32 → Int32 → Int32 → Int32 → Int32 → Int32 → Int32 → Prop} {cbk32 : Nat → Nat → Nat → Nat → Nat → Nat → Nat → Nat → Nat → Bool} (hbk32 : ∀ (M : MM) (tl : Int64) (x0 : Int32) (x1 : Int32) (x2 : Int32) (x3 : Int32) (x4 : Int32) (x5 : Int32) (x6 : Int32) (cM ct cx0 cx1 cx2 cx3 cx4 cx5 cx6 : Nat), M = dM cM → tl = i64 ct → x0 = nI cx0 → x1 = nI cx1 → x2 = nI cx2 → x3 = nI cx3 → x4 = nI cx4 → x5 = nI cx5 → x6 = nI cx6 → cbk32 cM ct cx0 cx1 cx2 cx3 cx4 cx5 cx6 = true → bk32 M tl x0 x1 x2 x3 x4 x5 x6) {bk47 : MM → Int64 → Int32 → Int32 → Int32 → Int32 → Int32 → Int32 → Int32 → Int32 → Prop} {cbk47 : Nat → Nat → Nat → Nat → Nat → Nat → Nat → Nat → Nat → Nat → Bool} (hbk47 : ∀ (M : MM) (tl : Int64) (x0 : Int32) (x1 : Int32) (x2 : Int32) (x3 : Int32) (x4 : Int32) (x5 : Int32) (x6 : Int32) (x7 : Int32) (cM ct cx0 cx1 cx2 cx3 cx4 cx5 cx6 cx7 : Nat), M = dM cM → tl = i64 ct → x0 = nI cx0 → x1 = nI cx1 → x2 = nI cx2 → x3 = nI cx3 → x4 = nI cx4 → x5 = nI cx5 → x6 = nI cx6 → x7 = nI cx7 → cbk47 cM ct cx0 cx1 cx2 cx3 cx4 cx5 cx6 cx7 = true → bk47 M tl x0 x1 x2 x3 x4 x5 x6 x7) {M : MM} {tl : Int64} {v1 : Int32} {v2 : Int32} {v3 : Int32} {v4 : Int32} {v6 : Int32} {v7 : Int32} {v8 : Int32} {cM ct cv1 cv2 cv3 cv4 cv6 cv7 cv8 : Nat} (hM : M = dM cM) (ht : tl = i64 ct) (hv1 : v1 = nI cv1) (hv2 : v2 = nI cv2) (hv3 : v3 = nI cv3) (hv4 : v4 = nI cv4) (hv6 : v6 = nI cv6) (hv7 : v7 = nI cv7) (hv8 : v8 = nI cv8) (h : eX11_read_121 q cbk32 cbk47 cM ct cv1 cv2 cv3 cv4 cv6 cv7 cv8 = true) : wX11_read_121 post bk32 bk47 M tl v1 v2 v3 v4 v6 v7 v8 := by
  unfold wX11_read_121
  unfold eX11_read_121 at h
  exact sX11_read_126 hq hbk32 hbk47 hM ht hv1 hv2 hv3 hv4 hv6 hv7 hv8 (rfl : (2 : Int32) = nI 2) h
noncomputable def eX11_read_199 (q : Nat → Nat → Nat → Bool) (cbk32 : Nat → Nat → Nat → Nat → Nat → Nat → Nat → Nat → Nat → Bool) (cM ct cv1 cv2 cv3 cv4 cv5 cv6 cv7 : Nat) : Bool :=
  (cbk32 cM ct cv1 cv2 cv3 cv4 cv5 cv6 (aN cv7 1))
set_option maxHeartbeats 4000000 in
set_option maxRecDepth 20000 in
theorem sX11_read_199 {post : Int32 → MM → Int64 → Prop} {q : Nat → Nat → Nat → Bool} (hq : ∀ (r : Int32) (M : MM) (tl : Int64) (cr cM ct : Nat), r = nI cr → M = dM cM → tl = i64 ct → q cr cM ct = true → post r M tl) {bk32 : MM → Int64 → Int32 → Int32 → Int32 → Int32 → Int32 → Int32 → Int32 → Prop} {cbk32 : Nat → Nat → Nat → Nat → Nat → Nat → Nat → Nat → Nat → Bool} (hbk32 : ∀ (M : MM) (tl : Int64) (x0 : Int32) (x1 : Int32) (x2 : Int32) (x3 : Int32) (x4 : Int32) (x5 : Int32) (x6 : Int32) (cM ct cx0 cx1 cx2 cx3 cx4 cx5 cx6 : Nat), M = dM cM → tl = i64 ct → x0 = nI cx0 → x1 = nI cx1 → x2 = nI cx2 → x3 = nI cx3 → x4 = nI cx4 → x5 = nI cx5 → x6 = nI cx6 → cbk32 cM ct cx0 cx1 cx2 cx3 cx4 cx5 cx6 = true → bk32 M tl x0 x1 x2 x3 x4 x5 x6) {M : MM} {tl : Int64} {v1 : Int32} {v2 : Int32} {v3 : Int32} {v4 : Int32} {v5 : Int32} {v6 : Int32} {v7 : Int32} {cM ct cv1 cv2 cv3 cv4 cv5 cv6 cv7 : Nat} (hM : M = dM cM) (ht : tl = i64 ct) (hv1 : v1 = nI cv1) (hv2 : v2 = nI cv2) (hv3 : v3 = nI cv3) (hv4 : v4 = nI cv4) (hv5 : v5 = nI cv5) (hv6 : v6 = nI cv6) (hv7 : v7 = nI cv7) (h : eX11_read_199 q cbk32 cM ct cv1 cv2 cv3 cv4 cv5 cv6 cv7 = true) : wX11_read_199 post bk32 M tl v1 v2 v3 v4 v5 v6 v7 := by
  unfold wX11_read_199
  unfold eX11_read_199 at h
  exact hbk32 _ _ _ _ _ _ _ _ _ _ _ _ _ _ _ _ _ _ hM ht hv1 hv2 hv3 hv4 hv5 hv6 (r_add hv7 (rfl : (1 : Int32) = nI 1)) h
noncomputable def eX11_read_134 (q : Nat → Nat → Nat → Bool) (cbk32 : Nat → Nat → Nat → Nat → Nat → Nat → Nat → Nat → Nat → Bool) (cM ct cv1 cv2 cv3 cv4 cv5 cv6 cv7 : Nat) : Bool :=
  (@Bool.rec (fun _ => Bool) (eX11_read_199 q cbk32 cM ct cv1 cv2 cv3 cv4 cv5 cv6 cv7) (@Bool.rec (fun _ => Bool) false (@Bool.rec (fun _ => Bool) false (epX11_isLot (fun cr5 cM3 ct4 => (@Bool.rec (fun _ => Bool) (@Bool.rec (fun _ => Bool) false (epX11_isThing (fun cr9 cM7 ct8 => (@Bool.rec (fun _ => Bool) (eX11_read_199 q cbk32 cM7 ct8 cv1 cv2 cv3 cv4 cv5 (aN cv6 1) cv7) (q (sN 4294967276 cv7) cM7 ct8) (eqN cr9 0))) cM3 ct4 (rd cM3 107 (tN (aN (aN (aN (mN 40 cv1) cv3) (mN 3 cv7)) 2)))) (inN (aN (aN (aN (mN 40 cv1) cv3) (mN 3 cv7)) 2) (alF 107))) (q (sN 4294967276 cv7) cM3 ct4) (eqN cr5 0))) cM ct (rd cM 107 (tN (aN (aN (mN 40 cv1) cv3) (mN 3 cv7)))) (rd cM 107 (tN (aN (aN (aN (mN 40 cv1) cv3) (mN 3 cv7)) 1)))) (inN (aN (aN (aN (mN 40 cv1) cv3) (mN 3 cv7)) 1) (alF 107))) (inN (aN (aN (mN 40 cv1) cv3) (mN 3 cv7)) (alF 107))) (eqN cv5 0))
set_option maxHeartbeats 4000000 in
set_option maxRecDepth 20000 in
theorem sX11_read_134 {post : Int32 → MM → Int64 → Prop} {q : Nat → Nat → Nat → Bool} (hq : ∀ (r : Int32) (M : MM) (tl : Int64) (cr cM ct : Nat), r = nI cr → M = dM cM → tl = i64 ct → q cr cM ct = true → post r M tl) {bk32 : MM → Int64 → Int32 → Int32 → Int32 → Int32 → Int32 → Int32 → Int32 → Prop} {cbk32 : Nat → Nat → Nat → Nat → Nat → Nat → Nat → Nat → Nat → Bool} (hbk32 : ∀ (M : MM) (tl : Int64) (x0 : Int32) (x1 : Int32) (x2 : Int32) (x3 : Int32) (x4 : Int32) (x5 : Int32) (x6 : Int32) (cM ct cx0 cx1 cx2 cx3 cx4 cx5 cx6 : Nat), M = dM cM → tl = i64 ct → x0 = nI cx0 → x1 = nI cx1 → x2 = nI cx2 → x3 = nI cx3 → x4 = nI cx4 → x5 = nI cx5 → x6 = nI cx6 → cbk32 cM ct cx0 cx1 cx2 cx3 cx4 cx5 cx6 = true → bk32 M tl x0 x1 x2 x3 x4 x5 x6) {M : MM} {tl : Int64} {v1 : Int32} {v2 : Int32} {v3 : Int32} {v4 : Int32} {v5 : Int32} {v6 : Int32} {v7 : Int32} {cM ct cv1 cv2 cv3 cv4 cv5 cv6 cv7 : Nat} (hM : M = dM cM) (ht : tl = i64 ct) (hv1 : v1 = nI cv1) (hv2 : v2 = nI cv2) (hv3 : v3 = nI cv3) (hv4 : v4 = nI cv4) (hv5 : v5 = nI cv5) (hv6 : v6 = nI cv6) (hv7 : v7 = nI cv7) (h : eX11_read_134 q cbk32 cM ct cv1 cv2 cv3 cv4 cv5 cv6 cv7 = true) : wX11_read_134 post bk32 M tl v1 v2 v3 v4 v5 v6 v7 := by
  unfold wX11_read_134
  unfold eX11_read_134 at h
  refine e_ite (c_eq hv5 (rfl : (0 : Int32) = nI 0)) h (fun h => ?_) (fun h => ?_)
  · refine e_and (k_in (r_add (r_add (r_mul (rfl : (40 : Int32) = nI 40) hv1) hv3) (r_mul (rfl : (3 : Int32) = nI 3) hv7)) (r_al (rfl : (107 : Nat) = 107))) h (fun h => ?_)
    refine e_and (k_in (r_add (r_add (r_add (r_mul (rfl : (40 : Int32) = nI 40) hv1) hv3) (r_mul (rfl : (3 : Int32) = nI 3) hv7)) (rfl : (1 : Int32) = nI 1)) (r_al (rfl : (107 : Nat) = 107))) h (fun h => ?_)
    refine spX11_isLot (fun r5 M3 t4 cr5 cM3 ct4 hr5 hM3 ht4 h => ?_) hM ht (r_rd hM (rfl : (107 : Nat) = 107) (r_nat (r_add (r_add (r_mul (rfl : (40 : Int32) = nI 40) hv1) hv3) (r_mul (rfl : (3 : Int32) = nI 3) hv7)))) (r_rd hM (rfl : (107 : Nat) = 107) (r_nat (r_add (r_add (r_add (r_mul (rfl : (40 : Int32) = nI 40) hv1) hv3) (r_mul (rfl : (3 : Int32) = nI 3) hv7)) (rfl : (1 : Int32) = nI 1)))) h
    refine e_ite (c_eq hr5 (rfl : (0 : Int32) = nI 0)) h (fun h => ?_) (fun h => ?_)
    · exact hq _ _ _ _ _ _ (r_sub lm20 hv7) hM3 ht4 h
    · refine e_and (k_in (r_add (r_add (r_add (r_mul (rfl : (40 : Int32) = nI 40) hv1) hv3) (r_mul (rfl : (3 : Int32) = nI 3) hv7)) (rfl : (2 : Int32) = nI 2)) (r_al (rfl : (107 : Nat) = 107))) h (fun h => ?_)
      refine spX11_isThing (fun r9 M7 t8 cr9 cM7 ct8 hr9 hM7 ht8 h => ?_) hM3 ht4 (r_rd hM3 (rfl : (107 : Nat) = 107) (r_nat (r_add (r_add (r_add (r_mul (rfl : (40 : Int32) = nI 40) hv1) hv3) (r_mul (rfl : (3 : Int32) = nI 3) hv7)) (rfl : (2 : Int32) = nI 2)))) h
      refine e_ite (c_eq hr9 (rfl : (0 : Int32) = nI 0)) h (fun h => ?_) (fun h => ?_)
      · exact hq _ _ _ _ _ _ (r_sub lm20 hv7) hM7 ht8 h
      · exact sX11_read_199 hq hbk32 hM7 ht8 hv1 hv2 hv3 hv4 hv5 (r_add hv6 (rfl : (1 : Int32) = nI 1)) hv7 h
  · exact sX11_read_199 hq hbk32 hM ht hv1 hv2 hv3 hv4 hv5 hv6 hv7 h
noncomputable def eX11_read_47 (q : Nat → Nat → Nat → Bool) (cbk32 : Nat → Nat → Nat → Nat → Nat → Nat → Nat → Nat → Nat → Bool) (n : Nat) : Nat → Nat → Nat → Nat → Nat → Nat → Nat → Nat → Nat → Nat → Bool :=
  @Nat.rec (fun _ => Nat → Nat → Nat → Nat → Nat → Nat → Nat → Nat → Nat → Nat → Bool) (fun _ _ _ _ _ _ _ _ _ _ => false) (fun _ ih cM ct cv1 cv2 cv3 cv4 cv5 cv6 cv7 cv8 => (@Bool.rec (fun _ => Bool) (@Bool.rec (fun _ => Bool) (eX11_read_134 q cbk32 cM ct cv1 cv2 cv3 cv4 cv5 cv6 cv7) (@Bool.rec (fun _ => Bool) false (@Bool.rec (fun _ => Bool) (@Bool.rec (fun _ => Bool) false (@Bool.rec (fun _ => Bool) (eX11_read_126 q cbk32 ih cM ct cv1 cv2 cv3 cv4 cv6 cv7 cv8 3) (@Bool.rec (fun _ => Bool) (@Bool.rec (fun _ => Bool) false (@Bool.rec (fun _ => Bool) (eX11_read_121 q cbk32 ih cM ct cv1 cv2 cv3 cv4 cv6 cv7 cv8) (eX11_read_126 q cbk32 ih cM ct cv1 cv2 cv3 cv4 cv6 cv7 cv8 0) (ltN (lcN (b64 f_ladd (b64 f_ladd (xN cv3) (xN (mN 3 cv7))) (xN cv8)) (xN (rd cM 106 (tN cv1)))) 0)) (inN cv1 (alF 106))) (eX11_read_121 q cbk32 ih cM ct cv1 cv2 cv3 cv4 cv6 cv7 cv8) (ltN (lcN (b64 f_ladd (b64 f_ladd (xN cv3) (xN (mN 3 cv7))) (xN cv8)) 0) 0)) (eqN (rd cM 105 (tN cv1)) cv2)) (inN cv1 (alF 105))) (eX11_read_126 q cbk32 ih cM ct cv1 cv2 cv3 cv4 cv6 cv7 cv8 1) (eqN (rd cM 105 (tN cv1)) 4294967292)) (inN cv1 (alF 105))) (eqN cv5 0)) (eX11_read_134 q cbk32 cM ct cv1 cv2 cv3 cv4 cv5 cv6 cv7) (leN 3 cv8))) n
set_option maxHeartbeats 4000000 in
set_option maxRecDepth 20000 in
theorem sX11_read_47 {post : Int32 → MM → Int64 → Prop} {q : Nat → Nat → Nat → Bool} (hq : ∀ (r : Int32) (M : MM) (tl : Int64) (cr cM ct : Nat), r = nI cr → M = dM cM → tl = i64 ct → q cr cM ct = true → post r M tl) {bk32 : MM → Int64 → Int32 → Int32 → Int32 → Int32 → Int32 → Int32 → Int32 → Prop} {cbk32 : Nat → Nat → Nat → Nat → Nat → Nat → Nat → Nat → Nat → Bool} (hbk32 : ∀ (M : MM) (tl : Int64) (x0 : Int32) (x1 : Int32) (x2 : Int32) (x3 : Int32) (x4 : Int32) (x5 : Int32) (x6 : Int32) (cM ct cx0 cx1 cx2 cx3 cx4 cx5 cx6 : Nat), M = dM cM → tl = i64 ct → x0 = nI cx0 → x1 = nI cx1 → x2 = nI cx2 → x3 = nI cx3 → x4 = nI cx4 → x5 = nI cx5 → x6 = nI cx6 → cbk32 cM ct cx0 cx1 cx2 cx3 cx4 cx5 cx6 = true → bk32 M tl x0 x1 x2 x3 x4 x5 x6) : ∀ (n : Nat) (M : MM) (tl : Int64) (v1 : Int32) (v2 : Int32) (v3 : Int32) (v4 : Int32) (v5 : Int32) (v6 : Int32) (v7 : Int32) (v8 : Int32) (cM ct cv1 cv2 cv3 cv4 cv5 cv6 cv7 cv8 : Nat), M = dM cM → tl = i64 ct → v1 = nI cv1 → v2 = nI cv2 → v3 = nI cv3 → v4 = nI cv4 → v5 = nI cv5 → v6 = nI cv6 → v7 = nI cv7 → v8 = nI cv8 → eX11_read_47 q cbk32 n cM ct cv1 cv2 cv3 cv4 cv5 cv6 cv7 cv8 = true → wX11_read_47 post bk32 n M tl v1 v2 v3 v4 v5 v6 v7 v8 := by
  intro n
  induction n with
  | zero => intro M tl v1 v2 v3 v4 v5 v6 v7 v8 cM ct cv1 cv2 cv3 cv4 cv5 cv6 cv7 cv8 hM ht hv1 hv2 hv3 hv4 hv5 hv6 hv7 hv8 h; exact Bool.noConfusion h
  | succ n ih =>
    intro M tl v1 v2 v3 v4 v5 v6 v7 v8 cM ct cv1 cv2 cv3 cv4 cv5 cv6 cv7 cv8 hM ht hv1 hv2 hv3 hv4 hv5 hv6 hv7 hv8 h
    unfold wX11_read_47
    refine e_ite (c_le (rfl : (3 : Int32) = nI 3) hv8) h (fun h => ?_) (fun h => ?_)
    · exact sX11_read_134 hq hbk32 hM ht hv1 hv2 hv3 hv4 hv5 hv6 hv7 h
    · refine e_ite (c_eq hv5 (rfl : (0 : Int32) = nI 0)) h (fun h => ?_) (fun h => ?_)
      · refine e_and (k_in hv1 (r_al (rfl : (105 : Nat) = 105))) h (fun h => ?_)
        refine e_ite (c_eq (r_rd hM (rfl : (105 : Nat) = 105) (r_nat hv1)) lm4) h (fun h => ?_) (fun h => ?_)
        · exact sX11_read_126 hq hbk32 ih hM ht hv1 hv2 hv3 hv4 hv6 hv7 hv8 (rfl : (1 : Int32) = nI 1) h
        · refine e_and (k_in hv1 (r_al (rfl : (105 : Nat) = 105))) h (fun h => ?_)
          refine e_ite (c_eq (r_rd hM (rfl : (105 : Nat) = 105) (r_nat hv1)) hv2) h (fun h => ?_) (fun h => ?_)
          · refine e_ite (c_lt (r_cmp (r_b64 f_ladd (r_b64 f_ladd (r_ext hv3) (r_ext (r_mul (rfl : (3 : Int32) = nI 3) hv7))) (r_ext hv8)) (rfl : (0 : Int64) = i64 0)) (rfl : (0 : Int32) = nI 0)) h (fun h => ?_) (fun h => ?_)
            · exact sX11_read_121 hq hbk32 ih hM ht hv1 hv2 hv3 hv4 hv6 hv7 hv8 h
            · refine e_and (k_in hv1 (r_al (rfl : (106 : Nat) = 106))) h (fun h => ?_)
              refine e_ite (c_lt (r_cmp (r_b64 f_ladd (r_b64 f_ladd (r_ext hv3) (r_ext (r_mul (rfl : (3 : Int32) = nI 3) hv7))) (r_ext hv8)) (r_ext (r_rd hM (rfl : (106 : Nat) = 106) (r_nat hv1)))) (rfl : (0 : Int32) = nI 0)) h (fun h => ?_) (fun h => ?_)
              · exact sX11_read_126 hq hbk32 ih hM ht hv1 hv2 hv3 hv4 hv6 hv7 hv8 (rfl : (0 : Int32) = nI 0) h
              · exact sX11_read_121 hq hbk32 ih hM ht hv1 hv2 hv3 hv4 hv6 hv7 hv8 h
          · exact sX11_read_126 hq hbk32 ih hM ht hv1 hv2 hv3 hv4 hv6 hv7 hv8 (rfl : (3 : Int32) = nI 3) h
      · exact sX11_read_134 hq hbk32 hM ht hv1 hv2 hv3 hv4 hv5 hv6 hv7 h
noncomputable def eX11_read_214 (q : Nat → Nat → Nat → Bool) (n : Nat) : Nat → Nat → Nat → Nat → Nat → Nat → Bool :=
  @Nat.rec (fun _ => Nat → Nat → Nat → Nat → Nat → Nat → Bool) (fun _ _ _ _ _ _ => false) (fun _ ih cM ct cv1 cv3 cv6 cv7 => (@Bool.rec (fun _ => Bool) (@Bool.rec (fun _ => Bool) false (@Bool.rec (fun _ => Bool) false (@Bool.rec (fun _ => Bool) false (@Bool.rec (fun _ => Bool) false (wrB (fun cM5 => (ih cM5 ct cv1 cv3 cv6 (aN cv7 1))) cM 82 (tN (aN (mN 8 (rd cM 107 (tN (aN (aN (mN 40 cv1) cv3) (mN 3 cv7))))) (rd cM 107 (tN (aN (aN (aN (mN 40 cv1) cv3) (mN 3 cv7)) 1))))) (rd cM 107 (tN (aN (aN (aN (mN 40 cv1) cv3) (mN 3 cv7)) 2)))) (inN (aN (mN 8 (rd cM 107 (tN (aN (aN (mN 40 cv1) cv3) (mN 3 cv7))))) (rd cM 107 (tN (aN (aN (aN (mN 40 cv1) cv3) (mN 3 cv7)) 1)))) (alF 82))) (inN (aN (aN (aN (mN 40 cv1) cv3) (mN 3 cv7)) 2) (alF 107))) (inN (aN (aN (aN (mN 40 cv1) cv3) (mN 3 cv7)) 1) (alF 107))) (inN (aN (aN (mN 40 cv1) cv3) (mN 3 cv7)) (alF 107))) (q cv6 cM ct) (leN cv6 cv7))) n
set_option maxHeartbeats 4000000 in
set_option maxRecDepth 20000 in
theorem sX11_read_214 {post : Int32 → MM → Int64 → Prop} {q : Nat → Nat → Nat → Bool} (hq : ∀ (r : Int32) (M : MM) (tl : Int64) (cr cM ct : Nat), r = nI cr → M = dM cM → tl = i64 ct → q cr cM ct = true → post r M tl) : ∀ (n : Nat) (M : MM) (tl : Int64) (v1 : Int32) (v3 : Int32) (v6 : Int32) (v7 : Int32) (cM ct cv1 cv3 cv6 cv7 : Nat), M = dM cM → tl = i64 ct → v1 = nI cv1 → v3 = nI cv3 → v6 = nI cv6 → v7 = nI cv7 → eX11_read_214 q  n cM ct cv1 cv3 cv6 cv7 = true → wX11_read_214 post  n M tl v1 v3 v6 v7 := by
  intro n
  induction n with
  | zero => intro M tl v1 v3 v6 v7 cM ct cv1 cv3 cv6 cv7 hM ht hv1 hv3 hv6 hv7 h; exact Bool.noConfusion h
  | succ n ih =>
    intro M tl v1 v3 v6 v7 cM ct cv1 cv3 cv6 cv7 hM ht hv1 hv3 hv6 hv7 h
    unfold wX11_read_214
    refine e_ite (c_le hv6 hv7) h (fun h => ?_) (fun h => ?_)
    · exact hq _ _ _ _ _ _ hv6 hM ht h
    · refine e_and (k_in (r_add (r_add (r_mul (rfl : (40 : Int32) = nI 40) hv1) hv3) (r_mul (rfl : (3 : Int32) = nI 3) hv7)) (r_al (rfl : (107 : Nat) = 107))) h (fun h => ?_)
      refine e_and (k_in (r_add (r_add (r_add (r_mul (rfl : (40 : Int32) = nI 40) hv1) hv3) (r_mul (rfl : (3 : Int32) = nI 3) hv7)) (rfl : (1 : Int32) = nI 1)) (r_al (rfl : (107 : Nat) = 107))) h (fun h => ?_)
      refine e_and (k_in (r_add (r_add (r_add (r_mul (rfl : (40 : Int32) = nI 40) hv1) hv3) (r_mul (rfl : (3 : Int32) = nI 3) hv7)) (rfl : (2 : Int32) = nI 2)) (r_al (rfl : (107 : Nat) = 107))) h (fun h => ?_)
      refine e_and (k_in (r_add (r_mul (rfl : (8 : Int32) = nI 8) (r_rd hM (rfl : (107 : Nat) = 107) (r_nat (r_add (r_add (r_mul (rfl : (40 : Int32) = nI 40) hv1) hv3) (r_mul (rfl : (3 : Int32) = nI 3) hv7))))) (r_rd hM (rfl : (107 : Nat) = 107) (r_nat (r_add (r_add (r_add (r_mul (rfl : (40 : Int32) = nI 40) hv1) hv3) (r_mul (rfl : (3 : Int32) = nI 3) hv7)) (rfl : (1 : Int32) = nI 1))))) (r_al (rfl : (82 : Nat) = 82))) h (fun h => ?_)
      refine e_wr h hM (rfl : (82 : Nat) = 82) (r_nat (r_add (r_mul (rfl : (8 : Int32) = nI 8) (r_rd hM (rfl : (107 : Nat) = 107) (r_nat (r_add (r_add (r_mul (rfl : (40 : Int32) = nI 40) hv1) hv3) (r_mul (rfl : (3 : Int32) = nI 3) hv7))))) (r_rd hM (rfl : (107 : Nat) = 107) (r_nat (r_add (r_add (r_add (r_mul (rfl : (40 : Int32) = nI 40) hv1) hv3) (r_mul (rfl : (3 : Int32) = nI 3) hv7)) (rfl : (1 : Int32) = nI 1)))))) (r_rd hM (rfl : (107 : Nat) = 107) (r_nat (r_add (r_add (r_add (r_mul (rfl : (40 : Int32) = nI 40) hv1) hv3) (r_mul (rfl : (3 : Int32) = nI 3) hv7)) (rfl : (2 : Int32) = nI 2)))) (fun M5 cM5 hM5 h => ?_)
      exact ih _ _ _ _ _ _ _ _ _ _ _ _ hM5 ht hv1 hv3 hv6 (r_add hv7 (rfl : (1 : Int32) = nI 1)) h
noncomputable def eX11_read_205 (q : Nat → Nat → Nat → Bool) (cM ct cv1 cv3 cv5 cv6 : Nat) : Bool :=
  (wrB (fun cM1 => (eX11_read_214 q  5000 cM1 ct cv1 cv3 cv6 0)) cM 81 48 cv5)
set_option maxHeartbeats 4000000 in
set_option maxRecDepth 20000 in
theorem sX11_read_205 {post : Int32 → MM → Int64 → Prop} {q : Nat → Nat → Nat → Bool} (hq : ∀ (r : Int32) (M : MM) (tl : Int64) (cr cM ct : Nat), r = nI cr → M = dM cM → tl = i64 ct → q cr cM ct = true → post r M tl) {M : MM} {tl : Int64} {v1 : Int32} {v3 : Int32} {v5 : Int32} {v6 : Int32} {cM ct cv1 cv3 cv5 cv6 : Nat} (hM : M = dM cM) (ht : tl = i64 ct) (hv1 : v1 = nI cv1) (hv3 : v3 = nI cv3) (hv5 : v5 = nI cv5) (hv6 : v6 = nI cv6) (h : eX11_read_205 q  cM ct cv1 cv3 cv5 cv6 = true) : wX11_read_205 post  M tl v1 v3 v5 v6 := by
  unfold wX11_read_205
  unfold eX11_read_205 at h
  refine e_wr h hM (rfl : (81 : Nat) = 81) (rfl : (48 : Nat) = 48) hv5 (fun M1 cM1 hM1 h => ?_)
  exact ⟨5000, sX11_read_214 hq  5000 _ _ _ _ _ _ _ _ _ _ _ _ hM1 ht hv1 hv3 hv6 (rfl : (0 : Int32) = nI 0) h⟩
noncomputable def eX11_read_32 (q : Nat → Nat → Nat → Bool) (n : Nat) : Nat → Nat → Nat → Nat → Nat → Nat → Nat → Nat → Nat → Bool :=
  @Nat.rec (fun _ => Nat → Nat → Nat → Nat → Nat → Nat → Nat → Nat → Nat → Bool) (fun _ _ _ _ _ _ _ _ _ => false) (fun _ ih cM ct cv1 cv2 cv3 cv4 cv5 cv6 cv7 => (@Bool.rec (fun _ => Bool) (@Bool.rec (fun _ => Bool) (eX11_read_205 q  cM ct cv1 cv3 cv5 cv6) (eX11_read_47 q ih 5000 cM ct cv1 cv2 cv3 cv4 cv5 cv6 cv7 0) (eqN cv5 0)) (eX11_read_205 q  cM ct cv1 cv3 cv5 cv6) (leN cv4 cv7))) n
set_option maxHeartbeats 4000000 in
set_option maxRecDepth 20000 in
theorem sX11_read_32 {post : Int32 → MM → Int64 → Prop} {q : Nat → Nat → Nat → Bool} (hq : ∀ (r : Int32) (M : MM) (tl : Int64) (cr cM ct : Nat), r = nI cr → M = dM cM → tl = i64 ct → q cr cM ct = true → post r M tl) : ∀ (n : Nat) (M : MM) (tl : Int64) (v1 : Int32) (v2 : Int32) (v3 : Int32) (v4 : Int32) (v5 : Int32) (v6 : Int32) (v7 : Int32) (cM ct cv1 cv2 cv3 cv4 cv5 cv6 cv7 : Nat), M = dM cM → tl = i64 ct → v1 = nI cv1 → v2 = nI cv2 → v3 = nI cv3 → v4 = nI cv4 → v5 = nI cv5 → v6 = nI cv6 → v7 = nI cv7 → eX11_read_32 q  n cM ct cv1 cv2 cv3 cv4 cv5 cv6 cv7 = true → wX11_read_32 post  n M tl v1 v2 v3 v4 v5 v6 v7 := by
  intro n
  induction n with
  | zero => intro M tl v1 v2 v3 v4 v5 v6 v7 cM ct cv1 cv2 cv3 cv4 cv5 cv6 cv7 hM ht hv1 hv2 hv3 hv4 hv5 hv6 hv7 h; exact Bool.noConfusion h
  | succ n ih =>
    intro M tl v1 v2 v3 v4 v5 v6 v7 cM ct cv1 cv2 cv3 cv4 cv5 cv6 cv7 hM ht hv1 hv2 hv3 hv4 hv5 hv6 hv7 h
    unfold wX11_read_32
    refine e_ite (c_le hv4 hv7) h (fun h => ?_) (fun h => ?_)
    · exact sX11_read_205 hq  hM ht hv1 hv3 hv5 hv6 h
    · refine e_ite (c_eq hv5 (rfl : (0 : Int32) = nI 0)) h (fun h => ?_) (fun h => ?_)
      · exact ⟨5000, sX11_read_47 hq ih 5000 _ _ _ _ _ _ _ _ _ _ _ _ _ _ _ _ _ _ _ _ hM ht hv1 hv2 hv3 hv4 hv5 hv6 hv7 (rfl : (0 : Int32) = nI 0) h⟩
      · exact sX11_read_205 hq  hM ht hv1 hv3 hv5 hv6 h
noncomputable def epX11_read (q : Nat → Nat → Nat → Bool) (cM ct cv1 cv2 cv3 cv4 : Nat) : Bool :=
  (epX11_isSheet (fun cr3 cM1 ct2 => (@Bool.rec (fun _ => Bool) (epX11_in (fun cr6 cM4 ct5 => (@Bool.rec (fun _ => Bool) (eX11_read_32 q  5000 cM4 ct5 cv1 cv2 cv3 cv4 0 0 0) (q 4294967295 cM4 ct5) (eqN cr6 0))) cM1 ct2 (xN cv4) 0 13) (q 4294967295 cM1 ct2) (eqN cr3 0))) cM ct cv1 cv2)
set_option maxHeartbeats 4000000 in
set_option maxRecDepth 20000 in
theorem spX11_read {post : Int32 → MM → Int64 → Prop} {q : Nat → Nat → Nat → Bool} (hq : ∀ (r : Int32) (M : MM) (tl : Int64) (cr cM ct : Nat), r = nI cr → M = dM cM → tl = i64 ct → q cr cM ct = true → post r M tl) {M : MM} {tl : Int64} {v1 : Int32} {v2 : Int32} {v3 : Int32} {v4 : Int32} {cM ct cv1 cv2 cv3 cv4 : Nat} (hM : M = dM cM) (ht : tl = i64 ct) (hv1 : v1 = nI cv1) (hv2 : v2 = nI cv2) (hv3 : v3 = nI cv3) (hv4 : v4 = nI cv4) (h : epX11_read q  cM ct cv1 cv2 cv3 cv4 = true) : wpX11_read post  M tl v1 v2 v3 v4 := by
  unfold wpX11_read
  unfold epX11_read at h
  refine spX11_isSheet (fun r3 M1 t2 cr3 cM1 ct2 hr3 hM1 ht2 h => ?_) hM ht hv1 hv2 h
  refine e_ite (c_eq hr3 (rfl : (0 : Int32) = nI 0)) h (fun h => ?_) (fun h => ?_)
  · exact hq _ _ _ _ _ _ lm1 hM1 ht2 h
  · refine spX11_in (fun r6 M4 t5 cr6 cM4 ct5 hr6 hM4 ht5 h => ?_) hM1 ht2 (r_ext hv4) (rfl : (0 : Int64) = i64 0) (rfl : (13 : Int64) = i64 13) h
    refine e_ite (c_eq hr6 (rfl : (0 : Int32) = nI 0)) h (fun h => ?_) (fun h => ?_)
    · exact hq _ _ _ _ _ _ lm1 hM4 ht5 h
    · exact ⟨5000, sX11_read_32 hq  5000 _ _ _ _ _ _ _ _ _ _ _ _ _ _ _ _ _ _ hM4 ht5 hv1 hv2 hv3 hv4 (rfl : (0 : Int32) = nI 0) (rfl : (0 : Int32) = nI 0) (rfl : (0 : Int32) = nI 0) h⟩
noncomputable def epX11_torn (q : Nat → Nat → Nat → Bool) (cM ct  : Nat) : Bool :=
  (q (rd cM 81 48) cM ct)
set_option maxHeartbeats 4000000 in
set_option maxRecDepth 20000 in
theorem spX11_torn {post : Int32 → MM → Int64 → Prop} {q : Nat → Nat → Nat → Bool} (hq : ∀ (r : Int32) (M : MM) (tl : Int64) (cr cM ct : Nat), r = nI cr → M = dM cM → tl = i64 ct → q cr cM ct = true → post r M tl) {M : MM} {tl : Int64} {cM ct  : Nat} (hM : M = dM cM) (ht : tl = i64 ct)  (h : epX11_torn q  cM ct  = true) : wpX11_torn post  M tl  := by
  unfold wpX11_torn
  unfold epX11_torn at h
  exact hq _ _ _ _ _ _ (r_rd hM (rfl : (81 : Nat) = 81) (rfl : (48 : Nat) = 48)) hM ht h
noncomputable def eX11_count_29 (q : Nat → Nat → Nat → Bool) (cbk4 : Nat → Nat → Nat → Nat → Nat → Bool) (cM ct cv1 cv3 cs0 cs1 : Nat) : Bool :=
  (epX11_flag (fun cr3 cM1 ct2 => (cbk4 cM1 ct2 cv1 (aN cs0 cr3) (aN cv3 1))) cM ct cs1)
set_option maxHeartbeats 4000000 in
set_option maxRecDepth 20000 in
theorem sX11_count_29 {post : Int32 → MM → Int64 → Prop} {q : Nat → Nat → Nat → Bool} (hq : ∀ (r : Int32) (M : MM) (tl : Int64) (cr cM ct : Nat), r = nI cr → M = dM cM → tl = i64 ct → q cr cM ct = true → post r M tl) {bk4 : MM → Int64 → Int32 → Int32 → Int32 → Prop} {cbk4 : Nat → Nat → Nat → Nat → Nat → Bool} (hbk4 : ∀ (M : MM) (tl : Int64) (x0 : Int32) (x1 : Int32) (x2 : Int32) (cM ct cx0 cx1 cx2 : Nat), M = dM cM → tl = i64 ct → x0 = nI cx0 → x1 = nI cx1 → x2 = nI cx2 → cbk4 cM ct cx0 cx1 cx2 = true → bk4 M tl x0 x1 x2) {M : MM} {tl : Int64} {v1 : Int32} {v3 : Int32} {s0 : Int32} {s1 : Int32} {cM ct cv1 cv3 cs0 cs1 : Nat} (hM : M = dM cM) (ht : tl = i64 ct) (hv1 : v1 = nI cv1) (hv3 : v3 = nI cv3) (hs0 : s0 = nI cs0) (hs1 : s1 = nI cs1) (h : eX11_count_29 q cbk4 cM ct cv1 cv3 cs0 cs1 = true) : wX11_count_29 post bk4 M tl v1 v3 s0 s1 := by
  unfold wX11_count_29
  unfold eX11_count_29 at h
  refine spX11_flag (fun r3 M1 t2 cr3 cM1 ct2 hr3 hM1 ht2 h => ?_) hM ht hs1 h
  exact hbk4 _ _ _ _ _ _ _ _ _ _ hM1 ht2 hv1 (r_add hs0 hr3) (r_add hv3 (rfl : (1 : Int32) = nI 1)) h
noncomputable def eX11_count_4 (q : Nat → Nat → Nat → Bool) (n : Nat) : Nat → Nat → Nat → Nat → Nat → Bool :=
  @Nat.rec (fun _ => Nat → Nat → Nat → Nat → Nat → Bool) (fun _ _ _ _ _ => false) (fun _ ih cM ct cv1 cv2 cv3 => (@Bool.rec (fun _ => Bool) (epX11_matchOf (fun cr25 cM23 ct24 => (@Bool.rec (fun _ => Bool) (eX11_count_29 q ih cM23 ct24 cv1 cv3 cv2 1) (eX11_count_29 q ih cM23 ct24 cv1 cv3 cv2 0) (eqN cr25 4294967292))) cM ct 0 cv3) (@Bool.rec (fun _ => Bool) (@Bool.rec (fun _ => Bool) (@Bool.rec (fun _ => Bool) (@Bool.rec (fun _ => Bool) (@Bool.rec (fun _ => Bool) (@Bool.rec (fun _ => Bool) (@Bool.rec (fun _ => Bool) (q 4294967295 cM ct) (@Bool.rec (fun _ => Bool) false (@Bool.rec (fun _ => Bool) (@Bool.rec (fun _ => Bool) false (q (rd cM 106 (tN 0)) cM ct) (inN 0 (alF 106))) (q 4294967292 cM ct) (eqN (rd cM 105 (tN 0)) 4294967292)) (inN 0 (alF 105))) (eqN cv1 6)) (q (rd cM 81 31) cM ct) (eqN cv1 5)) (@Bool.rec (fun _ => Bool) false (epX11_flag (fun cr14 cM12 ct13 => (@Bool.rec (fun _ => Bool) false (epX11_flag (fun cr18 cM16 ct17 => (q (aN cr14 cr18) cM16 ct17)) cM12 ct13 (rd cM12 83 (tN 1))) (inN 1 (alF 83)))) cM ct (rd cM 83 (tN 0))) (inN 0 (alF 83))) (eqN cv1 4)) (@Bool.rec (fun _ => Bool) false (q (rd cM 82 (tN 78)) cM ct) (inN 78 (alF 82))) (eqN cv1 3)) (@Bool.rec (fun _ => Bool) false (q (rd cM 82 (tN 65)) cM ct) (inN 65 (alF 82))) (eqN cv1 2)) (q cv2 cM ct) (eqN cv1 1)) (epX11_thingMany (fun cr4 cM2 ct3 => (q cr4 cM2 ct3)) cM ct) (eqN cv1 0)) (leN (rd cM 81 2) cv3))) n
set_option maxHeartbeats 4000000 in
set_option maxRecDepth 20000 in
theorem sX11_count_4 {post : Int32 → MM → Int64 → Prop} {q : Nat → Nat → Nat → Bool} (hq : ∀ (r : Int32) (M : MM) (tl : Int64) (cr cM ct : Nat), r = nI cr → M = dM cM → tl = i64 ct → q cr cM ct = true → post r M tl) : ∀ (n : Nat) (M : MM) (tl : Int64) (v1 : Int32) (v2 : Int32) (v3 : Int32) (cM ct cv1 cv2 cv3 : Nat), M = dM cM → tl = i64 ct → v1 = nI cv1 → v2 = nI cv2 → v3 = nI cv3 → eX11_count_4 q  n cM ct cv1 cv2 cv3 = true → wX11_count_4 post  n M tl v1 v2 v3 := by
  intro n
  induction n with
  | zero => intro M tl v1 v2 v3 cM ct cv1 cv2 cv3 hM ht hv1 hv2 hv3 h; exact Bool.noConfusion h
  | succ n ih =>
    intro M tl v1 v2 v3 cM ct cv1 cv2 cv3 hM ht hv1 hv2 hv3 h
    unfold wX11_count_4
    refine e_ite (c_le (r_rd hM (rfl : (81 : Nat) = 81) (rfl : (2 : Nat) = 2)) hv3) h (fun h => ?_) (fun h => ?_)
    · refine e_ite (c_eq hv1 (rfl : (0 : Int32) = nI 0)) h (fun h => ?_) (fun h => ?_)
      · refine spX11_thingMany (fun r4 M2 t3 cr4 cM2 ct3 hr4 hM2 ht3 h => ?_) hM ht h
        exact hq _ _ _ _ _ _ hr4 hM2 ht3 h
      · refine e_ite (c_eq hv1 (rfl : (1 : Int32) = nI 1)) h (fun h => ?_) (fun h => ?_)
        · exact hq _ _ _ _ _ _ hv2 hM ht h
        · refine e_ite (c_eq hv1 (rfl : (2 : Int32) = nI 2)) h (fun h => ?_) (fun h => ?_)
          · refine e_and (k_in (rfl : (65 : Int32) = nI 65) (r_al (rfl : (82 : Nat) = 82))) h (fun h => ?_)
            exact hq _ _ _ _ _ _ (r_rd hM (rfl : (82 : Nat) = 82) (r_nat (rfl : (65 : Int32) = nI 65))) hM ht h
          · refine e_ite (c_eq hv1 (rfl : (3 : Int32) = nI 3)) h (fun h => ?_) (fun h => ?_)
            · refine e_and (k_in (rfl : (78 : Int32) = nI 78) (r_al (rfl : (82 : Nat) = 82))) h (fun h => ?_)
              exact hq _ _ _ _ _ _ (r_rd hM (rfl : (82 : Nat) = 82) (r_nat (rfl : (78 : Int32) = nI 78))) hM ht h
            · refine e_ite (c_eq hv1 (rfl : (4 : Int32) = nI 4)) h (fun h => ?_) (fun h => ?_)
              · refine e_and (k_in (rfl : (0 : Int32) = nI 0) (r_al (rfl : (83 : Nat) = 83))) h (fun h => ?_)
                refine spX11_flag (fun r14 M12 t13 cr14 cM12 ct13 hr14 hM12 ht13 h => ?_) hM ht (r_rd hM (rfl : (83 : Nat) = 83) (r_nat (rfl : (0 : Int32) = nI 0))) h
                refine e_and (k_in (rfl : (1 : Int32) = nI 1) (r_al (rfl : (83 : Nat) = 83))) h (fun h => ?_)
                refine spX11_flag (fun r18 M16 t17 cr18 cM16 ct17 hr18 hM16 ht17 h => ?_) hM12 ht13 (r_rd hM12 (rfl : (83 : Nat) = 83) (r_nat (rfl : (1 : Int32) = nI 1))) h
                exact hq _ _ _ _ _ _ (r_add hr14 hr18) hM16 ht17 h
              · refine e_ite (c_eq hv1 (rfl : (5 : Int32) = nI 5)) h (fun h => ?_) (fun h => ?_)
                · exact hq _ _ _ _ _ _ (r_rd hM (rfl : (81 : Nat) = 81) (rfl : (31 : Nat) = 31)) hM ht h
                · refine e_ite (c_eq hv1 (rfl : (6 : Int32) = nI 6)) h (fun h => ?_) (fun h => ?_)
                  · refine e_and (k_in (rfl : (0 : Int32) = nI 0) (r_al (rfl : (105 : Nat) = 105))) h (fun h => ?_)
                    refine e_ite (c_eq (r_rd hM (rfl : (105 : Nat) = 105) (r_nat (rfl : (0 : Int32) = nI 0))) lm4) h (fun h => ?_) (fun h => ?_)
                    · exact hq _ _ _ _ _ _ lm4 hM ht h
                    · refine e_and (k_in (rfl : (0 : Int32) = nI 0) (r_al (rfl : (106 : Nat) = 106))) h (fun h => ?_)
                      exact hq _ _ _ _ _ _ (r_rd hM (rfl : (106 : Nat) = 106) (r_nat (rfl : (0 : Int32) = nI 0))) hM ht h
                  · exact hq _ _ _ _ _ _ lm1 hM ht h
    · refine spX11_matchOf (fun r25 M23 t24 cr25 cM23 ct24 hr25 hM23 ht24 h => ?_) hM ht (rfl : (0 : Int32) = nI 0) hv3 h
      refine e_ite (c_eq hr25 lm4) h (fun h => ?_) (fun h => ?_)
      · exact sX11_count_29 hq ih hM23 ht24 hv1 hv3 hv2 (rfl : (0 : Int32) = nI 0) h
      · exact sX11_count_29 hq ih hM23 ht24 hv1 hv3 hv2 (rfl : (1 : Int32) = nI 1) h
noncomputable def epX11_count (q : Nat → Nat → Nat → Bool) (cM ct cv1 : Nat) : Bool :=
  (eX11_count_4 q  5000 cM ct cv1 0 0)
set_option maxHeartbeats 4000000 in
set_option maxRecDepth 20000 in
theorem spX11_count {post : Int32 → MM → Int64 → Prop} {q : Nat → Nat → Nat → Bool} (hq : ∀ (r : Int32) (M : MM) (tl : Int64) (cr cM ct : Nat), r = nI cr → M = dM cM → tl = i64 ct → q cr cM ct = true → post r M tl) {M : MM} {tl : Int64} {v1 : Int32} {cM ct cv1 : Nat} (hM : M = dM cM) (ht : tl = i64 ct) (hv1 : v1 = nI cv1) (h : epX11_count q  cM ct cv1 = true) : wpX11_count post  M tl v1 := by
  unfold wpX11_count
  unfold epX11_count at h
  exact ⟨5000, sX11_count_4 hq  5000 _ _ _ _ _ _ _ _ _ _ hM ht hv1 (rfl : (0 : Int32) = nI 0) (rfl : (0 : Int32) = nI 0) h⟩
