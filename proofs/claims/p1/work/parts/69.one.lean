/-! the law with one call at most -/
def PT : Int32 → MM → Int64 → Prop := fun r _ _ => r = 1
theorem lgc_self (x : Int64) : lg_cmp x x = 0 := by
  unfold lg_cmp
  rw [if_neg (fun q => by have := Int64.lt_iff_toInt_lt.mp q; omega), if_pos rfl]
set_option maxHeartbeats 4000000 in
set_option maxRecDepth 20000 in
theorem law_5 (xs : Nat → Int32) (n : Nat) (fin : ∀ M t, wL_law_1563 5 xs PT (wL_law_18 5 xs PT n) M t 0) : wL_law_18 5 xs PT (n + 1) M0 0 0 := by
  have hv1 : vp_in ((0 : Int32) + 1) 5 := by unfold vp_in; decide +kernel
  have hv2 : vp_in ((0 : Int32) + 2) 5 := by unfold vp_in; decide +kernel
  have hv3 : vp_in ((0 : Int32) + 3) 5 := by unfold vp_in; decide +kernel
  have hv4 : vp_in ((0 : Int32) + 4) 5 := by unfold vp_in; decide +kernel
  unfold wL_law_18
  refine ifn (by decide +kernel) (And.intro (by unfold vp_in; decide +kernel) ?_)
  refine ifs (fun hc => ?_) (fun _ => ?_)
  · exact (And.intro hv1 (And.intro hv2 (p_feed _ _ (fun r M t h => (And.intro hv1 (And.intro hv2 (h _ (fun M2 t2 => ifp rfl (fin M2 t2)))))))))
  refine ifs (fun hc => ?_) (fun _ => ?_)
  · exact (And.intro hv1 (p_end _ _ (fun r M t h => (And.intro hv1 (h _ (fun M2 t2 => ifp rfl (fin M2 t2)))))))
  refine ifs (fun hc => ?_) (fun _ => ?_)
  · exact (p_text _ (fun r M t h => (h _ (fun M2 t2 => ifp rfl (fin M2 t2)))))
  refine ifs (fun hc => ?_) (fun _ => ?_)
  · exact (p_fault _ (fun r M t h => (h _ (fun M2 t2 => ifp rfl (fin M2 t2)))))
  refine ifs (fun hc => ?_) (fun _ => ?_)
  · exact (And.intro hv1 (p_rule _ _ (fun r M t h => (And.intro hv1 (h _ (fun M2 t2 => ifp rfl (fin M2 t2)))))))
  refine ifs (fun hc => ?_) (fun _ => ?_)
  · exact (And.intro hv1 (And.intro hv2 (p_kind _ _ _ (fun r M t h => (And.intro hv1 (And.intro hv2 (h _ (fun M2 t2 => ifp rfl (fin M2 t2)))))))))
  refine ifs (fun hc => ?_) (fun _ => ?_)
  · exact (And.intro hv1 (p_colour _ _ (fun r M t h => (And.intro hv1 (h _ (fun M2 t2 => ifp rfl (fin M2 t2)))))))
  refine ifs (fun hc => ?_) (fun _ => ?_)
  · exact (And.intro hv1 (p_mirror _ _ (fun r M t h => (And.intro hv1 (h _ (fun M2 t2 => ifp rfl (fin M2 t2)))))))
  refine ifs (fun hc => ?_) (fun _ => ?_)
  · exact (And.intro hv1 (And.intro hv2 (p_work _ _ _ (fun r M t h => (And.intro hv1 (And.intro hv2 (h _ (fun M2 t2 => ifp rfl (fin M2 t2)))))))))
  refine ifs (fun hc => ?_) (fun _ => ?_)
  · exact (And.intro hv1 (And.intro hv2 (p_thing _ _ _ (fun r M t h => (And.intro hv1 (And.intro hv2 (h _ (fun M2 t2 => ifp rfl (fin M2 t2)))))))))
  refine ifs (fun hc => ?_) (fun _ => ?_)
  · exact (And.intro hv1 (And.intro hv2 (And.intro hv3 (p_put _ _ _ _ (fun r M t h => (And.intro hv1 (And.intro hv2 (And.intro hv3 (h _ (fun M2 t2 => ifp rfl (fin M2 t2)))))))))))
  refine ifs (fun hc => ?_) (fun _ => ?_)
  · exact (And.intro hv1 (And.intro hv2 (p_match _ _ _ (fun r M t h => (And.intro hv1 (And.intro hv2 (h _ (fun M2 t2 => ifp rfl (fin M2 t2)))))))))
  refine ifs (fun hc => ?_) (fun _ => ?_)
  · exact (p_odd _ (fun r M t h => (h _ (fun M2 t2 => ifp rfl (fin M2 t2)))))
  refine ifs (fun hc => ?_) (fun _ => ?_)
  · exact (And.intro hv1 (p_third _ _ (fun r M t h => (And.intro hv1 (h _ (fun M2 t2 => ifp rfl (fin M2 t2)))))))
  refine ifs (fun hc => ?_) (fun _ => ?_)
  · exact (And.intro hv1 (And.intro hv2 (And.intro hv3 (p_after _ _ _ _ (fun r M t h => (And.intro hv1 (And.intro hv2 (And.intro hv3 (h _ (fun M2 t2 => ifp rfl (fin M2 t2)))))))))))
  refine ifs (fun hc => ?_) (fun _ => ?_)
  · exact (And.intro hv1 (And.intro hv2 (p_paid _ _ _ (fun r M t h => (And.intro hv1 (And.intro hv2 (h _ (fun M2 t2 => ifp rfl (fin M2 t2)))))))))
  refine ifs (fun hc => ?_) (fun _ => ?_)
  · exact (And.intro hv1 (And.intro hv2 (p_owes _ _ _ (fun r M t h => (And.intro hv1 (And.intro hv2 (h _ (fun M2 t2 => ifp rfl (fin M2 t2)))))))))
  refine ifs (fun hc => ?_) (fun _ => ?_)
  · exact (And.intro hv1 (p_fate _ _ (fun r M t h => (And.intro hv1 (h _ (fun M2 t2 => ifp rfl (fin M2 t2)))))))
  refine ifs (fun hc => ?_) (fun _ => ?_)
  · exact (And.intro hv1 (p_uneven _ _ (fun r M t h => (And.intro hv1 (h _ (fun M2 t2 => ifp rfl (fin M2 t2)))))))
  refine ifs (fun hc => ?_) (fun _ => ?_)
  · exact (p_go _ (fun r M t h => (h _ (fun M2 t2 => ifp rfl (fin M2 t2)))))
  refine ifs (fun hc => ?_) (fun _ => ?_)
  · exact (And.intro hv1 (And.intro hv2 (And.intro hv3 (And.intro hv4 (p_plot _ _ _ _ _ (fun r M t h => (And.intro hv1 (And.intro hv2 (And.intro hv3 (And.intro hv4 (h _ (fun M2 t2 => ifp rfl (fin M2 t2)))))))))))))
  refine ifs (fun hc => ?_) (fun _ => ?_)
  · exact (And.intro hv1 (And.intro hv2 (And.intro hv3 (p_gain _ _ _ _ (fun r M t h => (And.intro hv1 (And.intro hv2 (And.intro hv3 (h _ (fun M2 t2 => ifp rfl (fin M2 t2)))))))))))
  refine ifs (fun hc => ?_) (fun _ => ?_)
  · exact (And.intro hv1 (And.intro hv2 (And.intro hv3 (p_begin _ _ _ _ (fun r M t h => (And.intro hv1 (And.intro hv2 (And.intro hv3 (h _ (fun M2 t2 => ifp rfl (fin M2 t2)))))))))))
  refine ifs (fun hc => ?_) (fun _ => ?_)
  · exact (And.intro hv1 (And.intro hv2 (p_waits _ _ _ (fun r M t h => (And.intro hv1 (And.intro hv2 (h _ (fun M2 t2 => ifp rfl (fin M2 t2)))))))))
  refine ifs (fun hc => ?_) (fun _ => ?_)
  · exact (And.intro hv1 (And.intro hv2 (p_vex _ _ _ (fun r M t h => (And.intro hv1 (And.intro hv2 (h _ (fun M2 t2 => ifp rfl (fin M2 t2)))))))))
  refine ifs (fun hc => ?_) (fun _ => ?_)
  · exact (And.intro hv1 (And.intro hv2 (p_want _ _ _ (fun r M t h => (And.intro hv1 (And.intro hv2 (h _ (fun M2 t2 => ifp rfl (fin M2 t2)))))))))
  refine ifs (fun hc => ?_) (fun _ => ?_)
  · exact (p_content _ (fun r M t h => (h _ (fun M2 t2 => ifp rfl (fin M2 t2)))))
  refine ifs (fun hc => ?_) (fun _ => ?_)
  · exact (And.intro hv1 (And.intro hv2 (p_plan _ _ _ (fun r M t h => (And.intro hv1 (And.intro hv2 (h _ (fun M2 t2 => ifp rfl (fin M2 t2)))))))))
  refine ifs (fun hc => ?_) (fun _ => ?_)
  · exact (And.intro hv1 (p_cannot _ _ (fun r M t h => (And.intro hv1 (h _ (fun M2 t2 => ifp rfl (fin M2 t2)))))))
  refine ifs (fun hc => ?_) (fun _ => ?_)
  · exact (And.intro hv1 (And.intro hv2 (And.intro hv3 (p_fire _ _ _ _ (fun r M t h => (And.intro hv1 (And.intro hv2 (And.intro hv3 (h _ (fun M2 t2 => ifp rfl (fin M2 t2)))))))))))
  refine ifs (fun hc => ?_) (fun _ => ?_)
  · exact (And.intro hv1 (p_quarrel _ _ (fun r M t h => (And.intro hv1 (h _ (fun M2 t2 => ifp rfl (fin M2 t2)))))))
  refine ifs (fun hc => ?_) (fun _ => ?_)
  · exact (p_bend _ (fun r M t h => (h _ (fun M2 t2 => ifp rfl (fin M2 t2)))))
  refine ifs (fun hc => ?_) (fun _ => ?_)
  · exact (And.intro hv1 (And.intro hv2 (p_shops _ _ _ (fun r M t h => (And.intro hv1 (And.intro hv2 (h _ (fun M2 t2 => ifp rfl (fin M2 t2)))))))))
  refine ifs (fun hc => ?_) (fun _ => ?_)
  · refine (And.intro hv1 (And.intro hv2 (And.intro hv3 (And.intro hv4 (ifs (fun h0 => ?_) (fun h0 => ?_))))))
    · unfold wL_law_1222; exact p_saw0 _ _ _ _ (fun r M t h => (And.intro hv1 (And.intro hv2 (And.intro hv3 (And.intro hv4 (ifp h0 (by unfold wL_law_1254; exact h _ (fun M2 t2 => ifp rfl (fin M2 t2)))))))))
    · unfold wL_law_1222; exact p_saw1 _ _ _ _ (fun r M t h => (And.intro hv1 (And.intro hv2 (And.intro hv3 (And.intro hv4 (ifn h0 (by unfold wL_law_1254; exact h _ (fun M2 t2 => ifp rfl (fin M2 t2)))))))))
  refine ifs (fun hc => ?_) (fun _ => ?_)
  · exact (p_forget _ (fun r M t h => (h _ (fun M2 t2 => ifp rfl (fin M2 t2)))))
  refine ifs (fun hc => ?_) (fun _ => ?_)
  · exact (And.intro hv1 (p_histories _ _ (fun r M t h => (And.intro hv1 (h _ (fun M2 t2 => ifp (lgc_self _) (fin M2 t2)))))))
  refine ifs (fun hc => ?_) (fun _ => ?_)
  · exact (And.intro hv1 (And.intro hv2 (And.intro hv3 (p_began _ _ _ _ (fun r M t h => (And.intro hv1 (And.intro hv2 (And.intro hv3 (h _ (fun M2 t2 => ifp rfl (fin M2 t2)))))))))))
  refine ifs (fun hc => ?_) (fun _ => ?_)
  · exact (And.intro hv1 (p_keep _ _ (fun r M t h => (And.intro hv1 (h _ (fun M2 t2 => ifp rfl (fin M2 t2)))))))
  refine ifs (fun hc => ?_) (fun _ => ?_)
  · exact (And.intro hv1 (p_back _ _ (fun r M t h => (And.intro hv1 (h _ (fun M2 t2 => ifp rfl (fin M2 t2)))))))
  refine ifs (fun hc => ?_) (fun _ => ?_)
  · exact (And.intro hv1 (And.intro hv2 (And.intro hv3 (p_sheet _ _ _ _ (fun r M t h => (And.intro hv1 (And.intro hv2 (And.intro hv3 (h _ (fun M2 t2 => ifp rfl (fin M2 t2)))))))))))
  refine ifs (fun hc => ?_) (fun _ => ?_)
  · exact (And.intro hv1 (And.intro hv2 (And.intro hv3 (p_lay _ _ _ _ (fun r M t h => (And.intro hv1 (And.intro hv2 (And.intro hv3 (h _ (fun M2 t2 => ifp rfl (fin M2 t2)))))))))))
  refine ifs (fun hc => ?_) (fun _ => ?_)
  · exact (And.intro hv1 (And.intro hv2 (And.intro hv3 (And.intro hv4 (p_read _ _ _ _ _ (fun r M t h => (And.intro hv1 (And.intro hv2 (And.intro hv3 (And.intro hv4 (h _ (fun M2 t2 => ifp rfl (fin M2 t2)))))))))))))
  refine ifs (fun hc => ?_) (fun _ => ?_)
  · exact (p_torn _ (fun r M t h => (h _ (fun M2 t2 => ifp rfl (fin M2 t2)))))
  refine ifs (fun hc => ?_) (fun _ => ?_)
  · exact (And.intro hv1 (p_count _ _ (fun r M t h => (And.intro hv1 (h _ (fun M2 t2 => ifp rfl (fin M2 t2)))))))
  exact fin _ _
set_option maxRecDepth 20000 in
theorem law_fin (xs : Nat → Int32) (M : MM) (t : Int64) : wL_law_1563 5 xs PT (wL_law_18 5 xs PT (0 + 1)) M t 0 := by
  unfold wL_law_1563
  unfold wL_law_18
  exact ifp (by decide +kernel) rfl
set_option maxRecDepth 20000 in
theorem law_in (xs : Nat → Int32) {L : Nat} (hL : L ≤ 5) : wL_law_18 L xs PT (0 + 1 + 1) M0 0 0 := by
  rcases (by omega : L = 0 ∨ L = 1 ∨ L = 2 ∨ L = 3 ∨ L = 4 ∨ L = 5) with h | h | h | h | h | h <;> subst h
  · unfold wL_law_18; exact ifp (by decide +kernel) rfl
  · unfold wL_law_18; exact ifp (by decide +kernel) rfl
  · unfold wL_law_18; exact ifp (by decide +kernel) rfl
  · unfold wL_law_18; exact ifp (by decide +kernel) rfl
  · unfold wL_law_18; exact ifp (by decide +kernel) rfl
  · exact law_5 xs (0 + 1) (law_fin xs)
