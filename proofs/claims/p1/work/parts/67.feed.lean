/-! feed, any long -/
theorem nI_sm {k : Nat} (h : k < 2147483648) : (nI k).toInt = k := by rw [nI_int]; omega
theorem nI_s1 (k : Nat) : nI k + 1 = nI (k + 1) := (r_add rfl (rfl : (1 : Int32) = nI 1)).trans (nI_md (by show (1 + k) % 4294967296 % 4294967296 = _; omega))
theorem ap_step {post : MM → Int64 → Prop} {n : Nat} {M : MM} {tl v : Int64} {s : Int32} (k : Nat) (hk : M 1 1 = nI k) (hk2 : k < 400) (hs : ¬ s < 0) (kk : ∀ M' : MM, M' 1 1 = nI (k + 1) → (∀ a : Nat, a ≠ 1 → a ≠ 2 → M' a = M a) → wX9_append_3 post n M' tl v (s + (-8))) : wX9_append_3 post (n + 1) M tl v s := by
  unfold wX9_append_3
  refine ifn hs (ifn ?_ (And.intro ?_ ?_))
  · rw [hk]; exact i_nge (k := 400) (by decide) (by rw [nI_sm (by omega)]; omega)
  · rw [hk]; exact vp_of (by rw [nI_sm (by omega)]; omega) (by rw [nI_sm (by omega)]; show (k : Int) < (400 : Nat); omega)
  intro M2 h2 M3 h3
  refine kk M3 ?_ ?_
  · rw [h3, mset_at, h2, mset_ne (by decide), hk, nI_s1]
  · intro a h1 h4
    rw [h3, mset_ne h1, h2, mset_ne h4]
theorem fd_step {post : Int32 → MM → Int64 → Prop} {n : Nat} {M : MM} {tl v : Int64} {s : Int32} (k : Nat) (hk : M 81 31 = nI k) (hk2 : k < 400) (hs : ¬ s < 0) (kk : ∀ M' : MM, M' 81 31 = nI (k + 1) → wX11_feed_19 post n M' tl v (s + (-8))) : wX11_feed_19 post (n + 1) M tl v s := by
  unfold wX11_feed_19
  refine ifn hs (And.intro ?_ ?_)
  · rw [hk]; exact vp_of (by rw [nI_sm (by omega)]; omega) (by rw [nI_sm (by omega)]; show (k : Int) < (400 : Nat); omega)
  intro M2 h2 M3 h3
  refine kk M3 ?_
  rw [h3, mset_at, h2, mset_ne (by decide), hk, nI_s1]
set_option maxHeartbeats 4000000 in
theorem p_feed (v1 : Int64) (post1 : Int32 → MM → Int64 → Prop) (H : ∀ r1 M1 t1, (∀ post2 : Int32 → MM → Int64 → Prop, (∀ M2 t2, post2 r1 M2 t2) → wpX11_feed post2 M1 t1 v1) → post1 r1 M1 t1) : wpX10_feed post1 M0 0 v1 := by
  unfold wpX10_feed
  refine ifp (by decide +kernel) ?_
  unfold wpX9_append
  refine ⟨0 + 1 + 1 + 1 + 1 + 1 + 1 + 1 + 1 + 1, ?_⟩
  refine ap_step 0 (by decide +kernel) (by decide) (by decide +kernel) (fun M1 h1 e1 => ?_)
  refine ap_step 1 h1 (by decide) (by decide +kernel) (fun M2 h2 e2 => ?_)
  refine ap_step 2 h2 (by decide) (by decide +kernel) (fun M3 h3 e3 => ?_)
  refine ap_step 3 h3 (by decide) (by decide +kernel) (fun M4 h4 e4 => ?_)
  refine ap_step 4 h4 (by decide) (by decide +kernel) (fun M5 h5 e5 => ?_)
  refine ap_step 5 h5 (by decide) (by decide +kernel) (fun M6 h6 e6 => ?_)
  refine ap_step 6 h6 (by decide) (by decide +kernel) (fun M7 h7 e7 => ?_)
  refine ap_step 7 h7 (by decide) (by decide +kernel) (fun M8 h8 e8 => ?_)
  unfold wX9_append_3
  refine ifp (by decide +kernel) ?_
  show post1 (M8 1 1) M8 0
  rw [h8]
  have e : M8 81 31 = nI 0 := by
    rw [e8 81 (by decide) (by decide), e7 81 (by decide) (by decide), e6 81 (by decide) (by decide), e5 81 (by decide) (by decide), e4 81 (by decide) (by decide), e3 81 (by decide) (by decide), e2 81 (by decide) (by decide), e1 81 (by decide) (by decide)]
    decide +kernel
  refine H _ _ _ (fun post2 h2 => ?_)
  unfold wpX11_feed
  refine ifp (by rw [e]; decide +kernel) ?_
  refine ⟨0 + 1 + 1 + 1 + 1 + 1 + 1 + 1 + 1 + 1, ?_⟩
  refine fd_step 0 e (by decide) (by decide +kernel) (fun N1 g1 => ?_)
  refine fd_step 1 g1 (by decide) (by decide +kernel) (fun N2 g2 => ?_)
  refine fd_step 2 g2 (by decide) (by decide +kernel) (fun N3 g3 => ?_)
  refine fd_step 3 g3 (by decide) (by decide +kernel) (fun N4 g4 => ?_)
  refine fd_step 4 g4 (by decide) (by decide +kernel) (fun N5 g5 => ?_)
  refine fd_step 5 g5 (by decide) (by decide +kernel) (fun N6 g6 => ?_)
  refine fd_step 6 g6 (by decide) (by decide +kernel) (fun N7 g7 => ?_)
  refine fd_step 7 g7 (by decide) (by decide +kernel) (fun N8 g8 => ?_)
  unfold wX11_feed_19
  refine ifp (by decide +kernel) ?_
  rw [g8]
  exact h2 _ _
