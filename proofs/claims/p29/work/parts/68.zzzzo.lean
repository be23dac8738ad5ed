/-! PLANS on both sides: the months of the reference -/
def Fl (f x s : Nat) : Prop := ∀ m, m < 12 → (bt x m = 1 ↔ m / 4 < dg s ((f + m) % 4))
theorem fl_0 (f : Nat) : Fl f 0 0 := by
  intro m _
  have a : bt 0 m = 0 := by unfold bt; simp
  have b : dg 0 ((f + m) % 4) = 0 := by unfold dg; simp
  rw [a, b]
  omega
theorem fl_mo {f x s q : Nat} (hf : f < 4) (F : Fl f x s) (hq : q < 4) (hd : dg s q < 3) : mo f s q < 12 ∧ (f + mo f s q) % 4 = q ∧ bt x (mo f s q) = 0 := by
  have a : mo f s q < 12 := by unfold mo; omega
  have b : (f + mo f s q) % 4 = q := by unfold mo; omega
  refine ⟨a, b, ?_⟩
  have c := F _ a
  rw [b] at c
  have d := bt_le x (mo f s q)
  have e : mo f s q / 4 = dg s q := by unfold mo; omega
  omega
theorem fl_le {f x s m : Nat} (hf : f < 4) (F : Fl f x s) (hm : m < 12) (b : bt x m = 0) : dg s ((f + m) % 4) < 3 ∧ mo f s ((f + m) % 4) ≤ m := by
  have c := F m hm
  unfold mo
  generalize hd : dg s ((f + m) % 4) = d at c ⊢
  omega
theorem fl_st {f x s q : Nat} (hf : f < 4) (hs : s < 256) (F : Fl f x s) (hq : q < 4) (hd : dg s q < 3) : Fl f (x + 2 ^ mo f s q) (s + 4 ^ q) := by
  obtain ⟨a, b, c⟩ := fl_mo hf F hq hd
  intro m hm
  have d := F m hm
  have e := bt_le x m
  rw [bt_add a hm c, dg_add hs hq (by omega) hd]
  have m4 : mo f s q / 4 = dg s q := by unfold mo; omega
  by_cases z : m = mo f s q
  · subst z
    rw [if_pos rfl, if_pos b, c, b, m4]
    omega
  · rw [if_neg z]
    by_cases y : (f + m) % 4 = q
    · rw [if_pos y, y]
      rw [y] at d
      have : ¬ m / 4 = dg s q := by
        intro w
        apply z
        unfold mo
        omega
      omega
    · rw [if_neg y]
      exact d
section PLF
variable {P C : Nat → Nat} {W f : Nat} {u : Int64}
theorem rl_is {x : Nat} (hf : f < 4) (h : pcU x ≤ W) : Rf P C W f x = Lf P C W (stU f x) := by
  unfold Rf Lf
  rw [(st_lt (u := x) hf).2]
  by_cases z : pcU x = W
  · rw [if_pos z, if_pos (by omega)]
  · rw [if_neg z, if_neg (by omega), if_neg (by omega)]
theorem pn_95 {p : Int32 → MM → Int64 → Prop} {bk : MM → Int64 → Int32 → Int32 → Int32 → Int32 → Int32 → Prop} {N : MM} {x w m0 : Nat} {v2 : Int32} (hP : ∀ q, q < 4 → P q ≤ 9) (hC : ∀ j, C j ≤ 40) (hW : W ≤ 6) (hf : f < 4) (hx : x < 4096) (hw : w < W) (K : PK P C W N) (T : ∀ y, y < 4096 → N 104 y = nI (Rf P C W f y)) (hm0 : m0 < 12) (b0 : bt x m0 = 0) (e0 : P ((f + m0) % 4) * C w + Rf P C W f (x + 2 ^ m0) = Rf P C W f x) (le0 : ∀ m, m < 12 → bt x m = 0 → P ((f + m) % 4) * C w + Rf P C W f (x + 2 ^ m) = Rf P C W f x → m0 ≤ m) : ∀ (n k : Nat) (i v4 : Int32), i = nI k + (-1) → k ≤ 12 → (k ≤ m0 → v4 = nI m0) → wX11_plan_95 p bk n N u (nI f) v2 (nI x) v4 (nI w) i → bk N u (nI f) v2 (nI (x + 2 ^ m0)) (nI m0) (nI w + 1) := by
  intro n
  induction n with
  | zero => intro k i v4 _ _ _ h; exact h.elim
  | succ n ih =>
    intro k i v4 ei hk iv h
    unfold wX11_plan_95 at h
    by_cases k0 : k = 0
    · subst k0; subst ei
      have h := ip (by decide) h
      rw [iv (by omega), (bi_u hx hm0).2 b0] at h
      exact h
    · obtain ⟨z, hz⟩ : ∃ z, k = z + 1 := ⟨k - 1, by omega⟩
      subst hz
      rw [ei, nI_pr] at h
      have x0 := nJ_ge0 (i := z) (by omega)
      have h := iq (show ¬ nI z < 0 by clear ih T K; lia) h
      have z12 : z < 12 := by omega
      have bu := bi_u hx z12
      have b1 := bt_le x z
      rw [bu.1] at h
      have nxt : ∀ v : Int32, (z ≤ m0 → v = nI m0) → wX11_plan_95 p bk n N u (nI f) v2 (nI x) v (nI w) (nI z + (-1)) → bk N u (nI f) v2 (nI (x + 2 ^ m0)) (nI m0) (nI w + 1) := fun v hv h => ih z _ v rfl (by omega) hv h
      by_cases cb : bt x z = 0
      · have h := ip (show nI (bt x z) = 0 by rw [cb]; rfl) h
        rw [kI_add] at h
        have h := (el_wantCost hP hC K hW hw (by omega) h).2.2
        have xl := bt_lt hx z12 cb
        rw [bu.2 cb, tnB (by omega), tnB (by omega), T _ xl, T _ hx, kI_add] at h
        have rl := rf_le (P := P) (C := C) (W := W) (f := f) (u := x + 2 ^ z)
        have rl2 := rf_le (P := P) (C := C) (W := W) (f := f) (u := x)
        have pm : P ((f + z) % 4) * C w ≤ 9 * 40 := Nat.mul_le_mul (hP _ (by omega)) (hC _)
        by_cases eq : P ((f + z) % 4) * C w + Rf P C W f (x + 2 ^ z) = Rf P C W f x
        · have h := ip (by rw [eq]) h
          unfold wX11_plan_145 wX11_plan_159 at h
          exact nxt (nI z) (fun l => by have := le0 z z12 cb eq; rw [show z = m0 by omega]) (iq (by decide) h)
        · have h := iq (fun y => eq (kB_inj (by omega) (by omega) y)) h
          unfold wX11_plan_144 wX11_plan_145 wX11_plan_159 at h
          exact nxt v4 (fun l => iv (by
            by_cases y : z = m0
            · subst y; exact absurd e0 eq
            · omega)) (ip rfl h)
      · have h := iq (show ¬ nI (bt x z) = 0 from fun y => cb (kI_inj (b := 0) (by omega) (by omega) y)) h
        unfold wX11_plan_144 wX11_plan_145 wX11_plan_159 at h
        exact nxt v4 (fun l => iv (by
          by_cases y : z = m0
          · subst y; exact absurd b0 cb
          · omega)) (ip rfl h)
theorem sub10 : ∀ d, d < 6 → nI (d + 10) - 10 = nI d := by decide +kernel
theorem pn_78 {p : Int32 → MM → Int64 → Prop} {N : MM} {S : Nat → Nat} {X : Nat → Int32} {d : Nat} (hP : ∀ q, q < 4 → P q ≤ 9) (hC : ∀ j, C j ≤ 40) (hW : W ≤ 6) (hf : f < 4) (hd : d < W) (K : PK P C W N) (T : ∀ y, y < 4096 → N 104 y = nI (Rf P C W f y)) (hS : ∀ j, j < W → ∃ q, Bq P C W f j (S j) q ∧ S (j + 1) = S j + 4 ^ q ∧ X j = nI (f + mo f (S j) q)) : ∀ (n w x : Nat) (v4 : Int32), w ≤ d + 1 → x < 4096 → pcU x = w → stU f x = S w → Fl f x (S w) → (w = d + 1 → nI f + v4 = X d) → wX11_plan_78 p n N u (nI f) (nI (d + 10)) (nI x) v4 (nI w) → p (X d) N u := by
  intro n
  induction n with
  | zero => intro w x v4 _ _ _ _ _ _ h; exact h.elim
  | succ n ih =>
    intro w x v4 hw hx pc st F iv h
    unfold wX11_plan_78 at h
    rw [sub10 d (by omega)] at h
    by_cases c : w = d + 1
    · have h := ip ((kB_lt (by omega) (by omega)).mpr (by omega)) h
      rw [iv c] at h
      exact h
    · obtain ⟨y, h⟩ := iq (fun z => absurd ((kB_lt (by omega) (by omega)).mp z) (by omega)) h
      obtain ⟨q, bq, s1, e1⟩ := hS w (by omega)
      have hs : S w < 256 := by rw [← st]; exact (st_lt hf).1
      obtain ⟨m12, mq, mb⟩ := fl_mo hf F bq.1 bq.2.1.1
      have rx : Rf P C W f x = Lf P C W (S w) := by rw [rl_is hf (by omega), st]
      have rm : ∀ m, m < 12 → bt x m = 0 → Rf P C W f (x + 2 ^ m) = Lf P C W (S w + 4 ^ ((f + m) % 4)) := by
        intro m hm hb
        rw [rl_is hf (by rw [pc_add hm hb]; omega), st_add hf hm hb, st]
      have h := pn_95 hP hC hW hf hx (show w < W by omega) K T m12 mb (by rw [rm _ m12 mb, rx, mq]; exact bq.2.1.2) (fun m hm hb he => by
        rw [rm m hm hb, rx] at he
        have l := fl_le hf F hm hb
        exact Nat.le_trans (bq.2.2 _ (by omega) ⟨l.1, he⟩) l.2) y 12 11 (-4) (by decide) (by omega) (fun l => absurd l (by omega)) h
      rw [nI_s1] at h
      refine ih (w + 1) (x + 2 ^ mo f (S w) q) _ (by omega) (bt_lt hx m12 mb) (by rw [pc_add m12 mb]; omega) (by rw [st_add hf m12 mb, st, s1, mq]) (by rw [s1]; exact fl_st hf hs F bq.1 bq.2.1.1) (fun e => ?_) h
      have : w = d := by omega
      subst this
      rw [kI_add, e1]
end PLF
