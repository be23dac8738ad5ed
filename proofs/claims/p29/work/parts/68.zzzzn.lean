/-! PLANS on both sides: the months of the class -/
def mo (f s q : Nat) : Nat := (q + (4 - f)) % 4 + 4 * dg s q
theorem mo_i : ∀ f, f < 4 → ∀ q, q < 4 → ∀ d, d < 4 → (nI f + ((nI q - nI f) &&& 3)) + (4 : Int32) * nI d = nI (f + ((q + (4 - f)) % 4 + 4 * d)) := by decide +kernel
theorem mo_le (f s q : Nat) : mo f s q ≤ 15 := by
  have := dg_le s q
  unfold mo
  omega
theorem mo_inj {f s q x : Nat} (hf : f < 4) (hq : q < 4) (hx : x < 4) (h : mo f s q = mo f s x) : q = x := by
  unfold mo at h
  generalize dg s q = a at h
  generalize dg s x = b at h
  omega
def Ok (P C : Nat → Nat) (W w s q : Nat) : Prop := dg s q < 3 ∧ P q * C w + Lf P C W (s + 4 ^ q) = Lf P C W s
def Bq (P C : Nat → Nat) (W f w s q : Nat) : Prop := q < 4 ∧ Ok P C W w s q ∧ ∀ x, x < 4 → Ok P C W w s x → mo f s q ≤ mo f s x
section PLE
variable {P C : Nat → Nat} {W f : Nat} {tl : Int64}
theorem ok_ex {s w : Nat} (hP : ∀ q, q < 4 → P q ≤ 9) (hC : ∀ j, C j ≤ 40) (hW : W ≤ 6) (hs : s < 256) (hw : w < W) (e : pl4 s = w) : ∃ q, q < 4 ∧ Ok P C W w s q := by
  obtain ⟨r, hr⟩ : ∃ r, W - pl4 s = r + 1 := ⟨W - pl4 s - 1, by omega⟩
  have sm := ob_small (W := W) hP hC (r + 1) s hs (by omega)
  obtain ⟨q, hq, hd, eq⟩ := ob_att (P := P) (C := C) (W := W) (r := r) (s := s) (by omega)
  refine ⟨q, hq, hd, ?_⟩
  rw [lf_more hs hq hd (by omega), show W - pl4 s - 1 = r by omega]
  unfold Lf
  rw [if_neg (by omega), hr, eq, show W - (r + 1) = w by omega]
theorem pw_26 {p : MM → Int64 → Prop} {bk : MM → Int64 → Int32 → Int32 → Int32 → Int32 → Prop} {s w : Nat} (hP : ∀ q, q < 4 → P q ≤ 9) (hC : ∀ j, C j ≤ 40) (hW : W ≤ 6) (hf : f < 4) (hs : s < 256) (hw : w < W) (ex : ∃ q, q < 4 ∧ Ok P C W w s q) : ∀ (n k : Nat) (M : MM) (b v : Nat), k ≤ 4 → PMc P C W M → (∀ x, x < 256 → M 50 x = nI (Lf P C W x)) → M 52 w = nI b → ((b = 1000000 ∧ ∀ x, x < k → ¬ Ok P C W w s x) ∨ (v < k ∧ Ok P C W w s v ∧ b = f + mo f s v ∧ ∀ x, x < k → Ok P C W w s x → mo f s v ≤ mo f s x)) → wX3_placeWants_26 p bk n M tl (nI f) (nI W) (nI s) (nI w) (nI v) (nI k) → ∃ M1 q, Bq P C W f w s q ∧ (∀ a, a ≠ 52 → M1 a = M a) ∧ (∀ j, j ≠ w → M1 52 j = M 52 j) ∧ M1 52 w = nI (f + mo f s q) ∧ bk M1 tl (nI f) (nI W) (nI (s + 4 ^ q)) (nI w + 1) := by
  intro n
  induction n with
  | zero => intro k M b v _ _ _ _ _ h; exact h.elim
  | succ n ih =>
    intro k M b v hk K L e iv h
    unfold wX3_placeWants_26 at h
    by_cases k4 : k = 4
    · subst k4
      have h := ip (by decide) h
      unfold wpX3_withOneMore at h
      rcases iv with ⟨_, no⟩ | ⟨v4, ok, eb, le⟩
      · obtain ⟨q, hq, o⟩ := ex
        exact absurd o (no q hq)
      · rw [(tk_s hs v4).2 ok.1] at h
        exact ⟨M, v, ⟨v4, ok, le⟩, fun _ _ => rfl, fun _ _ => rfl, by rw [e, eb], h⟩
    · have kl : k < 4 := by omega
      have h := iq (fun z => absurd ((kI_le (a := 4) (by omega) (by omega)).mp z) (by omega)) h
      unfold wpX3_taken at h
      have dl := dg_le s k
      have ml := mo_le f s k
      have mi : (nI f + ((nI k - nI f) &&& 3)) + (4 : Int32) * nI (dg s k) = nI (f + mo f s k) := mo_i f hf k kl _ (by omega)
      have bl : b ≤ 1000000 := by
        rcases iv with z | z
        · omega
        · have := mo_le f s v
          omega
      have h : (if (3 : Int32) ≤ ((nI s >>> (((2 : Int32) * nI k) &&& 31)) &&& 3) then wX3_placeWants_66 p bk (wX3_placeWants_26 p bk n) M tl (nI f) (nI W) (nI s) (nI w) (nI v) (nI k) ((nI f + ((nI k - nI f) &&& 3)) + ((4 : Int32) * ((nI s >>> (((2 : Int32) * nI k) &&& 31)) &&& 3))) 0 else wX3_placeWants_66 p bk (wX3_placeWants_26 p bk n) M tl (nI f) (nI W) (nI s) (nI w) (nI v) (nI k) ((nI f + ((nI k - nI f) &&& 3)) + ((4 : Int32) * ((nI s >>> (((2 : Int32) * nI k) &&& 31)) &&& 3))) 1) := h
      rw [(tk_s hs kl).1, mi] at h
      have skip : (¬ Ok P C W w s k ∨ b ≤ f + mo f s k) → wX3_placeWants_121 p bk (wX3_placeWants_26 p bk n) M tl (nI f) (nI W) (nI s) (nI w) (nI v) (nI k) → ∃ M1 q, Bq P C W f w s q ∧ (∀ a, a ≠ 52 → M1 a = M a) ∧ (∀ j, j ≠ w → M1 52 j = M 52 j) ∧ M1 52 w = nI (f + mo f s q) ∧ bk M1 tl (nI f) (nI W) (nI (s + 4 ^ q)) (nI w + 1) := by
        intro c h
        unfold wX3_placeWants_121 at h
        rw [nI_s1] at h
        refine ih (k + 1) M b v (by omega) K L e ?_ h
        rcases iv with ⟨e1, no⟩ | ⟨v4, ok, eb, le⟩
        · refine Or.inl ⟨e1, fun x hx => ?_⟩
          by_cases z : x = k
          · subst z
            rcases c with c | c
            · exact c
            · exact absurd c (by omega)
          · exact no x (by omega)
        · refine Or.inr ⟨by omega, ok, eb, fun x hx o => ?_⟩
          by_cases z : x = k
          · subst z
            rcases c with c | c
            · exact absurd o c
            · omega
          · exact le x (by omega) o
      by_cases d : dg s k < 3
      · have h := iq (fun z => absurd ((kI_le (a := 3) (by omega) (by omega)).mp z) (by omega)) h
        unfold wX3_placeWants_66 at h
        have h := (iq (by decide) h).2
        rw [tn_nI (by omega), e] at h
        by_cases c : b ≤ f + mo f s k
        · exact skip (Or.inr c) (ip ((kB_le (by omega) (by omega)).mpr c) h)
        · have h := (iq (fun z => c ((kB_le (by omega) (by omega)).mp z)) h).2
          rw [K.2 w hw] at h
          have h := (el_costWith hP hs kl d (hC w) K.1 (L _ (pl_add hs kl d).1) h).2
          rw [tn_nI (by omega), L s hs] at h
          have l1 := lf_le (P := P) (C := C) (W := W) (s := s)
          have l2 := lf_le (P := P) (C := C) (W := W) (s := s + 4 ^ k)
          have pm : P k * C w ≤ 9 * 40 := Nat.mul_le_mul (hP k kl) (hC w)
          by_cases eqc : P k * C w + Lf P C W (s + 4 ^ k) = Lf P C W s
          · have h := (ip (by rw [eqc]) h).2 _ rfl
            unfold wX3_placeWants_121 at h
            rw [nI_s1] at h
            obtain ⟨M1, q, a1, a2, a3, a4, a5⟩ := ih (k + 1) _ (f + mo f s k) k (by omega) (pm_keep K (mset_ne (a := 52) (by decide)) (mset_ne (a := 52) (by decide))) (fun x hx => by rw [mset_ne (a := 52) (by decide)]; exact L x hx) (mset_at _ _ _ _) (Or.inr ⟨by omega, ⟨d, eqc⟩, rfl, fun x hx o => by
              by_cases z : x = k
              · subst z; exact Nat.le_refl _
              · rcases iv with ⟨_, no⟩ | ⟨_, _, eb, le⟩
                · exact absurd o (no x (by omega))
                · have := le x (by omega) o
                  omega⟩) h
            exact ⟨M1, q, a1, fun a ha => by rw [a2 a ha, mset_ne ha], fun j hj => by rw [a3 j hj, mset_nk hj], a4, a5⟩
          · have h := iq (fun z => eqc (kB_inj (by omega) (by omega) z)) h
            exact skip (Or.inl (fun o => eqc o.2)) h
      · have h := ip ((kI_le (a := 3) (by omega) (by omega)).mpr (by omega)) h
        unfold wX3_placeWants_66 at h
        exact skip (Or.inl (fun o => d o.1)) (ip rfl h)
theorem pw_5 {p : MM → Int64 → Prop} (hP : ∀ q, q < 4 → P q ≤ 9) (hC : ∀ j, C j ≤ 40) (hW : W ≤ 6) (hf : f < 4) : ∀ (n w s : Nat) (M : MM), w ≤ W → s < 256 → pl4 s = w → PMc P C W M → (∀ x, x < 256 → M 50 x = nI (Lf P C W x)) → wX3_placeWants_5 p n M tl (nI f) (nI W) (nI s) (nI w) → ∃ (M1 : MM) (S : Nat → Nat), p M1 tl ∧ (∀ a, a ≠ 52 → M1 a = M a) ∧ (∀ j, j < w → M1 52 j = M 52 j) ∧ S w = s ∧ ∀ j, w ≤ j → j < W → ∃ q, Bq P C W f j (S j) q ∧ S (j + 1) = S j + 4 ^ q ∧ M1 52 j = nI (f + mo f (S j) q) := by
  intro n
  induction n with
  | zero => intro w s M _ _ _ _ _ h; exact h.elim
  | succ n ih =>
    intro w s M hw hs hp K L h
    unfold wX3_placeWants_5 at h
    by_cases c : w = W
    · subst c
      exact ⟨M, fun _ => s, ip ((kI_le (by omega) (by omega)).mpr (Nat.le_refl _)) h, fun _ _ => rfl, fun _ _ => rfl, rfl, fun j h1 h2 => absurd h2 (by omega)⟩
    · obtain ⟨x, h⟩ := (iq (fun z => absurd ((kI_le (by omega) (by omega)).mp z) (by omega)) h).2 _ rfl
      rw [tn_nI (by omega), i1m] at h
      obtain ⟨M1, q, bq, a2, a3, a4, a5⟩ := pw_26 hP hC hW hf hs (by omega) (ok_ex hP hC hW hs (by omega) hp) x 0 _ 1000000 0 (by omega) (pm_keep K (mset_ne (a := 52) (by decide)) (mset_ne (a := 52) (by decide))) (fun y hy => by rw [mset_ne (a := 52) (by decide)]; exact L y hy) (mset_at _ _ _ _) (Or.inl ⟨rfl, fun y hy => absurd hy (by omega)⟩) h
      rw [nI_s1] at a5
      have pa := pl_add hs bq.1 bq.2.1.1
      have k1 : ∀ a, a ≠ 52 → M1 a = M a := fun a ha => by rw [a2 a ha, mset_ne ha]
      obtain ⟨M2, S, b1, b2, b3, b4, b5⟩ := ih (w + 1) (s + 4 ^ q) M1 (by omega) pa.1 (by omega) (pm_keep K (k1 4 (by decide)) (k1 51 (by decide))) (fun y hy => by rw [k1 50 (by decide)]; exact L y hy) a5
      refine ⟨M2, fun j => if j = w then s else S j, b1, fun a ha => by rw [b2 a ha, k1 a ha], fun j hj => by rw [b3 j (by omega), a3 j (by omega), mset_nk (by omega)], if_pos rfl, fun j h1 h2 => ?_⟩
      show ∃ q, Bq P C W f j (if j = w then s else S j) q ∧ (if j + 1 = w then s else S (j + 1)) = (if j = w then s else S j) + 4 ^ q ∧ M2 52 j = nI (f + mo f (if j = w then s else S j) q)
      rw [if_neg (show ¬ j + 1 = w by omega)]
      by_cases z : j = w
      · subst z
        rw [if_pos rfl]
        exact ⟨q, bq, b4, by rw [b3 j (by omega), a4]⟩
      · rw [if_neg z]
        exact b5 j (by omega) h2
end PLE
