/-! CALLS on both sides: histories, began -/
/-- what was SEEN of a LOT fits one that has something from a month on -/
def FTs (N : MM) (b lot mo : Int32) : Prop := ∀ s, s < 12 → nI s < N 82 78 → N 82 (79 + (4 * s + 0)) = b → N 82 (79 + (4 * s + 1)) = lot → (N 82 (79 + (4 * s + 3)) = 1 ↔ mo ≤ N 82 (79 + (4 * s + 2)))
def ftc (N : MM) (b lot mo : Int32) (s : Nat) : Prop := N 82 (79 + (4 * s + 0)) = b → N 82 (79 + (4 * s + 1)) = lot → (N 82 (79 + (4 * s + 3)) = 1 ↔ mo ≤ N 82 (79 + (4 * s + 2)))
theorem seen_d {N : MM} (i : Inv N) {s : Nat} (hs : s < 12) : (0 ≤ N 82 (79 + (4 * s + 0)) ∧ N 82 (79 + (4 * s + 0)) ≤ 1) ∧ (N 82 (79 + (4 * s + 3)) = 0 ∨ N 82 (79 + (4 * s + 3)) = 1) := by
  have a := i.2.1 (79 + (4 * s + 0))
  have b := i.2.1 (79 + (4 * s + 3))
  rw [Nat.mod_eq_of_lt (by omega)] at a b
  unfold sdom at a b
  rw [if_neg (by omega), if_neg (by omega), if_neg (by omega), if_neg (by omega), if_neg (by omega), if_neg (by omega), if_pos (by omega)] at a
  rw [if_neg (by omega), if_neg (by omega), if_neg (by omega), if_neg (by omega), if_neg (by omega), if_neg (by omega), if_neg (by omega), if_neg (by omega), if_neg (by omega)] at b
  exact ⟨a, by lia⟩
section HI
variable {p q : Int32 → MM → Int64 → Prop} {M N : MM} {tl u : Int64}
theorem lp_fits {b lot mo : Int32} (i : Inv N) : ∀ (n s : Nat) (v4 : Int32), s ≤ 12 → (v4 = 0 ∧ (∃ x, x < 12 ∧ nI x < N 82 78 ∧ ¬ ftc N b lot mo x)) ∨ (v4 = 1 ∧ ∀ x, x < s → nI x < N 82 78 → ftc N b lot mo x) → wX11_fits_6 q n N u b lot mo v4 (nI s) → (FTs N b lot mo → q 1 N u) ∧ (¬ FTs N b lot mo → q 0 N u) := by
  have d78 : 0 ≤ N 82 78 ∧ N 82 78 ≤ 12 := i.2.1 78
  intro n
  induction n with
  | zero => intro s v4 _ _ h; exact h.elim
  | succ n ih =>
    intro s v4 hs hv h
    unfold wX11_fits_6 at h
    have h := h.2
    rw [show (78 : Int32).toNatClampNeg = 78 from by decide] at h
    by_cases cc : N 82 78 ≤ nI s
    · have h := (ip cc h).2
      rcases hv with ⟨e, x, x1, x2, x3⟩ | ⟨e, x⟩
      · subst e
        exact ⟨fun z => absurd (z x x1 x2) x3, fun _ => h⟩
      · subst e
        refine ⟨fun _ => h, fun z => absurd (fun y hy1 hy2 => x y ?_ hy2) z⟩
        exact (kI_lt (by omega) (by omega)).mp (by clear ih x; lia)
    · have s12 : s < 12 := by
        rcases Nat.lt_or_ge s 12 with z | z
        · exact z
        · have e : s = 12 := by omega
          subst e
          exact absurd d78.2 cc
      have ss : nI s < N 82 78 := by clear ih hv; lia
      have h := iq cc h
      have k1 : (ftc N b lot mo s) → v4 = 1 → wX11_fits_89 q (wX11_fits_6 q n) N u b lot mo (nI s) → (FTs N b lot mo → q 1 N u) ∧ (¬ FTs N b lot mo → q 0 N u) := fun z e h => by
        unfold wX11_fits_89 wX11_fits_94 at h
        rw [nI_s1] at h
        refine ih (s + 1) 1 (by omega) (Or.inr ⟨rfl, fun x hx y => ?_⟩) h
        rcases hv with ⟨e0, _⟩ | ⟨_, g⟩
        · rw [e] at e0; exact absurd e0 (by decide)
        · by_cases xs : x = s
          · subst xs; exact z
          · exact g x (by omega) y
      have k0 : (∃ x, x < 12 ∧ nI x < N 82 78 ∧ ¬ ftc N b lot mo x) → wX11_fits_93 q (wX11_fits_6 q n) N u b lot mo (nI s) → (FTs N b lot mo → q 1 N u) ∧ (¬ FTs N b lot mo → q 0 N u) := fun z h => by
        unfold wX11_fits_93 wX11_fits_94 at h
        rw [nI_s1] at h
        exact ih (s + 1) 0 (by omega) (Or.inl ⟨rfl, z⟩) h
      rcases hv with ⟨e, x⟩ | ⟨e, _⟩
      · exact k0 x (ip e h)
      · have h := (iq (show ¬ v4 = 0 by rw [e]; decide) h).2
        have ix := ix79 s s12
        rw [ix.2.1, ix.2.2.1, ix.2.2.2, ix.1, tn_nI (by omega), tn_nI (by omega), tn_nI (by omega), tn_nI (by omega)] at h
        by_cases c1 : N 82 (79 + (4 * s + 0)) = b
        · have h := (ip c1 h).2
          by_cases c2 : N 82 (79 + (4 * s + 1)) = lot
          · have h := (ip c2 h).2.2
            have sd := (seen_d i s12).2
            by_cases c3 : N 82 (79 + (4 * s + 2)) < mo
            · have h := ip c3 h
              unfold wX11_fits_83 at h
              have h := (el_flag h).1 rfl
              by_cases c4 : N 82 (79 + (4 * s + 3)) = 0
              · refine k1 (fun _ _ => ⟨fun z => ?_, fun z => ?_⟩) e (ip c4 h)
                · rw [c4] at z; exact absurd z (by decide)
                · exfalso; clear ih k1 k0; lia
              · refine k0 ⟨s, s12, ss, fun z => ?_⟩ (iq c4 h)
                have := (z c1 c2).mp (sd.resolve_left c4)
                clear ih k1 k0; lia
            · have h := iq c3 h
              unfold wX11_fits_83 at h
              have h := (el_flag h).2 (by decide)
              by_cases c4 : N 82 (79 + (4 * s + 3)) = 1
              · exact k1 (fun _ _ => ⟨fun z => by clear ih k1 k0; lia, fun z => c4⟩) e (ip c4 h)
              · refine k0 ⟨s, s12, ss, fun z => ?_⟩ (iq c4 h)
                exact c4 ((z c1 c2).mpr (by clear ih k1 k0; lia))
          · exact k1 (fun _ z => absurd z c2) e (iq c2 h)
        · exact k1 (fun z => absurd z c1) e (iq c1 h)
theorem el_r_fits {b lot mo : Int32} (i : Inv N) (h : wpX11_fits q N u b lot mo) : (FTs N b lot mo → q 1 N u) ∧ (¬ FTs N b lot mo → q 0 N u) := by
  unfold wpX11_fits at h
  obtain ⟨n, h⟩ := h
  exact lp_fits i n 0 1 (by omega) (Or.inr ⟨rfl, fun x hx => absurd hx (by omega)⟩) h
theorem lp_seen {v1 v2 v3 v4 : Int32} (R : RA M N) (i : Inv N) : ∀ (n s : Nat), s ≤ 12 → (∀ x, x < s → nI x < N 82 78 → ftc N 0 v1 v2 x ∧ ftc N 1 v4 v3 x) → wX2_fitsSeen_23 p n M tl v1 v2 v3 v4 (nI s) → ((FTs N 0 v1 v2 ∧ FTs N 1 v4 v3) → p 1 M tl) ∧ (¬ (FTs N 0 v1 v2 ∧ FTs N 1 v4 v3) → p 0 M tl) := by
  have d78 : 0 ≤ N 82 78 ∧ N 82 78 ≤ 12 := i.2.1 78
  have e20 : M 20 3 = N 82 78 := R.2.1.2.2.2.1
  intro n
  induction n with
  | zero => intro s _ _ h; exact h.elim
  | succ n ih =>
    intro s hs hv h
    unfold wX2_fitsSeen_23 at h
    rw [e20] at h
    by_cases cc : N 82 78 ≤ nI s
    · refine ⟨fun _ => ip cc h, fun z => absurd ⟨fun y hy1 hy2 => (hv y ?_ hy2).1, fun y hy1 hy2 => (hv y ?_ hy2).2⟩ z⟩
      · exact (kI_lt (by omega) (by omega)).mp (by clear ih hv R; lia)
      · exact (kI_lt (by omega) (by omega)).mp (by clear ih hv R; lia)
    · have s12 : s < 12 := by
        rcases Nat.lt_or_ge s 12 with z | z
        · exact z
        · have e : s = 12 := by omega
          subst e
          exact absurd d78.2 cc
      have ss : nI s < N 82 78 := by clear ih hv R; lia
      have cell : ∀ {pp : Int32 → MM → Int64 → Prop} (c : Nat), c < 4 → wpX5_cell pp M tl 20 (nI s) (nI c) → pp (N 82 (79 + (4 * s + c))) M tl := fun c hc h => by
        have h := (el_cell (W := 4) (by decide) (by omega) hc (by omega) h).1 (by rw [e20]; exact ss)
        rw [show 20 + 1 = 21 from rfl, R.2.1.2.2.2.2 s s12 ss c hc] at h
        exact h
      have sd := seen_d i s12
      have go : ftc N 0 v1 v2 s → ftc N 1 v4 v3 s → wX2_fitsSeen_125 p (wX2_fitsSeen_23 p n) M tl v1 v2 v3 v4 (nI s) → ((FTs N 0 v1 v2 ∧ FTs N 1 v4 v3) → p 1 M tl) ∧ (¬ (FTs N 0 v1 v2 ∧ FTs N 1 v4 v3) → p 0 M tl) := fun z1 z2 h => by
        unfold wX2_fitsSeen_125 at h
        rw [nI_s1] at h
        refine ih (s + 1) (by omega) (fun x hx y => ?_) h
        by_cases xs : x = s
        · subst xs; exact ⟨z1, z2⟩
        · exact hv x (by omega) y
      have stop : ¬ (ftc N 0 v1 v2 s ∧ ftc N 1 v4 v3 s) → p 0 M tl → ((FTs N 0 v1 v2 ∧ FTs N 1 v4 v3) → p 1 M tl) ∧ (¬ (FTs N 0 v1 v2 ∧ FTs N 1 v4 v3) → p 0 M tl) := fun z h => ⟨fun y => absurd ⟨y.1 s s12 ss, y.2 s s12 ss⟩ z, fun _ => h⟩
      -- the cells of one that was SEEN of this LOT
      have look : ∀ (b lot mo : Int32), N 82 (79 + (4 * s + 0)) = b → N 82 (79 + (4 * s + 1)) = lot → (ftc N b lot mo s → wX2_fitsSeen_125 p (wX2_fitsSeen_23 p n) M tl v1 v2 v3 v4 (nI s) → ((FTs N 0 v1 v2 ∧ FTs N 1 v4 v3) → p 1 M tl) ∧ (¬ (FTs N 0 v1 v2 ∧ FTs N 1 v4 v3) → p 0 M tl)) → (¬ ftc N b lot mo s → p 0 M tl → ((FTs N 0 v1 v2 ∧ FTs N 1 v4 v3) → p 1 M tl) ∧ (¬ (FTs N 0 v1 v2 ∧ FTs N 1 v4 v3) → p 0 M tl)) → wX2_fitsSeen_83 p (wX2_fitsSeen_23 p n) M tl v1 v2 v3 v4 (nI s) mo → ((FTs N 0 v1 v2 ∧ FTs N 1 v4 v3) → p 1 M tl) ∧ (¬ (FTs N 0 v1 v2 ∧ FTs N 1 v4 v3) → p 0 M tl) := by
        intro b lot mo eb el good bad h
        unfold wX2_fitsSeen_83 at h
        have h := cell 2 (by omega) h
        have fin : ∀ st : Int32, (st = 1 ∧ mo ≤ N 82 (79 + (4 * s + 2))) ∨ (st = 0 ∧ ¬ mo ≤ N 82 (79 + (4 * s + 2))) → wX2_fitsSeen_99 p (wX2_fitsSeen_23 p n) M tl v1 v2 v3 v4 (nI s) st → ((FTs N 0 v1 v2 ∧ FTs N 1 v4 v3) → p 1 M tl) ∧ (¬ (FTs N 0 v1 v2 ∧ FTs N 1 v4 v3) → p 0 M tl) := by
          intro st hst h
          unfold wX2_fitsSeen_99 at h
          have h := cell 3 (by omega) h
          by_cases c4 : N 82 (79 + (4 * s + 3)) = 1
          · have h := ip c4 h
            unfold wX2_fitsSeen_120 at h
            rcases hst with ⟨e, y⟩ | ⟨e, y⟩
            · exact good (fun _ _ => ⟨fun _ => y, fun _ => c4⟩) (ip e h)
            · exact bad (fun z => y ((z eb el).mp c4)) (iq (by rw [e]; decide) h)
          · have h := iq c4 h
            unfold wX2_fitsSeen_120 at h
            rcases hst with ⟨e, y⟩ | ⟨e, y⟩
            · exact bad (fun z => c4 ((z eb el).mpr y)) (iq (by rw [e]; decide) h)
            · exact good (fun _ _ => ⟨fun z => absurd z c4, fun z => absurd z y⟩) (ip e h)
        by_cases c3 : N 82 (79 + (4 * s + 2)) < mo
        · exact fin 0 (Or.inr ⟨rfl, by clear ih hv R go stop; lia⟩) (ip c3 h)
        · exact fin 1 (Or.inl ⟨rfl, by clear ih hv R go stop; lia⟩) (iq c3 h)
      have h := cell 0 (by omega) (iq cc h)
      by_cases c0 : N 82 (79 + (4 * s + 0)) = 0
      · have h := ip c0 h
        unfold wX2_fitsSeen_49 at h
        have h := iq (show ¬ (1 : Int32) = 0 by decide) (cell 1 (by omega) h)
        unfold wX2_fitsSeen_70 at h
        have n1 : ftc N 1 v4 v3 s := fun z => by rw [c0] at z; exact absurd z (by decide)
        by_cases c1 : N 82 (79 + (4 * s + 1)) = v1
        · exact look 0 v1 v2 c0 c1 (fun z h => go z n1 h) (fun z h => stop (fun y => z y.1) h) (iq (show ¬ (1 : Int32) = 0 by decide) (ip c1 h))
        · exact go (fun _ z => absurd z c1) n1 (iq c1 h)
      · have b1 : N 82 (79 + (4 * s + 0)) = 1 := by have := sd.1; clear ih hv R go stop look; lia
        have h := iq c0 h
        unfold wX2_fitsSeen_49 at h
        have h := ip rfl (cell 1 (by omega) h)
        unfold wX2_fitsSeen_70 at h
        have n0 : ftc N 0 v1 v2 s := fun z => by rw [b1] at z; exact absurd z (by decide)
        by_cases c1 : N 82 (79 + (4 * s + 1)) = v4
        · exact look 1 v4 v3 b1 c1 (fun z h => go n0 z h) (fun z h => stop (fun y => z y.2) h) (ip rfl (ip c1 h))
        · exact go n0 (fun _ z => absurd z c1) (iq c1 h)
theorem el_c_seen {v1 v2 v3 : Int32} (R : RA M N) (i : Inv N) (h : wpX2_fitsSeen p M tl v1 v2 v3) : ((FTs N 0 v1 v2 ∧ FTs N 1 (mat N 0 v1) v3) → p 1 M tl) ∧ (¬ (FTs N 0 v1 v2 ∧ FTs N 1 (mat N 0 v1) v3) → p 0 M tl) := by
  unfold wpX2_fitsSeen at h
  obtain ⟨n, h⟩ := el_c_matchOf R.1 h
  exact lp_seen R i n 0 (by omega) (fun x hx => absurd hx (by omega)) h
theorem el_c_hasH {i : Nat} (hi : i < 8) (R : RA M N) (h : wpX2_hasHistory p M tl (nI i)) : ((mat N 0 (nI i) ≠ -4 ∧ N 82 i ≠ 0 ∧ mirF N (N 82 i) = N 82 (8 + (mat N 0 (nI i)).toNatClampNeg)) → p 1 M tl) ∧ (¬ (mat N 0 (nI i) ≠ -4 ∧ N 82 i ≠ 0 ∧ mirF N (N 82 i) = N 82 (8 + (mat N 0 (nI i)).toNatClampNeg)) → p 0 M tl) := by
  unfold wpX2_hasHistory at h
  have h := el_c_thingAt (b := 0) (by omega) hi R (el_c_matchOf R.1 h)
  rw [show 8 * 0 + i = i by omega] at h
  by_cases c1 : mat N 0 (nI i) = -4
  · exact ⟨fun z => absurd c1 z.1, fun _ => ip c1 h⟩
  · have h := iq c1 h
    by_cases c2 : N 82 i = 0
    · exact ⟨fun z => absurd c2 z.2.1, fun _ => ip c2 h⟩
    · obtain ⟨j, hj, ej, _⟩ := mat_n (rl_lots R.1) c1
      have h := iq c2 h
      rw [ej] at h
      rw [ej, tn_nI (by omega)]
      have h := el_c_isEven R.1 (ra_tt R (by omega)) (el_c_thingAt (b := 1) (by omega) hj R h)
      rw [show 8 * 1 + j = 8 + j by omega] at h
      by_cases c3 : mirF N (N 82 i) = N 82 (8 + j)
      · exact ⟨fun _ => i10 (h.1 c3), fun z => absurd ⟨n4n (by omega), c2, c3⟩ z⟩
      · exact ⟨fun z => absurd z.2.2 c3, fun _ => i00 (h.2 c3)⟩
theorem el_r_told {i : Nat} (hi : i < 8) (R : RA M N) (h : wpX11_isTold q N u (nI i)) : ((mat N 0 (nI i) ≠ -4 ∧ N 82 i ≠ 0 ∧ mirF N (N 82 i) = N 82 (8 + (mat N 0 (nI i)).toNatClampNeg)) → q 1 N u) ∧ (¬ (mat N 0 (nI i) ≠ -4 ∧ N 82 i ≠ 0 ∧ mirF N (N 82 i) = N 82 (8 + (mat N 0 (nI i)).toNatClampNeg)) → q 0 N u) := by
  unfold wpX11_isTold at h
  have h := el_r_matchOf (rl_lots R.1) h
  by_cases c1 : mat N 0 (nI i) = -4
  · exact ⟨fun z => absurd c1 z.1, fun _ => ip c1 h⟩
  · have h := (iq c1 h).2
    rw [tn_nI (by omega)] at h
    by_cases c2 : N 82 i = 0
    · exact ⟨fun z => absurd c2 z.2.1, fun _ => ip c2 h⟩
    · obtain ⟨j, hj, ej, _⟩ := mat_n (rl_lots R.1) c1
      have h := (iq c2 h).2.2
      have e8 : (8 : Int32) + nI j = nI (8 + j) := kI_add 8 j
      rw [ej, e8, tn_nI (by omega)] at h
      rw [ej, tn_nI (by omega)]
      have h := el_r_mirrorOf h
      by_cases c3 : mirF N (N 82 i) = N 82 (8 + j)
      · exact ⟨fun _ => ip c3.symm h, fun z => absurd ⟨n4n (by omega), c2, c3⟩ z⟩
      · exact ⟨fun z => absurd z.2.2 c3, fun _ => iq (fun z => c3 z.symm) h⟩
end HI
