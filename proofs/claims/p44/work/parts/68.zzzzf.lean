/-! CALLS on both sides: vex -/
theorem ra_48 {M M1 N : MM} {c : Nat} (h : RA M N) (hc : 43 ≤ c ∧ c < 54) (e : ∀ a, a ≠ c → M1 a = M a) : RA M1 N :=
  ra_scene h (fun a ha => e a (by omega)) (fun _ _ => rfl) (fun _ _ => rfl) (rsg_m h.2.1 (e _ (by omega)) (by rw [e _ (by omega)]) (e _ (by omega)) (by rw [e _ (by omega)]) (e _ (by omega)) (by rw [e _ (by omega)]) (e _ (by omega)))
def vxF (N : MM) (b j k : Nat) : Int32 := N 85 (6 * (1 - b) + twN N k) + N 86 (6 * (1 - b) + kdN N (1 - b) j) - N 86 (6 * (1 - b) + twN N k)
def vxM (M : MM) (V : Int32) (i k : Nat) : MM := mset (mset (mset M 48 0 V) 48 1 (nI i)) 48 2 (nI k)
/-- the greatest VEX so far: class's M, the reference's numbers -/
def VR (N : MM) (b : Nat) (M : MM) (most least lot kind : Int32) : Prop := (M 48 0 = most ∧ M 48 1 = lot) ∧ ((lot = -4 ∧ M 48 2 = 0 ∧ kind = -4) ∨ (0 ≤ lot ∧ ∃ kk, 1 ≤ kk ∧ kk < 6 ∧ kind = nI kk ∧ M 48 2 = nI kk ∧ least = N 85 (6 * b + kk)))
section VX
variable {M N : MM} {tl u : Int64}
theorem el_125 {p : MM → Int64 → Prop} {V : Int32} {i k : Nat} (h : wX0_weighVex_125 p M tl (nI i) (nI k) V) : p (vxM M V i k) tl := by
  unfold wX0_weighVex_125 at h
  exact h _ rfl _ rfl _ rfl
theorem el_weigh {p : MM → Int64 → Prop} {b i j k kk : Nat} (hb : b < 2) (hj : j < 8) (hk : k < 6) (hkk : kk < 6) (e2 : M 48 2 = nI kk) (R : RA M N) (h : wpX0_weighVex p M tl (nI b) (nI i) (nI j) (nI k)) : ((M 48 1 = -4 ∨ M 48 0 < vxF N b j k ∨ (vxF N b j k = M 48 0 ∧ ¬ N 85 (6 * b + kk) ≤ N 85 (6 * b + k))) → p (vxM M (vxF N b j k) i k) tl) ∧ (¬ (M 48 1 = -4 ∨ M 48 0 < vxF N b j k ∨ (vxF N b j k = M 48 0 ∧ ¬ N 85 (6 * b + kk) ≤ N 85 (6 * b + k))) → p M tl) := by
  unfold wpX0_weighVex at h
  obtain ⟨t1, t2, _⟩ := tw_n R.1 hk
  have h := el_c_twinOf hk R.1 h
  rw [t2, nI_1b hb] at h
  have h := el_c_costOf (by omega) t1 R.1 h
  have h := el_c_kindN (by omega) hj R h
  have h := el_c_tasteOf (by omega) (kd_n R (show 1 - b < 2 by omega) hj).1 R.1 h
  have h := el_c_tasteOf (by omega) t1 R.1 h
  have fin : ∀ (s : Int32) (C : Prop), (s ≠ 0 ↔ C) → wX0_weighVex_100 p M tl (nI i) (nI k) (vxF N b j k) s → ((M 48 1 = -4 ∨ M 48 0 < vxF N b j k ∨ C) → p (vxM M (vxF N b j k) i k) tl) ∧ (¬ (M 48 1 = -4 ∨ M 48 0 < vxF N b j k ∨ C) → p M tl) := by
    intro s C hC h
    unfold wX0_weighVex_100 at h
    by_cases d1 : M 48 1 = -4
    · exact ⟨fun _ => el_125 (ip d1 h), fun z => absurd (Or.inl d1) z⟩
    · have h := iq d1 h
      by_cases d2 : M 48 0 < vxF N b j k
      · exact ⟨fun _ => el_125 (ip d2 h), fun z => absurd (Or.inr (Or.inl d2)) z⟩
      · have h := iq d2 h
        by_cases d3 : s = 0
        · exact ⟨fun z => z.elim (fun z => absurd z d1) (fun z => z.elim (fun z => absurd z d2) (fun z => absurd d3 (hC.mpr z))), fun _ => ip d3 h⟩
        · exact ⟨fun _ => el_125 (iq d3 h), fun z => absurd (Or.inr (Or.inr (hC.mp d3))) z⟩
  by_cases c1 : vxF N b j k = M 48 0
  · have h := el_c_costOf hb hk R.1 (ip c1 h)
    rw [e2] at h
    have h := el_c_costOf hb hkk R.1 h
    by_cases c2 : N 85 (6 * b + kk) ≤ N 85 (6 * b + k)
    · have h := ip c2 h
      unfold wX0_weighVex_99 at h
      exact fin 0 _ ⟨fun z => absurd rfl z, fun z => absurd c2 z.2⟩ h
    · exact fin 1 _ ⟨fun _ => ⟨c1, c2⟩, fun _ => by decide⟩ (iq c2 h)
  · have h := iq c1 h
    unfold wX0_weighVex_99 at h
    exact fin 0 _ ⟨fun z => absurd rfl z, fun z => absurd z.1 c1⟩ h
theorem lp_vk {p : MM → Int64 → Prop} {q : Int32 → MM → Int64 → Prop} {bkA : MM → Int64 → Int32 → Int32 → Prop} {bkB : MM → Int64 → Int32 → Int32 → Int32 → Int32 → Int32 → Int32 → Int32 → Int32 → Prop} {b i j : Nat} {v2 : Int32} (hb : b < 2) (hi : i < 8) (hj : j < 8) : ∀ (n n' k : Nat) (M : MM) (most least lot kind : Int32), 1 ≤ k → k ≤ 6 → RA M N → VR N b M most least lot kind → wX0_findVex_42 p bkA n M tl (nI b) (nI i) (nI j) (nI k) → wX11_vex_66 q bkB n' N u (nI b) v2 most least lot kind (nI (6 * (1 - b))) (nI i) (nI j) (nI k) → ∃ M1 m1 l1 o1 k1, RA M1 N ∧ VR N b M1 m1 l1 o1 k1 ∧ bkA M1 tl (nI b) (nI (i + 1)) ∧ bkB N u (nI b) v2 m1 l1 o1 k1 (nI (6 * (1 - b))) (nI (i + 1)) := by
  intro n
  induction n with
  | zero => intro n' k M most least lot kind _ _ _ _ h; exact h.elim
  | succ n ih =>
    intro n' k M most least lot kind h1 h6 R V hA hB
    cases n' with
    | zero => exact hB.elim
    | succ n' =>
    unfold wX0_findVex_42 at hA
    unfold wX11_vex_66 at hB
    by_cases c : (6 : Int32) ≤ nI k
    · have hA := ip c hA
      have hB := ip c hB
      unfold wX0_findVex_98 at hA
      unfold wX11_vex_228 at hB
      rw [nI_s1] at hA hB
      exact ⟨M, _, _, _, _, R, V, hA, hB⟩
    · have k6 : k < 6 := by
        rcases Nat.lt_or_ge k 6 with z | z
        · exact z
        · exact absurd ((kI_le (a := 6) (by omega) (by omega)).mpr z) c
      have hA := el_c_kindN hb hi R (iq (n4n (by omega)) (iq c hA))
      have hB := (iq (n4n (by omega)) (iq c hB)).2.2
      obtain ⟨t1, t2, _⟩ := tw_n R.1 k6
      have d6 := (kd_n R (show 1 - b < 2 by omega) hj).1
      rw [nI_1b hb, tn_nI (by omega), t2, kI_add, tn_nI (by omega)] at hB
      have hB := (el_r_kindN (by omega) hj R hB).2.2.2.2
      rw [t2, kI_add, kI_add, tn_nI (by omega), tn_nI (by omega), k6_r b hb k k6, tn_nI (by omega)] at hB
      have hB := el_r_mayBe hb k6 R.1 hB
      have skA : wX0_findVex_92 p bkA (wX0_findVex_42 p bkA n) M tl (nI b) (nI i) (nI j) (nI k) → wX0_findVex_42 p bkA n M tl (nI b) (nI i) (nI j) (nI (k + 1)) := fun h => by
        unfold wX0_findVex_92 at h
        rw [nI_s1] at h
        exact h
      have skB : ∀ m c2, wX11_vex_173 q bkB (wX11_vex_66 q bkB n') N u (nI b) v2 most least lot kind (nI (6 * (1 - b))) (nI i) (nI j) (nI k) m c2 → wX11_vex_66 q bkB n' N u (nI b) v2 most least lot kind (nI (6 * (1 - b))) (nI i) (nI j) (nI (k + 1)) := fun m c2 h => by
        unfold wX11_vex_173 wX11_vex_174 at h
        have h := ip rfl h
        unfold wX11_vex_222 at h
        rw [nI_s1] at h
        exact h
      by_cases c2 : nI k = nI (kdN N b i)
      · have hA := skA (ip c2 hA)
        by_cases c3 : mbP N b (nI i) k
        · have hB := el_r_kindN hb hi R (i10 (hB.1 c3))
          exact ih n' (k + 1) M _ _ _ _ (by omega) (by omega) R V hA (skB _ _ (ip c2 hB))
        · exact ih n' (k + 1) M _ _ _ _ (by omega) (by omega) R V hA (skB _ _ (i00 (hB.2 c3)))
      · have hA := el_c_mayBuild hb k6 R.1 (iq c2 hA)
        by_cases c3 : mbP N b (nI i) k
        · have hA := i10 (hA.1 c3)
          have hB := iq c2 (el_r_kindN hb hi R (i10 (hB.1 c3)))
          obtain ⟨⟨w0, w1⟩, w2⟩ := V
          obtain ⟨kk, hkk, ekk, wl⟩ : ∃ kk, kk < 6 ∧ M 48 2 = nI kk ∧ (lot ≠ -4 → least = N 85 (6 * b + kk)) := by
            rcases w2 with ⟨z1, z2, _⟩ | ⟨z1, kk, y1, y2, y3, y4, y5⟩
            · exact ⟨0, by omega, z2, fun z => absurd z1 z⟩
            · exact ⟨kk, y2, y4, fun _ => y5⟩
          have hA := el_weigh hb hj k6 hkk ekk R hA
          rw [w0, w1] at hA
          unfold wX11_vex_174 at hB
          have hB := iq (show ¬ (1 : Int32) = 0 by decide) hB
          -- taken
          have take : (lot = -4 ∨ most < vxF N b j k ∨ (vxF N b j k = most ∧ ¬ N 85 (6 * b + kk) ≤ N 85 (6 * b + k))) → wX11_vex_207 q bkB (wX11_vex_66 q bkB n') N u (nI b) v2 (nI (6 * (1 - b))) (nI i) (nI j) (nI k) (vxF N b j k) (N 85 (6 * b + k)) → ∃ M1 m1 l1 o1 k1, RA M1 N ∧ VR N b M1 m1 l1 o1 k1 ∧ bkA M1 tl (nI b) (nI (i + 1)) ∧ bkB N u (nI b) v2 m1 l1 o1 k1 (nI (6 * (1 - b))) (nI (i + 1)) := by
            intro acc hB
            have hA := hA.1 acc
            unfold wX0_findVex_92 at hA
            unfold wX11_vex_207 wX11_vex_222 at hB
            rw [nI_s1] at hA hB
            have ne : ∀ a, a ≠ 48 → vxM M (vxF N b j k) i k a = M a := fun a ha => by
              unfold vxM
              rw [mset_ne ha, mset_ne ha, mset_ne ha]
            refine ih n' (k + 1) _ _ _ _ _ (by omega) (by omega) (ra_48 R (by omega) ne) ⟨⟨?_, ?_⟩, Or.inr ⟨nJ_ge0 (by omega), k, h1, k6, rfl, ?_, rfl⟩⟩ hA hB
            · unfold vxM
              rw [mset_nk (by decide), mset_nk (by decide), mset_at]
            · unfold vxM
              rw [mset_nk (by decide), mset_at]
            · unfold vxM
              rw [mset_at]
          have leave : ¬ (lot = -4 ∨ most < vxF N b j k ∨ (vxF N b j k = most ∧ ¬ N 85 (6 * b + kk) ≤ N 85 (6 * b + k))) → wX11_vex_222 q bkB (wX11_vex_66 q bkB n') N u (nI b) v2 most least lot kind (nI (6 * (1 - b))) (nI i) (nI j) (nI k) → ∃ M1 m1 l1 o1 k1, RA M1 N ∧ VR N b M1 m1 l1 o1 k1 ∧ bkA M1 tl (nI b) (nI (i + 1)) ∧ bkB N u (nI b) v2 m1 l1 o1 k1 (nI (6 * (1 - b))) (nI (i + 1)) := by
            intro acc hB
            have hA := skA (hA.2 acc)
            unfold wX11_vex_222 at hB
            rw [nI_s1] at hB
            exact ih n' (k + 1) _ _ _ _ _ (by omega) (by omega) R ⟨⟨w0, w1⟩, w2⟩ hA hB
          by_cases d1 : lot = -4
          · exact take (Or.inl d1) (ip d1 hB)
          · have hB := iq d1 hB
            by_cases d2 : most < vxF N b j k
            · exact take (Or.inr (Or.inl d2)) (ip d2 hB)
            · have hB := iq d2 hB
              by_cases d3 : vxF N b j k = most
              · have hB := ip d3 hB
                have wl := wl d1
                by_cases d4 : least ≤ N 85 (6 * b + k)
                · refine leave (fun z => ?_) (ip d4 hB)
                  rcases z with z | z | z
                  · exact d1 z
                  · exact d2 z
                  · rw [wl] at d4; exact z.2 d4
                · refine take (Or.inr (Or.inr ⟨d3, ?_⟩)) (iq d4 hB)
                  rw [← wl]; exact d4
              · refine leave (fun z => ?_) (iq d3 hB)
                rcases z with z | z | z
                · exact d1 z
                · exact d2 z
                · exact d3 z.1
        · exact ih n' (k + 1) M _ _ _ _ (by omega) (by omega) R V (skA (i00 (hA.2 c3))) (skB _ _ (i00 (hB.2 c3)))
theorem lp_vi {p : MM → Int64 → Prop} {q : Int32 → MM → Int64 → Prop} {b : Nat} {v2 : Int32} (hb : b < 2) : ∀ (n n' i : Nat) (M : MM) (most least lot kind : Int32), i ≤ 8 → RA M N → VR N b M most least lot kind → wX0_findVex_18 p n M tl (nI b) (nI i) → wX11_vex_45 q n' N u (nI b) v2 most least lot kind (nI (6 * (1 - b))) (nI i) → ∃ M1 m1 l1 o1 k1, VR N b M1 m1 l1 o1 k1 ∧ p M1 tl ∧ (if o1 = (-4) then q (-4) N u else (if v2 = 0 then q (m1 + 1000) N u else (if v2 = 1 then q o1 N u else q k1 N u))) := by
  intro n
  induction n with
  | zero => intro n' i M most least lot kind _ _ _ h; exact h.elim
  | succ n ih =>
    intro n' i M most least lot kind hi R V hA hB
    cases n' with
    | zero => exact hB.elim
    | succ n' =>
    have l := rl_lots R.1
    unfold wX0_findVex_18 at hA
    unfold wX11_vex_45 at hB
    rw [rl_0 R.1] at hA
    by_cases cc : N 81 2 ≤ nI i
    · exact ⟨M, _, _, _, _, V, ip cc hA, ip cc hB⟩
    · have i8 : i < 8 := (kI_lt (b := 8) (by omega) (by omega)).mp (show nI i < (8 : Int32) by clear R ih V; lia)
      obtain ⟨x, hA⟩ := el_c_matchOf R.1 (iq cc hA)
      obtain ⟨y, hB⟩ := el_r_matchOf l (iq cc hB)
      by_cases c1 : mat N (nI b) (nI i) = -4
      · cases x with
        | zero => exact hA.elim
        | succ x =>
        cases y with
        | zero => exact hB.elim
        | succ y =>
        unfold wX0_findVex_42 at hA
        unfold wX11_vex_66 at hB
        have hA := ip c1 (iq (by decide) hA)
        have hB := ip c1 (iq (by decide) hB)
        unfold wX0_findVex_98 at hA
        unfold wX11_vex_228 at hB
        rw [nI_s1] at hA hB
        exact ih n' (i + 1) M _ _ _ _ (by omega) R V hA hB
      · obtain ⟨j, hj, ej, _⟩ := mat_n l c1
        rw [ej] at hA hB
        obtain ⟨M1, m1, l1, o1, k1, R1, V1, hA, hB⟩ := lp_vk hb i8 hj x y 1 M _ _ _ _ (by omega) (by omega) R V hA hB
        exact ih n' (i + 1) M1 _ _ _ _ (by omega) R1 V1 hA hB
theorem pe_vex {p q : Int32 → MM → Int64 → Prop} {v1 v2 : Int32} (R : RA M N) (hA : wpX10_vex p M tl v1 v2) (hB : wpX11_vex q N u v1 v2) : PE p q := by
  unfold wpX10_vex at hA
  unfold wpX11_vex at hB
  have hA := el_isBank hA
  have hB := el_r_isBank hB
  by_cases c : 0 ≤ v1 ∧ v1 < 2
  · have hA := i10 (hA.1 c)
    have hB := el_in 0 2 rfl rfl rfl (i10 (hB.1 c))
    by_cases c2 : 0 ≤ v2 ∧ v2 ≤ 2
    · have hA := ip c2.2 (iq (show ¬ v2 < 0 by lia) hA)
      obtain ⟨n', hB⟩ := i10 (hB.1 c2)
      obtain ⟨b, hb, eb⟩ := cdN (v := v1) 2 (by omega) c.1 c.2
      subst eb
      unfold wpX0_findVex at hA
      obtain ⟨n, hA⟩ := hA _ rfl _ rfl _ rfl
      have e6 : (6 : Int32) * ((1 : Int32) - nI b) = nI (6 * (1 - b)) := by
        rcases (by omega : b = 0 ∨ b = 1) with e | e <;> subst e <;> decide
      rw [e6] at hB
      obtain ⟨M1, m1, l1, o1, k1, V1, hA, hB⟩ := lp_vi hb n n' 0 _ 0 0 (-4) (-4) (by omega) (ra_48 R (c := 48) (by omega) (fun a ha => by rw [mset_ne ha, mset_ne ha, mset_ne ha])) ⟨⟨rfl, rfl⟩, Or.inl ⟨rfl, rfl, rfl⟩⟩ hA hB
      obtain ⟨⟨w0, w1⟩, w2⟩ := V1
      rcases w2 with ⟨z1, z2, z3⟩ | ⟨z1, kk, y1, y2, y3, y4, y5⟩
      · rw [z1] at w1
        exact pe0 (iq (show ¬ 0 ≤ M1 48 1 by rw [w1]; decide) hA) (ip z1 hB) rfl
      · have hA := ip (show 0 ≤ M1 48 1 by rw [w1]; exact z1) hA
        have hB := iq (show ¬ o1 = -4 from fun z => by rw [z] at z1; exact absurd z1 (by decide)) hB
        by_cases d0 : v2 = 0
        · exact pe0 (ip d0 hA) (ip d0 hB) (by rw [w0])
        · have hA := iq d0 hA
          have hB := iq d0 hB
          by_cases d1 : v2 = 1
          · exact pe0 (ip d1 hA) (ip d1 hB) w1
          · exact pe0 (iq d1 hA) (iq d1 hB) (by rw [y4, y3])
    · have hB := i00 (hB.2 c2)
      by_cases c3 : v2 < 0
      · exact pe0 (ip c3 hA) hB rfl
      · exact pe0 (iq (show ¬ v2 ≤ 2 by lia) (iq c3 hA)) hB rfl
  · exact pe0 (i00 (hA.2 c)) (i00 (hB.2 c)) rfl
end VX
