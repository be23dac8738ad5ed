/-! FORMULAS ARE DETERMINED (printed by wip/gen/dt.py) -/
def DET3 {R : Type} (W : (R → MM → Int64 → Prop) → Prop) : Prop := ∀ p, W p → ∃ r M1 t1, p r M1 t1 ∧ ∀ q, q r M1 t1 → W q
def DET2 (W : (MM → Int64 → Prop) → Prop) : Prop := ∀ p, W p → ∃ M1 t1, p M1 t1 ∧ ∀ q, q M1 t1 → W q
theorem dt2_no : DET2 (fun _ : (MM → Int64 → Prop) => False) := fun _ h => h.elim
theorem dt2_post {M : MM} {t : Int64} : DET2 (fun p : (MM → Int64 → Prop) => p M t) := fun _ h => ⟨M, t, h, fun _ h => h⟩
theorem dt2_if {c : Prop} [Decidable c] {A B : (MM → Int64 → Prop) → Prop} (ha : DET2 A) (hb : DET2 B) : DET2 (fun p => if c then A p else B p) := by
  intro p h
  by_cases hc : c
  · obtain ⟨M1, t1, h1, h2⟩ := ha p (by simpa [hc] using h)
    exact ⟨M1, t1, h1, fun q hq => by simpa [hc] using h2 q hq⟩
  · obtain ⟨M1, t1, h1, h2⟩ := hb p (by simpa [hc] using h)
    exact ⟨M1, t1, h1, fun q hq => by simpa [hc] using h2 q hq⟩
theorem dt2_and {c : Prop} {A : (MM → Int64 → Prop) → Prop} (ha : DET2 A) : DET2 (fun p => c ∧ A p) := by
  intro p h
  obtain ⟨M1, t1, h1, h2⟩ := ha p h.2
  exact ⟨M1, t1, h1, fun q hq => ⟨h.1, h2 q hq⟩⟩
theorem dt2_all {e : MM} {A : MM → (MM → Int64 → Prop) → Prop} (ha : ∀ W, DET2 (A W)) : DET2 (fun p => ∀ W : MM, W = e → A W p) := by
  intro p h
  obtain ⟨M1, t1, h1, h2⟩ := ha e p (h e rfl)
  exact ⟨M1, t1, h1, fun q hq W eW => by subst eW; exact h2 q hq⟩
theorem dt2_ex {A : Nat → (MM → Int64 → Prop) → Prop} (ha : ∀ n, DET2 (A n)) : DET2 (fun p => ∃ n, A n p) := by
  intro p h
  obtain ⟨n, h⟩ := h
  obtain ⟨M1, t1, h1, h2⟩ := ha n p h
  exact ⟨M1, t1, h1, fun q hq => ⟨n, h2 q hq⟩⟩
theorem dt2_call2 {V : (MM → Int64 → Prop) → Prop} {A : MM → Int64 → (MM → Int64 → Prop) → Prop} (hv : DET2 V) (ha : ∀ M t, DET2 (A M t)) : DET2 (fun p => V (fun M t => A M t p)) := by
  intro p h
  obtain ⟨M, t, h3, h4⟩ := hv _ h
  obtain ⟨M1, t1, h1, h2⟩ := ha M t p h3
  exact ⟨M1, t1, h1, fun q hq => h4 _ (h2 q hq)⟩
theorem dt2_call3 {S : Type} {V : (S → MM → Int64 → Prop) → Prop} {A : S → MM → Int64 → (MM → Int64 → Prop) → Prop} (hv : DET3 V) (ha : ∀ s M t, DET2 (A s M t)) : DET2 (fun p => V (fun s M t => A s M t p)) := by
  intro p h
  obtain ⟨s, M, t, h3, h4⟩ := hv _ h
  obtain ⟨M1, t1, h1, h2⟩ := ha s M t p h3
  exact ⟨M1, t1, h1, fun q hq => h4 _ (h2 q hq)⟩
theorem dt3_no {R : Type} : DET3 (fun _ : (R → MM → Int64 → Prop) => False) := fun _ h => h.elim
theorem dt3_post {R : Type} {r : R} {M : MM} {t : Int64} : DET3 (fun p : (R → MM → Int64 → Prop) => p r M t) := fun _ h => ⟨r, M, t, h, fun _ h => h⟩
theorem dt3_if {R : Type} {c : Prop} [Decidable c] {A B : (R → MM → Int64 → Prop) → Prop} (ha : DET3 A) (hb : DET3 B) : DET3 (fun p => if c then A p else B p) := by
  intro p h
  by_cases hc : c
  · obtain ⟨r, M1, t1, h1, h2⟩ := ha p (by simpa [hc] using h)
    exact ⟨r, M1, t1, h1, fun q hq => by simpa [hc] using h2 q hq⟩
  · obtain ⟨r, M1, t1, h1, h2⟩ := hb p (by simpa [hc] using h)
    exact ⟨r, M1, t1, h1, fun q hq => by simpa [hc] using h2 q hq⟩
theorem dt3_and {R : Type} {c : Prop} {A : (R → MM → Int64 → Prop) → Prop} (ha : DET3 A) : DET3 (fun p => c ∧ A p) := by
  intro p h
  obtain ⟨r, M1, t1, h1, h2⟩ := ha p h.2
  exact ⟨r, M1, t1, h1, fun q hq => ⟨h.1, h2 q hq⟩⟩
theorem dt3_all {R : Type} {e : MM} {A : MM → (R → MM → Int64 → Prop) → Prop} (ha : ∀ W, DET3 (A W)) : DET3 (fun p => ∀ W : MM, W = e → A W p) := by
  intro p h
  obtain ⟨r, M1, t1, h1, h2⟩ := ha e p (h e rfl)
  exact ⟨r, M1, t1, h1, fun q hq W eW => by subst eW; exact h2 q hq⟩
theorem dt3_ex {R : Type} {A : Nat → (R → MM → Int64 → Prop) → Prop} (ha : ∀ n, DET3 (A n)) : DET3 (fun p => ∃ n, A n p) := by
  intro p h
  obtain ⟨n, h⟩ := h
  obtain ⟨r, M1, t1, h1, h2⟩ := ha n p h
  exact ⟨r, M1, t1, h1, fun q hq => ⟨n, h2 q hq⟩⟩
theorem dt3_call2 {R : Type} {V : (MM → Int64 → Prop) → Prop} {A : MM → Int64 → (R → MM → Int64 → Prop) → Prop} (hv : DET2 V) (ha : ∀ M t, DET3 (A M t)) : DET3 (fun p => V (fun M t => A M t p)) := by
  intro p h
  obtain ⟨M, t, h3, h4⟩ := hv _ h
  obtain ⟨r, M1, t1, h1, h2⟩ := ha M t p h3
  exact ⟨r, M1, t1, h1, fun q hq => h4 _ (h2 q hq)⟩
theorem dt3_call3 {R : Type} {S : Type} {V : (S → MM → Int64 → Prop) → Prop} {A : S → MM → Int64 → (R → MM → Int64 → Prop) → Prop} (hv : DET3 V) (ha : ∀ s M t, DET3 (A s M t)) : DET3 (fun p => V (fun s M t => A s M t p)) := by
  intro p h
  obtain ⟨s, M, t, h3, h4⟩ := hv _ h
  obtain ⟨r, M1, t1, h1, h2⟩ := ha s M t p h3
  exact ⟨r, M1, t1, h1, fun q hq => h4 _ (h2 q hq)⟩
theorem dt_wpX10_end (M : MM) (tl : Int64) (v1 : Int32) : DET3 (fun p => wpX10_end p M tl v1) := by
  unfold wpX10_end
  exact (dt3_if dt3_post (dt3_if (dt3_all (fun _ => dt3_post)) dt3_post))
theorem dt_wpX10_rule (M : MM) (tl : Int64) (v1 : Int32) : DET3 (fun p => wpX10_rule p M tl v1) := by
  unfold wpX10_rule
  exact (dt3_if dt3_post (dt3_if dt3_post (dt3_if dt3_post (dt3_if dt3_post (dt3_if dt3_post (dt3_if dt3_post (dt3_and dt3_post)))))))
theorem dt_wpX10_isKind (M : MM) (tl : Int64) (v0 : Int32) : DET3 (fun p => wpX10_isKind p M tl v0) := by
  unfold wpX10_isKind
  exact (dt3_if dt3_post (dt3_if dt3_post dt3_post))
theorem dt_wpX1_twinOf (M : MM) (tl : Int64) (v0 : Nat) (v1 : Int32) : DET3 (fun p => wpX1_twinOf p M tl v0 v1) := by
  unfold wpX1_twinOf
  exact (dt3_call3 (dt_wpX10_isKind _ _ _) (fun _ _ _ => (dt3_if dt3_post (dt3_and (dt3_and (dt3_and dt3_post))))))
theorem dt_wpX10_isBank (M : MM) (tl : Int64) (v0 : Int32) : DET3 (fun p => wpX10_isBank p M tl v0) := by
  unfold wpX10_isBank
  exact (dt3_if dt3_post (dt3_if dt3_post dt3_post))
theorem dt_wX1_costOf_25 (M : MM) (tl : Int64) (v0 : Nat) : DET3 (fun p => wX1_costOf_25 p M tl v0) := by
  unfold wX1_costOf_25
  exact (dt3_and dt3_post)
theorem dt_wpX10_isBuilt (M : MM) (tl : Int64) (v0 : Int32) : DET3 (fun p => wpX10_isBuilt p M tl v0) := by
  unfold wpX10_isBuilt
  exact (dt3_if dt3_post (dt3_if dt3_post dt3_post))
theorem dt_wpX1_costOf (M : MM) (tl : Int64) (v0 : Nat) (v1 : Int32) (v2 : Int32) : DET3 (fun p => wpX1_costOf p M tl v0 v1 v2) := by
  unfold wpX1_costOf
  exact (dt3_call3 (dt_wpX10_isBank _ _ _) (fun _ _ _ => (dt3_if (dt_wX1_costOf_25  _ _ _) (dt3_call3 (dt_wpX10_isBuilt _ _ _) (fun _ _ _ => (dt3_if (dt_wX1_costOf_25  _ _ _) (dt3_and (dt3_and (dt3_and (dt3_and (dt3_and dt3_post)))))))))))
theorem dt_wpX1_tasteOf (M : MM) (tl : Int64) (v0 : Nat) (v1 : Int32) (v2 : Int32) : DET3 (fun p => wpX1_tasteOf p M tl v0 v1 v2) := by
  unfold wpX1_tasteOf
  exact (dt3_call3 (dt_wpX10_isBank _ _ _) (fun _ _ _ => (dt3_if dt3_post (dt3_call3 (dt_wpX10_isBuilt _ _ _) (fun _ _ _ => (dt3_if dt3_post (dt3_and (dt3_and (dt3_and (dt3_and (dt3_and dt3_post)))))))))))
theorem dt_wpX1_lacks (M : MM) (tl : Int64) (v0 : Nat) (v1 : Int32) (v2 : Int32) : DET3 (fun p => wpX1_lacks p M tl v0 v1 v2) := by
  unfold wpX1_lacks
  exact (dt3_call3 (dt_wpX10_isBank _ _ _) (fun _ _ _ => (dt3_if dt3_post (dt3_call3 (dt_wpX10_isBuilt _ _ _) (fun _ _ _ => (dt3_if dt3_post (dt3_and (dt3_and (dt3_and (dt3_if dt3_post dt3_post))))))))))
theorem dt_wpX10_kind (M : MM) (tl : Int64) (v1 : Int32) (v2 : Int32) : DET3 (fun p => wpX10_kind p M tl v1 v2) := by
  unfold wpX10_kind
  exact (dt3_call3 (dt_wpX10_isKind _ _ _) (fun _ _ _ => (dt3_if dt3_post (dt3_if (dt3_call3 (dt_wpX1_twinOf _ _ _ _) (fun _ _ _ => dt3_post)) (dt3_if dt3_post (dt3_if (dt3_call3 (dt_wpX1_costOf _ _ _ _ _) (fun _ _ _ => dt3_post)) (dt3_if (dt3_call3 (dt_wpX1_costOf _ _ _ _ _) (fun _ _ _ => dt3_post)) (dt3_if (dt3_call3 (dt_wpX1_tasteOf _ _ _ _ _) (fun _ _ _ => dt3_post)) (dt3_if (dt3_call3 (dt_wpX1_tasteOf _ _ _ _ _) (fun _ _ _ => dt3_post)) (dt3_if (dt3_call3 (dt_wpX1_lacks _ _ _ _ _) (fun _ _ _ => (dt3_if dt3_post dt3_post))) (dt3_if (dt3_call3 (dt_wpX1_lacks _ _ _ _ _) (fun _ _ _ => (dt3_if dt3_post dt3_post))) dt3_post)))))))))))
theorem dt_wpX10_colour (M : MM) (tl : Int64) (v1 : Int32) : DET3 (fun p => wpX10_colour p M tl v1) := by
  unfold wpX10_colour
  exact (dt3_if dt3_post (dt3_if dt3_post (dt3_and dt3_post)))
theorem dt_wpX10_isThing (M : MM) (tl : Int64) (v0 : Int32) : DET3 (fun p => wpX10_isThing p M tl v0) := by
  unfold wpX10_isThing
  exact (dt3_if dt3_post (dt3_if dt3_post (dt3_if dt3_post (dt3_call3 (dt_wpX10_isBuilt _ _ _) (fun _ _ _ => (dt3_if dt3_post dt3_post))))))
theorem dt_wpX1_doorStays (M : MM) (tl : Int64) (v0 : Nat) (v1 : Int32) : DET3 (fun p => wpX1_doorStays p M tl v0 v1) := by
  unfold wpX1_doorStays
  exact (dt3_and (dt3_if (dt3_and (dt3_and (dt3_and (dt3_and (dt3_if dt3_post dt3_post))))) dt3_post))
theorem dt_wX1_mirrorOf_35 (M : MM) (tl : Int64) (v0 : Nat) (v1 : Int32) (v2 : Int32) (s0 : Int32) : DET3 (fun p => wX1_mirrorOf_35 p M tl v0 v1 v2 s0) := by
  unfold wX1_mirrorOf_35
  exact (dt3_and (dt3_and (dt3_and (dt3_and (dt3_and (dt3_and dt3_post))))))
theorem dt_wpX1_mirrorOf (M : MM) (tl : Int64) (v0 : Nat) (v1 : Int32) : DET3 (fun p => wpX1_mirrorOf p M tl v0 v1) := by
  unfold wpX1_mirrorOf
  exact (dt3_call3 (dt_wpX10_isBuilt _ _ _) (fun _ _ _ => (dt3_if dt3_post (dt3_and (dt3_call3 (dt_wpX1_doorStays _ _ _ _) (fun _ _ _ => (dt3_if (dt_wX1_mirrorOf_35  _ _ _ _ _ _) (dt_wX1_mirrorOf_35  _ _ _ _ _ _))))))))
theorem dt_wpX10_mirror (M : MM) (tl : Int64) (v1 : Int32) : DET3 (fun p => wpX10_mirror p M tl v1) := by
  unfold wpX10_mirror
  exact (dt3_call3 (dt_wpX10_isThing _ _ _) (fun _ _ _ => (dt3_if dt3_post (dt3_call3 (dt_wpX1_mirrorOf _ _ _ _) (fun _ _ _ => dt3_post)))))
theorem dt_wpX5_cell (M : MM) (tl : Int64) (v0 : Nat) (v1 : Int32) (v2 : Int32) : DET3 (fun p => wpX5_cell p M tl v0 v1 v2) := by
  unfold wpX5_cell
  exact (dt3_if dt3_post (dt3_and (dt3_if dt3_post (dt3_if dt3_post (dt3_and (dt3_if (dt3_and (dt3_and (dt3_and (dt3_and dt3_post)))) dt3_post))))))
theorem dt_wpX10_work (M : MM) (tl : Int64) (v1 : Int32) (v2 : Int32) : DET3 (fun p => wpX10_work p M tl v1 v2) := by
  unfold wpX10_work
  exact (dt3_if dt3_post (dt3_if dt3_post (dt3_if dt3_post (dt3_if (dt3_call3 (dt_wpX5_cell _ _ _ _ _) (fun _ _ _ => dt3_post)) dt3_post))))
theorem dt_wpX10_isSlot (M : MM) (tl : Int64) (v0 : Int32) (v1 : Int32) : DET3 (fun p => wpX10_isSlot p M tl v0 v1) := by
  unfold wpX10_isSlot
  exact (dt3_call3 (dt_wpX10_isBank _ _ _) (fun _ _ _ => (dt3_if dt3_post (dt3_if dt3_post (dt3_if dt3_post dt3_post)))))
theorem dt_wpX1_isLot (M : MM) (tl : Int64) (v0 : Nat) (v1 : Int32) (v2 : Int32) : DET3 (fun p => wpX1_isLot p M tl v0 v1 v2) := by
  unfold wpX1_isLot
  exact (dt3_call3 (dt_wpX10_isSlot _ _ _ _) (fun _ _ _ => (dt3_if dt3_post (dt3_and (dt3_if dt3_post dt3_post)))))
theorem dt_wpX10_slot (M : MM) (tl : Int64) (v0 : Int32) (v1 : Int32) : DET3 (fun p => wpX10_slot p M tl v0 v1) := by
  unfold wpX10_slot
  exact dt3_post
theorem dt_wpX7_thingAt (M : MM) (tl : Int64) (v0 : Nat) (v1 : Int32) (v2 : Int32) : DET3 (fun p => wpX7_thingAt p M tl v0 v1 v2) := by
  unfold wpX7_thingAt
  exact (dt3_call3 (dt_wpX10_isSlot _ _ _ _) (fun _ _ _ => (dt3_if dt3_post (dt3_and (dt3_call3 (dt_wpX10_slot _ _ _ _) (fun _ _ _ => (dt3_and (dt3_and dt3_post))))))))
theorem dt_wpX10_thing (M : MM) (tl : Int64) (v1 : Int32) (v2 : Int32) : DET3 (fun p => wpX10_thing p M tl v1 v2) := by
  unfold wpX10_thing
  exact (dt3_call3 (dt_wpX1_isLot _ _ _ _ _) (fun _ _ _ => (dt3_if dt3_post (dt3_call3 (dt_wpX7_thingAt _ _ _ _ _) (fun _ _ _ => dt3_post)))))
theorem dt_wpX7_setThing (M : MM) (tl : Int64) (v0 : Nat) (v1 : Int32) (v2 : Int32) (v3 : Int32) : DET2 (fun p => wpX7_setThing p M tl v0 v1 v2 v3) := by
  unfold wpX7_setThing
  exact (dt2_call3 (dt_wpX10_isSlot _ _ _ _) (fun _ _ _ => (dt2_if dt2_post (dt2_and (dt2_call3 (dt_wpX10_slot _ _ _ _) (fun _ _ _ => (dt2_and (dt2_and (dt2_all (fun _ => dt2_post))))))))))
theorem dt_wpX10_put (M : MM) (tl : Int64) (v1 : Int32) (v2 : Int32) (v3 : Int32) : DET3 (fun p => wpX10_put p M tl v1 v2 v3) := by
  unfold wpX10_put
  exact (dt3_call3 (dt_wpX1_isLot _ _ _ _ _) (fun _ _ _ => (dt3_if dt3_post (dt3_call3 (dt_wpX10_isThing _ _ _) (fun _ _ _ => (dt3_if dt3_post (dt3_call3 (dt_wpX7_thingAt _ _ _ _ _) (fun _ _ _ => (dt3_call2 (dt_wpX7_setThing _ _ _ _ _ _) (fun _ _ => dt3_post))))))))))
theorem dt_wX1_matchBy_17 (M : MM) (tl : Int64) (v0 : Nat) (s0 : Int32) : DET3 (fun p => wX1_matchBy_17 p M tl v0 s0) := by
  unfold wX1_matchBy_17
  exact (dt3_if dt3_post (dt3_and (dt3_if dt3_post dt3_post)))
theorem dt_wpX1_matchBy (M : MM) (tl : Int64) (v0 : Nat) (v1 : Int32) (v2 : Int32) (v3 : Int32) : DET3 (fun p => wpX1_matchBy p M tl v0 v1 v2 v3) := by
  unfold wpX1_matchBy
  exact (dt3_if (dt_wX1_matchBy_17  _ _ _ _) (dt_wX1_matchBy_17  _ _ _ _))
theorem dt_wpX1_matchOf (M : MM) (tl : Int64) (v0 : Nat) (v1 : Int32) (v2 : Int32) : DET3 (fun p => wpX1_matchOf p M tl v0 v1 v2) := by
  unfold wpX1_matchOf
  exact (dt3_and (dt3_and (dt3_call3 (dt_wpX1_matchBy _ _ _ _ _ _) (fun _ _ _ => dt3_post))))
theorem dt_wpX10_match (M : MM) (tl : Int64) (v1 : Int32) (v2 : Int32) : DET3 (fun p => wpX10_match p M tl v1 v2) := by
  unfold wpX10_match
  exact (dt3_call3 (dt_wpX1_isLot _ _ _ _ _) (fun _ _ _ => (dt3_if dt3_post (dt3_call3 (dt_wpX1_matchOf _ _ _ _ _) (fun _ _ _ => dt3_post)))))
theorem dt_wX1_unevenLots_55 {bk4 : (Int32 → MM → Int64 → Prop) → MM → Int64 → Nat → Nat → Int32 → Int32 → Prop} (hbk4 : ∀ x0 x1 x2 x3 x4 x5, DET3 (fun p => bk4 p x0 x1 x2 x3 x4 x5)) (M : MM) (tl : Int64) (v0 : Nat) (v1 : Nat) (v2 : Int32) (v3 : Int32) : DET3 (fun p => wX1_unevenLots_55 p (bk4 p) M tl v0 v1 v2 v3) := by
  unfold wX1_unevenLots_55
  exact (hbk4 _ _ _ _ _ _)
theorem dt_wpX1_isEven (M : MM) (tl : Int64) (v0 : Nat) (v1 : Int32) (v2 : Int32) : DET3 (fun p => wpX1_isEven p M tl v0 v1 v2) := by
  unfold wpX1_isEven
  exact (dt3_and (dt3_call3 (dt_wpX1_mirrorOf _ _ _ _) (fun _ _ _ => (dt3_if dt3_post dt3_post))))
theorem dt_wX1_unevenLots_4 : ∀ (d : Nat) (M : MM) (tl : Int64) (v0 : Nat) (v1 : Nat) (v2 : Int32) (v3 : Int32), DET3 (fun p => wX1_unevenLots_4 p d M tl v0 v1 v2 v3) := by
  intro d
  induction d with
  | zero => intro M tl v0 v1 v2 v3; exact dt3_no
  | succ d ih =>
    intro M tl v0 v1 v2 v3
    unfold wX1_unevenLots_4
    exact (dt3_and (dt3_if dt3_post (dt3_and (dt3_call3 (dt_wpX1_matchOf _ _ _ _ _) (fun _ _ _ => (dt3_if (dt_wX1_unevenLots_55 (fun _ _ _ _ _ _ => ih _ _ _ _ _ _) _ _ _ _ _ _) (dt3_call3 (dt_wpX10_slot _ _ _ _) (fun _ _ _ => (dt3_and (dt3_and (dt3_call3 (dt_wpX10_slot _ _ _ _) (fun _ _ _ => (dt3_and (dt3_and (dt3_and (dt3_call3 (dt_wpX1_isEven _ _ _ _ _) (fun _ _ _ => (dt3_if (dt_wX1_unevenLots_55 (fun _ _ _ _ _ _ => ih _ _ _ _ _ _) _ _ _ _ _ _) (dt_wX1_unevenLots_55 (fun _ _ _ _ _ _ => ih _ _ _ _ _ _) _ _ _ _ _ _)))))))))))))))))))
theorem dt_wpX1_unevenLots (M : MM) (tl : Int64) (v0 : Nat) (v1 : Nat) : DET3 (fun p => wpX1_unevenLots p M tl v0 v1) := by
  unfold wpX1_unevenLots
  exact (dt3_ex (fun _ => dt_wX1_unevenLots_4  _ _ _ _ _ _ _))
theorem dt_wpX10_odd (M : MM) (tl : Int64) : DET3 (fun p => wpX10_odd p M tl ) := by
  unfold wpX10_odd
  exact (dt3_call3 (dt_wpX1_unevenLots _ _ _ _) (fun _ _ _ => dt3_post))
theorem dt_wpX10_third (M : MM) (tl : Int64) (v1 : Int32) : DET3 (fun p => wpX10_third p M tl v1) := by
  unfold wpX10_third
  exact (dt3_call3 (dt_wpX1_isLot _ _ _ _ _) (fun _ _ _ => (dt3_if dt3_post (dt3_call3 (dt_wpX1_matchOf _ _ _ _ _) (fun _ _ _ => (dt3_if dt3_post (dt3_call3 (dt_wpX7_thingAt _ _ _ _ _) (fun _ _ _ => (dt3_call3 (dt_wpX1_mirrorOf _ _ _ _) (fun _ _ _ => dt3_post))))))))))
theorem dt_wX6_start_61 : ∀ (d : Nat) (M : MM) (tl : Int64) (v1 : Int32), DET2 (fun p => wX6_start_61 p d M tl v1) := by
  intro d
  induction d with
  | zero => intro M tl v1; exact dt2_no
  | succ d ih =>
    intro M tl v1
    unfold wX6_start_61
    exact (dt2_if dt2_post (dt2_and (dt2_all (fun _ => (ih _ _ _)))))
theorem dt_wX6_start_39 : ∀ (d : Nat) (M : MM) (tl : Int64) (v1 : Int32), DET2 (fun p => wX6_start_39 p d M tl v1) := by
  intro d
  induction d with
  | zero => intro M tl v1; exact dt2_no
  | succ d ih =>
    intro M tl v1
    unfold wX6_start_39
    exact (dt2_if (dt2_ex (fun _ => dt_wX6_start_61  _ _ _ _)) (dt2_and (dt2_all (fun _ => (ih _ _ _)))))
theorem dt_wX6_start_2 : ∀ (d : Nat) (M : MM) (tl : Int64) (v1 : Int32), DET2 (fun p => wX6_start_2 p d M tl v1) := by
  intro d
  induction d with
  | zero => intro M tl v1; exact dt2_no
  | succ d ih =>
    intro M tl v1
    unfold wX6_start_2
    exact (dt2_if (dt2_ex (fun _ => dt_wX6_start_39  _ _ _ _)) (dt2_and (dt2_and (dt2_all (fun _ => (dt2_and (dt2_all (fun _ => (ih _ _ _)))))))))
theorem dt_wpX6_start (M : MM) (tl : Int64) : DET2 (fun p => wpX6_start p M tl ) := by
  unfold wpX6_start
  exact (dt2_ex (fun _ => dt_wX6_start_2  _ _ _ _))
theorem dt_wpX6_isEvenPair (M : MM) (tl : Int64) (v1 : Int32) (v2 : Int32) : DET3 (fun p => wpX6_isEvenPair p M tl v1 v2) := by
  unfold wpX6_isEvenPair
  exact (dt3_call3 (dt_wpX10_slot _ _ _ _) (fun _ _ _ => (dt3_and (dt3_call3 (dt_wpX1_mirrorOf _ _ _ _) (fun _ _ _ => (dt3_call3 (dt_wpX10_slot _ _ _ _) (fun _ _ _ => (dt3_and (dt3_if dt3_post dt3_post)))))))))
theorem dt_wpX6_build (M : MM) (tl : Int64) (v1 : Int32) (v2 : Int32) (v3 : Int32) : DET2 (fun p => wpX6_build p M tl v1 v2 v3) := by
  unfold wpX6_build
  exact (dt2_and (dt2_call3 (dt_wpX1_costOf _ _ _ _ _) (fun _ _ _ => (dt2_and (dt2_all (fun _ => (dt2_call3 (dt_wpX10_slot _ _ _ _) (fun _ _ _ => (dt2_and (dt2_all (fun _ => dt2_post)))))))))))
theorem dt_wpX6_answer (M : MM) (tl : Int64) (v1 : Int32) (v2 : Int32) : DET2 (fun p => wpX6_answer p M tl v1 v2) := by
  unfold wpX6_answer
  exact (dt2_call3 (dt_wpX1_matchOf _ _ _ _ _) (fun _ _ _ => (dt2_if dt2_post (dt2_and (dt2_if dt2_post (dt2_call3 (dt_wpX6_isEvenPair _ _ _ _) (fun _ _ _ => (dt2_if (dt2_call3 (dt_wpX10_slot _ _ _ _) (fun _ _ _ => (dt2_and (dt2_if dt2_post (dt2_call3 (dt_wpX10_slot _ _ _ _) (fun _ _ _ => (dt2_and (dt2_if dt2_post (dt2_and (dt2_if (dt2_call3 (dt_wpX10_slot _ _ _ _) (fun _ _ _ => (dt2_and (dt2_call3 (dt_wpX1_mirrorOf _ _ _ _) (fun _ _ _ => (dt2_call2 (dt_wpX6_build _ _ _ _ _) (fun _ _ => dt2_post))))))) (dt2_call3 (dt_wpX10_slot _ _ _ _) (fun _ _ _ => (dt2_and (dt2_call3 (dt_wpX1_mirrorOf _ _ _ _) (fun _ _ _ => (dt2_call2 (dt_wpX6_build _ _ _ _ _) (fun _ _ => dt2_post))))))))))))))))) dt2_post))))))))
theorem dt_wX6_runMonth_71 : ∀ (d : Nat) (M : MM) (tl : Int64) (v1 : Int32) (v3 : Int32), DET2 (fun p => wX6_runMonth_71 p d M tl v1 v3) := by
  intro d
  induction d with
  | zero => intro M tl v1 v3; exact dt2_no
  | succ d ih =>
    intro M tl v1 v3
    unfold wX6_runMonth_71
    exact (dt2_if dt2_post (dt2_call2 (dt_wpX6_answer _ _ _ _) (fun _ _ => (ih _ _ _ _))))
theorem dt_wX6_runMonth_69 (M : MM) (tl : Int64) (v1 : Int32) : DET2 (fun p => wX6_runMonth_69 p M tl v1) := by
  unfold wX6_runMonth_69
  exact (dt2_ex (fun _ => dt_wX6_runMonth_71  _ _ _ _ _))
theorem dt_wpX1_mayBuild (M : MM) (tl : Int64) (v0 : Nat) (v1 : Int32) (v2 : Int32) (v3 : Int32) : DET3 (fun p => wpX1_mayBuild p M tl v0 v1 v2 v3) := by
  unfold wpX1_mayBuild
  exact (dt3_and (dt3_call3 (dt_wpX1_lacks _ _ _ _ _) (fun _ _ _ => (dt3_if (dt3_and (dt3_call3 (dt_wpX1_matchOf _ _ _ _ _) (fun _ _ _ => (dt3_if dt3_post (dt3_and (dt3_call3 (dt_wpX1_twinOf _ _ _ _) (fun _ _ _ => (dt3_and (dt3_call3 (dt_wpX1_lacks _ _ _ _ _) (fun _ _ _ => (dt3_if dt3_post dt3_post))))))))))) dt3_post))))
theorem dt_wX6_tryWork_133 (M : MM) (tl : Int64) (v2 : Int32) (s1 : Int32) : DET3 (fun p => wX6_tryWork_133 p M tl v2 s1) := by
  unfold wX6_tryWork_133
  exact (dt3_and (dt3_all (fun _ => dt3_post)))
theorem dt_wX6_tryWork_93 (M : MM) (tl : Int64) (v1 : Int32) (v2 : Int32) (v3 : Int32) (v4 : Int32) (v5 : Int32) : DET3 (fun p => wX6_tryWork_93 p M tl v1 v2 v3 v4 v5) := by
  unfold wX6_tryWork_93
  exact (dt3_call2 (dt_wpX6_build _ _ _ _ _) (fun _ _ => (dt3_call3 (dt_wpX10_slot _ _ _ _) (fun _ _ _ => (dt3_and (dt3_all (fun _ => (dt3_if dt3_post (dt3_if (dt_wX6_tryWork_133  _ _ _ _) (dt_wX6_tryWork_133  _ _ _ _))))))))))
theorem dt_wpX6_tryWork (M : MM) (tl : Int64) (v1 : Int32) (v2 : Int32) (v3 : Int32) (v4 : Int32) : DET3 (fun p => wpX6_tryWork p M tl v1 v2 v3 v4) := by
  unfold wpX6_tryWork
  exact (dt3_call3 (dt_wpX1_isLot _ _ _ _ _) (fun _ _ _ => (dt3_if dt3_post (dt3_call3 (dt_wpX1_mayBuild _ _ _ _ _ _) (fun _ _ _ => (dt3_if dt3_post (dt3_call3 (dt_wpX1_matchOf _ _ _ _ _) (fun _ _ _ => (dt3_if (dt_wX6_tryWork_93  _ _ _ _ _ _ _) (dt3_call3 (dt_wpX10_slot _ _ _ _) (fun _ _ _ => (dt3_and (dt3_if (dt3_call3 (dt_wpX10_slot _ _ _ _) (fun _ _ _ => (dt3_and (dt3_call3 (dt_wpX1_isEven _ _ _ _ _) (fun _ _ _ => (dt3_if dt3_post (dt_wX6_tryWork_93  _ _ _ _ _ _ _))))))) (dt_wX6_tryWork_93  _ _ _ _ _ _ _))))))))))))))
theorem dt_wX6_runMonth_63 {bk10 : (MM → Int64 → Prop) → MM → Int64 → Int32 → Int32 → Prop} (hbk10 : ∀ x0 x1 x2 x3, DET2 (fun p => bk10 p x0 x1 x2 x3)) (M : MM) (tl : Int64) (v1 : Int32) (v3 : Int32) : DET2 (fun p => wX6_runMonth_63 p (bk10 p) M tl v1 v3) := by
  unfold wX6_runMonth_63
  exact (hbk10 _ _ _ _)
theorem dt_wX6_runMonth_10 : ∀ (d : Nat) (M : MM) (tl : Int64) (v1 : Int32) (v3 : Int32), DET2 (fun p => wX6_runMonth_10 p d M tl v1 v3) := by
  intro d
  induction d with
  | zero => intro M tl v1 v3; exact dt2_no
  | succ d ih =>
    intro M tl v1 v3
    unfold wX6_runMonth_10
    exact (dt2_if (dt_wX6_runMonth_69  _ _ _) (dt2_if (dt_wX6_runMonth_69  _ _ _) (dt2_call3 (dt_wpX5_cell _ _ _ _ _) (fun _ _ _ => (dt2_if (dt2_call3 (dt_wpX5_cell _ _ _ _ _) (fun _ _ _ => (dt2_call3 (dt_wpX5_cell _ _ _ _ _) (fun _ _ _ => (dt2_call3 (dt_wpX5_cell _ _ _ _ _) (fun _ _ _ => (dt2_call3 (dt_wpX6_tryWork _ _ _ _ _ _) (fun _ _ _ => (dt2_and (dt2_all (fun _ => (dt_wX6_runMonth_63 (fun _ _ _ _ => ih _ _ _ _) _ _ _ _)))))))))))) (dt_wX6_runMonth_63 (fun _ _ _ _ => ih _ _ _ _) _ _ _ _))))))
theorem dt_wpX6_runMonth (M : MM) (tl : Int64) (v1 : Int32) : DET2 (fun p => wpX6_runMonth p M tl v1) := by
  unfold wpX6_runMonth
  exact (dt2_ex (fun _ => dt_wX6_runMonth_10  _ _ _ _ _))
theorem dt_wX6_runMonths_6 : ∀ (d : Nat) (M : MM) (tl : Int64) (v1 : Int32) (v2 : Int32), DET2 (fun p => wX6_runMonths_6 p d M tl v1 v2) := by
  intro d
  induction d with
  | zero => intro M tl v1 v2; exact dt2_no
  | succ d ih =>
    intro M tl v1 v2
    unfold wX6_runMonths_6
    exact (dt2_if dt2_post (dt2_call2 (dt_wpX6_runMonth _ _ _) (fun _ _ => (ih _ _ _ _))))
theorem dt_wpX6_runMonths (M : MM) (tl : Int64) (v1 : Int32) : DET2 (fun p => wpX6_runMonths p M tl v1) := by
  unfold wpX6_runMonths
  exact (dt2_call2 (dt_wpX6_start _ _) (fun _ _ => (dt2_ex (fun _ => dt_wX6_runMonths_6  _ _ _ _ _))))
theorem dt_wpX10_after (M : MM) (tl : Int64) (v1 : Int32) (v2 : Int32) (v3 : Int32) : DET3 (fun p => wpX10_after p M tl v1 v2 v3) := by
  unfold wpX10_after
  exact (dt3_if dt3_post (dt3_if dt3_post (dt3_call3 (dt_wpX1_isLot _ _ _ _ _) (fun _ _ _ => (dt3_if dt3_post (dt3_call2 (dt_wpX6_runMonths _ _ _) (fun _ _ => (dt3_call3 (dt_wpX10_slot _ _ _ _) (fun _ _ _ => (dt3_and dt3_post))))))))))
theorem dt_wpX10_paid (M : MM) (tl : Int64) (v1 : Int32) (v2 : Int32) : DET3 (fun p => wpX10_paid p M tl v1 v2) := by
  unfold wpX10_paid
  exact (dt3_if dt3_post (dt3_if dt3_post (dt3_call3 (dt_wpX10_isBank _ _ _) (fun _ _ _ => (dt3_if dt3_post (dt3_call2 (dt_wpX6_runMonths _ _ _) (fun _ _ => (dt3_and dt3_post))))))))
theorem dt_wX6_lotsOwedBy_70 {bk4 : (Int32 → MM → Int64 → Prop) → MM → Int64 → Int32 → Int32 → Int32 → Prop} (hbk4 : ∀ x0 x1 x2 x3 x4, DET3 (fun p => bk4 p x0 x1 x2 x3 x4)) (M : MM) (tl : Int64) (v1 : Int32) (v2 : Int32) (v3 : Int32) : DET3 (fun p => wX6_lotsOwedBy_70 p (bk4 p) M tl v1 v2 v3) := by
  unfold wX6_lotsOwedBy_70
  exact (hbk4 _ _ _ _ _)
theorem dt_wX6_lotsOwedBy_67 {bk4 : (Int32 → MM → Int64 → Prop) → MM → Int64 → Int32 → Int32 → Int32 → Prop} (hbk4 : ∀ x0 x1 x2 x3 x4, DET3 (fun p => bk4 p x0 x1 x2 x3 x4)) (M : MM) (tl : Int64) (v1 : Int32) (v3 : Int32) (s0 : Int32) (s1 : Int32) (s2 : Int32) : DET3 (fun p => wX6_lotsOwedBy_67 p (bk4 p) M tl v1 v3 s0 s1 s2) := by
  unfold wX6_lotsOwedBy_67
  exact (dt_wX6_lotsOwedBy_70 (fun _ _ _ _ _ => hbk4 _ _ _ _ _) _ _ _ _ _)
theorem dt_wX6_lotsOwedBy_4 : ∀ (d : Nat) (M : MM) (tl : Int64) (v1 : Int32) (v2 : Int32) (v3 : Int32), DET3 (fun p => wX6_lotsOwedBy_4 p d M tl v1 v2 v3) := by
  intro d
  induction d with
  | zero => intro M tl v1 v2 v3; exact dt3_no
  | succ d ih =>
    intro M tl v1 v2 v3
    unfold wX6_lotsOwedBy_4
    exact (dt3_if dt3_post (dt3_call3 (dt_wpX1_matchOf _ _ _ _ _) (fun _ _ _ => (dt3_if (dt_wX6_lotsOwedBy_70 (fun _ _ _ _ _ => ih _ _ _ _ _) _ _ _ _ _) (dt3_and (dt3_if (dt3_call3 (dt_wpX6_isEvenPair _ _ _ _) (fun _ _ _ => (dt3_if (dt3_if (dt_wX6_lotsOwedBy_67 (fun _ _ _ _ _ => ih _ _ _ _ _) _ _ _ _ _ _ _) (dt_wX6_lotsOwedBy_67 (fun _ _ _ _ _ => ih _ _ _ _ _) _ _ _ _ _ _ _)) (dt_wX6_lotsOwedBy_70 (fun _ _ _ _ _ => ih _ _ _ _ _) _ _ _ _ _)))) (dt_wX6_lotsOwedBy_70 (fun _ _ _ _ _ => ih _ _ _ _ _) _ _ _ _ _)))))))
theorem dt_wpX6_lotsOwedBy (M : MM) (tl : Int64) (v1 : Int32) : DET3 (fun p => wpX6_lotsOwedBy p M tl v1) := by
  unfold wpX6_lotsOwedBy
  exact (dt3_ex (fun _ => dt_wX6_lotsOwedBy_4  _ _ _ _ _ _))
theorem dt_wpX10_owes (M : MM) (tl : Int64) (v1 : Int32) (v2 : Int32) : DET3 (fun p => wpX10_owes p M tl v1 v2) := by
  unfold wpX10_owes
  exact (dt3_if dt3_post (dt3_if dt3_post (dt3_call3 (dt_wpX10_isBank _ _ _) (fun _ _ _ => (dt3_if dt3_post (dt3_call2 (dt_wpX6_runMonths _ _ _) (fun _ _ => (dt3_call3 (dt_wpX6_lotsOwedBy _ _ _) (fun _ _ _ => dt3_post)))))))))
theorem dt_wpX10_fate (M : MM) (tl : Int64) (v1 : Int32) : DET3 (fun p => wpX10_fate p M tl v1) := by
  unfold wpX10_fate
  exact (dt3_if dt3_post (dt3_if dt3_post (dt3_if (dt3_call2 (dt_wpX6_runMonths _ _ _) (fun _ _ => (dt3_and dt3_post))) dt3_post)))
theorem dt_wX10_firstLot_2 : ∀ (d : Nat) (M : MM) (tl : Int64) (v0 : Int32) (v1 : Int32), DET3 (fun p => wX10_firstLot_2 p d M tl v0 v1) := by
  intro d
  induction d with
  | zero => intro M tl v0 v1; exact dt3_no
  | succ d ih =>
    intro M tl v0 v1
    unfold wX10_firstLot_2
    exact (dt3_if dt3_post (dt3_if (ih _ _ _ _) dt3_post))
theorem dt_wpX10_firstLot (M : MM) (tl : Int64) (v0 : Int32) : DET3 (fun p => wpX10_firstLot p M tl v0) := by
  unfold wpX10_firstLot
  exact (dt3_ex (fun _ => dt_wX10_firstLot_2  _ _ _ _ _))
theorem dt_wX10_uneven_20 : ∀ (d : Nat) (M : MM) (tl : Int64) (v1 : Int32) (v2 : Int32), DET3 (fun p => wX10_uneven_20 p d M tl v1 v2) := by
  intro d
  induction d with
  | zero => intro M tl v1 v2; exact dt3_no
  | succ d ih =>
    intro M tl v1 v2
    unfold wX10_uneven_20
    exact (dt3_if dt3_post (dt3_call2 (dt_wpX6_runMonth _ _ _) (fun _ _ => (dt3_call3 (dt_wpX1_unevenLots _ _ _ _) (fun _ _ _ => (dt3_if (ih _ _ _ _) (dt3_if dt3_post (dt3_call3 (dt_wpX10_firstLot _ _ _) (fun _ _ _ => dt3_post)))))))))
theorem dt_wpX10_uneven (M : MM) (tl : Int64) (v1 : Int32) : DET3 (fun p => wpX10_uneven p M tl v1) := by
  unfold wpX10_uneven
  exact (dt3_if dt3_post (dt3_if (dt3_call2 (dt_wpX6_start _ _) (fun _ _ => (dt3_ex (fun _ => dt_wX10_uneven_20  _ _ _ _ _)))) dt3_post))
theorem dt_wX6_worksDone_39 {bk4 : (Int32 → MM → Int64 → Prop) → MM → Int64 → Int32 → Int32 → Prop} (hbk4 : ∀ x0 x1 x2 x3, DET3 (fun p => bk4 p x0 x1 x2 x3)) (M : MM) (tl : Int64) (v2 : Int32) (s0 : Int32) (s1 : Int32) : DET3 (fun p => wX6_worksDone_39 p (bk4 p) M tl v2 s0 s1) := by
  unfold wX6_worksDone_39
  exact (hbk4 _ _ _ _)
theorem dt_wX6_worksDone_4 : ∀ (d : Nat) (M : MM) (tl : Int64) (v1 : Int32) (v2 : Int32), DET3 (fun p => wX6_worksDone_4 p d M tl v1 v2) := by
  intro d
  induction d with
  | zero => intro M tl v1 v2; exact dt3_no
  | succ d ih =>
    intro M tl v1 v2
    unfold wX6_worksDone_4
    exact (dt3_if dt3_post (dt3_if dt3_post (dt3_and (dt3_if (dt_wX6_worksDone_39 (fun _ _ _ _ => ih _ _ _ _) _ _ _ _ _) (dt_wX6_worksDone_39 (fun _ _ _ _ => ih _ _ _ _) _ _ _ _ _)))))
theorem dt_wpX6_worksDone (M : MM) (tl : Int64) : DET3 (fun p => wpX6_worksDone p M tl ) := by
  unfold wpX6_worksDone
  exact (dt3_ex (fun _ => dt_wX6_worksDone_4  _ _ _ _ _))
theorem dt_wpX10_go (M : MM) (tl : Int64) : DET3 (fun p => wpX10_go p M tl ) := by
  unfold wpX10_go
  exact (dt3_call2 (dt_wpX6_runMonths _ _ _) (fun _ _ => (dt3_call3 (dt_wpX6_worksDone _ _) (fun _ _ _ => (dt3_and (dt3_and (dt3_all (fun _ => (dt3_all (fun _ => dt3_post))))))))))
theorem dt_wpX7_lastMonth (M : MM) (tl : Int64) (v0 : Nat) : DET3 (fun p => wpX7_lastMonth p M tl v0) := by
  unfold wpX7_lastMonth
  exact (dt3_and (dt3_and (dt3_and (dt3_and (dt3_call3 (dt_wpX5_cell _ _ _ _ _) (fun _ _ _ => dt3_post))))))
theorem dt_wpX5_isFull (M : MM) (tl : Int64) (v0 : Nat) : DET3 (fun p => wpX5_isFull p M tl v0) := by
  unfold wpX5_isFull
  exact (dt3_and (dt3_and (dt3_if dt3_post dt3_post)))
theorem dt_wpX5_setCell (M : MM) (tl : Int64) (v0 : Nat) (v1 : Int32) (v2 : Int32) (v3 : Int32) : DET2 (fun p => wpX5_setCell p M tl v0 v1 v2 v3) := by
  unfold wpX5_setCell
  exact (dt2_and (dt2_if dt2_post (dt2_and (dt2_and (dt2_and (dt2_and (dt2_all (fun _ => dt2_post))))))))
theorem dt_wpX5_addRow (M : MM) (tl : Int64) (v0 : Nat) (v1 : Int32) (v2 : Int32) (v3 : Int32) (v4 : Int32) : DET2 (fun p => wpX5_addRow p M tl v0 v1 v2 v3 v4) := by
  unfold wpX5_addRow
  exact (dt2_and (dt2_call3 (dt_wpX5_isFull _ _ _) (fun _ _ _ => (dt2_if (dt2_and (dt2_and (dt2_and (dt2_all (fun _ => (dt2_and (dt2_call2 (dt_wpX5_setCell _ _ _ _ _ _) (fun _ _ => (dt2_and (dt2_call2 (dt_wpX5_setCell _ _ _ _ _ _) (fun _ _ => (dt2_and (dt2_call2 (dt_wpX5_setCell _ _ _ _ _ _) (fun _ _ => (dt2_and (dt2_call2 (dt_wpX5_setCell _ _ _ _ _ _) (fun _ _ => dt2_post))))))))))))))))) dt2_post))))
theorem dt_wpX10_plot (M : MM) (tl : Int64) (v1 : Int32) (v2 : Int32) (v3 : Int32) (v4 : Int32) : DET3 (fun p => wpX10_plot p M tl v1 v2 v3 v4) := by
  unfold wpX10_plot
  exact (dt3_call3 (dt_wpX7_lastMonth _ _ _) (fun _ _ _ => (dt3_if dt3_post (dt3_if dt3_post (dt3_call3 (dt_wpX1_isLot _ _ _ _ _) (fun _ _ _ => (dt3_if dt3_post (dt3_call3 (dt_wpX10_isThing _ _ _) (fun _ _ _ => (dt3_if dt3_post (dt3_call3 (dt_wpX5_isFull _ _ _) (fun _ _ _ => (dt3_if (dt3_call2 (dt_wpX5_addRow _ _ _ _ _ _ _) (fun _ _ => dt3_post)) dt3_post)))))))))))))
theorem dt_wpX7_kindAt (M : MM) (tl : Int64) (v0 : Nat) (v1 : Int32) (v2 : Int32) : DET3 (fun p => wpX7_kindAt p M tl v0 v1 v2) := by
  unfold wpX7_kindAt
  exact (dt3_and (dt3_call3 (dt_wpX7_thingAt _ _ _ _ _) (fun _ _ _ => dt3_post)))
theorem dt_wpX0_gainOf (M : MM) (tl : Int64) (v1 : Int32) (v2 : Int32) (v3 : Int32) : DET3 (fun p => wpX0_gainOf p M tl v1 v2 v3) := by
  unfold wpX0_gainOf
  exact (dt3_call3 (dt_wpX1_tasteOf _ _ _ _ _) (fun _ _ _ => (dt3_call3 (dt_wpX1_costOf _ _ _ _ _) (fun _ _ _ => (dt3_call3 (dt_wpX7_kindAt _ _ _ _ _) (fun _ _ _ => (dt3_call3 (dt_wpX1_tasteOf _ _ _ _ _) (fun _ _ _ => dt3_post))))))))
theorem dt_wpX10_gain (M : MM) (tl : Int64) (v1 : Int32) (v2 : Int32) (v3 : Int32) : DET3 (fun p => wpX10_gain p M tl v1 v2 v3) := by
  unfold wpX10_gain
  exact (dt3_call3 (dt_wpX1_isLot _ _ _ _ _) (fun _ _ _ => (dt3_if dt3_post (dt3_call3 (dt_wpX10_isBuilt _ _ _) (fun _ _ _ => (dt3_if dt3_post (dt3_call3 (dt_wpX0_gainOf _ _ _ _ _) (fun _ _ _ => dt3_post))))))))
theorem dt_wX0_bestKind_53 {bk8 : (Int32 → MM → Int64 → Prop) → MM → Int64 → Int32 → Int32 → Int32 → Int32 → Int32 → Prop} (hbk8 : ∀ x0 x1 x2 x3 x4 x5 x6, DET3 (fun p => bk8 p x0 x1 x2 x3 x4 x5 x6)) (M : MM) (tl : Int64) (v1 : Int32) (v2 : Int32) (v3 : Int32) (v4 : Int32) (v5 : Int32) : DET3 (fun p => wX0_bestKind_53 p (bk8 p) M tl v1 v2 v3 v4 v5) := by
  unfold wX0_bestKind_53
  exact (hbk8 _ _ _ _ _ _ _)
theorem dt_wX0_bestKind_8 : ∀ (d : Nat) (M : MM) (tl : Int64) (v1 : Int32) (v2 : Int32) (v3 : Int32) (v4 : Int32) (v5 : Int32), DET3 (fun p => wX0_bestKind_8 p d M tl v1 v2 v3 v4 v5) := by
  intro d
  induction d with
  | zero => intro M tl v1 v2 v3 v4 v5; exact dt3_no
  | succ d ih =>
    intro M tl v1 v2 v3 v4 v5
    unfold wX0_bestKind_8
    exact (dt3_if dt3_post (dt3_call3 (dt_wpX0_gainOf _ _ _ _ _) (fun _ _ _ => (dt3_if (dt_wX0_bestKind_53 (fun _ _ _ _ _ _ _ => ih _ _ _ _ _ _ _) _ _ _ _ _ _ _) (dt3_call3 (dt_wpX1_mayBuild _ _ _ _ _ _) (fun _ _ _ => (dt3_if (dt_wX0_bestKind_53 (fun _ _ _ _ _ _ _ => ih _ _ _ _ _ _ _) _ _ _ _ _ _ _) (dt_wX0_bestKind_53 (fun _ _ _ _ _ _ _ => ih _ _ _ _ _ _ _) _ _ _ _ _ _ _))))))))
theorem dt_wpX0_bestKind (M : MM) (tl : Int64) (v1 : Int32) (v2 : Int32) : DET3 (fun p => wpX0_bestKind p M tl v1 v2) := by
  unfold wpX0_bestKind
  exact (dt3_ex (fun _ => dt_wX0_bestKind_8  _ _ _ _ _ _ _ _))
theorem dt_wpX10_begin (M : MM) (tl : Int64) (v1 : Int32) (v2 : Int32) (v3 : Int32) : DET3 (fun p => wpX10_begin p M tl v1 v2 v3) := by
  unfold wpX10_begin
  exact (dt3_call3 (dt_wpX1_isLot _ _ _ _ _) (fun _ _ _ => (dt3_if dt3_post (dt3_if dt3_post (dt3_if (dt3_call3 (dt_wpX0_bestKind _ _ _ _) (fun _ _ _ => (dt3_if dt3_post (dt3_if dt3_post (dt3_call3 (dt_wpX0_gainOf _ _ _ _ _) (fun _ _ _ => dt3_post)))))) dt3_post)))))
theorem dt_wpX10_waits (M : MM) (tl : Int64) (v1 : Int32) (v2 : Int32) : DET3 (fun p => wpX10_waits p M tl v1 v2) := by
  unfold wpX10_waits
  exact (dt3_call3 (dt_wpX1_isLot _ _ _ _ _) (fun _ _ _ => (dt3_if dt3_post (dt3_call3 (dt_wpX1_matchOf _ _ _ _ _) (fun _ _ _ => (dt3_if dt3_post (dt3_call3 (dt_wpX0_bestKind _ _ _ _) (fun _ _ _ => (dt3_if dt3_post (dt3_call3 (dt_wpX1_twinOf _ _ _ _) (fun _ _ _ => (dt3_call3 (dt_wpX0_gainOf _ _ _ _ _) (fun _ _ _ => dt3_post)))))))))))))
theorem dt_wX0_findVex_98 {bk18 : (MM → Int64 → Prop) → MM → Int64 → Int32 → Int32 → Prop} (hbk18 : ∀ x0 x1 x2 x3, DET2 (fun p => bk18 p x0 x1 x2 x3)) (M : MM) (tl : Int64) (v1 : Int32) (v2 : Int32) : DET2 (fun p => wX0_findVex_98 p (bk18 p) M tl v1 v2) := by
  unfold wX0_findVex_98
  exact (hbk18 _ _ _ _)
theorem dt_wX0_findVex_92 {bk18 : (MM → Int64 → Prop) → MM → Int64 → Int32 → Int32 → Prop} (hbk18 : ∀ x0 x1 x2 x3, DET2 (fun p => bk18 p x0 x1 x2 x3)) {bk42 : (MM → Int64 → Prop) → MM → Int64 → Int32 → Int32 → Int32 → Int32 → Prop} (hbk42 : ∀ x0 x1 x2 x3 x4 x5, DET2 (fun p => bk42 p x0 x1 x2 x3 x4 x5)) (M : MM) (tl : Int64) (v1 : Int32) (v2 : Int32) (v3 : Int32) (v4 : Int32) : DET2 (fun p => wX0_findVex_92 p (bk18 p) (bk42 p) M tl v1 v2 v3 v4) := by
  unfold wX0_findVex_92
  exact (hbk42 _ _ _ _ _ _)
theorem dt_wX0_weighVex_125 (M : MM) (tl : Int64) (v2 : Int32) (v4 : Int32) (v7 : Int32) : DET2 (fun p => wX0_weighVex_125 p M tl v2 v4 v7) := by
  unfold wX0_weighVex_125
  exact (dt2_all (fun _ => (dt2_all (fun _ => (dt2_all (fun _ => dt2_post))))))
theorem dt_wX0_weighVex_100 (M : MM) (tl : Int64) (v2 : Int32) (v4 : Int32) (v7 : Int32) (s0 : Int32) : DET2 (fun p => wX0_weighVex_100 p M tl v2 v4 v7 s0) := by
  unfold wX0_weighVex_100
  exact (dt2_if (dt_wX0_weighVex_125  _ _ _ _ _) (dt2_if (dt_wX0_weighVex_125  _ _ _ _ _) (dt2_if dt2_post (dt_wX0_weighVex_125  _ _ _ _ _))))
theorem dt_wX0_weighVex_99 (M : MM) (tl : Int64) (v2 : Int32) (v4 : Int32) (v7 : Int32) : DET2 (fun p => wX0_weighVex_99 p M tl v2 v4 v7) := by
  unfold wX0_weighVex_99
  exact (dt_wX0_weighVex_100  _ _ _ _ _ _)
theorem dt_wpX0_weighVex (M : MM) (tl : Int64) (v1 : Int32) (v2 : Int32) (v3 : Int32) (v4 : Int32) : DET2 (fun p => wpX0_weighVex p M tl v1 v2 v3 v4) := by
  unfold wpX0_weighVex
  exact (dt2_call3 (dt_wpX1_twinOf _ _ _ _) (fun _ _ _ => (dt2_call3 (dt_wpX1_costOf _ _ _ _ _) (fun _ _ _ => (dt2_call3 (dt_wpX7_kindAt _ _ _ _ _) (fun _ _ _ => (dt2_call3 (dt_wpX1_tasteOf _ _ _ _ _) (fun _ _ _ => (dt2_call3 (dt_wpX1_tasteOf _ _ _ _ _) (fun _ _ _ => (dt2_if (dt2_call3 (dt_wpX1_costOf _ _ _ _ _) (fun _ _ _ => (dt2_call3 (dt_wpX1_costOf _ _ _ _ _) (fun _ _ _ => (dt2_if (dt_wX0_weighVex_99  _ _ _ _ _) (dt_wX0_weighVex_100  _ _ _ _ _ _)))))) (dt_wX0_weighVex_99  _ _ _ _ _))))))))))))
theorem dt_wX0_findVex_42 {bk18 : (MM → Int64 → Prop) → MM → Int64 → Int32 → Int32 → Prop} (hbk18 : ∀ x0 x1 x2 x3, DET2 (fun p => bk18 p x0 x1 x2 x3)) : ∀ (d : Nat) (M : MM) (tl : Int64) (v1 : Int32) (v2 : Int32) (v3 : Int32) (v4 : Int32), DET2 (fun p => wX0_findVex_42 p (bk18 p) d M tl v1 v2 v3 v4) := by
  intro d
  induction d with
  | zero => intro M tl v1 v2 v3 v4; exact dt2_no
  | succ d ih =>
    intro M tl v1 v2 v3 v4
    unfold wX0_findVex_42
    exact (dt2_if (dt_wX0_findVex_98 (fun _ _ _ _ => hbk18 _ _ _ _) _ _ _ _) (dt2_if (dt_wX0_findVex_98 (fun _ _ _ _ => hbk18 _ _ _ _) _ _ _ _) (dt2_call3 (dt_wpX7_kindAt _ _ _ _ _) (fun _ _ _ => (dt2_if (dt_wX0_findVex_92 (fun _ _ _ _ => hbk18 _ _ _ _) (fun _ _ _ _ _ _ => ih _ _ _ _ _ _) _ _ _ _ _ _) (dt2_call3 (dt_wpX1_mayBuild _ _ _ _ _ _) (fun _ _ _ => (dt2_if (dt_wX0_findVex_92 (fun _ _ _ _ => hbk18 _ _ _ _) (fun _ _ _ _ _ _ => ih _ _ _ _ _ _) _ _ _ _ _ _) (dt2_call2 (dt_wpX0_weighVex _ _ _ _ _ _) (fun _ _ => (dt_wX0_findVex_92 (fun _ _ _ _ => hbk18 _ _ _ _) (fun _ _ _ _ _ _ => ih _ _ _ _ _ _) _ _ _ _ _ _)))))))))))
theorem dt_wX0_findVex_18 : ∀ (d : Nat) (M : MM) (tl : Int64) (v1 : Int32) (v2 : Int32), DET2 (fun p => wX0_findVex_18 p d M tl v1 v2) := by
  intro d
  induction d with
  | zero => intro M tl v1 v2; exact dt2_no
  | succ d ih =>
    intro M tl v1 v2
    unfold wX0_findVex_18
    exact (dt2_if dt2_post (dt2_call3 (dt_wpX1_matchOf _ _ _ _ _) (fun _ _ _ => (dt2_ex (fun _ => dt_wX0_findVex_42 (fun _ _ _ _ => ih _ _ _ _) _ _ _ _ _ _ _)))))
theorem dt_wpX0_findVex (M : MM) (tl : Int64) (v1 : Int32) : DET2 (fun p => wpX0_findVex p M tl v1) := by
  unfold wpX0_findVex
  exact (dt2_all (fun _ => (dt2_all (fun _ => (dt2_all (fun _ => (dt2_ex (fun _ => dt_wX0_findVex_18  _ _ _ _ _))))))))
theorem dt_wpX10_vex (M : MM) (tl : Int64) (v1 : Int32) (v2 : Int32) : DET3 (fun p => wpX10_vex p M tl v1 v2) := by
  unfold wpX10_vex
  exact (dt3_call3 (dt_wpX10_isBank _ _ _) (fun _ _ _ => (dt3_if dt3_post (dt3_if dt3_post (dt3_if (dt3_call2 (dt_wpX0_findVex _ _ _) (fun _ _ => (dt3_if (dt3_if dt3_post (dt3_if dt3_post dt3_post)) dt3_post))) dt3_post)))))
theorem dt_wpX10_want (M : MM) (tl : Int64) (v1 : Int32) (v2 : Int32) : DET3 (fun p => wpX10_want p M tl v1 v2) := by
  unfold wpX10_want
  exact (dt3_call3 (dt_wpX1_isLot _ _ _ _ _) (fun _ _ _ => (dt3_if dt3_post (dt3_call3 (dt_wpX10_isBuilt _ _ _) (fun _ _ _ => (dt3_if dt3_post (dt3_call3 (dt_wpX5_isFull _ _ _) (fun _ _ _ => (dt3_if (dt3_call2 (dt_wpX5_addRow _ _ _ _ _ _ _) (fun _ _ => dt3_post)) dt3_post)))))))))
theorem dt_wpX5_empty (M : MM) (tl : Int64) (v0 : Nat) : DET3 (fun p => wpX5_empty p M tl v0) := by
  unfold wpX5_empty
  exact (dt3_and (dt3_and (dt3_all (fun _ => dt3_post))))
theorem dt_wpX10_content (M : MM) (tl : Int64) : DET3 (fun p => wpX10_content p M tl ) := by
  unfold wpX10_content
  exact (dt3_call3 (dt_wpX5_empty _ _ _) (fun _ _ _ => dt3_post))
theorem dt_wpX3_withOneMore (M : MM) (tl : Int64) (v0 : Int32) (v1 : Int32) : DET3 (fun p => wpX3_withOneMore p M tl v0 v1) := by
  unfold wpX3_withOneMore
  exact dt3_post
theorem dt_wpX3_taken (M : MM) (tl : Int64) (v0 : Int32) (v1 : Int32) : DET3 (fun p => wpX3_taken p M tl v0 v1) := by
  unfold wpX3_taken
  exact dt3_post
theorem dt_wX3_placeWants_121 {bk5 : (MM → Int64 → Prop) → MM → Int64 → Int32 → Int32 → Int32 → Int32 → Prop} (hbk5 : ∀ x0 x1 x2 x3 x4 x5, DET2 (fun p => bk5 p x0 x1 x2 x3 x4 x5)) {bk26 : (MM → Int64 → Prop) → MM → Int64 → Int32 → Int32 → Int32 → Int32 → Int32 → Int32 → Prop} (hbk26 : ∀ x0 x1 x2 x3 x4 x5 x6 x7, DET2 (fun p => bk26 p x0 x1 x2 x3 x4 x5 x6 x7)) (M : MM) (tl : Int64) (v1 : Int32) (v2 : Int32) (v3 : Int32) (v4 : Int32) (v5 : Int32) (v6 : Int32) : DET2 (fun p => wX3_placeWants_121 p (bk5 p) (bk26 p) M tl v1 v2 v3 v4 v5 v6) := by
  unfold wX3_placeWants_121
  exact (hbk26 _ _ _ _ _ _ _ _)
theorem dt_wpX3_costWith (M : MM) (tl : Int64) (v1 : Int32) (v2 : Int32) (v3 : Int32) : DET3 (fun p => wpX3_costWith p M tl v1 v2 v3) := by
  unfold wpX3_costWith
  exact (dt3_and (dt3_call3 (dt_wpX3_withOneMore _ _ _ _) (fun _ _ _ => (dt3_and dt3_post))))
theorem dt_wX3_placeWants_66 {bk5 : (MM → Int64 → Prop) → MM → Int64 → Int32 → Int32 → Int32 → Int32 → Prop} (hbk5 : ∀ x0 x1 x2 x3 x4 x5, DET2 (fun p => bk5 p x0 x1 x2 x3 x4 x5)) {bk26 : (MM → Int64 → Prop) → MM → Int64 → Int32 → Int32 → Int32 → Int32 → Int32 → Int32 → Prop} (hbk26 : ∀ x0 x1 x2 x3 x4 x5 x6 x7, DET2 (fun p => bk26 p x0 x1 x2 x3 x4 x5 x6 x7)) (M : MM) (tl : Int64) (v1 : Int32) (v2 : Int32) (v3 : Int32) (v4 : Int32) (v5 : Int32) (v6 : Int32) (v7 : Int32) (s0 : Int32) : DET2 (fun p => wX3_placeWants_66 p (bk5 p) (bk26 p) M tl v1 v2 v3 v4 v5 v6 v7 s0) := by
  unfold wX3_placeWants_66
  exact (dt2_if (dt_wX3_placeWants_121 (fun _ _ _ _ _ _ => hbk5 _ _ _ _ _ _) (fun _ _ _ _ _ _ _ _ => hbk26 _ _ _ _ _ _ _ _) _ _ _ _ _ _ _ _) (dt2_and (dt2_if (dt_wX3_placeWants_121 (fun _ _ _ _ _ _ => hbk5 _ _ _ _ _ _) (fun _ _ _ _ _ _ _ _ => hbk26 _ _ _ _ _ _ _ _) _ _ _ _ _ _ _ _) (dt2_and (dt2_call3 (dt_wpX3_costWith _ _ _ _ _) (fun _ _ _ => (dt2_and (dt2_if (dt2_and (dt2_all (fun _ => (dt_wX3_placeWants_121 (fun _ _ _ _ _ _ => hbk5 _ _ _ _ _ _) (fun _ _ _ _ _ _ _ _ => hbk26 _ _ _ _ _ _ _ _) _ _ _ _ _ _ _ _)))) (dt_wX3_placeWants_121 (fun _ _ _ _ _ _ => hbk5 _ _ _ _ _ _) (fun _ _ _ _ _ _ _ _ => hbk26 _ _ _ _ _ _ _ _) _ _ _ _ _ _ _ _)))))))))
theorem dt_wX3_placeWants_26 {bk5 : (MM → Int64 → Prop) → MM → Int64 → Int32 → Int32 → Int32 → Int32 → Prop} (hbk5 : ∀ x0 x1 x2 x3 x4 x5, DET2 (fun p => bk5 p x0 x1 x2 x3 x4 x5)) : ∀ (d : Nat) (M : MM) (tl : Int64) (v1 : Int32) (v2 : Int32) (v3 : Int32) (v4 : Int32) (v5 : Int32) (v6 : Int32), DET2 (fun p => wX3_placeWants_26 p (bk5 p) d M tl v1 v2 v3 v4 v5 v6) := by
  intro d
  induction d with
  | zero => intro M tl v1 v2 v3 v4 v5 v6; exact dt2_no
  | succ d ih =>
    intro M tl v1 v2 v3 v4 v5 v6
    unfold wX3_placeWants_26
    exact (dt2_if (dt2_call3 (dt_wpX3_withOneMore _ _ _ _) (fun _ _ _ => (hbk5 _ _ _ _ _ _))) (dt2_call3 (dt_wpX3_taken _ _ _ _) (fun _ _ _ => (dt2_call3 (dt_wpX3_taken _ _ _ _) (fun _ _ _ => (dt2_if (dt_wX3_placeWants_66 (fun _ _ _ _ _ _ => hbk5 _ _ _ _ _ _) (fun _ _ _ _ _ _ _ _ => ih _ _ _ _ _ _ _ _) _ _ _ _ _ _ _ _ _ _) (dt_wX3_placeWants_66 (fun _ _ _ _ _ _ => hbk5 _ _ _ _ _ _) (fun _ _ _ _ _ _ _ _ => ih _ _ _ _ _ _ _ _) _ _ _ _ _ _ _ _ _ _)))))))
theorem dt_wX3_placeWants_5 : ∀ (d : Nat) (M : MM) (tl : Int64) (v1 : Int32) (v2 : Int32) (v3 : Int32) (v4 : Int32), DET2 (fun p => wX3_placeWants_5 p d M tl v1 v2 v3 v4) := by
  intro d
  induction d with
  | zero => intro M tl v1 v2 v3 v4; exact dt2_no
  | succ d ih =>
    intro M tl v1 v2 v3 v4
    unfold wX3_placeWants_5
    exact (dt2_if dt2_post (dt2_and (dt2_all (fun _ => (dt2_ex (fun _ => dt_wX3_placeWants_26 (fun _ _ _ _ _ _ => ih _ _ _ _ _ _) _ _ _ _ _ _ _ _ _))))))
theorem dt_wpX3_placeWants (M : MM) (tl : Int64) (v1 : Int32) (v2 : Int32) : DET2 (fun p => wpX3_placeWants p M tl v1 v2) := by
  unfold wpX3_placeWants
  exact (dt2_ex (fun _ => dt_wX3_placeWants_5  _ _ _ _ _ _ _))
theorem dt_wX3_findPlan_137 {bk81 : (Int32 → MM → Int64 → Prop) → MM → Int64 → Int32 → Int32 → Int32 → Prop} (hbk81 : ∀ x0 x1 x2 x3 x4, DET3 (fun p => bk81 p x0 x1 x2 x3 x4)) (M : MM) (tl : Int64) (v1 : Int32) (v2 : Int32) (v3 : Int32) (s1 : Int32) (s2 : Int32) : DET3 (fun p => wX3_findPlan_137 p (bk81 p) M tl v1 v2 v3 s1 s2) := by
  unfold wX3_findPlan_137
  exact (dt3_and (dt3_all (fun _ => (hbk81 _ _ _ _ _))))
theorem dt_wX3_leastFrom_35 {bk6 : (Int32 → MM → Int64 → Prop) → MM → Int64 → Int32 → Int32 → Int32 → Int32 → Prop} (hbk6 : ∀ x0 x1 x2 x3 x4 x5, DET3 (fun p => bk6 p x0 x1 x2 x3 x4 x5)) (M : MM) (tl : Int64) (v1 : Int32) (v2 : Int32) (v3 : Int32) (v4 : Int32) : DET3 (fun p => wX3_leastFrom_35 p (bk6 p) M tl v1 v2 v3 v4) := by
  unfold wX3_leastFrom_35
  exact (hbk6 _ _ _ _ _ _)
theorem dt_wX3_leastFrom_6 : ∀ (d : Nat) (M : MM) (tl : Int64) (v1 : Int32) (v2 : Int32) (v3 : Int32) (v4 : Int32), DET3 (fun p => wX3_leastFrom_6 p d M tl v1 v2 v3 v4) := by
  intro d
  induction d with
  | zero => intro M tl v1 v2 v3 v4; exact dt3_no
  | succ d ih =>
    intro M tl v1 v2 v3 v4
    unfold wX3_leastFrom_6
    exact (dt3_if dt3_post (dt3_call3 (dt_wpX3_taken _ _ _ _) (fun _ _ _ => (dt3_if (dt_wX3_leastFrom_35 (fun _ _ _ _ _ _ => ih _ _ _ _ _ _) _ _ _ _ _ _) (dt3_call3 (dt_wpX3_costWith _ _ _ _ _) (fun _ _ _ => (dt_wX3_leastFrom_35 (fun _ _ _ _ _ _ => ih _ _ _ _ _ _) _ _ _ _ _ _)))))))
theorem dt_wpX3_leastFrom (M : MM) (tl : Int64) (v1 : Int32) (v2 : Int32) : DET3 (fun p => wpX3_leastFrom p M tl v1 v2) := by
  unfold wpX3_leastFrom
  exact (dt3_ex (fun _ => dt_wX3_leastFrom_6  _ _ _ _ _ _ _))
theorem dt_wX3_findPlan_81 : ∀ (d : Nat) (M : MM) (tl : Int64) (v1 : Int32) (v2 : Int32) (v3 : Int32), DET3 (fun p => wX3_findPlan_81 p d M tl v1 v2 v3) := by
  intro d
  induction d with
  | zero => intro M tl v1 v2 v3; exact dt3_no
  | succ d ih =>
    intro M tl v1 v2 v3
    unfold wX3_findPlan_81
    exact (dt3_if (dt3_call2 (dt_wpX3_placeWants _ _ _ _) (fun _ _ => (dt3_and dt3_post))) (dt3_call3 (dt_wpX3_taken _ _ _ _) (fun _ _ _ => (dt3_call3 (dt_wpX3_taken _ _ _ _) (fun _ _ _ => (dt3_call3 (dt_wpX3_taken _ _ _ _) (fun _ _ _ => (dt3_call3 (dt_wpX3_taken _ _ _ _) (fun _ _ _ => (dt3_if (dt_wX3_findPlan_137 (fun _ _ _ _ _ => ih _ _ _ _ _) _ _ _ _ _ _ _) (dt3_and (dt3_call3 (dt_wpX3_leastFrom _ _ _ _) (fun _ _ _ => (dt_wX3_findPlan_137 (fun _ _ _ _ _ => ih _ _ _ _ _) _ _ _ _ _ _ _))))))))))))))
theorem dt_wX3_findPlan_18 : ∀ (d : Nat) (M : MM) (tl : Int64) (v1 : Int32) (v2 : Int32) (v3 : Int32), DET3 (fun p => wX3_findPlan_18 p d M tl v1 v2 v3) := by
  intro d
  induction d with
  | zero => intro M tl v1 v2 v3; exact dt3_no
  | succ d ih =>
    intro M tl v1 v2 v3
    unfold wX3_findPlan_18
    exact (dt3_if (dt3_ex (fun _ => dt_wX3_findPlan_81  _ _ _ _ _ _)) (dt3_call3 (dt_wpX5_cell _ _ _ _ _) (fun _ _ _ => (dt3_call3 (dt_wpX1_costOf _ _ _ _ _) (fun _ _ _ => (dt3_call3 (dt_wpX1_twinOf _ _ _ _) (fun _ _ _ => (dt3_call3 (dt_wpX1_costOf _ _ _ _ _) (fun _ _ _ => (dt3_and (dt3_all (fun _ => (ih _ _ _ _ _)))))))))))))
theorem dt_wpX3_findPlan (M : MM) (tl : Int64) (v1 : Int32) : DET3 (fun p => wpX3_findPlan p M tl v1) := by
  unfold wpX3_findPlan
  exact (dt3_ex (fun _ => dt_wX3_findPlan_18  _ _ _ _ _ _))
theorem dt_wpX3_monthOf (M : MM) (tl : Int64) (v1 : Int32) : DET3 (fun p => wpX3_monthOf p M tl v1) := by
  unfold wpX3_monthOf
  exact (dt3_if dt3_post (dt3_if dt3_post (dt3_and dt3_post)))
theorem dt_wX10_plan_52 (M : MM) (tl : Int64) (v1 : Int32) (v2 : Int32) (v3 : Int32) : DET3 (fun p => wX10_plan_52 p M tl v1 v2 v3) := by
  unfold wX10_plan_52
  exact (dt3_if dt3_post (dt3_call3 (dt_wpX3_findPlan _ _ _) (fun _ _ _ => (dt3_if dt3_post (dt3_call3 (dt_wpX3_monthOf _ _ _) (fun _ _ _ => dt3_post))))))
theorem dt_wX10_plan_30 (M : MM) (tl : Int64) (v1 : Int32) (v2 : Int32) (v3 : Int32) (s0 : Int32) : DET3 (fun p => wX10_plan_30 p M tl v1 v2 v3 s0) := by
  unfold wX10_plan_30
  exact (dt3_if dt3_post (dt3_if dt3_post (dt3_if (dt_wX10_plan_52  _ _ _ _ _) (dt3_if dt3_post (dt_wX10_plan_52  _ _ _ _ _)))))
theorem dt_wX10_plan_29 (M : MM) (tl : Int64) (v1 : Int32) (v2 : Int32) (v3 : Int32) : DET3 (fun p => wX10_plan_29 p M tl v1 v2 v3) := by
  unfold wX10_plan_29
  exact (dt_wX10_plan_30  _ _ _ _ _ _)
theorem dt_wpX10_plan (M : MM) (tl : Int64) (v1 : Int32) (v2 : Int32) : DET3 (fun p => wpX10_plan p M tl v1 v2) := by
  unfold wpX10_plan
  exact (dt3_if (dt_wX10_plan_29  _ _ _ _ _) (dt3_if (dt_wX10_plan_29  _ _ _ _ _) (dt_wX10_plan_30  _ _ _ _ _ _)))
theorem dt_wX3_kindsBarred_68 {bk4 : (Int32 → MM → Int64 → Prop) → MM → Int64 → Int32 → Int32 → Prop} (hbk4 : ∀ x0 x1 x2 x3, DET3 (fun p => bk4 p x0 x1 x2 x3)) (M : MM) (tl : Int64) (v1 : Int32) (v2 : Int32) : DET3 (fun p => wX3_kindsBarred_68 p (bk4 p) M tl v1 v2) := by
  unfold wX3_kindsBarred_68
  exact (hbk4 _ _ _ _)
theorem dt_wX3_kindsBarred_62 {bk4 : (Int32 → MM → Int64 → Prop) → MM → Int64 → Int32 → Int32 → Prop} (hbk4 : ∀ x0 x1 x2 x3, DET3 (fun p => bk4 p x0 x1 x2 x3)) (M : MM) (tl : Int64) (v1 : Int32) (v2 : Int32) (v3 : Int32) : DET3 (fun p => wX3_kindsBarred_62 p (bk4 p) M tl v1 v2 v3) := by
  unfold wX3_kindsBarred_62
  exact (dt_wX3_kindsBarred_68 (fun _ _ _ _ => hbk4 _ _ _ _) _ _ _ _)
theorem dt_wX3_kindsBarred_4 : ∀ (d : Nat) (M : MM) (tl : Int64) (v1 : Int32) (v2 : Int32), DET3 (fun p => wX3_kindsBarred_4 p d M tl v1 v2) := by
  intro d
  induction d with
  | zero => intro M tl v1 v2; exact dt3_no
  | succ d ih =>
    intro M tl v1 v2
    unfold wX3_kindsBarred_4
    exact (dt3_if dt3_post (dt3_call3 (dt_wpX5_cell _ _ _ _ _) (fun _ _ _ => (dt3_call3 (dt_wpX1_lacks _ _ _ _ _) (fun _ _ _ => (dt3_if (dt3_call3 (dt_wpX1_twinOf _ _ _ _) (fun _ _ _ => (dt3_call3 (dt_wpX1_lacks _ _ _ _ _) (fun _ _ _ => (dt3_if (dt_wX3_kindsBarred_68 (fun _ _ _ _ => ih _ _ _ _) _ _ _ _) (dt_wX3_kindsBarred_62 (fun _ _ _ _ => ih _ _ _ _) _ _ _ _ _)))))) (dt_wX3_kindsBarred_62 (fun _ _ _ _ => ih _ _ _ _) _ _ _ _ _)))))))
theorem dt_wpX3_kindsBarred (M : MM) (tl : Int64) : DET3 (fun p => wpX3_kindsBarred p M tl ) := by
  unfold wpX3_kindsBarred
  exact (dt3_ex (fun _ => dt_wX3_kindsBarred_4  _ _ _ _ _))
theorem dt_wX3_costInstead_125 {bk71 : (Int32 → MM → Int64 → Prop) → MM → Int64 → Int32 → Int32 → Int32 → Prop} (hbk71 : ∀ x0 x1 x2 x3 x4, DET3 (fun p => bk71 p x0 x1 x2 x3 x4)) (M : MM) (tl : Int64) (v1 : Int32) (v3 : Int32) (s0 : Int32) (s1 : Int32) : DET3 (fun p => wX3_costInstead_125 p (bk71 p) M tl v1 v3 s0 s1) := by
  unfold wX3_costInstead_125
  exact (hbk71 _ _ _ _ _)
theorem dt_wX3_costInstead_71 : ∀ (d : Nat) (M : MM) (tl : Int64) (v1 : Int32) (v2 : Int32) (v3 : Int32), DET3 (fun p => wX3_costInstead_71 p d M tl v1 v2 v3) := by
  intro d
  induction d with
  | zero => intro M tl v1 v2 v3; exact dt3_no
  | succ d ih =>
    intro M tl v1 v2 v3
    unfold wX3_costInstead_71
    exact (dt3_if dt3_post (dt3_call3 (dt_wpX5_cell _ _ _ _ _) (fun _ _ _ => (dt3_call3 (dt_wpX1_twinOf _ _ _ _) (fun _ _ _ => (dt3_call3 (dt_wpX1_lacks _ _ _ _ _) (fun _ _ _ => (dt3_if (dt_wX3_costInstead_125 (fun _ _ _ _ _ => ih _ _ _ _ _) _ _ _ _ _ _) (dt_wX3_costInstead_125 (fun _ _ _ _ _ => ih _ _ _ _ _) _ _ _ _ _ _)))))))))
theorem dt_wX3_costInstead_52 {bk5 : (Int32 → MM → Int64 → Prop) → MM → Int64 → Int32 → Int32 → Prop} (hbk5 : ∀ x0 x1 x2 x3, DET3 (fun p => bk5 p x0 x1 x2 x3)) (M : MM) (tl : Int64) (v1 : Int32) (v2 : Int32) : DET3 (fun p => wX3_costInstead_52 p (bk5 p) M tl v1 v2) := by
  unfold wX3_costInstead_52
  exact (hbk5 _ _ _ _)
theorem dt_wX3_costInstead_42 {bk5 : (Int32 → MM → Int64 → Prop) → MM → Int64 → Int32 → Int32 → Prop} (hbk5 : ∀ x0 x1 x2 x3, DET3 (fun p => bk5 p x0 x1 x2 x3)) (M : MM) (tl : Int64) (v2 : Int32) : DET3 (fun p => wX3_costInstead_42 p (bk5 p) M tl v2) := by
  unfold wX3_costInstead_42
  exact (dt3_call3 (dt_wpX1_costOf _ _ _ _ _) (fun _ _ _ => (dt_wX3_costInstead_52 (fun _ _ _ _ => hbk5 _ _ _ _) _ _ _ _)))
theorem dt_wX3_costInstead_5 : ∀ (d : Nat) (M : MM) (tl : Int64) (v1 : Int32) (v2 : Int32), DET3 (fun p => wX3_costInstead_5 p d M tl v1 v2) := by
  intro d
  induction d with
  | zero => intro M tl v1 v2; exact dt3_no
  | succ d ih =>
    intro M tl v1 v2
    unfold wX3_costInstead_5
    exact (dt3_if (dt3_if dt3_post (dt3_ex (fun _ => dt_wX3_costInstead_71  _ _ _ _ _ _))) (dt3_call3 (dt_wpX1_lacks _ _ _ _ _) (fun _ _ _ => (dt3_if (dt3_if (dt_wX3_costInstead_42 (fun _ _ _ _ => ih _ _ _ _) _ _ _) (dt3_call3 (dt_wpX1_costOf _ _ _ _ _) (fun _ _ _ => (dt3_if (dt_wX3_costInstead_52 (fun _ _ _ _ => ih _ _ _ _) _ _ _ _) (dt_wX3_costInstead_42 (fun _ _ _ _ => ih _ _ _ _) _ _ _))))) (dt_wX3_costInstead_52 (fun _ _ _ _ => ih _ _ _ _) _ _ _ _)))))
theorem dt_wpX3_costInstead (M : MM) (tl : Int64) : DET3 (fun p => wpX3_costInstead p M tl ) := by
  unfold wpX3_costInstead
  exact (dt3_ex (fun _ => dt_wX3_costInstead_5  _ _ _ _ _))
theorem dt_wpX10_cannot (M : MM) (tl : Int64) (v1 : Int32) : DET3 (fun p => wpX10_cannot p M tl v1) := by
  unfold wpX10_cannot
  exact (dt3_if dt3_post (dt3_if (dt3_if (dt3_call3 (dt_wpX3_kindsBarred _ _) (fun _ _ _ => dt3_post)) (dt3_call3 (dt_wpX3_costInstead _ _) (fun _ _ _ => dt3_post))) dt3_post))
theorem dt_wpX10_lossOfBoth (M : MM) (tl : Int64) (v1 : Int32) (v2 : Int32) (v3 : Int32) : DET3 (fun p => wpX10_lossOfBoth p M tl v1 v2 v3) := by
  unfold wpX10_lossOfBoth
  exact (dt3_call3 (dt_wpX1_tasteOf _ _ _ _ _) (fun _ _ _ => (dt3_call3 (dt_wpX1_matchOf _ _ _ _ _) (fun _ _ _ => (dt3_if dt3_post (dt3_call3 (dt_wpX7_kindAt _ _ _ _ _) (fun _ _ _ => (dt3_call3 (dt_wpX1_tasteOf _ _ _ _ _) (fun _ _ _ => dt3_post)))))))))
theorem dt_wpX10_fire (M : MM) (tl : Int64) (v1 : Int32) (v2 : Int32) (v3 : Int32) : DET3 (fun p => wpX10_fire p M tl v1 v2 v3) := by
  unfold wpX10_fire
  exact (dt3_call3 (dt_wpX1_isLot _ _ _ _ _) (fun _ _ _ => (dt3_if dt3_post (dt3_if dt3_post (dt3_if (dt3_call3 (dt_wpX7_kindAt _ _ _ _ _) (fun _ _ _ => (dt3_if dt3_post (dt3_call3 (dt_wpX1_costOf _ _ _ _ _) (fun _ _ _ => (dt3_call3 (dt_wpX10_lossOfBoth _ _ _ _ _) (fun _ _ _ => (dt3_if (dt3_if dt3_post dt3_post) dt3_post)))))))) dt3_post)))))
theorem dt_wX10_quarrelBy_119 {bk4 : (Int32 → MM → Int64 → Prop) → MM → Int64 → Int32 → Int32 → Int32 → Prop} (hbk4 : ∀ x0 x1 x2 x3 x4, DET3 (fun p => bk4 p x0 x1 x2 x3 x4)) (M : MM) (tl : Int64) (v1 : Int32) (v2 : Int32) (v3 : Int32) : DET3 (fun p => wX10_quarrelBy_119 p (bk4 p) M tl v1 v2 v3) := by
  unfold wX10_quarrelBy_119
  exact (hbk4 _ _ _ _ _)
theorem dt_wX10_quarrelBy_89 {bk4 : (Int32 → MM → Int64 → Prop) → MM → Int64 → Int32 → Int32 → Int32 → Prop} (hbk4 : ∀ x0 x1 x2 x3 x4, DET3 (fun p => bk4 p x0 x1 x2 x3 x4)) (M : MM) (tl : Int64) (v1 : Int32) (v2 : Int32) (v3 : Int32) : DET3 (fun p => wX10_quarrelBy_89 p (bk4 p) M tl v1 v2 v3) := by
  unfold wX10_quarrelBy_89
  exact (dt3_call3 (dt_wpX1_matchBy _ _ _ _ _ _) (fun _ _ _ => (dt3_if (dt3_call3 (dt_wpX7_kindAt _ _ _ _ _) (fun _ _ _ => (dt3_if (dt_wX10_quarrelBy_119 (fun _ _ _ _ _ => hbk4 _ _ _ _ _) _ _ _ _ _) (dt_wX10_quarrelBy_119 (fun _ _ _ _ _ => hbk4 _ _ _ _ _) _ _ _ _ _)))) (dt_wX10_quarrelBy_119 (fun _ _ _ _ _ => hbk4 _ _ _ _ _) _ _ _ _ _))))
theorem dt_wX10_quarrelBy_52 {bk4 : (Int32 → MM → Int64 → Prop) → MM → Int64 → Int32 → Int32 → Int32 → Prop} (hbk4 : ∀ x0 x1 x2 x3 x4, DET3 (fun p => bk4 p x0 x1 x2 x3 x4)) (M : MM) (tl : Int64) (v1 : Int32) (v3 : Int32) (s0 : Int32) (s1 : Int32) : DET3 (fun p => wX10_quarrelBy_52 p (bk4 p) M tl v1 v3 s0 s1) := by
  unfold wX10_quarrelBy_52
  exact (dt_wX10_quarrelBy_89 (fun _ _ _ _ _ => hbk4 _ _ _ _ _) _ _ _ _ _)
theorem dt_wX10_quarrelBy_4 : ∀ (d : Nat) (M : MM) (tl : Int64) (v1 : Int32) (v2 : Int32) (v3 : Int32), DET3 (fun p => wX10_quarrelBy_4 p d M tl v1 v2 v3) := by
  intro d
  induction d with
  | zero => intro M tl v1 v2 v3; exact dt3_no
  | succ d ih =>
    intro M tl v1 v2 v3
    unfold wX10_quarrelBy_4
    exact (dt3_if dt3_post (dt3_call3 (dt_wpX1_matchBy _ _ _ _ _ _) (fun _ _ _ => (dt3_if (dt3_call3 (dt_wpX7_kindAt _ _ _ _ _) (fun _ _ _ => (dt3_if (dt_wX10_quarrelBy_52 (fun _ _ _ _ _ => ih _ _ _ _ _) _ _ _ _ _ _) (dt_wX10_quarrelBy_52 (fun _ _ _ _ _ => ih _ _ _ _ _) _ _ _ _ _ _)))) (dt3_call3 (dt_wpX7_thingAt _ _ _ _ _) (fun _ _ _ => (dt3_call3 (dt_wpX7_thingAt _ _ _ _ _) (fun _ _ _ => (dt3_call3 (dt_wpX1_isEven _ _ _ _ _) (fun _ _ _ => (dt3_if (dt_wX10_quarrelBy_89 (fun _ _ _ _ _ => ih _ _ _ _ _) _ _ _ _ _) (dt_wX10_quarrelBy_89 (fun _ _ _ _ _ => ih _ _ _ _ _) _ _ _ _ _))))))))))))
theorem dt_wpX10_quarrelBy (M : MM) (tl : Int64) (v1 : Int32) : DET3 (fun p => wpX10_quarrelBy p M tl v1) := by
  unfold wpX10_quarrelBy
  exact (dt3_ex (fun _ => dt_wX10_quarrelBy_4  _ _ _ _ _ _))
theorem dt_wpX10_quarrel (M : MM) (tl : Int64) (v1 : Int32) : DET3 (fun p => wpX10_quarrel p M tl v1) := by
  unfold wpX10_quarrel
  exact (dt3_if dt3_post (dt3_if (dt3_call3 (dt_wpX10_quarrelBy _ _ _) (fun _ _ _ => dt3_post)) dt3_post))
theorem dt_wX10_bend_34 {bk10 : (Int32 → MM → Int64 → Prop) → MM → Int64 → Int32 → Int32 → Int32 → Prop} (hbk10 : ∀ x0 x1 x2 x3 x4, DET3 (fun p => bk10 p x0 x1 x2 x3 x4)) (M : MM) (tl : Int64) (v1 : Int32) (v2 : Int32) (v3 : Int32) : DET3 (fun p => wX10_bend_34 p (bk10 p) M tl v1 v2 v3) := by
  unfold wX10_bend_34
  exact (hbk10 _ _ _ _ _)
theorem dt_wX10_bend_10 : ∀ (d : Nat) (M : MM) (tl : Int64) (v1 : Int32) (v2 : Int32) (v3 : Int32), DET3 (fun p => wX10_bend_10 p d M tl v1 v2 v3) := by
  intro d
  induction d with
  | zero => intro M tl v1 v2 v3; exact dt3_no
  | succ d ih =>
    intro M tl v1 v2 v3
    unfold wX10_bend_10
    exact (dt3_if dt3_post (dt3_call3 (dt_wpX10_quarrelBy _ _ _) (fun _ _ _ => (dt3_if (dt_wX10_bend_34 (fun _ _ _ _ _ => ih _ _ _ _ _) _ _ _ _ _) (dt_wX10_bend_34 (fun _ _ _ _ _ => ih _ _ _ _ _) _ _ _ _ _)))))
theorem dt_wpX10_bend (M : MM) (tl : Int64) : DET3 (fun p => wpX10_bend p M tl ) := by
  unfold wpX10_bend
  exact (dt3_call3 (dt_wpX10_quarrelBy _ _ _) (fun _ _ _ => (dt3_ex (fun _ => dt_wX10_bend_10  _ _ _ _ _ _))))
theorem dt_wX10_fewestToGo_34 {bk6 : (Int32 → MM → Int64 → Prop) → MM → Int64 → Int32 → Int32 → Int32 → Prop} (hbk6 : ∀ x0 x1 x2 x3 x4, DET3 (fun p => bk6 p x0 x1 x2 x3 x4)) (M : MM) (tl : Int64) (v1 : Int32) (v2 : Int32) (v3 : Int32) : DET3 (fun p => wX10_fewestToGo_34 p (bk6 p) M tl v1 v2 v3) := by
  unfold wX10_fewestToGo_34
  exact (hbk6 _ _ _ _ _)
theorem dt_wX10_fewestToGo_6 : ∀ (d : Nat) (M : MM) (tl : Int64) (v1 : Int32) (v2 : Int32) (v3 : Int32), DET3 (fun p => wX10_fewestToGo_6 p d M tl v1 v2 v3) := by
  intro d
  induction d with
  | zero => intro M tl v1 v2 v3; exact dt3_no
  | succ d ih =>
    intro M tl v1 v2 v3
    unfold wX10_fewestToGo_6
    exact (dt3_if dt3_post (dt3_if (dt_wX10_fewestToGo_34 (fun _ _ _ _ _ => ih _ _ _ _ _) _ _ _ _ _) (dt_wX10_fewestToGo_34 (fun _ _ _ _ _ => ih _ _ _ _ _) _ _ _ _ _)))
theorem dt_wpX10_fewestToGo (M : MM) (tl : Int64) (v0 : Int32) : DET3 (fun p => wpX10_fewestToGo p M tl v0) := by
  unfold wpX10_fewestToGo
  exact (dt3_ex (fun _ => dt_wX10_fewestToGo_6  _ _ _ _ _ _))
theorem dt_wX10_shops_56 {bk23 : (Int32 → MM → Int64 → Prop) → MM → Int64 → Int32 → Int32 → Int32 → Int32 → Prop} (hbk23 : ∀ x0 x1 x2 x3 x4 x5, DET3 (fun p => bk23 p x0 x1 x2 x3 x4 x5)) (M : MM) (tl : Int64) (v1 : Int32) (v2 : Int32) (v3 : Int32) (v4 : Int32) : DET3 (fun p => wX10_shops_56 p (bk23 p) M tl v1 v2 v3 v4) := by
  unfold wX10_shops_56
  exact (hbk23 _ _ _ _ _ _)
theorem dt_wX10_shops_23 : ∀ (d : Nat) (M : MM) (tl : Int64) (v1 : Int32) (v2 : Int32) (v3 : Int32) (v4 : Int32), DET3 (fun p => wX10_shops_23 p d M tl v1 v2 v3 v4) := by
  intro d
  induction d with
  | zero => intro M tl v1 v2 v3 v4; exact dt3_no
  | succ d ih =>
    intro M tl v1 v2 v3 v4
    unfold wX10_shops_23
    exact (dt3_if (dt3_if dt3_post (dt3_call3 (dt_wpX10_fewestToGo _ _ _) (fun _ _ _ => dt3_post))) (dt3_call3 (dt_wpX7_kindAt _ _ _ _ _) (fun _ _ _ => (dt3_if (dt_wX10_shops_56 (fun _ _ _ _ _ _ => ih _ _ _ _ _ _) _ _ _ _ _ _) (dt_wX10_shops_56 (fun _ _ _ _ _ _ => ih _ _ _ _ _ _) _ _ _ _ _ _)))))
theorem dt_wpX10_shops (M : MM) (tl : Int64) (v1 : Int32) (v2 : Int32) : DET3 (fun p => wpX10_shops p M tl v1 v2) := by
  unfold wpX10_shops
  exact (dt3_call3 (dt_wpX10_isBank _ _ _) (fun _ _ _ => (dt3_if dt3_post (dt3_if dt3_post (dt3_if (dt3_ex (fun _ => dt_wX10_shops_23  _ _ _ _ _ _ _)) dt3_post)))))
theorem dt_wX10_saw_60 (M : MM) (tl : Int64) (s1 : Int32) (s2 : Int32) (s3 : Int32) (s4 : Int32) : DET3 (fun p => wX10_saw_60 p M tl s1 s2 s3 s4) := by
  unfold wX10_saw_60
  exact (dt3_call2 (dt_wpX5_addRow _ _ _ _ _ _ _) (fun _ _ => dt3_post))
theorem dt_wpX10_saw (M : MM) (tl : Int64) (v1 : Int32) (v2 : Int32) (v3 : Int32) (v4 : Int32) : DET3 (fun p => wpX10_saw p M tl v1 v2 v3 v4) := by
  unfold wpX10_saw
  exact (dt3_call3 (dt_wpX1_isLot _ _ _ _ _) (fun _ _ _ => (dt3_if dt3_post (dt3_if dt3_post (dt3_if (dt3_call3 (dt_wpX5_isFull _ _ _) (fun _ _ _ => (dt3_if (dt3_if (dt_wX10_saw_60  _ _ _ _ _ _) (dt_wX10_saw_60  _ _ _ _ _ _)) dt3_post))) dt3_post)))))
theorem dt_wpX10_forget (M : MM) (tl : Int64) : DET3 (fun p => wpX10_forget p M tl ) := by
  unfold wpX10_forget
  exact (dt3_call3 (dt_wpX5_empty _ _ _) (fun _ _ _ => dt3_post))
theorem dt_wpX2_hasHistory (M : MM) (tl : Int64) (v1 : Int32) : DET3 (fun p => wpX2_hasHistory p M tl v1) := by
  unfold wpX2_hasHistory
  exact (dt3_call3 (dt_wpX1_matchOf _ _ _ _ _) (fun _ _ _ => (dt3_call3 (dt_wpX7_thingAt _ _ _ _ _) (fun _ _ _ => (dt3_if dt3_post (dt3_if dt3_post (dt3_call3 (dt_wpX7_thingAt _ _ _ _ _) (fun _ _ _ => (dt3_call3 (dt_wpX1_isEven _ _ _ _ _) (fun _ _ _ => (dt3_if dt3_post dt3_post)))))))))))
theorem dt_wX10_histories_64 {bk19 : (Int64 → MM → Int64 → Prop) → MM → Int64 → Int32 → Int64 → Int32 → Prop} (hbk19 : ∀ x0 x1 x2 x3 x4, DET3 (fun p => bk19 p x0 x1 x2 x3 x4)) (M : MM) (tl : Int64) (v1 : Int32) (v2 : Int64) (v4 : Int32) : DET3 (fun p => wX10_histories_64 p (bk19 p) M tl v1 v2 v4) := by
  unfold wX10_histories_64
  exact (hbk19 _ _ _ _ _)
theorem dt_wX2_findHistories_74 {bk12 : (MM → Int64 → Prop) → MM → Int64 → Int32 → Int32 → Int32 → Prop} (hbk12 : ∀ x0 x1 x2 x3 x4, DET2 (fun p => bk12 p x0 x1 x2 x3 x4)) (M : MM) (tl : Int64) (v1 : Int32) (v2 : Int32) (v3 : Int32) : DET2 (fun p => wX2_findHistories_74 p (bk12 p) M tl v1 v2 v3) := by
  unfold wX2_findHistories_74
  exact (hbk12 _ _ _ _ _)
theorem dt_wX2_fitsSeen_125 {bk23 : (Int32 → MM → Int64 → Prop) → MM → Int64 → Int32 → Int32 → Int32 → Int32 → Int32 → Prop} (hbk23 : ∀ x0 x1 x2 x3 x4 x5 x6, DET3 (fun p => bk23 p x0 x1 x2 x3 x4 x5 x6)) (M : MM) (tl : Int64) (v1 : Int32) (v2 : Int32) (v3 : Int32) (v4 : Int32) (v6 : Int32) : DET3 (fun p => wX2_fitsSeen_125 p (bk23 p) M tl v1 v2 v3 v4 v6) := by
  unfold wX2_fitsSeen_125
  exact (hbk23 _ _ _ _ _ _ _)
theorem dt_wX2_fitsSeen_120 {bk23 : (Int32 → MM → Int64 → Prop) → MM → Int64 → Int32 → Int32 → Int32 → Int32 → Int32 → Prop} (hbk23 : ∀ x0 x1 x2 x3 x4 x5 x6, DET3 (fun p => bk23 p x0 x1 x2 x3 x4 x5 x6)) (M : MM) (tl : Int64) (v1 : Int32) (v2 : Int32) (v3 : Int32) (v4 : Int32) (v6 : Int32) (s0 : Int32) (s1 : Int32) : DET3 (fun p => wX2_fitsSeen_120 p (bk23 p) M tl v1 v2 v3 v4 v6 s0 s1) := by
  unfold wX2_fitsSeen_120
  exact (dt3_if (dt_wX2_fitsSeen_125 (fun _ _ _ _ _ _ _ => hbk23 _ _ _ _ _ _ _) _ _ _ _ _ _ _) dt3_post)
theorem dt_wX2_fitsSeen_99 {bk23 : (Int32 → MM → Int64 → Prop) → MM → Int64 → Int32 → Int32 → Int32 → Int32 → Int32 → Prop} (hbk23 : ∀ x0 x1 x2 x3 x4 x5 x6, DET3 (fun p => bk23 p x0 x1 x2 x3 x4 x5 x6)) (M : MM) (tl : Int64) (v1 : Int32) (v2 : Int32) (v3 : Int32) (v4 : Int32) (v6 : Int32) (s0 : Int32) : DET3 (fun p => wX2_fitsSeen_99 p (bk23 p) M tl v1 v2 v3 v4 v6 s0) := by
  unfold wX2_fitsSeen_99
  exact (dt3_call3 (dt_wpX5_cell _ _ _ _ _) (fun _ _ _ => (dt3_if (dt_wX2_fitsSeen_120 (fun _ _ _ _ _ _ _ => hbk23 _ _ _ _ _ _ _) _ _ _ _ _ _ _ _ _) (dt_wX2_fitsSeen_120 (fun _ _ _ _ _ _ _ => hbk23 _ _ _ _ _ _ _) _ _ _ _ _ _ _ _ _))))
theorem dt_wX2_fitsSeen_83 {bk23 : (Int32 → MM → Int64 → Prop) → MM → Int64 → Int32 → Int32 → Int32 → Int32 → Int32 → Prop} (hbk23 : ∀ x0 x1 x2 x3 x4 x5 x6, DET3 (fun p => bk23 p x0 x1 x2 x3 x4 x5 x6)) (M : MM) (tl : Int64) (v1 : Int32) (v2 : Int32) (v3 : Int32) (v4 : Int32) (v6 : Int32) (s0 : Int32) : DET3 (fun p => wX2_fitsSeen_83 p (bk23 p) M tl v1 v2 v3 v4 v6 s0) := by
  unfold wX2_fitsSeen_83
  exact (dt3_call3 (dt_wpX5_cell _ _ _ _ _) (fun _ _ _ => (dt3_if (dt_wX2_fitsSeen_99 (fun _ _ _ _ _ _ _ => hbk23 _ _ _ _ _ _ _) _ _ _ _ _ _ _ _) (dt_wX2_fitsSeen_99 (fun _ _ _ _ _ _ _ => hbk23 _ _ _ _ _ _ _) _ _ _ _ _ _ _ _))))
theorem dt_wX2_fitsSeen_70 {bk23 : (Int32 → MM → Int64 → Prop) → MM → Int64 → Int32 → Int32 → Int32 → Int32 → Int32 → Prop} (hbk23 : ∀ x0 x1 x2 x3 x4 x5 x6, DET3 (fun p => bk23 p x0 x1 x2 x3 x4 x5 x6)) (M : MM) (tl : Int64) (v1 : Int32) (v2 : Int32) (v3 : Int32) (v4 : Int32) (v6 : Int32) (v7 : Int32) (s0 : Int32) (s1 : Int32) : DET3 (fun p => wX2_fitsSeen_70 p (bk23 p) M tl v1 v2 v3 v4 v6 v7 s0 s1) := by
  unfold wX2_fitsSeen_70
  exact (dt3_if (dt3_if (dt_wX2_fitsSeen_83 (fun _ _ _ _ _ _ _ => hbk23 _ _ _ _ _ _ _) _ _ _ _ _ _ _ _) (dt_wX2_fitsSeen_83 (fun _ _ _ _ _ _ _ => hbk23 _ _ _ _ _ _ _) _ _ _ _ _ _ _ _)) (dt_wX2_fitsSeen_125 (fun _ _ _ _ _ _ _ => hbk23 _ _ _ _ _ _ _) _ _ _ _ _ _ _))
theorem dt_wX2_fitsSeen_49 {bk23 : (Int32 → MM → Int64 → Prop) → MM → Int64 → Int32 → Int32 → Int32 → Int32 → Int32 → Prop} (hbk23 : ∀ x0 x1 x2 x3 x4 x5 x6, DET3 (fun p => bk23 p x0 x1 x2 x3 x4 x5 x6)) (M : MM) (tl : Int64) (v1 : Int32) (v2 : Int32) (v3 : Int32) (v4 : Int32) (v6 : Int32) (s0 : Int32) : DET3 (fun p => wX2_fitsSeen_49 p (bk23 p) M tl v1 v2 v3 v4 v6 s0) := by
  unfold wX2_fitsSeen_49
  exact (dt3_call3 (dt_wpX5_cell _ _ _ _ _) (fun _ _ _ => (dt3_if (dt_wX2_fitsSeen_70 (fun _ _ _ _ _ _ _ => hbk23 _ _ _ _ _ _ _) _ _ _ _ _ _ _ _ _ _) (dt_wX2_fitsSeen_70 (fun _ _ _ _ _ _ _ => hbk23 _ _ _ _ _ _ _) _ _ _ _ _ _ _ _ _ _))))
theorem dt_wX2_fitsSeen_23 : ∀ (d : Nat) (M : MM) (tl : Int64) (v1 : Int32) (v2 : Int32) (v3 : Int32) (v4 : Int32) (v6 : Int32), DET3 (fun p => wX2_fitsSeen_23 p d M tl v1 v2 v3 v4 v6) := by
  intro d
  induction d with
  | zero => intro M tl v1 v2 v3 v4 v6; exact dt3_no
  | succ d ih =>
    intro M tl v1 v2 v3 v4 v6
    unfold wX2_fitsSeen_23
    exact (dt3_if dt3_post (dt3_call3 (dt_wpX5_cell _ _ _ _ _) (fun _ _ _ => (dt3_if (dt_wX2_fitsSeen_49 (fun _ _ _ _ _ _ _ => ih _ _ _ _ _ _ _) _ _ _ _ _ _ _ _) (dt_wX2_fitsSeen_49 (fun _ _ _ _ _ _ _ => ih _ _ _ _ _ _ _) _ _ _ _ _ _ _ _)))))
theorem dt_wpX2_fitsSeen (M : MM) (tl : Int64) (v1 : Int32) (v2 : Int32) (v3 : Int32) : DET3 (fun p => wpX2_fitsSeen p M tl v1 v2 v3) := by
  unfold wpX2_fitsSeen
  exact (dt3_call3 (dt_wpX1_matchOf _ _ _ _ _) (fun _ _ _ => (dt3_ex (fun _ => dt_wX2_fitsSeen_23  _ _ _ _ _ _ _ _))))
theorem dt_wX2_findHistories_68 {bk12 : (MM → Int64 → Prop) → MM → Int64 → Int32 → Int32 → Int32 → Prop} (hbk12 : ∀ x0 x1 x2 x3 x4, DET2 (fun p => bk12 p x0 x1 x2 x3 x4)) {bk20 : (MM → Int64 → Prop) → MM → Int64 → Int32 → Int32 → Int32 → Int32 → Prop} (hbk20 : ∀ x0 x1 x2 x3 x4 x5, DET2 (fun p => bk20 p x0 x1 x2 x3 x4 x5)) (M : MM) (tl : Int64) (v1 : Int32) (v2 : Int32) (v3 : Int32) (v4 : Int32) : DET2 (fun p => wX2_findHistories_68 p (bk12 p) (bk20 p) M tl v1 v2 v3 v4) := by
  unfold wX2_findHistories_68
  exact (hbk20 _ _ _ _ _ _)
theorem dt_wX2_note_12 (M : MM) (tl : Int64) (v1 : Int32) (v2 : Int32) : DET2 (fun p => wX2_note_12 p M tl v1 v2) := by
  unfold wX2_note_12
  exact (dt2_all (fun _ => (dt2_all (fun _ => (dt2_all (fun _ => dt2_post))))))
theorem dt_wpX2_note (M : MM) (tl : Int64) (v1 : Int32) (v2 : Int32) : DET2 (fun p => wpX2_note p M tl v1 v2) := by
  unfold wpX2_note
  exact (dt2_if (dt2_all (fun _ => (dt_wX2_note_12  _ _ _ _))) (dt_wX2_note_12  _ _ _ _))
theorem dt_wX2_findHistories_51 {bk12 : (MM → Int64 → Prop) → MM → Int64 → Int32 → Int32 → Int32 → Prop} (hbk12 : ∀ x0 x1 x2 x3 x4, DET2 (fun p => bk12 p x0 x1 x2 x3 x4)) {bk20 : (MM → Int64 → Prop) → MM → Int64 → Int32 → Int32 → Int32 → Int32 → Prop} (hbk20 : ∀ x0 x1 x2 x3 x4 x5, DET2 (fun p => bk20 p x0 x1 x2 x3 x4 x5)) (M : MM) (tl : Int64) (v1 : Int32) (v2 : Int32) (v3 : Int32) (v4 : Int32) : DET2 (fun p => wX2_findHistories_51 p (bk12 p) (bk20 p) M tl v1 v2 v3 v4) := by
  unfold wX2_findHistories_51
  exact (dt2_call3 (dt_wpX2_fitsSeen _ _ _ _ _) (fun _ _ _ => (dt2_if (dt_wX2_findHistories_68 (fun _ _ _ _ _ => hbk12 _ _ _ _ _) (fun _ _ _ _ _ _ => hbk20 _ _ _ _ _ _) _ _ _ _ _ _) (dt2_call2 (dt_wpX2_note _ _ _ _) (fun _ _ => (dt_wX2_findHistories_68 (fun _ _ _ _ _ => hbk12 _ _ _ _ _) (fun _ _ _ _ _ _ => hbk20 _ _ _ _ _ _) _ _ _ _ _ _))))))
theorem dt_wX2_findHistories_20 {bk12 : (MM → Int64 → Prop) → MM → Int64 → Int32 → Int32 → Int32 → Prop} (hbk12 : ∀ x0 x1 x2 x3 x4, DET2 (fun p => bk12 p x0 x1 x2 x3 x4)) : ∀ (d : Nat) (M : MM) (tl : Int64) (v1 : Int32) (v2 : Int32) (v3 : Int32) (v4 : Int32), DET2 (fun p => wX2_findHistories_20 p (bk12 p) d M tl v1 v2 v3 v4) := by
  intro d
  induction d with
  | zero => intro M tl v1 v2 v3 v4; exact dt2_no
  | succ d ih =>
    intro M tl v1 v2 v3 v4
    unfold wX2_findHistories_20
    exact (dt2_if (dt_wX2_findHistories_74 (fun _ _ _ _ _ => hbk12 _ _ _ _ _) _ _ _ _ _) (dt2_if (dt_wX2_findHistories_74 (fun _ _ _ _ _ => hbk12 _ _ _ _ _) _ _ _ _ _) (dt2_call3 (dt_wpX2_fitsSeen _ _ _ _ _) (fun _ _ _ => (dt2_if (dt_wX2_findHistories_51 (fun _ _ _ _ _ => hbk12 _ _ _ _ _) (fun _ _ _ _ _ _ => ih _ _ _ _ _ _) _ _ _ _ _ _) (dt2_call2 (dt_wpX2_note _ _ _ _) (fun _ _ => (dt_wX2_findHistories_51 (fun _ _ _ _ _ => hbk12 _ _ _ _ _) (fun _ _ _ _ _ _ => ih _ _ _ _ _ _) _ _ _ _ _ _))))))))
theorem dt_wX2_findHistories_12 : ∀ (d : Nat) (M : MM) (tl : Int64) (v1 : Int32) (v2 : Int32) (v3 : Int32), DET2 (fun p => wX2_findHistories_12 p d M tl v1 v2 v3) := by
  intro d
  induction d with
  | zero => intro M tl v1 v2 v3; exact dt2_no
  | succ d ih =>
    intro M tl v1 v2 v3
    unfold wX2_findHistories_12
    exact (dt2_if dt2_post (dt2_ex (fun _ => dt_wX2_findHistories_20 (fun _ _ _ _ _ => ih _ _ _ _ _) _ _ _ _ _ _ _)))
theorem dt_wpX2_findHistories (M : MM) (tl : Int64) (v1 : Int32) (v2 : Int32) : DET2 (fun p => wpX2_findHistories p M tl v1 v2) := by
  unfold wpX2_findHistories
  exact (dt2_all (fun _ => (dt2_all (fun _ => (dt2_ex (fun _ => dt_wX2_findHistories_12  _ _ _ _ _ _))))))
theorem dt_wX10_histories_19 : ∀ (d : Nat) (M : MM) (tl : Int64) (v1 : Int32) (v2 : Int64) (v4 : Int32), DET3 (fun p => wX10_histories_19 p d M tl v1 v2 v4) := by
  intro d
  induction d with
  | zero => intro M tl v1 v2 v4; exact dt3_no
  | succ d ih =>
    intro M tl v1 v2 v4
    unfold wX10_histories_19
    exact (dt3_if dt3_post (dt3_call3 (dt_wpX2_hasHistory _ _ _) (fun _ _ _ => (dt3_if (dt_wX10_histories_64 (fun _ _ _ _ _ => ih _ _ _ _ _) _ _ _ _ _) (dt3_call2 (dt_wpX2_findHistories _ _ _ _) (fun _ _ => (dt_wX10_histories_64 (fun _ _ _ _ _ => ih _ _ _ _ _) _ _ _ _ _)))))))
theorem dt_wpX10_histories (M : MM) (tl : Int64) (v1 : Int32) : DET3 (fun p => wpX10_histories p M tl v1) := by
  unfold wpX10_histories
  exact (dt3_if dt3_post (dt3_if (dt3_ex (fun _ => dt_wX10_histories_19  _ _ _ _ _ _)) dt3_post))
theorem dt_wpX2_onlyBeginner (M : MM) (tl : Int64) : DET3 (fun p => wpX2_onlyBeginner p M tl ) := by
  unfold wpX2_onlyBeginner
  exact (dt3_if dt3_post dt3_post)
theorem dt_wpX10_began (M : MM) (tl : Int64) (v1 : Int32) (v2 : Int32) (v3 : Int32) : DET3 (fun p => wpX10_began p M tl v1 v2 v3) := by
  unfold wpX10_began
  exact (dt3_call3 (dt_wpX1_isLot _ _ _ _ _) (fun _ _ _ => (dt3_if dt3_post (dt3_if dt3_post (dt3_if dt3_post (dt3_if dt3_post (dt3_if (dt3_call3 (dt_wpX2_hasHistory _ _ _) (fun _ _ _ => (dt3_if dt3_post (dt3_call2 (dt_wpX2_findHistories _ _ _ _) (fun _ _ => (dt3_if dt3_post (dt3_if (dt3_call3 (dt_wpX2_onlyBeginner _ _) (fun _ _ _ => dt3_post)) (dt3_if dt3_post dt3_post)))))))) dt3_post)))))))
theorem dt_wpX5_copyFrom (M : MM) (tl : Int64) (v0 : Nat) (v1 : Nat) : DET2 (fun p => wpX5_copyFrom p M tl v0 v1) := by
  unfold wpX5_copyFrom
  exact (dt2_and (dt2_and (dt2_all (fun _ => (dt2_and (dt2_and (dt2_and (dt2_and (dt2_and (dt2_and (dt2_and (dt2_and (dt2_and (dt2_and (dt2_and (dt2_all (fun _ => dt2_post)))))))))))))))))
theorem dt_wpX7_copyFrom (M : MM) (tl : Int64) (v0 : Nat) (v1 : Nat) : DET2 (fun p => wpX7_copyFrom p M tl v0 v1) := by
  unfold wpX7_copyFrom
  exact (dt2_and (dt2_and (dt2_and (dt2_and (dt2_and (dt2_and (dt2_all (fun _ => (dt2_and (dt2_and (dt2_and (dt2_call2 (dt_wpX5_copyFrom _ _ _ _) (fun _ _ => (dt2_and (dt2_and (dt2_and (dt2_call2 (dt_wpX5_copyFrom _ _ _ _) (fun _ _ => (dt2_and (dt2_and (dt2_and (dt2_call2 (dt_wpX5_copyFrom _ _ _ _) (fun _ _ => dt2_post)))))))))))))))))))))))
theorem dt_wX10_keep_25 (M : MM) (tl : Int64) (v1 : Int32) (s0 : Int32) : DET3 (fun p => wX10_keep_25 p M tl v1 s0) := by
  unfold wX10_keep_25
  exact (dt3_and (dt3_and (dt3_call2 (dt_wpX7_copyFrom _ _ _ _) (fun _ _ => (dt3_and (dt3_all (fun _ => dt3_post)))))))
theorem dt_wpX10_keep (M : MM) (tl : Int64) (v1 : Int32) : DET3 (fun p => wpX10_keep p M tl v1) := by
  unfold wpX10_keep
  exact (dt3_if dt3_post (dt3_if (dt3_and (dt3_if (dt_wX10_keep_25  _ _ _ _) (dt_wX10_keep_25  _ _ _ _))) dt3_post))
theorem dt_wX7_countThings_25 {bk4 : (Int32 → MM → Int64 → Prop) → MM → Int64 → Nat → Int32 → Int32 → Prop} (hbk4 : ∀ x0 x1 x2 x3 x4, DET3 (fun p => bk4 p x0 x1 x2 x3 x4)) (M : MM) (tl : Int64) (v0 : Nat) (v2 : Int32) (s0 : Int32) (s1 : Int32) : DET3 (fun p => wX7_countThings_25 p (bk4 p) M tl v0 v2 s0 s1) := by
  unfold wX7_countThings_25
  exact (hbk4 _ _ _ _ _)
theorem dt_wX7_countThings_4 : ∀ (d : Nat) (M : MM) (tl : Int64) (v0 : Nat) (v1 : Int32) (v2 : Int32), DET3 (fun p => wX7_countThings_4 p d M tl v0 v1 v2) := by
  intro d
  induction d with
  | zero => intro M tl v0 v1 v2; exact dt3_no
  | succ d ih =>
    intro M tl v0 v1 v2
    unfold wX7_countThings_4
    exact (dt3_if dt3_post (dt3_and (dt3_and (dt3_and (dt3_if (dt_wX7_countThings_25 (fun _ _ _ _ _ => ih _ _ _ _ _) _ _ _ _ _ _) (dt_wX7_countThings_25 (fun _ _ _ _ _ => ih _ _ _ _ _) _ _ _ _ _ _))))))
theorem dt_wpX7_countThings (M : MM) (tl : Int64) (v0 : Nat) : DET3 (fun p => wpX7_countThings p M tl v0) := by
  unfold wpX7_countThings
  exact (dt3_ex (fun _ => dt_wX7_countThings_4  _ _ _ _ _ _))
theorem dt_wpX10_back (M : MM) (tl : Int64) (v1 : Int32) : DET3 (fun p => wpX10_back p M tl v1) := by
  unfold wpX10_back
  exact (dt3_if dt3_post (dt3_if (dt3_and (dt3_if dt3_post (dt3_and (dt3_call2 (dt_wpX7_copyFrom _ _ _ _) (fun _ _ => (dt3_call3 (dt_wpX7_countThings _ _ _) (fun _ _ _ => dt3_post))))))) dt3_post))
theorem dt_wpX10_isSheet (M : MM) (tl : Int64) (v0 : Int32) : DET3 (fun p => wpX10_isSheet p M tl v0) := by
  unfold wpX10_isSheet
  exact (dt3_if dt3_post (dt3_if dt3_post dt3_post))
theorem dt_wpX10_isLane (M : MM) (tl : Int64) (v0 : Int32) : DET3 (fun p => wpX10_isLane p M tl v0) := by
  unfold wpX10_isLane
  exact (dt3_if dt3_post (dt3_if dt3_post dt3_post))
theorem dt_wpX8_wholeThings (M : MM) (tl : Int64) (v0 : Nat) (v1 : Int32) (v2 : Int32) (v3 : Int32) : DET3 (fun p => wpX8_wholeThings p M tl v0 v1 v2 v3) := by
  unfold wpX8_wholeThings
  exact (dt3_and (dt3_if dt3_post (dt3_and (dt3_if (dt3_if dt3_post (dt3_and (dt3_if (dt3_and dt3_post) dt3_post))) dt3_post))))
theorem dt_wpX8_faultOfReading (M : MM) (tl : Int64) (v0 : Nat) (v1 : Int32) (v2 : Int32) (v3 : Int32) : DET3 (fun p => wpX8_faultOfReading p M tl v0 v1 v2 v3) := by
  unfold wpX8_faultOfReading
  exact (dt3_and (dt3_call3 (dt_wpX8_wholeThings _ _ _ _ _ _) (fun _ _ _ => (dt3_if (dt3_and (dt3_if (dt3_and (dt3_if dt3_post dt3_post)) dt3_post)) dt3_post))))
theorem dt_wpX8_faultAt (M : MM) (tl : Int64) (v0 : Nat) (v1 : Int32) : DET3 (fun p => wpX8_faultAt p M tl v0 v1) := by
  unfold wpX8_faultAt
  exact (dt3_and (dt3_if (dt3_if dt3_post (dt3_and (dt3_if dt3_post dt3_post))) dt3_post))
theorem dt_wpX8_cell (M : MM) (tl : Int64) (v0 : Nat) (v1 : Int32) : DET3 (fun p => wpX8_cell p M tl v0 v1) := by
  unfold wpX8_cell
  exact (dt3_and (dt3_call3 (dt_wpX8_faultAt _ _ _ _) (fun _ _ _ => (dt3_if (dt3_and (dt3_and (dt3_and dt3_post))) dt3_post))))
theorem dt_wX10_read_142 : ∀ (d : Nat) (M : MM) (tl : Int64) (v3 : Int32) (v5 : Nat) (v6 : Int32) (v7 : Int32) (v8 : Int32), DET3 (fun p => wX10_read_142 p d M tl v3 v5 v6 v7 v8) := by
  intro d
  induction d with
  | zero => intro M tl v3 v5 v6 v7 v8; exact dt3_no
  | succ d ih =>
    intro M tl v3 v5 v6 v7 v8
    unfold wX10_read_142
    exact (dt3_if (dt3_all (fun _ => dt3_post)) (dt3_and (dt3_call3 (dt_wpX8_cell _ _ _ _) (fun _ _ _ => (dt3_and (dt3_call3 (dt_wpX8_cell _ _ _ _) (fun _ _ _ => (dt3_and (dt3_call3 (dt_wpX8_cell _ _ _ _) (fun _ _ _ => (dt3_call2 (dt_wpX7_setThing _ _ _ _ _ _) (fun _ _ => (ih _ _ _ _ _ _ _)))))))))))))
theorem dt_wX10_read_71 : ∀ (d : Nat) (M : MM) (tl : Int64) (v3 : Int32) (v5 : Nat) (v6 : Int32) (v7 : Int32) (v8 : Int32), DET3 (fun p => wX10_read_71 p d M tl v3 v5 v6 v7 v8) := by
  intro d
  induction d with
  | zero => intro M tl v3 v5 v6 v7 v8; exact dt3_no
  | succ d ih =>
    intro M tl v3 v5 v6 v7 v8
    unfold wX10_read_71
    exact (dt3_if (dt3_ex (fun _ => dt_wX10_read_142  _ _ _ _ _ _ _ _)) (dt3_and (dt3_call3 (dt_wpX8_cell _ _ _ _) (fun _ _ _ => (dt3_and (dt3_call3 (dt_wpX8_cell _ _ _ _) (fun _ _ _ => (dt3_call3 (dt_wpX1_isLot _ _ _ _ _) (fun _ _ _ => (dt3_if dt3_post (dt3_and (dt3_call3 (dt_wpX8_cell _ _ _ _) (fun _ _ _ => (dt3_call3 (dt_wpX10_isThing _ _ _) (fun _ _ _ => (dt3_if dt3_post (ih _ _ _ _ _ _ _)))))))))))))))))
theorem dt_wX10_read_66 (M : MM) (tl : Int64) (v3 : Int32) (v5 : Nat) (v6 : Int32) (s0 : Int32) : DET3 (fun p => wX10_read_66 p M tl v3 v5 v6 s0) := by
  unfold wX10_read_66
  exact (dt3_ex (fun _ => dt_wX10_read_71  _ _ _ _ _ _ _ _))
theorem dt_wpX10_read (M : MM) (tl : Int64) (v1 : Int32) (v2 : Int32) (v3 : Int32) (v4 : Int32) : DET3 (fun p => wpX10_read p M tl v1 v2 v3 v4) := by
  unfold wpX10_read
  exact (dt3_call3 (dt_wpX10_isSheet _ _ _) (fun _ _ _ => (dt3_if dt3_post (dt3_call3 (dt_wpX10_isLane _ _ _) (fun _ _ _ => (dt3_if dt3_post (dt3_if dt3_post (dt3_if (dt3_and (dt3_and (dt3_call3 (dt_wpX8_faultOfReading _ _ _ _ _ _) (fun _ _ _ => (dt3_if (dt_wX10_read_66  _ _ _ _ _ _) (dt3_and (dt3_call3 (dt_wpX8_wholeThings _ _ _ _ _ _) (fun _ _ _ => (dt_wX10_read_66  _ _ _ _ _ _))))))))) dt3_post))))))))
theorem dt_wpX10_torn (M : MM) (tl : Int64) : DET3 (fun p => wpX10_torn p M tl ) := by
  unfold wpX10_torn
  exact dt3_post
theorem dt_wX1_countPairs_29 {bk4 : (Int32 → MM → Int64 → Prop) → MM → Int64 → Nat → Int32 → Int32 → Prop} (hbk4 : ∀ x0 x1 x2 x3 x4, DET3 (fun p => bk4 p x0 x1 x2 x3 x4)) (M : MM) (tl : Int64) (v0 : Nat) (v2 : Int32) (s0 : Int32) (s1 : Int32) : DET3 (fun p => wX1_countPairs_29 p (bk4 p) M tl v0 v2 s0 s1) := by
  unfold wX1_countPairs_29
  exact (hbk4 _ _ _ _ _)
theorem dt_wX1_countPairs_4 : ∀ (d : Nat) (M : MM) (tl : Int64) (v0 : Nat) (v1 : Int32) (v2 : Int32), DET3 (fun p => wX1_countPairs_4 p d M tl v0 v1 v2) := by
  intro d
  induction d with
  | zero => intro M tl v0 v1 v2; exact dt3_no
  | succ d ih =>
    intro M tl v0 v1 v2
    unfold wX1_countPairs_4
    exact (dt3_and (dt3_if dt3_post (dt3_and (dt3_call3 (dt_wpX1_matchOf _ _ _ _ _) (fun _ _ _ => (dt3_if (dt_wX1_countPairs_29 (fun _ _ _ _ _ => ih _ _ _ _ _) _ _ _ _ _ _) (dt_wX1_countPairs_29 (fun _ _ _ _ _ => ih _ _ _ _ _) _ _ _ _ _ _)))))))
theorem dt_wpX1_countPairs (M : MM) (tl : Int64) (v0 : Nat) : DET3 (fun p => wpX1_countPairs p M tl v0) := by
  unfold wpX1_countPairs
  exact (dt3_ex (fun _ => dt_wX1_countPairs_4  _ _ _ _ _ _))
theorem dt_wX10_count_96 (M : MM) (tl : Int64) (s0 : Int32) : DET3 (fun p => wX10_count_96 p M tl s0) := by
  unfold wX10_count_96
  exact (dt3_and (dt3_if dt3_post dt3_post))
theorem dt_wpX10_count (M : MM) (tl : Int64) (v1 : Int32) : DET3 (fun p => wpX10_count p M tl v1) := by
  unfold wpX10_count
  exact (dt3_if (dt3_call3 (dt_wpX7_countThings _ _ _) (fun _ _ _ => dt3_post)) (dt3_if (dt3_call3 (dt_wpX1_countPairs _ _ _) (fun _ _ _ => dt3_post)) (dt3_if dt3_post (dt3_if dt3_post (dt3_if (dt3_and (dt3_if (dt_wX10_count_96  _ _ _) (dt_wX10_count_96  _ _ _))) (dt3_if dt3_post (dt3_if (dt3_and (dt3_and (dt3_if (dt3_and (dt3_and dt3_post)) dt3_post))) dt3_post)))))))
theorem dt_wpX11_in (M : MM) (tl : Int64) (v0 : Int64) (v2 : Int64) (v4 : Int64) : DET3 (fun p => wpX11_in p M tl v0 v2 v4) := by
  unfold wpX11_in
  exact (dt3_if dt3_post (dt3_if dt3_post dt3_post))
theorem dt_wpX11_end (M : MM) (tl : Int64) (v1 : Int32) : DET3 (fun p => wpX11_end p M tl v1) := by
  unfold wpX11_end
  exact (dt3_call3 (dt_wpX11_in _ _ _ _ _) (fun _ _ _ => (dt3_if dt3_post (dt3_all (fun _ => dt3_post)))))
theorem dt_wpX11_rule (M : MM) (tl : Int64) (v1 : Int32) : DET3 (fun p => wpX11_rule p M tl v1) := by
  unfold wpX11_rule
  exact (dt3_if dt3_post (dt3_if dt3_post (dt3_if dt3_post (dt3_if (dt3_and dt3_post) (dt3_call3 (dt_wpX11_in _ _ _ _ _) (fun _ _ _ => (dt3_if dt3_post (dt3_and dt3_post))))))))
theorem dt_wpX11_isKind (M : MM) (tl : Int64) (v0 : Int32) : DET3 (fun p => wpX11_isKind p M tl v0) := by
  unfold wpX11_isKind
  exact (dt3_call3 (dt_wpX11_in _ _ _ _ _) (fun _ _ _ => (dt3_and dt3_post)))
theorem dt_wpX11_doesLack (M : MM) (tl : Int64) (v1 : Int32) (v2 : Int32) : DET3 (fun p => wpX11_doesLack p M tl v1 v2) := by
  unfold wpX11_doesLack
  exact (dt3_and (dt3_if dt3_post dt3_post))
theorem dt_wpX11_flag (M : MM) (tl : Int64) (v0 : Int32) : DET3 (fun p => wpX11_flag p M tl v0) := by
  unfold wpX11_flag
  exact (dt3_if dt3_post dt3_post)
theorem dt_wpX11_kind (M : MM) (tl : Int64) (v1 : Int32) (v2 : Int32) : DET3 (fun p => wpX11_kind p M tl v1 v2) := by
  unfold wpX11_kind
  exact (dt3_call3 (dt_wpX11_isKind _ _ _) (fun _ _ _ => (dt3_if dt3_post (dt3_if (dt3_and dt3_post) (dt3_if dt3_post (dt3_if (dt3_and dt3_post) (dt3_if (dt3_and dt3_post) (dt3_if (dt3_and dt3_post) (dt3_if (dt3_and dt3_post) (dt3_if (dt3_call3 (dt_wpX11_doesLack _ _ _ _) (fun _ _ _ => (dt3_call3 (dt_wpX11_flag _ _ _) (fun _ _ _ => dt3_post)))) (dt3_if (dt3_call3 (dt_wpX11_doesLack _ _ _ _) (fun _ _ _ => (dt3_call3 (dt_wpX11_flag _ _ _) (fun _ _ _ => dt3_post)))) dt3_post)))))))))))
theorem dt_wpX11_colour (M : MM) (tl : Int64) (v1 : Int32) : DET3 (fun p => wpX11_colour p M tl v1) := by
  unfold wpX11_colour
  exact (dt3_call3 (dt_wpX11_in _ _ _ _ _) (fun _ _ _ => (dt3_if dt3_post (dt3_and dt3_post))))
theorem dt_wpX11_isThing (M : MM) (tl : Int64) (v0 : Int32) : DET3 (fun p => wpX11_isThing p M tl v0) := by
  unfold wpX11_isThing
  exact (dt3_if dt3_post (dt3_call3 (dt_wpX11_in _ _ _ _ _) (fun _ _ _ => (dt3_if dt3_post (dt3_call3 (dt_wpX11_in _ _ _ _ _) (fun _ _ _ => (dt3_if dt3_post dt3_post)))))))
theorem dt_wX11_mirrorOf_29 (M : MM) (tl : Int64) (v1 : Int32) (v2 : Int32) (s0 : Int32) : DET3 (fun p => wX11_mirrorOf_29 p M tl v1 v2 s0) := by
  unfold wX11_mirrorOf_29
  exact (dt3_if dt3_post (dt3_and (dt3_and dt3_post)))
theorem dt_wpX11_mirrorOf (M : MM) (tl : Int64) (v1 : Int32) : DET3 (fun p => wpX11_mirrorOf p M tl v1) := by
  unfold wpX11_mirrorOf
  exact (dt3_if (dt_wX11_mirrorOf_29  _ _ _ _ _) (dt_wX11_mirrorOf_29  _ _ _ _ _))
theorem dt_wpX11_mirror (M : MM) (tl : Int64) (v1 : Int32) : DET3 (fun p => wpX11_mirror p M tl v1) := by
  unfold wpX11_mirror
  exact (dt3_call3 (dt_wpX11_isThing _ _ _) (fun _ _ _ => (dt3_if dt3_post (dt3_call3 (dt_wpX11_mirrorOf _ _ _) (fun _ _ _ => dt3_post)))))
theorem dt_wpX11_work (M : MM) (tl : Int64) (v1 : Int32) (v2 : Int32) : DET3 (fun p => wpX11_work p M tl v1 v2) := by
  unfold wpX11_work
  exact (dt3_and (dt3_call3 (dt_wpX11_in _ _ _ _ _) (fun _ _ _ => (dt3_if dt3_post (dt3_call3 (dt_wpX11_in _ _ _ _ _) (fun _ _ _ => (dt3_if dt3_post (dt3_and dt3_post))))))))
theorem dt_wpX11_isBank (M : MM) (tl : Int64) (v0 : Int32) : DET3 (fun p => wpX11_isBank p M tl v0) := by
  unfold wpX11_isBank
  exact (dt3_call3 (dt_wpX11_in _ _ _ _ _) (fun _ _ _ => (dt3_and dt3_post)))
theorem dt_wpX11_isLot (M : MM) (tl : Int64) (v1 : Int32) (v2 : Int32) : DET3 (fun p => wpX11_isLot p M tl v1 v2) := by
  unfold wpX11_isLot
  exact (dt3_call3 (dt_wpX11_isBank _ _ _) (fun _ _ _ => (dt3_if dt3_post (dt3_call3 (dt_wpX11_in _ _ _ _ _) (fun _ _ _ => (dt3_if dt3_post dt3_post))))))
theorem dt_wpX11_thing (M : MM) (tl : Int64) (v1 : Int32) (v2 : Int32) : DET3 (fun p => wpX11_thing p M tl v1 v2) := by
  unfold wpX11_thing
  exact (dt3_call3 (dt_wpX11_isLot _ _ _ _) (fun _ _ _ => (dt3_if dt3_post (dt3_and dt3_post))))
theorem dt_wpX11_put (M : MM) (tl : Int64) (v1 : Int32) (v2 : Int32) (v3 : Int32) : DET3 (fun p => wpX11_put p M tl v1 v2 v3) := by
  unfold wpX11_put
  exact (dt3_call3 (dt_wpX11_isLot _ _ _ _) (fun _ _ _ => (dt3_if dt3_post (dt3_call3 (dt_wpX11_isThing _ _ _) (fun _ _ _ => (dt3_if dt3_post (dt3_and (dt3_and (dt3_all (fun _ => dt3_post))))))))))
theorem dt_wX11_matchBy_17 (M : MM) (tl : Int64) (s0 : Int32) : DET3 (fun p => wX11_matchBy_17 p M tl s0) := by
  unfold wX11_matchBy_17
  exact (dt3_call3 (dt_wpX11_in _ _ _ _ _) (fun _ _ _ => (dt3_if dt3_post dt3_post)))
theorem dt_wpX11_matchBy (M : MM) (tl : Int64) (v1 : Int32) (v2 : Int32) (v3 : Int32) : DET3 (fun p => wpX11_matchBy p M tl v1 v2 v3) := by
  unfold wpX11_matchBy
  exact (dt3_if (dt_wX11_matchBy_17  _ _ _) (dt_wX11_matchBy_17  _ _ _))
theorem dt_wpX11_matchOf (M : MM) (tl : Int64) (v1 : Int32) (v2 : Int32) : DET3 (fun p => wpX11_matchOf p M tl v1 v2) := by
  unfold wpX11_matchOf
  exact (dt3_call3 (dt_wpX11_matchBy _ _ _ _ _) (fun _ _ _ => dt3_post))
theorem dt_wpX11_match (M : MM) (tl : Int64) (v1 : Int32) (v2 : Int32) : DET3 (fun p => wpX11_match p M tl v1 v2) := by
  unfold wpX11_match
  exact (dt3_call3 (dt_wpX11_isLot _ _ _ _) (fun _ _ _ => (dt3_if dt3_post (dt3_call3 (dt_wpX11_matchOf _ _ _ _) (fun _ _ _ => dt3_post)))))
theorem dt_wX11_asNow_2 : ∀ (d : Nat) (M : MM) (tl : Int64) (v1 : Int32), DET2 (fun p => wX11_asNow_2 p d M tl v1) := by
  intro d
  induction d with
  | zero => intro M tl v1; exact dt2_no
  | succ d ih =>
    intro M tl v1
    unfold wX11_asNow_2
    exact (dt2_if dt2_post (dt2_and (dt2_and (dt2_all (fun _ => (ih _ _ _))))))
theorem dt_wpX11_asNow (M : MM) (tl : Int64) : DET2 (fun p => wpX11_asNow p M tl ) := by
  unfold wpX11_asNow
  exact (dt2_ex (fun _ => dt_wX11_asNow_2  _ _ _ _))
theorem dt_wpX11_isEven (M : MM) (tl : Int64) (v1 : Int32) : DET3 (fun p => wpX11_isEven p M tl v1) := by
  unfold wpX11_isEven
  exact (dt3_call3 (dt_wpX11_matchOf _ _ _ _) (fun _ _ _ => (dt3_if dt3_post (dt3_and (dt3_and (dt3_call3 (dt_wpX11_mirrorOf _ _ _) (fun _ _ _ => (dt3_if dt3_post dt3_post))))))))
theorem dt_wX11_oddLots_26 {bk4 : (Int32 → MM → Int64 → Prop) → MM → Int64 → Int32 → Int32 → Prop} (hbk4 : ∀ x0 x1 x2 x3, DET3 (fun p => bk4 p x0 x1 x2 x3)) (M : MM) (tl : Int64) (v2 : Int32) (s0 : Int32) (s1 : Int32) : DET3 (fun p => wX11_oddLots_26 p (bk4 p) M tl v2 s0 s1) := by
  unfold wX11_oddLots_26
  exact (dt3_call3 (dt_wpX11_flag _ _ _) (fun _ _ _ => (hbk4 _ _ _ _)))
theorem dt_wX11_oddLots_4 : ∀ (d : Nat) (M : MM) (tl : Int64) (v1 : Int32) (v2 : Int32), DET3 (fun p => wX11_oddLots_4 p d M tl v1 v2) := by
  intro d
  induction d with
  | zero => intro M tl v1 v2; exact dt3_no
  | succ d ih =>
    intro M tl v1 v2
    unfold wX11_oddLots_4
    exact (dt3_if dt3_post (dt3_call3 (dt_wpX11_isEven _ _ _) (fun _ _ _ => (dt3_if (dt_wX11_oddLots_26 (fun _ _ _ _ => ih _ _ _ _) _ _ _ _ _) (dt_wX11_oddLots_26 (fun _ _ _ _ => ih _ _ _ _) _ _ _ _ _)))))
theorem dt_wpX11_oddLots (M : MM) (tl : Int64) : DET3 (fun p => wpX11_oddLots p M tl ) := by
  unfold wpX11_oddLots
  exact (dt3_ex (fun _ => dt_wX11_oddLots_4  _ _ _ _ _))
theorem dt_wpX11_odd (M : MM) (tl : Int64) : DET3 (fun p => wpX11_odd p M tl ) := by
  unfold wpX11_odd
  exact (dt3_call2 (dt_wpX11_asNow _ _) (fun _ _ => (dt3_call3 (dt_wpX11_oddLots _ _) (fun _ _ _ => dt3_post))))
theorem dt_wpX11_third (M : MM) (tl : Int64) (v1 : Int32) : DET3 (fun p => wpX11_third p M tl v1) := by
  unfold wpX11_third
  exact (dt3_call3 (dt_wpX11_isLot _ _ _ _) (fun _ _ _ => (dt3_if dt3_post (dt3_call3 (dt_wpX11_matchOf _ _ _ _) (fun _ _ _ => (dt3_if dt3_post (dt3_and (dt3_call3 (dt_wpX11_mirrorOf _ _ _) (fun _ _ _ => dt3_post)))))))))
theorem dt_wpX11_isMany (M : MM) (tl : Int64) (v0 : Int32) : DET3 (fun p => wpX11_isMany p M tl v0) := by
  unfold wpX11_isMany
  exact (dt3_call3 (dt_wpX11_in _ _ _ _ _) (fun _ _ _ => (dt3_and dt3_post)))
theorem dt_wX11_startRun_6 : ∀ (d : Nat) (M : MM) (tl : Int64) (v1 : Int32), DET2 (fun p => wX11_startRun_6 p d M tl v1) := by
  intro d
  induction d with
  | zero => intro M tl v1; exact dt2_no
  | succ d ih =>
    intro M tl v1
    unfold wX11_startRun_6
    exact (dt2_if (dt2_and (dt2_all (fun _ => (dt2_and (dt2_all (fun _ => dt2_post)))))) (dt2_and (dt2_all (fun _ => (dt2_and (dt2_all (fun _ => (ih _ _ _))))))))
theorem dt_wpX11_startRun (M : MM) (tl : Int64) : DET2 (fun p => wpX11_startRun p M tl ) := by
  unfold wpX11_startRun
  exact (dt2_call2 (dt_wpX11_asNow _ _) (fun _ _ => (dt2_ex (fun _ => dt_wX11_startRun_6  _ _ _ _))))
theorem dt_wX11_goMonth_246 {bk62 : (MM → Int64 → Prop) → MM → Int64 → Int32 → Prop} (hbk62 : ∀ x0 x1 x2, DET2 (fun p => bk62 p x0 x1 x2)) (M : MM) (tl : Int64) (v2 : Int32) (s1 : Int32) (s2 : Int32) : DET2 (fun p => wX11_goMonth_246 p (bk62 p) M tl v2 s1 s2) := by
  unfold wX11_goMonth_246
  exact (dt2_and (dt2_all (fun _ => (hbk62 _ _ _))))
theorem dt_wX11_goMonth_241 {bk62 : (MM → Int64 → Prop) → MM → Int64 → Int32 → Prop} (hbk62 : ∀ x0 x1 x2, DET2 (fun p => bk62 p x0 x1 x2)) (M : MM) (tl : Int64) (v2 : Int32) (s1 : Int32) : DET2 (fun p => wX11_goMonth_241 p (bk62 p) M tl v2 s1) := by
  unfold wX11_goMonth_241
  exact (dt_wX11_goMonth_246 (fun _ _ _ => hbk62 _ _ _) _ _ _ _ _)
theorem dt_wX11_goMonth_222 {bk62 : (MM → Int64 → Prop) → MM → Int64 → Int32 → Prop} (hbk62 : ∀ x0 x1 x2, DET2 (fun p => bk62 p x0 x1 x2)) (M : MM) (tl : Int64) (v2 : Int32) (v4 : Int32) : DET2 (fun p => wX11_goMonth_222 p (bk62 p) M tl v2 v4) := by
  unfold wX11_goMonth_222
  exact (dt2_and (dt2_if (dt2_if (dt_wX11_goMonth_246 (fun _ _ _ => hbk62 _ _ _) _ _ _ _ _) (dt_wX11_goMonth_241 (fun _ _ _ => hbk62 _ _ _) _ _ _ _)) (dt_wX11_goMonth_241 (fun _ _ _ => hbk62 _ _ _) _ _ _ _)))
theorem dt_wX11_goMonth_171 {bk62 : (MM → Int64 → Prop) → MM → Int64 → Int32 → Prop} (hbk62 : ∀ x0 x1 x2, DET2 (fun p => bk62 p x0 x1 x2)) (M : MM) (tl : Int64) (v2 : Int32) (v4 : Int32) (v5 : Int32) (v6 : Int32) (s0 : Int32) : DET2 (fun p => wX11_goMonth_171 p (bk62 p) M tl v2 v4 v5 v6 s0) := by
  unfold wX11_goMonth_171
  exact (dt2_and (dt2_call3 (dt_wpX11_mirrorOf _ _ _) (fun _ _ _ => (dt2_and (dt2_all (fun _ => (dt2_and (dt2_and (dt2_and (dt2_and (dt2_all (fun _ => (dt_wX11_goMonth_222 (fun _ _ _ => hbk62 _ _ _) _ _ _ _)))))))))))))
theorem dt_wX11_goMonth_156 {bk62 : (MM → Int64 → Prop) → MM → Int64 → Int32 → Prop} (hbk62 : ∀ x0 x1 x2, DET2 (fun p => bk62 p x0 x1 x2)) (M : MM) (tl : Int64) (v2 : Int32) (v3 : Int32) (v4 : Int32) (v5 : Int32) (s0 : Int32) : DET2 (fun p => wX11_goMonth_156 p (bk62 p) M tl v2 v3 v4 v5 s0) := by
  unfold wX11_goMonth_156
  exact (dt2_if (dt_wX11_goMonth_171 (fun _ _ _ => hbk62 _ _ _) _ _ _ _ _ _ _) (dt_wX11_goMonth_171 (fun _ _ _ => hbk62 _ _ _) _ _ _ _ _ _ _))
theorem dt_wX11_goMonth_109 {bk62 : (MM → Int64 → Prop) → MM → Int64 → Int32 → Prop} (hbk62 : ∀ x0 x1 x2, DET2 (fun p => bk62 p x0 x1 x2)) (M : MM) (tl : Int64) (v2 : Int32) (v3 : Int32) (s0 : Int32) : DET2 (fun p => wX11_goMonth_109 p (bk62 p) M tl v2 v3 s0) := by
  unfold wX11_goMonth_109
  exact (dt2_call3 (dt_wpX11_isEven _ _ _) (fun _ _ _ => (dt2_if (dt2_if (dt2_and (dt2_if (dt_wX11_goMonth_222 (fun _ _ _ => hbk62 _ _ _) _ _ _ _) (dt2_and (dt2_if (dt_wX11_goMonth_156 (fun _ _ _ => hbk62 _ _ _) _ _ _ _ _ _ _) (dt_wX11_goMonth_156 (fun _ _ _ => hbk62 _ _ _) _ _ _ _ _ _ _))))) (dt_wX11_goMonth_222 (fun _ _ _ => hbk62 _ _ _) _ _ _ _)) (dt_wX11_goMonth_222 (fun _ _ _ => hbk62 _ _ _) _ _ _ _))))
theorem dt_wX11_goMonth_108 {bk62 : (MM → Int64 → Prop) → MM → Int64 → Int32 → Prop} (hbk62 : ∀ x0 x1 x2, DET2 (fun p => bk62 p x0 x1 x2)) (M : MM) (tl : Int64) (v2 : Int32) (v3 : Int32) : DET2 (fun p => wX11_goMonth_108 p (bk62 p) M tl v2 v3) := by
  unfold wX11_goMonth_108
  exact (dt_wX11_goMonth_109 (fun _ _ _ => hbk62 _ _ _) _ _ _ _ _)
theorem dt_wX11_goMonth_104 {bk62 : (MM → Int64 → Prop) → MM → Int64 → Int32 → Prop} (hbk62 : ∀ x0 x1 x2, DET2 (fun p => bk62 p x0 x1 x2)) (M : MM) (tl : Int64) (v2 : Int32) (v3 : Int32) : DET2 (fun p => wX11_goMonth_104 p (bk62 p) M tl v2 v3) := by
  unfold wX11_goMonth_104
  exact (dt_wX11_goMonth_109 (fun _ _ _ => hbk62 _ _ _) _ _ _ _ _)
theorem dt_wX11_goMonth_62 : ∀ (d : Nat) (M : MM) (tl : Int64) (v2 : Int32), DET2 (fun p => wX11_goMonth_62 p d M tl v2) := by
  intro d
  induction d with
  | zero => intro M tl v2; exact dt2_no
  | succ d ih =>
    intro M tl v2
    unfold wX11_goMonth_62
    exact (dt2_if dt2_post (dt2_call3 (dt_wpX11_matchOf _ _ _ _) (fun _ _ _ => (dt2_if (dt_wX11_goMonth_108 (fun _ _ _ => ih _ _ _) _ _ _ _) (dt2_and (dt2_if (dt2_and (dt2_if (dt_wX11_goMonth_108 (fun _ _ _ => ih _ _ _) _ _ _ _) (dt_wX11_goMonth_104 (fun _ _ _ => ih _ _ _) _ _ _ _))) (dt_wX11_goMonth_104 (fun _ _ _ => ih _ _ _) _ _ _ _)))))))
theorem dt_wX11_works_232 (M : MM) (tl : Int64) (v2 : Int32) (s1 : Int32) : DET2 (fun p => wX11_works_232 p M tl v2 s1) := by
  unfold wX11_works_232
  exact (dt2_and (dt2_all (fun _ => dt2_post)))
theorem dt_wX11_works_155 (M : MM) (tl : Int64) (v1 : Int32) (v2 : Int32) (v3 : Int32) (v4 : Int32) (v5 : Int32) : DET2 (fun p => wX11_works_155 p M tl v1 v2 v3 v4 v5) := by
  unfold wX11_works_155
  exact (dt2_and (dt2_all (fun _ => (dt2_and (dt2_and (dt2_and (dt2_all (fun _ => (dt2_and (dt2_all (fun _ => (dt2_and (dt2_all (fun _ => (dt2_if dt2_post (dt2_if (dt_wX11_works_232  _ _ _ _) (dt_wX11_works_232  _ _ _ _)))))))))))))))))
theorem dt_wX11_works_112 (M : MM) (tl : Int64) (v1 : Int32) (v2 : Int32) (v3 : Int32) (v4 : Int32) (v5 : Int32) (v6 : Int32) : DET2 (fun p => wX11_works_112 p M tl v1 v2 v3 v4 v5 v6) := by
  unfold wX11_works_112
  exact (dt2_if (dt_wX11_works_155  _ _ _ _ _ _ _) (dt2_and (dt2_if (dt_wX11_works_155  _ _ _ _ _ _ _) (dt2_and (dt2_call3 (dt_wpX11_mirrorOf _ _ _) (fun _ _ _ => (dt2_if (dt_wX11_works_155  _ _ _ _ _ _ _) (dt2_and (dt2_all (fun _ => dt2_post))))))))))
theorem dt_wX11_works_102 (M : MM) (tl : Int64) (v1 : Int32) : DET2 (fun p => wX11_works_102 p M tl v1) := by
  unfold wX11_works_102
  exact (dt2_and (dt2_all (fun _ => dt2_post)))
theorem dt_wpX11_works (M : MM) (tl : Int64) (v1 : Int32) : DET2 (fun p => wpX11_works p M tl v1) := by
  unfold wpX11_works
  exact (dt2_and (dt2_and (dt2_and (dt2_call3 (dt_wpX11_matchOf _ _ _ _) (fun _ _ _ => (dt2_call3 (dt_wpX11_doesLack _ _ _ _) (fun _ _ _ => (dt2_if (dt2_if (dt_wX11_works_112  _ _ _ _ _ _ _ _) (dt2_and (dt2_call3 (dt_wpX11_doesLack _ _ _ _) (fun _ _ _ => (dt2_if (dt_wX11_works_112  _ _ _ _ _ _ _ _) (dt_wX11_works_102  _ _ _)))))) (dt_wX11_works_102  _ _ _)))))))))
theorem dt_wX11_goMonth_54 {bk23 : (MM → Int64 → Prop) → MM → Int64 → Int32 → Int32 → Prop} (hbk23 : ∀ x0 x1 x2 x3, DET2 (fun p => bk23 p x0 x1 x2 x3)) (M : MM) (tl : Int64) (v1 : Int32) (v2 : Int32) : DET2 (fun p => wX11_goMonth_54 p (bk23 p) M tl v1 v2) := by
  unfold wX11_goMonth_54
  exact (hbk23 _ _ _ _)
theorem dt_wX11_goMonth_23 : ∀ (d : Nat) (M : MM) (tl : Int64) (v1 : Int32) (v2 : Int32), DET2 (fun p => wX11_goMonth_23 p d M tl v1 v2) := by
  intro d
  induction d with
  | zero => intro M tl v1 v2; exact dt2_no
  | succ d ih =>
    intro M tl v1 v2
    unfold wX11_goMonth_23
    exact (dt2_and (dt2_if (dt2_ex (fun _ => dt_wX11_goMonth_62  _ _ _ _)) (dt2_and (dt2_if (dt2_call2 (dt_wpX11_works _ _ _) (fun _ _ => (dt_wX11_goMonth_54 (fun _ _ _ _ => ih _ _ _ _) _ _ _ _))) (dt_wX11_goMonth_54 (fun _ _ _ _ => ih _ _ _ _) _ _ _ _)))))
theorem dt_wX11_goMonth_2 : ∀ (d : Nat) (M : MM) (tl : Int64) (v1 : Int32) (v2 : Int32), DET2 (fun p => wX11_goMonth_2 p d M tl v1 v2) := by
  intro d
  induction d with
  | zero => intro M tl v1 v2; exact dt2_no
  | succ d ih =>
    intro M tl v1 v2
    unfold wX11_goMonth_2
    exact (dt2_if (dt2_ex (fun _ => dt_wX11_goMonth_23  _ _ _ _ _)) (dt2_and (dt2_all (fun _ => (ih _ _ _ _)))))
theorem dt_wpX11_goMonth (M : MM) (tl : Int64) (v1 : Int32) : DET2 (fun p => wpX11_goMonth p M tl v1) := by
  unfold wpX11_goMonth
  exact (dt2_ex (fun _ => dt_wX11_goMonth_2  _ _ _ _ _))
theorem dt_wX11_goRun_6 : ∀ (d : Nat) (M : MM) (tl : Int64) (v1 : Int32) (v2 : Int32), DET2 (fun p => wX11_goRun_6 p d M tl v1 v2) := by
  intro d
  induction d with
  | zero => intro M tl v1 v2; exact dt2_no
  | succ d ih =>
    intro M tl v1 v2
    unfold wX11_goRun_6
    exact (dt2_if dt2_post (dt2_call2 (dt_wpX11_goMonth _ _ _) (fun _ _ => (ih _ _ _ _))))
theorem dt_wpX11_goRun (M : MM) (tl : Int64) (v1 : Int32) : DET2 (fun p => wpX11_goRun p M tl v1) := by
  unfold wpX11_goRun
  exact (dt2_call2 (dt_wpX11_startRun _ _) (fun _ _ => (dt2_ex (fun _ => dt_wX11_goRun_6  _ _ _ _ _))))
theorem dt_wpX11_after (M : MM) (tl : Int64) (v1 : Int32) (v2 : Int32) (v3 : Int32) : DET3 (fun p => wpX11_after p M tl v1 v2 v3) := by
  unfold wpX11_after
  exact (dt3_call3 (dt_wpX11_isMany _ _ _) (fun _ _ _ => (dt3_if dt3_post (dt3_call3 (dt_wpX11_isLot _ _ _ _) (fun _ _ _ => (dt3_if dt3_post (dt3_call2 (dt_wpX11_goRun _ _ _) (fun _ _ => (dt3_and dt3_post)))))))))
theorem dt_wpX11_paid (M : MM) (tl : Int64) (v1 : Int32) (v2 : Int32) : DET3 (fun p => wpX11_paid p M tl v1 v2) := by
  unfold wpX11_paid
  exact (dt3_call3 (dt_wpX11_isMany _ _ _) (fun _ _ _ => (dt3_if dt3_post (dt3_call3 (dt_wpX11_isBank _ _ _) (fun _ _ _ => (dt3_if dt3_post (dt3_call2 (dt_wpX11_goRun _ _ _) (fun _ _ => (dt3_and dt3_post)))))))))
theorem dt_wX11_owes_78 {bk26 : (Int32 → MM → Int64 → Prop) → MM → Int64 → Int32 → Int32 → Int32 → Prop} (hbk26 : ∀ x0 x1 x2 x3 x4, DET3 (fun p => bk26 p x0 x1 x2 x3 x4)) (M : MM) (tl : Int64) (v2 : Int32) (v3 : Int32) (v4 : Int32) : DET3 (fun p => wX11_owes_78 p (bk26 p) M tl v2 v3 v4) := by
  unfold wX11_owes_78
  exact (hbk26 _ _ _ _ _)
theorem dt_wX11_owes_75 {bk26 : (Int32 → MM → Int64 → Prop) → MM → Int64 → Int32 → Int32 → Int32 → Prop} (hbk26 : ∀ x0 x1 x2 x3 x4, DET3 (fun p => bk26 p x0 x1 x2 x3 x4)) (M : MM) (tl : Int64) (v2 : Int32) (v4 : Int32) (s0 : Int32) (s1 : Int32) (s2 : Int32) : DET3 (fun p => wX11_owes_75 p (bk26 p) M tl v2 v4 s0 s1 s2) := by
  unfold wX11_owes_75
  exact (dt_wX11_owes_78 (fun _ _ _ _ _ => hbk26 _ _ _ _ _) _ _ _ _ _)
theorem dt_wX11_owes_26 : ∀ (d : Nat) (M : MM) (tl : Int64) (v2 : Int32) (v3 : Int32) (v4 : Int32), DET3 (fun p => wX11_owes_26 p d M tl v2 v3 v4) := by
  intro d
  induction d with
  | zero => intro M tl v2 v3 v4; exact dt3_no
  | succ d ih =>
    intro M tl v2 v3 v4
    unfold wX11_owes_26
    exact (dt3_if dt3_post (dt3_call3 (dt_wpX11_isEven _ _ _) (fun _ _ _ => (dt3_if (dt3_and (dt3_if (dt3_if (dt_wX11_owes_75 (fun _ _ _ _ _ => ih _ _ _ _ _) _ _ _ _ _ _ _) (dt3_call3 (dt_wpX11_matchOf _ _ _ _) (fun _ _ _ => (dt_wX11_owes_75 (fun _ _ _ _ _ => ih _ _ _ _ _) _ _ _ _ _ _ _)))) (dt_wX11_owes_78 (fun _ _ _ _ _ => ih _ _ _ _ _) _ _ _ _ _))) (dt_wX11_owes_78 (fun _ _ _ _ _ => ih _ _ _ _ _) _ _ _ _ _)))))
theorem dt_wpX11_owes (M : MM) (tl : Int64) (v1 : Int32) (v2 : Int32) : DET3 (fun p => wpX11_owes p M tl v1 v2) := by
  unfold wpX11_owes
  exact (dt3_call3 (dt_wpX11_isMany _ _ _) (fun _ _ _ => (dt3_if dt3_post (dt3_call3 (dt_wpX11_isBank _ _ _) (fun _ _ _ => (dt3_if dt3_post (dt3_call2 (dt_wpX11_goRun _ _ _) (fun _ _ => (dt3_ex (fun _ => dt_wX11_owes_26  _ _ _ _ _ _))))))))))
theorem dt_wpX11_fate (M : MM) (tl : Int64) (v1 : Int32) : DET3 (fun p => wpX11_fate p M tl v1) := by
  unfold wpX11_fate
  exact (dt3_and (dt3_call3 (dt_wpX11_in _ _ _ _ _) (fun _ _ _ => (dt3_if dt3_post (dt3_call2 (dt_wpX11_goRun _ _ _) (fun _ _ => (dt3_and dt3_post)))))))
theorem dt_wX11_uneven_41 : ∀ (d : Nat) (M : MM) (tl : Int64) (v1 : Int32) (v2 : Int32) (v3 : Int32) (v4 : Int32), DET3 (fun p => wX11_uneven_41 p d M tl v1 v2 v3 v4) := by
  intro d
  induction d with
  | zero => intro M tl v1 v2 v3 v4; exact dt3_no
  | succ d ih =>
    intro M tl v1 v2 v3 v4
    unfold wX11_uneven_41
    exact (dt3_if (ih _ _ _ _ _ _) (dt3_if dt3_post dt3_post))
theorem dt_wX11_uneven_18 : ∀ (d : Nat) (M : MM) (tl : Int64) (v1 : Int32) (v2 : Int32), DET3 (fun p => wX11_uneven_18 p d M tl v1 v2) := by
  intro d
  induction d with
  | zero => intro M tl v1 v2; exact dt3_no
  | succ d ih =>
    intro M tl v1 v2
    unfold wX11_uneven_18
    exact (dt3_if dt3_post (dt3_call2 (dt_wpX11_goMonth _ _ _) (fun _ _ => (dt3_call3 (dt_wpX11_oddLots _ _) (fun _ _ _ => (dt3_if (ih _ _ _ _) (dt3_ex (fun _ => dt_wX11_uneven_41  _ _ _ _ _ _ _))))))))
theorem dt_wpX11_uneven (M : MM) (tl : Int64) (v1 : Int32) : DET3 (fun p => wpX11_uneven p M tl v1) := by
  unfold wpX11_uneven
  exact (dt3_call3 (dt_wpX11_in _ _ _ _ _) (fun _ _ _ => (dt3_if dt3_post (dt3_call2 (dt_wpX11_startRun _ _) (fun _ _ => (dt3_ex (fun _ => dt_wX11_uneven_18  _ _ _ _ _)))))))
theorem dt_wX11_go_49 : ∀ (d : Nat) (M : MM) (tl : Int64) (v1 : Int32) (v2 : Int32), DET3 (fun p => wX11_go_49 p d M tl v1 v2) := by
  intro d
  induction d with
  | zero => intro M tl v1 v2; exact dt3_no
  | succ d ih =>
    intro M tl v1 v2
    unfold wX11_go_49
    exact (dt3_if (dt3_and (dt3_all (fun _ => dt3_post))) (dt3_and (dt3_and (dt3_all (fun _ => (ih _ _ _ _))))))
theorem dt_wX11_go_36 {bk10 : (Int32 → MM → Int64 → Prop) → MM → Int64 → Int32 → Int32 → Prop} (hbk10 : ∀ x0 x1 x2 x3, DET3 (fun p => bk10 p x0 x1 x2 x3)) (M : MM) (tl : Int64) (v2 : Int32) (s0 : Int32) (s1 : Int32) : DET3 (fun p => wX11_go_36 p (bk10 p) M tl v2 s0 s1) := by
  unfold wX11_go_36
  exact (dt3_call3 (dt_wpX11_flag _ _ _) (fun _ _ _ => (hbk10 _ _ _ _)))
theorem dt_wX11_go_10 : ∀ (d : Nat) (M : MM) (tl : Int64) (v1 : Int32) (v2 : Int32), DET3 (fun p => wX11_go_10 p d M tl v1 v2) := by
  intro d
  induction d with
  | zero => intro M tl v1 v2; exact dt3_no
  | succ d ih =>
    intro M tl v1 v2
    unfold wX11_go_10
    exact (dt3_and (dt3_if (dt3_ex (fun _ => dt_wX11_go_49  _ _ _ _ _)) (dt3_and (dt3_if (dt_wX11_go_36 (fun _ _ _ _ => ih _ _ _ _) _ _ _ _ _) (dt_wX11_go_36 (fun _ _ _ _ => ih _ _ _ _) _ _ _ _ _)))))
theorem dt_wpX11_go (M : MM) (tl : Int64) : DET3 (fun p => wpX11_go p M tl ) := by
  unfold wpX11_go
  exact (dt3_call2 (dt_wpX11_goRun _ _ _) (fun _ _ => (dt3_ex (fun _ => dt_wX11_go_10  _ _ _ _ _))))
theorem dt_wX11_plot_39 (M : MM) (tl : Int64) (v1 : Int32) (v2 : Int32) (v3 : Int32) (v4 : Int32) (v5 : Int32) (v6 : Int32) (s0 : Int64) (s1 : Int64) : DET3 (fun p => wX11_plot_39 p M tl v1 v2 v3 v4 v5 v6 s0 s1) := by
  unfold wX11_plot_39
  exact (dt3_call3 (dt_wpX11_in _ _ _ _ _) (fun _ _ _ => (dt3_if dt3_post (dt3_call3 (dt_wpX11_isLot _ _ _ _) (fun _ _ _ => (dt3_if dt3_post (dt3_call3 (dt_wpX11_isThing _ _ _) (fun _ _ _ => (dt3_if dt3_post (dt3_if dt3_post (dt3_and (dt3_all (fun _ => (dt3_and (dt3_all (fun _ => (dt3_and (dt3_all (fun _ => (dt3_and (dt3_all (fun _ => (dt3_and (dt3_all (fun _ => dt3_post)))))))))))))))))))))))))
theorem dt_wpX11_plot (M : MM) (tl : Int64) (v1 : Int32) (v2 : Int32) (v3 : Int32) (v4 : Int32) : DET3 (fun p => wpX11_plot p M tl v1 v2 v3 v4) := by
  unfold wpX11_plot
  exact (dt3_and (dt3_if (dt_wX11_plot_39  _ _ _ _ _ _ _ _ _ _) (dt3_and (dt_wX11_plot_39  _ _ _ _ _ _ _ _ _ _))))
theorem dt_wpX11_kindThere (M : MM) (tl : Int64) (v1 : Int32) (v2 : Int32) : DET3 (fun p => wpX11_kindThere p M tl v1 v2) := by
  unfold wpX11_kindThere
  exact (dt3_and dt3_post)
theorem dt_wpX11_gainOf (M : MM) (tl : Int64) (v1 : Int32) (v2 : Int32) (v3 : Int32) : DET3 (fun p => wpX11_gainOf p M tl v1 v2 v3) := by
  unfold wpX11_gainOf
  exact (dt3_and (dt3_and (dt3_call3 (dt_wpX11_kindThere _ _ _ _) (fun _ _ _ => (dt3_and dt3_post)))))
theorem dt_wpX11_gain (M : MM) (tl : Int64) (v1 : Int32) (v2 : Int32) (v3 : Int32) : DET3 (fun p => wpX11_gain p M tl v1 v2 v3) := by
  unfold wpX11_gain
  exact (dt3_call3 (dt_wpX11_isLot _ _ _ _) (fun _ _ _ => (dt3_if dt3_post (dt3_call3 (dt_wpX11_in _ _ _ _ _) (fun _ _ _ => (dt3_if dt3_post (dt3_call3 (dt_wpX11_gainOf _ _ _ _ _) (fun _ _ _ => dt3_post))))))))
theorem dt_wpX11_mayBe (M : MM) (tl : Int64) (v1 : Int32) (v2 : Int32) (v3 : Int32) : DET3 (fun p => wpX11_mayBe p M tl v1 v2 v3) := by
  unfold wpX11_mayBe
  exact (dt3_call3 (dt_wpX11_doesLack _ _ _ _) (fun _ _ _ => (dt3_if (dt3_call3 (dt_wpX11_matchOf _ _ _ _) (fun _ _ _ => (dt3_if dt3_post (dt3_and (dt3_call3 (dt_wpX11_doesLack _ _ _ _) (fun _ _ _ => (dt3_if dt3_post dt3_post))))))) dt3_post)))
theorem dt_wX11_beginOf_77 {bk9 : (Int32 → MM → Int64 → Prop) → MM → Int64 → Int32 → Int32 → Int32 → Int32 → Int32 → Prop} (hbk9 : ∀ x0 x1 x2 x3 x4 x5 x6, DET3 (fun p => bk9 p x0 x1 x2 x3 x4 x5 x6)) (M : MM) (tl : Int64) (v1 : Int32) (v2 : Int32) (v3 : Int32) (v5 : Int32) (s0 : Int32) : DET3 (fun p => wX11_beginOf_77 p (bk9 p) M tl v1 v2 v3 v5 s0) := by
  unfold wX11_beginOf_77
  exact (hbk9 _ _ _ _ _ _ _)
theorem dt_wX11_beginOf_58 {bk9 : (Int32 → MM → Int64 → Prop) → MM → Int64 → Int32 → Int32 → Int32 → Int32 → Int32 → Prop} (hbk9 : ∀ x0 x1 x2 x3 x4 x5 x6, DET3 (fun p => bk9 p x0 x1 x2 x3 x4 x5 x6)) (M : MM) (tl : Int64) (v1 : Int32) (v2 : Int32) (v4 : Int32) (v5 : Int32) (v6 : Int32) (s0 : Int32) : DET3 (fun p => wX11_beginOf_58 p (bk9 p) M tl v1 v2 v4 v5 v6 s0) := by
  unfold wX11_beginOf_58
  exact (dt3_if (dt_wX11_beginOf_77 (fun _ _ _ _ _ _ _ => hbk9 _ _ _ _ _ _ _) _ _ _ _ _ _ _) (dt3_call3 (dt_wpX11_gainOf _ _ _ _ _) (fun _ _ _ => (dt_wX11_beginOf_77 (fun _ _ _ _ _ _ _ => hbk9 _ _ _ _ _ _ _) _ _ _ _ _ _ _))))
theorem dt_wX11_beginOf_45 {bk9 : (Int32 → MM → Int64 → Prop) → MM → Int64 → Int32 → Int32 → Int32 → Int32 → Int32 → Prop} (hbk9 : ∀ x0 x1 x2 x3 x4 x5 x6, DET3 (fun p => bk9 p x0 x1 x2 x3 x4 x5 x6)) (M : MM) (tl : Int64) (v1 : Int32) (v2 : Int32) (v3 : Int32) (v4 : Int32) (v5 : Int32) (s0 : Int32) : DET3 (fun p => wX11_beginOf_45 p (bk9 p) M tl v1 v2 v3 v4 v5 s0) := by
  unfold wX11_beginOf_45
  exact (dt3_if (dt_wX11_beginOf_58 (fun _ _ _ _ _ _ _ => hbk9 _ _ _ _ _ _ _) _ _ _ _ _ _ _ _) (dt_wX11_beginOf_58 (fun _ _ _ _ _ _ _ => hbk9 _ _ _ _ _ _ _) _ _ _ _ _ _ _ _))
theorem dt_wX11_beginOf_44 {bk9 : (Int32 → MM → Int64 → Prop) → MM → Int64 → Int32 → Int32 → Int32 → Int32 → Int32 → Prop} (hbk9 : ∀ x0 x1 x2 x3 x4 x5 x6, DET3 (fun p => bk9 p x0 x1 x2 x3 x4 x5 x6)) (M : MM) (tl : Int64) (v1 : Int32) (v2 : Int32) (v3 : Int32) (v4 : Int32) (v5 : Int32) : DET3 (fun p => wX11_beginOf_44 p (bk9 p) M tl v1 v2 v3 v4 v5) := by
  unfold wX11_beginOf_44
  exact (dt_wX11_beginOf_45 (fun _ _ _ _ _ _ _ => hbk9 _ _ _ _ _ _ _) _ _ _ _ _ _ _ _)
theorem dt_wX11_beginOf_9 : ∀ (d : Nat) (M : MM) (tl : Int64) (v1 : Int32) (v2 : Int32) (v3 : Int32) (v4 : Int32) (v5 : Int32), DET3 (fun p => wX11_beginOf_9 p d M tl v1 v2 v3 v4 v5) := by
  intro d
  induction d with
  | zero => intro M tl v1 v2 v3 v4 v5; exact dt3_no
  | succ d ih =>
    intro M tl v1 v2 v3 v4 v5
    unfold wX11_beginOf_9
    exact (dt3_if dt3_post (dt3_call3 (dt_wpX11_mayBe _ _ _ _ _) (fun _ _ _ => (dt3_if (dt_wX11_beginOf_44 (fun _ _ _ _ _ _ _ => ih _ _ _ _ _ _ _) _ _ _ _ _ _ _) (dt3_call3 (dt_wpX11_gainOf _ _ _ _ _) (fun _ _ _ => (dt3_if (dt_wX11_beginOf_44 (fun _ _ _ _ _ _ _ => ih _ _ _ _ _ _ _) _ _ _ _ _ _ _) (dt_wX11_beginOf_45 (fun _ _ _ _ _ _ _ => ih _ _ _ _ _ _ _) _ _ _ _ _ _ _ _))))))))
theorem dt_wpX11_beginOf (M : MM) (tl : Int64) (v1 : Int32) (v2 : Int32) : DET3 (fun p => wpX11_beginOf p M tl v1 v2) := by
  unfold wpX11_beginOf
  exact (dt3_ex (fun _ => dt_wX11_beginOf_9  _ _ _ _ _ _ _ _))
theorem dt_wpX11_begin (M : MM) (tl : Int64) (v1 : Int32) (v2 : Int32) (v3 : Int32) : DET3 (fun p => wpX11_begin p M tl v1 v2 v3) := by
  unfold wpX11_begin
  exact (dt3_call3 (dt_wpX11_isLot _ _ _ _) (fun _ _ _ => (dt3_if dt3_post (dt3_call3 (dt_wpX11_in _ _ _ _ _) (fun _ _ _ => (dt3_if dt3_post (dt3_call3 (dt_wpX11_beginOf _ _ _ _) (fun _ _ _ => (dt3_if dt3_post (dt3_if dt3_post (dt3_call3 (dt_wpX11_gainOf _ _ _ _ _) (fun _ _ _ => dt3_post))))))))))))
theorem dt_wpX11_waits (M : MM) (tl : Int64) (v1 : Int32) (v2 : Int32) : DET3 (fun p => wpX11_waits p M tl v1 v2) := by
  unfold wpX11_waits
  exact (dt3_call3 (dt_wpX11_isLot _ _ _ _) (fun _ _ _ => (dt3_if dt3_post (dt3_call3 (dt_wpX11_matchOf _ _ _ _) (fun _ _ _ => (dt3_if dt3_post (dt3_call3 (dt_wpX11_beginOf _ _ _ _) (fun _ _ _ => (dt3_if dt3_post (dt3_and (dt3_call3 (dt_wpX11_gainOf _ _ _ _ _) (fun _ _ _ => dt3_post))))))))))))
theorem dt_wX11_vex_228 {bk45 : (Int32 → MM → Int64 → Prop) → MM → Int64 → Int32 → Int32 → Int32 → Int32 → Int32 → Int32 → Int32 → Int32 → Prop} (hbk45 : ∀ x0 x1 x2 x3 x4 x5 x6 x7 x8 x9, DET3 (fun p => bk45 p x0 x1 x2 x3 x4 x5 x6 x7 x8 x9)) (M : MM) (tl : Int64) (v1 : Int32) (v2 : Int32) (v3 : Int32) (v4 : Int32) (v5 : Int32) (v6 : Int32) (v7 : Int32) (v8 : Int32) : DET3 (fun p => wX11_vex_228 p (bk45 p) M tl v1 v2 v3 v4 v5 v6 v7 v8) := by
  unfold wX11_vex_228
  exact (hbk45 _ _ _ _ _ _ _ _ _ _)
theorem dt_wX11_vex_222 {bk45 : (Int32 → MM → Int64 → Prop) → MM → Int64 → Int32 → Int32 → Int32 → Int32 → Int32 → Int32 → Int32 → Int32 → Prop} (hbk45 : ∀ x0 x1 x2 x3 x4 x5 x6 x7 x8 x9, DET3 (fun p => bk45 p x0 x1 x2 x3 x4 x5 x6 x7 x8 x9)) {bk66 : (Int32 → MM → Int64 → Prop) → MM → Int64 → Int32 → Int32 → Int32 → Int32 → Int32 → Int32 → Int32 → Int32 → Int32 → Int32 → Prop} (hbk66 : ∀ x0 x1 x2 x3 x4 x5 x6 x7 x8 x9 x10 x11, DET3 (fun p => bk66 p x0 x1 x2 x3 x4 x5 x6 x7 x8 x9 x10 x11)) (M : MM) (tl : Int64) (v1 : Int32) (v2 : Int32) (v3 : Int32) (v4 : Int32) (v5 : Int32) (v6 : Int32) (v7 : Int32) (v8 : Int32) (v9 : Int32) (v10 : Int32) : DET3 (fun p => wX11_vex_222 p (bk45 p) (bk66 p) M tl v1 v2 v3 v4 v5 v6 v7 v8 v9 v10) := by
  unfold wX11_vex_222
  exact (hbk66 _ _ _ _ _ _ _ _ _ _ _ _)
theorem dt_wX11_vex_207 {bk45 : (Int32 → MM → Int64 → Prop) → MM → Int64 → Int32 → Int32 → Int32 → Int32 → Int32 → Int32 → Int32 → Int32 → Prop} (hbk45 : ∀ x0 x1 x2 x3 x4 x5 x6 x7 x8 x9, DET3 (fun p => bk45 p x0 x1 x2 x3 x4 x5 x6 x7 x8 x9)) {bk66 : (Int32 → MM → Int64 → Prop) → MM → Int64 → Int32 → Int32 → Int32 → Int32 → Int32 → Int32 → Int32 → Int32 → Int32 → Int32 → Prop} (hbk66 : ∀ x0 x1 x2 x3 x4 x5 x6 x7 x8 x9 x10 x11, DET3 (fun p => bk66 p x0 x1 x2 x3 x4 x5 x6 x7 x8 x9 x10 x11)) (M : MM) (tl : Int64) (v1 : Int32) (v2 : Int32) (v7 : Int32) (v8 : Int32) (v9 : Int32) (v10 : Int32) (v11 : Int32) (v12 : Int32) : DET3 (fun p => wX11_vex_207 p (bk45 p) (bk66 p) M tl v1 v2 v7 v8 v9 v10 v11 v12) := by
  unfold wX11_vex_207
  exact (dt_wX11_vex_222 (fun _ _ _ _ _ _ _ _ _ _ => hbk45 _ _ _ _ _ _ _ _ _ _) (fun _ _ _ _ _ _ _ _ _ _ _ _ => hbk66 _ _ _ _ _ _ _ _ _ _ _ _) _ _ _ _ _ _ _ _ _ _ _ _)
theorem dt_wX11_vex_174 {bk45 : (Int32 → MM → Int64 → Prop) → MM → Int64 → Int32 → Int32 → Int32 → Int32 → Int32 → Int32 → Int32 → Int32 → Prop} (hbk45 : ∀ x0 x1 x2 x3 x4 x5 x6 x7 x8 x9, DET3 (fun p => bk45 p x0 x1 x2 x3 x4 x5 x6 x7 x8 x9)) {bk66 : (Int32 → MM → Int64 → Prop) → MM → Int64 → Int32 → Int32 → Int32 → Int32 → Int32 → Int32 → Int32 → Int32 → Int32 → Int32 → Prop} (hbk66 : ∀ x0 x1 x2 x3 x4 x5 x6 x7 x8 x9 x10 x11, DET3 (fun p => bk66 p x0 x1 x2 x3 x4 x5 x6 x7 x8 x9 x10 x11)) (M : MM) (tl : Int64) (v1 : Int32) (v2 : Int32) (v3 : Int32) (v4 : Int32) (v5 : Int32) (v6 : Int32) (v7 : Int32) (v8 : Int32) (v9 : Int32) (v10 : Int32) (v11 : Int32) (v12 : Int32) (s0 : Int32) : DET3 (fun p => wX11_vex_174 p (bk45 p) (bk66 p) M tl v1 v2 v3 v4 v5 v6 v7 v8 v9 v10 v11 v12 s0) := by
  unfold wX11_vex_174
  exact (dt3_if (dt_wX11_vex_222 (fun _ _ _ _ _ _ _ _ _ _ => hbk45 _ _ _ _ _ _ _ _ _ _) (fun _ _ _ _ _ _ _ _ _ _ _ _ => hbk66 _ _ _ _ _ _ _ _ _ _ _ _) _ _ _ _ _ _ _ _ _ _ _ _) (dt3_if (dt_wX11_vex_207 (fun _ _ _ _ _ _ _ _ _ _ => hbk45 _ _ _ _ _ _ _ _ _ _) (fun _ _ _ _ _ _ _ _ _ _ _ _ => hbk66 _ _ _ _ _ _ _ _ _ _ _ _) _ _ _ _ _ _ _ _ _ _) (dt3_if (dt_wX11_vex_207 (fun _ _ _ _ _ _ _ _ _ _ => hbk45 _ _ _ _ _ _ _ _ _ _) (fun _ _ _ _ _ _ _ _ _ _ _ _ => hbk66 _ _ _ _ _ _ _ _ _ _ _ _) _ _ _ _ _ _ _ _ _ _) (dt3_if (dt3_if (dt_wX11_vex_222 (fun _ _ _ _ _ _ _ _ _ _ => hbk45 _ _ _ _ _ _ _ _ _ _) (fun _ _ _ _ _ _ _ _ _ _ _ _ => hbk66 _ _ _ _ _ _ _ _ _ _ _ _) _ _ _ _ _ _ _ _ _ _ _ _) (dt_wX11_vex_207 (fun _ _ _ _ _ _ _ _ _ _ => hbk45 _ _ _ _ _ _ _ _ _ _) (fun _ _ _ _ _ _ _ _ _ _ _ _ => hbk66 _ _ _ _ _ _ _ _ _ _ _ _) _ _ _ _ _ _ _ _ _ _)) (dt_wX11_vex_222 (fun _ _ _ _ _ _ _ _ _ _ => hbk45 _ _ _ _ _ _ _ _ _ _) (fun _ _ _ _ _ _ _ _ _ _ _ _ => hbk66 _ _ _ _ _ _ _ _ _ _ _ _) _ _ _ _ _ _ _ _ _ _ _ _)))))
theorem dt_wX11_vex_173 {bk45 : (Int32 → MM → Int64 → Prop) → MM → Int64 → Int32 → Int32 → Int32 → Int32 → Int32 → Int32 → Int32 → Int32 → Prop} (hbk45 : ∀ x0 x1 x2 x3 x4 x5 x6 x7 x8 x9, DET3 (fun p => bk45 p x0 x1 x2 x3 x4 x5 x6 x7 x8 x9)) {bk66 : (Int32 → MM → Int64 → Prop) → MM → Int64 → Int32 → Int32 → Int32 → Int32 → Int32 → Int32 → Int32 → Int32 → Int32 → Int32 → Prop} (hbk66 : ∀ x0 x1 x2 x3 x4 x5 x6 x7 x8 x9 x10 x11, DET3 (fun p => bk66 p x0 x1 x2 x3 x4 x5 x6 x7 x8 x9 x10 x11)) (M : MM) (tl : Int64) (v1 : Int32) (v2 : Int32) (v3 : Int32) (v4 : Int32) (v5 : Int32) (v6 : Int32) (v7 : Int32) (v8 : Int32) (v9 : Int32) (v10 : Int32) (v11 : Int32) (v12 : Int32) : DET3 (fun p => wX11_vex_173 p (bk45 p) (bk66 p) M tl v1 v2 v3 v4 v5 v6 v7 v8 v9 v10 v11 v12) := by
  unfold wX11_vex_173
  exact (dt_wX11_vex_174 (fun _ _ _ _ _ _ _ _ _ _ => hbk45 _ _ _ _ _ _ _ _ _ _) (fun _ _ _ _ _ _ _ _ _ _ _ _ => hbk66 _ _ _ _ _ _ _ _ _ _ _ _) _ _ _ _ _ _ _ _ _ _ _ _ _ _ _)
theorem dt_wX11_vex_66 {bk45 : (Int32 → MM → Int64 → Prop) → MM → Int64 → Int32 → Int32 → Int32 → Int32 → Int32 → Int32 → Int32 → Int32 → Prop} (hbk45 : ∀ x0 x1 x2 x3 x4 x5 x6 x7 x8 x9, DET3 (fun p => bk45 p x0 x1 x2 x3 x4 x5 x6 x7 x8 x9)) : ∀ (d : Nat) (M : MM) (tl : Int64) (v1 : Int32) (v2 : Int32) (v3 : Int32) (v4 : Int32) (v5 : Int32) (v6 : Int32) (v7 : Int32) (v8 : Int32) (v9 : Int32) (v10 : Int32), DET3 (fun p => wX11_vex_66 p (bk45 p) d M tl v1 v2 v3 v4 v5 v6 v7 v8 v9 v10) := by
  intro d
  induction d with
  | zero => intro M tl v1 v2 v3 v4 v5 v6 v7 v8 v9 v10; exact dt3_no
  | succ d ih =>
    intro M tl v1 v2 v3 v4 v5 v6 v7 v8 v9 v10
    unfold wX11_vex_66
    exact (dt3_if (dt_wX11_vex_228 (fun _ _ _ _ _ _ _ _ _ _ => hbk45 _ _ _ _ _ _ _ _ _ _) _ _ _ _ _ _ _ _ _ _) (dt3_if (dt_wX11_vex_228 (fun _ _ _ _ _ _ _ _ _ _ => hbk45 _ _ _ _ _ _ _ _ _ _) _ _ _ _ _ _ _ _ _ _) (dt3_and (dt3_and (dt3_call3 (dt_wpX11_kindThere _ _ _ _) (fun _ _ _ => (dt3_and (dt3_and (dt3_and (dt3_and (dt3_call3 (dt_wpX11_mayBe _ _ _ _ _) (fun _ _ _ => (dt3_if (dt_wX11_vex_173 (fun _ _ _ _ _ _ _ _ _ _ => hbk45 _ _ _ _ _ _ _ _ _ _) (fun _ _ _ _ _ _ _ _ _ _ _ _ => ih _ _ _ _ _ _ _ _ _ _ _ _) _ _ _ _ _ _ _ _ _ _ _ _ _ _) (dt3_call3 (dt_wpX11_kindThere _ _ _ _) (fun _ _ _ => (dt3_if (dt_wX11_vex_173 (fun _ _ _ _ _ _ _ _ _ _ => hbk45 _ _ _ _ _ _ _ _ _ _) (fun _ _ _ _ _ _ _ _ _ _ _ _ => ih _ _ _ _ _ _ _ _ _ _ _ _) _ _ _ _ _ _ _ _ _ _ _ _ _ _) (dt_wX11_vex_174 (fun _ _ _ _ _ _ _ _ _ _ => hbk45 _ _ _ _ _ _ _ _ _ _) (fun _ _ _ _ _ _ _ _ _ _ _ _ => ih _ _ _ _ _ _ _ _ _ _ _ _) _ _ _ _ _ _ _ _ _ _ _ _ _ _ _)))))))))))))))))
theorem dt_wX11_vex_45 : ∀ (d : Nat) (M : MM) (tl : Int64) (v1 : Int32) (v2 : Int32) (v3 : Int32) (v4 : Int32) (v5 : Int32) (v6 : Int32) (v7 : Int32) (v8 : Int32), DET3 (fun p => wX11_vex_45 p d M tl v1 v2 v3 v4 v5 v6 v7 v8) := by
  intro d
  induction d with
  | zero => intro M tl v1 v2 v3 v4 v5 v6 v7 v8; exact dt3_no
  | succ d ih =>
    intro M tl v1 v2 v3 v4 v5 v6 v7 v8
    unfold wX11_vex_45
    exact (dt3_if (dt3_if dt3_post (dt3_if dt3_post (dt3_if dt3_post dt3_post))) (dt3_call3 (dt_wpX11_matchOf _ _ _ _) (fun _ _ _ => (dt3_ex (fun _ => dt_wX11_vex_66 (fun _ _ _ _ _ _ _ _ _ _ => ih _ _ _ _ _ _ _ _ _ _) _ _ _ _ _ _ _ _ _ _ _ _ _)))))
theorem dt_wpX11_vex (M : MM) (tl : Int64) (v1 : Int32) (v2 : Int32) : DET3 (fun p => wpX11_vex p M tl v1 v2) := by
  unfold wpX11_vex
  exact (dt3_call3 (dt_wpX11_isBank _ _ _) (fun _ _ _ => (dt3_if dt3_post (dt3_call3 (dt_wpX11_in _ _ _ _ _) (fun _ _ _ => (dt3_if dt3_post (dt3_ex (fun _ => dt_wX11_vex_45  _ _ _ _ _ _ _ _ _ _ _))))))))
theorem dt_wpX11_want (M : MM) (tl : Int64) (v1 : Int32) (v2 : Int32) : DET3 (fun p => wpX11_want p M tl v1 v2) := by
  unfold wpX11_want
  exact (dt3_call3 (dt_wpX11_isLot _ _ _ _) (fun _ _ _ => (dt3_if dt3_post (dt3_call3 (dt_wpX11_in _ _ _ _ _) (fun _ _ _ => (dt3_if dt3_post (dt3_and (dt3_if dt3_post (dt3_and (dt3_and (dt3_all (fun _ => (dt3_and (dt3_all (fun _ => (dt3_and (dt3_and (dt3_all (fun _ => (dt3_and dt3_post))))))))))))))))))))
theorem dt_wpX11_content (M : MM) (tl : Int64) : DET3 (fun p => wpX11_content p M tl ) := by
  unfold wpX11_content
  exact (dt3_and (dt3_and (dt3_all (fun _ => dt3_post))))
theorem dt_wX11_bitsOf_4 : ∀ (d : Nat) (M : MM) (tl : Int64) (v0 : Int32) (v1 : Int32) (v2 : Int32), DET3 (fun p => wX11_bitsOf_4 p d M tl v0 v1 v2) := by
  intro d
  induction d with
  | zero => intro M tl v0 v1 v2; exact dt3_no
  | succ d ih =>
    intro M tl v0 v1 v2
    unfold wX11_bitsOf_4
    exact (dt3_if dt3_post (ih _ _ _ _ _))
theorem dt_wpX11_bitsOf (M : MM) (tl : Int64) (v0 : Int32) : DET3 (fun p => wpX11_bitsOf p M tl v0) := by
  unfold wpX11_bitsOf
  exact (dt3_ex (fun _ => dt_wX11_bitsOf_4  _ _ _ _ _ _))
theorem dt_wX11_findRests_124 {bk4 : (MM → Int64 → Prop) → MM → Int64 → Int32 → Int32 → Prop} (hbk4 : ∀ x0 x1 x2 x3, DET2 (fun p => bk4 p x0 x1 x2 x3)) (M : MM) (tl : Int64) (v1 : Int32) (v2 : Int32) : DET2 (fun p => wX11_findRests_124 p (bk4 p) M tl v1 v2) := by
  unfold wX11_findRests_124
  exact (hbk4 _ _ _ _)
theorem dt_wpX11_wantCost (M : MM) (tl : Int64) (v1 : Int32) (v2 : Int32) : DET3 (fun p => wpX11_wantCost p M tl v1 v2) := by
  unfold wpX11_wantCost
  exact (dt3_and (dt3_and (dt3_and (dt3_and (dt3_and dt3_post)))))
theorem dt_wX11_findRests_118 {bk4 : (MM → Int64 → Prop) → MM → Int64 → Int32 → Int32 → Prop} (hbk4 : ∀ x0 x1 x2 x3, DET2 (fun p => bk4 p x0 x1 x2 x3)) {bk40 : (MM → Int64 → Prop) → MM → Int64 → Int32 → Int32 → Int32 → Int32 → Prop} (hbk40 : ∀ x0 x1 x2 x3 x4 x5, DET2 (fun p => bk40 p x0 x1 x2 x3 x4 x5)) (M : MM) (tl : Int64) (v1 : Int32) (v2 : Int32) (v3 : Int32) (v4 : Int32) : DET2 (fun p => wX11_findRests_118 p (bk4 p) (bk40 p) M tl v1 v2 v3 v4) := by
  unfold wX11_findRests_118
  exact (hbk40 _ _ _ _ _ _)
theorem dt_wX11_findRests_117 {bk4 : (MM → Int64 → Prop) → MM → Int64 → Int32 → Int32 → Prop} (hbk4 : ∀ x0 x1 x2 x3, DET2 (fun p => bk4 p x0 x1 x2 x3)) {bk40 : (MM → Int64 → Prop) → MM → Int64 → Int32 → Int32 → Int32 → Int32 → Prop} (hbk40 : ∀ x0 x1 x2 x3 x4 x5, DET2 (fun p => bk40 p x0 x1 x2 x3 x4 x5)) (M : MM) (tl : Int64) (v1 : Int32) (v2 : Int32) (v3 : Int32) (v4 : Int32) (s1 : Int32) (s2 : Int32) : DET2 (fun p => wX11_findRests_117 p (bk4 p) (bk40 p) M tl v1 v2 v3 v4 s1 s2) := by
  unfold wX11_findRests_117
  exact (dt2_and (dt2_all (fun _ => (dt_wX11_findRests_118 (fun _ _ _ _ => hbk4 _ _ _ _) (fun _ _ _ _ _ _ => hbk40 _ _ _ _ _ _) _ _ _ _ _ _))))
theorem dt_wX11_findRests_40 {bk4 : (MM → Int64 → Prop) → MM → Int64 → Int32 → Int32 → Prop} (hbk4 : ∀ x0 x1 x2 x3, DET2 (fun p => bk4 p x0 x1 x2 x3)) : ∀ (d : Nat) (M : MM) (tl : Int64) (v1 : Int32) (v2 : Int32) (v3 : Int32) (v4 : Int32), DET2 (fun p => wX11_findRests_40 p (bk4 p) d M tl v1 v2 v3 v4) := by
  intro d
  induction d with
  | zero => intro M tl v1 v2 v3 v4; exact dt2_no
  | succ d ih =>
    intro M tl v1 v2 v3 v4
    unfold wX11_findRests_40
    exact (dt2_if (dt_wX11_findRests_124 (fun _ _ _ _ => hbk4 _ _ _ _) _ _ _ _) (dt2_and (dt2_if (dt_wX11_findRests_124 (fun _ _ _ _ => hbk4 _ _ _ _) _ _ _ _) (dt2_if (dt2_call3 (dt_wpX11_wantCost _ _ _ _) (fun _ _ _ => (dt2_and (dt2_and (dt2_if (dt2_and (dt_wX11_findRests_117 (fun _ _ _ _ => hbk4 _ _ _ _) (fun _ _ _ _ _ _ => ih _ _ _ _ _ _) _ _ _ _ _ _ _ _)) (dt_wX11_findRests_117 (fun _ _ _ _ => hbk4 _ _ _ _) (fun _ _ _ _ _ _ => ih _ _ _ _ _ _) _ _ _ _ _ _ _ _)))))) (dt_wX11_findRests_118 (fun _ _ _ _ => hbk4 _ _ _ _) (fun _ _ _ _ _ _ => ih _ _ _ _ _ _) _ _ _ _ _ _)))))
theorem dt_wX11_findRests_36 {bk4 : (MM → Int64 → Prop) → MM → Int64 → Int32 → Int32 → Prop} (hbk4 : ∀ x0 x1 x2 x3, DET2 (fun p => bk4 p x0 x1 x2 x3)) (M : MM) (tl : Int64) (v1 : Int32) (v2 : Int32) (v3 : Int32) (s1 : Int32) (s2 : Int32) : DET2 (fun p => wX11_findRests_36 p (bk4 p) M tl v1 v2 v3 s1 s2) := by
  unfold wX11_findRests_36
  exact (dt2_and (dt2_all (fun _ => (dt2_ex (fun _ => dt_wX11_findRests_40 (fun _ _ _ _ => hbk4 _ _ _ _) _ _ _ _ _ _ _)))))
theorem dt_wX11_findRests_4 : ∀ (d : Nat) (M : MM) (tl : Int64) (v1 : Int32) (v2 : Int32), DET2 (fun p => wX11_findRests_4 p d M tl v1 v2) := by
  intro d
  induction d with
  | zero => intro M tl v1 v2; exact dt2_no
  | succ d ih =>
    intro M tl v1 v2
    unfold wX11_findRests_4
    exact (dt2_if dt2_post (dt2_call3 (dt_wpX11_bitsOf _ _ _) (fun _ _ _ => (dt2_and (dt2_if (dt_wX11_findRests_36 (fun _ _ _ _ => ih _ _ _ _) _ _ _ _ _ _ _) (dt_wX11_findRests_36 (fun _ _ _ _ => ih _ _ _ _) _ _ _ _ _ _ _))))))
theorem dt_wpX11_findRests (M : MM) (tl : Int64) (v1 : Int32) : DET2 (fun p => wpX11_findRests p M tl v1) := by
  unfold wpX11_findRests
  exact (dt2_ex (fun _ => dt_wX11_findRests_4  _ _ _ _ _))
theorem dt_wX11_plan_159 {bk78 : (Int32 → MM → Int64 → Prop) → MM → Int64 → Int32 → Int32 → Int32 → Int32 → Int32 → Prop} (hbk78 : ∀ x0 x1 x2 x3 x4 x5 x6, DET3 (fun p => bk78 p x0 x1 x2 x3 x4 x5 x6)) {bk95 : (Int32 → MM → Int64 → Prop) → MM → Int64 → Int32 → Int32 → Int32 → Int32 → Int32 → Int32 → Prop} (hbk95 : ∀ x0 x1 x2 x3 x4 x5 x6 x7, DET3 (fun p => bk95 p x0 x1 x2 x3 x4 x5 x6 x7)) (M : MM) (tl : Int64) (v1 : Int32) (v2 : Int32) (v3 : Int32) (v5 : Int32) (v6 : Int32) (s0 : Int32) : DET3 (fun p => wX11_plan_159 p (bk78 p) (bk95 p) M tl v1 v2 v3 v5 v6 s0) := by
  unfold wX11_plan_159
  exact (hbk95 _ _ _ _ _ _ _ _)
theorem dt_wX11_plan_145 {bk78 : (Int32 → MM → Int64 → Prop) → MM → Int64 → Int32 → Int32 → Int32 → Int32 → Int32 → Prop} (hbk78 : ∀ x0 x1 x2 x3 x4 x5 x6, DET3 (fun p => bk78 p x0 x1 x2 x3 x4 x5 x6)) {bk95 : (Int32 → MM → Int64 → Prop) → MM → Int64 → Int32 → Int32 → Int32 → Int32 → Int32 → Int32 → Prop} (hbk95 : ∀ x0 x1 x2 x3 x4 x5 x6 x7, DET3 (fun p => bk95 p x0 x1 x2 x3 x4 x5 x6 x7)) (M : MM) (tl : Int64) (v1 : Int32) (v2 : Int32) (v3 : Int32) (v4 : Int32) (v5 : Int32) (v6 : Int32) (s0 : Int32) : DET3 (fun p => wX11_plan_145 p (bk78 p) (bk95 p) M tl v1 v2 v3 v4 v5 v6 s0) := by
  unfold wX11_plan_145
  exact (dt3_if (dt_wX11_plan_159 (fun _ _ _ _ _ _ _ => hbk78 _ _ _ _ _ _ _) (fun _ _ _ _ _ _ _ _ => hbk95 _ _ _ _ _ _ _ _) _ _ _ _ _ _ _ _) (dt_wX11_plan_159 (fun _ _ _ _ _ _ _ => hbk78 _ _ _ _ _ _ _) (fun _ _ _ _ _ _ _ _ => hbk95 _ _ _ _ _ _ _ _) _ _ _ _ _ _ _ _))
theorem dt_wX11_plan_144 {bk78 : (Int32 → MM → Int64 → Prop) → MM → Int64 → Int32 → Int32 → Int32 → Int32 → Int32 → Prop} (hbk78 : ∀ x0 x1 x2 x3 x4 x5 x6, DET3 (fun p => bk78 p x0 x1 x2 x3 x4 x5 x6)) {bk95 : (Int32 → MM → Int64 → Prop) → MM → Int64 → Int32 → Int32 → Int32 → Int32 → Int32 → Int32 → Prop} (hbk95 : ∀ x0 x1 x2 x3 x4 x5 x6 x7, DET3 (fun p => bk95 p x0 x1 x2 x3 x4 x5 x6 x7)) (M : MM) (tl : Int64) (v1 : Int32) (v2 : Int32) (v3 : Int32) (v4 : Int32) (v5 : Int32) (v6 : Int32) : DET3 (fun p => wX11_plan_144 p (bk78 p) (bk95 p) M tl v1 v2 v3 v4 v5 v6) := by
  unfold wX11_plan_144
  exact (dt_wX11_plan_145 (fun _ _ _ _ _ _ _ => hbk78 _ _ _ _ _ _ _) (fun _ _ _ _ _ _ _ _ => hbk95 _ _ _ _ _ _ _ _) _ _ _ _ _ _ _ _ _)
theorem dt_wX11_plan_95 {bk78 : (Int32 → MM → Int64 → Prop) → MM → Int64 → Int32 → Int32 → Int32 → Int32 → Int32 → Prop} (hbk78 : ∀ x0 x1 x2 x3 x4 x5 x6, DET3 (fun p => bk78 p x0 x1 x2 x3 x4 x5 x6)) : ∀ (d : Nat) (M : MM) (tl : Int64) (v1 : Int32) (v2 : Int32) (v3 : Int32) (v4 : Int32) (v5 : Int32) (v6 : Int32), DET3 (fun p => wX11_plan_95 p (bk78 p) d M tl v1 v2 v3 v4 v5 v6) := by
  intro d
  induction d with
  | zero => intro M tl v1 v2 v3 v4 v5 v6; exact dt3_no
  | succ d ih =>
    intro M tl v1 v2 v3 v4 v5 v6
    unfold wX11_plan_95
    exact (dt3_if (hbk78 _ _ _ _ _ _ _) (dt3_if (dt3_call3 (dt_wpX11_wantCost _ _ _ _) (fun _ _ _ => (dt3_and (dt3_and (dt3_if (dt_wX11_plan_145 (fun _ _ _ _ _ _ _ => hbk78 _ _ _ _ _ _ _) (fun _ _ _ _ _ _ _ _ => ih _ _ _ _ _ _ _ _) _ _ _ _ _ _ _ _ _) (dt_wX11_plan_144 (fun _ _ _ _ _ _ _ => hbk78 _ _ _ _ _ _ _) (fun _ _ _ _ _ _ _ _ => ih _ _ _ _ _ _ _ _) _ _ _ _ _ _ _ _)))))) (dt_wX11_plan_144 (fun _ _ _ _ _ _ _ => hbk78 _ _ _ _ _ _ _) (fun _ _ _ _ _ _ _ _ => ih _ _ _ _ _ _ _ _) _ _ _ _ _ _ _ _)))
theorem dt_wX11_plan_78 : ∀ (d : Nat) (M : MM) (tl : Int64) (v1 : Int32) (v2 : Int32) (v3 : Int32) (v4 : Int32) (v5 : Int32), DET3 (fun p => wX11_plan_78 p d M tl v1 v2 v3 v4 v5) := by
  intro d
  induction d with
  | zero => intro M tl v1 v2 v3 v4 v5; exact dt3_no
  | succ d ih =>
    intro M tl v1 v2 v3 v4 v5
    unfold wX11_plan_78
    exact (dt3_if dt3_post (dt3_ex (fun _ => dt_wX11_plan_95 (fun _ _ _ _ _ _ _ => ih _ _ _ _ _ _ _) _ _ _ _ _ _ _ _ _)))
theorem dt_wX11_plan_40 (M : MM) (tl : Int64) (v1 : Int32) (v2 : Int32) : DET3 (fun p => wX11_plan_40 p M tl v1 v2) := by
  unfold wX11_plan_40
  exact (dt3_and (dt3_if dt3_post (dt3_call2 (dt_wpX11_findRests _ _ _) (fun _ _ => (dt3_if (dt3_and dt3_post) (dt3_ex (fun _ => dt_wX11_plan_78  _ _ _ _ _ _ _ _)))))))
theorem dt_wpX11_plan (M : MM) (tl : Int64) (v1 : Int32) (v2 : Int32) : DET3 (fun p => wpX11_plan p M tl v1 v2) := by
  unfold wpX11_plan
  exact (dt3_call3 (dt_wpX11_in _ _ _ _ _) (fun _ _ _ => (dt3_if dt3_post (dt3_if (dt_wX11_plan_40  _ _ _ _) (dt3_and (dt3_call3 (dt_wpX11_in _ _ _ _ _) (fun _ _ _ => (dt3_if dt3_post (dt_wX11_plan_40  _ _ _ _)))))))))
theorem dt_wX11_cannot_182 {bk96 : (Int32 → MM → Int64 → Prop) → MM → Int64 → Int32 → Int32 → Int32 → Int32 → Int32 → Prop} (hbk96 : ∀ x0 x1 x2 x3 x4 x5 x6, DET3 (fun p => bk96 p x0 x1 x2 x3 x4 x5 x6)) (M : MM) (tl : Int64) (v1 : Int32) (v2 : Int32) (v3 : Int32) (v5 : Int32) (s0 : Int32) (s1 : Int32) : DET3 (fun p => wX11_cannot_182 p (bk96 p) M tl v1 v2 v3 v5 s0 s1) := by
  unfold wX11_cannot_182
  exact (hbk96 _ _ _ _ _ _ _)
theorem dt_wX11_cannot_158 {bk96 : (Int32 → MM → Int64 → Prop) → MM → Int64 → Int32 → Int32 → Int32 → Int32 → Int32 → Prop} (hbk96 : ∀ x0 x1 x2 x3 x4 x5 x6, DET3 (fun p => bk96 p x0 x1 x2 x3 x4 x5 x6)) (M : MM) (tl : Int64) (v1 : Int32) (v3 : Int32) (v4 : Int32) (v5 : Int32) (v6 : Int32) (s0 : Int32) (s1 : Int32) : DET3 (fun p => wX11_cannot_158 p (bk96 p) M tl v1 v3 v4 v5 v6 s0 s1) := by
  unfold wX11_cannot_158
  exact (dt3_and (dt3_call3 (dt_wpX11_doesLack _ _ _ _) (fun _ _ _ => (dt3_if (dt_wX11_cannot_182 (fun _ _ _ _ _ _ _ => hbk96 _ _ _ _ _ _ _) _ _ _ _ _ _ _ _) (dt_wX11_cannot_182 (fun _ _ _ _ _ _ _ => hbk96 _ _ _ _ _ _ _) _ _ _ _ _ _ _ _)))))
theorem dt_wX11_cannot_150 {bk96 : (Int32 → MM → Int64 → Prop) → MM → Int64 → Int32 → Int32 → Int32 → Int32 → Int32 → Prop} (hbk96 : ∀ x0 x1 x2 x3 x4 x5 x6, DET3 (fun p => bk96 p x0 x1 x2 x3 x4 x5 x6)) (M : MM) (tl : Int64) (v1 : Int32) (v3 : Int32) (v4 : Int32) (v5 : Int32) (v6 : Int32) (s0 : Int32) : DET3 (fun p => wX11_cannot_150 p (bk96 p) M tl v1 v3 v4 v5 v6 s0) := by
  unfold wX11_cannot_150
  exact (dt_wX11_cannot_158 (fun _ _ _ _ _ _ _ => hbk96 _ _ _ _ _ _ _) _ _ _ _ _ _ _ _ _)
theorem dt_wX11_cannot_96 : ∀ (d : Nat) (M : MM) (tl : Int64) (v1 : Int32) (v2 : Int32) (v3 : Int32) (v4 : Int32) (v5 : Int32), DET3 (fun p => wX11_cannot_96 p d M tl v1 v2 v3 v4 v5) := by
  intro d
  induction d with
  | zero => intro M tl v1 v2 v3 v4 v5; exact dt3_no
  | succ d ih =>
    intro M tl v1 v2 v3 v4 v5
    unfold wX11_cannot_96
    exact (dt3_and (dt3_if (dt3_if dt3_post (dt3_if dt3_post dt3_post)) (dt3_and (dt3_call3 (dt_wpX11_doesLack _ _ _ _) (fun _ _ _ => (dt3_if (dt3_and (dt3_call3 (dt_wpX11_doesLack _ _ _ _) (fun _ _ _ => (dt3_if (dt_wX11_cannot_158 (fun _ _ _ _ _ _ _ => ih _ _ _ _ _ _ _) _ _ _ _ _ _ _ _ _) (dt_wX11_cannot_150 (fun _ _ _ _ _ _ _ => ih _ _ _ _ _ _ _) _ _ _ _ _ _ _ _))))) (dt_wX11_cannot_150 (fun _ _ _ _ _ _ _ => ih _ _ _ _ _ _ _) _ _ _ _ _ _ _ _)))))))
theorem dt_wX11_cannot_83 {bk20 : (Int32 → MM → Int64 → Prop) → MM → Int64 → Int32 → Int32 → Int32 → Int32 → Prop} (hbk20 : ∀ x0 x1 x2 x3 x4 x5, DET3 (fun p => bk20 p x0 x1 x2 x3 x4 x5)) (M : MM) (tl : Int64) (v1 : Int32) (v2 : Int32) (v4 : Int32) (s0 : Int32) : DET3 (fun p => wX11_cannot_83 p (bk20 p) M tl v1 v2 v4 s0) := by
  unfold wX11_cannot_83
  exact (hbk20 _ _ _ _ _ _)
theorem dt_wX11_cannot_62 {bk20 : (Int32 → MM → Int64 → Prop) → MM → Int64 → Int32 → Int32 → Int32 → Int32 → Prop} (hbk20 : ∀ x0 x1 x2 x3 x4 x5, DET3 (fun p => bk20 p x0 x1 x2 x3 x4 x5)) (M : MM) (tl : Int64) (v1 : Int32) (v2 : Int32) (v3 : Int32) (v4 : Int32) (s0 : Int32) : DET3 (fun p => wX11_cannot_62 p (bk20 p) M tl v1 v2 v3 v4 s0) := by
  unfold wX11_cannot_62
  exact (dt3_if (dt_wX11_cannot_83 (fun _ _ _ _ _ _ => hbk20 _ _ _ _ _ _) _ _ _ _ _ _) (dt3_and (dt_wX11_cannot_83 (fun _ _ _ _ _ _ => hbk20 _ _ _ _ _ _) _ _ _ _ _ _)))
theorem dt_wX11_cannot_57 {bk20 : (Int32 → MM → Int64 → Prop) → MM → Int64 → Int32 → Int32 → Int32 → Int32 → Prop} (hbk20 : ∀ x0 x1 x2 x3 x4 x5, DET3 (fun p => bk20 p x0 x1 x2 x3 x4 x5)) (M : MM) (tl : Int64) (v1 : Int32) (v2 : Int32) (v3 : Int32) (v4 : Int32) : DET3 (fun p => wX11_cannot_57 p (bk20 p) M tl v1 v2 v3 v4) := by
  unfold wX11_cannot_57
  exact (dt_wX11_cannot_62 (fun _ _ _ _ _ _ => hbk20 _ _ _ _ _ _) _ _ _ _ _ _ _)
theorem dt_wX11_cannot_61 {bk20 : (Int32 → MM → Int64 → Prop) → MM → Int64 → Int32 → Int32 → Int32 → Int32 → Prop} (hbk20 : ∀ x0 x1 x2 x3 x4 x5, DET3 (fun p => bk20 p x0 x1 x2 x3 x4 x5)) (M : MM) (tl : Int64) (v1 : Int32) (v2 : Int32) (v3 : Int32) (v4 : Int32) : DET3 (fun p => wX11_cannot_61 p (bk20 p) M tl v1 v2 v3 v4) := by
  unfold wX11_cannot_61
  exact (dt_wX11_cannot_62 (fun _ _ _ _ _ _ => hbk20 _ _ _ _ _ _) _ _ _ _ _ _ _)
theorem dt_wX11_cannot_20 : ∀ (d : Nat) (M : MM) (tl : Int64) (v1 : Int32) (v2 : Int32) (v3 : Int32) (v4 : Int32), DET3 (fun p => wX11_cannot_20 p d M tl v1 v2 v3 v4) := by
  intro d
  induction d with
  | zero => intro M tl v1 v2 v3 v4; exact dt3_no
  | succ d ih =>
    intro M tl v1 v2 v3 v4
    unfold wX11_cannot_20
    exact (dt3_if (dt3_ex (fun _ => dt_wX11_cannot_96  _ _ _ _ _ _ _ _)) (dt3_call3 (dt_wpX11_doesLack _ _ _ _) (fun _ _ _ => (dt3_if (dt3_if (dt_wX11_cannot_57 (fun _ _ _ _ _ _ => ih _ _ _ _ _ _) _ _ _ _ _ _) (dt3_and (dt3_if (dt_wX11_cannot_61 (fun _ _ _ _ _ _ => ih _ _ _ _ _ _) _ _ _ _ _ _) (dt_wX11_cannot_57 (fun _ _ _ _ _ _ => ih _ _ _ _ _ _) _ _ _ _ _ _)))) (dt_wX11_cannot_61 (fun _ _ _ _ _ _ => ih _ _ _ _ _ _) _ _ _ _ _ _)))))
theorem dt_wpX11_cannot (M : MM) (tl : Int64) (v1 : Int32) : DET3 (fun p => wpX11_cannot p M tl v1) := by
  unfold wpX11_cannot
  exact (dt3_call3 (dt_wpX11_in _ _ _ _ _) (fun _ _ _ => (dt3_if dt3_post (dt3_ex (fun _ => dt_wX11_cannot_20  _ _ _ _ _ _ _)))))
theorem dt_wX11_fire_127 (M : MM) (tl : Int64) (s0 : Int32) : DET3 (fun p => wX11_fire_127 p M tl s0) := by
  unfold wX11_fire_127
  exact (dt3_call3 (dt_wpX11_flag _ _ _) (fun _ _ _ => dt3_post))
theorem dt_wX11_fire_108 (M : MM) (tl : Int64) (v3 : Int32) (v6 : Int32) (s0 : Int32) (s1 : Int32) : DET3 (fun p => wX11_fire_108 p M tl v3 v6 s0 s1) := by
  unfold wX11_fire_108
  exact (dt3_if (dt3_if (dt_wX11_fire_127  _ _ _) (dt_wX11_fire_127  _ _ _)) (dt3_if dt3_post dt3_post))
theorem dt_wpX11_fire (M : MM) (tl : Int64) (v1 : Int32) (v2 : Int32) (v3 : Int32) : DET3 (fun p => wpX11_fire p M tl v1 v2 v3) := by
  unfold wpX11_fire
  exact (dt3_call3 (dt_wpX11_isLot _ _ _ _) (fun _ _ _ => (dt3_if dt3_post (dt3_call3 (dt_wpX11_in _ _ _ _ _) (fun _ _ _ => (dt3_if dt3_post (dt3_call3 (dt_wpX11_kindThere _ _ _ _) (fun _ _ _ => (dt3_if dt3_post (dt3_call3 (dt_wpX11_matchOf _ _ _ _) (fun _ _ _ => (dt3_and (dt3_and (dt3_if (dt_wX11_fire_108  _ _ _ _ _ _) (dt3_call3 (dt_wpX11_kindThere _ _ _ _) (fun _ _ _ => (dt3_and (dt_wX11_fire_108  _ _ _ _ _ _))))))))))))))))))
theorem dt_wX11_quarrelOf_119 {bk4 : (Int32 → MM → Int64 → Prop) → MM → Int64 → Int32 → Int32 → Int32 → Prop} (hbk4 : ∀ x0 x1 x2 x3 x4, DET3 (fun p => bk4 p x0 x1 x2 x3 x4)) (M : MM) (tl : Int64) (v1 : Int32) (v3 : Int32) (s0 : Int32) (s1 : Int32) : DET3 (fun p => wX11_quarrelOf_119 p (bk4 p) M tl v1 v3 s0 s1) := by
  unfold wX11_quarrelOf_119
  exact (hbk4 _ _ _ _ _)
theorem dt_wX11_quarrelOf_112 {bk4 : (Int32 → MM → Int64 → Prop) → MM → Int64 → Int32 → Int32 → Int32 → Prop} (hbk4 : ∀ x0 x1 x2 x3 x4, DET3 (fun p => bk4 p x0 x1 x2 x3 x4)) (M : MM) (tl : Int64) (v1 : Int32) (v3 : Int32) (s0 : Int32) (s1 : Int32) : DET3 (fun p => wX11_quarrelOf_112 p (bk4 p) M tl v1 v3 s0 s1) := by
  unfold wX11_quarrelOf_112
  exact (dt3_call3 (dt_wpX11_flag _ _ _) (fun _ _ _ => (dt_wX11_quarrelOf_119 (fun _ _ _ _ _ => hbk4 _ _ _ _ _) _ _ _ _ _ _)))
theorem dt_wX11_quarrelOf_80 {bk4 : (Int32 → MM → Int64 → Prop) → MM → Int64 → Int32 → Int32 → Int32 → Prop} (hbk4 : ∀ x0 x1 x2 x3 x4, DET3 (fun p => bk4 p x0 x1 x2 x3 x4)) (M : MM) (tl : Int64) (v1 : Int32) (v3 : Int32) (s0 : Int32) (s1 : Int32) : DET3 (fun p => wX11_quarrelOf_80 p (bk4 p) M tl v1 v3 s0 s1) := by
  unfold wX11_quarrelOf_80
  exact (dt3_call3 (dt_wpX11_matchBy _ _ _ _ _) (fun _ _ _ => (dt3_if (dt3_and (dt3_if (dt_wX11_quarrelOf_112 (fun _ _ _ _ _ => hbk4 _ _ _ _ _) _ _ _ _ _ _) (dt_wX11_quarrelOf_112 (fun _ _ _ _ _ => hbk4 _ _ _ _ _) _ _ _ _ _ _))) (dt_wX11_quarrelOf_119 (fun _ _ _ _ _ => hbk4 _ _ _ _ _) _ _ _ _ _ _))))
theorem dt_wX11_quarrelOf_43 {bk4 : (Int32 → MM → Int64 → Prop) → MM → Int64 → Int32 → Int32 → Int32 → Prop} (hbk4 : ∀ x0 x1 x2 x3 x4, DET3 (fun p => bk4 p x0 x1 x2 x3 x4)) (M : MM) (tl : Int64) (v1 : Int32) (v3 : Int32) (s0 : Int32) (s1 : Int32) : DET3 (fun p => wX11_quarrelOf_43 p (bk4 p) M tl v1 v3 s0 s1) := by
  unfold wX11_quarrelOf_43
  exact (dt3_call3 (dt_wpX11_flag _ _ _) (fun _ _ _ => (dt_wX11_quarrelOf_80 (fun _ _ _ _ _ => hbk4 _ _ _ _ _) _ _ _ _ _ _)))
theorem dt_wX11_quarrelOf_77 {bk4 : (Int32 → MM → Int64 → Prop) → MM → Int64 → Int32 → Int32 → Int32 → Prop} (hbk4 : ∀ x0 x1 x2 x3 x4, DET3 (fun p => bk4 p x0 x1 x2 x3 x4)) (M : MM) (tl : Int64) (v1 : Int32) (v3 : Int32) (s0 : Int32) (s1 : Int32) : DET3 (fun p => wX11_quarrelOf_77 p (bk4 p) M tl v1 v3 s0 s1) := by
  unfold wX11_quarrelOf_77
  exact (dt3_call3 (dt_wpX11_flag _ _ _) (fun _ _ _ => (dt_wX11_quarrelOf_80 (fun _ _ _ _ _ => hbk4 _ _ _ _ _) _ _ _ _ _ _)))
theorem dt_wX11_quarrelOf_4 : ∀ (d : Nat) (M : MM) (tl : Int64) (v1 : Int32) (v2 : Int32) (v3 : Int32), DET3 (fun p => wX11_quarrelOf_4 p d M tl v1 v2 v3) := by
  intro d
  induction d with
  | zero => intro M tl v1 v2 v3; exact dt3_no
  | succ d ih =>
    intro M tl v1 v2 v3
    unfold wX11_quarrelOf_4
    exact (dt3_if dt3_post (dt3_call3 (dt_wpX11_matchBy _ _ _ _ _) (fun _ _ _ => (dt3_if (dt3_and (dt3_if (dt_wX11_quarrelOf_43 (fun _ _ _ _ _ => ih _ _ _ _ _) _ _ _ _ _ _) (dt_wX11_quarrelOf_43 (fun _ _ _ _ _ => ih _ _ _ _ _) _ _ _ _ _ _))) (dt3_and (dt3_and (dt3_call3 (dt_wpX11_mirrorOf _ _ _) (fun _ _ _ => (dt3_if (dt_wX11_quarrelOf_77 (fun _ _ _ _ _ => ih _ _ _ _ _) _ _ _ _ _ _) (dt_wX11_quarrelOf_77 (fun _ _ _ _ _ => ih _ _ _ _ _) _ _ _ _ _ _))))))))))
theorem dt_wpX11_quarrelOf (M : MM) (tl : Int64) (v1 : Int32) : DET3 (fun p => wpX11_quarrelOf p M tl v1) := by
  unfold wpX11_quarrelOf
  exact (dt3_ex (fun _ => dt_wX11_quarrelOf_4  _ _ _ _ _ _))
theorem dt_wpX11_quarrel (M : MM) (tl : Int64) (v1 : Int32) : DET3 (fun p => wpX11_quarrel p M tl v1) := by
  unfold wpX11_quarrel
  exact (dt3_call3 (dt_wpX11_in _ _ _ _ _) (fun _ _ _ => (dt3_if dt3_post (dt3_call3 (dt_wpX11_quarrelOf _ _ _) (fun _ _ _ => dt3_post)))))
theorem dt_wX11_bend_28 {bk4 : (Int32 → MM → Int64 → Prop) → MM → Int64 → Int32 → Int32 → Prop} (hbk4 : ∀ x0 x1 x2 x3, DET3 (fun p => bk4 p x0 x1 x2 x3)) (M : MM) (tl : Int64) (v2 : Int32) (s0 : Int32) : DET3 (fun p => wX11_bend_28 p (bk4 p) M tl v2 s0) := by
  unfold wX11_bend_28
  exact (hbk4 _ _ _ _)
theorem dt_wX11_bend_4 : ∀ (d : Nat) (M : MM) (tl : Int64) (v1 : Int32) (v2 : Int32), DET3 (fun p => wX11_bend_4 p d M tl v1 v2) := by
  intro d
  induction d with
  | zero => intro M tl v1 v2; exact dt3_no
  | succ d ih =>
    intro M tl v1 v2
    unfold wX11_bend_4
    exact (dt3_if dt3_post (dt3_call3 (dt_wpX11_quarrelOf _ _ _) (fun _ _ _ => (dt3_call3 (dt_wpX11_quarrelOf _ _ _) (fun _ _ _ => (dt3_if (dt_wX11_bend_28 (fun _ _ _ _ => ih _ _ _ _) _ _ _ _) (dt_wX11_bend_28 (fun _ _ _ _ => ih _ _ _ _) _ _ _ _)))))))
theorem dt_wpX11_bend (M : MM) (tl : Int64) : DET3 (fun p => wpX11_bend p M tl ) := by
  unfold wpX11_bend
  exact (dt3_ex (fun _ => dt_wX11_bend_4  _ _ _ _ _))
theorem dt_wpX11_isShop (M : MM) (tl : Int64) (v1 : Int32) (v2 : Int32) : DET3 (fun p => wpX11_isShop p M tl v1 v2) := by
  unfold wpX11_isShop
  exact (dt3_call3 (dt_wpX11_in _ _ _ _ _) (fun _ _ _ => (dt3_if dt3_post (dt3_call3 (dt_wpX11_kindThere _ _ _ _) (fun _ _ _ => (dt3_if dt3_post dt3_post))))))
theorem dt_wX11_shops_126 {bk30 : (Int32 → MM → Int64 → Prop) → MM → Int64 → Int32 → Int32 → Int32 → Int32 → Int32 → Int32 → Prop} (hbk30 : ∀ x0 x1 x2 x3 x4 x5 x6 x7, DET3 (fun p => bk30 p x0 x1 x2 x3 x4 x5 x6 x7)) (M : MM) (tl : Int64) (v1 : Int32) (v2 : Int32) (v3 : Int32) (v5 : Int32) (v6 : Int32) (s0 : Int32) (s1 : Int32) : DET3 (fun p => wX11_shops_126 p (bk30 p) M tl v1 v2 v3 v5 v6 s0 s1) := by
  unfold wX11_shops_126
  exact (hbk30 _ _ _ _ _ _ _ _)
theorem dt_wX11_shops_125 {bk30 : (Int32 → MM → Int64 → Prop) → MM → Int64 → Int32 → Int32 → Int32 → Int32 → Int32 → Int32 → Prop} (hbk30 : ∀ x0 x1 x2 x3 x4 x5 x6 x7, DET3 (fun p => bk30 p x0 x1 x2 x3 x4 x5 x6 x7)) (M : MM) (tl : Int64) (v1 : Int32) (v2 : Int32) (v3 : Int32) (v5 : Int32) (v6 : Int32) (s0 : Int32) : DET3 (fun p => wX11_shops_125 p (bk30 p) M tl v1 v2 v3 v5 v6 s0) := by
  unfold wX11_shops_125
  exact (dt_wX11_shops_126 (fun _ _ _ _ _ _ _ _ => hbk30 _ _ _ _ _ _ _ _) _ _ _ _ _ _ _ _ _)
theorem dt_wX11_shops_105 {bk30 : (Int32 → MM → Int64 → Prop) → MM → Int64 → Int32 → Int32 → Int32 → Int32 → Int32 → Int32 → Prop} (hbk30 : ∀ x0 x1 x2 x3 x4 x5 x6 x7, DET3 (fun p => bk30 p x0 x1 x2 x3 x4 x5 x6 x7)) (M : MM) (tl : Int64) (v1 : Int32) (v2 : Int32) (v3 : Int32) (v4 : Int32) (v6 : Int32) (s0 : Int32) : DET3 (fun p => wX11_shops_105 p (bk30 p) M tl v1 v2 v3 v4 v6 s0) := by
  unfold wX11_shops_105
  exact (dt3_if (dt_wX11_shops_125 (fun _ _ _ _ _ _ _ _ => hbk30 _ _ _ _ _ _ _ _) _ _ _ _ _ _ _ _) (dt3_if (dt_wX11_shops_126 (fun _ _ _ _ _ _ _ _ => hbk30 _ _ _ _ _ _ _ _) _ _ _ _ _ _ _ _ _) (dt_wX11_shops_125 (fun _ _ _ _ _ _ _ _ => hbk30 _ _ _ _ _ _ _ _) _ _ _ _ _ _ _ _)))
theorem dt_wX11_shops_79 {bk30 : (Int32 → MM → Int64 → Prop) → MM → Int64 → Int32 → Int32 → Int32 → Int32 → Int32 → Int32 → Prop} (hbk30 : ∀ x0 x1 x2 x3 x4 x5 x6 x7, DET3 (fun p => bk30 p x0 x1 x2 x3 x4 x5 x6 x7)) (M : MM) (tl : Int64) (v1 : Int32) (v2 : Int32) (v4 : Int32) (v5 : Int32) (v6 : Int32) (s0 : Int32) (s1 : Int32) : DET3 (fun p => wX11_shops_79 p (bk30 p) M tl v1 v2 v4 v5 v6 s0 s1) := by
  unfold wX11_shops_79
  exact (dt3_call3 (dt_wpX11_flag _ _ _) (fun _ _ _ => (dt3_call3 (dt_wpX11_isShop _ _ _ _) (fun _ _ _ => (dt3_if (dt_wX11_shops_105 (fun _ _ _ _ _ _ _ _ => hbk30 _ _ _ _ _ _ _ _) _ _ _ _ _ _ _ _) (dt_wX11_shops_105 (fun _ _ _ _ _ _ _ _ => hbk30 _ _ _ _ _ _ _ _) _ _ _ _ _ _ _ _))))))
theorem dt_wX11_shops_78 {bk30 : (Int32 → MM → Int64 → Prop) → MM → Int64 → Int32 → Int32 → Int32 → Int32 → Int32 → Int32 → Prop} (hbk30 : ∀ x0 x1 x2 x3 x4 x5 x6 x7, DET3 (fun p => bk30 p x0 x1 x2 x3 x4 x5 x6 x7)) (M : MM) (tl : Int64) (v1 : Int32) (v2 : Int32) (v4 : Int32) (v5 : Int32) (v6 : Int32) (s0 : Int32) : DET3 (fun p => wX11_shops_78 p (bk30 p) M tl v1 v2 v4 v5 v6 s0) := by
  unfold wX11_shops_78
  exact (dt_wX11_shops_79 (fun _ _ _ _ _ _ _ _ => hbk30 _ _ _ _ _ _ _ _) _ _ _ _ _ _ _ _ _)
theorem dt_wX11_shops_74 {bk30 : (Int32 → MM → Int64 → Prop) → MM → Int64 → Int32 → Int32 → Int32 → Int32 → Int32 → Int32 → Prop} (hbk30 : ∀ x0 x1 x2 x3 x4 x5 x6 x7, DET3 (fun p => bk30 p x0 x1 x2 x3 x4 x5 x6 x7)) (M : MM) (tl : Int64) (v1 : Int32) (v2 : Int32) (v4 : Int32) (v5 : Int32) (v6 : Int32) (s0 : Int32) : DET3 (fun p => wX11_shops_74 p (bk30 p) M tl v1 v2 v4 v5 v6 s0) := by
  unfold wX11_shops_74
  exact (dt_wX11_shops_79 (fun _ _ _ _ _ _ _ _ => hbk30 _ _ _ _ _ _ _ _) _ _ _ _ _ _ _ _ _)
theorem dt_wX11_shops_30 : ∀ (d : Nat) (M : MM) (tl : Int64) (v1 : Int32) (v2 : Int32) (v3 : Int32) (v4 : Int32) (v5 : Int32) (v6 : Int32), DET3 (fun p => wX11_shops_30 p d M tl v1 v2 v3 v4 v5 v6) := by
  intro d
  induction d with
  | zero => intro M tl v1 v2 v3 v4 v5 v6; exact dt3_no
  | succ d ih =>
    intro M tl v1 v2 v3 v4 v5 v6
    unfold wX11_shops_30
    exact (dt3_if (dt3_if dt3_post dt3_post) (dt3_call3 (dt_wpX11_isShop _ _ _ _) (fun _ _ _ => (dt3_if (dt_wX11_shops_78 (fun _ _ _ _ _ _ _ _ => ih _ _ _ _ _ _ _ _) _ _ _ _ _ _ _ _) (dt3_call3 (dt_wpX11_isShop _ _ _ _) (fun _ _ _ => (dt3_if (dt3_call3 (dt_wpX11_isShop _ _ _ _) (fun _ _ _ => (dt3_if (dt_wX11_shops_78 (fun _ _ _ _ _ _ _ _ => ih _ _ _ _ _ _ _ _) _ _ _ _ _ _ _ _) (dt_wX11_shops_74 (fun _ _ _ _ _ _ _ _ => ih _ _ _ _ _ _ _ _) _ _ _ _ _ _ _ _)))) (dt_wX11_shops_74 (fun _ _ _ _ _ _ _ _ => ih _ _ _ _ _ _ _ _) _ _ _ _ _ _ _ _))))))))
theorem dt_wpX11_shops (M : MM) (tl : Int64) (v1 : Int32) (v2 : Int32) : DET3 (fun p => wpX11_shops p M tl v1 v2) := by
  unfold wpX11_shops
  exact (dt3_call3 (dt_wpX11_isBank _ _ _) (fun _ _ _ => (dt3_if dt3_post (dt3_call3 (dt_wpX11_in _ _ _ _ _) (fun _ _ _ => (dt3_if dt3_post (dt3_ex (fun _ => dt_wX11_shops_30  _ _ _ _ _ _ _ _ _))))))))
theorem dt_wpX11_saw (M : MM) (tl : Int64) (v1 : Int32) (v2 : Int32) (v3 : Int32) (v4 : Int32) : DET3 (fun p => wpX11_saw p M tl v1 v2 v3 v4) := by
  unfold wpX11_saw
  exact (dt3_call3 (dt_wpX11_isLot _ _ _ _) (fun _ _ _ => (dt3_if dt3_post (dt3_call3 (dt_wpX11_in _ _ _ _ _) (fun _ _ _ => (dt3_if dt3_post (dt3_and (dt3_if dt3_post (dt3_and (dt3_and (dt3_all (fun _ => (dt3_and (dt3_all (fun _ => (dt3_and (dt3_all (fun _ => (dt3_call3 (dt_wpX11_flag _ _ _) (fun _ _ _ => (dt3_and (dt3_all (fun _ => (dt3_and (dt3_and (dt3_all (fun _ => (dt3_and dt3_post))))))))))))))))))))))))))))
theorem dt_wpX11_forget (M : MM) (tl : Int64) : DET3 (fun p => wpX11_forget p M tl ) := by
  unfold wpX11_forget
  exact (dt3_and (dt3_and (dt3_all (fun _ => dt3_post))))
theorem dt_wpX11_isTold (M : MM) (tl : Int64) (v1 : Int32) : DET3 (fun p => wpX11_isTold p M tl v1) := by
  unfold wpX11_isTold
  exact (dt3_call3 (dt_wpX11_matchOf _ _ _ _) (fun _ _ _ => (dt3_if dt3_post (dt3_and (dt3_if dt3_post (dt3_and (dt3_and (dt3_call3 (dt_wpX11_mirrorOf _ _ _) (fun _ _ _ => (dt3_if dt3_post dt3_post))))))))))
theorem dt_wX11_histories_89 {bk21 : (Int64 → MM → Int64 → Prop) → MM → Int64 → Int32 → Int64 → Int32 → Prop} (hbk21 : ∀ x0 x1 x2 x3 x4, DET3 (fun p => bk21 p x0 x1 x2 x3 x4)) (M : MM) (tl : Int64) (v1 : Int32) (v2 : Int64) (v4 : Int32) : DET3 (fun p => wX11_histories_89 p (bk21 p) M tl v1 v2 v4) := by
  unfold wX11_histories_89
  exact (hbk21 _ _ _ _ _)
theorem dt_wX11_fits_94 {bk6 : (Int32 → MM → Int64 → Prop) → MM → Int64 → Int32 → Int32 → Int32 → Int32 → Int32 → Prop} (hbk6 : ∀ x0 x1 x2 x3 x4 x5 x6, DET3 (fun p => bk6 p x0 x1 x2 x3 x4 x5 x6)) (M : MM) (tl : Int64) (v1 : Int32) (v2 : Int32) (v3 : Int32) (v5 : Int32) (s0 : Int32) : DET3 (fun p => wX11_fits_94 p (bk6 p) M tl v1 v2 v3 v5 s0) := by
  unfold wX11_fits_94
  exact (hbk6 _ _ _ _ _ _ _)
theorem dt_wX11_fits_93 {bk6 : (Int32 → MM → Int64 → Prop) → MM → Int64 → Int32 → Int32 → Int32 → Int32 → Int32 → Prop} (hbk6 : ∀ x0 x1 x2 x3 x4 x5 x6, DET3 (fun p => bk6 p x0 x1 x2 x3 x4 x5 x6)) (M : MM) (tl : Int64) (v1 : Int32) (v2 : Int32) (v3 : Int32) (v5 : Int32) : DET3 (fun p => wX11_fits_93 p (bk6 p) M tl v1 v2 v3 v5) := by
  unfold wX11_fits_93
  exact (dt_wX11_fits_94 (fun _ _ _ _ _ _ _ => hbk6 _ _ _ _ _ _ _) _ _ _ _ _ _ _)
theorem dt_wX11_fits_89 {bk6 : (Int32 → MM → Int64 → Prop) → MM → Int64 → Int32 → Int32 → Int32 → Int32 → Int32 → Prop} (hbk6 : ∀ x0 x1 x2 x3 x4 x5 x6, DET3 (fun p => bk6 p x0 x1 x2 x3 x4 x5 x6)) (M : MM) (tl : Int64) (v1 : Int32) (v2 : Int32) (v3 : Int32) (v5 : Int32) : DET3 (fun p => wX11_fits_89 p (bk6 p) M tl v1 v2 v3 v5) := by
  unfold wX11_fits_89
  exact (dt_wX11_fits_94 (fun _ _ _ _ _ _ _ => hbk6 _ _ _ _ _ _ _) _ _ _ _ _ _ _)
theorem dt_wX11_fits_83 {bk6 : (Int32 → MM → Int64 → Prop) → MM → Int64 → Int32 → Int32 → Int32 → Int32 → Int32 → Prop} (hbk6 : ∀ x0 x1 x2 x3 x4 x5 x6, DET3 (fun p => bk6 p x0 x1 x2 x3 x4 x5 x6)) (M : MM) (tl : Int64) (v1 : Int32) (v2 : Int32) (v3 : Int32) (v5 : Int32) (s0 : Int32) (s1 : Int32) : DET3 (fun p => wX11_fits_83 p (bk6 p) M tl v1 v2 v3 v5 s0 s1) := by
  unfold wX11_fits_83
  exact (dt3_call3 (dt_wpX11_flag _ _ _) (fun _ _ _ => (dt3_if (dt_wX11_fits_89 (fun _ _ _ _ _ _ _ => hbk6 _ _ _ _ _ _ _) _ _ _ _ _ _) (dt_wX11_fits_93 (fun _ _ _ _ _ _ _ => hbk6 _ _ _ _ _ _ _) _ _ _ _ _ _))))
theorem dt_wX11_fits_6 : ∀ (d : Nat) (M : MM) (tl : Int64) (v1 : Int32) (v2 : Int32) (v3 : Int32) (v4 : Int32) (v5 : Int32), DET3 (fun p => wX11_fits_6 p d M tl v1 v2 v3 v4 v5) := by
  intro d
  induction d with
  | zero => intro M tl v1 v2 v3 v4 v5; exact dt3_no
  | succ d ih =>
    intro M tl v1 v2 v3 v4 v5
    unfold wX11_fits_6
    exact (dt3_and (dt3_if (dt3_and dt3_post) (dt3_if (dt_wX11_fits_93 (fun _ _ _ _ _ _ _ => ih _ _ _ _ _ _ _) _ _ _ _ _ _) (dt3_and (dt3_if (dt3_and (dt3_if (dt3_and (dt3_and (dt3_if (dt_wX11_fits_83 (fun _ _ _ _ _ _ _ => ih _ _ _ _ _ _ _) _ _ _ _ _ _ _ _) (dt_wX11_fits_83 (fun _ _ _ _ _ _ _ => ih _ _ _ _ _ _ _) _ _ _ _ _ _ _ _)))) (dt_wX11_fits_89 (fun _ _ _ _ _ _ _ => ih _ _ _ _ _ _ _) _ _ _ _ _ _))) (dt_wX11_fits_89 (fun _ _ _ _ _ _ _ => ih _ _ _ _ _ _ _) _ _ _ _ _ _))))))
theorem dt_wpX11_fits (M : MM) (tl : Int64) (v1 : Int32) (v2 : Int32) (v3 : Int32) : DET3 (fun p => wpX11_fits p M tl v1 v2 v3) := by
  unfold wpX11_fits
  exact (dt3_ex (fun _ => dt_wX11_fits_6  _ _ _ _ _ _ _ _))
theorem dt_wX11_waysOf_84 (M : MM) (tl : Int64) (s0 : Int32) (s1 : Int32) : DET3 (fun p => wX11_waysOf_84 p M tl s0 s1) := by
  unfold wX11_waysOf_84
  exact (dt3_call3 (dt_wpX11_flag _ _ _) (fun _ _ _ => dt3_post))
theorem dt_wX11_waysOf_83 (M : MM) (tl : Int64) (s0 : Int32) : DET3 (fun p => wX11_waysOf_83 p M tl s0) := by
  unfold wX11_waysOf_83
  exact (dt_wX11_waysOf_84  _ _ _ _)
theorem dt_wX11_waysOf_30 (M : MM) (tl : Int64) (v2 : Int32) (v3 : Int32) (v4 : Int32) (v6 : Int32) (s0 : Int32) : DET3 (fun p => wX11_waysOf_30 p M tl v2 v3 v4 v6 s0) := by
  unfold wX11_waysOf_30
  exact (dt3_call3 (dt_wpX11_fits _ _ _ _ _) (fun _ _ _ => (dt3_if dt3_post (dt3_call3 (dt_wpX11_fits _ _ _ _ _) (fun _ _ _ => (dt3_call3 (dt_wpX11_flag _ _ _) (fun _ _ _ => (dt3_if (dt_wX11_waysOf_83  _ _ _) (dt3_call3 (dt_wpX11_fits _ _ _ _ _) (fun _ _ _ => (dt3_if (dt_wX11_waysOf_83  _ _ _) (dt_wX11_waysOf_84  _ _ _ _))))))))))))
theorem dt_wX11_waysOf_18 (M : MM) (tl : Int64) (v1 : Int32) (v2 : Int32) (v3 : Int32) (v4 : Int32) (v5 : Int32) (s0 : Int32) : DET3 (fun p => wX11_waysOf_18 p M tl v1 v2 v3 v4 v5 s0) := by
  unfold wX11_waysOf_18
  exact (dt3_if (dt_wX11_waysOf_30  _ _ _ _ _ _ _) (dt_wX11_waysOf_30  _ _ _ _ _ _ _))
theorem dt_wpX11_waysOf (M : MM) (tl : Int64) (v1 : Int32) (v2 : Int32) (v3 : Int32) (v4 : Int32) : DET3 (fun p => wpX11_waysOf p M tl v1 v2 v3 v4) := by
  unfold wpX11_waysOf
  exact (dt3_call3 (dt_wpX11_matchOf _ _ _ _) (fun _ _ _ => (dt3_if (dt_wX11_waysOf_18  _ _ _ _ _ _ _ _) (dt_wX11_waysOf_18  _ _ _ _ _ _ _ _))))
theorem dt_wX11_histories_45 {bk21 : (Int64 → MM → Int64 → Prop) → MM → Int64 → Int32 → Int64 → Int32 → Prop} (hbk21 : ∀ x0 x1 x2 x3 x4, DET3 (fun p => bk21 p x0 x1 x2 x3 x4)) : ∀ (d : Nat) (M : MM) (tl : Int64) (v1 : Int32) (v2 : Int64) (v4 : Int32) (v5 : Int64) (v7 : Int32), DET3 (fun p => wX11_histories_45 p (bk21 p) d M tl v1 v2 v4 v5 v7) := by
  intro d
  induction d with
  | zero => intro M tl v1 v2 v4 v5 v7; exact dt3_no
  | succ d ih =>
    intro M tl v1 v2 v4 v5 v7
    unfold wX11_histories_45
    exact (dt3_if (dt_wX11_histories_89 (fun _ _ _ _ _ => hbk21 _ _ _ _ _) _ _ _ _ _) (dt3_call3 (dt_wpX11_waysOf _ _ _ _ _ _) (fun _ _ _ => (dt3_call3 (dt_wpX11_waysOf _ _ _ _ _ _) (fun _ _ _ => (ih _ _ _ _ _ _ _))))))
theorem dt_wX11_histories_21 : ∀ (d : Nat) (M : MM) (tl : Int64) (v1 : Int32) (v2 : Int64) (v4 : Int32), DET3 (fun p => wX11_histories_21 p d M tl v1 v2 v4) := by
  intro d
  induction d with
  | zero => intro M tl v1 v2 v4; exact dt3_no
  | succ d ih =>
    intro M tl v1 v2 v4
    unfold wX11_histories_21
    exact (dt3_if dt3_post (dt3_call3 (dt_wpX11_isTold _ _ _) (fun _ _ _ => (dt3_if (dt_wX11_histories_89 (fun _ _ _ _ _ => ih _ _ _ _ _) _ _ _ _ _) (dt3_ex (fun _ => dt_wX11_histories_45 (fun _ _ _ _ _ => ih _ _ _ _ _) _ _ _ _ _ _ _ _))))))
theorem dt_wpX11_histories (M : MM) (tl : Int64) (v1 : Int32) : DET3 (fun p => wpX11_histories p M tl v1) := by
  unfold wpX11_histories
  exact (dt3_call3 (dt_wpX11_in _ _ _ _ _) (fun _ _ _ => (dt3_if dt3_post (dt3_ex (fun _ => dt_wX11_histories_21  _ _ _ _ _ _)))))
theorem dt_wX11_began_186 (M : MM) (tl : Int64) (v4 : Int32) (v5 : Int32) : DET3 (fun p => wX11_began_186 p M tl v4 v5) := by
  unfold wX11_began_186
  exact (dt3_if dt3_post (dt3_if dt3_post dt3_post))
theorem dt_wX11_began_144 {bk63 : (Int32 → MM → Int64 → Prop) → MM → Int64 → Int32 → Int32 → Int32 → Int32 → Int32 → Int32 → Int32 → Int32 → Prop} (hbk63 : ∀ x0 x1 x2 x3 x4 x5 x6 x7 x8 x9, DET3 (fun p => bk63 p x0 x1 x2 x3 x4 x5 x6 x7 x8 x9)) (M : MM) (tl : Int64) (v1 : Int32) (v2 : Int32) (v3 : Int32) (v4 : Int32) (v5 : Int32) (v6 : Int32) (v8 : Int32) (s0 : Int32) : DET3 (fun p => wX11_began_144 p (bk63 p) M tl v1 v2 v3 v4 v5 v6 v8 s0) := by
  unfold wX11_began_144
  exact (hbk63 _ _ _ _ _ _ _ _ _ _)
theorem dt_wX11_began_127 {bk63 : (Int32 → MM → Int64 → Prop) → MM → Int64 → Int32 → Int32 → Int32 → Int32 → Int32 → Int32 → Int32 → Int32 → Prop} (hbk63 : ∀ x0 x1 x2 x3 x4 x5 x6 x7 x8 x9, DET3 (fun p => bk63 p x0 x1 x2 x3 x4 x5 x6 x7 x8 x9)) (M : MM) (tl : Int64) (v1 : Int32) (v2 : Int32) (v3 : Int32) (v4 : Int32) (v5 : Int32) (v7 : Int32) (v8 : Int32) (v9 : Int32) (v10 : Int32) (s0 : Int32) : DET3 (fun p => wX11_began_127 p (bk63 p) M tl v1 v2 v3 v4 v5 v7 v8 v9 v10 s0) := by
  unfold wX11_began_127
  exact (dt3_if (dt_wX11_began_144 (fun _ _ _ _ _ _ _ _ _ _ => hbk63 _ _ _ _ _ _ _ _ _ _) _ _ _ _ _ _ _ _ _ _) (dt_wX11_began_144 (fun _ _ _ _ _ _ _ _ _ _ => hbk63 _ _ _ _ _ _ _ _ _ _) _ _ _ _ _ _ _ _ _ _))
theorem dt_wX11_began_125 {bk63 : (Int32 → MM → Int64 → Prop) → MM → Int64 → Int32 → Int32 → Int32 → Int32 → Int32 → Int32 → Int32 → Int32 → Prop} (hbk63 : ∀ x0 x1 x2 x3 x4 x5 x6 x7 x8 x9, DET3 (fun p => bk63 p x0 x1 x2 x3 x4 x5 x6 x7 x8 x9)) (M : MM) (tl : Int64) (v1 : Int32) (v2 : Int32) (v3 : Int32) (v4 : Int32) (v5 : Int32) (v6 : Int32) (v7 : Int32) (v8 : Int32) (v9 : Int32) (v10 : Int32) : DET3 (fun p => wX11_began_125 p (bk63 p) M tl v1 v2 v3 v4 v5 v6 v7 v8 v9 v10) := by
  unfold wX11_began_125
  exact (dt_wX11_began_127 (fun _ _ _ _ _ _ _ _ _ _ => hbk63 _ _ _ _ _ _ _ _ _ _) _ _ _ _ _ _ _ _ _ _ _ _)
theorem dt_wX11_began_63 : ∀ (d : Nat) (M : MM) (tl : Int64) (v1 : Int32) (v2 : Int32) (v3 : Int32) (v4 : Int32) (v5 : Int32) (v6 : Int32) (v7 : Int32) (v8 : Int32), DET3 (fun p => wX11_began_63 p d M tl v1 v2 v3 v4 v5 v6 v7 v8) := by
  intro d
  induction d with
  | zero => intro M tl v1 v2 v3 v4 v5 v6 v7 v8; exact dt3_no
  | succ d ih =>
    intro M tl v1 v2 v3 v4 v5 v6 v7 v8
    unfold wX11_began_63
    exact (dt3_if (dt3_if dt3_post (dt3_if dt3_post (dt3_if (dt_wX11_began_186  _ _ _ _) (dt3_if dt3_post (dt_wX11_began_186  _ _ _ _))))) (dt3_call3 (dt_wpX11_waysOf _ _ _ _ _ _) (fun _ _ _ => (dt3_call3 (dt_wpX11_waysOf _ _ _ _ _ _) (fun _ _ _ => (dt3_if (dt3_if (dt_wX11_began_125 (fun _ _ _ _ _ _ _ _ _ _ => ih _ _ _ _ _ _ _ _ _ _) _ _ _ _ _ _ _ _ _ _ _ _) (dt_wX11_began_127 (fun _ _ _ _ _ _ _ _ _ _ => ih _ _ _ _ _ _ _ _ _ _) _ _ _ _ _ _ _ _ _ _ _ _)) (dt_wX11_began_125 (fun _ _ _ _ _ _ _ _ _ _ => ih _ _ _ _ _ _ _ _ _ _) _ _ _ _ _ _ _ _ _ _ _ _)))))))
theorem dt_wpX11_began (M : MM) (tl : Int64) (v1 : Int32) (v2 : Int32) (v3 : Int32) : DET3 (fun p => wpX11_began p M tl v1 v2 v3) := by
  unfold wpX11_began
  exact (dt3_call3 (dt_wpX11_isLot _ _ _ _) (fun _ _ _ => (dt3_if dt3_post (dt3_call3 (dt_wpX11_in _ _ _ _ _) (fun _ _ _ => (dt3_if dt3_post (dt3_call3 (dt_wpX11_in _ _ _ _ _) (fun _ _ _ => (dt3_if dt3_post (dt3_call3 (dt_wpX11_isTold _ _ _) (fun _ _ _ => (dt3_if dt3_post (dt3_ex (fun _ => dt_wX11_began_63  _ _ _ _ _ _ _ _ _ _ _))))))))))))))
theorem dt_wX11_copies_2 : ∀ (d : Nat) (M : MM) (tl : Int64) (v1 : Int32) (v2 : Int32) (v3 : Int32), DET2 (fun p => wX11_copies_2 p d M tl v1 v2 v3) := by
  intro d
  induction d with
  | zero => intro M tl v1 v2 v3; exact dt2_no
  | succ d ih =>
    intro M tl v1 v2 v3
    unfold wX11_copies_2
    exact (dt2_if dt2_post (dt2_and (dt2_and (dt2_all (fun _ => (ih _ _ _ _ _))))))
theorem dt_wpX11_copies (M : MM) (tl : Int64) (v1 : Int32) (v2 : Int32) : DET2 (fun p => wpX11_copies p M tl v1 v2) := by
  unfold wpX11_copies
  exact (dt2_ex (fun _ => dt_wX11_copies_2  _ _ _ _ _ _))
theorem dt_wpX11_keep (M : MM) (tl : Int64) (v1 : Int32) : DET3 (fun p => wpX11_keep p M tl v1) := by
  unfold wpX11_keep
  exact (dt3_call3 (dt_wpX11_in _ _ _ _ _) (fun _ _ _ => (dt3_if dt3_post (dt3_and (dt3_call3 (dt_wpX11_flag _ _ _) (fun _ _ _ => (dt3_and (dt3_all (fun _ => (dt3_call2 (dt_wpX11_copies _ _ _ _) (fun _ _ => dt3_post)))))))))))
theorem dt_wX11_thingMany_25 {bk4 : (Int32 → MM → Int64 → Prop) → MM → Int64 → Int32 → Int32 → Prop} (hbk4 : ∀ x0 x1 x2 x3, DET3 (fun p => bk4 p x0 x1 x2 x3)) (M : MM) (tl : Int64) (v2 : Int32) (s0 : Int32) (s1 : Int32) : DET3 (fun p => wX11_thingMany_25 p (bk4 p) M tl v2 s0 s1) := by
  unfold wX11_thingMany_25
  exact (dt3_call3 (dt_wpX11_flag _ _ _) (fun _ _ _ => (hbk4 _ _ _ _)))
theorem dt_wX11_thingMany_4 : ∀ (d : Nat) (M : MM) (tl : Int64) (v1 : Int32) (v2 : Int32), DET3 (fun p => wX11_thingMany_4 p d M tl v1 v2) := by
  intro d
  induction d with
  | zero => intro M tl v1 v2; exact dt3_no
  | succ d ih =>
    intro M tl v1 v2
    unfold wX11_thingMany_4
    exact (dt3_if dt3_post (dt3_and (dt3_if (dt_wX11_thingMany_25 (fun _ _ _ _ => ih _ _ _ _) _ _ _ _ _) (dt_wX11_thingMany_25 (fun _ _ _ _ => ih _ _ _ _) _ _ _ _ _))))
theorem dt_wpX11_thingMany (M : MM) (tl : Int64) : DET3 (fun p => wpX11_thingMany p M tl ) := by
  unfold wpX11_thingMany
  exact (dt3_ex (fun _ => dt_wX11_thingMany_4  _ _ _ _ _))
theorem dt_wpX11_back (M : MM) (tl : Int64) (v1 : Int32) : DET3 (fun p => wpX11_back p M tl v1) := by
  unfold wpX11_back
  exact (dt3_call3 (dt_wpX11_in _ _ _ _ _) (fun _ _ _ => (dt3_if dt3_post (dt3_and (dt3_if dt3_post (dt3_call2 (dt_wpX11_copies _ _ _ _) (fun _ _ => (dt3_call3 (dt_wpX11_thingMany _ _) (fun _ _ _ => dt3_post)))))))))
theorem dt_wpX11_isSheet (M : MM) (tl : Int64) (v0 : Int32) (v1 : Int32) : DET3 (fun p => wpX11_isSheet p M tl v0 v1) := by
  unfold wpX11_isSheet
  exact (dt3_call3 (dt_wpX11_in _ _ _ _ _) (fun _ _ _ => (dt3_if dt3_post (dt3_call3 (dt_wpX11_in _ _ _ _ _) (fun _ _ _ => (dt3_if dt3_post dt3_post))))))
theorem dt_wX11_read_214 : ∀ (d : Nat) (M : MM) (tl : Int64) (v1 : Int32) (v3 : Int32) (v6 : Int32) (v7 : Int32), DET3 (fun p => wX11_read_214 p d M tl v1 v3 v6 v7) := by
  intro d
  induction d with
  | zero => intro M tl v1 v3 v6 v7; exact dt3_no
  | succ d ih =>
    intro M tl v1 v3 v6 v7
    unfold wX11_read_214
    exact (dt3_if dt3_post (dt3_and (dt3_and (dt3_and (dt3_and (dt3_all (fun _ => (ih _ _ _ _ _ _))))))))
theorem dt_wX11_read_205 (M : MM) (tl : Int64) (v1 : Int32) (v3 : Int32) (v5 : Int32) (v6 : Int32) : DET3 (fun p => wX11_read_205 p M tl v1 v3 v5 v6) := by
  unfold wX11_read_205
  exact (dt3_all (fun _ => (dt3_ex (fun _ => dt_wX11_read_214  _ _ _ _ _ _ _))))
theorem dt_wX11_read_199 {bk32 : (Int32 → MM → Int64 → Prop) → MM → Int64 → Int32 → Int32 → Int32 → Int32 → Int32 → Int32 → Int32 → Prop} (hbk32 : ∀ x0 x1 x2 x3 x4 x5 x6 x7 x8, DET3 (fun p => bk32 p x0 x1 x2 x3 x4 x5 x6 x7 x8)) (M : MM) (tl : Int64) (v1 : Int32) (v2 : Int32) (v3 : Int32) (v4 : Int32) (v5 : Int32) (v6 : Int32) (v7 : Int32) : DET3 (fun p => wX11_read_199 p (bk32 p) M tl v1 v2 v3 v4 v5 v6 v7) := by
  unfold wX11_read_199
  exact (hbk32 _ _ _ _ _ _ _ _ _)
theorem dt_wX11_read_134 {bk32 : (Int32 → MM → Int64 → Prop) → MM → Int64 → Int32 → Int32 → Int32 → Int32 → Int32 → Int32 → Int32 → Prop} (hbk32 : ∀ x0 x1 x2 x3 x4 x5 x6 x7 x8, DET3 (fun p => bk32 p x0 x1 x2 x3 x4 x5 x6 x7 x8)) (M : MM) (tl : Int64) (v1 : Int32) (v2 : Int32) (v3 : Int32) (v4 : Int32) (v5 : Int32) (v6 : Int32) (v7 : Int32) : DET3 (fun p => wX11_read_134 p (bk32 p) M tl v1 v2 v3 v4 v5 v6 v7) := by
  unfold wX11_read_134
  exact (dt3_if (dt3_and (dt3_and (dt3_call3 (dt_wpX11_isLot _ _ _ _) (fun _ _ _ => (dt3_if dt3_post (dt3_and (dt3_call3 (dt_wpX11_isThing _ _ _) (fun _ _ _ => (dt3_if dt3_post (dt_wX11_read_199 (fun _ _ _ _ _ _ _ _ _ => hbk32 _ _ _ _ _ _ _ _ _) _ _ _ _ _ _ _ _ _)))))))))) (dt_wX11_read_199 (fun _ _ _ _ _ _ _ _ _ => hbk32 _ _ _ _ _ _ _ _ _) _ _ _ _ _ _ _ _ _))
theorem dt_wX11_read_126 {bk32 : (Int32 → MM → Int64 → Prop) → MM → Int64 → Int32 → Int32 → Int32 → Int32 → Int32 → Int32 → Int32 → Prop} (hbk32 : ∀ x0 x1 x2 x3 x4 x5 x6 x7 x8, DET3 (fun p => bk32 p x0 x1 x2 x3 x4 x5 x6 x7 x8)) {bk47 : (Int32 → MM → Int64 → Prop) → MM → Int64 → Int32 → Int32 → Int32 → Int32 → Int32 → Int32 → Int32 → Int32 → Prop} (hbk47 : ∀ x0 x1 x2 x3 x4 x5 x6 x7 x8 x9, DET3 (fun p => bk47 p x0 x1 x2 x3 x4 x5 x6 x7 x8 x9)) (M : MM) (tl : Int64) (v1 : Int32) (v2 : Int32) (v3 : Int32) (v4 : Int32) (v6 : Int32) (v7 : Int32) (v8 : Int32) (s0 : Int32) : DET3 (fun p => wX11_read_126 p (bk32 p) (bk47 p) M tl v1 v2 v3 v4 v6 v7 v8 s0) := by
  unfold wX11_read_126
  exact (hbk47 _ _ _ _ _ _ _ _ _ _)
theorem dt_wX11_read_121 {bk32 : (Int32 → MM → Int64 → Prop) → MM → Int64 → Int32 → Int32 → Int32 → Int32 → Int32 → Int32 → Int32 → Prop} (hbk32 : ∀ x0 x1 x2 x3 x4 x5 x6 x7 x8, DET3 (fun p => bk32 p x0 x1 x2 x3 x4 x5 x6 x7 x8)) {bk47 : (Int32 → MM → Int64 → Prop) → MM → Int64 → Int32 → Int32 → Int32 → Int32 → Int32 → Int32 → Int32 → Int32 → Prop} (hbk47 : ∀ x0 x1 x2 x3 x4 x5 x6 x7 x8 x9, DET3 (fun p => bk47 p x0 x1 x2 x3 x4 x5 x6 x7 x8 x9)) (M : MM) (tl : Int64) (v1 : Int32) (v2 : Int32) (v3 : Int32) (v4 : Int32) (v6 : Int32) (v7 : Int32) (v8 : Int32) : DET3 (fun p => wX11_read_121 p (bk32 p) (bk47 p) M tl v1 v2 v3 v4 v6 v7 v8) := by
  unfold wX11_read_121
  exact (dt_wX11_read_126 (fun _ _ _ _ _ _ _ _ _ => hbk32 _ _ _ _ _ _ _ _ _) (fun _ _ _ _ _ _ _ _ _ _ => hbk47 _ _ _ _ _ _ _ _ _ _) _ _ _ _ _ _ _ _ _ _)
theorem dt_wX11_read_47 {bk32 : (Int32 → MM → Int64 → Prop) → MM → Int64 → Int32 → Int32 → Int32 → Int32 → Int32 → Int32 → Int32 → Prop} (hbk32 : ∀ x0 x1 x2 x3 x4 x5 x6 x7 x8, DET3 (fun p => bk32 p x0 x1 x2 x3 x4 x5 x6 x7 x8)) : ∀ (d : Nat) (M : MM) (tl : Int64) (v1 : Int32) (v2 : Int32) (v3 : Int32) (v4 : Int32) (v5 : Int32) (v6 : Int32) (v7 : Int32) (v8 : Int32), DET3 (fun p => wX11_read_47 p (bk32 p) d M tl v1 v2 v3 v4 v5 v6 v7 v8) := by
  intro d
  induction d with
  | zero => intro M tl v1 v2 v3 v4 v5 v6 v7 v8; exact dt3_no
  | succ d ih =>
    intro M tl v1 v2 v3 v4 v5 v6 v7 v8
    unfold wX11_read_47
    exact (dt3_if (dt_wX11_read_134 (fun _ _ _ _ _ _ _ _ _ => hbk32 _ _ _ _ _ _ _ _ _) _ _ _ _ _ _ _ _ _) (dt3_if (dt3_and (dt3_if (dt_wX11_read_126 (fun _ _ _ _ _ _ _ _ _ => hbk32 _ _ _ _ _ _ _ _ _) (fun _ _ _ _ _ _ _ _ _ _ => ih _ _ _ _ _ _ _ _ _ _) _ _ _ _ _ _ _ _ _ _) (dt3_and (dt3_if (dt3_if (dt_wX11_read_121 (fun _ _ _ _ _ _ _ _ _ => hbk32 _ _ _ _ _ _ _ _ _) (fun _ _ _ _ _ _ _ _ _ _ => ih _ _ _ _ _ _ _ _ _ _) _ _ _ _ _ _ _ _ _) (dt3_and (dt3_if (dt_wX11_read_126 (fun _ _ _ _ _ _ _ _ _ => hbk32 _ _ _ _ _ _ _ _ _) (fun _ _ _ _ _ _ _ _ _ _ => ih _ _ _ _ _ _ _ _ _ _) _ _ _ _ _ _ _ _ _ _) (dt_wX11_read_121 (fun _ _ _ _ _ _ _ _ _ => hbk32 _ _ _ _ _ _ _ _ _) (fun _ _ _ _ _ _ _ _ _ _ => ih _ _ _ _ _ _ _ _ _ _) _ _ _ _ _ _ _ _ _)))) (dt_wX11_read_126 (fun _ _ _ _ _ _ _ _ _ => hbk32 _ _ _ _ _ _ _ _ _) (fun _ _ _ _ _ _ _ _ _ _ => ih _ _ _ _ _ _ _ _ _ _) _ _ _ _ _ _ _ _ _ _))))) (dt_wX11_read_134 (fun _ _ _ _ _ _ _ _ _ => hbk32 _ _ _ _ _ _ _ _ _) _ _ _ _ _ _ _ _ _)))
theorem dt_wX11_read_32 : ∀ (d : Nat) (M : MM) (tl : Int64) (v1 : Int32) (v2 : Int32) (v3 : Int32) (v4 : Int32) (v5 : Int32) (v6 : Int32) (v7 : Int32), DET3 (fun p => wX11_read_32 p d M tl v1 v2 v3 v4 v5 v6 v7) := by
  intro d
  induction d with
  | zero => intro M tl v1 v2 v3 v4 v5 v6 v7; exact dt3_no
  | succ d ih =>
    intro M tl v1 v2 v3 v4 v5 v6 v7
    unfold wX11_read_32
    exact (dt3_if (dt_wX11_read_205  _ _ _ _ _ _) (dt3_if (dt3_ex (fun _ => dt_wX11_read_47 (fun _ _ _ _ _ _ _ _ _ => ih _ _ _ _ _ _ _ _ _) _ _ _ _ _ _ _ _ _ _ _)) (dt_wX11_read_205  _ _ _ _ _ _)))
theorem dt_wpX11_read (M : MM) (tl : Int64) (v1 : Int32) (v2 : Int32) (v3 : Int32) (v4 : Int32) : DET3 (fun p => wpX11_read p M tl v1 v2 v3 v4) := by
  unfold wpX11_read
  exact (dt3_call3 (dt_wpX11_isSheet _ _ _ _) (fun _ _ _ => (dt3_if dt3_post (dt3_call3 (dt_wpX11_in _ _ _ _ _) (fun _ _ _ => (dt3_if dt3_post (dt3_ex (fun _ => dt_wX11_read_32  _ _ _ _ _ _ _ _ _ _))))))))
theorem dt_wpX11_torn (M : MM) (tl : Int64) : DET3 (fun p => wpX11_torn p M tl ) := by
  unfold wpX11_torn
  exact dt3_post
theorem dt_wX11_count_29 {bk4 : (Int32 → MM → Int64 → Prop) → MM → Int64 → Int32 → Int32 → Int32 → Prop} (hbk4 : ∀ x0 x1 x2 x3 x4, DET3 (fun p => bk4 p x0 x1 x2 x3 x4)) (M : MM) (tl : Int64) (v1 : Int32) (v3 : Int32) (s0 : Int32) (s1 : Int32) : DET3 (fun p => wX11_count_29 p (bk4 p) M tl v1 v3 s0 s1) := by
  unfold wX11_count_29
  exact (dt3_call3 (dt_wpX11_flag _ _ _) (fun _ _ _ => (hbk4 _ _ _ _ _)))
theorem dt_wX11_count_4 : ∀ (d : Nat) (M : MM) (tl : Int64) (v1 : Int32) (v2 : Int32) (v3 : Int32), DET3 (fun p => wX11_count_4 p d M tl v1 v2 v3) := by
  intro d
  induction d with
  | zero => intro M tl v1 v2 v3; exact dt3_no
  | succ d ih =>
    intro M tl v1 v2 v3
    unfold wX11_count_4
    exact (dt3_if (dt3_if (dt3_call3 (dt_wpX11_thingMany _ _) (fun _ _ _ => dt3_post)) (dt3_if dt3_post (dt3_if (dt3_and dt3_post) (dt3_if (dt3_and dt3_post) (dt3_if (dt3_and (dt3_call3 (dt_wpX11_flag _ _ _) (fun _ _ _ => (dt3_and (dt3_call3 (dt_wpX11_flag _ _ _) (fun _ _ _ => dt3_post)))))) (dt3_if dt3_post (dt3_if (dt3_and (dt3_if dt3_post (dt3_and dt3_post))) dt3_post))))))) (dt3_call3 (dt_wpX11_matchOf _ _ _ _) (fun _ _ _ => (dt3_if (dt_wX11_count_29 (fun _ _ _ _ _ => ih _ _ _ _ _) _ _ _ _ _ _) (dt_wX11_count_29 (fun _ _ _ _ _ => ih _ _ _ _ _) _ _ _ _ _ _)))))
theorem dt_wpX11_count (M : MM) (tl : Int64) (v1 : Int32) : DET3 (fun p => wpX11_count p M tl v1) := by
  unfold wpX11_count
  exact (dt3_ex (fun _ => dt_wX11_count_4  _ _ _ _ _ _))
theorem dt_wX4_allLotsAre_57 : ∀ (d : Nat) (M : MM) (tl : Int64) (v1 : Int32), DET3 (fun p => wX4_allLotsAre_57 p d M tl v1) := by
  intro d
  induction d with
  | zero => intro M tl v1; exact dt3_no
  | succ d ih =>
    intro M tl v1
    unfold wX4_allLotsAre_57
    exact (dt3_if dt3_post (dt3_call3 (dt_wpX5_cell _ _ _ _ _) (fun _ _ _ => (dt3_if (ih _ _ _) dt3_post))))
theorem dt_wX4_allLotsAre_15 {bk2 : (Int32 → MM → Int64 → Prop) → MM → Int64 → Int32 → Prop} (hbk2 : ∀ x0 x1 x2, DET3 (fun p => bk2 p x0 x1 x2)) : ∀ (d : Nat) (M : MM) (tl : Int64) (v1 : Int32) (v2 : Int32), DET3 (fun p => wX4_allLotsAre_15 p (bk2 p) d M tl v1 v2) := by
  intro d
  induction d with
  | zero => intro M tl v1 v2; exact dt3_no
  | succ d ih =>
    intro M tl v1 v2
    unfold wX4_allLotsAre_15
    exact (dt3_if (hbk2 _ _ _) (dt3_call3 (dt_wpX10_slot _ _ _ _) (fun _ _ _ => (dt3_if (ih _ _ _ _) dt3_post))))
theorem dt_wX4_allLotsAre_2 : ∀ (d : Nat) (M : MM) (tl : Int64) (v1 : Int32), DET3 (fun p => wX4_allLotsAre_2 p d M tl v1) := by
  intro d
  induction d with
  | zero => intro M tl v1; exact dt3_no
  | succ d ih =>
    intro M tl v1
    unfold wX4_allLotsAre_2
    exact (dt3_if (dt3_ex (fun _ => dt_wX4_allLotsAre_57  _ _ _ _)) (dt3_ex (fun _ => dt_wX4_allLotsAre_15 (fun _ _ _ => ih _ _ _) _ _ _ _ _)))
theorem dt_wpX4_allLotsAre (M : MM) (tl : Int64) : DET3 (fun p => wpX4_allLotsAre p M tl ) := by
  unfold wpX4_allLotsAre
  exact (dt3_ex (fun _ => dt_wX4_allLotsAre_2  _ _ _ _))
theorem dt_wX1_copyFrom_91 : ∀ (d : Nat) (M : MM) (tl : Int64) (v0 : Nat) (v1 : Nat) (v2 : Int32), DET2 (fun p => wX1_copyFrom_91 p d M tl v0 v1 v2) := by
  intro d
  induction d with
  | zero => intro M tl v0 v1 v2; exact dt2_no
  | succ d ih =>
    intro M tl v0 v1 v2
    unfold wX1_copyFrom_91
    exact (dt2_if dt2_post (dt2_and (dt2_and (dt2_and (dt2_and (dt2_and (dt2_and (dt2_and (dt2_and (dt2_and (dt2_and (dt2_all (fun _ => (dt2_and (dt2_and (dt2_and (dt2_and (dt2_and (dt2_and (dt2_and (dt2_and (dt2_and (dt2_and (dt2_all (fun _ => (ih _ _ _ _ _))))))))))))))))))))))))))
theorem dt_wpX1_copyFrom (M : MM) (tl : Int64) (v0 : Nat) (v1 : Nat) : DET2 (fun p => wpX1_copyFrom p M tl v0 v1) := by
  unfold wpX1_copyFrom
  exact (dt2_and (dt2_and (dt2_all (fun _ => (dt2_and (dt2_and (dt2_all (fun _ => (dt2_and (dt2_and (dt2_all (fun _ => (dt2_and (dt2_and (dt2_all (fun _ => (dt2_and (dt2_and (dt2_and (dt2_and (dt2_and (dt2_and (dt2_all (fun _ => (dt2_and (dt2_and (dt2_and (dt2_and (dt2_and (dt2_and (dt2_all (fun _ => (dt2_and (dt2_and (dt2_and (dt2_and (dt2_and (dt2_and (dt2_all (fun _ => (dt2_and (dt2_and (dt2_and (dt2_and (dt2_and (dt2_and (dt2_all (fun _ => (dt2_ex (fun _ => dt_wX1_copyFrom_91  _ _ _ _ _ _))))))))))))))))))))))))))))))))))))))))))))))))))
theorem dt_wX11_keepDraft_173 : ∀ (d : Nat) (M : MM) (tl : Int64) (v1 : Int32), DET2 (fun p => wX11_keepDraft_173 p d M tl v1) := by
  intro d
  induction d with
  | zero => intro M tl v1; exact dt2_no
  | succ d ih =>
    intro M tl v1
    unfold wX11_keepDraft_173
    exact (dt2_if (dt2_and (dt2_all (fun _ => (dt2_and (dt2_all (fun _ => dt2_post)))))) (dt2_and (dt2_and (dt2_all (fun _ => (dt2_and (dt2_all (fun _ => (ih _ _ _)))))))))
theorem dt_wX11_keepDraft_120 {bk89 : (MM → Int64 → Prop) → MM → Int64 → Int32 → Prop} (hbk89 : ∀ x0 x1 x2, DET2 (fun p => bk89 p x0 x1 x2)) (M : MM) (tl : Int64) (v1 : Int32) (s1 : Int32) (s2 : Int32) : DET2 (fun p => wX11_keepDraft_120 p (bk89 p) M tl v1 s1 s2) := by
  unfold wX11_keepDraft_120
  exact (dt2_and (dt2_all (fun _ => (dt2_and (dt2_and (dt2_all (fun _ => (hbk89 _ _ _))))))))
theorem dt_wX11_keepDraft_89 : ∀ (d : Nat) (M : MM) (tl : Int64) (v1 : Int32), DET2 (fun p => wX11_keepDraft_89 p d M tl v1) := by
  intro d
  induction d with
  | zero => intro M tl v1; exact dt2_no
  | succ d ih =>
    intro M tl v1
    unfold wX11_keepDraft_89
    exact (dt2_if (dt2_and (dt2_and (dt2_all (fun _ => (dt2_and (dt2_and (dt2_all (fun _ => (dt2_all (fun _ => (dt2_ex (fun _ => dt_wX11_keepDraft_173  _ _ _ _)))))))))))) (dt2_if (dt_wX11_keepDraft_120 (fun _ _ _ => ih _ _ _) _ _ _ _ _) (dt2_and (dt_wX11_keepDraft_120 (fun _ _ _ => ih _ _ _) _ _ _ _ _))))
theorem dt_wX11_keepDraft_52 : ∀ (d : Nat) (M : MM) (tl : Int64) (v1 : Int32), DET2 (fun p => wX11_keepDraft_52 p d M tl v1) := by
  intro d
  induction d with
  | zero => intro M tl v1; exact dt2_no
  | succ d ih =>
    intro M tl v1
    unfold wX11_keepDraft_52
    exact (dt2_if (dt2_ex (fun _ => dt_wX11_keepDraft_89  _ _ _ _)) (dt2_and (dt2_and (dt2_all (fun _ => (dt2_and (dt2_and (dt2_all (fun _ => (ih _ _ _))))))))))
theorem dt_wX11_keepDraft_2 : ∀ (d : Nat) (M : MM) (tl : Int64) (v1 : Int32), DET2 (fun p => wX11_keepDraft_2 p d M tl v1) := by
  intro d
  induction d with
  | zero => intro M tl v1; exact dt2_no
  | succ d ih =>
    intro M tl v1
    unfold wX11_keepDraft_2
    exact (dt2_if (dt2_all (fun _ => (dt2_all (fun _ => (dt2_all (fun _ => (dt2_ex (fun _ => dt_wX11_keepDraft_52  _ _ _ _)))))))) (dt2_and (dt2_and (dt2_all (fun _ => (ih _ _ _))))))
theorem dt_wpX11_keepDraft (M : MM) (tl : Int64) : DET2 (fun p => wpX11_keepDraft p M tl ) := by
  unfold wpX11_keepDraft
  exact (dt2_ex (fun _ => dt_wX11_keepDraft_2  _ _ _ _))
