/-! ===== where the grid isn't well there is a closed walk that is wrong ===== -/
theorem layC_keep {x : Gd} (hx : Gok x) : ∀ c, c ≤ x.1.2.1 → (layC x c).1.2.1 = (layR x x.1.1).1.2.1 ∧ ∀ k, (layR x x.1.1).1.1.2 k ≠ 0 → (layC x c).1.1.2 k = (layR x x.1.1).1.1.2 k ∧ (layC x c).1.2.2 k = (layR x x.1.1).1.2.2 k := by
  refine layC_ind hx (J := fun s _ => s.2.1 = (layR x x.1.1).1.2.1 ∧ ∀ k, (layR x x.1.1).1.1.2 k ≠ 0 → s.1.2 k = (layR x x.1.1).1.1.2 k ∧ s.2.2 k = (layR x x.1.1).1.2.2 k) ⟨rfl, fun _ _ => ⟨rfl, rfl⟩⟩ (fun s n c hc ht hk hk2 h0 hle hJ => ⟨hJ.1, fun k hz => ?_⟩)
  have h := hJ.2 k hz
  have ek : k ≠ c := fun e => hz (by rw [← h.1, e]; exact h0)
  exact ⟨(up_off ek).trans h.1, (up_off ek).trans h.2⟩
theorem qt_eqm {x : Gd} (hx : Gok x) {a b : Nat} (ha : a < x.1.2.2) (ha0 : a ≠ 0) (hb : 1 ≤ b ∧ b < x.1.2.2) : eqm x.1.2.2 (qt x.1.2.2 a b * b) a := by
  have h1 := hx.2.2.1.le
  have h := (qt_ok x.1.2.2 (by omega) hx.2.2.1 a ha b hb.2 ha0 (by omega)).2
  exact h.trans (Nat.mod_eq_of_lt ha).symm
theorem td_pos {x : Gd} {r c : Nat} (h : td x r c = true) : at' x r c ≠ 0 := by have := of_decide_eq_true h; omega
theorem lay_walk {x : Gd} (hx : Gok x) : ∃ ld : Nat → Nat, (∀ r, r < x.1.1 → (layR x x.1.1).1.1.1 r ≠ 0 → ∃ L, wV x L r ∧ wh L r = ld ((layR x x.1.1).1.1.1 r) ∧ eqm x.1.2.2 ((layR x x.1.1).1.2.1 r * wM x L) (wN x L r)) ∧
    (∀ c, c < x.1.2.1 → (layR x x.1.1).1.1.2 c ≠ 0 → ∃ r, r < x.1.1 ∧ ((layR x x.1.1).1.1.1 r ≠ 0 ∧ (layR x x.1.1).1.1.1 r = (layR x x.1.1).1.1.2 c) ∧ td x r c = true ∧ eqm x.1.2.2 (at' x r c) ((layR x x.1.1).1.2.1 r * (layR x x.1.1).1.2.2 c)) := by
  refine layR_ind hx (J := fun s n => ∃ ld : Nat → Nat, (∀ r, r < x.1.1 → s.1.1 r ≠ 0 → ∃ L, wV x L r ∧ wh L r = ld (s.1.1 r) ∧ eqm x.1.2.2 (s.2.1 r * wM x L) (wN x L r)) ∧
    (∀ c, c < x.1.2.1 → s.1.2 c ≠ 0 → ∃ r, r < x.1.1 ∧ (s.1.1 r ≠ 0 ∧ s.1.1 r = s.1.2 c) ∧ td x r c = true ∧ eqm x.1.2.2 (at' x r c) (s.2.1 r * s.2.2 c))) ⟨fun _ => 0, fun _ _ h => absurd rfl h, fun _ _ h => absurd rfl h⟩
    (fun s n r c hr hc hn hi hJ => ?_) (fun s n r hr hk0 h0 hi hcl hJ => ?_) _ (Nat.le_refl _)
  · obtain ⟨ld, h1, h2⟩ := hJ
    rcases psStep_cases hr hc hi with e | ⟨⟨t, p0, p1, q0⟩, e⟩ | ⟨⟨t, p0, q0, q1⟩, e⟩
    · rw [e]; exact ⟨ld, h1, h2⟩
    · rw [e]
      refine ⟨ld, h1, fun k hk hz => ?_⟩
      have hz : up s.1.2 c n k ≠ 0 := hz
      show ∃ r', r' < x.1.1 ∧ (s.1.1 r' ≠ 0 ∧ s.1.1 r' = up s.1.2 c n k) ∧ td x r' k = true ∧ eqm x.1.2.2 (at' x r' k) (s.2.1 r' * up s.2.2 c (qt x.1.2.2 (at' x r c) (s.2.1 r)) k)
      by_cases ek : k = c
      · subst ek
        rw [up_at, up_at]
        refine ⟨r, hr, ⟨p0, p1⟩, t, ?_⟩
        have := (qt_eqm hx (hx.lt r k) (td_pos t) (hi.2.1.1 r p0)).sy
        rw [Nat.mul_comm] at this
        exact this
      · rw [up_off ek] at hz ⊢
        rw [up_off ek]
        exact h2 k hk hz
    · rw [e]
      obtain ⟨r1, g1, ⟨g2, g3⟩, g4, g5⟩ := h2 c hc q0
      obtain ⟨L, l1, l2, l3⟩ := h1 r1 g1 g2
      refine ⟨ld, fun k hk hz => ?_, fun k hk hz => ?_⟩
      · have hz : up s.1.1 r n k ≠ 0 := hz
        show ∃ L, wV x L k ∧ wh L k = ld (up s.1.1 r n k) ∧ eqm x.1.2.2 (up s.2.1 r (qt x.1.2.2 (at' x r c) (s.2.2 c)) k * wM x L) (wN x L k)
        by_cases ek : k = r
        · subst ek
          rw [up_at, up_at]
          have hq := qt_eqm hx (hx.lt k c) (td_pos t) (hi.2.1.2 c q0)
          refine ⟨L ++ [(r1, c)], (wV_app _ _ _).mpr ⟨l1, ⟨⟨g1, hc⟩, g4, t⟩, trivial⟩, ?_, ?_⟩
          · rw [wh_snoc, l2, g3, q1]
          · rw [wM_app, wN_app]
            show eqm _ (qt x.1.2.2 (at' x k c) (s.2.2 c) * (wM x L * (at' x r1 c * 1))) (wN x L r1 * (at' x k c * 1))
            rw [Nat.mul_one, Nat.mul_one]
            refine eqm.tr ((eqm.rf _ _).mul ((eqm.rf _ (wM x L)).mul g5)) ?_
            refine (eqm.of ?_).tr (l3.mul hq)
            ac_rfl
        · rw [up_off ek] at hz ⊢
          rw [up_off ek]
          exact h1 k hk hz
      · obtain ⟨r2, f1, ⟨f2, f3⟩, f4, f5⟩ := h2 k hk hz
        have e2 : r2 ≠ r := fun z => f2 (by rw [z]; exact p0)
        refine ⟨r2, f1, ?_, f4, ?_⟩
        · show up s.1.1 r n r2 ≠ 0 ∧ up s.1.1 r n r2 = s.1.2 k
          rw [up_off e2]; exact ⟨f2, f3⟩
        · show eqm _ _ (up s.2.1 r _ r2 * s.2.2 k)
          rw [up_off e2]; exact f5
  · obtain ⟨ld, h1, h2⟩ := hJ
    refine ⟨up ld (n + 1) r, fun k hk hz => ?_, fun k hk hz => ?_⟩
    · have hz : up s.1.1 r (n + 1) k ≠ 0 := hz
      show ∃ L, wV x L k ∧ wh L k = up ld (n + 1) r (up s.1.1 r (n + 1) k) ∧ eqm x.1.2.2 (up s.2.1 r 1 k * wM x L) (wN x L k)
      by_cases ek : k = r
      · subst ek
        rw [up_at, up_at, up_at]
        exact ⟨[], trivial, rfl, eqm.rf _ _⟩
      · rw [up_off ek] at hz ⊢
        rw [up_off ek, up_off (by have := (hi.2.2 k).1; omega)]
        exact h1 k hk hz
    · obtain ⟨r2, f1, ⟨f2, f3⟩, f4, f5⟩ := h2 k hk hz
      have e2 : r2 ≠ r := fun z => f2 (by rw [z]; exact h0)
      refine ⟨r2, f1, ?_, f4, ?_⟩
      · show up s.1.1 r (n + 1) r2 ≠ 0 ∧ up s.1.1 r (n + 1) r2 = s.1.2 k
        rw [up_off e2]; exact ⟨f2, f3⟩
      · show eqm _ _ (up s.2.1 r _ r2 * s.2.2 k)
        rw [up_off e2]; exact f5
theorem well_no {x : Gd} (h : wellX x = false) : ∃ r c, r < x.1.1 ∧ c < x.1.2.1 ∧ td x r c = true ∧ at' x r c ≠ lu x r * lv' x c % x.1.2.2 := by
  refine Classical.byContradiction fun z => ?_
  have : wellX x = true := by
    unfold wellX psWell
    rw [al_iff]
    intro r hr
    rw [al_iff]
    intro c hc
    cases ht : td x r c with
    | false => rfl
    | true =>
      refine decide_eq_true (Classical.byContradiction fun e => z ⟨r, c, hr, hc, ht, e⟩)
  rw [h] at this
  cases this
theorem wM_nz {x : Gd} (hx : Gok x) {L : List (Nat × Nat)} : ∀ {e : Nat}, wV x L e → wM x L % x.1.2.2 ≠ 0 := by
  have h1 := hx.2.2.1.le
  induction L with
  | nil =>
    intro e _
    exact nz_lt (a := 1) (Nat.le_refl 1) (by omega)
  | cons q t ih =>
    intro e h
    exact nz_mul hx.2.2.1 (nz_lt (by have := td_pos h.1.2.1; omega) (hx.lt _ _)) (ih h.2)
def Wrong (x : Gd) (L : List (Nat × Nat)) : Prop := wV x L (wh L 0) ∧ ¬ eqm x.1.2.2 (wM x L) (wN x L (wh L 0))
theorem wh_ne {L : List (Nat × Nat)} (h : L ≠ []) (a b : Nat) : wh L a = wh L b := by
  cases L with
  | nil => exact absurd rfl h
  | cons q t => rfl
theorem wrong_walk {x : Gd} (hx : Gok x) (h : wellX x = false) : ∃ L, Wrong x L := by
  obtain ⟨r0, c0, hr0, hc0, ht, hne⟩ := well_no h
  obtain ⟨ld, W1, W2⟩ := lay_walk hx
  obtain ⟨i1, i2, i3, i4, i5⟩ := layR_ok hx x.1.1 (Nat.le_refl _)
  have p0 := i3 r0 hr0
  have q0 : (layR x x.1.1).1.1.2 c0 ≠ 0 := fun z => p0 ((i2 r0 c0 hr0 hc0 ht).mpr z)
  have pq := (i1.1 r0 c0 hr0 hc0 ht).1 p0 q0
  obtain ⟨k1, k2⟩ := layC_keep hx x.1.2.1 (Nat.le_refl _)
  have ku : ∀ r, lu x r = (layR x x.1.1).1.2.1 r := fun r => congrFun k1 r
  have kv : lv' x c0 = (layR x x.1.1).1.2.2 c0 := (k2 c0 q0).2
  obtain ⟨r1, g1, ⟨g2, g3⟩, g4, g5⟩ := W2 c0 hc0 q0
  obtain ⟨L0, a1, a2, a3⟩ := W1 r0 hr0 p0
  obtain ⟨L1, b1, b2, b3⟩ := W1 r1 g1 g2
  rw [← ku] at a3 b3 g5
  rw [← kv] at g5
  have hh : wh L0 r0 = wh L1 r1 := by rw [a2, b2, pq, g3]
  have hZ0 : wh (L1 ++ (r1, c0) :: wR L0 r0) 0 = wh L0 r0 := by rw [wh_app]; exact hh.symm
  refine ⟨L1 ++ (r1, c0) :: wR L0 r0, ?_, ?_⟩
  · rw [hZ0]
    refine (wV_app _ _ _).mpr ⟨b1, ⟨⟨g1, hc0⟩, g4, ?_⟩, wV_R L0 r0 hr0 a1⟩
    rw [wh_R]; exact ht
  · rw [hZ0, wM_app, wN_app]
    show ¬ eqm _ (wM x L1 * (at' x r1 c0 * wM x (wR L0 r0))) (wN x L1 r1 * (at' x (wh (wR L0 r0) (wh L0 r0)) c0 * wN x (wR L0 r0) (wh L0 r0)))
    rw [wM_R, wN_R, wh_R]
    intro e
    refine hne ?_
    have e2 : eqm x.1.2.2 (at' x r0 c0 * (lu x r1 * wM x L1 * wM x L0)) (lu x r0 * lv' x c0 * (lu x r1 * wM x L1 * wM x L0)) := by
      refine eqm.tr (b := wN x L1 r1 * (at' x r0 c0 * wM x L0)) ((eqm.of ?_).tr (b3.mul (eqm.rf _ (at' x r0 c0 * wM x L0)))) (e.sy.tr ?_)
      · ac_rfl
      · refine ((eqm.rf _ (wM x L1)).mul (g5.mul a3.sy)).tr (eqm.of ?_)
        ac_rfl
    have e3 := e2.canc hx.2.2.1 (nz_mul hx.2.2.1 (nz_mul hx.2.2.1 (nz_lt (lu_ok hx g1).1 (lu_ok hx g1).2) (wM_nz hx b1)) (wM_nz hx a1))
    rw [← e3, Nat.mod_eq_of_lt (hx.lt r0 c0)]
