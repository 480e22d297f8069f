/-! ===== parts, pure: part p is told as p + 1, what isn't known yet as 0 ===== -/
abbrev Ps : Type := ((Nat → Nat) × (Nat → Nat)) × ((Nat → Nat) × (Nat → Nat))
theorem up_at {z : Nat → Nat} {p v : Nat} : up z p v p = v := if_pos rfl
theorem up_off {z : Nat → Nat} {p v k : Nat} (n : k ≠ p) : up z p v k = z k := if_neg n
def al : Nat → (Nat → Bool) → Bool
  | 0, _ => true
  | n + 1, p => al n p && p n
theorem al_iff {n : Nat} {p : Nat → Bool} : al n p = true ↔ ∀ k, k < n → p k = true := by
  induction n with
  | zero => exact ⟨fun _ k hk => absurd hk (by omega), fun _ => rfl⟩
  | succ n ih =>
    show (al n p && p n) = true ↔ _
    rw [Bool.and_eq_true, ih]
    constructor
    · intro h k hk
      by_cases e : k = n
      · rw [e]; exact h.2
      · exact h.1 k (by omega)
    · exact fun h => ⟨fun k hk => h k (by omega), h n (by omega)⟩
theorem al_false {n : Nat} {p : Nat → Bool} {k : Nat} (hk : k < n) (h : p k = false) : al n p = false := by
  cases e : al n p with
  | false => rfl
  | true => rw [al_iff.mp e k hk] at h; cases h
theorem al_congr {n : Nat} {p q : Nat → Bool} (h : ∀ k, k < n → p k = q k) : al n p = al n q := by
  induction n with
  | zero => rfl
  | succ n ih =>
    show (al n p && p n) = (al n q && q n)
    rw [ih (fun k hk => h k (by omega)), h n (by omega)]
/-- whether the entry leads from a known row to an unknown column, or back -/
def psCh (x : Gd) (r c : Nat) (s : Ps) : Bool := td x r c && (decide (s.1.1 r = 0) != decide (s.1.2 c = 0))
def psStep (x : Gd) (r c : Nat) (s : Ps) : Ps :=
  if td x r c = true ∧ s.1.1 r ≠ 0 ∧ s.1.2 c = 0 then ((s.1.1, up s.1.2 c (s.1.1 r)), (s.2.1, up s.2.2 c (qt x.1.2.2 (at' x r c) (s.2.1 r))))
  else if td x r c = true ∧ s.1.1 r = 0 ∧ s.1.2 c ≠ 0 then ((up s.1.1 r (s.1.2 c), s.1.2), (up s.2.1 r (qt x.1.2.2 (at' x r c) (s.2.2 c)), s.2.2))
  else s
theorem psStep_no {x : Gd} {r c : Nat} {s : Ps} (h : psCh x r c s = false) : psStep x r c s = s := by
  unfold psCh at h
  unfold psStep
  by_cases h1 : td x r c = true
  · rw [h1] at h
    by_cases h2 : s.1.1 r = 0 <;> by_cases h3 : s.1.2 c = 0 <;> simp [h2, h3] at h ⊢
  · rw [if_neg (fun z => h1 z.1), if_neg (fun z => h1 z.1)]
def rdC (x : Gd) (r : Nat) : Nat → Ps × Bool → Ps × Bool
  | 0, a => a
  | c + 1, a => (psStep x r c (rdC x r c a).1, (rdC x r c a).2 || psCh x r c (rdC x r c a).1)
def rdR (x : Gd) : Nat → Ps × Bool → Ps × Bool
  | 0, a => a
  | r + 1, a => rdC x r x.1.2.1 (rdR x r a)
def rnd (x : Gd) (s : Ps) : Ps × Bool := rdR x x.1.1 (s, false)
def spr (x : Gd) : Nat → Ps → Ps
  | 0, s => s
  | k + 1, s => (rnd x (spr x k s)).1
def spread (x : Gd) (s : Ps) : Ps := spr x 13 s
theorem rdC_no {x : Gd} {r : Nat} {a : Ps × Bool} : ∀ {c : Nat}, (rdC x r c a).2 = false → a.2 = false ∧ (rdC x r c a).1 = a.1 ∧ ∀ k, k < c → psCh x r k a.1 = false := by
  intro c
  induction c with
  | zero => exact fun h => ⟨h, rfl, fun k hk => absurd hk (by omega)⟩
  | succ c ih =>
    intro h
    have h' : ((rdC x r c a).2 || psCh x r c (rdC x r c a).1) = false := h
    rw [Bool.or_eq_false_iff] at h'
    obtain ⟨h1, h2, h3⟩ := ih h'.1
    have h4 : psCh x r c a.1 = false := by rw [← h2]; exact h'.2
    refine ⟨h1, ?_, fun k hk => ?_⟩
    · show psStep x r c (rdC x r c a).1 = a.1
      rw [h2, psStep_no h4]
    · by_cases e : k = c
      · rw [e]; exact h4
      · exact h3 k (by omega)
theorem rdR_no {x : Gd} {a : Ps × Bool} : ∀ {r : Nat}, (rdR x r a).2 = false → a.2 = false ∧ (rdR x r a).1 = a.1 ∧ ∀ i j, i < r → j < x.1.2.1 → psCh x i j a.1 = false := by
  intro r
  induction r with
  | zero => exact fun h => ⟨h, rfl, fun i j hi => absurd hi (by omega)⟩
  | succ r ih =>
    intro h
    obtain ⟨h1, h2, h3⟩ := rdC_no (x := x) (r := r) (a := rdR x r a) (c := x.1.2.1) h
    obtain ⟨g1, g2, g3⟩ := ih h1
    refine ⟨g1, ?_, fun i j hi hj => ?_⟩
    · show (rdC x r x.1.2.1 (rdR x r a)).1 = a.1
      rw [h2, g2]
    · by_cases e : i = r
      · rw [e, ← g2]; exact h3 j hj
      · exact g3 i j (by omega) hj
theorem spr_stop {x : Gd} {s : Ps} {k : Nat} (h : (rnd x (spr x k s)).2 = false) : ∀ j, spr x (k + j) s = spr x k s := by
  intro j
  induction j with
  | zero => rfl
  | succ j ih =>
    show (rnd x (spr x (k + j) s)).1 = _
    rw [ih]
    exact (rdR_no h).2.1
-- how many are unknown
def unk (s : Ps) : Nat := ct 6 (fun k => decide (s.1.1 k = 0)) + ct 6 (fun k => decide (s.1.2 k = 0))
theorem ct_le {n : Nat} {p : Nat → Bool} : ct n p ≤ n := by
  have := sm_le (n := n) (b := 1) (f := fun k => if p k then 1 else 0) (fun k _ => by split <;> omega)
  unfold ct; omega
theorem ct_succ {n : Nat} {p : Nat → Bool} : ct (n + 1) p = ct n p + (if p n then 1 else 0) := rfl
theorem ct_congr {n : Nat} {p q : Nat → Bool} (h : ∀ k, k < n → p k = q k) : ct n p = ct n q := sm_congr fun k hk => by rw [h k hk]
theorem ct_up {n : Nat} {z : Nat → Nat} {p v : Nat} (hp : p < n) (h0 : z p = 0) (hv : v ≠ 0) : ct n (fun k => decide (up z p v k = 0)) + 1 = ct n (fun k => decide (z k = 0)) := by
  induction n with
  | zero => omega
  | succ n ih =>
    rw [ct_succ, ct_succ]
    by_cases e : p = n
    · subst e
      have h1 : ct p (fun k => decide (up z p v k = 0)) = ct p (fun k => decide (z k = 0)) := ct_congr fun k hk => by rw [up_off (by omega)]
      rw [h1, up_at]
      simp [hv, h0]
    · have h1 := ih (by omega)
      rw [up_off (fun z => e z.symm)]
      omega
theorem unk_step {x : Gd} (hx : Gok x) {r c : Nat} {s : Ps} (hr : r < x.1.1) (hc : c < x.1.2.1) : unk (psStep x r c s) + (if psCh x r c s then 1 else 0) = unk s := by
  have hR := hx.1
  have hC := hx.2.1
  by_cases h : psCh x r c s = false
  · rw [psStep_no h, h]; rfl
  · have h : psCh x r c s = true := by simpa using h
    rw [h]
    unfold psCh at h
    rw [Bool.and_eq_true] at h
    obtain ⟨h1, h2⟩ := h
    unfold psStep
    by_cases hr0 : s.1.1 r = 0 <;> by_cases hc0 : s.1.2 c = 0
    · simp [hr0, hc0] at h2
    · rw [if_neg (fun z => z.2.1 hr0), if_pos ⟨h1, hr0, hc0⟩]
      have := ct_up (n := 6) (z := s.1.1) (p := r) (v := s.1.2 c) (by omega) hr0 hc0
      unfold unk
      simp only [if_true]
      omega
    · rw [if_pos ⟨h1, hr0, hc0⟩]
      have := ct_up (n := 6) (z := s.1.2) (p := c) (v := s.1.1 r) (by omega) hc0 hr0
      unfold unk
      simp only [if_true]
      omega
    · simp [hr0, hc0] at h2
theorem unk_rdC {x : Gd} (hx : Gok x) {r : Nat} (hr : r < x.1.1) (a : Ps × Bool) : ∀ c, c ≤ x.1.2.1 → unk (rdC x r c a).1 + (if (rdC x r c a).2 && !a.2 then 1 else 0) ≤ unk a.1 := by
  intro c
  induction c with
  | zero => intro _; show unk a.1 + _ ≤ _; cases h : a.2 <;> simp [rdC, h]
  | succ c ih =>
    intro hc
    have h1 := ih (by omega)
    have h2 := unk_step hx (s := (rdC x r c a).1) hr (show c < x.1.2.1 by omega)
    show unk (psStep x r c (rdC x r c a).1) + (if ((rdC x r c a).2 || psCh x r c (rdC x r c a).1) && !a.2 then 1 else 0) ≤ _
    cases e1 : (rdC x r c a).2 <;> cases e2 : psCh x r c (rdC x r c a).1 <;> cases e3 : a.2 <;> simp only [e1, e2, e3] at h1 h2 ⊢ <;> simp at h1 h2 ⊢ <;> omega
theorem unk_rdR {x : Gd} (hx : Gok x) (a : Ps × Bool) : ∀ r, r ≤ x.1.1 → unk (rdR x r a).1 + (if (rdR x r a).2 && !a.2 then 1 else 0) ≤ unk a.1 := by
  intro r
  induction r with
  | zero => intro _; show unk a.1 + _ ≤ _; cases h : a.2 <;> simp [rdR, h]
  | succ r ih =>
    intro hr
    have h1 := ih (by omega)
    have h2 := unk_rdC hx (r := r) (by omega) (rdR x r a) x.1.2.1 (Nat.le_refl _)
    have h3 : (rdR x (r + 1) a) = rdC x r x.1.2.1 (rdR x r a) := rfl
    rw [h3]
    cases e1 : (rdR x r a).2 <;> cases e2 : (rdC x r x.1.2.1 (rdR x r a)).2 <;> cases e3 : a.2 <;> simp only [e1, e2, e3] at h1 h2 ⊢ <;> simp at h1 h2 ⊢ <;> omega
theorem unk_rnd {x : Gd} (hx : Gok x) (s : Ps) (h : (rnd x s).2 = true) : unk (rnd x s).1 + 1 ≤ unk s := by
  have := unk_rdR hx (s, false) x.1.1 (Nat.le_refl _)
  have h' : (rdR x x.1.1 (s, false)).2 = true := h
  rw [h'] at this
  exact this
theorem spr_end {x : Gd} (hx : Gok x) (s : Ps) : (rnd x (spread x s)).2 = false := by
  have key : ∀ k, (∀ j, j < k → (rnd x (spr x j s)).2 = true) → unk (spr x k s) + k ≤ unk s := by
    intro k
    induction k with
    | zero => intro _; exact Nat.le_refl _
    | succ k ih =>
      intro h
      have h1 := ih (fun j hj => h j (by omega))
      have h2 := unk_rnd hx (spr x k s) (h k (by omega))
      show unk (rnd x (spr x k s)).1 + (k + 1) ≤ _
      omega
  have h12 : unk s ≤ 12 := by
    have h1 := ct_le (n := 6) (p := fun k => decide (s.1.1 k = 0))
    have h2 := ct_le (n := 6) (p := fun k => decide (s.1.2 k = 0))
    unfold unk; omega
  by_cases hall : ∀ j, j < 13 → (rnd x (spr x j s)).2 = true
  · have := key 13 hall
    omega
  · have : ∃ j, j < 13 ∧ (rnd x (spr x j s)).2 = false := by
      apply Classical.byContradiction
      intro hn
      exact hall fun j hj => by
        cases e : (rnd x (spr x j s)).2 with
        | true => rfl
        | false => exact absurd ⟨j, hj, e⟩ hn
    obtain ⟨j, hj, e⟩ := this
    have h1 := spr_stop e (13 - j)
    rw [show j + (13 - j) = 13 by omega] at h1
    show (rnd x (spr x 13 s)).2 = false
    rw [h1]; exact e
-- what holds while part p - 1 grows
def Iv (x : Gd) (p : Nat) (s : Ps) : Prop :=
  (∀ r c, r < x.1.1 → c < x.1.2.1 → td x r c = true → (s.1.1 r ≠ 0 → s.1.2 c ≠ 0 → s.1.1 r = s.1.2 c) ∧ (s.1.1 r ≠ 0 → s.1.2 c = 0 → s.1.1 r = p) ∧ (s.1.1 r = 0 → s.1.2 c ≠ 0 → s.1.2 c = p)) ∧
  ((∀ k, s.1.1 k ≠ 0 → 1 ≤ s.2.1 k ∧ s.2.1 k < x.1.2.2) ∧ (∀ k, s.1.2 k ≠ 0 → 1 ≤ s.2.2 k ∧ s.2.2 k < x.1.2.2)) ∧ (∀ k, s.1.1 k ≤ p ∧ s.1.2 k ≤ p)
theorem qt_ok : ∀ m, m < 14 → Mok m → ∀ a, a < m → ∀ b, b < m → a ≠ 0 → b ≠ 0 → (1 ≤ qt m a b ∧ qt m a b < m) ∧ qt m a b * b % m = a := by
  intro m hm h
  unfold Mok at h
  rcases h with rfl | rfl | rfl | rfl <;> decide +kernel
theorem Iv.step {x : Gd} (hx : Gok x) {p r c : Nat} {s : Ps} (hp : p ≠ 0) (h : Iv x p s) (hr : r < x.1.1) (hc : c < x.1.2.1) : Iv x p (psStep x r c s) := by
  have hM := hx.2.2.1.le
  unfold psStep
  split
  · rename_i h1
    obtain ⟨ht, hr0, hc0⟩ := h1
    obtain ⟨i1, ⟨i2, i3⟩, i4⟩ := h
    have hrp : s.1.1 r = p := (i1 r c hr hc ht).2.1 hr0 hc0
    have hq := qt_ok x.1.2.2 (by omega) hx.2.2.1 (at' x r c) (hx.lt r c) (s.2.1 r) (i2 r hr0).2 (by have := of_decide_eq_true ht; omega) (by have := (i2 r hr0).1; omega)
    refine ⟨fun r' c' hr' hc' ht' => ?_, ⟨i2, fun k hk => ?_⟩, fun k => ⟨(i4 k).1, ?_⟩⟩
    · have := i1 r' c' hr' hc' ht'
      by_cases e : c' = c
      · subst e
        simp only [up_at]
        refine ⟨fun z _ => ?_, fun z z2 => absurd z2 (by rw [hrp]; exact hp), fun _ _ => hrp⟩
        rw [hrp]; exact this.2.1 z hc0
      · simp only [up_off e]
        exact this
    · by_cases e : k = c
      · subst e
        simp only [up_at]
        exact hq.1
      · simp only [up_off e] at hk ⊢
        exact i3 k hk
    · by_cases e : k = c
      · subst e
        simp only [up_at]
        exact (i4 r).1
      · simp only [up_off e]
        exact (i4 k).2
  · split
    · rename_i h1
      obtain ⟨ht, hr0, hc0⟩ := h1
      obtain ⟨i1, ⟨i2, i3⟩, i4⟩ := h
      have hcp : s.1.2 c = p := (i1 r c hr hc ht).2.2 hr0 hc0
      have hq := qt_ok x.1.2.2 (by omega) hx.2.2.1 (at' x r c) (hx.lt r c) (s.2.2 c) (i3 c hc0).2 (by have := of_decide_eq_true ht; omega) (by have := (i3 c hc0).1; omega)
      refine ⟨fun r' c' hr' hc' ht' => ?_, ⟨fun k hk => ?_, i3⟩, fun k => ⟨?_, (i4 k).2⟩⟩
      · have := i1 r' c' hr' hc' ht'
        by_cases e : r' = r
        · subst e
          simp only [up_at]
          refine ⟨fun _ z => ?_, fun _ _ => hcp, fun z => absurd z (by rw [hcp]; exact hp)⟩
          rw [hcp]; exact (this.2.2 hr0 z).symm
        · simp only [up_off e]
          exact this
      · by_cases e : k = r
        · subst e
          simp only [up_at]
          exact hq.1
        · simp only [up_off e] at hk ⊢
          exact i2 k hk
      · by_cases e : k = r
        · subst e
          simp only [up_at]
          exact (i4 c).2
        · simp only [up_off e]
          exact (i4 k).1
    · exact h
/-- what is known stays known -/
def Gr (s t : Ps) : Prop := (∀ k, s.1.1 k ≠ 0 → t.1.1 k = s.1.1 k) ∧ ∀ k, s.1.2 k ≠ 0 → t.1.2 k = s.1.2 k
theorem Gr.rf (s : Ps) : Gr s s := ⟨fun _ _ => rfl, fun _ _ => rfl⟩
theorem Gr.tr {s t u : Ps} (h : Gr s t) (g : Gr t u) : Gr s u := ⟨fun k hk => (g.1 k (by rw [h.1 k hk]; exact hk)).trans (h.1 k hk), fun k hk => (g.2 k (by rw [h.2 k hk]; exact hk)).trans (h.2 k hk)⟩
theorem Gr.step {x : Gd} {r c : Nat} {s : Ps} : Gr s (psStep x r c s) := by
  unfold psStep
  split
  · rename_i h1
    exact ⟨fun _ _ => rfl, fun k hk => up_off (fun e => hk (by rw [e]; exact h1.2.2))⟩
  · split
    · rename_i h1
      exact ⟨fun k hk => up_off (fun e => hk (by rw [e]; exact h1.2.1)), fun _ _ => rfl⟩
    · exact Gr.rf s
theorem rdC_iv {x : Gd} (hx : Gok x) {p r : Nat} (hp : p ≠ 0) (hr : r < x.1.1) {a : Ps × Bool} (h : Iv x p a.1) : ∀ c, c ≤ x.1.2.1 → Iv x p (rdC x r c a).1 ∧ Gr a.1 (rdC x r c a).1 := by
  intro c
  induction c with
  | zero => exact fun _ => ⟨h, Gr.rf _⟩
  | succ c ih =>
    intro hc
    obtain ⟨h1, h2⟩ := ih (by omega)
    exact ⟨h1.step hx hp hr (show c < x.1.2.1 by omega), h2.tr Gr.step⟩
theorem rdR_iv {x : Gd} (hx : Gok x) {p : Nat} (hp : p ≠ 0) {a : Ps × Bool} (h : Iv x p a.1) : ∀ r, r ≤ x.1.1 → Iv x p (rdR x r a).1 ∧ Gr a.1 (rdR x r a).1 := by
  intro r
  induction r with
  | zero => exact fun _ => ⟨h, Gr.rf _⟩
  | succ r ih =>
    intro hr
    obtain ⟨h1, h2⟩ := ih (by omega)
    obtain ⟨h3, h4⟩ := rdC_iv hx hp (show r < x.1.1 by omega) (a := rdR x r a) h1 x.1.2.1 (Nat.le_refl _)
    exact ⟨h3, h2.tr h4⟩
theorem spr_iv {x : Gd} (hx : Gok x) {p : Nat} (hp : p ≠ 0) {s : Ps} (h : Iv x p s) : ∀ k, Iv x p (spr x k s) ∧ Gr s (spr x k s) := by
  intro k
  induction k with
  | zero => exact ⟨h, Gr.rf _⟩
  | succ k ih =>
    obtain ⟨h3, h4⟩ := rdR_iv hx hp (a := (spr x k s, false)) ih.1 x.1.1 (Nat.le_refl _)
    exact ⟨h3, ih.2.tr h4⟩
/-- no told entry leads from what is known to what isn't -/
def Cls (x : Gd) (s : Ps) : Prop := ∀ r c, r < x.1.1 → c < x.1.2.1 → td x r c = true → (s.1.1 r = 0 ↔ s.1.2 c = 0)
theorem spread_cls {x : Gd} (hx : Gok x) (s : Ps) : Cls x (spread x s) := by
  intro r c hr hc ht
  have h := (rdR_no (spr_end hx s)).2.2 r c hr hc
  unfold psCh at h
  rw [ht] at h
  simp only [Bool.true_and] at h
  have h2 : decide ((spread x s).1.1 r = 0) = decide ((spread x s).1.2 c = 0) := by simpa using h
  exact decide_eq_decide.mp h2
-- all parts
def ps0 : Ps := ((fun _ => 0, fun _ => 0), (fun _ => 1, fun _ => 1))
def psRow (s : Ps) (r n : Nat) : Ps := ((up s.1.1 r (n + 1), s.1.2), (up s.2.1 r 1, s.2.2))
def psCol (s : Ps) (c n : Nat) : Ps := ((s.1.1, up s.1.2 c (n + 1)), (s.2.1, up s.2.2 c 1))
def layR (x : Gd) : Nat → Ps × Nat
  | 0 => (ps0, 0)
  | r + 1 => if (layR x r).1.1.1 r = 0 then (spread x (psRow (layR x r).1 r (layR x r).2), (layR x r).2 + 1) else layR x r
def layC (x : Gd) : Nat → Ps × Nat
  | 0 => layR x x.1.1
  | c + 1 => if (layC x c).1.1.2 c = 0 then (psCol (layC x c).1 c (layC x c).2, (layC x c).2 + 1) else layC x c
def lay (x : Gd) : Ps × Nat := layC x x.1.2.1
def psWell (x : Gd) (s : Ps) : Bool := al x.1.1 (fun r => al x.1.2.1 (fun c => !td x r c || decide (at' x r c = s.2.1 r * s.2.2 c % x.1.2.2)))
def wellX (x : Gd) : Bool := psWell x (lay x).1
theorem Iv.row {x : Gd} (hx : Gok x) {s : Ps} {n r : Nat} (h : Iv x n s) (hc : Cls x s) (hr0 : s.1.1 r = 0) : Iv x (n + 1) (psRow s r n) := by
  have hM := hx.2.2.1.le
  obtain ⟨i1, ⟨i2, i3⟩, i4⟩ := h
  refine ⟨fun r' c' hr' hc' ht' => ?_, ⟨fun k hk => ?_, i3⟩, fun k => ⟨?_, Nat.le_succ_of_le (i4 k).2⟩⟩
  · have h1 := i1 r' c' hr' hc' ht'
    have h2 := hc r' c' hr' hc' ht'
    show (up s.1.1 r (n + 1) r' ≠ 0 → s.1.2 c' ≠ 0 → up s.1.1 r (n + 1) r' = s.1.2 c') ∧ (up s.1.1 r (n + 1) r' ≠ 0 → s.1.2 c' = 0 → up s.1.1 r (n + 1) r' = n + 1) ∧ (up s.1.1 r (n + 1) r' = 0 → s.1.2 c' ≠ 0 → s.1.2 c' = n + 1)
    by_cases e : r' = r
    · subst e
      simp only [up_at]
      exact ⟨fun _ z => absurd (h2.mp hr0) z, fun _ _ => trivial, fun z => absurd z (by omega)⟩
    · simp only [up_off e]
      exact ⟨h1.1, fun z z2 => absurd (h2.mpr z2) z, fun z z2 => absurd (h2.mp z) z2⟩
  · have hk : up s.1.1 r (n + 1) k ≠ 0 := hk
    show 1 ≤ up s.2.1 r 1 k ∧ up s.2.1 r 1 k < _
    by_cases e : k = r
    · subst e; simp only [up_at]; omega
    · simp only [up_off e] at hk ⊢; exact i2 k hk
  · show up s.1.1 r (n + 1) k ≤ n + 1
    by_cases e : k = r
    · subst e; simp only [up_at]; omega
    · simp only [up_off e]; exact Nat.le_succ_of_le (i4 k).1
/-- behind the rows -/
theorem layR_ok {x : Gd} (hx : Gok x) : ∀ r, r ≤ x.1.1 → Iv x (layR x r).2 (layR x r).1 ∧ Cls x (layR x r).1 ∧ (∀ k, k < r → (layR x r).1.1.1 k ≠ 0) ∧ (layR x r).2 ≤ r ∧ (0 < r → 0 < (layR x r).2) := by
  intro r
  induction r with
  | zero =>
    intro _
    exact ⟨⟨fun _ _ _ _ _ => ⟨fun z => absurd rfl z, fun z => absurd rfl z, fun _ z => absurd rfl z⟩, ⟨fun _ z => absurd rfl z, fun _ z => absurd rfl z⟩, fun _ => ⟨Nat.le_refl _, Nat.le_refl _⟩⟩, fun _ _ _ _ _ => Iff.rfl, fun k hk => absurd hk (by omega), Nat.le_refl _, fun z => absurd z (by omega)⟩
  | succ r ih =>
    intro hr
    obtain ⟨h1, h2, h3, h4, h5⟩ := ih (by omega)
    unfold layR
    split
    · rename_i hr0
      have hi := h1.row hx h2 hr0
      obtain ⟨g1, g2⟩ := spr_iv hx (Nat.succ_ne_zero _) hi 13
      refine ⟨g1, spread_cls hx _, fun k hk => ?_, Nat.succ_le_succ h4, fun _ => Nat.succ_pos _⟩
      have hk2 : (psRow (layR x r).1 r (layR x r).2).1.1 k ≠ 0 := by
        show up (layR x r).1.1.1 r ((layR x r).2 + 1) k ≠ 0
        by_cases e : k = r
        · subst e; simp only [up_at]; omega
        · simp only [up_off e]; exact h3 k (by omega)
      show (spread x _).1.1 k ≠ 0
      exact fun z => hk2 ((g2.1 k hk2).symm.trans z)
    · rename_i hr0
      refine ⟨h1, h2, fun k hk => ?_, by omega, fun _ => ?_⟩
      · by_cases e : k = r
        · subst e; exact hr0
        · exact h3 k (by omega)
      · by_cases e : r = 0
        · subst e; exact absurd rfl hr0
        · exact h5 (by omega)
theorem layC_ok {x : Gd} (hx : Gok x) : ∀ c, c ≤ x.1.2.1 →
    (∀ i j, i < x.1.1 → j < x.1.2.1 → td x i j = true → (layC x c).1.1.1 i = (layC x c).1.1.2 j) ∧
    (∀ k, k < x.1.1 → (layC x c).1.1.1 k ≠ 0) ∧ (∀ k, k < c → (layC x c).1.1.2 k ≠ 0) ∧
    (∀ k, (layC x c).1.1.1 k ≤ (layC x c).2 ∧ (layC x c).1.1.2 k ≤ (layC x c).2) ∧
    ((∀ k, (layC x c).1.1.1 k ≠ 0 → 1 ≤ (layC x c).1.2.1 k ∧ (layC x c).1.2.1 k < x.1.2.2) ∧ (∀ k, (layC x c).1.1.2 k ≠ 0 → 1 ≤ (layC x c).1.2.2 k ∧ (layC x c).1.2.2 k < x.1.2.2)) ∧
    (layC x c).2 ≤ x.1.1 + c ∧ 0 < (layC x c).2 ∧ ((layC x c).1.1.1 = (layR x x.1.1).1.1.1) := by
  have hM := hx.2.2.1.le
  have hR := hx.1
  intro c
  induction c with
  | zero =>
    intro _
    obtain ⟨⟨i1, i2, i4⟩, h2, h3, h4, h5⟩ := layR_ok hx x.1.1 (Nat.le_refl _)
    exact ⟨fun i j hi hj ht => (i1 i j hi hj ht).1 (h3 i hi) (fun z => h3 i hi ((h2 i j hi hj ht).mpr z)), h3, fun k hk => absurd hk (by omega), i4, i2, h4, h5 (by omega), rfl⟩
  | succ c ih =>
    intro hc
    obtain ⟨h1, h2, h3, h4, ⟨h5, h6⟩, h7, h8, h9⟩ := ih (by omega)
    unfold layC
    split
    · rename_i hc0
      refine ⟨fun i j hi hj ht => ?_, h2, fun k hk => ?_, fun k => ⟨Nat.le_succ_of_le (h4 k).1, ?_⟩, ⟨h5, fun k hk => ?_⟩, by show (layC x c).2 + 1 ≤ _; omega, Nat.succ_pos _, h9⟩
      · show (layC x c).1.1.1 i = up (layC x c).1.1.2 c _ j
        by_cases e : j = c
        · subst e
          exact absurd ((h1 i j hi hj ht).trans hc0) (h2 i hi)
        · rw [up_off e]; exact h1 i j hi hj ht
      · show up (layC x c).1.1.2 c _ k ≠ 0
        by_cases e : k = c
        · subst e; rw [up_at]; omega
        · rw [up_off e]; exact h3 k (by omega)
      · show up (layC x c).1.1.2 c _ k ≤ (layC x c).2 + 1
        by_cases e : k = c
        · subst e; rw [up_at]; omega
        · rw [up_off e]; exact Nat.le_succ_of_le (h4 k).2
      · have hk : up (layC x c).1.1.2 c ((layC x c).2 + 1) k ≠ 0 := hk
        show 1 ≤ up (layC x c).1.2.2 c 1 k ∧ up (layC x c).1.2.2 c 1 k < _
        by_cases e : k = c
        · subst e; simp only [up_at]; omega
        · simp only [up_off e] at hk ⊢; exact h6 k hk
    · rename_i hc0
      refine ⟨h1, h2, fun k hk => ?_, h4, ⟨h5, h6⟩, by omega, h8, h9⟩
      by_cases e : k = c
      · subst e; exact hc0
      · exact h3 k (by omega)
