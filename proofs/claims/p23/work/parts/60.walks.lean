/-! ===== congruences; walks over told entries ===== -/
def eqm (m a b : Nat) : Prop := a % m = b % m
theorem eqm.rf (m a : Nat) : eqm m a a := rfl
theorem eqm.sy {m a b : Nat} (h : eqm m a b) : eqm m b a := Eq.symm h
theorem eqm.tr {m a b c : Nat} (h : eqm m a b) (g : eqm m b c) : eqm m a c := Eq.trans h g
theorem eqm.mul {m a b c d : Nat} (h : eqm m a b) (g : eqm m c d) : eqm m (a * c) (b * d) := by
  unfold eqm at *
  rw [Nat.mul_mod, h, g, ← Nat.mul_mod]
theorem eqm.md {m a : Nat} : eqm m (a % m) a := Nat.mod_mod a m
theorem eqm.of {m a b : Nat} (h : a = b) : eqm m a b := by rw [h]; rfl
theorem canc3 : ∀ m, m < 14 → Mok m → ∀ k, k < m → k ≠ 0 → ∀ a, a < m → ∀ b, b < m → a * k % m = b * k % m → a = b := by
  intro m hm h
  unfold Mok at h
  rcases h with rfl | rfl | rfl | rfl <;> decide +kernel
theorem eqm.canc {m a b k : Nat} (hm : Mok m) (hk : k % m ≠ 0) (h : eqm m (a * k) (b * k)) : eqm m a b := by
  have h1 := hm.le
  refine canc3 m (by omega) hm (k % m) (Nat.mod_lt _ (by omega)) hk (a % m) (Nat.mod_lt _ (by omega)) (b % m) (Nat.mod_lt _ (by omega)) ?_
  rw [← Nat.mul_mod, ← Nat.mul_mod]
  exact h
theorem nz_mul {m a b : Nat} (hm : Mok m) (ha : a % m ≠ 0) (hb : b % m ≠ 0) : (a * b) % m ≠ 0 := by
  have h1 := hm.le
  rw [Nat.mul_mod]
  exact mul_ok m (by omega) hm _ (Nat.mod_lt _ (by omega)) _ (Nat.mod_lt _ (by omega)) ha hb
theorem nz_lt {m a : Nat} (h1 : 1 ≤ a) (h2 : a < m) : a % m ≠ 0 := by rw [Nat.mod_eq_of_lt h2]; omega
def wM (x : Gd) : List (Nat × Nat) → Nat
  | [] => 1
  | q :: t => at' x q.1 q.2 * wM x t
def wh : List (Nat × Nat) → Nat → Nat
  | [], e => e
  | q :: _, _ => q.1
def wN (x : Gd) : List (Nat × Nat) → Nat → Nat
  | [], _ => 1
  | q :: t, e => at' x (wh t e) q.2 * wN x t e
def wV (x : Gd) : List (Nat × Nat) → Nat → Prop
  | [], _ => True
  | q :: t, e => ((q.1 < x.1.1 ∧ q.2 < x.1.2.1) ∧ td x q.1 q.2 = true ∧ td x (wh t e) q.2 = true) ∧ wV x t e
def wR : List (Nat × Nat) → Nat → List (Nat × Nat)
  | [], _ => []
  | q :: t, e => wR t e ++ [(wh t e, q.2)]
theorem wh_app (A B : List (Nat × Nat)) (e : Nat) : wh (A ++ B) e = wh A (wh B e) := by cases A <;> rfl
theorem wM_app {x : Gd} (A B : List (Nat × Nat)) : wM x (A ++ B) = wM x A * wM x B := by
  induction A with
  | nil => exact (Nat.one_mul _).symm
  | cons q t ih =>
    show at' x q.1 q.2 * wM x (t ++ B) = at' x q.1 q.2 * wM x t * wM x B
    rw [ih, Nat.mul_assoc]
theorem wN_app {x : Gd} (A B : List (Nat × Nat)) (e : Nat) : wN x (A ++ B) e = wN x A (wh B e) * wN x B e := by
  induction A with
  | nil => exact (Nat.one_mul _).symm
  | cons q t ih =>
    show at' x (wh (t ++ B) e) q.2 * wN x (t ++ B) e = at' x (wh t (wh B e)) q.2 * wN x t (wh B e) * wN x B e
    rw [ih, Nat.mul_assoc, wh_app]
theorem wV_app {x : Gd} (A B : List (Nat × Nat)) (e : Nat) : wV x (A ++ B) e ↔ wV x A (wh B e) ∧ wV x B e := by
  induction A with
  | nil => exact ⟨fun h => ⟨trivial, h⟩, fun h => h.2⟩
  | cons q t ih =>
    show (((q.1 < x.1.1 ∧ q.2 < x.1.2.1) ∧ td x q.1 q.2 = true ∧ td x (wh (t ++ B) e) q.2 = true) ∧ wV x (t ++ B) e) ↔ ((((q.1 < x.1.1 ∧ q.2 < x.1.2.1) ∧ td x q.1 q.2 = true ∧ td x (wh t (wh B e)) q.2 = true) ∧ wV x t (wh B e)) ∧ wV x B e)
    rw [ih, wh_app, ← and_assoc]
theorem wh_snoc (A : List (Nat × Nat)) (q : Nat × Nat) (e : Nat) : wh (A ++ [q]) e = wh A q.1 := wh_app A [q] e
theorem wh_R (L : List (Nat × Nat)) (e : Nat) : wh (wR L e) (wh L e) = e := by
  induction L with
  | nil => rfl
  | cons q t ih =>
    show wh (wR t e ++ [(wh t e, q.2)]) q.1 = e
    rw [wh_snoc]
    exact ih
theorem wM_R {x : Gd} (L : List (Nat × Nat)) (e : Nat) : wM x (wR L e) = wN x L e := by
  induction L with
  | nil => rfl
  | cons q t ih =>
    show wM x (wR t e ++ [(wh t e, q.2)]) = at' x (wh t e) q.2 * wN x t e
    rw [wM_app, ih]
    show wN x t e * (at' x (wh t e) q.2 * 1) = _
    rw [Nat.mul_one, Nat.mul_comm]
theorem wN_R {x : Gd} (L : List (Nat × Nat)) (e : Nat) : wN x (wR L e) (wh L e) = wM x L := by
  induction L with
  | nil => rfl
  | cons q t ih =>
    show wN x (wR t e ++ [(wh t e, q.2)]) q.1 = at' x q.1 q.2 * wM x t
    rw [wN_app]
    show wN x (wR t e) (wh t e) * (at' x q.1 q.2 * 1) = _
    rw [ih, Nat.mul_one, Nat.mul_comm]
theorem wV_lt {x : Gd} {L : List (Nat × Nat)} {e : Nat} (he : e < x.1.1) (h : wV x L e) : wh L e < x.1.1 := by
  cases L with
  | nil => exact he
  | cons q t => exact h.1.1.1
theorem wV_R {x : Gd} (L : List (Nat × Nat)) (e : Nat) (he : e < x.1.1) (h : wV x L e) : wV x (wR L e) (wh L e) := by
  induction L with
  | nil => exact trivial
  | cons q t ih =>
    show wV x (wR t e ++ [(wh t e, q.2)]) q.1
    obtain ⟨⟨⟨h1, h2⟩, h3, h4⟩, h5⟩ := h
    exact (wV_app _ _ _).mpr ⟨ih h5, ⟨⟨wV_lt he h5, h2⟩, h4, h3⟩, trivial⟩
/-- numbers of rows and columns whose products all told entries are -/
def Pot (x : Gd) (U V : Nat → Nat) : Prop := (∀ r, r < x.1.1 → U r % x.1.2.2 ≠ 0) ∧ (∀ c, c < x.1.2.1 → V c % x.1.2.2 ≠ 0) ∧ ∀ r c, r < x.1.1 → c < x.1.2.1 → td x r c = true → eqm x.1.2.2 (at' x r c) (U r * V c)
theorem Pot.tele {x : Gd} {U V : Nat → Nat} (h : Pot x U V) {e : Nat} (he : e < x.1.1) (L : List (Nat × Nat)) (hL : wV x L e) : eqm x.1.2.2 (wM x L * U e) (wN x L e * U (wh L e)) := by
  induction L with
  | nil => exact eqm.rf _ _
  | cons q t ih =>
    obtain ⟨⟨⟨h1, h2⟩, h3, h4⟩, h5⟩ := hL
    have i1 := ih h5
    have i2 := h.2.2 _ _ h1 h2 h3
    have i3 := h.2.2 _ _ (wV_lt he h5) h2 h4
    show eqm _ (at' x q.1 q.2 * wM x t * U e) (at' x (wh t e) q.2 * wN x t e * U q.1)
    refine eqm.tr (b := (U q.1 * V q.2) * (wN x t e * U (wh t e))) ?_ ?_
    · rw [Nat.mul_assoc]; exact i2.mul i1
    · refine (eqm.of ?_).tr ((i3.sy.mul (eqm.rf _ (wN x t e))).mul (eqm.rf _ (U q.1)))
      ac_rfl
theorem Pot.closed {x : Gd} (hx : Gok x) {U V : Nat → Nat} (h : Pot x U V) {L : List (Nat × Nat)} (hne : L ≠ []) (hL : wV x L (wh L 0)) : eqm x.1.2.2 (wM x L) (wN x L (wh L 0)) := by
  cases L with
  | nil => exact absurd rfl hne
  | cons q t => exact (h.tele hL.1.1.1 (q :: t) hL).canc hx.2.2.1 (h.1 _ hL.1.1.1)
