/-! ===== lay: what holds of it, by the way it is made ===== -/
theorem sm_one {n p : Nat} {f g : Nat → Nat} (hp : p < n) (h : ∀ k, k < n → k ≠ p → f k = g k) : sm n f + g p = sm n g + f p := by
  induction n with
  | zero => omega
  | succ n ih =>
    show sm n f + f n + g p = sm n g + g n + f p
    by_cases e : p = n
    · subst e
      rw [sm_congr (n := p) (f := f) (g := g) (fun k hk => h k (by omega) (by omega))]
      omega
    · have := ih (by omega) (fun k hk => h k (by omega))
      have := h n (by omega) (fun z => e z.symm)
      omega
theorem sm_lt1 {n p : Nat} {f g : Nat → Nat} (hp : p < n) (h : ∀ k, k < n → f k ≤ g k) (h1 : f p + 1 ≤ g p) : sm n f + 1 ≤ sm n g := by
  induction n with
  | zero => omega
  | succ n ih =>
    show sm n f + f n + 1 ≤ sm n g + g n
    by_cases e : p = n
    · subst e
      have := sm_leF (n := p) (f := f) (g := g) (fun k hk => h k (by omega))
      omega
    · have := ih (by omega) (fun k hk => h k (by omega))
      have := h n (by omega)
      omega
theorem ct_upq {n p q v : Nat} {z : Nat → Nat} (hp : p < n) (h0 : z p ≠ q) : ct n (fun k => decide (up z p v k = q)) = ct n (fun k => decide (z k = q)) + (if v = q then 1 else 0) := by
  have h := sm_one (n := n) (p := p) (f := fun k => if decide (up z p v k = q) = true then 1 else 0) (g := fun k => if decide (z k = q) = true then 1 else 0) hp (fun k _ hk => by simp only [up_off hk])
  simp only [up_at, decide_eq_true_eq, if_neg h0] at h
  unfold ct
  simp only [decide_eq_true_eq]
  omega
theorem ind_rdC {x : Gd} {K : Ps → Prop} (hs : ∀ s r c, r < x.1.1 → c < x.1.2.1 → K s → K (psStep x r c s)) {r : Nat} (hr : r < x.1.1) {a : Ps × Bool} (h : K a.1) : ∀ c, c ≤ x.1.2.1 → K (rdC x r c a).1 := by
  intro c
  induction c with
  | zero => exact fun _ => h
  | succ c ih => exact fun hc => hs _ _ _ hr (by omega) (ih (by omega))
theorem ind_rdR {x : Gd} {K : Ps → Prop} (hs : ∀ s r c, r < x.1.1 → c < x.1.2.1 → K s → K (psStep x r c s)) {a : Ps × Bool} (h : K a.1) : ∀ r, r ≤ x.1.1 → K (rdR x r a).1 := by
  intro r
  induction r with
  | zero => exact fun _ => h
  | succ r ih => exact fun hr => ind_rdC hs (by omega) (ih (by omega)) _ (Nat.le_refl _)
theorem ind_spr {x : Gd} {K : Ps → Prop} (hs : ∀ s r c, r < x.1.1 → c < x.1.2.1 → K s → K (psStep x r c s)) {s : Ps} (h : K s) : ∀ k, K (spr x k s) := by
  intro k
  induction k with
  | zero => exact h
  | succ k ih => exact ind_rdR (a := (spr x k s, false)) hs ih _ (Nat.le_refl _)
theorem layR_ind {x : Gd} (hx : Gok x) {J : Ps → Nat → Prop} (h0 : J ps0 0) (hs : ∀ s n r c, r < x.1.1 → c < x.1.2.1 → n ≠ 0 → Iv x n s → J s n → J (psStep x r c s) n)
    (hr : ∀ s n r, r < x.1.1 → (∀ k, k < r → s.1.1 k ≠ 0) → s.1.1 r = 0 → Iv x n s → Cls x s → J s n → J (psRow s r n) (n + 1)) : ∀ r, r ≤ x.1.1 → J (layR x r).1 (layR x r).2 := by
  intro r
  induction r with
  | zero => exact fun _ => h0
  | succ r ih =>
    intro hr1
    obtain ⟨h1, h2, h3, h4, h5⟩ := layR_ok hx r (by omega)
    by_cases e : (layR x r).1.1.1 r = 0
    · rw [layR_go e]
      have hj := hr _ _ r (by omega) h3 e h1 h2 (ih (by omega))
      exact (ind_spr (K := fun s => Iv x ((layR x r).2 + 1) s ∧ J s ((layR x r).2 + 1)) (fun s r c hr hc h => ⟨h.1.step hx (Nat.succ_ne_zero _) hr hc, hs _ _ _ _ hr hc (Nat.succ_ne_zero _) h.1 h.2⟩) ⟨h1.row hx h2 e, hj⟩ 13).2
    · rw [layR_skip e]
      exact ih (by omega)
theorem layC_ind {x : Gd} (hx : Gok x) {J : Ps → Nat → Prop} (h0 : J (layR x x.1.1).1 (layR x x.1.1).2)
    (hc : ∀ s n c, c < x.1.2.1 → (∀ i j, i < x.1.1 → j < x.1.2.1 → td x i j = true → s.1.1 i = s.1.2 j) → (∀ k, k < x.1.1 → s.1.1 k ≠ 0) → (∀ k, k < c → s.1.2 k ≠ 0) → s.1.2 c = 0 → (∀ k, s.1.1 k ≤ n ∧ s.1.2 k ≤ n) → J s n → J (psCol s c n) (n + 1)) : ∀ c, c ≤ x.1.2.1 → J (layC x c).1 (layC x c).2 := by
  intro c
  induction c with
  | zero => exact fun _ => h0
  | succ c ih =>
    intro hc1
    obtain ⟨h1, h2, h3, h4, h5, h7, h8, h9⟩ := layC_ok hx c (by omega)
    by_cases e : (layC x c).1.1.2 c = 0
    · rw [layC_go e]
      exact hc _ _ c (by omega) h1 h2 h3 e h4 (ih (by omega))
    · rw [layC_skip e]
      exact ih (by omega)
theorem psStep_cases {x : Gd} {n r c : Nat} {s : Ps} (hr : r < x.1.1) (hc : c < x.1.2.1) (hi : Iv x n s) : psStep x r c s = s ∨
    ((td x r c = true ∧ s.1.1 r ≠ 0 ∧ s.1.1 r = n ∧ s.1.2 c = 0) ∧ psStep x r c s = ((s.1.1, up s.1.2 c n), (s.2.1, up s.2.2 c (qt x.1.2.2 (at' x r c) (s.2.1 r))))) ∨
    ((td x r c = true ∧ s.1.1 r = 0 ∧ s.1.2 c ≠ 0 ∧ s.1.2 c = n) ∧ psStep x r c s = ((up s.1.1 r n, s.1.2), (up s.2.1 r (qt x.1.2.2 (at' x r c) (s.2.2 c)), s.2.2))) := by
  by_cases h1 : td x r c = true ∧ s.1.1 r ≠ 0 ∧ s.1.2 c = 0
  · have e := (hi.1 r c hr hc h1.1).2.1 h1.2.1 h1.2.2
    refine Or.inr (Or.inl ⟨⟨h1.1, h1.2.1, e, h1.2.2⟩, ?_⟩)
    unfold psStep
    rw [if_pos h1, e]
  · by_cases h2 : td x r c = true ∧ s.1.1 r = 0 ∧ s.1.2 c ≠ 0
    · have e := (hi.1 r c hr hc h2.1).2.2 h2.2.1 h2.2.2
      refine Or.inr (Or.inr ⟨⟨h2.1, h2.2.1, h2.2.2, e⟩, ?_⟩)
      unfold psStep
      rw [if_neg h1, if_pos h2, e]
    · refine Or.inl ?_
      unfold psStep
      rw [if_neg h1, if_neg h2]
abbrev lP (x : Gd) (r : Nat) : Nat := (lay x).1.1.1 r
abbrev lQ (x : Gd) (c : Nat) : Nat := (lay x).1.1.2 c
abbrev lu (x : Gd) (r : Nat) : Nat := (lay x).1.2.1 r
abbrev lv' (x : Gd) (c : Nat) : Nat := (lay x).1.2.2 c
theorem lP_nz {x : Gd} (hx : Gok x) {r : Nat} (hr : r < x.1.1) : lP x r ≠ 0 := (layC_ok hx _ (Nat.le_refl _)).2.1 r hr
theorem lQ_nz {x : Gd} (hx : Gok x) {c : Nat} (hc : c < x.1.2.1) : lQ x c ≠ 0 := (layC_ok hx _ (Nat.le_refl _)).2.2.1 c hc
theorem lP_le {x : Gd} (hx : Gok x) (r : Nat) : lP x r ≤ (lay x).2 := ((layC_ok hx _ (Nat.le_refl _)).2.2.2.1 r).1
theorem lQ_le {x : Gd} (hx : Gok x) (c : Nat) : lQ x c ≤ (lay x).2 := ((layC_ok hx _ (Nat.le_refl _)).2.2.2.1 c).2
theorem l_td {x : Gd} (hx : Gok x) {r c : Nat} (hr : r < x.1.1) (hc : c < x.1.2.1) (h : td x r c = true) : lP x r = lQ x c := (layC_ok hx _ (Nat.le_refl _)).1 r c hr hc h
theorem l_sz {x : Gd} (hx : Gok x) : 1 ≤ (lay x).2 ∧ (lay x).2 ≤ 12 := by
  have h := (layC_ok hx _ (Nat.le_refl _)).2.2.2.2.2
  have h1 := hx.1
  have h2 := hx.2.1
  exact ⟨h.2.1, by show (layC x x.1.2.1).2 ≤ 12; omega⟩
theorem lu_ok {x : Gd} (hx : Gok x) {r : Nat} (hr : r < x.1.1) : 1 ≤ lu x r ∧ lu x r < x.1.2.2 := (layC_ok hx _ (Nat.le_refl _)).2.2.2.2.1.1 r (lP_nz hx hr)
theorem lv_ok {x : Gd} (hx : Gok x) {c : Nat} (hc : c < x.1.2.1) : 1 ≤ lv' x c ∧ lv' x c < x.1.2.2 := (layC_ok hx _ (Nat.le_refl _)).2.2.2.2.1.2 c (lQ_nz hx hc)
theorem l_out {x : Gd} : (∀ k, x.1.1 ≤ k → lP x k = 0) ∧ ∀ k, x.1.2.1 ≤ k → lQ x k = 0 := lay_ou
/-- what joins told entries joins whole parts -/
theorem lay_lab {x : Gd} (hx : Gok x) {A B : Nat → Nat} (hAB : ∀ r c, r < x.1.1 → c < x.1.2.1 → td x r c = true → A r = B c) : ∃ f : Nat → Nat, (∀ r, r < x.1.1 → A r = f (lP x r)) ∧ ∀ c, c < x.1.2.1 → B c = f (lQ x c) := by
  have hR := layR_ind hx (J := fun s n => ∃ f : Nat → Nat, (∀ k, k < x.1.1 → s.1.1 k ≠ 0 → A k = f (s.1.1 k)) ∧ ∀ k, k < x.1.2.1 → s.1.2 k ≠ 0 → B k = f (s.1.2 k)) ⟨fun _ => 0, fun _ _ h => absurd rfl h, fun _ _ h => absurd rfl h⟩
    (fun s n r c hr hc hn hi hJ => by
      obtain ⟨f, h1, h2⟩ := hJ
      rcases psStep_cases hr hc hi with e | ⟨⟨t, p0, p1, q0⟩, e⟩ | ⟨⟨t, p0, q0, q1⟩, e⟩
      · rw [e]; exact ⟨f, h1, h2⟩
      · rw [e]
        refine ⟨f, h1, fun k hk hz => ?_⟩
        by_cases ek : k = c
        · subst ek
          show B k = f (up s.1.2 k n k)
          rw [up_at, ← hAB r k hr hk t, h1 r hr p0, p1]
        · simp only [up_off ek] at hz ⊢
          exact h2 k hk hz
      · rw [e]
        refine ⟨f, fun k hk hz => ?_, h2⟩
        by_cases ek : k = r
        · subst ek
          show A k = f (up s.1.1 k n k)
          rw [up_at, hAB k c hk hc t, h2 c hc q0, q1]
        · simp only [up_off ek] at hz ⊢
          exact h1 k hk hz)
    (fun s n r hr hk0 h0 hi hcl hJ => by
      obtain ⟨f, h1, h2⟩ := hJ
      refine ⟨up f (n + 1) (A r), fun k hk hz => ?_, fun k hk hz => ?_⟩
      · show A k = up f (n + 1) (A r) (up s.1.1 r (n + 1) k)
        by_cases ek : k = r
        · subst ek; rw [up_at, up_at]
        · have hz : up s.1.1 r (n + 1) k ≠ 0 := hz
          rw [up_off ek] at hz ⊢
          rw [up_off (by have := (hi.2.2 k).1; omega)]
          exact h1 k hk hz
      · show B k = up f (n + 1) (A r) (s.1.2 k)
        rw [up_off (by have := (hi.2.2 k).2; omega)]
        exact h2 k hk hz) _ (Nat.le_refl _)
  have hC := layC_ind hx (J := fun s n => ∃ f : Nat → Nat, (∀ k, k < x.1.1 → s.1.1 k ≠ 0 → A k = f (s.1.1 k)) ∧ ∀ k, k < x.1.2.1 → s.1.2 k ≠ 0 → B k = f (s.1.2 k)) hR
    (fun s n c hc ht hk hk2 h0 hle hJ => by
      obtain ⟨f, h1, h2⟩ := hJ
      refine ⟨up f (n + 1) (B c), fun k hk hz => ?_, fun k hk hz => ?_⟩
      · show A k = up f (n + 1) (B c) (s.1.1 k)
        rw [up_off (by have := (hle k).1; omega)]
        exact h1 k hk hz
      · show B k = up f (n + 1) (B c) (up s.1.2 c (n + 1) k)
        by_cases ek : k = c
        · subst ek; rw [up_at, up_at]
        · have hz : up s.1.2 c (n + 1) k ≠ 0 := hz
          rw [up_off ek] at hz ⊢
          rw [up_off (by have := (hle k).2; omega)]
          exact h2 k hk hz) _ (Nat.le_refl _)
  obtain ⟨f, h1, h2⟩ := hC
  exact ⟨f, fun r hr => h1 r hr (lP_nz hx hr), fun c hc => h2 c hc (lQ_nz hx hc)⟩
/-- each part has a first row, with 1, or is a column, with 1 -/
def Led (x : Gd) (s : Ps) (p : Nat) : Prop := ∃ f, f < x.1.1 ∧ s.1.1 f = p ∧ (∀ k, k < f → s.1.1 k < p) ∧ s.2.1 f = 1
def LedC (x : Gd) (s : Ps) (p : Nat) : Prop := (∀ k, k < x.1.1 → s.1.1 k < p) ∧ ∃ c, c < x.1.2.1 ∧ s.1.2 c = p ∧ (∀ k, k < c → s.1.2 k < p) ∧ s.2.2 c = 1 ∧ ∀ k, s.1.2 k = p → k = c
theorem layR_led {x : Gd} (hx : Gok x) : ∀ p, 1 ≤ p → p ≤ (layR x x.1.1).2 → Led x (layR x x.1.1).1 p := by
  have h := layR_ind hx (J := fun s n => ∀ p, 1 ≤ p → p ≤ n → ∃ f, f < x.1.1 ∧ s.1.1 f = p ∧ (∀ k, k < f → s.1.1 k ≠ 0 ∧ s.1.1 k < p) ∧ s.2.1 f = 1) (fun p h1 h2 => by omega)
    (fun s n r c hr hc hn hi hJ => by
      rcases psStep_cases hr hc hi with e | ⟨⟨t, p0, p1, q0⟩, e⟩ | ⟨⟨t, p0, q0, q1⟩, e⟩
      · rw [e]; exact hJ
      · rw [e]; exact hJ
      · rw [e]
        intro p h1 h2
        obtain ⟨f, g1, g2, g3, g4⟩ := hJ p h1 h2
        have hf : f ≠ r := fun z => by rw [z] at g2; omega
        refine ⟨f, g1, (up_off hf).trans g2, fun k hk => ?_, (up_off hf).trans g4⟩
        have hkr : k ≠ r := fun z => (g3 k hk).1 (by rw [z]; exact p0)
        show up s.1.1 r n k ≠ 0 ∧ up s.1.1 r n k < p
        rw [up_off hkr]
        exact g3 k hk)
    (fun s n r hr hk0 h0 hi hcl hJ => by
      intro p h1 h2
      by_cases e : p = n + 1
      · subst e
        refine ⟨r, hr, up_at, fun k hk => ?_, up_at⟩
        show up s.1.1 r (n + 1) k ≠ 0 ∧ up s.1.1 r (n + 1) k < n + 1
        rw [up_off (by omega)]
        exact ⟨hk0 k hk, by have := (hi.2.2 k).1; omega⟩
      · obtain ⟨f, g1, g2, g3, g4⟩ := hJ p h1 (by omega)
        have hf : f ≠ r := fun z => by rw [z] at g2; omega
        refine ⟨f, g1, (up_off hf).trans g2, fun k hk => ?_, (up_off hf).trans g4⟩
        have hkr : k ≠ r := fun z => (g3 k hk).1 (by rw [z]; exact h0)
        show up s.1.1 r (n + 1) k ≠ 0 ∧ up s.1.1 r (n + 1) k < p
        rw [up_off hkr]
        exact g3 k hk) _ (Nat.le_refl _)
  intro p h1 h2
  obtain ⟨f, g1, g2, g3, g4⟩ := h p h1 h2
  exact ⟨f, g1, g2, fun k hk => (g3 k hk).2, g4⟩
theorem lay_led {x : Gd} (hx : Gok x) : ∀ p, 1 ≤ p → p ≤ (lay x).2 → Led x (lay x).1 p ∨ LedC x (lay x).1 p := by
  have h := layC_ind hx (J := fun s n => ∀ p, 1 ≤ p → p ≤ n → Led x s p ∨ ((∀ k, k < x.1.1 → s.1.1 k < p) ∧ ∃ c, c < x.1.2.1 ∧ s.1.2 c = p ∧ (∀ k, k < c → s.1.2 k ≠ 0 ∧ s.1.2 k < p) ∧ s.2.2 c = 1 ∧ ∀ k, s.1.2 k = p → k = c)) (fun p h1 h2 => Or.inl (layR_led hx p h1 h2)) (fun s n c hc ht hk hk2 h0 hle hJ => by
    intro p h1 h2
    by_cases e : p = n + 1
    · subst e
      refine Or.inr ⟨fun k _ => by have := (hle k).1; show s.1.1 k < n + 1; omega, c, hc, up_at, fun k hk => ?_, up_at, fun k hz => ?_⟩
      · show up s.1.2 c (n + 1) k ≠ 0 ∧ up s.1.2 c (n + 1) k < n + 1
        rw [up_off (by omega)]
        have := (hle k).2
        exact ⟨hk2 k hk, by omega⟩
      · have hz : up s.1.2 c (n + 1) k = n + 1 := hz
        by_cases ek : k = c
        · exact ek
        · rw [up_off ek] at hz
          have := (hle k).2; omega
    · rcases hJ p h1 (by omega) with h | ⟨g0, d, g1, g2, g3, g4, g5⟩
      · exact Or.inl h
      · have hd : d ≠ c := fun z => by rw [z] at g2; omega
        refine Or.inr ⟨g0, d, g1, (up_off hd).trans g2, fun k hk => ?_, (up_off hd).trans g4, fun k hz => ?_⟩
        · show up s.1.2 c (n + 1) k ≠ 0 ∧ up s.1.2 c (n + 1) k < p
          rw [up_off (fun ek => (g3 k hk).1 (by rw [ek]; exact h0))]
          exact g3 k hk
        · have hz : up s.1.2 c (n + 1) k = p := hz
          by_cases ek : k = c
          · subst ek; rw [up_at] at hz; omega
          · rw [up_off ek] at hz; exact g5 k hz) _ (Nat.le_refl _)
  intro p h1 h2
  rcases h p h1 h2 with h | ⟨g0, d, g1, g2, g3, g4, g5⟩
  · exact Or.inl h
  · exact Or.inr ⟨g0, d, g1, g2, fun k hk => (g3 k hk).2, g4, g5⟩
