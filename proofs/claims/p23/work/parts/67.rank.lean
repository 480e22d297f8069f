/-! ===== cycles of the length 4 are minors; the lower bound of the rank by minors ===== -/
theorem cyc4 {x : Gd} (hx : Gok x) {φ : Ph} {b : Bool} (hφ : ∀ r c s d, wt x 2 φ [r, c, s, d] = if (b && zr x r s c d) = true then 0 else 1) : DD x (Gh x 2 φ) 4 [] = mAll x b := by
  rw [show (4 : Nat) = 2 * 2 from rfl, DD_top (by omega)]
  refine sm_congr fun r hr => ?_
  show sm (mo x 1) (fun c => if csB x [r] c = true then sm (mo x 2) (fun s => if csB x [r, c] s = true then sm (mo x 3) (fun d => if csB x [r, c, s] d = true then Gh x 2 φ [r, c, s, d] else 0) else 0) else 0) = sm x.1.2.1 (fun c => cb x b r c)
  refine sm_congr fun c hc => ?_
  unfold cb
  rw [sm_if]
  refine sm_congr fun s hs => ?_
  rw [sm_if, sm_if, sm_if]
  refine sm_congr fun d hd => ?_
  have c1 := csB_odd (x := x) (q := [r]) (v := c) (d := 0) rfl
  have c2 := csB_even (x := x) (q := [r, c]) (v := s) (d := 0) rfl
  have c3 := csB_odd (x := x) (q := [r, c, s]) (v := d) (d := 1) rfl
  have k1 : csB x [r] c = true ↔ td x r c = true := c1.trans ⟨fun h => h.1, fun h => ⟨h, fun j hj => absurd hj (Nat.not_lt_zero _)⟩⟩
  have k2 : csB x [r, c] s = true ↔ r < s ∧ td x s c = true := c2.trans ⟨fun h => h.1, fun h => ⟨h, fun j hj => by
    have : j = 0 := by omega
    subst this
    show r ≠ s
    have := h.1; omega⟩⟩
  have k3 : csB x [r, c, s] d = true ↔ td x s d = true ∧ c ≠ d := c3.trans ⟨fun h => ⟨h.1, h.2 0 (by omega)⟩, fun h => ⟨h.1, fun j hj => by
    have : j = 0 := by omega
    subst this
    exact h.2⟩⟩
  have k4 : Gh x 2 φ [r, c, s, d] = if td x r d = true ∧ c < d then (if (b && zr x r s c d) = true then 0 else 1) else 0 := by
    unfold Gh
    rw [hφ]
    rfl
  have k5 : mz x b r s c d = true ↔ (td x r c = true ∧ td x r d = true ∧ td x s c = true ∧ td x s d = true) ∧ ¬ (b && zr x r s c d) = true := by
    unfold mz mnr
    rw [Bool.and_eq_true, Bool.and_eq_true, Bool.and_eq_true, Bool.and_eq_true, Bool.not_eq_true', Bool.not_eq_true]
  rw [k4]
  by_cases a1 : td x r c = true
  · rw [if_pos (k1.mpr a1)]
    by_cases a2 : r < s
    · rw [if_pos a2]
      by_cases a3 : td x s c = true
      · rw [if_pos (k2.mpr ⟨a2, a3⟩)]
        by_cases a4 : c < d
        · rw [if_pos a4]
          by_cases a5 : td x s d = true
          · rw [if_pos (k3.mpr ⟨a5, by omega⟩)]
            by_cases a6 : td x r d = true
            · rw [if_pos ⟨a6, a4⟩]
              by_cases a7 : (b && zr x r s c d) = true
              · rw [if_pos a7, if_neg (fun z => (k5.mp z).2 a7)]
              · rw [if_neg a7, if_pos (k5.mpr ⟨⟨a1, a6, a3, a5⟩, a7⟩)]
            · rw [if_neg (fun z => a6 z.1), if_neg (fun z => a6 (k5.mp z).1.2.1)]
          · rw [if_neg (fun z => a5 (k3.mp z).1), if_neg (fun z => a5 (k5.mp z).1.2.2.2)]
        · rw [if_neg a4, if_neg (c := td x r d = true ∧ c < d) (fun z => a4 z.2)]
          split <;> rfl
      · rw [if_neg (fun z => a3 (k2.mp z).2)]
        split
        · rw [if_neg (fun z => a3 (k5.mp z).1.2.2.1)]
        · rfl
    · rw [if_neg a2, if_neg (fun z => a2 (k2.mp z).1)]
  · rw [if_neg (fun z => a1 (k1.mp z))]
    split
    · split
      · rw [if_neg (fun z => a1 (k5.mp z).1.1)]
      · rfl
    · rfl
theorem wt2_one {x : Gd} (r c s d : Nat) : wt x 2 one [r, c, s, d] = if (false && zr x r s c d) = true then 0 else 1 := rfl
theorem wt2_wrg {x : Gd} (r c s d : Nat) : wt x 2 wrg [r, c, s, d] = if (true && zr x r s c d) = true then 0 else 1 := by
  unfold wt
  have e1 : o1 x 2 [r, c, s, d] 2 = at' x r c * at' x s d % x.1.2.2 := by
    show 1 * at' x r c * at' x s d % _ = _
    rw [Nat.one_mul]
  have e2 : o2 x 2 [r, c, s, d] 2 = at' x r d * at' x s c % x.1.2.2 := by
    show 1 * at' x s c * at' x r d % _ = _
    rw [Nat.one_mul, Nat.mul_comm]
  rw [e1, e2, Bool.true_and]
  unfold zr wrg
  by_cases e : at' x r c * at' x s d % x.1.2.2 = at' x r d * at' x s c % x.1.2.2
  · rw [if_pos e, if_pos (decide_eq_true e)]; rfl
  · rw [if_neg e, if_neg (fun z => e (of_decide_eq_true z))]; rfl
theorem minors_0 {x : Gd} (h : mAll x true = 0) {r s c d : Nat} (hr : r < x.1.1) (hs : s < x.1.1) (hc : c < x.1.2.1) (hd : d < x.1.2.1) (hrs : r < s) (hcd : c < d) (t1 : td x r c = true) (t2 : td x r d = true) (t3 : td x s c = true) (t4 : td x s d = true) : eqm x.1.2.2 (at' x r c * at' x s d) (at' x r d * at' x s c) := by
  have a := sm_eq0 (sm_eq0 h r hr) c hc
  unfold cb at a
  have b := sm_eq0 a s hs
  rw [if_pos hrs] at b
  have e := sm_eq0 b d hd
  rw [if_pos hcd] at e
  refine Classical.byContradiction fun z => ?_
  rw [if_pos] at e
  · exact absurd e (by decide)
  · have zf : decide (at' x r c * at' x s d % x.1.2.2 = at' x r d * at' x s c % x.1.2.2) = false := decide_eq_false z
    unfold mz mnr zr
    rw [t1, t2, t3, t4, zf]
    rfl
theorem minors_1 {x : Gd} (h : mAll x true ≠ 0) : ∃ r s c d, r < x.1.1 ∧ s < x.1.1 ∧ c < x.1.2.1 ∧ d < x.1.2.1 ∧ r < s ∧ c < d ∧ (td x r c = true ∧ td x r d = true ∧ td x s c = true ∧ td x s d = true) ∧ ¬ eqm x.1.2.2 (at' x r c * at' x s d) (at' x r d * at' x s c) := by
  refine Classical.byContradiction fun z => h ?_
  refine sm_zero fun r hr => sm_zero fun c hc => sm_zero fun s hs => ?_
  split
  · rename_i h1
    refine sm_zero fun d hd => ?_
    split
    · rename_i h2
      refine if_neg fun w => z ⟨r, s, c, d, hr, hs, hc, hd, h1, h2, ?_⟩
      unfold mz mnr at w
      rw [Bool.and_eq_true, Bool.and_eq_true, Bool.and_eq_true, Bool.and_eq_true, Bool.true_and, Bool.not_eq_true'] at w
      refine ⟨w.1, fun y => ?_⟩
      have e : zr x r s c d = true := decide_eq_true y
      rw [w.2] at e
      cases e
    · rfl
  · rfl
theorem bld_rho {x : Gd} {S : Nat} : ∀ n, ∃ ρ : Nat → Nat, (∀ i, i < (bld x S n).1 → ρ i < n ∧ bit S (ρ i) = true ∧ (bld x S n).2 i = at' x (ρ i)) ∧ ∀ i j, j < (bld x S n).1 → i < j → ρ i < ρ j := by
  intro n
  induction n with
  | zero => exact ⟨fun _ => 0, fun i hi => absurd hi (Nat.not_lt_zero _), fun i j hj => absurd hj (Nat.not_lt_zero _)⟩
  | succ n ih =>
    obtain ⟨ρ, h1, h2⟩ := ih
    by_cases e : bit S n = true
    · have e2 : bld x S (n + 1) = ((bld x S n).1 + 1, fun i => if i = (bld x S n).1 then at' x n else (bld x S n).2 i) := by
        show (if bit S n = true then _ else _) = _
        rw [if_pos e]
      rw [e2]
      refine ⟨up ρ (bld x S n).1 n, fun i hi => ?_, fun i j hj hi => ?_⟩
      · have hi : i < (bld x S n).1 + 1 := hi
        by_cases ei : i = (bld x S n).1
        · subst ei
          rw [up_at]
          exact ⟨by omega, e, if_pos rfl⟩
        · rw [up_off ei]
          have := h1 i (by omega)
          exact ⟨by omega, this.2.1, (if_neg ei).trans this.2.2⟩
      · have hj : j < (bld x S n).1 + 1 := hj
        rw [up_off (k := i) (by omega)]
        by_cases ej : j = (bld x S n).1
        · subst ej
          rw [up_at]
          exact (h1 i hi).1
        · rw [up_off ej]
          exact h2 i j (by omega) hi
    · have e2 : bld x S (n + 1) = bld x S n := by
        show (if bit S n = true then _ else _) = _
        rw [if_neg e]
      rw [e2]
      exact ⟨ρ, fun i hi => by have := h1 i hi; exact ⟨by omega, this.2⟩, h2⟩
theorem bld_ct {x : Gd} {S : Nat} : ∀ n, (bld x S n).1 = ct n (bit S) := by
  intro n
  induction n with
  | zero => rfl
  | succ n ih =>
    rw [ct_succ]
    show (if bit S n = true then ((bld x S n).1 + 1, fun i => if i = (bld x S n).1 then at' x n else (bld x S n).2 i) else bld x S n).1 = _
    by_cases e : bit S n = true
    · rw [if_pos e, if_pos e, ← ih]
    · rw [if_neg e, if_neg e, ih, Nat.add_zero]
theorem swp_same (B : Mx) : swp B 0 0 = B := by
  funext a
  unfold swp
  split
  · rename_i e; rw [e]
  · rfl
theorem fp_first {B : Mx} {c n : Nat} (hn : 0 < n) (h : B 0 c ≠ 0) : fp B c n 0 = some 0 := by
  obtain ⟨k, rfl⟩ : ∃ k, n = k + 1 := ⟨n - 1, by omega⟩
  exact if_neg h
theorem fp_none {B : Mx} {c : Nat} : ∀ n k, (∀ i, k ≤ i → i < k + n → B i c = 0) → fp B c n k = none := by
  intro n
  induction n with
  | zero => intro k _; rfl
  | succ n ih =>
    intro k h
    show (if B k c = 0 then fp B c n (k + 1) else some k) = none
    rw [if_pos (h k (Nat.le_refl _) (by omega))]
    exact ih (k + 1) fun i h1 h2 => h i (by omega) (by omega)
theorem cst_s {m h : Nat} {q : Nat → Bool} {B : Mx} {c : Nat} : cst m h q B (c + 1) = if q c = true then stC m h c (cst m h q B c) else cst m h q B c := rfl
theorem stC_1 {m h c : Nat} {B : Mx} (h0 : 0 < h) (hb : B 0 c ≠ 0) : stC m h c (B, 0) = (elN m B 0 c h, 1) := by
  unfold stC
  show (match fp B c (h - 0) 0 with | none => (B, 0) | some p => (elN m (swp B p 0) 0 c h, 0 + 1)) = _
  rw [fp_first (by omega) hb]
  show (elN m (swp B 0 0) 0 c h, 0 + 1) = _
  rw [swp_same]
/-- what an elimination leaves where rows are multiples -/
theorem elR_0 {m k : Nat} {B : Mx} {c i d : Nat} (hm : Mok m) (hk : qt m (B i c) (B 0 c) = k) (hk2 : k < m) (h : eqm m (B i d) (k * B 0 d)) : elR m B 0 c i d = 0 := by
  have h1 := hm.le
  unfold elR
  rw [hk, Nat.add_mod, h, ← Nat.add_mod, ← Nat.add_mul, show k + (m - k) = m by omega, Nat.mul_mod_right]
theorem elR_e {m k : Nat} {B : Mx} {c i d : Nat} (hm : Mok m) (hk : qt m (B i c) (B 0 c) = k) (hk2 : k < m) (h : elR m B 0 c i d = 0) : eqm m (B i d) (k * B 0 d) := by
  have h1 := hm.le
  unfold elR at h
  rw [hk] at h
  have e : (B i d + (m - k) * B 0 d + k * B 0 d) % m = k * B 0 d % m := by
    rw [Nat.add_mod, h, Nat.zero_add, Nat.mod_mod]
  rw [Nat.add_assoc, ← Nat.add_mul, show m - k + k = m by omega, Nat.add_mul_mod_self_left] at e
  exact e
theorem cst_one {m h : Nat} {q : Nat → Bool} {B : Mx} (hm : Mok m) (hB : Bd m B) (hn : ∀ c, c < 6 → q c = true → ∀ i, i < h → B i c ≠ 0)
    (hz : ∀ c d i, c < 6 → d < 6 → q c = true → q d = true → i < h → 0 < i → eqm m (B i d * B 0 c) (B i c * B 0 d)) : ∀ c, c ≤ 6 → cst m h q B c = (B, 0) ∨ (h ≠ 0 ∧ (cst m h q B c).2 = 1 ∧ ∀ i d, 0 < i → i < h → d < 6 → q d = true → (cst m h q B c).1 i d = 0) := by
  have h1 := hm.le
  intro c
  induction c with
  | zero => exact fun _ => Or.inl rfl
  | succ c ih =>
    intro hc
    rw [cst_s]
    by_cases e : q c = true
    · rw [if_pos e]
      rcases ih (by omega) with g | ⟨g0, g1, g2⟩
      · rw [g]
        by_cases h0 : h = 0
        · left
          subst h0
          rfl
        · have b0 := hn c (by omega) e 0 (by omega)
          rw [stC_1 (by omega) b0]
          refine Or.inr ⟨h0, rfl, fun i d hi hih hd hq => ?_⟩
          show elN m B 0 c h i d = 0
          unfold elN
          rw [if_pos ⟨hi, hih⟩]
          have a := qt_ok m (by omega) hm (B i c) (hB i c) (B 0 c) (hB 0 c) (hn c (by omega) e i hih) b0
          refine elR_0 hm rfl a.1.2 ?_
          refine eqm.canc hm (k := B 0 c) (by rw [Nat.mod_eq_of_lt (hB 0 c)]; exact b0) ?_
          have k1 := hz c d i (by omega) hd e hq hih hi
          have k2 : eqm m (B i c) (qt m (B i c) (B 0 c) * B 0 c) := (Nat.mod_eq_of_lt (hB i c)).trans a.2.symm
          refine k1.tr ((k2.mul (eqm.rf m (B 0 d))).tr (eqm.of ?_))
          ac_rfl
      · refine Or.inr ?_
        have e2 : stC m h c (cst m h q B c) = cst m h q B c := by
          unfold stC
          rw [fp_none _ _ (fun i h1 h2 => g2 i c (by omega) (by omega) (by omega) e)]
        rw [e2]
        exact ⟨g0, g1, g2⟩
    · rw [if_neg e]
      exact ih (by omega)
theorem cst_mono {m h : Nat} {q : Nat → Bool} {B : Mx} (hm : 0 < m) (hB : Bd m B) {c : Nat} : ∀ d, c ≤ d → (cst m h q B c).2 ≤ (cst m h q B d).2 := by
  intro d
  induction d with
  | zero => intro h; rw [show c = 0 by omega]; exact Nat.le_refl _
  | succ d ih =>
    intro h
    by_cases e : c = d + 1
    · rw [e]; exact Nat.le_refl _
    · exact Nat.le_trans (ih (by omega)) (cst_le hm hB d)
theorem stC_up {m h c : Nat} {s : Mx × Nat} : s.2 ≤ (stC m h c s).2 := by
  unfold stC
  split
  · exact Nat.le_refl _
  · exact Nat.le_succ _
theorem cst_pos {m h : Nat} {q : Nat → Bool} {B : Mx} (hm : Mok m) (hB : Bd m B) {c : Nat} (hc : c < 6) (hq : q c = true) (h0 : 0 < h) (hn : ∀ c, c < 6 → q c = true → ∀ i, i < h → B i c ≠ 0) : 1 ≤ (cst m h q B 6).2 := by
  have h1 := hm.le
  have key : ∀ n, n ≤ 6 → cst m h q B n = (B, 0) ∧ (∀ k, k < n → q k = false) ∨ 1 ≤ (cst m h q B n).2 := by
    intro n
    induction n with
    | zero => exact fun _ => Or.inl ⟨rfl, fun k hk => absurd hk (Nat.not_lt_zero _)⟩
    | succ n ih =>
      intro hn6
      rw [cst_s]
      rcases ih (by omega) with ⟨g1, g2⟩ | g
      · by_cases e : q n = true
        · rw [if_pos e, g1, stC_1 h0 (hn n (by omega) e 0 h0)]
          exact Or.inr (Nat.le_refl _)
        · rw [if_neg e]
          refine Or.inl ⟨g1, fun k hk => ?_⟩
          by_cases ek : k = n
          · rw [ek]; exact Bool.eq_false_iff.mpr e
          · exact g2 k (by omega)
      · refine Or.inr ?_
        split
        · exact Nat.le_trans g stC_up
        · exact g
  rcases key 6 (Nat.le_refl _) with ⟨g1, g2⟩ | g
  · rw [g2 c hc] at hq; cases hq
  · exact g
theorem cst_two {m : Nat} {q : Nat → Bool} {B : Mx} (hm : Mok m) (hB : Bd m B) (hn : ∀ c, c < 6 → q c = true → ∀ i, i < 2 → B i c ≠ 0) : ∀ n, n ≤ 6 → (cst m 2 q B n = (B, 0) ∧ ∀ k, k < n → q k = false) ∨
    ((cst m 2 q B n).2 = 1 ∧ ∃ c0 k0, qt m (B 1 c0) (B 0 c0) = k0 ∧ k0 < m ∧ (∀ d, (cst m 2 q B n).1 1 d = elR m B 0 c0 1 d) ∧ ∀ k, k < n → q k = true → eqm m (B 1 k) (k0 * B 0 k)) ∨ 2 ≤ (cst m 2 q B n).2 := by
  have h1 := hm.le
  intro n
  induction n with
  | zero => exact fun _ => Or.inl ⟨rfl, fun k hk => absurd hk (Nat.not_lt_zero _)⟩
  | succ n ih =>
    intro hn6
    rw [cst_s]
    by_cases e : q n = true
    · rw [if_pos e]
      have b0 := hn n (by omega) e 0 (by omega)
      have b1 := hn n (by omega) e 1 (by omega)
      rcases ih (by omega) with ⟨g1, g2⟩ | ⟨g1, c0, k0, g2, g3, g4, g5⟩ | g
      · rw [g1, stC_1 (by omega) b0]
        have a := qt_ok m (by omega) hm (B 1 n) (hB 1 n) (B 0 n) (hB 0 n) b1 b0
        refine Or.inr (Or.inl ⟨rfl, n, _, rfl, a.1.2, fun d => ?_, fun k hk hq => ?_⟩)
        · show elN m B 0 n 2 1 d = _
          unfold elN
          rw [if_pos ⟨by omega, by omega⟩]
        · by_cases ek : k = n
          · subst ek
            exact (Nat.mod_eq_of_lt (hB 1 k)).trans a.2.symm
          · rw [g2 k (by omega)] at hq; cases hq
      · by_cases z : (cst m 2 q B n).1 1 n = 0
        · have e2 : stC m 2 n (cst m 2 q B n) = cst m 2 q B n := by
            unfold stC
            rw [fp_none _ _ (fun i h1 h2 => by rw [show i = 1 by omega]; exact z)]
          rw [e2]
          refine Or.inr (Or.inl ⟨g1, c0, k0, g2, g3, g4, fun k hk hq => ?_⟩)
          by_cases ek : k = n
          · subst ek
            rw [g4] at z
            exact elR_e hm g2 g3 z
          · exact g5 k (by omega) hq
        · refine Or.inr (Or.inr ?_)
          unfold stC
          have e3 : fp (cst m 2 q B n).1 n (2 - (cst m 2 q B n).2) (cst m 2 q B n).2 = some 1 := by
            rw [g1]
            exact if_neg z
          rw [e3]
          show 2 ≤ (cst m 2 q B n).2 + 1
          omega
      · exact Or.inr (Or.inr (Nat.le_trans g stC_up))
    · rw [if_neg e]
      rcases ih (by omega) with ⟨g1, g2⟩ | ⟨g1, c0, k0, g2, g3, g4, g5⟩ | g
      · refine Or.inl ⟨g1, fun k hk => ?_⟩
        by_cases ek : k = n
        · rw [ek]; exact Bool.eq_false_iff.mpr e
        · exact g2 k (by omega)
      · refine Or.inr (Or.inl ⟨g1, c0, k0, g2, g3, g4, fun k hk hq => ?_⟩)
        by_cases ek : k = n
        · rw [ek] at hq; exact absurd hq e
        · exact g5 k (by omega) hq
      · exact Or.inr (Or.inr g)
theorem colB_td {x : Gd} {S c : Nat} (h : colB x S 6 c = true) {r : Nat} (hr : r < 6) (hb : bit S r = true) : td x r c = true := by
  have := al_iff.mp h r hr
  rw [hb] at this
  exact this
theorem rank_b {x : Gd} (hx : Gok x) {S : Nat} : ∀ c, c < 6 → colB x S 6 c = true → ∀ i, i < (bld x S 6).1 → (bld x S 6).2 i c ≠ 0 := by
  intro c hc hq i hi
  obtain ⟨ρ, h1, h2⟩ := bld_rho (x := x) (S := S) 6
  obtain ⟨a, b, e⟩ := h1 i hi
  rw [e]
  exact td_pos (colB_td hq a b)
theorem bit_ex2 : ∀ S, S < 64 → S ≠ 0 → ∃ r, r < 6 ∧ bit S r = true := by
  have : ∀ S, S < 64 → S ≠ 0 → (bit S 0 || (bit S 1 || (bit S 2 || (bit S 3 || (bit S 4 || bit S 5))))) = true := by decide +kernel
  intro S h1 h2
  have h := this S h1 h2
  simp only [Bool.or_eq_true] at h
  rcases h with h | h | h | h | h | h
  · exact ⟨0, by omega, h⟩
  · exact ⟨1, by omega, h⟩
  · exact ⟨2, by omega, h⟩
  · exact ⟨3, by omega, h⟩
  · exact ⟨4, by omega, h⟩
  · exact ⟨5, by omega, h⟩
theorem bit_p : ∀ r, r < 6 → (2 ^ r < 64 ∧ 2 ^ r ≠ 0) ∧ ct 6 (bit (2 ^ r)) = 1 ∧ ∀ k, k < 6 → bit (2 ^ r) k = decide (k = r) := by decide +kernel
theorem bit_pp : ∀ s, s < 6 → ∀ r, r < s → (2 ^ r + 2 ^ s < 64 ∧ 2 ^ r + 2 ^ s ≠ 0) ∧ ct 6 (bit (2 ^ r + 2 ^ s)) = 2 ∧ ∀ k, k < 6 → bit (2 ^ r + 2 ^ s) k = (decide (k = r) || decide (k = s)) := by decide +kernel
theorem told_0 {x : Gd} (hx : Gok x) (h : told x = 0) {r c : Nat} (hc : c < 6) : td x r c = false := by
  cases e : td x r c with
  | false => rfl
  | true =>
    obtain ⟨a, b⟩ := td_lt hx hc e
    rw [told_dd hx] at h
    have := sm_eq0 (sm_eq0 h r a) c b
    rw [if_pos e] at this
    exact absurd this (by decide)
theorem told_ex {x : Gd} (hx : Gok x) (h : told x ≠ 0) : ∃ r c, r < x.1.1 ∧ c < x.1.2.1 ∧ td x r c = true := by
  refine Classical.byContradiction fun z => h ?_
  rw [told_dd hx]
  refine sm_zero fun r hr => sm_zero fun c hc => if_neg fun w => z ⟨r, c, hr, hc, w⟩
theorem rank_0 {x : Gd} (hx : Gok x) (h : told x = 0) : mxTo (rkF x) 64 = 0 := by
  have e : ∀ k, k < 64 → rkF x k = 0 := by
    intro k hk
    unfold rkF
    split
    · rfl
    · rename_i k0
      obtain ⟨r, h1, h2⟩ := bit_ex2 k hk k0
      unfold rankSet
      have hq : ∀ c, c < 6 → colB x k 6 c = false := fun c hc => al_false (k := r) h1 (by rw [h2, told_0 hx h hc]; rfl)
      rw [cst_nil hq 6 (Nat.le_refl _)]
  have h2 := mxTo_more (f := rkF x) (n := 0) (m := 64) (by omega) (fun k _ hk => e k hk)
  rw [h2]; rfl
theorem rank_le1 {x : Gd} (hx : Gok x) (h : mAll x true = 0) (S : Nat) : rankSet x S ≤ 1 := by
  obtain ⟨ρ, h1, h2⟩ := bld_rho (x := x) (S := S) 6
  have hB : Bd x.1.2.2 (bld x S 6).2 := fun i j => bld_lt hx i j
  unfold rankSet
  rcases cst_one hx.2.2.1 hB (rank_b hx) (q := colB x S 6) (h := (bld x S 6).1) (fun c d i hc hd q1 q2 hi hi0 => by
    obtain ⟨a1, a2, a3⟩ := h1 i hi
    obtain ⟨b1, b2, b3⟩ := h1 0 (by omega)
    rw [a3, b3]
    have t1 := colB_td q1 a1 a2
    have t2 := colB_td q1 b1 b2
    have t3 := colB_td q2 a1 a2
    have t4 := colB_td q2 b1 b2
    have l1 := td_lt hx hc t1
    have l2 := td_lt hx hc t2
    have l3 := td_lt hx hd t3
    have hr := h2 0 i hi hi0
    rcases Nat.lt_trichotomy c d with z | z | z
    · refine (eqm.of ?_).tr ((minors_0 h l2.1 l1.1 l1.2 l3.2 hr z t2 t4 t1 t3).tr (eqm.of ?_))
      · exact Nat.mul_comm _ _
      · exact Nat.mul_comm _ _
    · rw [z]; exact eqm.rf _ _
    · refine (eqm.of ?_).tr ((minors_0 h l2.1 l1.1 l3.2 l1.2 hr z t4 t2 t3 t1).sy.tr (eqm.of ?_))
      · exact Nat.mul_comm _ _
      · exact Nat.mul_comm _ _) 6 (Nat.le_refl _) with g | ⟨_, g, _⟩
  · rw [g]; exact Nat.zero_le 1
  · omega
theorem rank_ge1 {x : Gd} (hx : Gok x) (h : told x ≠ 0) : 1 ≤ mxTo (rkF x) 64 := by
  have hR := hx.1
  have hC := hx.2.1
  obtain ⟨r, c, hr, hc, ht⟩ := told_ex hx h
  obtain ⟨⟨p1, p2⟩, p3, p4⟩ := bit_p r (by omega)
  have hB : Bd x.1.2.2 (bld x (2 ^ r) 6).2 := fun i j => bld_lt hx i j
  have e1 : (bld x (2 ^ r) 6).1 = 1 := by rw [bld_ct, p3]
  have hq : colB x (2 ^ r) 6 c = true := al_iff.mpr fun k hk => by
    rw [p4 k hk]
    by_cases e : k = r
    · rw [e, ht]; simp
    · rw [decide_eq_false e]; rfl
  have a := cst_pos hx.2.2.1 hB (c := c) (by omega) hq (by rw [e1]; omega) (rank_b hx)
  refine Nat.le_trans ?_ (mxTo_at p1)
  unfold rkF
  rw [if_neg p2]
  exact a
theorem rank_1 {x : Gd} (hx : Gok x) (h : told x ≠ 0) (h0 : mAll x true = 0) : mxTo (rkF x) 64 = 1 := by
  refine Nat.le_antisymm (mxTo_le (fun k => ?_) 64) (rank_ge1 hx h)
  unfold rkF
  split
  · exact Nat.zero_le _
  · exact rank_le1 hx h0 k
theorem rank_2 {x : Gd} (hx : Gok x) (h0 : mAll x true ≠ 0) : 2 ≤ mxTo (rkF x) 64 := by
  have hR := hx.1
  have hC := hx.2.1
  obtain ⟨r, s, c, d, hr, hs, hc, hd, hrs, hcd, ⟨t1, t2, t3, t4⟩, hne⟩ := minors_1 h0
  obtain ⟨⟨p1, p2⟩, p3, p4⟩ := bit_pp s (by omega) r hrs
  have hB : Bd x.1.2.2 (bld x (2 ^ r + 2 ^ s) 6).2 := fun i j => bld_lt hx i j
  have e1 : (bld x (2 ^ r + 2 ^ s) 6).1 = 2 := by rw [bld_ct, p3]
  obtain ⟨ρ, g1, g2⟩ := bld_rho (x := x) (S := 2 ^ r + 2 ^ s) 6
  rw [e1] at g1 g2
  obtain ⟨a1, a2, a3⟩ := g1 0 (by omega)
  obtain ⟨b1, b2, b3⟩ := g1 1 (by omega)
  have ab := g2 0 1 (by omega) (by omega)
  have ra : ρ 0 = r := by
    rw [p4 _ a1] at a2
    rw [p4 _ b1] at b2
    simp only [Bool.or_eq_true, decide_eq_true_eq] at a2 b2
    omega
  have rb : ρ 1 = s := by
    rw [p4 _ a1] at a2
    rw [p4 _ b1] at b2
    simp only [Bool.or_eq_true, decide_eq_true_eq] at a2 b2
    omega
  have hq : ∀ c, td x r c = true → td x s c = true → colB x (2 ^ r + 2 ^ s) 6 c = true := fun c t1 t2 => al_iff.mpr fun k hk => by
    rw [p4 k hk]
    by_cases e : k = r
    · rw [e, t1]; simp
    · by_cases e2 : k = s
      · rw [e2, t2]; simp
      · rw [decide_eq_false e, decide_eq_false e2]; rfl
  refine Nat.le_trans ?_ (mxTo_at p1)
  unfold rkF
  rw [if_neg p2]
  unfold rankSet
  have hb := rank_b (S := 2 ^ r + 2 ^ s) hx
  rw [e1] at hb ⊢
  have q1 := hq c t1 t3
  have q2 := hq d t2 t4
  rcases cst_two hx.2.2.1 hB hb 6 (Nat.le_refl _) with ⟨_, g⟩ | ⟨_, c0, k0, _, _, _, g⟩ | g
  · rw [g c (by omega)] at q1; cases q1
  · exfalso
    refine hne ?_
    have k1 := g c (by omega) q1
    have k2 := g d (by omega) q2
    rw [a3, b3, ra, rb] at k1 k2
    refine ((eqm.rf _ (at' x r c)).mul k2).tr (eqm.tr (eqm.of ?_) ((eqm.rf _ (at' x r d)).mul k1).sy)
    ac_rfl
  · exact g
