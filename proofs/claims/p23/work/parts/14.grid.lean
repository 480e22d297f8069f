/-! ===== sums, masks, grids: pure; contracts of bitCount and of Grid ===== -/
def sm : Nat → (Nat → Nat) → Nat
  | 0, _ => 0
  | n + 1, f => sm n f + f n
def mk : Nat → (Nat → Bool) → Nat
  | 0, _ => 0
  | n + 1, p => mk n p + (if p n then 2 ^ n else 0)
def ct (n : Nat) (p : Nat → Bool) : Nat := sm n (fun k => if p k then 1 else 0)
def pc6 (x : Nat) : Nat := sm 6 (fun k => x / 2 ^ k % 2)
theorem sm_congr {n : Nat} {f g : Nat → Nat} (h : ∀ k, k < n → f k = g k) : sm n f = sm n g := by
  induction n with
  | zero => rfl
  | succ n ih => unfold sm; rw [ih (fun k hk => h k (by omega)), h n (by omega)]
theorem sm_zero {n : Nat} {f : Nat → Nat} (h : ∀ k, k < n → f k = 0) : sm n f = 0 := by
  induction n with
  | zero => rfl
  | succ n ih => unfold sm; rw [ih (fun k hk => h k (by omega)), h n (by omega)]
theorem sm_add {n : Nat} {f g : Nat → Nat} : sm n (fun k => f k + g k) = sm n f + sm n g := by
  induction n with
  | zero => rfl
  | succ n ih =>
    show sm n (fun k => f k + g k) + (f n + g n) = (sm n f + f n) + (sm n g + g n)
    rw [ih]; omega
theorem sm_mul {n a : Nat} {f : Nat → Nat} : sm n (fun k => a * f k) = a * sm n f := by
  induction n with
  | zero => rfl
  | succ n ih => unfold sm; rw [ih, Nat.mul_add]
theorem sm_mulr {n a : Nat} {f : Nat → Nat} : sm n (fun k => f k * a) = sm n f * a := by
  induction n with
  | zero => simp [sm]
  | succ n ih => unfold sm; rw [ih, Nat.add_mul]
theorem sm_comm {n m : Nat} {f : Nat → Nat → Nat} : sm n (fun i => sm m (fun j => f i j)) = sm m (fun j => sm n (fun i => f i j)) := by
  induction n with
  | zero => exact (sm_zero fun _ _ => rfl).symm
  | succ n ih =>
    show sm n (fun i => sm m (fun j => f i j)) + sm m (fun j => f n j) = _
    rw [ih, ← sm_add]
    rfl
theorem sm_more {n m : Nat} {f : Nat → Nat} (hnm : n ≤ m) (h : ∀ k, n ≤ k → k < m → f k = 0) : sm m f = sm n f := by
  induction m with
  | zero => rw [show n = 0 by omega]
  | succ m ih =>
    by_cases e : n = m + 1
    · rw [e]
    · show sm m f + f m = sm n f
      rw [ih (by omega) (fun k h1 h2 => h k h1 (by omega)), h m (by omega) (by omega)]; rfl
theorem sm_split {n m : Nat} {f : Nat → Nat} : sm (n * m) f = sm n (fun i => sm m (fun j => f (m * i + j))) := by
  induction n with
  | zero => simp [sm]
  | succ n ih =>
    have key : ∀ k, sm (n * m + k) f = sm (n * m) f + sm k (fun j => f (m * n + j)) := by
      intro k
      induction k with
      | zero => rfl
      | succ k ih2 =>
        show sm (n * m + k) f + f (n * m + k) = _
        rw [ih2, Nat.mul_comm n m]
        show _ = sm (m * n) f + (sm k (fun j => f (m * n + j)) + f (m * n + k))
        omega
    rw [Nat.succ_mul, key m, ih]
    rfl
theorem sm_le {n b : Nat} {f : Nat → Nat} (h : ∀ k, k < n → f k ≤ b) : sm n f ≤ n * b := by
  induction n with
  | zero => simp [sm]
  | succ n ih =>
    have h1 := ih (fun k hk => h k (by omega))
    have h2 := h n (by omega)
    unfold sm
    rw [Nat.succ_mul]
    omega
theorem mk_lt {n : Nat} {p : Nat → Bool} : mk n p < 2 ^ n := by
  induction n with
  | zero => simp [mk]
  | succ n ih => unfold mk; rw [Nat.pow_succ]; split <;> omega
theorem mk_congr {n : Nat} {p q : Nat → Bool} (h : ∀ k, k < n → p k = q k) : mk n p = mk n q := by
  induction n with
  | zero => rfl
  | succ n ih => unfold mk; rw [ih (fun k hk => h k (by omega)), h n (by omega)]
theorem mk_more {n m : Nat} {p : Nat → Bool} (hnm : n ≤ m) (h : ∀ k, n ≤ k → k < m → p k = false) : mk m p = mk n p := by
  induction m with
  | zero => rw [show n = 0 by omega]
  | succ m ih =>
    by_cases e : n = m + 1
    · rw [e]
    · show mk m p + (if p m then 2 ^ m else 0) = mk n p
      rw [ih (by omega) (fun k h1 h2 => h k h1 (by omega)), h m (by omega) (by omega)]
      simp
theorem mk_bit {n : Nat} {p : Nat → Bool} {k : Nat} (hk : k < n) : mk n p / 2 ^ k % 2 = if p k then 1 else 0 := by
  induction n with
  | zero => omega
  | succ n ih =>
    unfold mk
    by_cases e : k = n
    · subst e
      have h1 := mk_lt (n := k) (p := p)
      split
      · rw [Nat.add_div_right _ (Nat.two_pow_pos k), Nat.div_eq_of_lt h1]
      · rw [Nat.add_zero, Nat.div_eq_of_lt h1]
    · have hk' : k < n := by omega
      rw [← ih hk']
      split
      · have : 2 ^ n = 2 ^ k * (2 * 2 ^ (n - k - 1)) := by
          rw [← Nat.mul_assoc, Nat.mul_comm (2 ^ k) 2, Nat.mul_assoc, ← Nat.pow_add, ← Nat.pow_succ', show (k + (n - k - 1)).succ = n by omega]
        rw [this, Nat.add_mul_div_left _ _ (Nat.two_pow_pos k)]
        omega
      · rfl
theorem pc6_mk {p : Nat → Bool} : pc6 (mk 6 p) = ct 6 p := sm_congr fun _ hk => mk_bit hk
/-- n is the or of a mask below 2^n and the bit n -/
theorem nI_or_bit : ∀ n, n < 6 → ∀ m, m < 2 ^ n → (nI m) ||| (nI 1 <<< (nI n &&& 31)) = nI (m + 2 ^ n) := by decide +kernel
theorem mk_or {n : Nat} {p : Nat → Bool} (hn : n < 6) (hp : p n = true) : (nI (mk n p)) ||| (nI 1 <<< (nI n &&& 31)) = nI (mk (n + 1) p) := by
  rw [nI_or_bit n hn _ mk_lt]
  show _ = nI (mk n p + (if p n then 2 ^ n else 0))
  rw [hp]; rfl
theorem mk_skip {n : Nat} {p : Nat → Bool} (hp : p n = false) : mk (n + 1) p = mk n p := by
  show mk n p + (if p n then 2 ^ n else 0) = mk n p
  rw [hp]; rfl
set_option maxRecDepth 4000 in
theorem c_Int_bitCount {l : Launch} {h : sH} {x : Nat} (hx : x < 64) : sX l m_Int_bitCount 0 [.int (nI x)] h (some (.int (nI (pc6 x)))) (h) := by
  refine en_Int_bitCount ?_
  refine e_iload_0 (p' := 1) D_Int_bitCount_0 rfl ?_
  refine e_iload_0 (p' := 2) D_Int_bitCount_1 rfl ?_
  refine e_iconst (v := nI 1) (p' := 3) D_Int_bitCount_2 cst_iconst_1 rfl ?_
  refine e_iushr (p' := 4) D_Int_bitCount_3 rfl rfl ?_
  refine e_ldcw (p' := 7) D_Int_bitCount_4 K_Int_265 rfl ?_
  refine e_iand (p' := 8) D_Int_bitCount_7 rfl ?_
  first | refine e_isubN (p' := 9) D_Int_bitCount_8 (by omega) rfl ?_ | refine e_isub (p' := 9) D_Int_bitCount_8 rfl ?_
  refine e_istore_0 (p' := 10) D_Int_bitCount_9 (Nat.le_of_ble_eq_true rfl) rfl ?_
  refine e_iload_0 (p' := 11) D_Int_bitCount_10 rfl ?_
  refine e_ldcw (p' := 14) D_Int_bitCount_11 K_Int_266 rfl ?_
  refine e_iand (p' := 15) D_Int_bitCount_14 rfl ?_
  refine e_iload_0 (p' := 16) D_Int_bitCount_15 rfl ?_
  refine e_iconst (v := nI 2) (p' := 17) D_Int_bitCount_16 cst_iconst_2 rfl ?_
  refine e_iushr (p' := 18) D_Int_bitCount_17 rfl rfl ?_
  refine e_ldcw (p' := 21) D_Int_bitCount_18 K_Int_266 rfl ?_
  refine e_iand (p' := 22) D_Int_bitCount_21 rfl ?_
  first | refine e_iaddN (p' := 23) D_Int_bitCount_22 rfl ?_ | refine e_iadd (p' := 23) D_Int_bitCount_22 rfl ?_
  refine e_istore_0 (p' := 24) D_Int_bitCount_23 (Nat.le_of_ble_eq_true rfl) rfl ?_
  refine e_iload_0 (p' := 25) D_Int_bitCount_24 rfl ?_
  refine e_iload_0 (p' := 26) D_Int_bitCount_25 rfl ?_
  refine e_iconst (v := nI 4) (p' := 27) D_Int_bitCount_26 cst_iconst_4 rfl ?_
  refine e_iushr (p' := 28) D_Int_bitCount_27 rfl rfl ?_
  first | refine e_iaddN (p' := 29) D_Int_bitCount_28 rfl ?_ | refine e_iadd (p' := 29) D_Int_bitCount_28 rfl ?_
  refine e_ldcw (p' := 32) D_Int_bitCount_29 K_Int_267 rfl ?_
  refine e_iand (p' := 33) D_Int_bitCount_32 rfl ?_
  refine e_istore_0 (p' := 34) D_Int_bitCount_33 (Nat.le_of_ble_eq_true rfl) rfl ?_
  refine e_iload_0 (p' := 35) D_Int_bitCount_34 rfl ?_
  refine e_iload_0 (p' := 36) D_Int_bitCount_35 rfl ?_
  refine e_bipush (v := nI 8) (p' := 38) D_Int_bitCount_36 cst_bipush_8 rfl ?_
  refine e_iushr (p' := 39) D_Int_bitCount_38 rfl rfl ?_
  first | refine e_iaddN (p' := 40) D_Int_bitCount_39 rfl ?_ | refine e_iadd (p' := 40) D_Int_bitCount_39 rfl ?_
  refine e_istore_0 (p' := 41) D_Int_bitCount_40 (Nat.le_of_ble_eq_true rfl) rfl ?_
  refine e_iload_0 (p' := 42) D_Int_bitCount_41 rfl ?_
  refine e_iload_0 (p' := 43) D_Int_bitCount_42 rfl ?_
  refine e_bipush (v := nI 16) (p' := 45) D_Int_bitCount_43 cst_bipush_16 rfl ?_
  refine e_iushr (p' := 46) D_Int_bitCount_45 rfl rfl ?_
  first | refine e_iaddN (p' := 47) D_Int_bitCount_46 rfl ?_ | refine e_iadd (p' := 47) D_Int_bitCount_46 rfl ?_
  refine e_istore_0 (p' := 48) D_Int_bitCount_47 (Nat.le_of_ble_eq_true rfl) rfl ?_
  refine e_iload_0 (p' := 49) D_Int_bitCount_48 rfl ?_
  refine e_bipush (v := nI 63) (p' := 51) D_Int_bitCount_49 cst_bipush_63 rfl ?_
  refine e_iand (p' := 52) D_Int_bitCount_51 rfl ?_
  refine e_ireturn (ty := .int) D_Int_bitCount_52 rfl (by first | rfl | exact sBo_nar _) ⟨by decide, by decide⟩ ?_
  refine ⟨?_, rfl⟩
  revert x
  decide +kernel
-- a grid: ((rows, columns, modulus), numbers by place)
abbrev Gd : Type := (Nat × Nat × Nat) × (Nat → Nat)
def GridAt (h : sH) (g : Nat) (x : Gd) : Prop := h.2 g = oC 0 [.ref (g + 1), .int (nI x.1.1), .int (nI x.1.2.1), .int (nI x.1.2.2)] ∧ h.2 (g + 1) = oC 3 [.ref (g + 2)] ∧ h.2 (g + 2) = iA 36 (nF x.2)
def Mok (m : Nat) : Prop := m = 5 ∨ m = 7 ∨ m = 11 ∨ m = 13
def Gok (x : Gd) : Prop := (2 ≤ x.1.1 ∧ x.1.1 ≤ 6) ∧ (2 ≤ x.1.2.1 ∧ x.1.2.1 ≤ 6) ∧ Mok x.1.2.2 ∧ (∀ p, x.2 p < x.1.2.2) ∧ ∀ p, (x.1.1 ≤ p / 6 ∨ x.1.2.1 ≤ p % 6) → x.2 p = 0
theorem Mok.le {m : Nat} (h : Mok m) : 5 ≤ m ∧ m ≤ 13 := by unfold Mok at h; omega
def at' (x : Gd) (r c : Nat) : Nat := x.2 (6 * r + c)
def td (x : Gd) (r c : Nat) : Bool := decide (0 < at' x r c)
theorem Gok.out {x : Gd} (h : Gok x) {r c : Nat} (hc : c < 6) (ho : x.1.1 ≤ r ∨ x.1.2.1 ≤ c) : at' x r c = 0 := by
  refine h.2.2.2.2 _ ?_
  rw [show (6 * r + c) / 6 = r by omega, show (6 * r + c) % 6 = c by omega]
  exact ho
theorem Gok.lt {x : Gd} (h : Gok x) (r c : Nat) : at' x r c < x.1.2.2 := h.2.2.2.1 _
theorem Gok.small {x : Gd} (h : Gok x) (r c : Nat) : at' x r c < 13 := Nat.lt_of_lt_of_le (h.lt r c) h.2.2.1.le.2
def gMask (x : Gd) (r : Nat) : Nat := mk 6 (td x r)
theorem gMask_C {x : Gd} (h : Gok x) (r : Nat) : mk x.1.2.1 (td x r) = gMask x r := by
  refine (mk_more h.2.1.2 fun k h1 h2 => ?_).symm
  unfold td
  rw [h.out h2 (Or.inr h1)]; rfl
/-- how many entries are told -/
def told (x : Gd) : Nat := sm 36 (fun p => if 0 < x.2 p then 1 else 0)
theorem told_rows {x : Gd} (h : Gok x) : sm x.1.1 (fun r => ct 6 (td x r)) = told x := by
  unfold told
  rw [show 36 = 6 * 6 from rfl, sm_split]
  rw [← sm_more (m := 6) h.1.2]
  · refine sm_congr fun r _ => sm_congr fun c _ => ?_
    unfold td at'
    simp
  · intro r h1 h2
    refine sm_zero fun c hc => ?_
    unfold td
    rw [h.out hc (Or.inl h1)]; rfl
/-- the least number that gives the dividend with the divisor -/
def qtF (m a b : Nat) : Nat → Nat → Nat
  | 0, _ => 0
  | n + 1, k => if k * b % m = a then k else qtF m a b n (k + 1)
def qt (m a b : Nat) : Nat := qtF m a b m 0
def gHas (x : Gd) (row col : Int32) : Bool := decide (0 ≤ row) && (decide (row < nI x.1.1) && (decide (0 ≤ col) && decide (col < nI x.1.2.1)))
theorem gHas_N {x : Gd} {r c : Nat} (hx : Gok x) (hr : r < 2 ^ 31) (hc : c < 2 ^ 31) : gHas x (nI r) (nI c) = (decide (r < x.1.1) && decide (c < x.1.2.1)) := by
  unfold gHas
  have h1 := hx.1
  have h2 := hx.2.1
  have e1 : decide ((0 : Int32) ≤ nI r) = true := decide_eq_true (nI_pos' hr)
  have e2 : decide ((0 : Int32) ≤ nI c) = true := decide_eq_true (nI_pos' hc)
  have e3 := nI_ltI (a := r) (b := x.1.1) hr (by omega)
  have e4 := nI_ltI (a := c) (b := x.1.2.1) hc (by omega)
  simp [e1, e2, e3, e4]
theorem gHas_f {x : Gd} {row col : Int32} (h : row < 0 ∨ nI x.1.1 ≤ row ∨ col < 0 ∨ nI x.1.2.1 ≤ col) : gHas x row col = false := by
  unfold gHas
  rcases h with h | h | h | h
  · rw [decide_eq_false (Int32.not_le.mpr h)]; rfl
  · rw [decide_eq_false (Int32.not_lt.mpr h)]; simp
  · rw [decide_eq_false (Int32.not_le.mpr h)]; simp
  · rw [decide_eq_false (Int32.not_lt.mpr h)]; simp
theorem gHas_t {x : Gd} {row col : Int32} (h1 : ¬ row < 0) (h2 : ¬ nI x.1.1 ≤ row) (h3 : ¬ col < 0) (h4 : ¬ nI x.1.2.1 ≤ col) : gHas x row col = true := by
  unfold gHas
  rw [decide_eq_true (Int32.not_lt.mp h1), decide_eq_true (Int32.not_le.mp h2), decide_eq_true (Int32.not_lt.mp h3), decide_eq_true (Int32.not_le.mp h4)]; rfl
/-- the heap with another grid at g -/
def gSet (h : sH) (g : Nat) (x : Gd) : sH := sUp (sUp h g (oC 0 [.ref (g + 1), .int (nI x.1.1), .int (nI x.1.2.1), .int (nI x.1.2.2)])) (g + 2) (iA 36 (nF x.2))
theorem gSet_ne {h : sH} {g a : Nat} {x : Gd} (h1 : a ≠ g) (h2 : a ≠ g + 2) : (gSet h g x).2 a = h.2 a := by
  unfold gSet
  rw [sUp_ne h2, sUp_ne h1]
theorem gSet_at {h : sH} {g : Nat} {x y : Gd} (hG : GridAt h g y) : GridAt (gSet h g x) g x :=
  ⟨by unfold gSet; rw [sUp_ne (by omega), sUp_eq], by rw [gSet_ne (by omega) (by omega)]; exact hG.2.1, by unfold gSet; rw [sUp_eq]⟩
theorem GridAt.kept {h h' : sH} {g : Nat} {x : Gd} (hG : GridAt h g x) (h1 : h'.2 g = h.2 g) (h2 : h'.2 (g + 1) = h.2 (g + 1)) (h3 : h'.2 (g + 2) = h.2 (g + 2)) : GridAt h' g x :=
  ⟨h1.trans hG.1, h2.trans hG.2.1, h3.trans hG.2.2⟩
theorem GridAt.off {h : sH} {g a : Nat} {x y : Gd} (hG : GridAt h g x) (n : g + 3 ≤ a ∨ a + 3 ≤ g) : GridAt (gSet h a y) g x :=
  hG.kept (gSet_ne (by omega) (by omega)) (gSet_ne (by omega) (by omega)) (gSet_ne (by omega) (by omega))
set_option maxRecDepth 4000 in
theorem c_Grid_rows {l : Launch} {h : sH} {g : Nat} {x : Gd} (hG : GridAt h g x) : sX l m_Grid_rows 0 [.ref g] h (some (.int (nI x.1.1))) (h) := by
  obtain ⟨g0, g1, g2⟩ := hG
  refine en_Grid_rows ?_
  refine e_aload_0 (p' := 1) D_Grid_rows_0 rfl ?_
  refine e_getfield (p' := 4) D_Grid_rows_1 F_Grid_20 (by first | assumption | exact sUp_eq | (rw [sUp_ne (by omega)]; assumption) | (rw [sUp_ne (by omega), sUp_ne (by omega)]; assumption) | (rw [sUp_ne (by omega)]; exact sUp_eq) | (simp [sUp]; done)) (by rfl) rfl ?_
  refine e_ireturn (ty := .int) D_Grid_rows_4 rfl (by first | rfl | exact sBo_nar _) ⟨by decide, by decide⟩ ?_
  exact ⟨by first | rfl | (simp; done) | (simp [*]; done), by first | rfl | (simp; done)⟩
set_option maxRecDepth 4000 in
theorem c_Grid_columns {l : Launch} {h : sH} {g : Nat} {x : Gd} (hG : GridAt h g x) : sX l m_Grid_columns 0 [.ref g] h (some (.int (nI x.1.2.1))) (h) := by
  obtain ⟨g0, g1, g2⟩ := hG
  refine en_Grid_columns ?_
  refine e_aload_0 (p' := 1) D_Grid_columns_0 rfl ?_
  refine e_getfield (p' := 4) D_Grid_columns_1 F_Grid_24 (by first | assumption | exact sUp_eq | (rw [sUp_ne (by omega)]; assumption) | (rw [sUp_ne (by omega), sUp_ne (by omega)]; assumption) | (rw [sUp_ne (by omega)]; exact sUp_eq) | (simp [sUp]; done)) (by rfl) rfl ?_
  refine e_ireturn (ty := .int) D_Grid_columns_4 rfl (by first | rfl | exact sBo_nar _) ⟨by decide, by decide⟩ ?_
  exact ⟨by first | rfl | (simp; done) | (simp [*]; done), by first | rfl | (simp; done)⟩
set_option maxRecDepth 4000 in
theorem c_Grid_modulus {l : Launch} {h : sH} {g : Nat} {x : Gd} (hG : GridAt h g x) : sX l m_Grid_modulus 0 [.ref g] h (some (.int (nI x.1.2.2))) (h) := by
  obtain ⟨g0, g1, g2⟩ := hG
  refine en_Grid_modulus ?_
  refine e_aload_0 (p' := 1) D_Grid_modulus_0 rfl ?_
  refine e_getfield (p' := 4) D_Grid_modulus_1 F_Grid_27 (by first | assumption | exact sUp_eq | (rw [sUp_ne (by omega)]; assumption) | (rw [sUp_ne (by omega), sUp_ne (by omega)]; assumption) | (rw [sUp_ne (by omega)]; exact sUp_eq) | (simp [sUp]; done)) (by rfl) rfl ?_
  refine e_ireturn (ty := .int) D_Grid_modulus_4 rfl (by first | rfl | exact sBo_nar _) ⟨by decide, by decide⟩ ?_
  exact ⟨by first | rfl | (simp; done) | (simp [*]; done), by first | rfl | (simp; done)⟩
set_option maxRecDepth 4000 in
theorem c_Grid_has {l : Launch} {h : sH} {g : Nat} {x : Gd} (hG : GridAt h g x) {row col : Int32} : sX l m_Grid_has 0 [.ref g, .int row, .int col] h (some (.int (sBo (gHas x row col)))) (h) := by
  obtain ⟨g0, g1, g2⟩ := hG
  refine en_Grid_has ?_
  have jn28 : gHas x row col = false → sEv l m_Grid_has 0 (0, 0, 0, 0) (sKm 0 0 (fun r1 h1 => r1 = some (.int (sBo (gHas x row col))) ∧ h1 = h)) 28 [none, none, none] [] h := by
    intro hf
    refine e_iconst (v := nI 0) (p' := 29) D_Grid_has_28 cst_iconst_0 rfl ?_
    refine e_ireturn (ty := .boolean) D_Grid_has_29 rfl (by first | rfl | exact sBo_nar _) ⟨by decide, by decide⟩ ?_
    refine ⟨?_, rfl⟩
    first | (rw [hf]; rfl) | (rw [gHas_t hc1 hc9 hc13 hc21]; rfl)
  refine e_iload_1 (p' := 1) D_Grid_has_0 rfl ?_
  refine e_if_lt (q := 28) (p' := 4) D_Grid_has_1 rfl rfl (fun hc1 => ?_) (fun hc1 => ?_)
  ·
    refine sEv.castW (jn28 (gHas_f (by simp only [*, true_or, or_true]))) ?_ ?_ ?_
    · first | exact lvW_rfl _ | (simp [lvW]; done) | (simp [lvW, *]; done) | (simp [lvW]; omega)
    · rfl
    · first | rfl | (simp; done)
  ·
    refine e_iload_1 (p' := 5) D_Grid_has_4 rfl ?_
    refine e_aload_0 (p' := 6) D_Grid_has_5 rfl ?_
    refine e_getfield (p' := 9) D_Grid_has_6 F_Grid_20 (by first | assumption | exact sUp_eq | (rw [sUp_ne (by omega)]; assumption) | (rw [sUp_ne (by omega), sUp_ne (by omega)]; assumption) | (rw [sUp_ne (by omega)]; exact sUp_eq) | (simp [sUp]; done)) (by rfl) rfl ?_
    refine e_icmp_ge (q := 28) (p' := 12) D_Grid_has_9 rfl rfl (fun hc9 => ?_) (fun hc9 => ?_)
    ·
      refine sEv.castW (jn28 (gHas_f (by simp only [*, true_or, or_true]))) ?_ ?_ ?_
      · first | exact lvW_rfl _ | (simp [lvW]; done) | (simp [lvW, *]; done) | (simp [lvW]; omega)
      · rfl
      · first | rfl | (simp; done)
    ·
      refine e_iload_2 (p' := 13) D_Grid_has_12 rfl ?_
      refine e_if_lt (q := 28) (p' := 16) D_Grid_has_13 rfl rfl (fun hc13 => ?_) (fun hc13 => ?_)
      ·
        refine sEv.castW (jn28 (gHas_f (by simp only [*, true_or, or_true]))) ?_ ?_ ?_
        · first | exact lvW_rfl _ | (simp [lvW]; done) | (simp [lvW, *]; done) | (simp [lvW]; omega)
        · rfl
        · first | rfl | (simp; done)
      ·
        refine e_iload_2 (p' := 17) D_Grid_has_16 rfl ?_
        refine e_aload_0 (p' := 18) D_Grid_has_17 rfl ?_
        refine e_getfield (p' := 21) D_Grid_has_18 F_Grid_24 (by first | assumption | exact sUp_eq | (rw [sUp_ne (by omega)]; assumption) | (rw [sUp_ne (by omega), sUp_ne (by omega)]; assumption) | (rw [sUp_ne (by omega)]; exact sUp_eq) | (simp [sUp]; done)) (by rfl) rfl ?_
        refine e_icmp_ge (q := 28) (p' := 24) D_Grid_has_21 rfl rfl (fun hc21 => ?_) (fun hc21 => ?_)
        ·
          refine sEv.castW (jn28 (gHas_f (by simp only [*, true_or, or_true]))) ?_ ?_ ?_
          · first | exact lvW_rfl _ | (simp [lvW]; done) | (simp [lvW, *]; done) | (simp [lvW]; omega)
          · rfl
          · first | rfl | (simp; done)
        ·
          refine e_iconst (v := nI 1) (p' := 25) D_Grid_has_24 cst_iconst_1 rfl ?_
          refine e_goto (p' := 29) D_Grid_has_25 rfl ?_
          refine e_ireturn (ty := .boolean) D_Grid_has_29 rfl (by first | rfl | exact sBo_nar _) ⟨by decide, by decide⟩ ?_
          refine ⟨?_, rfl⟩
          first | (rw [hf]; rfl) | (rw [gHas_t hc1 hc9 hc13 hc21]; rfl)
