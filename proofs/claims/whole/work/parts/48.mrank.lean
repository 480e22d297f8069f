/-! ===== the reference: the rank ===== -/
theorem clr_eq : ∀ m, m < 14 → ∀ a, a < m → ∀ b, b < m → ∀ q, q < m → (a + m - q * b % m) % m = (a + (m - q) * b) % m := by decide +kernel
theorem fp_congr {B B' : Mx} {c c' : Nat} (h : ∀ k, B k c = B' k c') : ∀ n k, fp B c n k = fp B' c' n k := by
  intro n
  induction n with
  | zero => intro k; rfl
  | succ n ih => intro k; unfold fp; rw [h k, ih]
-- columns of a choice, closed up
def cmp (q : Nat → Bool) (B : Mx) : Nat → Nat × Mx
  | 0 => (0, fun _ _ => 0)
  | c + 1 => if q c then ((cmp q B c).1 + 1, fun i j => if j = (cmp q B c).1 then B i c else (cmp q B c).2 i j) else cmp q B c
theorem cmp_no {q : Nat → Bool} {B : Mx} {c : Nat} (e : q c = false) : cmp q B (c + 1) = cmp q B c := by
  rw [show cmp q B (c + 1) = (if q c then ((cmp q B c).1 + 1, fun i j => if j = (cmp q B c).1 then B i c else (cmp q B c).2 i j) else cmp q B c) from rfl, e]; rfl
theorem cmp_go {q : Nat → Bool} {B : Mx} {c : Nat} (e : q c = true) : cmp q B (c + 1) = ((cmp q B c).1 + 1, fun i j => if j = (cmp q B c).1 then B i c else (cmp q B c).2 i j) := by
  rw [show cmp q B (c + 1) = (if q c then ((cmp q B c).1 + 1, fun i j => if j = (cmp q B c).1 then B i c else (cmp q B c).2 i j) else cmp q B c) from rfl, if_pos e]
theorem cmp_le {q : Nat → Bool} {B : Mx} : ∀ c, (cmp q B c).1 ≤ c := by
  intro c
  induction c with
  | zero => exact Nat.le_refl _
  | succ c ih =>
    cases e : q c with
    | false => rw [cmp_no e]; omega
    | true => rw [cmp_go e]; exact Nat.succ_le_succ ih
theorem cmp_bd {m : Nat} {q : Nat → Bool} {B : Mx} (hm : 0 < m) (hB : Bd m B) : ∀ c, Bd m (cmp q B c).2 := by
  intro c
  induction c with
  | zero => intro i j; exact hm
  | succ c ih =>
    cases e : q c with
    | false => rw [cmp_no e]; exact ih
    | true =>
      rw [cmp_go e]
      intro i j
      show (if j = (cmp q B c).1 then B i c else (cmp q B c).2 i j) < m
      split
      · exact hB _ _
      · exact ih _ _
theorem cmp_mono {q : Nat → Bool} {B : Mx} {c : Nat} : ∀ d, c ≤ d → (cmp q B c).1 ≤ (cmp q B d).1 := by
  intro d
  induction d with
  | zero => intro h; rw [show c = 0 by omega]; exact Nat.le_refl _
  | succ d ih =>
    intro h
    by_cases e : c = d + 1
    · subst e; exact Nat.le_refl _
    · have h1 := ih (by omega)
      cases e2 : q d with
      | false => rw [cmp_no e2]; exact h1
      | true => rw [cmp_go e2]; exact Nat.le_succ_of_le h1
theorem cmp_at {q : Nat → Bool} {B : Mx} {c : Nat} (hq : q c = true) : ∀ d, c < d → ∀ i, (cmp q B d).2 i (cmp q B c).1 = B i c := by
  intro d
  induction d with
  | zero => intro h; omega
  | succ d ih =>
    intro h i
    by_cases e : c = d
    · subst e
      rw [cmp_go hq]
      exact if_pos rfl
    · cases e2 : q d with
      | false => rw [cmp_no e2]; exact ih (by omega) i
      | true =>
        rw [cmp_go e2]
        have h1 := cmp_mono (q := q) (B := B) (c := c + 1) d (by omega)
        rw [cmp_go hq] at h1
        have h1 : (cmp q B c).1 + 1 ≤ (cmp q B d).1 := h1
        show (if (cmp q B c).1 = (cmp q B d).1 then B i d else _) = _
        rw [if_neg (by omega)]
        exact ih (by omega) i
theorem cst_cmp {m n : Nat} {q : Nat → Bool} {B : Mx} : ∀ c, c ≤ 6 →
    (cst m n (fun _ => true) (cmp q B 6).2 (cmp q B c).1).2 = (cst m n q B c).2 ∧ ∀ c', c' < 6 → q c' = true → ∀ i, (cst m n (fun _ => true) (cmp q B 6).2 (cmp q B c).1).1 i (cmp q B c').1 = (cst m n q B c).1 i c' := by
  intro c
  induction c with
  | zero => intro _; exact ⟨rfl, fun c' h1 h2 i => cmp_at h2 6 h1 i⟩
  | succ c ih =>
    intro hc
    obtain ⟨i1, i2⟩ := ih (by omega)
    cases e : q c with
    | false => rw [cmp_no e, cst_no e]; exact ⟨i1, i2⟩
    | true =>
      rw [cmp_go e]
      show (cst m n (fun _ => true) (cmp q B 6).2 ((cmp q B c).1 + 1)).2 = _ ∧ ∀ c', c' < 6 → q c' = true → ∀ i, (cst m n (fun _ => true) (cmp q B 6).2 ((cmp q B c).1 + 1)).1 i (cmp q B c').1 = _
      have ef := fp_congr (i2 c (by omega) e) (n - (cst m n q B c).2) (cst m n q B c).2
      cases f : fp (cst m n q B c).1 c (n - (cst m n q B c).2) (cst m n q B c).2 with
      | none =>
        rw [cst_none e f, cst_none (q := fun _ => true) (c := (cmp q B c).1) rfl (by rw [i1, ef, f])]
        exact ⟨i1, i2⟩
      | some p =>
        rw [cst_some e f, cst_some (q := fun _ => true) (c := (cmp q B c).1) (p := p) rfl (by rw [i1, ef, f])]
        rw [i1]
        refine ⟨rfl, fun c' h1 h2 i => ?_⟩
        have sw : ∀ c', c' < 6 → q c' = true → ∀ i, swp (cst m n (fun _ => true) (cmp q B 6).2 (cmp q B c).1).1 p (cst m n q B c).2 i (cmp q B c').1 = swp (cst m n q B c).1 p (cst m n q B c).2 i c' := by
          intro c' h1 h2 i
          unfold swp
          split
          · exact i2 c' h1 h2 _
          · split <;> exact i2 c' h1 h2 _
        show elN _ _ _ _ _ i _ = elN _ _ _ _ _ i _
        unfold elN
        split
        · unfold elR
          rw [sw c' h1 h2, sw c' h1 h2, sw c (by omega) e, sw c (by omega) e]
        · exact sw c' h1 h2 i
theorem cst_le {m h : Nat} {q : Nat → Bool} {B : Mx} (hm : 0 < m) (hB : Bd m B) (c : Nat) : (cst m h q B c).2 ≤ (cst m h q B (c + 1)).2 := by
  cases e : q c with
  | false => rw [cst_no e]; exact Nat.le_refl _
  | true =>
    cases f : fp (cst m h q B c).1 c (h - (cst m h q B c).2) (cst m h q B c).2 with
    | none => rw [cst_none e f]; exact Nat.le_refl _
    | some p => rw [cst_some e f]; exact Nat.le_succ _
theorem cst_full {m h : Nat} {q : Nat → Bool} {B : Mx} (hm : 0 < m) (hB : Bd m B) {c : Nat} (e : (cst m h q B c).2 = h) : ∀ d, c ≤ d → (cst m h q B d).2 = h := by
  intro d
  induction d with
  | zero => intro hd; rw [show c = 0 by omega] at e; exact e
  | succ d ih =>
    intro hd
    by_cases w : c = d + 1
    · subst w; exact e
    · have h1 := ih (by omega)
      have h2 := cst_le (q := q) (h := h) hm hB d
      have h3 := (cst_ok (q := q) (h := h) hm hB (d + 1)).2
      omega
theorem cst_nil {m h : Nat} {q : Nat → Bool} {B : Mx} (e : ∀ k, k < 6 → q k = false) : ∀ c, c ≤ 6 → cst m h q B c = (B, 0) := by
  intro c
  induction c with
  | zero => intro _; rfl
  | succ c ih => intro hc; rw [cst_no (e c (by omega))]; exact ih (by omega)
theorem bit_hi : ∀ R, R < 7 → ∀ S, S < 2 ^ R → ∀ k, k < 6 → R ≤ k → bit S k = false := by decide +kernel
theorem bit_ex : ∀ R, R < 7 → ∀ S, S < 64 → 2 ^ R ≤ S → ∃ k, k < 6 ∧ (R ≤ k ∧ bit S k = true) := by
  have h : ∀ R, R < 7 → ∀ S, S < 64 → 2 ^ R ≤ S → ((List.range 6).any fun k => decide (R ≤ k) && bit S k) = true := by decide +kernel
  intro R hR S hS hh
  obtain ⟨k, k1, k2⟩ := List.any_eq_true.mp (h R hR S hS hh)
  rw [Bool.and_eq_true] at k2
  exact ⟨k, List.mem_range.mp k1, of_decide_eq_true k2.1, k2.2⟩
theorem colB_R {x : Gd} (hx : Gok x) {S c : Nat} (hS : S < 2 ^ x.1.1) : colB x S 6 c = colB x S x.1.1 c := by
  have hR := hx.1.2
  have key : ∀ n, x.1.1 ≤ n → n ≤ 6 → colB x S n c = colB x S x.1.1 c := by
    intro n
    induction n with
    | zero => intro h _; rw [show x.1.1 = 0 by omega]
    | succ n ih =>
      intro h1 h2
      by_cases e : x.1.1 = n + 1
      · rw [e]
      · rw [colB_s, bit_hi _ (by omega) S hS n (by omega) (by omega), ih (by omega) (by omega)]
        simp
  exact key 6 hR (by omega)
theorem bld_R {x : Gd} (hx : Gok x) {S : Nat} (hS : S < 2 ^ x.1.1) : bld x S 6 = bld x S x.1.1 := by
  have hR := hx.1.2
  have key : ∀ n, x.1.1 ≤ n → n ≤ 6 → bld x S n = bld x S x.1.1 := by
    intro n
    induction n with
    | zero => intro h _; rw [show x.1.1 = 0 by omega]
    | succ n ih =>
      intro h1 h2
      by_cases e : x.1.1 = n + 1
      · rw [e]
      · rw [bld_no (bit_hi _ (by omega) S hS n (by omega) (by omega)), ih (by omega) (by omega)]
  exact key 6 hR (by omega)
theorem rank_hi {x : Gd} (hx : Gok x) {S : Nat} (hS : S < 64) (h : 2 ^ x.1.1 ≤ S) : rankSet x S = 0 := by
  obtain ⟨k, k1, k2, k3⟩ := bit_ex _ (by have := hx.1; omega) S hS h
  unfold rankSet
  rw [cst_nil (fun c hc => ?_) 6 (Nat.le_refl _)]
  refine al_false (k := k) k1 ?_
  show (!bit S k || td x k c) = false
  rw [k3, td_false (hx.out hc (Or.inl k2))]; rfl
theorem colB_out {x : Gd} (hx : Gok x) {S c : Nat} (h0 : 0 < S) (hS : S < 2 ^ x.1.1) (hc : c < 6) (h : x.1.2.1 ≤ c) : colB x S 6 c = false := by
  have hR := hx.1.2
  obtain ⟨k, k1, -, k3⟩ := bit_ex 0 (by omega) S (Nat.lt_of_lt_of_le hS (Nat.le_trans (Nat.pow_le_pow_right (by omega) hR) (by decide))) h0
  refine al_false (k := k) k1 ?_
  show (!bit S k || td x k c) = false
  rw [k3, td_false (hx.out hc (Or.inr h))]; rfl
theorem cmp_C {x : Gd} (hx : Gok x) {S : Nat} (h0 : 0 < S) (hS : S < 2 ^ x.1.1) {B : Mx} : cmp (colB x S 6) B 6 = cmp (colB x S 6) B x.1.2.1 := by
  have hC := hx.2.1.2
  have key : ∀ n, x.1.2.1 ≤ n → n ≤ 6 → cmp (colB x S 6) B n = cmp (colB x S 6) B x.1.2.1 := by
    intro n
    induction n with
    | zero => intro h _; rw [show x.1.2.1 = 0 by omega]
    | succ n ih =>
      intro h1 h2
      by_cases e : x.1.2.1 = n + 1
      · rw [e]
      · rw [cmp_no (colB_out hx h0 hS (by omega) (by omega)), ih (by omega) (by omega)]
  exact key 6 hC (by omega)
theorem rank_cmp {x : Gd} (hx : Gok x) {S : Nat} (h0 : 0 < S) (hS : S < 2 ^ x.1.1) :
    (cst x.1.2.2 (bld x S x.1.1).1 (fun _ => true) (cmp (colB x S 6) (bld x S x.1.1).2 x.1.2.1).2 (cmp (colB x S 6) (bld x S x.1.1).2 x.1.2.1).1).2 = rankSet x S := by
  unfold rankSet
  rw [bld_R hx hS]
  rw [← (cst_cmp (m := x.1.2.2) (n := (bld x S x.1.1).1) (q := colB x S 6) (B := (bld x S x.1.1).2) 6 (Nat.le_refl _)).1, cmp_C hx h0 hS]
theorem mxTo_more {f : Nat → Nat} {n m : Nat} (h : n ≤ m) (e : ∀ k, n ≤ k → k < m → f k = 0) : mxTo f m = mxTo f n := by
  induction m with
  | zero => rw [show n = 0 by omega]
  | succ m ih =>
    by_cases w : n = m + 1
    · rw [w]
    · show max (mxTo f m) (f m) = _
      rw [e m (by omega) (by omega), Nat.max_eq_left (Nat.zero_le _)]
      exact ih (by omega) (fun k h1 h2 => e k h1 (by omega))
theorem shlR : ∀ R, R < 7 → nI 1 <<< (nI R &&& 31) = nI (2 ^ R) := by decide +kernel
theorem powR : ∀ R, R < 7 → 1 ≤ 2 ^ R ∧ 2 ^ R ≤ 64 := by decide +kernel
theorem rkF_0 {x : Gd} : mxTo (rkF x) 1 = 0 := by
  show max 0 (rkF x 0) = 0
  unfold rkF
  rfl
theorem rank_all {x : Gd} (hx : Gok x) : mxTo (rkF x) (2 ^ x.1.1) = rankAll x := by
  have hp := powR x.1.1 (by have := hx.1; omega)
  refine (mxTo_more hp.2 fun k h1 h2 => ?_).symm
  unfold rkF
  rw [if_neg (by omega)]
  exact rank_hi hx h2 h1
-- the heap
def WkR (F : Nat → Int32) (n w : Nat) (B : Mx) : Prop := ∀ i j, i < n → j < w → F (6 * i + j) = nI (B i j)
def FrW (h h1 : sH) : Prop := ∀ a, a ≠ 71 → h1.2 a = h.2 a
theorem FrW.rf {h : sH} : FrW h h := fun _ _ => rfl
theorem FrW.tr {h h1 h2 : sH} (a : FrW h h1) (b : FrW h1 h2) : FrW h h2 := fun q hq => (b q hq).trans (a q hq)
abbrev WkAt (h : sH) (n w : Nat) (B : Mx) (h1 : sH) : Prop := (∃ F, h1.2 71 = iA 36 F ∧ WkR F n w B) ∧ FrW h h1
theorem fp_ne {B : Mx} {c : Nat} : ∀ {n k p : Nat}, fp B c n k = some p → ¬ B p c = 0 := by
  intro n
  induction n with
  | zero => intro k p h; cases h
  | succ n ih =>
    intro k p h
    unfold fp at h
    split at h
    · exact ih h
    · rename_i e
      cases h
      exact e
theorem clr_up {G : Nat → Int32} {B : Mx} {n w m a b c k : Nat} (GG : ∀ i j, i < n → j < w → G (6 * i + j) = nI (if j < k then (fun (i j : Nat) => if i = a then elR m B b c a j else B i j) i j else B i j)) (hk : k < w) (hw : w ≤ 6) :
    ∀ i j, i < n → j < w → upd G (6 * a + k) (nI (elR m B b c a k)) (6 * i + j) = nI (if j < k + 1 then (fun (i j : Nat) => if i = a then elR m B b c a j else B i j) i j else B i j) := by
  intro i j hi hj
  by_cases e : 6 * i + j = 6 * a + k
  · have ei : i = a := by omega
    have ej : j = k := by omega
    rw [e, upd_at, if_pos (by omega), ei, ej]
    show _ = nI (if a = a then elR m B b c a k else B a k)
    rw [if_pos rfl]
  · rw [upd_off e, GG i j hi hj]
    by_cases e2 : j < k
    · rw [if_pos e2, if_pos (by omega)]
    · rw [if_neg e2]
      by_cases e3 : j = k
      · rw [if_pos (by omega)]
        show _ = nI (if i = a then _ else B i j)
        rw [if_neg (by omega)]
      · rw [if_neg (by omega)]
theorem exc_up {G : Nat → Int32} {B : Mx} {n w a b k : Nat} (GG : ∀ i j, i < n → j < w → G (6 * i + j) = nI (if j < k then swp B a b i j else B i j)) (ha : a < n) (hb : b < n) (hk : k < w) (hw : w ≤ 6) :
    ∀ i j, i < n → j < w → upd (upd G (6 * a + k) (G (6 * b + k))) (6 * b + k) (G (6 * a + k)) (6 * i + j) = nI (if j < k + 1 then swp B a b i j else B i j) := by
  intro i j hi hj
  have g1 := GG a k ha hk
  have g2 := GG b k hb hk
  rw [if_neg (by omega)] at g1 g2
  by_cases e : j = k
  · subst e
    rw [if_pos (by omega)]
    unfold swp
    by_cases e1 : i = b
    · subst e1
      rw [upd_at, if_pos rfl, g1]
    · rw [upd_off (by omega), if_neg e1]
      by_cases e2 : i = a
      · subst e2
        rw [upd_at, if_pos rfl, g2]
      · rw [upd_off (by omega), if_neg e2, GG i j hi hj, if_neg (by omega)]
  · rw [upd_off (by omega), upd_off (by omega), GG i j hi hj]
    by_cases e2 : j < k
    · rw [if_pos e2, if_pos (by omega)]
    · rw [if_neg e2, if_neg (by omega)]
def ofO : Option Nat → Int32
  | none => -6
  | some p => nI p
theorem ofO_m6 {o : Option Nat} (h : ∀ p, o = some p → p < 100) : ofO o = -6 ↔ o = none := by
  cases o with
  | none => exact ⟨fun _ => rfl, fun _ => rfl⟩
  | some p =>
    refine ⟨fun e => absurd e ?_, fun e => nomatch e⟩
    have := h p rfl
    have key : ∀ p, p < 100 → nI p ≠ -6 := by decide +kernel
    exact key p this
theorem pI_ltN : ∀ a, a < 8 → ∀ b, b < 8 → (pI a < nI b ↔ a ≤ b) := by decide +kernel
theorem fp_step {B : Mx} {c n i : Nat} (hi : i < n) (e : B (n - i - 1) c = 0) : fp B c (i + 1) (n - (i + 1)) = fp B c i (n - i) := by
  rw [show n - (i + 1) = n - i - 1 by omega, fp_0 e, show n - i - 1 + 1 = n - i by omega]
theorem fp_stop {B : Mx} {c n i : Nat} (e : ¬ B (n - i - 1) c = 0) : fp B c (i + 1) (n - (i + 1)) = some (n - i - 1) := by
  rw [show n - (i + 1) = n - i - 1 by omega, fp_s e]
set_option maxRecDepth 4000 in
theorem c_M_areTold {l : Launch} {h : sH} {x : Gd} {n t : Nat} {v : mV} (hm : h.2 61 = mO n t v) (hz : h.2 62 = iA 39 (nF (zN x))) (hx : Gok x) {S c : Nat} (hS : S < 64) (hc : c < 6) : sX l m_M_areTold 1 [.ref 61, .int (nI S), .int (nI c)] h (some (.int (sBo (colB x S x.1.1 c)))) (h) := by
  have hM := hx.2.2.1.le
  have hR := hx.1
  have hC := hx.2.1
  refine en_M_areTold ?_
  refine e_iconst (v := nI 1) (p' := 1) D_M_areTold_0 cst_iconst_1 rfl ?_
  refine e_istore_3 (p' := 2) D_M_areTold_1 (Nat.le_of_ble_eq_true rfl) rfl rfl ?_
  refine e_iconst (v := nI 0) (p' := 3) D_M_areTold_2 cst_iconst_0 rfl ?_
  refine e_istore_4 (p' := 5) D_M_areTold_3 (Nat.le_of_ble_eq_true rfl) rfl rfl ?_
  have lk5 : ∀ i : Nat, i ≤ x.1.1 → sEv l m_M_areTold 1 (0, 0, 0, 0) (sKm 0 0 (fun r1 h1 => r1 = some (.int (sBo (colB x S x.1.1 c))) ∧ h1 = h)) 5 [some (.ref 61), some (.int (nI S)), some (.int (nI c)), some (.int (sBo (colB x S i c))), some (.int (nI i))] [] (h) := by
    refine lp_up _ ?_ ?_
    · skip
      have s1 := hx.small (x.1.1) c
      refine e_iload_4 (p' := 7) D_M_areTold_5 rfl ?_
      refine e_aload_0 (p' := 8) D_M_areTold_7 rfl ?_
      refine e_getfield (p' := 11) D_M_areTold_8 F_M_7 (by first | assumption | exact sUp_eq | (rw [sUp_ne (by omega)]; assumption) | (rw [sUp_ne (by omega), sUp_ne (by omega)]; assumption) | (rw [sUp_ne (by omega)]; exact sUp_eq) | (rw [gSet_ne (by omega) (by omega)]; first | assumption | exact sUp_eq | (rw [sUp_ne (by omega)]; assumption) | (rw [sUp_ne (by omega), sUp_ne (by omega)]; assumption)) | (rw [sUp_ne (by omega), sUp_ne (by omega), sUp_ne (by omega)]; assumption) | (simp [sUp]; done)) (by rfl) rfl ?_
      refine e_bipush (v := nI 36) (p' := 13) D_M_areTold_11 cst_bipush_36 rfl ?_
      refine e_iaload (p' := 14) D_M_areTold_13 (by first | assumption | exact sUp_eq | (rw [sUp_ne (by omega)]; assumption) | (rw [sUp_ne (by omega), sUp_ne (by omega)]; assumption) | (rw [sUp_ne (by omega)]; exact sUp_eq) | (rw [gSet_ne (by omega) (by omega)]; first | assumption | exact sUp_eq | (rw [sUp_ne (by omega)]; assumption) | (rw [sUp_ne (by omega), sUp_ne (by omega)]; assumption)) | (rw [sUp_ne (by omega), sUp_ne (by omega), sUp_ne (by omega)]; assumption) | (simp [sUp]; done)) (by omega) (by omega) (by rfl) rfl ?_
      rw [z36]
      refine e_icmpN_ge (q := 52) (p' := 17) D_M_areTold_14 (by omega) (by omega) rfl rfl (fun hc14 => ?_) (fun hc14 => ?_)
      ·
        refine e_iload_3 (p' := 53) D_M_areTold_52 rfl ?_
        refine e_ireturn (ty := .boolean) D_M_areTold_53 rfl (by first | rfl | exact sBo_nar _) ⟨by decide, by decide⟩ ?_
        exact ⟨by first | rfl | (simp; done) | (simp [*]; done), by first | rfl | (simp; done)⟩
      ·
        exfalso; omega
    · intro i hi ih5 
      have s1 := hx.small i c
      refine e_iload_4 (p' := 7) D_M_areTold_5 rfl ?_
      refine e_aload_0 (p' := 8) D_M_areTold_7 rfl ?_
      refine e_getfield (p' := 11) D_M_areTold_8 F_M_7 (by first | assumption | exact sUp_eq | (rw [sUp_ne (by omega)]; assumption) | (rw [sUp_ne (by omega), sUp_ne (by omega)]; assumption) | (rw [sUp_ne (by omega)]; exact sUp_eq) | (rw [gSet_ne (by omega) (by omega)]; first | assumption | exact sUp_eq | (rw [sUp_ne (by omega)]; assumption) | (rw [sUp_ne (by omega), sUp_ne (by omega)]; assumption)) | (rw [sUp_ne (by omega), sUp_ne (by omega), sUp_ne (by omega)]; assumption) | (simp [sUp]; done)) (by rfl) rfl ?_
      refine e_bipush (v := nI 36) (p' := 13) D_M_areTold_11 cst_bipush_36 rfl ?_
      refine e_iaload (p' := 14) D_M_areTold_13 (by first | assumption | exact sUp_eq | (rw [sUp_ne (by omega)]; assumption) | (rw [sUp_ne (by omega), sUp_ne (by omega)]; assumption) | (rw [sUp_ne (by omega)]; exact sUp_eq) | (rw [gSet_ne (by omega) (by omega)]; first | assumption | exact sUp_eq | (rw [sUp_ne (by omega)]; assumption) | (rw [sUp_ne (by omega), sUp_ne (by omega)]; assumption)) | (rw [sUp_ne (by omega), sUp_ne (by omega), sUp_ne (by omega)]; assumption) | (simp [sUp]; done)) (by omega) (by omega) (by rfl) rfl ?_
      rw [z36]
      refine e_icmpN_ge (q := 52) (p' := 17) D_M_areTold_14 (by omega) (by omega) rfl rfl (fun hc14 => ?_) (fun hc14 => ?_)
      ·
        exfalso; omega
      ·
        refine e_iload_3 (p' := 18) D_M_areTold_17 rfl ?_
        refine e_ifB_eq (q := 44) (p' := 21) D_M_areTold_18 rfl rfl (fun hc18 => ?_) (fun hc18 => ?_)
        ·
          refine e_iconst (v := nI 0) (p' := 45) D_M_areTold_44 cst_iconst_0 rfl ?_
          refine e_istore_3 (p' := 46) D_M_areTold_45 (Nat.le_of_ble_eq_true rfl) rfl rfl ?_
          first | refine e_iincN_4 (n := 1) (p' := 49) D_M_areTold_46 (Nat.le_of_ble_eq_true rfl) rfl rfl ?_ | refine e_iinc_4 (p' := 49) D_M_areTold_46 (Nat.le_of_ble_eq_true rfl) rfl rfl rfl ?_
          refine e_goto (p' := 5) D_M_areTold_49 rfl ?_
          refine sEv.castW (ih5) ?_ ?_ ?_
          · refine ⟨rfl, rfl, rfl, ?_, rfl, trivial⟩
            rw [colB_s, hc18]; rfl
          · rfl
          · first | rfl | (simp; done)
        ·
          refine e_iload_1 (p' := 22) D_M_areTold_21 rfl ?_
          refine e_iload_4 (p' := 24) D_M_areTold_22 rfl ?_
          refine e_ishr (p' := 25) D_M_areTold_24 rfl ?_
          refine e_iconst (v := nI 1) (p' := 26) D_M_areTold_25 cst_iconst_1 rfl ?_
          refine e_iand (p' := 27) D_M_areTold_26 rfl ?_
          rw [holds_ok _ hS _ (by omega)]
          refine e_ifN_eq (q := 40) (p' := 30) D_M_areTold_27 (by omega) rfl rfl (fun hc27 => ?_) (fun hc27 => ?_)
          ·
            refine e_iconst (v := nI 1) (p' := 41) D_M_areTold_40 cst_iconst_1 rfl ?_
            refine e_goto (p' := 45) D_M_areTold_41 rfl ?_
            refine e_istore_3 (p' := 46) D_M_areTold_45 (Nat.le_of_ble_eq_true rfl) rfl rfl ?_
            first | refine e_iincN_4 (n := 1) (p' := 49) D_M_areTold_46 (Nat.le_of_ble_eq_true rfl) rfl rfl ?_ | refine e_iinc_4 (p' := 49) D_M_areTold_46 (Nat.le_of_ble_eq_true rfl) rfl rfl rfl ?_
            refine e_goto (p' := 5) D_M_areTold_49 rfl ?_
            refine sEv.castW (ih5) ?_ ?_ ?_
            · refine ⟨rfl, rfl, rfl, ?_, rfl, trivial⟩
              rw [colB_s, hc18, show bit S i = false from decide_eq_false (by omega)]; rfl
            · rfl
            · first | rfl | (simp; done)
          ·
            refine e_aload_0 (p' := 31) D_M_areTold_30 rfl ?_
            refine e_iload_4 (p' := 33) D_M_areTold_31 rfl ?_
            refine e_iload_2 (p' := 34) D_M_areTold_33 rfl ?_
            refine x_callV1 (p' := 37) D_M_areTold_34 V_M_67 (c_M_at hm hz hx (by omega) (by omega)) rfl (by first | assumption | exact sUp_eq | (rw [sUp_ne (by omega)]; assumption) | (rw [sUp_ne (by omega), sUp_ne (by omega)]; assumption) | (rw [sUp_ne (by omega)]; exact sUp_eq) | (rw [gSet_ne (by omega) (by omega)]; first | assumption | exact sUp_eq | (rw [sUp_ne (by omega)]; assumption) | (rw [sUp_ne (by omega), sUp_ne (by omega)]; assumption)) | (rw [sUp_ne (by omega), sUp_ne (by omega), sUp_ne (by omega)]; assumption) | (simp [sUp]; done)) rfl (Nat.le_of_ble_eq_true rfl) (by decide) ⟨by decide, by decide⟩ rfl ?_
            refine e_ifN_le (q := 44) (p' := 40) D_M_areTold_37 (by omega) rfl rfl (fun hc37 => ?_) (fun hc37 => ?_)
            ·
              refine e_iconst (v := nI 0) (p' := 45) D_M_areTold_44 cst_iconst_0 rfl ?_
              refine e_istore_3 (p' := 46) D_M_areTold_45 (Nat.le_of_ble_eq_true rfl) rfl rfl ?_
              first | refine e_iincN_4 (n := 1) (p' := 49) D_M_areTold_46 (Nat.le_of_ble_eq_true rfl) rfl rfl ?_ | refine e_iinc_4 (p' := 49) D_M_areTold_46 (Nat.le_of_ble_eq_true rfl) rfl rfl rfl ?_
              refine e_goto (p' := 5) D_M_areTold_49 rfl ?_
              refine sEv.castW (ih5) ?_ ?_ ?_
              · refine ⟨rfl, rfl, rfl, ?_, rfl, trivial⟩
                rw [colB_s, hc18, show bit S i = true from decide_eq_true (by omega), td_false (by omega)]; rfl
              · rfl
              · first | rfl | (simp; done)
            ·
              refine e_iconst (v := nI 1) (p' := 41) D_M_areTold_40 cst_iconst_1 rfl ?_
              refine e_goto (p' := 45) D_M_areTold_41 rfl ?_
              refine e_istore_3 (p' := 46) D_M_areTold_45 (Nat.le_of_ble_eq_true rfl) rfl rfl ?_
              first | refine e_iincN_4 (n := 1) (p' := 49) D_M_areTold_46 (Nat.le_of_ble_eq_true rfl) rfl rfl ?_ | refine e_iinc_4 (p' := 49) D_M_areTold_46 (Nat.le_of_ble_eq_true rfl) rfl rfl rfl ?_
              refine e_goto (p' := 5) D_M_areTold_49 rfl ?_
              refine sEv.castW (ih5) ?_ ?_ ?_
              · refine ⟨rfl, rfl, rfl, ?_, rfl, trivial⟩
                rw [colB_s, hc18, show bit S i = true from decide_eq_true (by omega), td_true (by omega)]; rfl
              · rfl
              · first | rfl | (simp; done)
  refine sEv.castW (lk5 0 (by omega) ) ?_ ?_ ?_
  · exact ⟨rfl, rfl, rfl, rfl, rfl, trivial⟩
  · rfl
  · first | rfl | (simp; done)
set_option maxRecDepth 4000 in
theorem c_M_clearBy {l : Launch} {h : sH} {x : Gd} {n0 t0 : Nat} {v : mV} (hm : h.2 61 = mO n0 t0 v) (hz : h.2 62 = iA 39 (nF (zN x))) (hx : Gok x) {F : Nat → Int32} {n w : Nat} {B : Mx} (hF : h.2 71 = iA 36 F) (hW : WkR F n w B) (hn : n ≤ 6) (hw : w ≤ 6) (hB : Bd x.1.2.2 B) {a b c : Nat} (ha : a < n) (hb : b < n) (hab : a ≠ b) (hc : c < w) (h0 : B b c ≠ 0) : sY l m_M_clearBy 2 [.ref 61, .int (nI a), .int (nI b), .int (nI c), .int (nI w)] h (none) (WkAt h n w (fun i => if i = a then elR x.1.2.2 B b c a else B i)) := by
  have hM := hx.2.2.1.le
  have hR := hx.1
  have hC := hx.2.1
  have ka := hB a c
  have kb := hB b c
  have ob := ovr_le (m := x.1.2.2) (a := B b c) (x.1.2.2 - 1)
  have hq := qt_lt (m := x.1.2.2) (a := B a c) (b := B b c)
  have hwa := hW a c ha hc
  have hwb := hW b c hb hc
  refine en_M_clearBy ?_
  refine e_aload_0 (p' := 1) D_M_clearBy_0 rfl ?_
  refine e_aload_0 (p' := 2) D_M_clearBy_1 rfl ?_
  refine e_getfield (p' := 5) D_M_clearBy_2 F_M_39 (by first | assumption | exact sUp_eq | (rw [sUp_ne (by omega)]; assumption) | (rw [sUp_ne (by omega), sUp_ne (by omega)]; assumption) | (rw [sUp_ne (by omega)]; exact sUp_eq) | (rw [gSet_ne (by omega) (by omega)]; first | assumption | exact sUp_eq | (rw [sUp_ne (by omega)]; assumption) | (rw [sUp_ne (by omega), sUp_ne (by omega)]; assumption)) | (rw [sUp_ne (by omega), sUp_ne (by omega), sUp_ne (by omega)]; assumption) | (simp [sUp]; done)) (by rfl) rfl ?_
  refine e_bipush (v := nI 6) (p' := 7) D_M_clearBy_5 cst_bipush_6 rfl ?_
  refine e_iload_1 (p' := 8) D_M_clearBy_7 rfl ?_
  first | refine e_imulN (p' := 9) D_M_clearBy_8 rfl ?_ | refine e_imul (p' := 9) D_M_clearBy_8 rfl ?_
  refine e_iload_3 (p' := 10) D_M_clearBy_9 rfl ?_
  first | refine e_iaddN (p' := 11) D_M_clearBy_10 rfl ?_ | refine e_iadd (p' := 11) D_M_clearBy_10 rfl ?_
  refine e_iaload (p' := 12) D_M_clearBy_11 (by first | assumption | exact sUp_eq | (rw [sUp_ne (by omega)]; assumption) | (rw [sUp_ne (by omega), sUp_ne (by omega)]; assumption) | (rw [sUp_ne (by omega)]; exact sUp_eq) | (rw [gSet_ne (by omega) (by omega)]; first | assumption | exact sUp_eq | (rw [sUp_ne (by omega)]; assumption) | (rw [sUp_ne (by omega), sUp_ne (by omega)]; assumption)) | (rw [sUp_ne (by omega), sUp_ne (by omega), sUp_ne (by omega)]; assumption) | (simp [sUp]; done)) (by omega) (by omega) (by rfl) rfl ?_
  rw [show 6 * a + c = 6 * a + c from rfl, hwa]
  refine e_aload_0 (p' := 13) D_M_clearBy_12 rfl ?_
  refine e_aload_0 (p' := 14) D_M_clearBy_13 rfl ?_
  refine e_getfield (p' := 17) D_M_clearBy_14 F_M_39 (by first | assumption | exact sUp_eq | (rw [sUp_ne (by omega)]; assumption) | (rw [sUp_ne (by omega), sUp_ne (by omega)]; assumption) | (rw [sUp_ne (by omega)]; exact sUp_eq) | (rw [gSet_ne (by omega) (by omega)]; first | assumption | exact sUp_eq | (rw [sUp_ne (by omega)]; assumption) | (rw [sUp_ne (by omega), sUp_ne (by omega)]; assumption)) | (rw [sUp_ne (by omega), sUp_ne (by omega), sUp_ne (by omega)]; assumption) | (simp [sUp]; done)) (by rfl) rfl ?_
  refine e_bipush (v := nI 6) (p' := 19) D_M_clearBy_17 cst_bipush_6 rfl ?_
  refine e_iload_2 (p' := 20) D_M_clearBy_19 rfl ?_
  first | refine e_imulN (p' := 21) D_M_clearBy_20 rfl ?_ | refine e_imul (p' := 21) D_M_clearBy_20 rfl ?_
  refine e_iload_3 (p' := 22) D_M_clearBy_21 rfl ?_
  first | refine e_iaddN (p' := 23) D_M_clearBy_22 rfl ?_ | refine e_iadd (p' := 23) D_M_clearBy_22 rfl ?_
  refine e_iaload (p' := 24) D_M_clearBy_23 (by first | assumption | exact sUp_eq | (rw [sUp_ne (by omega)]; assumption) | (rw [sUp_ne (by omega), sUp_ne (by omega)]; assumption) | (rw [sUp_ne (by omega)]; exact sUp_eq) | (rw [gSet_ne (by omega) (by omega)]; first | assumption | exact sUp_eq | (rw [sUp_ne (by omega)]; assumption) | (rw [sUp_ne (by omega), sUp_ne (by omega)]; assumption)) | (rw [sUp_ne (by omega), sUp_ne (by omega), sUp_ne (by omega)]; assumption) | (simp [sUp]; done)) (by omega) (by omega) (by rfl) rfl ?_
  rw [hwb]
  refine x_callV1 (p' := 27) D_M_clearBy_24 V_M_70 (c_M_over hm hz hx (by omega)) rfl (by first | assumption | exact sUp_eq | (rw [sUp_ne (by omega)]; assumption) | (rw [sUp_ne (by omega), sUp_ne (by omega)]; assumption) | (rw [sUp_ne (by omega)]; exact sUp_eq) | (rw [gSet_ne (by omega) (by omega)]; first | assumption | exact sUp_eq | (rw [sUp_ne (by omega)]; assumption) | (rw [sUp_ne (by omega), sUp_ne (by omega)]; assumption)) | (rw [sUp_ne (by omega), sUp_ne (by omega), sUp_ne (by omega)]; assumption) | (simp [sUp]; done)) rfl (Nat.le_of_ble_eq_true rfl) (by decide) ⟨by decide, by decide⟩ rfl ?_
  refine x_callV1 (p' := 30) D_M_clearBy_27 V_M_63 (c_M_times hm hz hx (by omega) (by omega)) rfl (by first | assumption | exact sUp_eq | (rw [sUp_ne (by omega)]; assumption) | (rw [sUp_ne (by omega), sUp_ne (by omega)]; assumption) | (rw [sUp_ne (by omega)]; exact sUp_eq) | (rw [gSet_ne (by omega) (by omega)]; first | assumption | exact sUp_eq | (rw [sUp_ne (by omega)]; assumption) | (rw [sUp_ne (by omega), sUp_ne (by omega)]; assumption)) | (rw [sUp_ne (by omega), sUp_ne (by omega), sUp_ne (by omega)]; assumption) | (simp [sUp]; done)) rfl (Nat.le_of_ble_eq_true rfl) (by decide) ⟨by decide, by decide⟩ rfl ?_
  rw [ov_qt _ (by omega) hx.2.2.1 _ ka _ kb h0]
  refine e_istore_5 (p' := 32) D_M_clearBy_30 (Nat.le_of_ble_eq_true rfl) rfl rfl ?_
  refine e_iconst (v := nI 0) (p' := 33) D_M_clearBy_32 cst_iconst_0 rfl ?_
  refine e_istore_6 (p' := 35) D_M_clearBy_33 (Nat.le_of_ble_eq_true rfl) rfl rfl ?_
  have lk35 : ∀ k : Nat, k ≤ w → ∀ (h1 : sH) (G : Nat → Int32), ((h1.2 71 = iA 36 G ∧ (∀ i j, i < n → j < w → G (6 * i + j) = nI (if j < k then (fun (i j : Nat) => if i = a then elR x.1.2.2 B b c a j else B i j) i j else B i j))) ∧ FrW h h1) → sEv l m_M_clearBy 2 (0, 0, 0, 0) (sKm 0 0 (fun r1 h1 => r1 = none ∧ (WkAt h n w (fun i => if i = a then elR x.1.2.2 B b c a else B i)) h1)) 35 [some (.ref 61), some (.int (nI a)), some (.int (nI b)), some (.int (nI c)), some (.int (nI w)), some (.int (nI (qt x.1.2.2 (B a c) (B b c)))), some (.int (nI k)), none] [] (h1) := by
    refine lp_up _ ?_ ?_
    · intro h1 G ⟨⟨G1, GG⟩, FF⟩
      have kz := (FF 62 (by omega)).trans hz
      have km := (FF 61 (by omega)).trans hm
      refine e_iload_6 (p' := 37) D_M_clearBy_35 rfl ?_
      refine e_iload_4 (p' := 39) D_M_clearBy_37 rfl ?_
      refine e_icmpN_ge (q := 111) (p' := 42) D_M_clearBy_39 (by omega) (by omega) rfl rfl (fun hc39 => ?_) (fun hc39 => ?_)
      ·
        refine e_return D_M_clearBy_111 rfl ⟨by decide, by decide⟩ ?_
        refine ⟨rfl, ⟨G, G1, fun i j hi hj => ?_⟩, FF⟩
        rw [GG i j hi hj, if_pos hj]
        show nI (if i = a then _ else _) = nI ((if i = a then _ else _ : Nat → Nat) j)
        by_cases e : i = a
        · rw [if_pos e, if_pos e]
        · rw [if_neg e, if_neg e]
      ·
        exfalso; omega
    · intro k hk ih35 h1 G ⟨⟨G1, GG⟩, FF⟩
      have kz := (FF 62 (by omega)).trans hz
      have km := (FF 61 (by omega)).trans hm
      refine e_iload_6 (p' := 37) D_M_clearBy_35 rfl ?_
      refine e_iload_4 (p' := 39) D_M_clearBy_37 rfl ?_
      refine e_icmpN_ge (q := 111) (p' := 42) D_M_clearBy_39 (by omega) (by omega) rfl rfl (fun hc39 => ?_) (fun hc39 => ?_)
      ·
        exfalso; omega
      ·
        refine e_aload_0 (p' := 43) D_M_clearBy_42 rfl ?_
        refine e_iload_5 (p' := 45) D_M_clearBy_43 rfl ?_
        refine e_aload_0 (p' := 46) D_M_clearBy_45 rfl ?_
        refine e_getfield (p' := 49) D_M_clearBy_46 F_M_39 (by first | assumption | exact sUp_eq | (rw [sUp_ne (by omega)]; assumption) | (rw [sUp_ne (by omega), sUp_ne (by omega)]; assumption) | (rw [sUp_ne (by omega)]; exact sUp_eq) | (rw [gSet_ne (by omega) (by omega)]; first | assumption | exact sUp_eq | (rw [sUp_ne (by omega)]; assumption) | (rw [sUp_ne (by omega), sUp_ne (by omega)]; assumption)) | (rw [sUp_ne (by omega), sUp_ne (by omega), sUp_ne (by omega)]; assumption) | (simp [sUp]; done)) (by rfl) rfl ?_
        refine e_bipush (v := nI 6) (p' := 51) D_M_clearBy_49 cst_bipush_6 rfl ?_
        refine e_iload_2 (p' := 52) D_M_clearBy_51 rfl ?_
        first | refine e_imulN (p' := 53) D_M_clearBy_52 rfl ?_ | refine e_imul (p' := 53) D_M_clearBy_52 rfl ?_
        refine e_iload_6 (p' := 55) D_M_clearBy_53 rfl ?_
        first | refine e_iaddN (p' := 56) D_M_clearBy_55 rfl ?_ | refine e_iadd (p' := 56) D_M_clearBy_55 rfl ?_
        refine e_iaload (p' := 57) D_M_clearBy_56 (by first | assumption | exact sUp_eq | (rw [sUp_ne (by omega)]; assumption) | (rw [sUp_ne (by omega), sUp_ne (by omega)]; assumption) | (rw [sUp_ne (by omega)]; exact sUp_eq) | (rw [gSet_ne (by omega) (by omega)]; first | assumption | exact sUp_eq | (rw [sUp_ne (by omega)]; assumption) | (rw [sUp_ne (by omega), sUp_ne (by omega)]; assumption)) | (rw [sUp_ne (by omega), sUp_ne (by omega), sUp_ne (by omega)]; assumption) | (simp [sUp]; done)) (by omega) (by omega) (by rfl) rfl ?_
        rw [GG b k hb (by omega), if_neg (by omega)]
        have kbk := hB b k
        have kak := hB a k
        refine x_callV1 (p' := 60) D_M_clearBy_57 V_M_63 (c_M_times km kz hx (by omega) (by omega)) rfl (by first | assumption | exact sUp_eq | (rw [sUp_ne (by omega)]; assumption) | (rw [sUp_ne (by omega), sUp_ne (by omega)]; assumption) | (rw [sUp_ne (by omega)]; exact sUp_eq) | (rw [gSet_ne (by omega) (by omega)]; first | assumption | exact sUp_eq | (rw [sUp_ne (by omega)]; assumption) | (rw [sUp_ne (by omega), sUp_ne (by omega)]; assumption)) | (rw [sUp_ne (by omega), sUp_ne (by omega), sUp_ne (by omega)]; assumption) | (simp [sUp]; done)) rfl (Nat.le_of_ble_eq_true rfl) (by decide) ⟨by decide, by decide⟩ rfl ?_
        refine e_istore_7 (p' := 62) D_M_clearBy_60 (Nat.le_of_ble_eq_true rfl) rfl rfl ?_
        refine e_aload_0 (p' := 63) D_M_clearBy_62 rfl ?_
        refine e_getfield (p' := 66) D_M_clearBy_63 F_M_39 (by first | assumption | exact sUp_eq | (rw [sUp_ne (by omega)]; assumption) | (rw [sUp_ne (by omega), sUp_ne (by omega)]; assumption) | (rw [sUp_ne (by omega)]; exact sUp_eq) | (rw [gSet_ne (by omega) (by omega)]; first | assumption | exact sUp_eq | (rw [sUp_ne (by omega)]; assumption) | (rw [sUp_ne (by omega), sUp_ne (by omega)]; assumption)) | (rw [sUp_ne (by omega), sUp_ne (by omega), sUp_ne (by omega)]; assumption) | (simp [sUp]; done)) (by rfl) rfl ?_
        refine e_bipush (v := nI 6) (p' := 68) D_M_clearBy_66 cst_bipush_6 rfl ?_
        refine e_iload_1 (p' := 69) D_M_clearBy_68 rfl ?_
        first | refine e_imulN (p' := 70) D_M_clearBy_69 rfl ?_ | refine e_imul (p' := 70) D_M_clearBy_69 rfl ?_
        refine e_iload_6 (p' := 72) D_M_clearBy_70 rfl ?_
        first | refine e_iaddN (p' := 73) D_M_clearBy_72 rfl ?_ | refine e_iadd (p' := 73) D_M_clearBy_72 rfl ?_
        refine e_aload_0 (p' := 74) D_M_clearBy_73 rfl ?_
        refine e_getfield (p' := 77) D_M_clearBy_74 F_M_39 (by first | assumption | exact sUp_eq | (rw [sUp_ne (by omega)]; assumption) | (rw [sUp_ne (by omega), sUp_ne (by omega)]; assumption) | (rw [sUp_ne (by omega)]; exact sUp_eq) | (rw [gSet_ne (by omega) (by omega)]; first | assumption | exact sUp_eq | (rw [sUp_ne (by omega)]; assumption) | (rw [sUp_ne (by omega), sUp_ne (by omega)]; assumption)) | (rw [sUp_ne (by omega), sUp_ne (by omega), sUp_ne (by omega)]; assumption) | (simp [sUp]; done)) (by rfl) rfl ?_
        refine e_bipush (v := nI 6) (p' := 79) D_M_clearBy_77 cst_bipush_6 rfl ?_
        refine e_iload_1 (p' := 80) D_M_clearBy_79 rfl ?_
        first | refine e_imulN (p' := 81) D_M_clearBy_80 rfl ?_ | refine e_imul (p' := 81) D_M_clearBy_80 rfl ?_
        refine e_iload_6 (p' := 83) D_M_clearBy_81 rfl ?_
        first | refine e_iaddN (p' := 84) D_M_clearBy_83 rfl ?_ | refine e_iadd (p' := 84) D_M_clearBy_83 rfl ?_
        refine e_iaload (p' := 85) D_M_clearBy_84 (by first | assumption | exact sUp_eq | (rw [sUp_ne (by omega)]; assumption) | (rw [sUp_ne (by omega), sUp_ne (by omega)]; assumption) | (rw [sUp_ne (by omega)]; exact sUp_eq) | (rw [gSet_ne (by omega) (by omega)]; first | assumption | exact sUp_eq | (rw [sUp_ne (by omega)]; assumption) | (rw [sUp_ne (by omega), sUp_ne (by omega)]; assumption)) | (rw [sUp_ne (by omega), sUp_ne (by omega), sUp_ne (by omega)]; assumption) | (simp [sUp]; done)) (by omega) (by omega) (by rfl) rfl ?_
        rw [GG a k ha (by omega), if_neg (by omega)]
        have qm := Nat.mod_lt (qt x.1.2.2 (B a c) (B b c) * B b k) (y := x.1.2.2) (by omega)
        refine e_aload_0 (p' := 86) D_M_clearBy_85 rfl ?_
        refine e_getfield (p' := 89) D_M_clearBy_86 F_M_7 (by first | assumption | exact sUp_eq | (rw [sUp_ne (by omega)]; assumption) | (rw [sUp_ne (by omega), sUp_ne (by omega)]; assumption) | (rw [sUp_ne (by omega)]; exact sUp_eq) | (rw [gSet_ne (by omega) (by omega)]; first | assumption | exact sUp_eq | (rw [sUp_ne (by omega)]; assumption) | (rw [sUp_ne (by omega), sUp_ne (by omega)]; assumption)) | (rw [sUp_ne (by omega), sUp_ne (by omega), sUp_ne (by omega)]; assumption) | (simp [sUp]; done)) (by rfl) rfl ?_
        refine e_bipush (v := nI 38) (p' := 91) D_M_clearBy_89 cst_bipush_38 rfl ?_
        refine e_iaload (p' := 92) D_M_clearBy_91 (by first | assumption | exact sUp_eq | (rw [sUp_ne (by omega)]; assumption) | (rw [sUp_ne (by omega), sUp_ne (by omega)]; assumption) | (rw [sUp_ne (by omega)]; exact sUp_eq) | (rw [gSet_ne (by omega) (by omega)]; first | assumption | exact sUp_eq | (rw [sUp_ne (by omega)]; assumption) | (rw [sUp_ne (by omega), sUp_ne (by omega)]; assumption)) | (rw [sUp_ne (by omega), sUp_ne (by omega), sUp_ne (by omega)]; assumption) | (simp [sUp]; done)) (by omega) (by omega) (by rfl) rfl ?_
        rw [z38]
        first | refine e_iaddN (p' := 93) D_M_clearBy_92 rfl ?_ | refine e_iadd (p' := 93) D_M_clearBy_92 rfl ?_
        refine e_iload_7 (p' := 95) D_M_clearBy_93 rfl ?_
        first | refine e_isubN (p' := 96) D_M_clearBy_95 (by omega) rfl ?_ | refine e_isub (p' := 96) D_M_clearBy_95 rfl ?_
        refine e_aload_0 (p' := 97) D_M_clearBy_96 rfl ?_
        refine e_getfield (p' := 100) D_M_clearBy_97 F_M_7 (by first | assumption | exact sUp_eq | (rw [sUp_ne (by omega)]; assumption) | (rw [sUp_ne (by omega), sUp_ne (by omega)]; assumption) | (rw [sUp_ne (by omega)]; exact sUp_eq) | (rw [gSet_ne (by omega) (by omega)]; first | assumption | exact sUp_eq | (rw [sUp_ne (by omega)]; assumption) | (rw [sUp_ne (by omega), sUp_ne (by omega)]; assumption)) | (rw [sUp_ne (by omega), sUp_ne (by omega), sUp_ne (by omega)]; assumption) | (simp [sUp]; done)) (by rfl) rfl ?_
        refine e_bipush (v := nI 38) (p' := 102) D_M_clearBy_100 cst_bipush_38 rfl ?_
        refine e_iaload (p' := 103) D_M_clearBy_102 (by first | assumption | exact sUp_eq | (rw [sUp_ne (by omega)]; assumption) | (rw [sUp_ne (by omega), sUp_ne (by omega)]; assumption) | (rw [sUp_ne (by omega)]; exact sUp_eq) | (rw [gSet_ne (by omega) (by omega)]; first | assumption | exact sUp_eq | (rw [sUp_ne (by omega)]; assumption) | (rw [sUp_ne (by omega), sUp_ne (by omega)]; assumption)) | (rw [sUp_ne (by omega), sUp_ne (by omega), sUp_ne (by omega)]; assumption) | (simp [sUp]; done)) (by omega) (by omega) (by rfl) rfl ?_
        rw [z38]
        first | refine e_iremN (p' := 104) D_M_clearBy_103 (by omega) (by omega) (by omega) rfl ?_ | refine e_irem (p' := 104) D_M_clearBy_103 (by assumption) rfl ?_
        rw [clr_eq _ (by omega) _ kak _ kbk _ (by omega)]
        refine e_iastore (p' := 105) D_M_clearBy_104 (by first | assumption | exact sUp_eq | (rw [sUp_ne (by omega)]; assumption) | (rw [sUp_ne (by omega), sUp_ne (by omega)]; assumption) | (rw [sUp_ne (by omega)]; exact sUp_eq) | (rw [gSet_ne (by omega) (by omega)]; first | assumption | exact sUp_eq | (rw [sUp_ne (by omega)]; assumption) | (rw [sUp_ne (by omega), sUp_ne (by omega)]; assumption)) | (rw [sUp_ne (by omega), sUp_ne (by omega), sUp_ne (by omega)]; assumption) | (simp [sUp]; done)) (by omega) (by omega) rfl ?_
        first | refine e_iincN_6 (n := 1) (p' := 108) D_M_clearBy_105 (Nat.le_of_ble_eq_true rfl) rfl rfl ?_ | refine e_iinc_6 (p' := 108) D_M_clearBy_105 (Nat.le_of_ble_eq_true rfl) rfl rfl rfl ?_
        refine e_goto (p' := 35) D_M_clearBy_108 rfl ?_
        refine sEv.castW (ih35 (sUp h1 71 (iA 36 (upd G (6 * a + k) (nI (elR x.1.2.2 B b c a k))))) _ ⟨⟨sUp_eq, clr_up GG (by omega) hw⟩, FF.tr fun q hq => sUp_ne hq⟩) ?_ ?_ ?_
        · exact ⟨rfl, rfl, rfl, rfl, rfl, rfl, rfl, trivial⟩
        · rfl
        · first | rfl | (simp; done)
  refine sEv.castW (lk35 0 (by omega) h F ⟨⟨hF, fun i j hi hj => by rw [if_neg (by omega)]; exact hW i j hi hj⟩, FrW.rf⟩) ?_ ?_ ?_
  · exact ⟨rfl, rfl, rfl, rfl, rfl, rfl, rfl, trivial⟩
  · rfl
  · first | rfl | (simp; done)
set_option maxRecDepth 4000 in
theorem c_M_exchange {l : Launch} {h : sH} {x : Gd} {n0 t0 : Nat} {v : mV} (hm : h.2 61 = mO n0 t0 v) (hz : h.2 62 = iA 39 (nF (zN x))) (hx : Gok x) {F : Nat → Int32} {n w : Nat} {B : Mx} (hF : h.2 71 = iA 36 F) (hW : WkR F n w B) (hn : n ≤ 6) (hw : w ≤ 6) (hB : Bd x.1.2.2 B) {a b : Nat} (ha : a < n) (hb : b < n) : sY l m_M_exchange 0 [.ref 61, .int (nI a), .int (nI b), .int (nI w)] h (none) (WkAt h n w (swp B a b)) := by
  have hM := hx.2.2.1.le
  have hR := hx.1
  have hC := hx.2.1
  refine en_M_exchange ?_
  refine e_iconst (v := nI 0) (p' := 1) D_M_exchange_0 cst_iconst_0 rfl ?_
  refine e_istore_4 (p' := 3) D_M_exchange_1 (Nat.le_of_ble_eq_true rfl) rfl rfl ?_
  have lk3 : ∀ k : Nat, k ≤ w → ∀ (h1 : sH) (G : Nat → Int32), ((h1.2 71 = iA 36 G ∧ (∀ i j, i < n → j < w → G (6 * i + j) = nI (if j < k then swp B a b i j else B i j))) ∧ FrW h h1) → sEv l m_M_exchange 0 (0, 0, 0, 0) (sKm 0 0 (fun r1 h1 => r1 = none ∧ (WkAt h n w (swp B a b)) h1)) 3 [some (.ref 61), some (.int (nI a)), some (.int (nI b)), some (.int (nI w)), some (.int (nI k)), none] [] (h1) := by
    refine lp_up _ ?_ ?_
    · intro h1 G ⟨⟨G1, GG⟩, FF⟩
      have kz := (FF 62 (by omega)).trans hz
      have km := (FF 61 (by omega)).trans hm
      refine e_iload_4 (p' := 5) D_M_exchange_3 rfl ?_
      refine e_iload_3 (p' := 6) D_M_exchange_5 rfl ?_
      refine e_icmpN_ge (q := 67) (p' := 9) D_M_exchange_6 (by omega) (by omega) rfl rfl (fun hc6 => ?_) (fun hc6 => ?_)
      ·
        refine e_return D_M_exchange_67 rfl ⟨by decide, by decide⟩ ?_
        refine ⟨rfl, ⟨G, G1, fun i j hi hj => ?_⟩, FF⟩
        rw [GG i j hi hj, if_pos hj]
      ·
        exfalso; omega
    · intro k hk ih3 h1 G ⟨⟨G1, GG⟩, FF⟩
      have kz := (FF 62 (by omega)).trans hz
      have km := (FF 61 (by omega)).trans hm
      refine e_iload_4 (p' := 5) D_M_exchange_3 rfl ?_
      refine e_iload_3 (p' := 6) D_M_exchange_5 rfl ?_
      refine e_icmpN_ge (q := 67) (p' := 9) D_M_exchange_6 (by omega) (by omega) rfl rfl (fun hc6 => ?_) (fun hc6 => ?_)
      ·
        exfalso; omega
      ·
        refine e_aload_0 (p' := 10) D_M_exchange_9 rfl ?_
        refine e_getfield (p' := 13) D_M_exchange_10 F_M_39 (by first | assumption | exact sUp_eq | (rw [sUp_ne (by omega)]; assumption) | (rw [sUp_ne (by omega), sUp_ne (by omega)]; assumption) | (rw [sUp_ne (by omega)]; exact sUp_eq) | (rw [gSet_ne (by omega) (by omega)]; first | assumption | exact sUp_eq | (rw [sUp_ne (by omega)]; assumption) | (rw [sUp_ne (by omega), sUp_ne (by omega)]; assumption)) | (rw [sUp_ne (by omega), sUp_ne (by omega), sUp_ne (by omega)]; assumption) | (simp [sUp]; done)) (by rfl) rfl ?_
        refine e_bipush (v := nI 6) (p' := 15) D_M_exchange_13 cst_bipush_6 rfl ?_
        refine e_iload_1 (p' := 16) D_M_exchange_15 rfl ?_
        first | refine e_imulN (p' := 17) D_M_exchange_16 rfl ?_ | refine e_imul (p' := 17) D_M_exchange_16 rfl ?_
        refine e_iload_4 (p' := 19) D_M_exchange_17 rfl ?_
        first | refine e_iaddN (p' := 20) D_M_exchange_19 rfl ?_ | refine e_iadd (p' := 20) D_M_exchange_19 rfl ?_
        refine e_iaload (p' := 21) D_M_exchange_20 (by first | assumption | exact sUp_eq | (rw [sUp_ne (by omega)]; assumption) | (rw [sUp_ne (by omega), sUp_ne (by omega)]; assumption) | (rw [sUp_ne (by omega)]; exact sUp_eq) | (rw [gSet_ne (by omega) (by omega)]; first | assumption | exact sUp_eq | (rw [sUp_ne (by omega)]; assumption) | (rw [sUp_ne (by omega), sUp_ne (by omega)]; assumption)) | (rw [sUp_ne (by omega), sUp_ne (by omega), sUp_ne (by omega)]; assumption) | (simp [sUp]; done)) (by omega) (by omega) (by rfl) rfl ?_
        refine e_istore_5 (p' := 23) D_M_exchange_21 (Nat.le_of_ble_eq_true rfl) rfl rfl ?_
        refine e_aload_0 (p' := 24) D_M_exchange_23 rfl ?_
        refine e_getfield (p' := 27) D_M_exchange_24 F_M_39 (by first | assumption | exact sUp_eq | (rw [sUp_ne (by omega)]; assumption) | (rw [sUp_ne (by omega), sUp_ne (by omega)]; assumption) | (rw [sUp_ne (by omega)]; exact sUp_eq) | (rw [gSet_ne (by omega) (by omega)]; first | assumption | exact sUp_eq | (rw [sUp_ne (by omega)]; assumption) | (rw [sUp_ne (by omega), sUp_ne (by omega)]; assumption)) | (rw [sUp_ne (by omega), sUp_ne (by omega), sUp_ne (by omega)]; assumption) | (simp [sUp]; done)) (by rfl) rfl ?_
        refine e_bipush (v := nI 6) (p' := 29) D_M_exchange_27 cst_bipush_6 rfl ?_
        refine e_iload_1 (p' := 30) D_M_exchange_29 rfl ?_
        first | refine e_imulN (p' := 31) D_M_exchange_30 rfl ?_ | refine e_imul (p' := 31) D_M_exchange_30 rfl ?_
        refine e_iload_4 (p' := 33) D_M_exchange_31 rfl ?_
        first | refine e_iaddN (p' := 34) D_M_exchange_33 rfl ?_ | refine e_iadd (p' := 34) D_M_exchange_33 rfl ?_
        refine e_aload_0 (p' := 35) D_M_exchange_34 rfl ?_
        refine e_getfield (p' := 38) D_M_exchange_35 F_M_39 (by first | assumption | exact sUp_eq | (rw [sUp_ne (by omega)]; assumption) | (rw [sUp_ne (by omega), sUp_ne (by omega)]; assumption) | (rw [sUp_ne (by omega)]; exact sUp_eq) | (rw [gSet_ne (by omega) (by omega)]; first | assumption | exact sUp_eq | (rw [sUp_ne (by omega)]; assumption) | (rw [sUp_ne (by omega), sUp_ne (by omega)]; assumption)) | (rw [sUp_ne (by omega), sUp_ne (by omega), sUp_ne (by omega)]; assumption) | (simp [sUp]; done)) (by rfl) rfl ?_
        refine e_bipush (v := nI 6) (p' := 40) D_M_exchange_38 cst_bipush_6 rfl ?_
        refine e_iload_2 (p' := 41) D_M_exchange_40 rfl ?_
        first | refine e_imulN (p' := 42) D_M_exchange_41 rfl ?_ | refine e_imul (p' := 42) D_M_exchange_41 rfl ?_
        refine e_iload_4 (p' := 44) D_M_exchange_42 rfl ?_
        first | refine e_iaddN (p' := 45) D_M_exchange_44 rfl ?_ | refine e_iadd (p' := 45) D_M_exchange_44 rfl ?_
        refine e_iaload (p' := 46) D_M_exchange_45 (by first | assumption | exact sUp_eq | (rw [sUp_ne (by omega)]; assumption) | (rw [sUp_ne (by omega), sUp_ne (by omega)]; assumption) | (rw [sUp_ne (by omega)]; exact sUp_eq) | (rw [gSet_ne (by omega) (by omega)]; first | assumption | exact sUp_eq | (rw [sUp_ne (by omega)]; assumption) | (rw [sUp_ne (by omega), sUp_ne (by omega)]; assumption)) | (rw [sUp_ne (by omega), sUp_ne (by omega), sUp_ne (by omega)]; assumption) | (simp [sUp]; done)) (by omega) (by omega) (by rfl) rfl ?_
        refine e_iastore (p' := 47) D_M_exchange_46 (by first | assumption | exact sUp_eq | (rw [sUp_ne (by omega)]; assumption) | (rw [sUp_ne (by omega), sUp_ne (by omega)]; assumption) | (rw [sUp_ne (by omega)]; exact sUp_eq) | (rw [gSet_ne (by omega) (by omega)]; first | assumption | exact sUp_eq | (rw [sUp_ne (by omega)]; assumption) | (rw [sUp_ne (by omega), sUp_ne (by omega)]; assumption)) | (rw [sUp_ne (by omega), sUp_ne (by omega), sUp_ne (by omega)]; assumption) | (simp [sUp]; done)) (by omega) (by omega) rfl ?_
        refine e_aload_0 (p' := 48) D_M_exchange_47 rfl ?_
        refine e_getfield (p' := 51) D_M_exchange_48 F_M_39 (by first | assumption | exact sUp_eq | (rw [sUp_ne (by omega)]; assumption) | (rw [sUp_ne (by omega), sUp_ne (by omega)]; assumption) | (rw [sUp_ne (by omega)]; exact sUp_eq) | (rw [gSet_ne (by omega) (by omega)]; first | assumption | exact sUp_eq | (rw [sUp_ne (by omega)]; assumption) | (rw [sUp_ne (by omega), sUp_ne (by omega)]; assumption)) | (rw [sUp_ne (by omega), sUp_ne (by omega), sUp_ne (by omega)]; assumption) | (simp [sUp]; done)) (by rfl) rfl ?_
        refine e_bipush (v := nI 6) (p' := 53) D_M_exchange_51 cst_bipush_6 rfl ?_
        refine e_iload_2 (p' := 54) D_M_exchange_53 rfl ?_
        first | refine e_imulN (p' := 55) D_M_exchange_54 rfl ?_ | refine e_imul (p' := 55) D_M_exchange_54 rfl ?_
        refine e_iload_4 (p' := 57) D_M_exchange_55 rfl ?_
        first | refine e_iaddN (p' := 58) D_M_exchange_57 rfl ?_ | refine e_iadd (p' := 58) D_M_exchange_57 rfl ?_
        refine e_iload_5 (p' := 60) D_M_exchange_58 rfl ?_
        refine e_iastore (p' := 61) D_M_exchange_60 (by first | assumption | exact sUp_eq | (rw [sUp_ne (by omega)]; assumption) | (rw [sUp_ne (by omega), sUp_ne (by omega)]; assumption) | (rw [sUp_ne (by omega)]; exact sUp_eq) | (rw [gSet_ne (by omega) (by omega)]; first | assumption | exact sUp_eq | (rw [sUp_ne (by omega)]; assumption) | (rw [sUp_ne (by omega), sUp_ne (by omega)]; assumption)) | (rw [sUp_ne (by omega), sUp_ne (by omega), sUp_ne (by omega)]; assumption) | (simp [sUp]; done)) (by omega) (by omega) rfl ?_
        first | refine e_iincN_4 (n := 1) (p' := 64) D_M_exchange_61 (Nat.le_of_ble_eq_true rfl) rfl rfl ?_ | refine e_iinc_4 (p' := 64) D_M_exchange_61 (Nat.le_of_ble_eq_true rfl) rfl rfl rfl ?_
        refine e_goto (p' := 3) D_M_exchange_64 rfl ?_
        refine sEv.castW (ih3 (sUp (sUp h1 71 (iA 36 (upd G (6 * a + k) (G (6 * b + k))))) 71 (iA 36 (upd (upd G (6 * a + k) (G (6 * b + k))) (6 * b + k) (G (6 * a + k))))) _ ⟨⟨sUp_eq, exc_up GG ha hb (by omega) hw⟩, FF.tr fun q hq => (sUp_ne hq).trans (sUp_ne hq)⟩) ?_ ?_ ?_
        · exact ⟨rfl, rfl, rfl, rfl, rfl, trivial⟩
        · rfl
        · first | rfl | (simp; done)
  refine sEv.castW (lk3 0 (by omega) h F ⟨⟨hF, fun i j hi hj => by rw [if_neg (by omega)]; exact hW i j hi hj⟩, FrW.rf⟩) ?_ ?_ ?_
  · exact ⟨rfl, rfl, rfl, rfl, rfl, trivial⟩
  · rfl
  · first | rfl | (simp; done)
set_option maxRecDepth 4000 in
theorem c_M_rankOf {l : Launch} {h : sH} {x : Gd} {n0 t0 : Nat} {v : mV} (hm : h.2 61 = mO n0 t0 v) (hz : h.2 62 = iA 39 (nF (zN x))) (hx : Gok x) {F : Nat → Int32} {n w : Nat} {B : Mx} (hF : h.2 71 = iA 36 F) (hW : WkR F n w B) (hn : n ≤ 6) (hw : w ≤ 6) (hB : Bd x.1.2.2 B) : sY l m_M_rankOf 3 [.ref 61, .int (nI n), .int (nI w)] h (some (.int (nI (cst x.1.2.2 n (fun _ => true) B w).2))) (fun h1 => (∃ F, h1.2 71 = iA 36 F) ∧ FrW h h1) := by
  have hM := hx.2.2.1.le
  have hR := hx.1
  have hC := hx.2.1
  refine en_M_rankOf ?_
  refine e_iconst (v := nI 0) (p' := 1) D_M_rankOf_0 cst_iconst_0 rfl ?_
  refine e_istore_3 (p' := 2) D_M_rankOf_1 (Nat.le_of_ble_eq_true rfl) rfl rfl ?_
  refine e_iconst (v := nI 0) (p' := 3) D_M_rankOf_2 cst_iconst_0 rfl ?_
  refine e_istore_4 (p' := 5) D_M_rankOf_3 (Nat.le_of_ble_eq_true rfl) rfl rfl ?_
  have lk5 : ∀ c : Nat, c ≤ w → ∀ (h1 : sH), ((∃ G, h1.2 71 = iA 36 G ∧ WkR G n w (cst x.1.2.2 n (fun _ => true) B c).1) ∧ FrW h h1) → sEv l m_M_rankOf 3 (0, 0, 0, 0) (sKm 0 0 (fun r1 h1 => r1 = some (.int (nI (cst x.1.2.2 n (fun _ => true) B w).2)) ∧ (fun h1 => (∃ F, h1.2 71 = iA 36 F) ∧ FrW h h1) h1)) 5 [some (.ref 61), some (.int (nI n)), some (.int (nI w)), some (.int (nI (cst x.1.2.2 n (fun _ => true) B c).2)), some (.int (nI c)), none, none] [] (h1) := by
    refine lp_up _ ?_ ?_
    · intro h1 ⟨⟨G, G1, GG⟩, FF⟩
      have kz := (FF 62 (by omega)).trans hz
      have km := (FF 61 (by omega)).trans hm
      have ck := cst_ok (m := x.1.2.2) (h := n) (q := fun _ => true) (B := B) (by omega) hB w
      refine e_iload_4 (p' := 7) D_M_rankOf_5 rfl ?_
      refine e_iload_2 (p' := 8) D_M_rankOf_7 rfl ?_
      refine e_icmpN_ge (q := 113) (p' := 11) D_M_rankOf_8 (by omega) (by omega) rfl rfl (fun hc8 => ?_) (fun hc8 => ?_)
      ·
        refine e_iload_3 (p' := 114) D_M_rankOf_113 rfl ?_
        refine e_ireturn (ty := .int) D_M_rankOf_114 rfl (by first | rfl | exact sBo_nar _) ⟨by decide, by decide⟩ ?_
        exact ⟨rfl, ⟨G, G1⟩, FF⟩
      ·
        exfalso; omega
    · intro c hc ih5 h1 ⟨⟨G, G1, GG⟩, FF⟩
      have kz := (FF 62 (by omega)).trans hz
      have km := (FF 61 (by omega)).trans hm
      have ck := cst_ok (m := x.1.2.2) (h := n) (q := fun _ => true) (B := B) (by omega) hB c
      refine e_iload_4 (p' := 7) D_M_rankOf_5 rfl ?_
      refine e_iload_2 (p' := 8) D_M_rankOf_7 rfl ?_
      refine e_icmpN_ge (q := 113) (p' := 11) D_M_rankOf_8 (by omega) (by omega) rfl rfl (fun hc8 => ?_) (fun hc8 => ?_)
      ·
        exfalso; omega
      ·
        refine e_iload_3 (p' := 12) D_M_rankOf_11 rfl ?_
        refine e_iload_1 (p' := 13) D_M_rankOf_12 rfl ?_
        refine e_icmpN_ge (q := 113) (p' := 16) D_M_rankOf_13 (by omega) (by omega) rfl rfl (fun hc13 => ?_) (fun hc13 => ?_)
        ·
          refine e_iload_3 (p' := 114) D_M_rankOf_113 rfl ?_
          refine e_ireturn (ty := .int) D_M_rankOf_114 rfl (by first | rfl | exact sBo_nar _) ⟨by decide, by decide⟩ ?_
          rw [cst_full (by omega) hB (c := c) (by omega) w (by omega)] ; exact ⟨by rw [show (cst x.1.2.2 n (fun _ => true) B c).2 = n by omega], ⟨G, G1⟩, FF⟩
        ·
          refine e_bipush (v := (-6)) (p' := 18) D_M_rankOf_16 cst_bipush_m6 rfl ?_
          refine e_istore_5 (p' := 20) D_M_rankOf_18 (Nat.le_of_ble_eq_true rfl) rfl rfl ?_
          refine e_iload_1 (p' := 21) D_M_rankOf_20 rfl ?_
          refine e_iconst (v := nI 1) (p' := 22) D_M_rankOf_21 cst_iconst_1 rfl ?_
          first | refine e_isubN (p' := 23) D_M_rankOf_22 (by omega) rfl ?_ | refine e_isub (p' := 23) D_M_rankOf_22 rfl ?_
          refine e_istore_6 (p' := 25) D_M_rankOf_23 (Nat.le_of_ble_eq_true rfl) rfl rfl ?_
          have lk25 : ∀ i : Nat, i ≤ n - (cst x.1.2.2 n (fun _ => true) B c).2 → sEv l m_M_rankOf 3 (0, 0, 0, 0) (sKm 0 0 (fun r1 h1 => r1 = some (.int (nI (cst x.1.2.2 n (fun _ => true) B w).2)) ∧ (fun h1 => (∃ F, h1.2 71 = iA 36 F) ∧ FrW h h1) h1)) 25 [some (.ref 61), some (.int (nI n)), some (.int (nI w)), some (.int (nI (cst x.1.2.2 n (fun _ => true) B c).2)), some (.int (nI c)), some (.int (ofO (fp (cst x.1.2.2 n (fun _ => true) B c).1 c i (n - i)))), some (.int (pI (n - i)))] [] (h1) := by
            refine lp_up _ ?_ ?_
            · skip
              have lq := pI_ltN (n - (n - (cst x.1.2.2 n (fun _ => true) B c).2)) (by omega) (cst x.1.2.2 n (fun _ => true) B c).2 (by omega)
              refine e_iload_6 (p' := 27) D_M_rankOf_25 rfl ?_
              refine e_iload_3 (p' := 28) D_M_rankOf_27 rfl ?_
              refine e_icmp_lt (q := 62) (p' := 31) D_M_rankOf_28 rfl rfl (fun hc28 => ?_) (fun hc28 => ?_)
              ·
                refine e_iload_5 (p' := 64) D_M_rankOf_62 rfl ?_
                refine e_bipush (v := (-6)) (p' := 66) D_M_rankOf_64 cst_bipush_m6 rfl ?_
                rw [show n - (n - (cst x.1.2.2 n (fun _ => true) B c).2) = (cst x.1.2.2 n (fun _ => true) B c).2 by omega]
                have om := ofO_m6 (o := fp (cst x.1.2.2 n (fun _ => true) B c).1 c (n - (cst x.1.2.2 n (fun _ => true) B c).2) (cst x.1.2.2 n (fun _ => true) B c).2) (fun p hp => by have := fp_lt hp; omega)
                refine e_icmp_eq (q := 107) (p' := 69) D_M_rankOf_66 rfl rfl (fun hc66 => ?_) (fun hc66 => ?_)
                ·
                  have hno := om.mp (by first | exact hc66 | exact Classical.not_not.mp hc66)
                  first | refine e_iincN_4 (n := 1) (p' := 110) D_M_rankOf_107 (Nat.le_of_ble_eq_true rfl) rfl rfl ?_ | refine e_iinc_4 (p' := 110) D_M_rankOf_107 (Nat.le_of_ble_eq_true rfl) rfl rfl rfl ?_
                  refine e_goto (p' := 5) D_M_rankOf_110 rfl ?_
                  refine sEv.castW (ih5 h1 ⟨⟨G, G1, by rw [cst_none (q := fun _ => true) rfl hno]; exact GG⟩, FF⟩) ?_ ?_ ?_
                  · rw [cst_none (q := fun _ => true) rfl hno]; exact ⟨rfl, rfl, rfl, rfl, rfl, trivial⟩
                  · rfl
                  · first | rfl | (simp; done)
                ·
                  obtain ⟨p, hso⟩ := Option.ne_none_iff_exists'.mp (fun q => hc66 (om.mpr q))
                  have hpl := fp_lt hso
                  have piv : swp (cst x.1.2.2 n (fun _ => true) B c).1 p (cst x.1.2.2 n (fun _ => true) B c).2 (cst x.1.2.2 n (fun _ => true) B c).2 c ≠ 0 := by
                    have e := fp_ne hso
                    unfold swp
                    by_cases w : (cst x.1.2.2 n (fun _ => true) B c).2 = (cst x.1.2.2 n (fun _ => true) B c).2
                    · rw [if_pos rfl]; exact e
                    · exact absurd rfl w
                  rw [hso]
                  refine e_aload_0 (p' := 70) D_M_rankOf_69 rfl ?_
                  refine e_iload_5 (p' := 72) D_M_rankOf_70 rfl ?_
                  refine e_iload_3 (p' := 73) D_M_rankOf_72 rfl ?_
                  refine e_iload_2 (p' := 74) D_M_rankOf_73 rfl ?_
                  refine y_callV0 (p' := 77) D_M_rankOf_74 V_M_110 (c_M_exchange km kz hx G1 GG hn hw ck.1 (by omega) (by omega)) rfl (by first | assumption | exact sUp_eq | (rw [sUp_ne (by omega)]; assumption) | (rw [sUp_ne (by omega), sUp_ne (by omega)]; assumption) | (rw [sUp_ne (by omega)]; exact sUp_eq) | (rw [gSet_ne (by omega) (by omega)]; first | assumption | exact sUp_eq | (rw [sUp_ne (by omega)]; assumption) | (rw [sUp_ne (by omega), sUp_ne (by omega)]; assumption)) | (rw [sUp_ne (by omega), sUp_ne (by omega), sUp_ne (by omega)]; assumption) | (simp [sUp]; done)) rfl (Nat.le_of_ble_eq_true rfl) (by decide) ⟨by decide, by decide⟩ rfl ?_
                  rintro h2 ⟨⟨G2, G5, GG2⟩, FF2⟩
                  have FF2 := FF.tr FF2
                  refine e_iload_3 (p' := 78) D_M_rankOf_77 rfl ?_
                  refine e_iconst (v := nI 1) (p' := 79) D_M_rankOf_78 cst_iconst_1 rfl ?_
                  first | refine e_iaddN (p' := 80) D_M_rankOf_79 rfl ?_ | refine e_iadd (p' := 80) D_M_rankOf_79 rfl ?_
                  refine e_istore_6 (p' := 82) D_M_rankOf_80 (Nat.le_of_ble_eq_true rfl) rfl rfl ?_
                  have lk82 : ∀ r : Nat, r ≤ n → ∀ (h3 : sH), (((cst x.1.2.2 n (fun _ => true) B c).2 < r ∧ ∃ G, h3.2 71 = iA 36 G ∧ WkR G n w (elN x.1.2.2 (swp (cst x.1.2.2 n (fun _ => true) B c).1 p (cst x.1.2.2 n (fun _ => true) B c).2) (cst x.1.2.2 n (fun _ => true) B c).2 c r)) ∧ FrW h h3) → sEv l m_M_rankOf 3 (0, 0, 0, 0) (sKm 0 0 (fun r1 h1 => r1 = some (.int (nI (cst x.1.2.2 n (fun _ => true) B w).2)) ∧ (fun h1 => (∃ F, h1.2 71 = iA 36 F) ∧ FrW h h1) h1)) 82 [some (.ref 61), some (.int (nI n)), some (.int (nI w)), some (.int (nI (cst x.1.2.2 n (fun _ => true) B c).2)), some (.int (nI c)), none, some (.int (nI r))] [] (h3) := by
                    refine lp_up _ ?_ ?_
                    · intro h3 ⟨⟨rlt, G3, G4, GG3⟩, FF3⟩
                      have km3 := (FF3 61 (by omega)).trans hm
                      refine e_iload_6 (p' := 84) D_M_rankOf_82 rfl ?_
                      refine e_iload_1 (p' := 85) D_M_rankOf_84 rfl ?_
                      refine e_icmpN_ge (q := 104) (p' := 88) D_M_rankOf_85 (by omega) (by omega) rfl rfl (fun hc85 => ?_) (fun hc85 => ?_)
                      ·
                        first | refine e_iincN_3 (n := 1) (p' := 107) D_M_rankOf_104 (Nat.le_of_ble_eq_true rfl) rfl rfl ?_ | refine e_iinc_3 (p' := 107) D_M_rankOf_104 (Nat.le_of_ble_eq_true rfl) rfl rfl rfl ?_
                        first | refine e_iincN_4 (n := 1) (p' := 110) D_M_rankOf_107 (Nat.le_of_ble_eq_true rfl) rfl rfl ?_ | refine e_iinc_4 (p' := 110) D_M_rankOf_107 (Nat.le_of_ble_eq_true rfl) rfl rfl rfl ?_
                        refine e_goto (p' := 5) D_M_rankOf_110 rfl ?_
                        refine sEv.castW (ih5 h3 ⟨⟨G3, G4, by rw [cst_some (q := fun _ => true) rfl hso]; exact GG3⟩, FF3⟩) ?_ ?_ ?_
                        · rw [cst_some (q := fun _ => true) rfl hso]; exact ⟨rfl, rfl, rfl, rfl, rfl, trivial⟩
                        · rfl
                        · first | rfl | (simp; done)
                      ·
                        exfalso; omega
                    · intro r hr ih82 h3 ⟨⟨rlt, G3, G4, GG3⟩, FF3⟩
                      have km3 := (FF3 61 (by omega)).trans hm
                      refine e_iload_6 (p' := 84) D_M_rankOf_82 rfl ?_
                      refine e_iload_1 (p' := 85) D_M_rankOf_84 rfl ?_
                      refine e_icmpN_ge (q := 104) (p' := 88) D_M_rankOf_85 (by omega) (by omega) rfl rfl (fun hc85 => ?_) (fun hc85 => ?_)
                      ·
                        exfalso; omega
                      ·
                        refine e_aload_0 (p' := 89) D_M_rankOf_88 rfl ?_
                        refine e_iload_6 (p' := 91) D_M_rankOf_89 rfl ?_
                        refine e_iload_3 (p' := 92) D_M_rankOf_91 rfl ?_
                        refine e_iload_4 (p' := 94) D_M_rankOf_92 rfl ?_
                        refine e_iload_2 (p' := 95) D_M_rankOf_94 rfl ?_
                        refine y_callV0 (p' := 98) D_M_rankOf_95 V_M_114 (c_M_clearBy ((FF3 61 (by omega)).trans hm) ((FF3 62 (by omega)).trans hz) hx G4 GG3 hn hw ((ck.1.swp _ _).elN (by omega) _ _ _) (by omega) (by omega) (by omega) (by omega) (by rw [show elN x.1.2.2 (swp (cst x.1.2.2 n (fun _ => true) B c).1 p (cst x.1.2.2 n (fun _ => true) B c).2) (cst x.1.2.2 n (fun _ => true) B c).2 c r (cst x.1.2.2 n (fun _ => true) B c).2 = swp (cst x.1.2.2 n (fun _ => true) B c).1 p (cst x.1.2.2 n (fun _ => true) B c).2 (cst x.1.2.2 n (fun _ => true) B c).2 from if_neg (by omega)]; exact piv)) rfl (by first | assumption | exact sUp_eq | (rw [sUp_ne (by omega)]; assumption) | (rw [sUp_ne (by omega), sUp_ne (by omega)]; assumption) | (rw [sUp_ne (by omega)]; exact sUp_eq) | (rw [gSet_ne (by omega) (by omega)]; first | assumption | exact sUp_eq | (rw [sUp_ne (by omega)]; assumption) | (rw [sUp_ne (by omega), sUp_ne (by omega)]; assumption)) | (rw [sUp_ne (by omega), sUp_ne (by omega), sUp_ne (by omega)]; assumption) | (simp [sUp]; done)) rfl (Nat.le_of_ble_eq_true rfl) (by decide) ⟨by decide, by decide⟩ rfl ?_
                        rintro h4 ⟨⟨G6, G7, GG4⟩, FF4⟩
                        first | refine e_iincN_6 (n := 1) (p' := 101) D_M_rankOf_98 (Nat.le_of_ble_eq_true rfl) rfl rfl ?_ | refine e_iinc_6 (p' := 101) D_M_rankOf_98 (Nat.le_of_ble_eq_true rfl) rfl rfl rfl ?_
                        refine e_goto (p' := 82) D_M_rankOf_101 rfl ?_
                        refine sEv.castW (ih82 h4 ⟨⟨by omega, G6, G7, by rw [← elN_s rlt]; exact GG4⟩, FF3.tr FF4⟩) ?_ ?_ ?_
                        · exact ⟨rfl, rfl, rfl, rfl, rfl, rfl, trivial⟩
                        · rfl
                        · first | rfl | (simp; done)
                  refine sEv.castW (lk82 ((cst x.1.2.2 n (fun _ => true) B c).2 + 1) (by omega) h2 ⟨⟨by omega, G2, G5, by rw [elN_0]; exact GG2⟩, FF2⟩) ?_ ?_ ?_
                  · exact ⟨rfl, rfl, rfl, rfl, rfl, rfl, trivial⟩
                  · rfl
                  · first | rfl | (simp; done)
              ·
                first | exact absurd (lq.mpr (by omega)) hc28 | exact absurd (lq.mp hc28) (by omega)
            · intro i hi ih25 
              have lq := pI_ltN (n - i) (by omega) (cst x.1.2.2 n (fun _ => true) B c).2 (by omega)
              refine e_iload_6 (p' := 27) D_M_rankOf_25 rfl ?_
              refine e_iload_3 (p' := 28) D_M_rankOf_27 rfl ?_
              refine e_icmp_lt (q := 62) (p' := 31) D_M_rankOf_28 rfl rfl (fun hc28 => ?_) (fun hc28 => ?_)
              ·
                first | exact absurd (lq.mpr (by omega)) hc28 | exact absurd (lq.mp hc28) (by omega)
              ·
                rw [pI_pos (show n - i ≠ 0 by omega)]
                refine e_aload_0 (p' := 32) D_M_rankOf_31 rfl ?_
                refine e_getfield (p' := 35) D_M_rankOf_32 F_M_39 (by first | assumption | exact sUp_eq | (rw [sUp_ne (by omega)]; assumption) | (rw [sUp_ne (by omega), sUp_ne (by omega)]; assumption) | (rw [sUp_ne (by omega)]; exact sUp_eq) | (rw [gSet_ne (by omega) (by omega)]; first | assumption | exact sUp_eq | (rw [sUp_ne (by omega)]; assumption) | (rw [sUp_ne (by omega), sUp_ne (by omega)]; assumption)) | (rw [sUp_ne (by omega), sUp_ne (by omega), sUp_ne (by omega)]; assumption) | (simp [sUp]; done)) (by rfl) rfl ?_
                refine e_bipush (v := nI 6) (p' := 37) D_M_rankOf_35 cst_bipush_6 rfl ?_
                refine e_iload_6 (p' := 39) D_M_rankOf_37 rfl ?_
                first | refine e_imulN (p' := 40) D_M_rankOf_39 rfl ?_ | refine e_imul (p' := 40) D_M_rankOf_39 rfl ?_
                refine e_iload_4 (p' := 42) D_M_rankOf_40 rfl ?_
                first | refine e_iaddN (p' := 43) D_M_rankOf_42 rfl ?_ | refine e_iadd (p' := 43) D_M_rankOf_42 rfl ?_
                refine e_iaload (p' := 44) D_M_rankOf_43 (by first | assumption | exact sUp_eq | (rw [sUp_ne (by omega)]; assumption) | (rw [sUp_ne (by omega), sUp_ne (by omega)]; assumption) | (rw [sUp_ne (by omega)]; exact sUp_eq) | (rw [gSet_ne (by omega) (by omega)]; first | assumption | exact sUp_eq | (rw [sUp_ne (by omega)]; assumption) | (rw [sUp_ne (by omega), sUp_ne (by omega)]; assumption)) | (rw [sUp_ne (by omega), sUp_ne (by omega), sUp_ne (by omega)]; assumption) | (simp [sUp]; done)) (by omega) (by omega) (by rfl) rfl ?_
                rw [GG (n - i - 1) c (by omega) (by omega)]
                have gb := ck.1 (n - i - 1) c
                refine e_ifN_le (q := 52) (p' := 47) D_M_rankOf_44 (by omega) rfl rfl (fun hc44 => ?_) (fun hc44 => ?_)
                ·
                  refine e_iload_5 (p' := 54) D_M_rankOf_52 rfl ?_
                  refine e_istore_5 (p' := 56) D_M_rankOf_54 (Nat.le_of_ble_eq_true rfl) rfl rfl ?_
                  first | refine e_iincM_6 (n := 1) (p' := 59) D_M_rankOf_56 (Nat.le_of_ble_eq_true rfl) rfl (by omega) rfl ?_ | refine e_iinc_6 (p' := 59) D_M_rankOf_56 (Nat.le_of_ble_eq_true rfl) rfl rfl rfl ?_
                  refine e_goto (p' := 25) D_M_rankOf_59 rfl ?_
                  refine sEv.castW (ih25) ?_ ?_ ?_
                  · rw [fp_step (by omega) (by omega)]
                    refine ⟨rfl, rfl, rfl, rfl, rfl, rfl, ?_, trivial⟩
                    rw [show n - (i + 1) = n - i - 1 by omega]
                    exact congrArg (fun v => some (Value.int v)) (pI_dec _)
                  · rfl
                  · first | rfl | (simp; done)
                ·
                  refine e_iload_6 (p' := 49) D_M_rankOf_47 rfl ?_
                  refine e_goto (p' := 54) D_M_rankOf_49 rfl ?_
                  refine e_istore_5 (p' := 56) D_M_rankOf_54 (Nat.le_of_ble_eq_true rfl) rfl rfl ?_
                  first | refine e_iincM_6 (n := 1) (p' := 59) D_M_rankOf_56 (Nat.le_of_ble_eq_true rfl) rfl (by omega) rfl ?_ | refine e_iinc_6 (p' := 59) D_M_rankOf_56 (Nat.le_of_ble_eq_true rfl) rfl rfl rfl ?_
                  refine e_goto (p' := 25) D_M_rankOf_59 rfl ?_
                  refine sEv.castW (ih25) ?_ ?_ ?_
                  · rw [fp_stop (by omega)]
                    refine ⟨rfl, rfl, rfl, rfl, rfl, rfl, ?_, trivial⟩
                    rw [show n - (i + 1) = n - i - 1 by omega]
                    exact congrArg (fun v => some (Value.int v)) (pI_dec _)
                  · rfl
                  · first | rfl | (simp; done)
          refine sEv.castW (lk25 0 (by omega) ) ?_ ?_ ?_
          · refine ⟨rfl, rfl, rfl, rfl, rfl, rfl, ?_, trivial⟩
            rw [Nat.sub_zero, pI_pos (by omega)]
          · rfl
          · first | rfl | (simp; done)
  refine sEv.castW (lk5 0 (by omega) h ⟨⟨F, hF, hW⟩, FrW.rf⟩) ?_ ?_ ?_
  · exact ⟨rfl, rfl, rfl, rfl, rfl, trivial⟩
  · rfl
  · first | rfl | (simp; done)
