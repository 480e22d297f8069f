/-! ===== parts: as many told entries as join all of a part; their order ===== -/
def ej (x : Gd) (s : Ps) (p : Nat) : Nat := sm x.1.1 (fun r => sm x.1.2.1 (fun c => if td x r c = true ∧ s.1.1 r = p ∧ s.1.2 c = p then 1 else 0))
theorem ej_mono {x : Gd} {s t : Ps} {p : Nat} (h1 : ∀ r, s.1.1 r = p → t.1.1 r = p) (h2 : ∀ c, s.1.2 c = p → t.1.2 c = p) : ej x s p ≤ ej x t p := by
  refine sm_leF fun r _ => sm_leF fun c _ => ?_
  by_cases e : td x r c = true ∧ s.1.1 r = p ∧ s.1.2 c = p
  · rw [if_pos e, if_pos ⟨e.1, h1 r e.2.1, h2 c e.2.2⟩]; exact Nat.le_refl _
  · rw [if_neg e]; exact Nat.zero_le _
theorem ej_more {x : Gd} {s t : Ps} {p r0 c0 : Nat} (hr : r0 < x.1.1) (hc : c0 < x.1.2.1) (h1 : ∀ r, s.1.1 r = p → t.1.1 r = p) (h2 : ∀ c, s.1.2 c = p → t.1.2 c = p) (ht : td x r0 c0 = true) (ho : ¬ (s.1.1 r0 = p ∧ s.1.2 c0 = p)) (hn : t.1.1 r0 = p ∧ t.1.2 c0 = p) : ej x s p + 1 ≤ ej x t p := by
  have m1 : ∀ r c, (if td x r c = true ∧ s.1.1 r = p ∧ s.1.2 c = p then 1 else 0) ≤ (if td x r c = true ∧ t.1.1 r = p ∧ t.1.2 c = p then 1 else 0) := fun r c => by
    by_cases e : td x r c = true ∧ s.1.1 r = p ∧ s.1.2 c = p
    · rw [if_pos e, if_pos ⟨e.1, h1 r e.2.1, h2 c e.2.2⟩]; exact Nat.le_refl _
    · rw [if_neg e]; exact Nat.zero_le _
  refine sm_lt1 hr (fun r _ => sm_leF fun c _ => m1 r c) (sm_lt1 hc (fun c _ => m1 r0 c) ?_)
  rw [if_neg (fun z => ho z.2), if_pos ⟨ht, hn⟩]
  exact Nat.le_refl _
def Spn (x : Gd) (s : Ps) : Prop := ∀ p, p ≠ 0 → pRows s p + pCols s p ≤ ej x s p + 1
theorem pRows_up {s : Ps} {a v p : Nat} {w : Nat → Nat} (ha : a < 6) (h0 : s.1.1 a = 0) (hp : p ≠ 0) : pRows ((up s.1.1 a v, s.1.2), (w, s.2.2)) p = pRows s p + (if v = p then 1 else 0) := ct_upq ha (fun e => hp (by rw [← e]; exact h0))
theorem pCols_up {s : Ps} {a v p : Nat} {w : Nat → Nat} (ha : a < 6) (h0 : s.1.2 a = 0) (hp : p ≠ 0) : pCols ((s.1.1, up s.1.2 a v), (s.2.1, w)) p = pCols s p + (if v = p then 1 else 0) := ct_upq ha (fun e => hp (by rw [← e]; exact h0))
theorem ct_none {n : Nat} {p : Nat → Bool} (h : ∀ k, k < n → p k = false) : ct n p = 0 := sm_zero fun k hk => by rw [h k hk]; rfl
theorem lay_spn {x : Gd} (hx : Gok x) : Spn x (lay x).1 := by
  have hR := hx.1
  have hC := hx.2.1
  have row : ∀ (s : Ps) (n : Nat), (∀ p, p ≠ 0 → pRows s p + pCols s p ≤ ej x s p + 1) → True := fun _ _ _ => trivial
  have h1 := layR_ind hx (J := fun s _ => Spn x s) (fun p hp => by
      have a : pRows ps0 p = 0 := ct_none fun k _ => decide_eq_false (fun e => hp e.symm)
      have b : pCols ps0 p = 0 := ct_none fun k _ => decide_eq_false (fun e => hp e.symm)
      omega)
    (fun s n r c hr hc hn hi hJ => by
      rcases psStep_cases hr hc hi with e | ⟨⟨t, p0, p1, q0⟩, e⟩ | ⟨⟨t, p0, q0, q1⟩, e⟩
      · rw [e]; exact hJ
      · rw [e]
        intro p hp
        have a := hJ p hp
        rw [pCols_up (by omega) q0 hp]
        have k2 : ∀ c', s.1.2 c' = p → up s.1.2 c n c' = p := fun c' z => by
          rw [up_off (fun w => by rw [w] at z; omega)]; exact z
        show pRows s p + _ ≤ _
        by_cases e2 : n = p
        · subst e2
          rw [if_pos rfl]
          have b := ej_more (s := s) (t := ((s.1.1, up s.1.2 c n), (s.2.1, up s.2.2 c (qt x.1.2.2 (at' x r c) (s.2.1 r))))) (p := n) hr hc (fun _ z => z) k2 t (fun z => hn (z.2.symm.trans q0)) ⟨p1, up_at⟩
          omega
        · rw [if_neg e2]
          have b := ej_mono (x := x) (s := s) (t := ((s.1.1, up s.1.2 c n), (s.2.1, up s.2.2 c (qt x.1.2.2 (at' x r c) (s.2.1 r))))) (p := p) (fun _ z => z) k2
          omega
      · rw [e]
        intro p hp
        have a := hJ p hp
        rw [pRows_up (by omega) p0 hp]
        have k1 : ∀ r', s.1.1 r' = p → up s.1.1 r n r' = p := fun r' z => by
          rw [up_off (fun w => by rw [w] at z; omega)]; exact z
        show _ + pCols s p ≤ _
        by_cases e2 : n = p
        · subst e2
          rw [if_pos rfl]
          have b := ej_more (s := s) (t := ((up s.1.1 r n, s.1.2), (up s.2.1 r (qt x.1.2.2 (at' x r c) (s.2.2 c)), s.2.2))) (p := n) hr hc k1 (fun _ z => z) t (fun z => hn (z.1.symm.trans p0)) ⟨up_at, q1⟩
          omega
        · rw [if_neg e2]
          have b := ej_mono (x := x) (s := s) (t := ((up s.1.1 r n, s.1.2), (up s.2.1 r (qt x.1.2.2 (at' x r c) (s.2.2 c)), s.2.2))) (p := p) k1 (fun _ z => z)
          omega)
    (fun s n r hr hk0 h0 hi hcl hJ => by
      intro p hp
      have a := hJ p hp
      unfold psRow
      rw [pRows_up (by omega) h0 hp]
      show _ + pCols s p ≤ _
      have k1 : ∀ r', s.1.1 r' = p → up s.1.1 r (n + 1) r' = p := fun r' z => by
        rw [up_off (fun w => by rw [w] at z; omega)]; exact z
      by_cases e2 : n + 1 = p
      · subst e2
        have b1 : pRows s (n + 1) = 0 := ct_none fun k _ => decide_eq_false (fun e => by have := (hi.2.2 k).1; omega)
        have b2 : pCols s (n + 1) = 0 := ct_none fun k _ => decide_eq_false (fun e => by have := (hi.2.2 k).2; omega)
        rw [if_pos rfl, b1, b2]
        omega
      · rw [if_neg e2]
        have b := ej_mono (x := x) (s := s) (t := ((up s.1.1 r (n + 1), s.1.2), (up s.2.1 r 1, s.2.2))) (p := p) k1 (fun _ z => z)
        omega) _ (Nat.le_refl _)
  exact layC_ind hx (J := fun s _ => Spn x s) h1 (fun s n c hc ht hk hk2 h0 hle hJ => by
    intro p hp
    have a := hJ p hp
    unfold psCol
    rw [pCols_up (by omega) h0 hp]
    show pRows s p + _ ≤ _
    have k1 : ∀ c', s.1.2 c' = p → up s.1.2 c (n + 1) c' = p := fun c' z => by
      rw [up_off (fun w => by rw [w] at z; omega)]; exact z
    by_cases e2 : n + 1 = p
    · subst e2
      have b1 : pRows s (n + 1) = 0 := ct_none fun k _ => decide_eq_false (fun e => by have := (hle k).1; omega)
      have b2 : pCols s (n + 1) = 0 := ct_none fun k _ => decide_eq_false (fun e => by have := (hle k).2; omega)
      rw [if_pos rfl, b1, b2]
      omega
    · rw [if_neg e2]
      have b := ej_mono (x := x) (s := s) (t := ((s.1.1, up s.1.2 c (n + 1)), (s.2.1, up s.2.2 c 1))) (p := p) (fun _ z => z) k1
      omega) _ (Nat.le_refl _)
theorem ej_tIn {x : Gd} (hx : Gok x) (p : Nat) : ej x (lay x).1 p ≤ tIn x p := by
  refine sm_leF fun r hr => ?_
  by_cases e : lP x r = p
  · rw [if_pos e]
    rw [show ct 6 (td x r) = sm x.1.2.1 (fun c => if td x r c = true then 1 else 0) from sm_more hx.2.1.2 fun c h1 h2 => by rw [td_out hx h2 (Or.inr h1)]; rfl]
    refine sm_leF fun c _ => ?_
    by_cases t : td x r c = true
    · rw [if_pos t]
      split <;> omega
    · rw [if_neg (fun z => t z.1)]; exact Nat.zero_le _
  · rw [if_neg e]
    refine Nat.le_of_eq (sm_zero fun c _ => if_neg fun z => e z.2.1)
theorem span {x : Gd} (hx : Gok x) {p : Nat} (hp : p ≠ 0) : pRows (lay x).1 p + pCols (lay x).1 p ≤ tIn x p + 1 := by
  have a := lay_spn hx p hp
  have b := ej_tIn hx p
  omega
theorem tIn_sum {x : Gd} (hx : Gok x) : sm (lay x).2 (fun p => tIn x (p + 1)) = told x := by
  rw [← told_rows hx]
  unfold tIn
  rw [sm_comm]
  refine sm_congr fun r hr => ?_
  have a := lP_nz hx hr
  have b := lP_le hx r
  have e : ∀ p, p < (lay x).2 → (if (lay x).1.1.1 r = p + 1 then ct 6 (td x r) else 0) = (if lP x r - 1 = p then ct 6 (td x r) else 0) := fun p hp => by
    show (if lP x r = p + 1 then ct 6 (td x r) else 0) = _
    by_cases e : lP x r = p + 1
    · rw [if_pos e, if_pos (by omega)]
    · rw [if_neg e, if_neg (by omega)]
  rw [sm_congr e]
  exact sm_pick (f := fun _ => ct 6 (td x r)) (by omega)
/-- the lowest place of a part -/
def LdAt (x : Gd) (p v : Nat) : Prop := v < 12 ∧ Lab x v = p ∧ ∀ w, w < v → Lab x w < p
theorem ld_lt {x : Gd} {p q v w : Nat} (h1 : LdAt x p v) (h2 : LdAt x q w) (hpq : p < q) : v < w := by
  refine Classical.byContradiction fun z => ?_
  by_cases e : v = w
  · subst e
    have := h1.2.1
    have := h2.2.1
    omega
  · have a := h1.2.2 w (by omega)
    have b := h2.2.1
    omega
theorem mk_or6 : ∀ a0 a1 a2 a3 a4 a5 b0 b1 b2 b3 b4 b5 : Bool, nI (0 + (if a0 then 2 ^ 0 else 0) + (if a1 then 2 ^ 1 else 0) + (if a2 then 2 ^ 2 else 0) + (if a3 then 2 ^ 3 else 0) + (if a4 then 2 ^ 4 else 0) + (if a5 then 2 ^ 5 else 0)) ||| nI (0 + (if b0 then 2 ^ 0 else 0) + (if b1 then 2 ^ 1 else 0) + (if b2 then 2 ^ 2 else 0) + (if b3 then 2 ^ 3 else 0) + (if b4 then 2 ^ 4 else 0) + (if b5 then 2 ^ 5 else 0)) =
    nI (0 + (if (a0 || b0) then 2 ^ 0 else 0) + (if (a1 || b1) then 2 ^ 1 else 0) + (if (a2 || b2) then 2 ^ 2 else 0) + (if (a3 || b3) then 2 ^ 3 else 0) + (if (a4 || b4) then 2 ^ 4 else 0) + (if (a5 || b5) then 2 ^ 5 else 0)) := by decide +kernel
theorem mk_orb {p q : Nat → Bool} : nI (mk 6 p) ||| nI (mk 6 q) = nI (mk 6 (fun k => p k || q k)) := mk_or6 _ _ _ _ _ _ _ _ _ _ _ _
theorem mk_0 {p : Nat → Bool} {n : Nat} (h : ∀ k, k < n → p k = false) : mk n p = 0 := by
  induction n with
  | zero => rfl
  | succ n ih =>
    rw [mk_succ, ih (fun k hk => h k (by omega)), h n (by omega)]
    rfl
theorem mk_R : ∀ R, R < 7 → mk 6 (fun k => decide (k < R)) = 2 ^ R - 1 := by decide +kernel
theorem low_bit : ∀ a, a < 64 → ∀ f, f < 6 → bit a f = true → (∀ k, k < f → bit a k = false) → nI a &&& (- nI a) = nI (2 ^ f) := by
  have : ∀ a, a < 64 → ∀ f, f < 6 → bit a f = true → al f (fun k => !bit a k) = true → nI a &&& (- nI a) = nI (2 ^ f) := by decide +kernel
  intro a ha f hf hb h
  exact this a ha f hf hb (al_iff.mpr fun k hk => by rw [h k hk]; rfl)
theorem pow12 : ∀ v, v < 12 → 2 ^ v < 2 ^ 12 := fun v hv => Nat.pow_lt_pow_right (by omega) hv
/-- what the law calls the lowest of a part -/
theorem part_low {x : Gd} (hx : Gok x) {p : Nat} (h1 : 1 ≤ p) (h2 : p ≤ (lay x).2) : ∃ v, LdAt x p v ∧ (mRows (lay x).1 p ≠ 0 → nI (mRows (lay x).1 p) &&& (- nI (mRows (lay x).1 p)) = nI (2 ^ v)) ∧
    (mRows (lay x).1 p = 0 → pCols (lay x).1 p = 1 ∧ nI 64 * (nI (mCols (lay x).1 p) &&& (- nI (mCols (lay x).1 p))) = nI (2 ^ v)) := by
  have hR := hx.1
  have hC := hx.2.1
  have g := mRows_lt (s := (lay x).1) (q := p)
  have g2 := mCols_lt (s := (lay x).1) (q := p)
  have br : ∀ k, k < 6 → bit (mRows (lay x).1 p) k = decide (lP x k = p) := fun k hk => bit_mk hk
  have bc : ∀ k, k < 6 → bit (mCols (lay x).1 p) k = decide (lQ x k = p) := fun k hk => bit_mk hk
  rcases lay_led hx p h1 h2 with ⟨f, f1, f2, f3, f4⟩ | ⟨f0, c, f1, f2, f3, f4, f5⟩
  · refine ⟨f, ⟨by omega, (Lab_r (by omega)).trans f2, fun w hw => ?_⟩, fun _ => ?_, fun z => ?_⟩
    · rw [Lab_r (by omega)]; exact f3 w hw
    · refine low_bit _ g f (by omega) ?_ (fun k hk => ?_)
      · rw [br f (by omega)]; exact decide_eq_true f2
      · rw [br k (by omega)]
        refine decide_eq_false ?_
        have : lP x k < p := f3 k hk
        omega
    · have a := br f (by omega)
      rw [z, bit0 f (by omega)] at a
      exact absurd f2 (of_decide_eq_false a.symm)
  · refine ⟨6 + c, ⟨by omega, Lab_c.trans f2, fun w hw => ?_⟩, fun z => ?_, fun z => ⟨?_, ?_⟩⟩
    · by_cases e : w < 6
      · rw [Lab_r e]
        by_cases e2 : w < x.1.1
        · exact f0 w e2
        · rw [l_out.1 w (by omega)]; omega
      · obtain ⟨k, rfl⟩ : ∃ k, w = 6 + k := ⟨w - 6, by omega⟩
        rw [Lab_c]
        exact f3 k (by omega)
    · refine absurd ?_ z
      refine mk_0 fun k hk => decide_eq_false ?_
      show ¬ lP x k = p
      by_cases e2 : k < x.1.1
      · have : lP x k < p := f0 k e2
        omega
      · rw [l_out.1 k (by omega)]; omega
    · have e : ∀ k, k < 6 → (if decide ((lay x).1.1.2 k = p) = true then 1 else 0) = (if k = c then (fun _ => 1) k else 0) := fun k hk => by
        by_cases e : k = c
        · rw [if_pos e, if_pos]
          rw [e]; exact decide_eq_true f2
        · rw [if_neg e, if_neg]
          exact fun z => e (f5 k (of_decide_eq_true z))
      show sm 6 (fun k => if decide ((lay x).1.1.2 k = p) = true then 1 else 0) = 1
      rw [sm_congr e]
      exact sm_pick' (f := fun _ => 1) (by omega)
    · rw [low_bit _ g2 c (by omega) (by rw [bc c (by omega)]; exact decide_eq_true f2) (fun k hk => by
        rw [bc k (by omega)]
        refine decide_eq_false ?_
        have : lQ x k < p := f3 k hk
        omega)]
      rw [pk_mul]
      exact congrArg nI (Nat.pow_add 2 6 c).symm
/-- the sets of what is in the first parts -/
def rwTo (x : Gd) (p k : Nat) : Bool := decide (lP x k ≠ 0) && decide (lP x k ≤ p)
def clTo (x : Gd) (p k : Nat) : Bool := decide (lQ x k ≠ 0) && decide (lQ x k ≤ p)
theorem rw_and {x : Gd} {p : Nat} : nI (mk 6 (rwTo x p)) &&& nI (mRows (lay x).1 (p + 1)) = nI 0 := by
  unfold mRows
  rw [mk_and, mk_0]
  intro k hk
  unfold rwTo
  by_cases e : lP x k = p + 1
  · rw [decide_eq_false (show ¬ lP x k ≤ p by omega), Bool.and_false]; rfl
  · rw [decide_eq_false (p := (lay x).1.1.1 k = p + 1) e, Bool.and_false]
theorem cl_and {x : Gd} {p : Nat} : nI (mk 6 (clTo x p)) &&& nI (mCols (lay x).1 (p + 1)) = nI 0 := by
  unfold mCols
  rw [mk_and, mk_0]
  intro k hk
  unfold clTo
  by_cases e : lQ x k = p + 1
  · rw [decide_eq_false (show ¬ lQ x k ≤ p by omega), Bool.and_false]; rfl
  · rw [decide_eq_false (p := (lay x).1.1.2 k = p + 1) e, Bool.and_false]
theorem rw_or {x : Gd} {p : Nat} : nI (mk 6 (rwTo x p)) ||| nI (mRows (lay x).1 (p + 1)) = nI (mk 6 (rwTo x (p + 1))) := by
  unfold mRows
  rw [mk_orb]
  congr 1
  refine mk_congr fun k hk => ?_
  unfold rwTo
  show (decide (lP x k ≠ 0) && decide (lP x k ≤ p) || decide (lP x k = p + 1)) = _
  rw [Bool.eq_iff_iff]
  simp only [Bool.or_eq_true, Bool.and_eq_true, decide_eq_true_eq]
  omega
theorem cl_or {x : Gd} {p : Nat} : nI (mk 6 (clTo x p)) ||| nI (mCols (lay x).1 (p + 1)) = nI (mk 6 (clTo x (p + 1))) := by
  unfold mCols
  rw [mk_orb]
  congr 1
  refine mk_congr fun k hk => ?_
  unfold clTo
  show (decide (lQ x k ≠ 0) && decide (lQ x k ≤ p) || decide (lQ x k = p + 1)) = _
  rw [Bool.eq_iff_iff]
  simp only [Bool.or_eq_true, Bool.and_eq_true, decide_eq_true_eq]
  omega
theorem rw_0 {x : Gd} : mk 6 (rwTo x 0) = 0 := mk_0 fun k _ => by
  unfold rwTo
  by_cases e : lP x k = 0
  · rw [decide_eq_false (fun z => z e)]; rfl
  · rw [decide_eq_false (show ¬ lP x k ≤ 0 by omega), Bool.and_false]
theorem cl_0 {x : Gd} : mk 6 (clTo x 0) = 0 := mk_0 fun k _ => by
  unfold clTo
  by_cases e : lQ x k = 0
  · rw [decide_eq_false (fun z => z e)]; rfl
  · rw [decide_eq_false (show ¬ lQ x k ≤ 0 by omega), Bool.and_false]
theorem rw_n {x : Gd} (hx : Gok x) : mk 6 (rwTo x (lay x).2) = 2 ^ x.1.1 - 1 := by
  have hR := hx.1
  rw [← mk_R x.1.1 (by omega)]
  refine mk_congr fun k hk => ?_
  unfold rwTo
  rw [decide_eq_true (lP_le hx k), Bool.and_true, decide_eq_decide]
  by_cases e : k < x.1.1
  · exact ⟨fun _ => e, fun _ => lP_nz hx e⟩
  · exact ⟨fun z => absurd (l_out.1 k (by omega)) z, fun z => absurd z e⟩
theorem cl_n {x : Gd} (hx : Gok x) : mk 6 (clTo x (lay x).2) = 2 ^ x.1.2.1 - 1 := by
  have hR := hx.2.1
  rw [← mk_R x.1.2.1 (by omega)]
  refine mk_congr fun k hk => ?_
  unfold clTo
  rw [decide_eq_true (lQ_le hx k), Bool.and_true, decide_eq_decide]
  by_cases e : k < x.1.2.1
  · exact ⟨fun _ => e, fun _ => lQ_nz hx e⟩
  · exact ⟨fun z => absurd (l_out.2 k (by omega)) z, fun z => absurd z e⟩
