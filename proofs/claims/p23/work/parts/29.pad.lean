/-! ===== the pad: pure, and contracts of the class's (29 to 31) ===== -/
/-- what a sign tells, plus 1; 0 for what is no sign -/
def sgv (c : Nat) : Nat := if c = 46 then 1 else if 49 ≤ c ∧ c ≤ 57 then c - 48 + 1 else if 97 ≤ c ∧ c ≤ 99 then c - 97 + 10 + 1 else 0
abbrev Pd : Type := Nat × (Nat → Nat)
def PdOk (q : Pd) : Prop := q.1 ≤ 50 ∧ ∀ i, i < q.1 → 33 ≤ q.2 i ∧ q.2 i ≤ 126
abbrev Sc : Type := Nat × Nat × Nat
def scS (P : Nat → Nat) (i : Nat) (s : Sc) : Option Sc :=
  if P i = 47 then (if 2 ≤ s.2.1 ∧ (s.1 = 0 ∨ s.2.1 = s.2.2) ∧ s.1 < 5 then some (s.1 + 1, 0, s.2.1) else none)
  else if sgv (P i) = 0 ∨ s.2.1 = s.2.2 then none else some (s.1, s.2.1 + 1, s.2.2)
def scN (P : Nat → Nat) (i : Nat) : Nat ⊕ Sc → Nat ⊕ Sc
  | .inl f => .inl f
  | .inr s => match scS P i s with
    | none => .inl i
    | some s' => .inr s'
def scR (P : Nat → Nat) : Nat → Nat ⊕ Sc
  | 0 => .inr (0, 0, 6)
  | i + 1 => scN P i (scR P i)
/-- the fault, or what was read: rows and columns -/
def flt (q : Pd) : Nat ⊕ (Nat × Nat) := match scR q.2 q.1 with
  | .inl f => .inl f
  | .inr s => if s.1 = 0 ∨ s.2.1 ≠ s.2.2 then .inl q.1 else .inr (s.1 + 1, s.2.2)
def fltI (q : Pd) : Int32 := match flt q with
  | .inl f => nI f
  | .inr _ => (-6)
theorem scR_stop {P : Nat → Nat} {i f : Nat} (h : scR P i = .inl f) : ∀ k, scR P (i + k) = .inl f := by
  intro k
  induction k with
  | zero => exact h
  | succ k ih =>
    show scN P (i + k) (scR P (i + k)) = _
    rw [ih]; rfl
theorem scR_bad {P : Nat → Nat} {i : Nat} {s : Sc} (h : scR P i = .inr s) (b : scS P i s = none) : scR P (i + 1) = .inl i := by
  show scN P i (scR P i) = _
  rw [h]; unfold scN; dsimp only; rw [b]
theorem scR_go {P : Nat → Nat} {i : Nat} {s s' : Sc} (h : scR P i = .inr s) (b : scS P i s = some s') : scR P (i + 1) = .inr s' := by
  show scN P i (scR P i) = _
  rw [h]; unfold scN; dsimp only; rw [b]
theorem flt_bad {q : Pd} {i : Nat} {s : Sc} (hi : i < q.1) (h : scR q.2 i = .inr s) (b : scS q.2 i s = none) : flt q = .inl i := by
  have h1 := scR_stop (scR_bad h b) (q.1 - (i + 1))
  rw [show i + 1 + (q.1 - (i + 1)) = q.1 by omega] at h1
  unfold flt
  rw [h1]
theorem fltI_l {q : Pd} {i : Nat} (h : flt q = .inl i) : fltI q = nI i := by unfold fltI; rw [h]
theorem fltI_r {q : Pd} {s : Nat × Nat} (h : flt q = .inr s) : fltI q = -6 := by unfold fltI; rw [h]
/-- what holds while the pad is read -/
theorem scR_ok {P : Nat → Nat} : ∀ {i : Nat} {s : Sc}, scR P i = .inr s → s.1 ≤ 5 ∧ s.2.1 ≤ s.2.2 ∧ s.2.2 ≤ 6 ∧ (s.1 = 0 → s.2.2 = 6 ∧ i = s.2.1) ∧ (0 < s.1 → 2 ≤ s.2.2 ∧ i = s.1 * (s.2.2 + 1) + s.2.1) := by
  intro i
  induction i with
  | zero => intro s h; cases h; exact ⟨by decide, by decide, by decide, fun _ => ⟨rfl, rfl⟩, fun z => absurd z (by decide)⟩
  | succ i ih =>
    intro s h
    have h : scN P i (scR P i) = .inr s := h
    cases e : scR P i with
    | inl f => rw [e] at h; cases h
    | inr t =>
      rw [e] at h
      unfold scN at h
      dsimp only at h
      obtain ⟨h1, h2, h3, h4, h5⟩ := ih e
      obtain ⟨row, col, w⟩ := t
      dsimp only at h1 h2 h3 h4 h5
      cases e2 : scS P i (row, col, w) with
      | none => rw [e2] at h; cases h
      | some t' =>
        rw [e2] at h
        dsimp only at h
        have h6 : t' = s := Sum.inr.inj h
        subst h6
        unfold scS at e2
        dsimp only at e2
        split at e2
        · split at e2
          · rename_i hh
            have e3 := Option.some.inj e2
            subst e3
            dsimp only
            refine ⟨by omega, by omega, by omega, fun z => absurd z (by omega), fun _ => ⟨hh.1, ?_⟩⟩
            by_cases r0 : row = 0
            · have := h4 r0
              subst r0
              omega
            · have h7 := h5 (by omega)
              have h8 : col = w := by rcases hh.2.1 with z | z; exact absurd z r0; exact z
              subst h8
              rw [Nat.succ_mul]
              omega
          · cases e2
        · split at e2
          · cases e2
          · rename_i hh
            have e3 := Option.some.inj e2
            subst e3
            dsimp only
            refine ⟨h1, by omega, h3, fun z => ?_, fun z => ?_⟩
            · have := h4 z; omega
            · have := h5 z; omega
/-- the k-th sign of a text that was read without a fault -/
theorem flt_ok {q : Pd} {R C : Nat} (h : flt q = .inr (R, C)) : (2 ≤ R ∧ R ≤ 6) ∧ (2 ≤ C ∧ C ≤ 6) ∧ scR q.2 q.1 = .inr (R - 1, C, C) ∧ q.1 = (R - 1) * (C + 1) + C := by
  unfold flt at h
  cases e : scR q.2 q.1 with
  | inl f => rw [e] at h; cases h
  | inr s =>
    rw [e] at h
    dsimp only at h
    split at h
    · cases h
    · rename_i hh
      have h1 := Prod.mk.inj (Sum.inr.inj h)
      obtain ⟨row, col, w⟩ := s
      dsimp only at h1 hh
      obtain ⟨g1, g2, g3, g4, g5⟩ := scR_ok e
      dsimp only at g1 g2 g3 g4 g5
      have g6 := g5 (by omega)
      obtain ⟨rfl, rfl⟩ := h1
      have : col = w := by omega
      subst this
      exact ⟨by omega, by omega, rfl, g6.2⟩
theorem scR_prev {P : Nat → Nat} {i : Nat} {s : Sc} (h : scR P (i + 1) = .inr s) : ∃ t, scR P i = .inr t ∧ scS P i t = some s := by
  have h : scN P i (scR P i) = .inr s := h
  cases e : scR P i with
  | inl f => rw [e] at h; cases h
  | inr t =>
    rw [e] at h
    unfold scN at h
    dsimp only at h
    cases e2 : scS P i t with
    | none => rw [e2] at h; cases h
    | some t' =>
      rw [e2] at h
      dsimp only at h
      exact ⟨t, rfl, by rw [← Sum.inr.inj h]; exact e2⟩
theorem scR_all {P : Nat → Nat} {n : Nat} {s : Sc} (h : scR P n = .inr s) : ∀ k, k ≤ n → ∃ t, scR P (n - k) = .inr t := by
  intro k
  induction k with
  | zero => exact fun _ => ⟨s, h⟩
  | succ k ih =>
    intro hk
    obtain ⟨t, ht⟩ := ih (by omega)
    rw [show n - k = (n - (k + 1)) + 1 by omega] at ht
    obtain ⟨u, hu, -⟩ := scR_prev ht
    exact ⟨u, hu⟩
-- the class's pad
def PadAt (h : sH) (q : Pd) (ry cy : Int32) : Prop := h.2 29 = oC 4 [.ref 30, .int (nI q.1), .int ry, .int cy] ∧ h.2 30 = oC 3 [.ref 31] ∧ ∃ arr, h.2 31 = iA 50 arr ∧ ∀ i, i < q.1 → arr i = nI (q.2 i)
def FrP (h h' : sH) : Prop := ∀ a, (a < 29 ∨ 32 ≤ a) → h'.2 a = h.2 a
theorem FrP.rf {h : sH} : FrP h h := fun _ _ => rfl
theorem FrP.tr {h h1 h2 : sH} (a : FrP h h1) (b : FrP h1 h2) : FrP h h2 := fun q hq => (b q hq).trans (a q hq)
theorem FrP.up {h h1 : sH} {a : Nat} {c : sC} (f : FrP h h1) (h7 : 29 ≤ a) (h15 : a < 32) : FrP h (sUp h1 a c) := fun q hq => (sUp_ne (by omega)).trans (f q hq)
theorem PadAt.head {h : sH} {q : Pd} {ry cy ry' cy' : Int32} {n : Nat} (hP : PadAt h q ry cy) (hn : n ≤ q.1) : PadAt (sUp h 29 (oC 4 [.ref 30, .int (nI n), .int ry', .int cy'])) (n, q.2) ry' cy' := by
  obtain ⟨c1, c2, arr, c3, c4⟩ := hP
  exact ⟨sUp_eq, (sUp_ne (by omega)).trans c2, arr, (sUp_ne (by omega)).trans c3, fun i hi => c4 i (Nat.lt_of_lt_of_le hi hn)⟩
theorem sgv_le (c : Nat) : sgv c ≤ 13 := by unfold sgv; split <;> (try split) <;> (try split) <;> omega
theorem sgv_47 : sgv 47 = 0 := rfl
theorem max_pI {a b : Nat} (ha : a < 100) (hb : b ≤ 13) : (if nI a < pI b then pI b else nI a) = nI (max a (b - 1)) := by
  by_cases e : b = 0
  · subst e
    rw [if_neg (by rw [Int32.lt_iff_toInt_lt, nI_toInt (by omega), pI_toInt (by omega)]; omega)]
    rw [Nat.max_eq_left (by omega)]
  · have e2 : pI b = nI (b - 1) := by unfold pI; rw [if_neg e]
    rw [e2]
    by_cases hc : a < b - 1
    · rw [if_pos ((nI_ltI (by omega) (by omega)).mpr hc), Nat.max_eq_right (by omega)]
    · rw [if_neg (fun z => hc ((nI_ltI (by omega) (by omega)).mp z)), Nat.max_eq_left (by omega)]
theorem mxTo_sg {q : Pd} : ∀ i, mxTo (fun i => sgv (q.2 i) - 1) i ≤ 12 := mxTo_le (fun k => by have := sgv_le (q.2 k); omega)
/-- the width stays from the second row on -/
theorem scR_width {P : Nat → Nat} {n : Nat} {s : Sc} (h : scR P n = .inr s) : ∀ {i : Nat} {t : Sc}, scR P i = .inr t → i ≤ n → 0 < t.1 → t.2.2 = s.2.2 := by
  have key : ∀ k i t u, scR P i = .inr t → 0 < t.1 → scR P (i + k) = .inr u → 0 < u.1 ∧ u.2.2 = t.2.2 := by
    intro k
    induction k with
    | zero =>
      intro i t u h1 h2 h3
      rw [Nat.add_zero, h1] at h3
      have := Sum.inr.inj h3
      subst this
      exact ⟨h2, rfl⟩
    | succ k ih =>
      intro i t u h1 h2 h3
      obtain ⟨v, hv, hs⟩ := scR_prev (i := i + k) h3
      obtain ⟨g1, g2⟩ := ih i t v h1 h2 hv
      unfold scS at hs
      split at hs
      · split at hs
        · rename_i h5
          have e := Option.some.inj hs
          subst e
          dsimp only
          refine ⟨by omega, ?_⟩
          rw [← g2]
          rcases h5.2.1 with z | z
          · omega
          · exact z
        · cases hs
      · split at hs
        · cases hs
        · have e := Option.some.inj hs
          subst e
          exact ⟨g1, g2⟩
  intro i t h1 h2 h3
  exact (key (n - i) i t s h1 h3 (by rw [show i + (n - i) = n by omega]; exact h)).2.symm
set_option maxRecDepth 4000 in
theorem c_Pad_length {l : Launch} {h : sH} {q : Pd} {ry cy : Int32} (hP : PadAt h q ry cy) (hq : PdOk q) : sX l m_Pad_length 0 [.ref 29] h (some (.int (nI q.1))) (h) := by
  have hP0 := hP
  obtain ⟨c1, c2, arr, c3, c4⟩ := hP
  have hq1 := hq.1
  refine en_Pad_length ?_
  refine e_aload_0 (p' := 1) D_Pad_length_0 rfl ?_
  refine e_getfield (p' := 4) D_Pad_length_1 F_Pad_20 (by first | assumption | exact sUp_eq | (rw [sUp_ne (by omega)]; assumption) | (rw [sUp_ne (by omega), sUp_ne (by omega)]; assumption) | (rw [sUp_ne (by omega)]; exact sUp_eq) | (simp [sUp]; done)) (by rfl) rfl ?_
  refine e_ireturn (ty := .int) D_Pad_length_4 rfl (by first | rfl | exact sBo_nar _) ⟨by decide, by decide⟩ ?_
  exact ⟨by first | rfl | (simp; done) | (simp [*]; done), by first | rfl | (simp; done)⟩
theorem rd_at {q : Pd} {R C r c : Nat} (h : flt q = .inr (R, C)) (hr : r < R) (hc : c < C) : (C + 1) * r + c < q.1 ∧ sgv (q.2 ((C + 1) * r + c)) ≠ 0 := by
  obtain ⟨h1, h2, h3, h4⟩ := flt_ok h
  have h5 : (C + 1) * r ≤ (C + 1) * (R - 1) := Nat.mul_le_mul_left _ (by omega)
  have h6 : (R - 1) * (C + 1) = (C + 1) * (R - 1) := Nat.mul_comm _ _
  have hlt : (C + 1) * r + c < q.1 := by omega
  refine ⟨hlt, fun z => ?_⟩
  obtain ⟨t, ht⟩ := scR_all h3 (q.1 - ((C + 1) * r + c + 1)) (by omega)
  rw [show q.1 - (q.1 - ((C + 1) * r + c + 1)) = (C + 1) * r + c + 1 by omega] at ht
  obtain ⟨u, hu, hs⟩ := scR_prev ht
  have hk := scR_ok hu
  unfold scS at hs
  split at hs
  · split at hs
    · rename_i h7 h8
      have e := Option.some.inj hs
      have hk2 := scR_ok ht
      rw [← e] at hk2
      dsimp only at hk2
      -- the width that is read is the width at the end
      have hw := scR_width h3 ht (by omega) (by rw [← e]; dsimp only; omega)
      rw [← e] at hw
      dsimp only at hw
      have h9 := hk2.2.2.2.2 (by omega)
      rw [hw] at h9
      have h10 : (u.1 + 1) * (C + 1) = (C + 1) * (u.1 + 1) := Nat.mul_comm _ _
      have h11 : (C + 1) * (u.1 + 1) = (C + 1) * u.1 + (C + 1) := Nat.mul_succ _ _
      rcases Nat.lt_or_ge r (u.1 + 1) with h12 | h12
      · have h13 : (C + 1) * r ≤ (C + 1) * u.1 := Nat.mul_le_mul_left _ (by omega)
        omega
      · have h13 : (C + 1) * (u.1 + 1) ≤ (C + 1) * r := Nat.mul_le_mul_left _ h12
        omega
    · cases hs
  · rw [if_pos (Or.inl z)] at hs
    cases hs
