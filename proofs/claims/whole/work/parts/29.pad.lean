/-! ===== the pad: pure, and contracts of the class's (29 to 31) ===== -/
/-- what a sign tells, plus 1; 0 for what is no sign -/
def sgv (c : Nat) : Nat := if c = 46 then 1 else if 49 ≤ c ∧ c ≤ 57 then c - 48 + 1 else if 97 ≤ c ∧ c ≤ 99 then c - 97 + 10 + 1 else 0
abbrev Pd : Type := Nat × (Nat → Nat)
def PdOk (q : Pd) : Prop := q.1 ≤ 50 ∧ ∀ i, i < q.1 → 33 ≤ q.2 i ∧ q.2 i ≤ 126
abbrev Sc : Type := Nat × Nat × Nat
def scS (P : Nat → Nat) (i : Nat) (s : Sc) : Option Sc :=
  if P i = 47 then (if 2 ≤ s.2.1 ∧ (s.1 = 0 ∨ s.2.1 = s.2.2) ∧ s.1 < 5 then some (s.1 + 1, 0, s.2.1) else none)
  else if sgv (P i) = 0 ∨ s.2.1 = s.2.2 then none else some (s.1, s.2.1 + 1, s.2.2)
def scN (P : Nat → Nat) (i : Nat) : Nat ⊕ Sc → Nat ⊕ Sc
  | .inl f => .inl f
  | .inr s => match scS P i s with
    | none => .inl i
    | some s' => .inr s'
def scR (P : Nat → Nat) : Nat → Nat ⊕ Sc
  | 0 => .inr (0, 0, 6)
  | i + 1 => scN P i (scR P i)
/-- the fault, or what was read: rows and columns -/
def flt (q : Pd) : Nat ⊕ (Nat × Nat) := match scR q.2 q.1 with
  | .inl f => .inl f
  | .inr s => if s.1 = 0 ∨ s.2.1 ≠ s.2.2 then .inl q.1 else .inr (s.1 + 1, s.2.2)
def fltI (q : Pd) : Int32 := match flt q with
  | .inl f => nI f
  | .inr _ => (-6)
theorem scR_stop {P : Nat → Nat} {i f : Nat} (h : scR P i = .inl f) : ∀ k, scR P (i + k) = .inl f := by
  intro k
  induction k with
  | zero => exact h
  | succ k ih =>
    show scN P (i + k) (scR P (i + k)) = _
    rw [ih]; rfl
theorem scR_bad {P : Nat → Nat} {i : Nat} {s : Sc} (h : scR P i = .inr s) (b : scS P i s = none) : scR P (i + 1) = .inl i := by
  show scN P i (scR P i) = _
  rw [h]; unfold scN; dsimp only; rw [b]
theorem scR_go {P : Nat → Nat} {i : Nat} {s s' : Sc} (h : scR P i = .inr s) (b : scS P i s = some s') : scR P (i + 1) = .inr s' := by
  show scN P i (scR P i) = _
  rw [h]; unfold scN; dsimp only; rw [b]
theorem flt_bad {q : Pd} {i : Nat} {s : Sc} (hi : i < q.1) (h : scR q.2 i = .inr s) (b : scS q.2 i s = none) : flt q = .inl i := by
  have h1 := scR_stop (scR_bad h b) (q.1 - (i + 1))
  rw [show i + 1 + (q.1 - (i + 1)) = q.1 by omega] at h1
  unfold flt
  rw [h1]
theorem fltI_l {q : Pd} {i : Nat} (h : flt q = .inl i) : fltI q = nI i := by unfold fltI; rw [h]
theorem fltI_r {q : Pd} {s : Nat × Nat} (h : flt q = .inr s) : fltI q = -6 := by unfold fltI; rw [h]
/-- what holds while the pad is read -/
theorem scR_ok {P : Nat → Nat} : ∀ {i : Nat} {s : Sc}, scR P i = .inr s → s.1 ≤ 5 ∧ s.2.1 ≤ s.2.2 ∧ s.2.2 ≤ 6 ∧ (s.1 = 0 → s.2.2 = 6 ∧ i = s.2.1) ∧ (0 < s.1 → 2 ≤ s.2.2 ∧ i = s.1 * (s.2.2 + 1) + s.2.1) := by
  intro i
  induction i with
  | zero => intro s h; cases h; exact ⟨by decide, by decide, by decide, fun _ => ⟨rfl, rfl⟩, fun z => absurd z (by decide)⟩
  | succ i ih =>
    intro s h
    have h : scN P i (scR P i) = .inr s := h
    cases e : scR P i with
    | inl f => rw [e] at h; cases h
    | inr t =>
      rw [e] at h
      unfold scN at h
      dsimp only at h
      obtain ⟨h1, h2, h3, h4, h5⟩ := ih e
      obtain ⟨row, col, w⟩ := t
      dsimp only at h1 h2 h3 h4 h5
      cases e2 : scS P i (row, col, w) with
      | none => rw [e2] at h; cases h
      | some t' =>
        rw [e2] at h
        dsimp only at h
        have h6 : t' = s := Sum.inr.inj h
        subst h6
        unfold scS at e2
        dsimp only at e2
        split at e2
        · split at e2
          · rename_i hh
            have e3 := Option.some.inj e2
            subst e3
            dsimp only
            refine ⟨by omega, by omega, by omega, fun z => absurd z (by omega), fun _ => ⟨hh.1, ?_⟩⟩
            by_cases r0 : row = 0
            · have := h4 r0
              subst r0
              omega
            · have h7 := h5 (by omega)
              have h8 : col = w := by rcases hh.2.1 with z | z; exact absurd z r0; exact z
              subst h8
              rw [Nat.succ_mul]
              omega
          · cases e2
        · split at e2
          · cases e2
          · rename_i hh
            have e3 := Option.some.inj e2
            subst e3
            dsimp only
            refine ⟨h1, by omega, h3, fun z => ?_, fun z => ?_⟩
            · have := h4 z; omega
            · have := h5 z; omega
/-- the k-th sign of a text that was read without a fault -/
theorem flt_ok {q : Pd} {R C : Nat} (h : flt q = .inr (R, C)) : (2 ≤ R ∧ R ≤ 6) ∧ (2 ≤ C ∧ C ≤ 6) ∧ scR q.2 q.1 = .inr (R - 1, C, C) ∧ q.1 = (R - 1) * (C + 1) + C := by
  unfold flt at h
  cases e : scR q.2 q.1 with
  | inl f => rw [e] at h; cases h
  | inr s =>
    rw [e] at h
    dsimp only at h
    split at h
    · cases h
    · rename_i hh
      have h1 := Prod.mk.inj (Sum.inr.inj h)
      obtain ⟨row, col, w⟩ := s
      dsimp only at h1 hh
      obtain ⟨g1, g2, g3, g4, g5⟩ := scR_ok e
      dsimp only at g1 g2 g3 g4 g5
      have g6 := g5 (by omega)
      obtain ⟨rfl, rfl⟩ := h1
      have : col = w := by omega
      subst this
      exact ⟨by omega, by omega, rfl, g6.2⟩
theorem scR_prev {P : Nat → Nat} {i : Nat} {s : Sc} (h : scR P (i + 1) = .inr s) : ∃ t, scR P i = .inr t ∧ scS P i t = some s := by
  have h : scN P i (scR P i) = .inr s := h
  cases e : scR P i with
  | inl f => rw [e] at h; cases h
  | inr t =>
    rw [e] at h
    unfold scN at h
    dsimp only at h
    cases e2 : scS P i t with
    | none => rw [e2] at h; cases h
    | some t' =>
      rw [e2] at h
      dsimp only at h
      exact ⟨t, rfl, by rw [← Sum.inr.inj h]; exact e2⟩
theorem scR_all {P : Nat → Nat} {n : Nat} {s : Sc} (h : scR P n = .inr s) : ∀ k, k ≤ n → ∃ t, scR P (n - k) = .inr t := by
  intro k
  induction k with
  | zero => exact fun _ => ⟨s, h⟩
  | succ k ih =>
    intro hk
    obtain ⟨t, ht⟩ := ih (by omega)
    rw [show n - k = (n - (k + 1)) + 1 by omega] at ht
    obtain ⟨u, hu, -⟩ := scR_prev ht
    exact ⟨u, hu⟩
-- the class's pad
def PadAt (h : sH) (q : Pd) (ry cy : Int32) : Prop := h.2 29 = oC 4 [.ref 30, .int (nI q.1), .int ry, .int cy] ∧ h.2 30 = oC 3 [.ref 31] ∧ ∃ arr, h.2 31 = iA 50 arr ∧ ∀ i, i < q.1 → arr i = nI (q.2 i)
def FrP (h h' : sH) : Prop := ∀ a, (a < 29 ∨ 32 ≤ a) → h'.2 a = h.2 a
theorem FrP.rf {h : sH} : FrP h h := fun _ _ => rfl
theorem FrP.tr {h h1 h2 : sH} (a : FrP h h1) (b : FrP h1 h2) : FrP h h2 := fun q hq => (b q hq).trans (a q hq)
theorem FrP.up {h h1 : sH} {a : Nat} {c : sC} (f : FrP h h1) (h7 : 29 ≤ a) (h15 : a < 32) : FrP h (sUp h1 a c) := fun q hq => (sUp_ne (by omega)).trans (f q hq)
theorem PadAt.head {h : sH} {q : Pd} {ry cy ry' cy' : Int32} {n : Nat} (hP : PadAt h q ry cy) (hn : n ≤ q.1) : PadAt (sUp h 29 (oC 4 [.ref 30, .int (nI n), .int ry', .int cy'])) (n, q.2) ry' cy' := by
  obtain ⟨c1, c2, arr, c3, c4⟩ := hP
  exact ⟨sUp_eq, (sUp_ne (by omega)).trans c2, arr, (sUp_ne (by omega)).trans c3, fun i hi => c4 i (Nat.lt_of_lt_of_le hi hn)⟩
theorem sgv_le (c : Nat) : sgv c ≤ 13 := by unfold sgv; split <;> (try split) <;> (try split) <;> omega
theorem sgv_47 : sgv 47 = 0 := rfl
theorem max_pI {a b : Nat} (ha : a < 100) (hb : b ≤ 13) : (if nI a < pI b then pI b else nI a) = nI (max a (b - 1)) := by
  by_cases e : b = 0
  · subst e
    rw [if_neg (by rw [Int32.lt_iff_toInt_lt, nI_toInt (by omega), pI_toInt (by omega)]; omega)]
    rw [Nat.max_eq_left (by omega)]
  · have e2 : pI b = nI (b - 1) := by unfold pI; rw [if_neg e]
    rw [e2]
    by_cases hc : a < b - 1
    · rw [if_pos ((nI_ltI (by omega) (by omega)).mpr hc), Nat.max_eq_right (by omega)]
    · rw [if_neg (fun z => hc ((nI_ltI (by omega) (by omega)).mp z)), Nat.max_eq_left (by omega)]
theorem mxTo_sg {q : Pd} : ∀ i, mxTo (fun i => sgv (q.2 i) - 1) i ≤ 12 := mxTo_le (fun k => by have := sgv_le (q.2 k); omega)
/-- the width stays from the second row on -/
theorem scR_width {P : Nat → Nat} {n : Nat} {s : Sc} (h : scR P n = .inr s) : ∀ {i : Nat} {t : Sc}, scR P i = .inr t → i ≤ n → 0 < t.1 → t.2.2 = s.2.2 := by
  have key : ∀ k i t u, scR P i = .inr t → 0 < t.1 → scR P (i + k) = .inr u → 0 < u.1 ∧ u.2.2 = t.2.2 := by
    intro k
    induction k with
    | zero =>
      intro i t u h1 h2 h3
      rw [Nat.add_zero, h1] at h3
      have := Sum.inr.inj h3
      subst this
      exact ⟨h2, rfl⟩
    | succ k ih =>
      intro i t u h1 h2 h3
      obtain ⟨v, hv, hs⟩ := scR_prev (i := i + k) h3
      obtain ⟨g1, g2⟩ := ih i t v h1 h2 hv
      unfold scS at hs
      split at hs
      · split at hs
        · rename_i h5
          have e := Option.some.inj hs
          subst e
          dsimp only
          refine ⟨by omega, ?_⟩
          rw [← g2]
          rcases h5.2.1 with z | z
          · omega
          · exact z
        · cases hs
      · split at hs
        · cases hs
        · have e := Option.some.inj hs
          subst e
          exact ⟨g1, g2⟩
  intro i t h1 h2 h3
  exact (key (n - i) i t s h1 h3 (by rw [show i + (n - i) = n by omega]; exact h)).2.symm
set_option maxRecDepth 4000 in
theorem c_Pad_length {l : Launch} {h : sH} {q : Pd} {ry cy : Int32} (hP : PadAt h q ry cy) (hq : PdOk q) : sX l m_Pad_length 0 [.ref 29] h (some (.int (nI q.1))) (h) := by
  have hP0 := hP
  obtain ⟨c1, c2, arr, c3, c4⟩ := hP
  have hq1 := hq.1
  refine en_Pad_length ?_
  refine e_aload_0 (p' := 1) D_Pad_length_0 rfl ?_
  refine e_getfield (p' := 4) D_Pad_length_1 F_Pad_20 (by first | assumption | exact sUp_eq | (rw [sUp_ne (by omega)]; assumption) | (rw [sUp_ne (by omega), sUp_ne (by omega)]; assumption) | (rw [sUp_ne (by omega)]; exact sUp_eq) | (simp [sUp]; done)) (by rfl) rfl ?_
  refine e_ireturn (ty := .int) D_Pad_length_4 rfl (by first | rfl | exact sBo_nar _) ⟨by decide, by decide⟩ ?_
  exact ⟨by first | rfl | (simp; done) | (simp [*]; done), by first | rfl | (simp; done)⟩
set_option maxRecDepth 4000 in
theorem c_Pad_empty {l : Launch} {h : sH} {q : Pd} {ry cy : Int32} (hP : PadAt h q ry cy) (hq : PdOk q) : sY l m_Pad_empty 0 [.ref 29] h (none) (fun h1 => PadAt h1 (0, q.2) ry cy ∧ FrP h h1) := by
  have hP0 := hP
  obtain ⟨c1, c2, arr, c3, c4⟩ := hP
  have hq1 := hq.1
  refine en_Pad_empty ?_
  refine e_aload_0 (p' := 1) D_Pad_empty_0 rfl ?_
  refine e_iconst (v := nI 0) (p' := 2) D_Pad_empty_1 cst_iconst_0 rfl ?_
  refine e_putfield (p' := 5) D_Pad_empty_2 F_Pad_20 (Or.inl rfl) (by first | assumption | exact sUp_eq | (rw [sUp_ne (by omega)]; assumption) | (rw [sUp_ne (by omega), sUp_ne (by omega)]; assumption) | (rw [sUp_ne (by omega)]; exact sUp_eq) | (simp [sUp]; done)) (fun _ => ⟨rfl, rfl⟩) (Nat.le_of_ble_eq_true rfl) (by rfl) rfl ?_
  try dsimp only [List.set]
  refine e_return D_Pad_empty_5 rfl ⟨by decide, by decide⟩ ?_
  exact ⟨rfl, hP0.head (n := 0) (Nat.zero_le _), FrP.rf.up (by omega) (by omega)⟩
set_option maxRecDepth 4000 in
theorem c_Pad_append {l : Launch} {h : sH} {q : Pd} {ry cy : Int32} (hP : PadAt h q ry cy) (hq : PdOk q) (hl : q.1 < 50) {c : Nat} : sY l m_Pad_append 1 [.ref 29, .int (nI c)] h (none) (fun h1 => PadAt h1 (q.1 + 1, up q.2 q.1 c) ry cy ∧ FrP h h1) := by
  have hP0 := hP
  obtain ⟨c1, c2, arr, c3, c4⟩ := hP
  have hq1 := hq.1
  refine en_Pad_append ?_
  refine e_aload_0 (p' := 1) D_Pad_append_0 rfl ?_
  refine e_getfield (p' := 4) D_Pad_append_1 F_Pad_20 (by first | assumption | exact sUp_eq | (rw [sUp_ne (by omega)]; assumption) | (rw [sUp_ne (by omega), sUp_ne (by omega)]; assumption) | (rw [sUp_ne (by omega)]; exact sUp_eq) | (simp [sUp]; done)) (by rfl) rfl ?_
  refine e_bipush (v := nI 50) (p' := 6) D_Pad_append_4 cst_bipush_50 rfl ?_
  first | refine e_icmpN_ge (q := 31) (p' := 9) D_Pad_append_6 (by omega) (by omega) rfl rfl (fun hc6 => ?_) (fun hc6 => ?_) | refine e_icmp_ge (q := 31) (p' := 9) D_Pad_append_6 rfl rfl (fun hc6 => ?_) (fun hc6 => ?_)
  ·
    exfalso; omega
  ·
    refine e_aload_0 (p' := 10) D_Pad_append_9 rfl ?_
    refine e_getfield (p' := 13) D_Pad_append_10 F_Pad_14 (by first | assumption | exact sUp_eq | (rw [sUp_ne (by omega)]; assumption) | (rw [sUp_ne (by omega), sUp_ne (by omega)]; assumption) | (rw [sUp_ne (by omega)]; exact sUp_eq) | (simp [sUp]; done)) (by rfl) rfl ?_
    refine e_aload_0 (p' := 14) D_Pad_append_13 rfl ?_
    refine e_getfield (p' := 17) D_Pad_append_14 F_Pad_20 (by first | assumption | exact sUp_eq | (rw [sUp_ne (by omega)]; assumption) | (rw [sUp_ne (by omega), sUp_ne (by omega)]; assumption) | (rw [sUp_ne (by omega)]; exact sUp_eq) | (simp [sUp]; done)) (by rfl) rfl ?_
    refine e_iload_1 (p' := 18) D_Pad_append_17 rfl ?_
    refine x_callV0 (p' := 21) D_Pad_append_18 V_Pad_24 (c_Num_set c2 c3 (by omega) (by omega)) rfl (by first | assumption | exact sUp_eq | (rw [sUp_ne (by omega)]; assumption) | (rw [sUp_ne (by omega), sUp_ne (by omega)]; assumption) | (rw [sUp_ne (by omega)]; exact sUp_eq) | (simp [sUp]; done)) rfl (Nat.le_of_ble_eq_true rfl) (by decide) ⟨by decide, by decide⟩ rfl ?_
    refine e_aload_0 (p' := 22) D_Pad_append_21 rfl ?_
    refine e_dup (p' := 23) D_Pad_append_22 rfl rfl ?_
    refine e_getfield (p' := 26) D_Pad_append_23 F_Pad_20 (by first | assumption | exact sUp_eq | (rw [sUp_ne (by omega)]; assumption) | (rw [sUp_ne (by omega), sUp_ne (by omega)]; assumption) | (rw [sUp_ne (by omega)]; exact sUp_eq) | (simp [sUp]; done)) (by rfl) rfl ?_
    refine e_iconst (v := nI 1) (p' := 27) D_Pad_append_26 cst_iconst_1 rfl ?_
    first | refine e_iaddN (p' := 28) D_Pad_append_27 rfl ?_ | refine e_iadd (p' := 28) D_Pad_append_27 rfl ?_
    refine e_putfield (p' := 31) D_Pad_append_28 F_Pad_20 (Or.inl rfl) (by first | assumption | exact sUp_eq | (rw [sUp_ne (by omega)]; assumption) | (rw [sUp_ne (by omega), sUp_ne (by omega)]; assumption) | (rw [sUp_ne (by omega)]; exact sUp_eq) | (simp [sUp]; done)) (fun _ => ⟨rfl, rfl⟩) (Nat.le_of_ble_eq_true rfl) (by rfl) rfl ?_
    try dsimp only [List.set]
    refine e_return D_Pad_append_31 rfl ⟨by decide, by decide⟩ ?_
    refine ⟨rfl, ⟨sUp_eq, (sUp_ne (by omega)).trans ((sUp_ne (by omega)).trans c2), _, (sUp_ne (by omega)).trans sUp_eq, fun i hi => ?_⟩, (FrP.rf.up (by omega) (by omega)).up (by omega) (by omega)⟩
    show upd arr q.1 (nI c) i = nI (up q.2 q.1 c i)
    have hi : i < q.1 + 1 := hi
    by_cases e : i = q.1
    · rw [e, upd_at, up_at]
    · rw [upd_off e, up_off e, c4 i (by omega)]
set_option maxRecDepth 4000 in
theorem c_Pad_signOf {l : Launch} {h : sH} {c : Nat} (hc : c < 2 ^ 31) : sX l m_Pad_signOf 0 [.int (nI c)] h (some (.int (pI (sgv c)))) (h) := by
  refine en_Pad_signOf ?_
  refine e_iload_0 (p' := 1) D_Pad_signOf_0 rfl ?_
  refine e_bipush (v := nI 46) (p' := 3) D_Pad_signOf_1 cst_bipush_46 rfl ?_
  refine e_icmpN_ne (q := 8) (p' := 6) D_Pad_signOf_3 (by omega) (by omega) rfl rfl (fun hc3 => ?_) (fun hc3 => ?_)
  ·
    refine e_iload_0 (p' := 9) D_Pad_signOf_8 rfl ?_
    refine e_bipush (v := nI 49) (p' := 11) D_Pad_signOf_9 cst_bipush_49 rfl ?_
    refine e_icmpN_lt (q := 25) (p' := 14) D_Pad_signOf_11 (by omega) (by omega) rfl rfl (fun hc11 => ?_) (fun hc11 => ?_)
    ·
      refine e_iload_0 (p' := 26) D_Pad_signOf_25 rfl ?_
      refine e_bipush (v := nI 97) (p' := 28) D_Pad_signOf_26 cst_bipush_97 rfl ?_
      refine e_icmpN_lt (q := 47) (p' := 31) D_Pad_signOf_28 (by omega) (by omega) rfl rfl (fun hc28 => ?_) (fun hc28 => ?_)
      ·
        refine e_iconst (v := (-1)) (p' := 48) D_Pad_signOf_47 cst_iconst_m1 rfl ?_
        refine e_ireturn (ty := .int) D_Pad_signOf_48 rfl (by first | rfl | exact sBo_nar _) ⟨by decide, by decide⟩ ?_
        refine ⟨?_, rfl⟩
        unfold sgv; rw [if_neg hc3, if_neg (by omega), if_neg (by omega)]; rfl
      ·
        refine e_iload_0 (p' := 32) D_Pad_signOf_31 rfl ?_
        refine e_bipush (v := nI 99) (p' := 34) D_Pad_signOf_32 cst_bipush_99 rfl ?_
        refine e_icmpN_gt (q := 47) (p' := 37) D_Pad_signOf_34 (by omega) (by omega) rfl rfl (fun hc34 => ?_) (fun hc34 => ?_)
        ·
          refine e_iconst (v := (-1)) (p' := 48) D_Pad_signOf_47 cst_iconst_m1 rfl ?_
          refine e_ireturn (ty := .int) D_Pad_signOf_48 rfl (by first | rfl | exact sBo_nar _) ⟨by decide, by decide⟩ ?_
          refine ⟨?_, rfl⟩
          unfold sgv; rw [if_neg hc3, if_neg (by omega), if_neg (by omega)]; rfl
        ·
          refine e_iload_0 (p' := 38) D_Pad_signOf_37 rfl ?_
          refine e_bipush (v := nI 97) (p' := 40) D_Pad_signOf_38 cst_bipush_97 rfl ?_
          first | refine e_isubN (p' := 41) D_Pad_signOf_40 (by omega) rfl ?_ | refine e_isub (p' := 41) D_Pad_signOf_40 rfl ?_
          refine e_bipush (v := nI 10) (p' := 43) D_Pad_signOf_41 cst_bipush_10 rfl ?_
          first | refine e_iaddN (p' := 44) D_Pad_signOf_43 rfl ?_ | refine e_iadd (p' := 44) D_Pad_signOf_43 rfl ?_
          refine e_goto (p' := 48) D_Pad_signOf_44 rfl ?_
          refine e_ireturn (ty := .int) D_Pad_signOf_48 rfl (by first | rfl | exact sBo_nar _) ⟨by decide, by decide⟩ ?_
          refine ⟨?_, rfl⟩
          unfold sgv; rw [if_neg hc3, if_neg (by omega), if_pos (by omega), pI_N]
    ·
      refine e_iload_0 (p' := 15) D_Pad_signOf_14 rfl ?_
      refine e_bipush (v := nI 57) (p' := 17) D_Pad_signOf_15 cst_bipush_57 rfl ?_
      refine e_icmpN_gt (q := 25) (p' := 20) D_Pad_signOf_17 (by omega) (by omega) rfl rfl (fun hc17 => ?_) (fun hc17 => ?_)
      ·
        refine e_iload_0 (p' := 26) D_Pad_signOf_25 rfl ?_
        refine e_bipush (v := nI 97) (p' := 28) D_Pad_signOf_26 cst_bipush_97 rfl ?_
        refine e_icmpN_lt (q := 47) (p' := 31) D_Pad_signOf_28 (by omega) (by omega) rfl rfl (fun hc28 => ?_) (fun hc28 => ?_)
        ·
          refine e_iconst (v := (-1)) (p' := 48) D_Pad_signOf_47 cst_iconst_m1 rfl ?_
          refine e_ireturn (ty := .int) D_Pad_signOf_48 rfl (by first | rfl | exact sBo_nar _) ⟨by decide, by decide⟩ ?_
          refine ⟨?_, rfl⟩
          unfold sgv; rw [if_neg hc3, if_neg (by omega), if_neg (by omega)]; rfl
        ·
          refine e_iload_0 (p' := 32) D_Pad_signOf_31 rfl ?_
          refine e_bipush (v := nI 99) (p' := 34) D_Pad_signOf_32 cst_bipush_99 rfl ?_
          refine e_icmpN_gt (q := 47) (p' := 37) D_Pad_signOf_34 (by omega) (by omega) rfl rfl (fun hc34 => ?_) (fun hc34 => ?_)
          ·
            refine e_iconst (v := (-1)) (p' := 48) D_Pad_signOf_47 cst_iconst_m1 rfl ?_
            refine e_ireturn (ty := .int) D_Pad_signOf_48 rfl (by first | rfl | exact sBo_nar _) ⟨by decide, by decide⟩ ?_
            refine ⟨?_, rfl⟩
            unfold sgv; rw [if_neg hc3, if_neg (by omega), if_neg (by omega)]; rfl
          ·
            refine e_iload_0 (p' := 38) D_Pad_signOf_37 rfl ?_
            refine e_bipush (v := nI 97) (p' := 40) D_Pad_signOf_38 cst_bipush_97 rfl ?_
            first | refine e_isubN (p' := 41) D_Pad_signOf_40 (by omega) rfl ?_ | refine e_isub (p' := 41) D_Pad_signOf_40 rfl ?_
            refine e_bipush (v := nI 10) (p' := 43) D_Pad_signOf_41 cst_bipush_10 rfl ?_
            first | refine e_iaddN (p' := 44) D_Pad_signOf_43 rfl ?_ | refine e_iadd (p' := 44) D_Pad_signOf_43 rfl ?_
            refine e_goto (p' := 48) D_Pad_signOf_44 rfl ?_
            refine e_ireturn (ty := .int) D_Pad_signOf_48 rfl (by first | rfl | exact sBo_nar _) ⟨by decide, by decide⟩ ?_
            refine ⟨?_, rfl⟩
            unfold sgv; rw [if_neg hc3, if_neg (by omega), if_pos (by omega), pI_N]
      ·
        refine e_iload_0 (p' := 21) D_Pad_signOf_20 rfl ?_
        refine e_bipush (v := nI 48) (p' := 23) D_Pad_signOf_21 cst_bipush_48 rfl ?_
        first | refine e_isubN (p' := 24) D_Pad_signOf_23 (by omega) rfl ?_ | refine e_isub (p' := 24) D_Pad_signOf_23 rfl ?_
        refine e_ireturn (ty := .int) D_Pad_signOf_24 rfl (by first | rfl | exact sBo_nar _) ⟨by decide, by decide⟩ ?_
        refine ⟨?_, rfl⟩
        unfold sgv; rw [if_neg hc3, if_pos (by omega), pI_N]
  ·
    refine e_iconst (v := nI 0) (p' := 7) D_Pad_signOf_6 cst_iconst_0 rfl ?_
    refine e_ireturn (ty := .int) D_Pad_signOf_7 rfl (by first | rfl | exact sBo_nar _) ⟨by decide, by decide⟩ ?_
    refine ⟨?_, rfl⟩
    unfold sgv; rw [if_pos hc3]; rfl
set_option maxRecDepth 4000 in
theorem c_Pad_scan {l : Launch} {h : sH} {q : Pd} {ry cy : Int32} (hP : PadAt h q ry cy) (hq : PdOk q) : sY l m_Pad_scan 1 [.ref 29] h (some (.int (fltI q))) (fun h1 => (∃ ry' cy', PadAt h1 q ry' cy' ∧ ∀ R C, flt q = .inr (R, C) → ry' = nI R ∧ cy' = nI C) ∧ FrP h h1) := by
  have hP0 := hP
  obtain ⟨c1, c2, arr, c3, c4⟩ := hP
  have hq1 := hq.1
  refine en_Pad_scan ?_
  refine e_iconst (v := nI 0) (p' := 1) D_Pad_scan_0 cst_iconst_0 rfl ?_
  refine e_istore_1 (p' := 2) D_Pad_scan_1 (Nat.le_of_ble_eq_true rfl) rfl rfl ?_
  refine e_iconst (v := nI 0) (p' := 3) D_Pad_scan_2 cst_iconst_0 rfl ?_
  refine e_istore_2 (p' := 4) D_Pad_scan_3 (Nat.le_of_ble_eq_true rfl) rfl rfl ?_
  refine e_iconst (v := nI 0) (p' := 5) D_Pad_scan_4 cst_iconst_0 rfl ?_
  refine e_istore_3 (p' := 6) D_Pad_scan_5 (Nat.le_of_ble_eq_true rfl) rfl rfl ?_
  refine e_iconst (v := nI 0) (p' := 7) D_Pad_scan_6 cst_iconst_0 rfl ?_
  refine e_istore_4 (p' := 9) D_Pad_scan_7 (Nat.le_of_ble_eq_true rfl) rfl rfl ?_
  have lk9 : ∀ i : Nat, i ≤ q.1 → ∀ (s : Sc) (wd : Nat), (scR q.2 i = .inr s ∧ (s.1 = 0 → wd = 0) ∧ (s.1 ≠ 0 → wd = s.2.2)) → sEv l m_Pad_scan 1 (0, 0, 0, 0) (sKm 0 0 (fun r1 h1 => r1 = some (.int (fltI q)) ∧ (fun h1 => (∃ ry' cy', PadAt h1 q ry' cy' ∧ ∀ R C, flt q = .inr (R, C) → ry' = nI R ∧ cy' = nI C) ∧ FrP h h1) h1)) 9 [some (.ref 29), some (.int (nI s.1)), some (.int (nI wd)), some (.int (nI s.2.1)), some (.int (nI i)), none] [] (h) := by
    refine lp_up _ ?_ ?_
    · intro s wd hI
      obtain ⟨hs, hw0, hw1⟩ := hI
      have hok := scR_ok hs
      have hwd : wd ≤ 6 := by omega
      refine e_iload_4 (p' := 11) D_Pad_scan_9 rfl ?_
      refine e_aload_0 (p' := 12) D_Pad_scan_11 rfl ?_
      refine e_getfield (p' := 15) D_Pad_scan_12 F_Pad_20 (by first | assumption | exact sUp_eq | (rw [sUp_ne (by omega)]; assumption) | (rw [sUp_ne (by omega), sUp_ne (by omega)]; assumption) | (rw [sUp_ne (by omega)]; exact sUp_eq) | (simp [sUp]; done)) (by rfl) rfl ?_
      first | refine e_icmpN_ge (q := 103) (p' := 18) D_Pad_scan_15 (by omega) (by omega) rfl rfl (fun hc15 => ?_) (fun hc15 => ?_) | refine e_icmp_ge (q := 103) (p' := 18) D_Pad_scan_15 rfl rfl (fun hc15 => ?_) (fun hc15 => ?_)
      ·
        refine e_iload_1 (p' := 104) D_Pad_scan_103 rfl ?_
        refine e_ifN_eq (q := 112) (p' := 107) D_Pad_scan_104 (by omega) rfl rfl (fun hc104 => ?_) (fun hc104 => ?_)
        ·
          refine e_aload_0 (p' := 113) D_Pad_scan_112 rfl ?_
          refine e_getfield (p' := 116) D_Pad_scan_113 F_Pad_20 (by first | assumption | exact sUp_eq | (rw [sUp_ne (by omega)]; assumption) | (rw [sUp_ne (by omega), sUp_ne (by omega)]; assumption) | (rw [sUp_ne (by omega)]; exact sUp_eq) | (simp [sUp]; done)) (by rfl) rfl ?_
          refine e_ireturn (ty := .int) D_Pad_scan_116 rfl (by first | rfl | exact sBo_nar _) ⟨by decide, by decide⟩ ?_
          have hf : flt q = .inl q.1 := by unfold flt; rw [hs]; dsimp only; rw [if_pos (by omega)]
          exact ⟨by rw [fltI_l hf], ⟨ry, cy, hP0, fun R C z => by rw [hf] at z; cases z⟩, FrP.rf⟩
        ·
          refine e_iload_3 (p' := 108) D_Pad_scan_107 rfl ?_
          refine e_iload_2 (p' := 109) D_Pad_scan_108 rfl ?_
          refine e_icmpN_eq (q := 117) (p' := 112) D_Pad_scan_109 (by omega) (by omega) rfl rfl (fun hc109 => ?_) (fun hc109 => ?_)
          ·
            refine e_aload_0 (p' := 118) D_Pad_scan_117 rfl ?_
            refine e_iload_1 (p' := 119) D_Pad_scan_118 rfl ?_
            refine e_iconst (v := nI 1) (p' := 120) D_Pad_scan_119 cst_iconst_1 rfl ?_
            first | refine e_iaddN (p' := 121) D_Pad_scan_120 rfl ?_ | refine e_iadd (p' := 121) D_Pad_scan_120 rfl ?_
            refine e_putfield (p' := 124) D_Pad_scan_121 F_Pad_35 (Or.inl rfl) (by first | assumption | exact sUp_eq | (rw [sUp_ne (by omega)]; assumption) | (rw [sUp_ne (by omega), sUp_ne (by omega)]; assumption) | (rw [sUp_ne (by omega)]; exact sUp_eq) | (simp [sUp]; done)) (fun _ => ⟨rfl, rfl⟩) (Nat.le_of_ble_eq_true rfl) (by rfl) rfl ?_
            try dsimp only [List.set]
            refine e_aload_0 (p' := 125) D_Pad_scan_124 rfl ?_
            refine e_iload_2 (p' := 126) D_Pad_scan_125 rfl ?_
            refine e_putfield (p' := 129) D_Pad_scan_126 F_Pad_38 (Or.inl rfl) (by first | assumption | exact sUp_eq | (rw [sUp_ne (by omega)]; assumption) | (rw [sUp_ne (by omega), sUp_ne (by omega)]; assumption) | (rw [sUp_ne (by omega)]; exact sUp_eq) | (simp [sUp]; done)) (fun _ => ⟨rfl, rfl⟩) (Nat.le_of_ble_eq_true rfl) (by rfl) rfl ?_
            try dsimp only [List.set]
            rw [sUp_sUp]
            refine e_bipush (v := (-6)) (p' := 131) D_Pad_scan_129 cst_bipush_m6 rfl ?_
            refine e_ireturn (ty := .int) D_Pad_scan_131 rfl (by first | rfl | exact sBo_nar _) ⟨by decide, by decide⟩ ?_
            have hf : flt q = .inr (s.1 + 1, s.2.2) := by unfold flt; rw [hs]; dsimp only; rw [if_neg (by omega)]
            exact ⟨by rw [fltI_r hf], ⟨_, _, hP0.head (n := q.1) (Nat.le_refl _), fun R C z => by rw [hf] at z; have z2 := Prod.mk.inj (Sum.inr.inj z); rw [← z2.1, ← z2.2, hw1 (by omega)]; exact ⟨rfl, rfl⟩⟩, FrP.rf.up (by omega) (by omega)⟩
          ·
            refine e_aload_0 (p' := 113) D_Pad_scan_112 rfl ?_
            refine e_getfield (p' := 116) D_Pad_scan_113 F_Pad_20 (by first | assumption | exact sUp_eq | (rw [sUp_ne (by omega)]; assumption) | (rw [sUp_ne (by omega), sUp_ne (by omega)]; assumption) | (rw [sUp_ne (by omega)]; exact sUp_eq) | (simp [sUp]; done)) (by rfl) rfl ?_
            refine e_ireturn (ty := .int) D_Pad_scan_116 rfl (by first | rfl | exact sBo_nar _) ⟨by decide, by decide⟩ ?_
            have hf : flt q = .inl q.1 := by unfold flt; rw [hs]; dsimp only; rw [if_pos (by omega)]
            exact ⟨by rw [fltI_l hf], ⟨ry, cy, hP0, fun R C z => by rw [hf] at z; cases z⟩, FrP.rf⟩
      ·
        exfalso; omega
    · intro i hi ih9 s wd hI
      obtain ⟨hs, hw0, hw1⟩ := hI
      have hok := scR_ok hs
      have hwd : wd ≤ 6 := by omega
      refine e_iload_4 (p' := 11) D_Pad_scan_9 rfl ?_
      refine e_aload_0 (p' := 12) D_Pad_scan_11 rfl ?_
      refine e_getfield (p' := 15) D_Pad_scan_12 F_Pad_20 (by first | assumption | exact sUp_eq | (rw [sUp_ne (by omega)]; assumption) | (rw [sUp_ne (by omega), sUp_ne (by omega)]; assumption) | (rw [sUp_ne (by omega)]; exact sUp_eq) | (simp [sUp]; done)) (by rfl) rfl ?_
      first | refine e_icmpN_ge (q := 103) (p' := 18) D_Pad_scan_15 (by omega) (by omega) rfl rfl (fun hc15 => ?_) (fun hc15 => ?_) | refine e_icmp_ge (q := 103) (p' := 18) D_Pad_scan_15 rfl rfl (fun hc15 => ?_) (fun hc15 => ?_)
      ·
        exfalso; omega
      ·
        refine e_aload_0 (p' := 19) D_Pad_scan_18 rfl ?_
        refine e_getfield (p' := 22) D_Pad_scan_19 F_Pad_14 (by first | assumption | exact sUp_eq | (rw [sUp_ne (by omega)]; assumption) | (rw [sUp_ne (by omega), sUp_ne (by omega)]; assumption) | (rw [sUp_ne (by omega)]; exact sUp_eq) | (simp [sUp]; done)) (by rfl) rfl ?_
        refine e_iload_4 (p' := 24) D_Pad_scan_22 rfl ?_
        refine x_callV1 (p' := 27) D_Pad_scan_24 V_Pad_28 (c_Num_get c2 c3 (by omega) (by omega)) rfl (by first | assumption | exact sUp_eq | (rw [sUp_ne (by omega)]; assumption) | (rw [sUp_ne (by omega), sUp_ne (by omega)]; assumption) | (rw [sUp_ne (by omega)]; exact sUp_eq) | (simp [sUp]; done)) rfl (Nat.le_of_ble_eq_true rfl) (by decide) ⟨by decide, by decide⟩ rfl ?_
        rw [c4 i hi]
        have hqi := hq.2 i hi
        refine e_istore_5 (p' := 29) D_Pad_scan_27 (Nat.le_of_ble_eq_true rfl) rfl rfl ?_
        refine e_iload_5 (p' := 31) D_Pad_scan_29 rfl ?_
        refine e_bipush (v := nI 47) (p' := 33) D_Pad_scan_31 cst_bipush_47 rfl ?_
        refine e_icmpN_ne (q := 68) (p' := 36) D_Pad_scan_33 (by omega) (by omega) rfl rfl (fun hc33 => ?_) (fun hc33 => ?_)
        ·
          have jn91 : scS q.2 i s = none → sEv l m_Pad_scan 1 (0, 0, 0, 0) (sKm 0 0 (fun r1 h1 => r1 = some (.int (fltI q)) ∧ (fun h1 => (∃ ry' cy', PadAt h1 q ry' cy' ∧ ∀ R C, flt q = .inr (R, C) → ry' = nI R ∧ cy' = nI C) ∧ FrP h h1) h1)) 91 [none, none, none, none, some (.int (nI i)), none] [] h := by
            intro hb
            refine e_iload_4 (p' := 93) D_Pad_scan_91 rfl ?_
            refine e_ireturn (ty := .int) D_Pad_scan_93 rfl (by first | rfl | exact sBo_nar _) ⟨by decide, by decide⟩ ?_
            have hf := flt_bad hi hs hb
            exact ⟨by rw [fltI_l hf], ⟨ry, cy, hP0, fun R C z => by rw [hf] at z; cases z⟩, FrP.rf⟩
          refine e_iload_5 (p' := 70) D_Pad_scan_68 rfl ?_
          refine x_callS1 (p' := 73) D_Pad_scan_70 S_Pad_32 (c_Pad_signOf (by omega)) rfl rfl (Nat.le_of_ble_eq_true rfl) (by decide) ⟨by decide, by decide⟩ rfl ?_
          refine e_iconst (v := (-1)) (p' := 74) D_Pad_scan_73 cst_iconst_m1 rfl ?_
          have hsl := sgv_le (q.2 i)
          refine e_icmp_eq (q := 91) (p' := 77) D_Pad_scan_74 rfl rfl (fun hc74 => ?_) (fun hc74 => ?_)
          ·
            refine sEv.castW (jn91 (by unfold scS; rw [if_neg hc33, if_pos (Or.inl ((pI_m1 (by omega)).mp hc74))])) ?_ ?_ ?_
            · first | exact lvW_rfl _ | (simp [lvW]; done) | (simp [lvW, *]; done) | (simp [lvW]; omega)
            · rfl
            · first | rfl | (simp; done)
          ·
            refine e_iload_3 (p' := 78) D_Pad_scan_77 rfl ?_
            refine e_iload_1 (p' := 79) D_Pad_scan_78 rfl ?_
            refine e_ifN_le (q := 86) (p' := 82) D_Pad_scan_79 (by omega) rfl rfl (fun hc79 => ?_) (fun hc79 => ?_)
            ·
              refine e_bipush (v := nI 6) (p' := 88) D_Pad_scan_86 cst_bipush_6 rfl ?_
              refine e_icmpN_ne (q := 94) (p' := 91) D_Pad_scan_88 (by omega) (by omega) rfl rfl (fun hc88 => ?_) (fun hc88 => ?_)
              ·
                first | refine e_iincN_3 (n := 1) (p' := 97) D_Pad_scan_94 (Nat.le_of_ble_eq_true rfl) rfl rfl ?_ | refine e_iinc_3 (p' := 97) D_Pad_scan_94 (Nat.le_of_ble_eq_true rfl) rfl rfl rfl ?_
                first | refine e_iincN_4 (n := 1) (p' := 100) D_Pad_scan_97 (Nat.le_of_ble_eq_true rfl) rfl rfl ?_ | refine e_iinc_4 (p' := 100) D_Pad_scan_97 (Nat.le_of_ble_eq_true rfl) rfl rfl rfl ?_
                refine e_goto (p' := 9) D_Pad_scan_100 rfl ?_
                refine sEv.castW (ih9 (s.1, s.2.1 + 1, s.2.2) wd ⟨scR_go hs (by unfold scS; rw [if_neg hc33, if_neg (fun z => z.elim (fun z => hc74 ((pI_m1 (by omega)).mpr z)) (fun z => by omega))]), hw0, hw1⟩) ?_ ?_ ?_
                · first | exact lvW_rfl _ | (simp [lvW]; done) | (simp [lvW, *]; done) | (simp [lvW]; omega)
                · rfl
                · first | rfl | (simp; done)
              ·
                refine sEv.castW (jn91 (by unfold scS; rw [if_neg hc33, if_pos (Or.inr (by omega))])) ?_ ?_ ?_
                · first | exact lvW_rfl _ | (simp [lvW]; done) | (simp [lvW, *]; done) | (simp [lvW]; omega)
                · rfl
                · first | rfl | (simp; done)
            ·
              refine e_iload_2 (p' := 83) D_Pad_scan_82 rfl ?_
              refine e_goto (p' := 88) D_Pad_scan_83 rfl ?_
              refine e_icmpN_ne (q := 94) (p' := 91) D_Pad_scan_88 (by omega) (by omega) rfl rfl (fun hc88 => ?_) (fun hc88 => ?_)
              ·
                first | refine e_iincN_3 (n := 1) (p' := 97) D_Pad_scan_94 (Nat.le_of_ble_eq_true rfl) rfl rfl ?_ | refine e_iinc_3 (p' := 97) D_Pad_scan_94 (Nat.le_of_ble_eq_true rfl) rfl rfl rfl ?_
                first | refine e_iincN_4 (n := 1) (p' := 100) D_Pad_scan_97 (Nat.le_of_ble_eq_true rfl) rfl rfl ?_ | refine e_iinc_4 (p' := 100) D_Pad_scan_97 (Nat.le_of_ble_eq_true rfl) rfl rfl rfl ?_
                refine e_goto (p' := 9) D_Pad_scan_100 rfl ?_
                refine sEv.castW (ih9 (s.1, s.2.1 + 1, s.2.2) wd ⟨scR_go hs (by unfold scS; rw [if_neg hc33, if_neg (fun z => z.elim (fun z => hc74 ((pI_m1 (by omega)).mpr z)) (fun z => by omega))]), hw0, hw1⟩) ?_ ?_ ?_
                · first | exact lvW_rfl _ | (simp [lvW]; done) | (simp [lvW, *]; done) | (simp [lvW]; omega)
                · rfl
                · first | rfl | (simp; done)
              ·
                refine sEv.castW (jn91 (by unfold scS; rw [if_neg hc33, if_pos (Or.inr (by omega))])) ?_ ?_ ?_
                · first | exact lvW_rfl _ | (simp [lvW]; done) | (simp [lvW, *]; done) | (simp [lvW]; omega)
                · rfl
                · first | rfl | (simp; done)
        ·
          have jn55 : scS q.2 i s = none → sEv l m_Pad_scan 1 (0, 0, 0, 0) (sKm 0 0 (fun r1 h1 => r1 = some (.int (fltI q)) ∧ (fun h1 => (∃ ry' cy', PadAt h1 q ry' cy' ∧ ∀ R C, flt q = .inr (R, C) → ry' = nI R ∧ cy' = nI C) ∧ FrP h h1) h1)) 55 [none, none, none, none, some (.int (nI i)), none] [] h := by
            intro hb
            refine e_iload_4 (p' := 57) D_Pad_scan_55 rfl ?_
            refine e_ireturn (ty := .int) D_Pad_scan_57 rfl (by first | rfl | exact sBo_nar _) ⟨by decide, by decide⟩ ?_
            have hf := flt_bad hi hs hb
            exact ⟨by rw [fltI_l hf], ⟨ry, cy, hP0, fun R C z => by rw [hf] at z; cases z⟩, FrP.rf⟩
          refine e_iload_3 (p' := 37) D_Pad_scan_36 rfl ?_
          refine e_iconst (v := nI 2) (p' := 38) D_Pad_scan_37 cst_iconst_2 rfl ?_
          refine e_icmpN_lt (q := 55) (p' := 41) D_Pad_scan_38 (by omega) (by omega) rfl rfl (fun hc38 => ?_) (fun hc38 => ?_)
          ·
            refine sEv.castW (jn55 (by unfold scS; rw [if_pos hc33, if_neg (by omega)])) ?_ ?_ ?_
            · first | exact lvW_rfl _ | (simp [lvW]; done) | (simp [lvW, *]; done) | (simp [lvW]; omega)
            · rfl
            · first | rfl | (simp; done)
          ·
            refine e_iload_1 (p' := 42) D_Pad_scan_41 rfl ?_
            refine e_ifN_le (q := 50) (p' := 45) D_Pad_scan_42 (by omega) rfl rfl (fun hc42 => ?_) (fun hc42 => ?_)
            ·
              refine e_iload_1 (p' := 51) D_Pad_scan_50 rfl ?_
              refine e_iconst (v := nI 5) (p' := 52) D_Pad_scan_51 cst_iconst_5 rfl ?_
              refine e_icmpN_ne (q := 58) (p' := 55) D_Pad_scan_52 (by omega) (by omega) rfl rfl (fun hc52 => ?_) (fun hc52 => ?_)
              ·
                refine e_iload_3 (p' := 59) D_Pad_scan_58 rfl ?_
                refine e_istore_2 (p' := 60) D_Pad_scan_59 (Nat.le_of_ble_eq_true rfl) rfl rfl ?_
                refine e_iconst (v := nI 0) (p' := 61) D_Pad_scan_60 cst_iconst_0 rfl ?_
                refine e_istore_3 (p' := 62) D_Pad_scan_61 (Nat.le_of_ble_eq_true rfl) rfl rfl ?_
                first | refine e_iincN_1 (n := 1) (p' := 65) D_Pad_scan_62 (Nat.le_of_ble_eq_true rfl) rfl rfl ?_ | refine e_iinc_1 (p' := 65) D_Pad_scan_62 (Nat.le_of_ble_eq_true rfl) rfl rfl rfl ?_
                refine e_goto (p' := 97) D_Pad_scan_65 rfl ?_
                first | refine e_iincN_4 (n := 1) (p' := 100) D_Pad_scan_97 (Nat.le_of_ble_eq_true rfl) rfl rfl ?_ | refine e_iinc_4 (p' := 100) D_Pad_scan_97 (Nat.le_of_ble_eq_true rfl) rfl rfl rfl ?_
                refine e_goto (p' := 9) D_Pad_scan_100 rfl ?_
                refine sEv.castW (ih9 (s.1 + 1, 0, s.2.1) s.2.1 ⟨scR_go hs (by unfold scS; rw [if_pos hc33, if_pos (by omega)]), fun z => absurd z (by dsimp only; omega), fun _ => rfl⟩) ?_ ?_ ?_
                · first | exact lvW_rfl _ | (simp [lvW]; done) | (simp [lvW, *]; done) | (simp [lvW]; omega)
                · rfl
                · first | rfl | (simp; done)
              ·
                refine sEv.castW (jn55 (by unfold scS; rw [if_pos hc33, if_neg (by omega)])) ?_ ?_ ?_
                · first | exact lvW_rfl _ | (simp [lvW]; done) | (simp [lvW, *]; done) | (simp [lvW]; omega)
                · rfl
                · first | rfl | (simp; done)
            ·
              refine e_iload_3 (p' := 46) D_Pad_scan_45 rfl ?_
              refine e_iload_2 (p' := 47) D_Pad_scan_46 rfl ?_
              refine e_icmpN_ne (q := 55) (p' := 50) D_Pad_scan_47 (by omega) (by omega) rfl rfl (fun hc47 => ?_) (fun hc47 => ?_)
              ·
                refine sEv.castW (jn55 (by unfold scS; rw [if_pos hc33, if_neg (by omega)])) ?_ ?_ ?_
                · first | exact lvW_rfl _ | (simp [lvW]; done) | (simp [lvW, *]; done) | (simp [lvW]; omega)
                · rfl
                · first | rfl | (simp; done)
              ·
                refine e_iload_1 (p' := 51) D_Pad_scan_50 rfl ?_
                refine e_iconst (v := nI 5) (p' := 52) D_Pad_scan_51 cst_iconst_5 rfl ?_
                refine e_icmpN_ne (q := 58) (p' := 55) D_Pad_scan_52 (by omega) (by omega) rfl rfl (fun hc52 => ?_) (fun hc52 => ?_)
                ·
                  refine e_iload_3 (p' := 59) D_Pad_scan_58 rfl ?_
                  refine e_istore_2 (p' := 60) D_Pad_scan_59 (Nat.le_of_ble_eq_true rfl) rfl rfl ?_
                  refine e_iconst (v := nI 0) (p' := 61) D_Pad_scan_60 cst_iconst_0 rfl ?_
                  refine e_istore_3 (p' := 62) D_Pad_scan_61 (Nat.le_of_ble_eq_true rfl) rfl rfl ?_
                  first | refine e_iincN_1 (n := 1) (p' := 65) D_Pad_scan_62 (Nat.le_of_ble_eq_true rfl) rfl rfl ?_ | refine e_iinc_1 (p' := 65) D_Pad_scan_62 (Nat.le_of_ble_eq_true rfl) rfl rfl rfl ?_
                  refine e_goto (p' := 97) D_Pad_scan_65 rfl ?_
                  first | refine e_iincN_4 (n := 1) (p' := 100) D_Pad_scan_97 (Nat.le_of_ble_eq_true rfl) rfl rfl ?_ | refine e_iinc_4 (p' := 100) D_Pad_scan_97 (Nat.le_of_ble_eq_true rfl) rfl rfl rfl ?_
                  refine e_goto (p' := 9) D_Pad_scan_100 rfl ?_
                  refine sEv.castW (ih9 (s.1 + 1, 0, s.2.1) s.2.1 ⟨scR_go hs (by unfold scS; rw [if_pos hc33, if_pos (by omega)]), fun z => absurd z (by dsimp only; omega), fun _ => rfl⟩) ?_ ?_ ?_
                  · first | exact lvW_rfl _ | (simp [lvW]; done) | (simp [lvW, *]; done) | (simp [lvW]; omega)
                  · rfl
                  · first | rfl | (simp; done)
                ·
                  refine sEv.castW (jn55 (by unfold scS; rw [if_pos hc33, if_neg (by omega)])) ?_ ?_ ?_
                  · first | exact lvW_rfl _ | (simp [lvW]; done) | (simp [lvW, *]; done) | (simp [lvW]; omega)
                  · rfl
                  · first | rfl | (simp; done)
  refine sEv.castW (lk9 0 (by omega) (0, 0, 6) 0 ⟨rfl, fun _ => rfl, fun z => absurd rfl z⟩) ?_ ?_ ?_
  · first | exact lvW_rfl _ | (simp [lvW]; done) | (simp [lvW, *]; done) | (simp [lvW]; omega)
  · rfl
  · first | rfl | (simp; done)
set_option maxRecDepth 4000 in
theorem c_Pad_greatestNumber {l : Launch} {h : sH} {q : Pd} {ry cy : Int32} (hP : PadAt h q ry cy) (hq : PdOk q) : sX l m_Pad_greatestNumber 1 [.ref 29] h (some (.int (nI (mxTo (fun i => sgv (q.2 i) - 1) q.1)))) (h) := by
  have hP0 := hP
  obtain ⟨c1, c2, arr, c3, c4⟩ := hP
  have hq1 := hq.1
  refine en_Pad_greatestNumber ?_
  refine e_iconst (v := nI 0) (p' := 1) D_Pad_greatestNumber_0 cst_iconst_0 rfl ?_
  refine e_istore_1 (p' := 2) D_Pad_greatestNumber_1 (Nat.le_of_ble_eq_true rfl) rfl rfl ?_
  refine e_iconst (v := nI 0) (p' := 3) D_Pad_greatestNumber_2 cst_iconst_0 rfl ?_
  refine e_istore_2 (p' := 4) D_Pad_greatestNumber_3 (Nat.le_of_ble_eq_true rfl) rfl rfl ?_
  have lk4 : ∀ i : Nat, i ≤ q.1 → sEv l m_Pad_greatestNumber 1 (0, 0, 0, 0) (sKm 0 0 (fun r1 h1 => r1 = some (.int (nI (mxTo (fun i => sgv (q.2 i) - 1) q.1))) ∧ h1 = h)) 4 [some (.ref 29), some (.int (nI (mxTo (fun i => sgv (q.2 i) - 1) i))), some (.int (nI i))] [] (h) := by
    refine lp_up _ ?_ ?_
    · skip
      refine e_iload_2 (p' := 5) D_Pad_greatestNumber_4 rfl ?_
      refine e_aload_0 (p' := 6) D_Pad_greatestNumber_5 rfl ?_
      refine e_getfield (p' := 9) D_Pad_greatestNumber_6 F_Pad_20 (by first | assumption | exact sUp_eq | (rw [sUp_ne (by omega)]; assumption) | (rw [sUp_ne (by omega), sUp_ne (by omega)]; assumption) | (rw [sUp_ne (by omega)]; exact sUp_eq) | (simp [sUp]; done)) (by rfl) rfl ?_
      first | refine e_icmpN_ge (q := 34) (p' := 12) D_Pad_greatestNumber_9 (by omega) (by omega) rfl rfl (fun hc9 => ?_) (fun hc9 => ?_) | refine e_icmp_ge (q := 34) (p' := 12) D_Pad_greatestNumber_9 rfl rfl (fun hc9 => ?_) (fun hc9 => ?_)
      ·
        refine e_iload_1 (p' := 35) D_Pad_greatestNumber_34 rfl ?_
        refine e_ireturn (ty := .int) D_Pad_greatestNumber_35 rfl (by first | rfl | exact sBo_nar _) ⟨by decide, by decide⟩ ?_
        exact ⟨by first | rfl | (simp; done) | (simp [*]; done), by first | rfl | (simp; done)⟩
      ·
        exfalso; omega
    · intro i hi ih4 
      refine e_iload_2 (p' := 5) D_Pad_greatestNumber_4 rfl ?_
      refine e_aload_0 (p' := 6) D_Pad_greatestNumber_5 rfl ?_
      refine e_getfield (p' := 9) D_Pad_greatestNumber_6 F_Pad_20 (by first | assumption | exact sUp_eq | (rw [sUp_ne (by omega)]; assumption) | (rw [sUp_ne (by omega), sUp_ne (by omega)]; assumption) | (rw [sUp_ne (by omega)]; exact sUp_eq) | (simp [sUp]; done)) (by rfl) rfl ?_
      first | refine e_icmpN_ge (q := 34) (p' := 12) D_Pad_greatestNumber_9 (by omega) (by omega) rfl rfl (fun hc9 => ?_) (fun hc9 => ?_) | refine e_icmp_ge (q := 34) (p' := 12) D_Pad_greatestNumber_9 rfl rfl (fun hc9 => ?_) (fun hc9 => ?_)
      ·
        exfalso; omega
      ·
        refine e_iload_1 (p' := 13) D_Pad_greatestNumber_12 rfl ?_
        refine e_aload_0 (p' := 14) D_Pad_greatestNumber_13 rfl ?_
        refine e_getfield (p' := 17) D_Pad_greatestNumber_14 F_Pad_14 (by first | assumption | exact sUp_eq | (rw [sUp_ne (by omega)]; assumption) | (rw [sUp_ne (by omega), sUp_ne (by omega)]; assumption) | (rw [sUp_ne (by omega)]; exact sUp_eq) | (simp [sUp]; done)) (by rfl) rfl ?_
        refine e_iload_2 (p' := 18) D_Pad_greatestNumber_17 rfl ?_
        refine x_callV1 (p' := 21) D_Pad_greatestNumber_18 V_Pad_28 (c_Num_get c2 c3 (by omega) (by omega)) rfl (by first | assumption | exact sUp_eq | (rw [sUp_ne (by omega)]; assumption) | (rw [sUp_ne (by omega), sUp_ne (by omega)]; assumption) | (rw [sUp_ne (by omega)]; exact sUp_eq) | (simp [sUp]; done)) rfl (Nat.le_of_ble_eq_true rfl) (by decide) ⟨by decide, by decide⟩ rfl ?_
        rw [c4 i hi]
        have hqi := hq.2 i hi
        refine x_callS1 (p' := 24) D_Pad_greatestNumber_21 S_Pad_32 (c_Pad_signOf (by omega)) rfl rfl (Nat.le_of_ble_eq_true rfl) (by decide) ⟨by decide, by decide⟩ rfl ?_
        refine e_mmax (p' := 27) D_Pad_greatestNumber_24 S_Pad_41.2.1 (Nat.le_of_ble_eq_true rfl) (by decide) ⟨by decide, by decide⟩ rfl ?_
        rw [max_pI (by have := mxTo_sg (q := q) i; omega) (sgv_le _), show max (mxTo (fun i => sgv (q.2 i) - 1) i) (sgv (q.2 i) - 1) = mxTo (fun i => sgv (q.2 i) - 1) (i + 1) from rfl]
        refine e_istore_1 (p' := 28) D_Pad_greatestNumber_27 (Nat.le_of_ble_eq_true rfl) rfl rfl ?_
        first | refine e_iincN_2 (n := 1) (p' := 31) D_Pad_greatestNumber_28 (Nat.le_of_ble_eq_true rfl) rfl rfl ?_ | refine e_iinc_2 (p' := 31) D_Pad_greatestNumber_28 (Nat.le_of_ble_eq_true rfl) rfl rfl rfl ?_
        refine e_goto (p' := 4) D_Pad_greatestNumber_31 rfl ?_
        refine sEv.castW (ih4) ?_ ?_ ?_
        · first | exact lvW_rfl _ | (simp [lvW]; done) | (simp [lvW, *]; done) | (simp [lvW]; omega)
        · rfl
        · first | rfl | (simp; done)
  refine sEv.castW (lk4 0 (by omega) ) ?_ ?_ ?_
  · first | exact lvW_rfl _ | (simp [lvW]; done) | (simp [lvW, *]; done) | (simp [lvW]; omega)
  · rfl
  · first | rfl | (simp; done)
theorem rd_at {q : Pd} {R C r c : Nat} (h : flt q = .inr (R, C)) (hr : r < R) (hc : c < C) : (C + 1) * r + c < q.1 ∧ sgv (q.2 ((C + 1) * r + c)) ≠ 0 := by
  obtain ⟨h1, h2, h3, h4⟩ := flt_ok h
  have h5 : (C + 1) * r ≤ (C + 1) * (R - 1) := Nat.mul_le_mul_left _ (by omega)
  have h6 : (R - 1) * (C + 1) = (C + 1) * (R - 1) := Nat.mul_comm _ _
  have hlt : (C + 1) * r + c < q.1 := by omega
  refine ⟨hlt, fun z => ?_⟩
  obtain ⟨t, ht⟩ := scR_all h3 (q.1 - ((C + 1) * r + c + 1)) (by omega)
  rw [show q.1 - (q.1 - ((C + 1) * r + c + 1)) = (C + 1) * r + c + 1 by omega] at ht
  obtain ⟨u, hu, hs⟩ := scR_prev ht
  have hk := scR_ok hu
  unfold scS at hs
  split at hs
  · split at hs
    · rename_i h7 h8
      have e := Option.some.inj hs
      have hk2 := scR_ok ht
      rw [← e] at hk2
      dsimp only at hk2
      -- the width that is read is the width at the end
      have hw := scR_width h3 ht (by omega) (by rw [← e]; dsimp only; omega)
      rw [← e] at hw
      dsimp only at hw
      have h9 := hk2.2.2.2.2 (by omega)
      rw [hw] at h9
      have h10 : (u.1 + 1) * (C + 1) = (C + 1) * (u.1 + 1) := Nat.mul_comm _ _
      have h11 : (C + 1) * (u.1 + 1) = (C + 1) * u.1 + (C + 1) := Nat.mul_succ _ _
      rcases Nat.lt_or_ge r (u.1 + 1) with h12 | h12
      · have h13 : (C + 1) * r ≤ (C + 1) * u.1 := Nat.mul_le_mul_left _ (by omega)
        omega
      · have h13 : (C + 1) * (u.1 + 1) ≤ (C + 1) * r := Nat.mul_le_mul_left _ h12
        omega
    · cases hs
  · rw [if_pos (Or.inl z)] at hs
    cases hs
set_option maxRecDepth 4000 in
theorem c_Pad_number {l : Launch} {h : sH} {q : Pd} {R C : Nat} (hP : PadAt h q (nI R) (nI C)) (hq : PdOk q) (hf : flt q = .inr (R, C)) {r c : Nat} (hr : r < R) (hc : c < C) : sX l m_Pad_number 1 [.ref 29, .int (nI r), .int (nI c)] h (some (.int (nI (sgv (q.2 ((C + 1) * r + c)) - 1)))) (h) := by
  have hP0 := hP
  obtain ⟨c1, c2, arr, c3, c4⟩ := hP
  have hq1 := hq.1
  obtain ⟨hlt, hne⟩ := rd_at hf hr hc
  refine en_Pad_number ?_
  refine e_aload_0 (p' := 1) D_Pad_number_0 rfl ?_
  refine e_getfield (p' := 4) D_Pad_number_1 F_Pad_14 (by first | assumption | exact sUp_eq | (rw [sUp_ne (by omega)]; assumption) | (rw [sUp_ne (by omega), sUp_ne (by omega)]; assumption) | (rw [sUp_ne (by omega)]; exact sUp_eq) | (simp [sUp]; done)) (by rfl) rfl ?_
  refine e_aload_0 (p' := 5) D_Pad_number_4 rfl ?_
  refine e_getfield (p' := 8) D_Pad_number_5 F_Pad_38 (by first | assumption | exact sUp_eq | (rw [sUp_ne (by omega)]; assumption) | (rw [sUp_ne (by omega), sUp_ne (by omega)]; assumption) | (rw [sUp_ne (by omega)]; exact sUp_eq) | (simp [sUp]; done)) (by rfl) rfl ?_
  refine e_iconst (v := nI 1) (p' := 9) D_Pad_number_8 cst_iconst_1 rfl ?_
  first | refine e_iaddN (p' := 10) D_Pad_number_9 rfl ?_ | refine e_iadd (p' := 10) D_Pad_number_9 rfl ?_
  refine e_iload_1 (p' := 11) D_Pad_number_10 rfl ?_
  first | refine e_imulN (p' := 12) D_Pad_number_11 rfl ?_ | refine e_imul (p' := 12) D_Pad_number_11 rfl ?_
  refine e_iload_2 (p' := 13) D_Pad_number_12 rfl ?_
  first | refine e_iaddN (p' := 14) D_Pad_number_13 rfl ?_ | refine e_iadd (p' := 14) D_Pad_number_13 rfl ?_
  refine x_callV1 (p' := 17) D_Pad_number_14 V_Pad_28 (c_Num_get c2 c3 (by omega) (by omega)) rfl (by first | assumption | exact sUp_eq | (rw [sUp_ne (by omega)]; assumption) | (rw [sUp_ne (by omega), sUp_ne (by omega)]; assumption) | (rw [sUp_ne (by omega)]; exact sUp_eq) | (simp [sUp]; done)) rfl (Nat.le_of_ble_eq_true rfl) (by decide) ⟨by decide, by decide⟩ rfl ?_
  rw [c4 _ hlt]
  have hqi := hq.2 _ hlt
  refine x_callS1 (p' := 20) D_Pad_number_17 S_Pad_32 (c_Pad_signOf (by omega)) rfl rfl (Nat.le_of_ble_eq_true rfl) (by decide) ⟨by decide, by decide⟩ rfl ?_
  refine e_ireturn (ty := .int) D_Pad_number_20 rfl (by first | rfl | exact sBo_nar _) ⟨by decide, by decide⟩ ?_
  refine ⟨?_, rfl⟩
  unfold pI; rw [if_neg hne]
