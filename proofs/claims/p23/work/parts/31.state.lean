/-! ===== the state of the class; small methods ===== -/
abbrev St : Type := Gd × Hs × (Nat → Option Gd) × Pd
def StOk (st : St) : Prop := Gok st.1 ∧ (st.2.1.1 ≤ 6 ∧ ∀ i, i < st.2.1.1 → Gok (st.2.1.2 i)) ∧ (∀ s z, st.2.2.1 s = some z → Gok z) ∧ PdOk st.2.2.2
def SlAt (h : sH) (b : Nat) (o : Option Gd) : Prop := ∃ y, Gok y ∧ GridAt h (b + 1) y ∧ h.2 b = oC 7 [.ref (b + 1), .int (sBo o.isSome)] ∧ ∀ z, o = some z → y = z
def SlC (h : sH) (sl : Nat → Option Gd) : Prop := (∃ f, h.2 52 = qA 4 2 f ∧ f 0 = some 53 ∧ f 1 = some 57) ∧ SlAt h 53 (sl 0) ∧ SlAt h 57 (sl 1)
def CInv (h : sH) (st : St) : Prop := h.2 0 = oC 8 [.ref 1, .ref 4, .ref 7, .ref 16, .ref 26, .ref 29, .ref 32, .ref 52] ∧ GridAt h 1 st.1 ∧ (∃ t, GridAt h 4 t ∧ Gok t) ∧ (∃ s sz con, PtAt h s sz con) ∧ RgS h ∧ (∃ n B, MtAt h n B) ∧ (∃ ry cy, PadAt h st.2.2.2 ry cy) ∧ HsAt h st.2.1 ∧ SlC h st.2.2.1
def FrO (h h' : sH) : Prop := ∀ a, 61 ≤ a → h'.2 a = h.2 a
theorem FrO.rf {h : sH} : FrO h h := fun _ _ => rfl
theorem FrO.tr {h h1 h2 : sH} (a : FrO h h1) (b : FrO h1 h2) : FrO h h2 := fun q hq => (b q hq).trans (a q hq)
theorem RgS.kept {h h' : sH} (H : RgS h) (k : ∀ a, 16 ≤ a → a < 26 → h'.2 a = h.2 a) : RgS h' := by
  obtain ⟨x, kk, home, gr, a, W, rt, hx, ⟨hG, tr, arr, rts, ⟨c1, ⟨c2, c3⟩, ⟨c4, c5⟩, ⟨c6, c7⟩⟩, V⟩, hW⟩ := H
  exact ⟨x, kk, home, gr, a, W, rt, hx, ⟨hG.kept (k _ (by omega) (by omega)) (k _ (by omega) (by omega)) (k _ (by omega) (by omega)), tr, arr, rts, ⟨(k _ (by omega) (by omega)).trans c1, ⟨(k _ (by omega) (by omega)).trans c2, (k _ (by omega) (by omega)).trans c3⟩, ⟨(k _ (by omega) (by omega)).trans c4, (k _ (by omega) (by omega)).trans c5⟩, ⟨(k _ (by omega) (by omega)).trans c6, (k _ (by omega) (by omega)).trans c7⟩⟩, V⟩, hW⟩
theorem MtAt.kept {h h' : sH} {n : Nat} {B : Mx} (H : MtAt h n B) (k : ∀ a, 26 ≤ a → a < 29 → h'.2 a = h.2 a) : MtAt h' n B := by
  obtain ⟨A, a1, a2, a3, a4⟩ := H
  exact ⟨A, (k _ (by omega) (by omega)).trans a1, (k _ (by omega) (by omega)).trans a2, (k _ (by omega) (by omega)).trans a3, a4⟩
theorem PadAt.kept {h h' : sH} {q : Pd} {ry cy : Int32} (H : PadAt h q ry cy) (k : ∀ a, 29 ≤ a → a < 32 → h'.2 a = h.2 a) : PadAt h' q ry cy := by
  obtain ⟨a1, a2, arr, a3, a4⟩ := H
  exact ⟨(k _ (by omega) (by omega)).trans a1, (k _ (by omega) (by omega)).trans a2, arr, (k _ (by omega) (by omega)).trans a3, a4⟩
theorem SlAt.kept {h h' : sH} {b : Nat} {o : Option Gd} (H : SlAt h b o) (k : ∀ a, b ≤ a → a < b + 4 → h'.2 a = h.2 a) : SlAt h' b o := by
  obtain ⟨y, h1, h2, h3, h4⟩ := H
  exact ⟨y, h1, h2.kept (k _ (by omega) (by omega)) (k _ (by omega) (by omega)) (k _ (by omega) (by omega)), (k _ (by omega) (by omega)).trans h3, h4⟩
theorem SlC.kept {h h' : sH} {sl : Nat → Option Gd} (H : SlC h sl) (k : ∀ a, 52 ≤ a → a < 61 → h'.2 a = h.2 a) : SlC h' sl := by
  obtain ⟨⟨f, h1, h2⟩, h3, h4⟩ := H
  exact ⟨⟨f, (k _ (by omega) (by omega)).trans h1, h2⟩, h3.kept (fun a h1 h2 => k a (by omega) (by omega)), h4.kept (fun a h1 h2 => k a (by omega) (by omega))⟩
theorem CInv.fr {h h1 : sH} {st : St} (C : CInv h st) (f : Fr h h1) (hP : ∃ s sz con, PtAt h1 s sz con) : CInv h1 st := by
  obtain ⟨c0, c1, ⟨t, c2, c2'⟩, c3, c4, ⟨n, B, c5⟩, ⟨ry, cy, c6⟩, c7, c8⟩ := C
  exact ⟨(f 0 (by omega)).trans c0, c1.fr f (by omega), ⟨t, c2.fr f (by omega), c2'⟩, hP, c4.kept (fun a h1 h2 => f a (by omega)), ⟨n, B, c5.kept (fun a h1 h2 => f a (by omega))⟩, ⟨ry, cy, c6.kept (fun a h1 h2 => f a (by omega))⟩, c7.kept (fun a h1 h2 => f a (by omega)), c8.kept (fun a h1 h2 => f a (by omega))⟩
theorem CInv.tr4 {h : sH} {st : St} {t : Gd} (C : CInv h st) (ht : Gok t) : CInv (gSet h 4 t) st := by
  obtain ⟨c0, c1, ⟨t0, c2, c2'⟩, ⟨s, sz, con, c3⟩, c4, ⟨n, B, c5⟩, ⟨ry, cy, c6⟩, c7, c8⟩ := C
  exact ⟨(gSet_ne (by omega) (by omega)).trans c0, c1.off (by omega), ⟨t, gSet_at c2, ht⟩, ⟨s, sz, con, c3.kept (fun a h1 h2 => gSet_ne (by omega) (by omega))⟩, c4.kept (fun a h1 h2 => gSet_ne (by omega) (by omega)), ⟨n, B, c5.kept (fun a h1 h2 => gSet_ne (by omega) (by omega))⟩, ⟨ry, cy, c6.kept (fun a h1 h2 => gSet_ne (by omega) (by omega))⟩, c7.kept (fun a h1 h2 => gSet_ne (by omega) (by omega)), c8.kept (fun a h1 h2 => gSet_ne (by omega) (by omega))⟩
theorem CInv.g1 {h : sH} {st : St} {t : Gd} (C : CInv h st) : CInv (gSet h 1 t) (t, st.2) := by
  obtain ⟨c0, c1, ⟨t0, c2, c2'⟩, ⟨s, sz, con, c3⟩, c4, ⟨n, B, c5⟩, ⟨ry, cy, c6⟩, c7, c8⟩ := C
  exact ⟨(gSet_ne (by omega) (by omega)).trans c0, gSet_at c1, ⟨t0, c2.off (by omega), c2'⟩, ⟨s, sz, con, c3.kept (fun a h1 h2 => gSet_ne (by omega) (by omega))⟩, c4.kept (fun a h1 h2 => gSet_ne (by omega) (by omega)), ⟨n, B, c5.kept (fun a h1 h2 => gSet_ne (by omega) (by omega))⟩, ⟨ry, cy, c6.kept (fun a h1 h2 => gSet_ne (by omega) (by omega))⟩, c7.kept (fun a h1 h2 => gSet_ne (by omega) (by omega)), c8.kept (fun a h1 h2 => gSet_ne (by omega) (by omega))⟩
theorem CInv.hist {h h1 : sH} {st : St} {s' : Hs} (C : CInv h st) (f : FrH h h1) (hH : HsAt h1 s') : CInv h1 (st.1, s', st.2.2) := by
  obtain ⟨c0, c1, ⟨t0, c2, c2'⟩, ⟨s, sz, con, c3⟩, c4, ⟨n, B, c5⟩, ⟨ry, cy, c6⟩, c7, c8⟩ := C
  exact ⟨(f 0 (by omega)).trans c0, c1.kept (f _ (by omega)) (f _ (by omega)) (f _ (by omega)), ⟨t0, c2.kept (f _ (by omega)) (f _ (by omega)) (f _ (by omega)), c2'⟩, ⟨s, sz, con, c3.kept (fun a h1 h2 => f a (by omega))⟩, c4.kept (fun a h1 h2 => f a (by omega)), ⟨n, B, c5.kept (fun a h1 h2 => f a (by omega))⟩, ⟨ry, cy, c6.kept (fun a h1 h2 => f a (by omega))⟩, hH, c8.kept (fun a h1 h2 => f a (by omega))⟩
theorem CInv.rg {h h1 : sH} {st : St} (C : CInv h st) (f : FrR h h1) (hR : RgS h1) : CInv h1 st := by
  obtain ⟨c0, c1, ⟨t0, c2, c2'⟩, ⟨s, sz, con, c3⟩, c4, ⟨n, B, c5⟩, ⟨ry, cy, c6⟩, c7, c8⟩ := C
  exact ⟨(f 0 (by omega)).trans c0, c1.kept (f _ (by omega)) (f _ (by omega)) (f _ (by omega)), ⟨t0, c2.kept (f _ (by omega)) (f _ (by omega)) (f _ (by omega)), c2'⟩, ⟨s, sz, con, c3.kept (fun a h1 h2 => f a (by omega))⟩, hR, ⟨n, B, c5.kept (fun a h1 h2 => f a (by omega))⟩, ⟨ry, cy, c6.kept (fun a h1 h2 => f a (by omega))⟩, c7.kept (fun a h1 h2 => f a (by omega)), c8.kept (fun a h1 h2 => f a (by omega))⟩
theorem CInv.mt {h h1 : sH} {st : St} (C : CInv h st) (f : FrM h h1) (hM : ∃ n B, MtAt h1 n B) : CInv h1 st := by
  obtain ⟨c0, c1, ⟨t0, c2, c2'⟩, ⟨s, sz, con, c3⟩, c4, ⟨n, B, c5⟩, ⟨ry, cy, c6⟩, c7, c8⟩ := C
  exact ⟨(f 0 (by omega)).trans c0, c1.frM f (by omega), ⟨t0, c2.frM f (by omega), c2'⟩, ⟨s, sz, con, c3.kept (fun a h1 h2 => f a (by omega))⟩, c4.kept (fun a h1 h2 => f a (by omega)), hM, ⟨ry, cy, c6.kept (fun a h1 h2 => f a (by omega))⟩, c7.kept (fun a h1 h2 => f a (by omega)), c8.kept (fun a h1 h2 => f a (by omega))⟩
theorem CInv.pd {h h1 : sH} {st : St} {q : Pd} (C : CInv h st) (f : FrP h h1) (hP : ∃ ry cy, PadAt h1 q ry cy) : CInv h1 (st.1, st.2.1, st.2.2.1, q) := by
  obtain ⟨c0, c1, ⟨t0, c2, c2'⟩, ⟨s, sz, con, c3⟩, c4, ⟨n, B, c5⟩, c6, c7, c8⟩ := C
  exact ⟨(f 0 (by omega)).trans c0, c1.kept (f _ (by omega)) (f _ (by omega)) (f _ (by omega)), ⟨t0, c2.kept (f _ (by omega)) (f _ (by omega)) (f _ (by omega)), c2'⟩, ⟨s, sz, con, c3.kept (fun a h1 h2 => f a (by omega))⟩, c4.kept (fun a h1 h2 => f a (by omega)), ⟨n, B, c5.kept (fun a h1 h2 => f a (by omega))⟩, hP, c7.kept (fun a h1 h2 => f a (by omega)), c8.kept (fun a h1 h2 => f a (by omega))⟩
theorem Fr.o {h h1 : sH} (f : Fr h h1) : FrO h h1 := fun a ha => f a (by omega)
theorem FrH.o {h h1 : sH} (f : FrH h h1) : FrO h h1 := fun a ha => f a (by omega)
theorem FrR.o {h h1 : sH} (f : FrR h h1) : FrO h h1 := fun a ha => f a (by omega)
theorem FrM.o {h h1 : sH} (f : FrM h h1) : FrO h h1 := fun a ha => f a (by omega)
theorem FrP.o {h h1 : sH} (f : FrP h h1) : FrO h h1 := fun a ha => f a (by omega)
theorem FrO.g {h h1 : sH} {g : Nat} {x : Gd} (f : FrO h h1) (hg : g + 2 < 61) : FrO h (gSet h1 g x) := fun a ha => (gSet_ne (by omega) (by omega)).trans (f a ha)
-- arguments
def natOf (a : Int32) : Nat := a.toNatClampNeg
theorem natOf_nI {n : Nat} (h : n < 2 ^ 31) : natOf (nI n) = n := nI_clamp h
def isOut (n a b : Int32) : Bool := decide (n < a) || decide (b < n)
theorem isOut_f {n a b : Int32} (h : isOut n a b = false) : ¬ n < a ∧ ¬ b < n := by
  unfold isOut at h
  rw [Bool.or_eq_false_iff] at h
  exact ⟨of_decide_eq_false h.1, of_decide_eq_false h.2⟩
theorem in_N {n : Int32} {b : Nat} (hb : b < 2 ^ 31) (h0 : ¬ n < 0) (h : ¬ nI b < n) : ∃ k, k ≤ b ∧ n = nI k := by
  obtain ⟨k, hk, rfl⟩ := nI_of h0
  exact ⟨k, by rw [nI_ltI hb hk] at h; omega, rfl⟩
theorem has_N {x : Gd} (hx : Gok x) {row col : Int32} (h : gHas x row col = true) : ∃ r c, r < x.1.1 ∧ c < x.1.2.1 ∧ row = nI r ∧ col = nI c := by
  have h1 := hx.1
  have h2 := hx.2.1
  unfold gHas at h
  simp only [Bool.and_eq_true, decide_eq_true_eq] at h
  obtain ⟨a1, a2, a3, a4⟩ := h
  obtain ⟨r, hr, rfl⟩ := nI_of (x := row) (Int32.not_lt.mpr a1)
  obtain ⟨c, hc, rfl⟩ := nI_of (x := col) (Int32.not_lt.mpr a3)
  exact ⟨r, c, (nI_ltI hr (by omega)).mp a2, (nI_ltI hc (by omega)).mp a4, rfl, rfl⟩
def isM (n : Int32) : Bool := decide (n = nI 5) || (decide (n = nI 7) || (decide (n = nI 11) || decide (n = nI 13)))
theorem isM_ok {n : Int32} (h : isM n = true) : ∃ m, Mok m ∧ n = nI m := by
  unfold isM at h
  simp only [Bool.or_eq_true, decide_eq_true_eq] at h
  rcases h with h | h | h | h
  · exact ⟨5, Or.inl rfl, h⟩
  · exact ⟨7, Or.inr (Or.inl rfl), h⟩
  · exact ⟨11, Or.inr (Or.inr (Or.inl rfl)), h⟩
  · exact ⟨13, Or.inr (Or.inr (Or.inr rfl)), h⟩
def eT (x : Gd) (row col n : Int32) : Int32 := if gHas x row col = false then -1 else if isOut n (nI 0) (nI (x.1.2.2 - 1)) = true then -2 else nI 0
theorem eT_0 {x : Gd} (hx : Gok x) {row col n : Int32} (h : eT x row col n = 0) : ∃ r c v, r < x.1.1 ∧ c < x.1.2.1 ∧ v < x.1.2.2 ∧ row = nI r ∧ col = nI c ∧ n = nI v := by
  have hM := hx.2.2.1.le
  unfold eT at h
  split at h
  · exact absurd h (by decide)
  · rename_i h1
    have h1 : gHas x row col = true := by simpa using h1
    obtain ⟨r, c, hr, hc, e1, e2⟩ := has_N hx h1
    split at h
    · exact absurd h (by decide)
    · rename_i h2
      obtain ⟨a1, a2⟩ := isOut_f (by simpa using h2)
      obtain ⟨v, hv, e3⟩ := in_N (by omega) a1 a2
      exact ⟨r, c, v, hr, hc, by omega, e1, e2, e3⟩
def slotV (i : Int32) : Value := if i = nI 0 then .ref 53 else if i = nI 1 then .ref 57 else .null
set_option maxRecDepth 4000 in
theorem c_O_isOutside {l : Launch} {h : sH} {n a b : Int32} : sX l m_O_isOutside 0 [.int n, .int a, .int b] h (some (.int (sBo (isOut n a b)))) (h) := by
  refine en_O_isOutside ?_
  refine e_iload_0 (p' := 1) D_O_isOutside_0 rfl ?_
  refine e_iload_1 (p' := 2) D_O_isOutside_1 rfl ?_
  refine e_icmp_lt (q := 10) (p' := 5) D_O_isOutside_2 rfl rfl (fun hc2 => ?_) (fun hc2 => ?_)
  ·
    refine e_iconst (v := nI 1) (p' := 11) D_O_isOutside_10 cst_iconst_1 rfl ?_
    refine e_goto (p' := 15) D_O_isOutside_11 rfl ?_
    refine e_ireturn (ty := .boolean) D_O_isOutside_15 rfl (by first | rfl | exact sBo_nar _) ⟨by decide, by decide⟩ ?_
    unfold isOut; rw [decide_eq_true hc2]; exact ⟨rfl, rfl⟩
  ·
    refine e_iload_0 (p' := 6) D_O_isOutside_5 rfl ?_
    refine e_iload_2 (p' := 7) D_O_isOutside_6 rfl ?_
    refine e_icmp_le (q := 14) (p' := 10) D_O_isOutside_7 rfl rfl (fun hc7 => ?_) (fun hc7 => ?_)
    ·
      refine e_iconst (v := nI 0) (p' := 15) D_O_isOutside_14 cst_iconst_0 rfl ?_
      refine e_ireturn (ty := .boolean) D_O_isOutside_15 rfl (by first | rfl | exact sBo_nar _) ⟨by decide, by decide⟩ ?_
      unfold isOut; rw [decide_eq_false hc2, decide_eq_false (Int32.not_lt.mpr hc7)]; exact ⟨rfl, rfl⟩
    ·
      refine e_iconst (v := nI 1) (p' := 11) D_O_isOutside_10 cst_iconst_1 rfl ?_
      refine e_goto (p' := 15) D_O_isOutside_11 rfl ?_
      refine e_ireturn (ty := .boolean) D_O_isOutside_15 rfl (by first | rfl | exact sBo_nar _) ⟨by decide, by decide⟩ ?_
      unfold isOut; rw [decide_eq_false hc2, decide_eq_true (Int32.not_le.mp hc7)]; exact ⟨rfl, rfl⟩
set_option maxRecDepth 4000 in
theorem c_O_isModulus {l : Launch} {h : sH} {n : Int32} : sX l m_O_isModulus 0 [.int n] h (some (.int (sBo (isM n)))) (h) := by
  refine en_O_isModulus ?_
  refine e_iload_0 (p' := 1) D_O_isModulus_0 rfl ?_
  refine e_iconst (v := nI 5) (p' := 2) D_O_isModulus_1 cst_iconst_5 rfl ?_
  refine e_icmp_eq (q := 23) (p' := 5) D_O_isModulus_2 rfl rfl (fun hc2 => ?_) (fun hc2 => ?_)
  ·
    refine e_iconst (v := nI 1) (p' := 24) D_O_isModulus_23 cst_iconst_1 rfl ?_
    refine e_goto (p' := 28) D_O_isModulus_24 rfl ?_
    refine e_ireturn (ty := .boolean) D_O_isModulus_28 rfl (by first | rfl | exact sBo_nar _) ⟨by decide, by decide⟩ ?_
    unfold isM; rw [decide_eq_true hc2]; exact ⟨rfl, rfl⟩
  ·
    refine e_iload_0 (p' := 6) D_O_isModulus_5 rfl ?_
    refine e_bipush (v := nI 7) (p' := 8) D_O_isModulus_6 cst_bipush_7 rfl ?_
    refine e_icmp_eq (q := 23) (p' := 11) D_O_isModulus_8 rfl rfl (fun hc8 => ?_) (fun hc8 => ?_)
    ·
      refine e_iconst (v := nI 1) (p' := 24) D_O_isModulus_23 cst_iconst_1 rfl ?_
      refine e_goto (p' := 28) D_O_isModulus_24 rfl ?_
      refine e_ireturn (ty := .boolean) D_O_isModulus_28 rfl (by first | rfl | exact sBo_nar _) ⟨by decide, by decide⟩ ?_
      unfold isM; rw [decide_eq_false hc2, decide_eq_true hc8]; exact ⟨rfl, rfl⟩
    ·
      refine e_iload_0 (p' := 12) D_O_isModulus_11 rfl ?_
      refine e_bipush (v := nI 11) (p' := 14) D_O_isModulus_12 cst_bipush_11 rfl ?_
      refine e_icmp_eq (q := 23) (p' := 17) D_O_isModulus_14 rfl rfl (fun hc14 => ?_) (fun hc14 => ?_)
      ·
        refine e_iconst (v := nI 1) (p' := 24) D_O_isModulus_23 cst_iconst_1 rfl ?_
        refine e_goto (p' := 28) D_O_isModulus_24 rfl ?_
        refine e_ireturn (ty := .boolean) D_O_isModulus_28 rfl (by first | rfl | exact sBo_nar _) ⟨by decide, by decide⟩ ?_
        unfold isM; rw [decide_eq_false hc2, decide_eq_false hc8, decide_eq_true hc14]; exact ⟨rfl, rfl⟩
      ·
        refine e_iload_0 (p' := 18) D_O_isModulus_17 rfl ?_
        refine e_bipush (v := nI 13) (p' := 20) D_O_isModulus_18 cst_bipush_13 rfl ?_
        refine e_icmp_ne (q := 27) (p' := 23) D_O_isModulus_20 rfl rfl (fun hc20 => ?_) (fun hc20 => ?_)
        ·
          refine e_iconst (v := nI 0) (p' := 28) D_O_isModulus_27 cst_iconst_0 rfl ?_
          refine e_ireturn (ty := .boolean) D_O_isModulus_28 rfl (by first | rfl | exact sBo_nar _) ⟨by decide, by decide⟩ ?_
          unfold isM; rw [decide_eq_false hc2, decide_eq_false hc8, decide_eq_false hc14, decide_eq_false hc20]; exact ⟨rfl, rfl⟩
        ·
          refine e_iconst (v := nI 1) (p' := 24) D_O_isModulus_23 cst_iconst_1 rfl ?_
          refine e_goto (p' := 28) D_O_isModulus_24 rfl ?_
          refine e_ireturn (ty := .boolean) D_O_isModulus_28 rfl (by first | rfl | exact sBo_nar _) ⟨by decide, by decide⟩ ?_
          unfold isM; rw [decide_eq_false hc2, decide_eq_false hc8, decide_eq_false hc14, decide_eq_true hc20]; exact ⟨rfl, rfl⟩
set_option maxRecDepth 4000 in
theorem c_O_errorOfTelling {l : Launch} {h : sH} {st : St} (hC : CInv h st) (hS : StOk st) {row col n : Int32} : sX l m_O_errorOfTelling 1 [.ref 0, .int row, .int col, .int n] h (some (.int (eT st.1 row col n))) (h) := by
  have c0 := hC.1
  have hG := hC.2.1
  have hx := hS.1
  have hM := hx.2.2.1.le
  have hRr := hx.1
  have hCc := hx.2.1
  obtain ⟨g0, g1, g2⟩ := hC.2.1
  refine en_O_errorOfTelling ?_
  refine e_aload_0 (p' := 1) D_O_errorOfTelling_0 rfl ?_
  refine e_getfield (p' := 4) D_O_errorOfTelling_1 F_O_10 (by first | assumption | exact sUp_eq | (rw [sUp_ne (by omega)]; assumption) | (rw [sUp_ne (by omega), sUp_ne (by omega)]; assumption) | (rw [sUp_ne (by omega)]; exact sUp_eq) | (rw [gSet_ne (by omega) (by omega)]; first | assumption | exact sUp_eq | (rw [sUp_ne (by omega)]; assumption) | (rw [sUp_ne (by omega), sUp_ne (by omega)]; assumption)) | (simp [sUp]; done)) (by rfl) rfl ?_
  refine e_iload_1 (p' := 5) D_O_errorOfTelling_4 rfl ?_
  refine e_iload_2 (p' := 6) D_O_errorOfTelling_5 rfl ?_
  refine x_callV1 (p' := 9) D_O_errorOfTelling_6 V_O_128 (c_Grid_has hG) rfl (by first | assumption | exact sUp_eq | (rw [sUp_ne (by omega)]; assumption) | (rw [sUp_ne (by omega), sUp_ne (by omega)]; assumption) | (rw [sUp_ne (by omega)]; exact sUp_eq) | (rw [gSet_ne (by omega) (by omega)]; first | assumption | exact sUp_eq | (rw [sUp_ne (by omega)]; assumption) | (rw [sUp_ne (by omega), sUp_ne (by omega)]; assumption)) | (simp [sUp]; done)) rfl (Nat.le_of_ble_eq_true rfl) (by decide) ⟨by decide, by decide⟩ rfl ?_
  refine e_ifB_ne (q := 14) (p' := 12) D_O_errorOfTelling_9 rfl rfl (fun hc9 => ?_) (fun hc9 => ?_)
  ·
    refine e_iload_3 (p' := 15) D_O_errorOfTelling_14 rfl ?_
    refine e_iconst (v := nI 0) (p' := 16) D_O_errorOfTelling_15 cst_iconst_0 rfl ?_
    refine e_aload_0 (p' := 17) D_O_errorOfTelling_16 rfl ?_
    refine e_getfield (p' := 20) D_O_errorOfTelling_17 F_O_10 (by first | assumption | exact sUp_eq | (rw [sUp_ne (by omega)]; assumption) | (rw [sUp_ne (by omega), sUp_ne (by omega)]; assumption) | (rw [sUp_ne (by omega)]; exact sUp_eq) | (rw [gSet_ne (by omega) (by omega)]; first | assumption | exact sUp_eq | (rw [sUp_ne (by omega)]; assumption) | (rw [sUp_ne (by omega), sUp_ne (by omega)]; assumption)) | (simp [sUp]; done)) (by rfl) rfl ?_
    refine x_callV1 (p' := 23) D_O_errorOfTelling_20 V_O_119 (c_Grid_modulus hG) rfl (by first | assumption | exact sUp_eq | (rw [sUp_ne (by omega)]; assumption) | (rw [sUp_ne (by omega), sUp_ne (by omega)]; assumption) | (rw [sUp_ne (by omega)]; exact sUp_eq) | (rw [gSet_ne (by omega) (by omega)]; first | assumption | exact sUp_eq | (rw [sUp_ne (by omega)]; assumption) | (rw [sUp_ne (by omega), sUp_ne (by omega)]; assumption)) | (simp [sUp]; done)) rfl (Nat.le_of_ble_eq_true rfl) (by decide) ⟨by decide, by decide⟩ rfl ?_
    refine e_iconst (v := nI 1) (p' := 24) D_O_errorOfTelling_23 cst_iconst_1 rfl ?_
    first | refine e_isubN (p' := 25) D_O_errorOfTelling_24 (by omega) rfl ?_ | refine e_isub (p' := 25) D_O_errorOfTelling_24 rfl ?_
    refine x_callS1 (p' := 28) D_O_errorOfTelling_25 S_O_61 (c_O_isOutside) rfl rfl (Nat.le_of_ble_eq_true rfl) (by decide) ⟨by decide, by decide⟩ rfl ?_
    refine e_ifB_eq (q := 36) (p' := 31) D_O_errorOfTelling_28 rfl rfl (fun hc28 => ?_) (fun hc28 => ?_)
    ·
      refine e_iconst (v := nI 0) (p' := 37) D_O_errorOfTelling_36 cst_iconst_0 rfl ?_
      refine e_ireturn (ty := .int) D_O_errorOfTelling_37 rfl (by first | rfl | exact sBo_nar _) ⟨by decide, by decide⟩ ?_
      unfold eT; rw [if_neg (by rw [hc9]; decide), if_neg (by rw [hc28]; decide)]; exact ⟨rfl, rfl⟩
    ·
      refine e_bipush (v := (-2)) (p' := 33) D_O_errorOfTelling_31 cst_bipush_m2 rfl ?_
      refine e_goto (p' := 37) D_O_errorOfTelling_33 rfl ?_
      refine e_ireturn (ty := .int) D_O_errorOfTelling_37 rfl (by first | rfl | exact sBo_nar _) ⟨by decide, by decide⟩ ?_
      unfold eT; rw [if_neg (by rw [hc9]; decide), if_pos hc28]; exact ⟨rfl, rfl⟩
  ·
    refine e_iconst (v := (-1)) (p' := 13) D_O_errorOfTelling_12 cst_iconst_m1 rfl ?_
    refine e_ireturn (ty := .int) D_O_errorOfTelling_13 rfl (by first | rfl | exact sBo_nar _) ⟨by decide, by decide⟩ ?_
    unfold eT; rw [if_pos hc9]; exact ⟨rfl, rfl⟩
