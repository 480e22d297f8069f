/-! ===== contracts: Parts (it stands at 7 to 15) ===== -/
def pI (n : Nat) : Int32 := if n = 0 then -1 else nI (n - 1)
theorem pI_toInt {n : Nat} (h : n < 2 ^ 31) : (pI n).toInt = (n : Int) - 1 := by
  unfold pI
  split
  · rename_i e; subst e; rfl
  · rw [nI_toInt (by omega)]; omega
theorem pI_eq {a b : Nat} (ha : a < 2 ^ 31) (hb : b < 2 ^ 31) : pI a = pI b ↔ a = b := by
  rw [← Int32.toInt_inj, pI_toInt ha, pI_toInt hb]; omega
theorem pI_m1 {a : Nat} (ha : a < 2 ^ 31) : pI a = -1 ↔ a = 0 := pI_eq (b := 0) ha (by decide)
theorem pI_N {n : Nat} : nI n = pI (n + 1) := by unfold pI; rw [if_neg (by omega)]; rfl
def PtC (h : sH) (sz : Nat) (con : Bool) (f1 f2 f3 f4 : Nat → Int32) : Prop :=
  h.2 7 = oC 5 [.ref 8, .ref 10, .ref 12, .ref 14, .int (nI sz), .int (sBo con)] ∧ (h.2 8 = oC 3 [.ref 9] ∧ h.2 9 = iA 6 f1) ∧ (h.2 10 = oC 3 [.ref 11] ∧ h.2 11 = iA 6 f2) ∧ (h.2 12 = oC 3 [.ref 13] ∧ h.2 13 = iA 6 f3) ∧ (h.2 14 = oC 3 [.ref 15] ∧ h.2 15 = iA 6 f4)
def PtV (s : Ps) (f1 f2 f3 f4 : Nat → Int32) : Prop := ∀ k, k < 6 → (f1 k = pI (s.1.1 k) ∧ f2 k = pI (s.1.2 k)) ∧ (s.1.1 k ≠ 0 → f3 k = nI (s.2.1 k)) ∧ (s.1.2 k ≠ 0 → f4 k = nI (s.2.2 k))
def PtAt (h : sH) (s : Ps) (sz : Nat) (con : Bool) : Prop := ∃ f1 f2 f3 f4, PtC h sz con f1 f2 f3 f4 ∧ PtV s f1 f2 f3 f4
/-- nothing but Parts is changed -/
def Fr (h h' : sH) : Prop := ∀ a, (a < 7 ∨ 16 ≤ a) → h'.2 a = h.2 a
theorem Fr.rf {h : sH} : Fr h h := fun _ _ => rfl
theorem Fr.tr {h h1 h2 : sH} (a : Fr h h1) (b : Fr h1 h2) : Fr h h2 := fun q hq => (b q hq).trans (a q hq)
theorem Fr.up {h h1 : sH} {a : Nat} {c : sC} (f : Fr h h1) (h7 : 7 ≤ a) (h15 : a < 16) : Fr h (sUp h1 a c) := fun q hq => (sUp_ne (by omega)).trans (f q hq)
theorem GridAt.fr {h h' : sH} {g : Nat} {x : Gd} (hG : GridAt h g x) (hf : Fr h h') (hg : g + 2 < 7 ∨ 16 ≤ g) : GridAt h' g x := hG.kept (hf _ (by omega)) (hf _ (by omega)) (hf _ (by omega))
theorem PtC.kept {h h' : sH} {sz : Nat} {con : Bool} {f1 f2 f3 f4 : Nat → Int32} (C : PtC h sz con f1 f2 f3 f4) (k : ∀ a, 7 ≤ a → a < 16 → h'.2 a = h.2 a) : PtC h' sz con f1 f2 f3 f4 := by
  obtain ⟨c1, ⟨c2, c3⟩, ⟨c4, c5⟩, ⟨c6, c7⟩, ⟨c8, c9⟩⟩ := C
  exact ⟨(k _ (by omega) (by omega)).trans c1, ⟨(k _ (by omega) (by omega)).trans c2, (k _ (by omega) (by omega)).trans c3⟩, ⟨(k _ (by omega) (by omega)).trans c4, (k _ (by omega) (by omega)).trans c5⟩, ⟨(k _ (by omega) (by omega)).trans c6, (k _ (by omega) (by omega)).trans c7⟩, ⟨(k _ (by omega) (by omega)).trans c8, (k _ (by omega) (by omega)).trans c9⟩⟩
theorem PtAt.kept {h h' : sH} {s : Ps} {sz : Nat} {con : Bool} (C : PtAt h s sz con) (k : ∀ a, 7 ≤ a → a < 16 → h'.2 a = h.2 a) : PtAt h' s sz con := by
  obtain ⟨f1, f2, f3, f4, C, V⟩ := C
  exact ⟨f1, f2, f3, f4, C.kept k, V⟩
theorem PtAt.rowSet {h : sH} {s : Ps} {sz r a q : Nat} {con : Bool} {f1 f2 f3 f4 : Nat → Int32} {y : Int32} (C : PtC h sz con f1 f2 f3 f4) (V : PtV s f1 f2 f3 f4) (hy : y = pI a) : PtAt (sUp (sUp h 9 (iA 6 (upd f1 r y))) 13 (iA 6 (upd f3 r (nI q)))) ((up s.1.1 r a, s.1.2), (up s.2.1 r q, s.2.2)) sz con := by
  obtain ⟨c1, ⟨c2, c3⟩, ⟨c4, c5⟩, ⟨c6, c7⟩, ⟨c8, c9⟩⟩ := C
  refine ⟨upd f1 r y, f2, upd f3 r (nI q), f4, ⟨?_, ⟨?_, ?_⟩, ⟨?_, ?_⟩, ⟨?_, ?_⟩, ⟨?_, ?_⟩⟩, fun k hk => ?_⟩
  · simp [sUp, c1]
  · simp [sUp, c2]
  · simp [sUp]
  · simp [sUp, c4]
  · simp [sUp, c5]
  · simp [sUp, c6]
  · simp [sUp]
  · simp [sUp, c8]
  · simp [sUp, c9]
  · obtain ⟨⟨v1, v2⟩, v3, v4⟩ := V k hk
    show ((upd f1 r y k = pI (up s.1.1 r a k)) ∧ f2 k = pI (s.1.2 k)) ∧ (up s.1.1 r a k ≠ 0 → upd f3 r (nI q) k = nI (up s.2.1 r q k)) ∧ (s.1.2 k ≠ 0 → f4 k = nI (s.2.2 k))
    by_cases e : k = r
    · subst e
      simp only [upd_at, up_at]
      exact ⟨⟨hy, v2⟩, fun _ => trivial, v4⟩
    · simp only [upd_off e, up_off e]
      exact ⟨⟨v1, v2⟩, v3, v4⟩
theorem PtAt.colSet {h : sH} {s : Ps} {sz c a q : Nat} {con : Bool} {f1 f2 f3 f4 : Nat → Int32} {y : Int32} (C : PtC h sz con f1 f2 f3 f4) (V : PtV s f1 f2 f3 f4) (hy : y = pI a) : PtAt (sUp (sUp h 11 (iA 6 (upd f2 c y))) 15 (iA 6 (upd f4 c (nI q)))) ((s.1.1, up s.1.2 c a), (s.2.1, up s.2.2 c q)) sz con := by
  obtain ⟨c1, ⟨c2, c3⟩, ⟨c4, c5⟩, ⟨c6, c7⟩, ⟨c8, c9⟩⟩ := C
  refine ⟨f1, upd f2 c y, f3, upd f4 c (nI q), ⟨?_, ⟨?_, ?_⟩, ⟨?_, ?_⟩, ⟨?_, ?_⟩, ⟨?_, ?_⟩⟩, fun k hk => ?_⟩
  · simp [sUp, c1]
  · simp [sUp, c2]
  · simp [sUp, c3]
  · simp [sUp, c4]
  · simp [sUp]
  · simp [sUp, c6]
  · simp [sUp, c7]
  · simp [sUp, c8]
  · simp [sUp]
  · obtain ⟨⟨v1, v2⟩, v3, v4⟩ := V k hk
    show ((f1 k = pI (s.1.1 k)) ∧ upd f2 c y k = pI (up s.1.2 c a k)) ∧ (s.1.1 k ≠ 0 → f3 k = nI (s.2.1 k)) ∧ (up s.1.2 c a k ≠ 0 → upd f4 c (nI q) k = nI (up s.2.2 c q k))
    by_cases e : k = c
    · subst e
      simp only [upd_at, up_at]
      exact ⟨⟨v1, hy⟩, v3, fun _ => trivial⟩
    · simp only [upd_off e, up_off e]
      exact ⟨⟨v1, v2⟩, v3, v4⟩
theorem PtAt.size {h : sH} {s : Ps} {sz n : Nat} {con : Bool} {f1 f2 f3 f4 : Nat → Int32} (C : PtC h sz con f1 f2 f3 f4) : PtC (sUp h 7 (oC 5 [.ref 8, .ref 10, .ref 12, .ref 14, .int (nI n), .int (sBo con)])) n con f1 f2 f3 f4 := by
  obtain ⟨c1, ⟨c2, c3⟩, ⟨c4, c5⟩, ⟨c6, c7⟩, ⟨c8, c9⟩⟩ := C
  exact ⟨sUp_eq, ⟨(sUp_ne (by omega)).trans c2, (sUp_ne (by omega)).trans c3⟩, ⟨(sUp_ne (by omega)).trans c4, (sUp_ne (by omega)).trans c5⟩, ⟨(sUp_ne (by omega)).trans c6, (sUp_ne (by omega)).trans c7⟩, ⟨(sUp_ne (by omega)).trans c8, (sUp_ne (by omega)).trans c9⟩⟩
/-- the known numbers are within the modulus, the parts few -/
def Pv (x : Gd) (s : Ps) : Prop := ((∀ k, s.1.1 k ≠ 0 → 1 ≤ s.2.1 k ∧ s.2.1 k < x.1.2.2) ∧ (∀ k, s.1.2 k ≠ 0 → 1 ≤ s.2.2 k ∧ s.2.2 k < x.1.2.2)) ∧ (∀ k, s.1.1 k < 100 ∧ s.1.2 k < 100)
theorem Iv.pv {x : Gd} {p : Nat} {s : Ps} (h : Iv x p s) (hp : p < 100) : Pv x s := ⟨h.2.1, fun k => ⟨Nat.lt_of_le_of_lt (h.2.2 k).1 hp, Nat.lt_of_le_of_lt (h.2.2 k).2 hp⟩⟩
theorem psStep_rowU {x : Gd} {r c : Nat} {s : Ps} (ht : td x r c = true) (h1 : s.1.1 r = 0) (h2 : s.1.2 c ≠ 0) : psCh x r c s = true ∧ psStep x r c s = ((up s.1.1 r (s.1.2 c), s.1.2), (up s.2.1 r (qt x.1.2.2 (at' x r c) (s.2.2 c)), s.2.2)) := by
  refine ⟨by unfold psCh; simp [ht, h1, h2], ?_⟩
  unfold psStep
  rw [if_neg (fun z => z.2.1 h1), if_pos ⟨ht, h1, h2⟩]
theorem psStep_colU {x : Gd} {r c : Nat} {s : Ps} (ht : td x r c = true) (h1 : s.1.1 r ≠ 0) (h2 : s.1.2 c = 0) : psCh x r c s = true ∧ psStep x r c s = ((s.1.1, up s.1.2 c (s.1.1 r)), (s.2.1, up s.2.2 c (qt x.1.2.2 (at' x r c) (s.2.1 r)))) := by
  refine ⟨by unfold psCh; simp [ht, h1, h2], ?_⟩
  unfold psStep
  rw [if_pos ⟨ht, h1, h2⟩]
set_option maxRecDepth 4000 in
theorem c_Parts_reachOver {l : Launch} {h : sH} {g : Nat} {x : Gd} (hG : GridAt h g x) (hx : Gok x) (hg : g + 2 < 7 ∨ 16 ≤ g) {s : Ps} {sz : Nat} {con : Bool} (hP : PtAt h s sz con) (hv : Pv x s) {r c : Nat} (hr : r < x.1.1) (hc : c < x.1.2.1) (ht : td x r c = true) : sY l m_Parts_reachOver 2 [.ref 7, .ref g, .int (nI r), .int (nI c)] h (some (.int (sBo (psCh x r c s)))) (fun h1 => PtAt h1 (psStep x r c s) sz con ∧ Fr h h1) := by
  have hG0 := hG
  have hR := hx.1
  have hC := hx.2.1
  have hM := hx.2.2.1.le
  obtain ⟨f1, f2, f3, f4, C, V⟩ := hP
  obtain ⟨g0, g1, g2⟩ := hG
  have C0 := C
  obtain ⟨c1, ⟨c2, c3⟩, ⟨c4, c5⟩, ⟨c6, c7⟩, ⟨c8, c9⟩⟩ := C
  obtain ⟨⟨w1, -⟩, w3, -⟩ := V r (by omega)
  obtain ⟨⟨-, w2⟩, -, w4⟩ := V c (by omega)
  have hb1 := (hv.2 r).1
  have hb2 := (hv.2 c).2
  have hs := hx.small r c
  refine en_Parts_reachOver ?_
  refine e_aload_0 (p' := 1) D_Parts_reachOver_0 rfl ?_
  refine e_getfield (p' := 4) D_Parts_reachOver_1 F_Parts_14 (by first | assumption | exact sUp_eq | (rw [sUp_ne (by omega)]; assumption) | (rw [sUp_ne (by omega), sUp_ne (by omega)]; assumption) | (rw [sUp_ne (by omega)]; exact sUp_eq) | (simp [sUp]; done)) (by rfl) rfl ?_
  refine e_iload_2 (p' := 5) D_Parts_reachOver_4 rfl ?_
  refine x_callV1 (p' := 8) D_Parts_reachOver_5 V_Parts_42 (c_Num_get (by first | assumption | exact sUp_eq | (rw [sUp_ne (by omega)]; assumption) | (rw [sUp_ne (by omega), sUp_ne (by omega)]; assumption) | (rw [sUp_ne (by omega)]; exact sUp_eq) | (simp [sUp]; done)) (by first | assumption | exact sUp_eq | (rw [sUp_ne (by omega)]; assumption) | (rw [sUp_ne (by omega), sUp_ne (by omega)]; assumption) | (rw [sUp_ne (by omega)]; exact sUp_eq) | (simp [sUp]; done)) (by omega) (by omega)) rfl (by first | assumption | exact sUp_eq | (rw [sUp_ne (by omega)]; assumption) | (rw [sUp_ne (by omega), sUp_ne (by omega)]; assumption) | (rw [sUp_ne (by omega)]; exact sUp_eq) | (simp [sUp]; done)) rfl (Nat.le_of_ble_eq_true rfl) (by decide) ⟨by decide, by decide⟩ rfl ?_
  refine e_istore_4 (p' := 10) D_Parts_reachOver_8 (Nat.le_of_ble_eq_true rfl) rfl rfl ?_
  refine e_aload_0 (p' := 11) D_Parts_reachOver_10 rfl ?_
  refine e_getfield (p' := 14) D_Parts_reachOver_11 F_Parts_20 (by first | assumption | exact sUp_eq | (rw [sUp_ne (by omega)]; assumption) | (rw [sUp_ne (by omega), sUp_ne (by omega)]; assumption) | (rw [sUp_ne (by omega)]; exact sUp_eq) | (simp [sUp]; done)) (by rfl) rfl ?_
  refine e_iload_3 (p' := 15) D_Parts_reachOver_14 rfl ?_
  refine x_callV1 (p' := 18) D_Parts_reachOver_15 V_Parts_42 (c_Num_get (by first | assumption | exact sUp_eq | (rw [sUp_ne (by omega)]; assumption) | (rw [sUp_ne (by omega), sUp_ne (by omega)]; assumption) | (rw [sUp_ne (by omega)]; exact sUp_eq) | (simp [sUp]; done)) (by first | assumption | exact sUp_eq | (rw [sUp_ne (by omega)]; assumption) | (rw [sUp_ne (by omega), sUp_ne (by omega)]; assumption) | (rw [sUp_ne (by omega)]; exact sUp_eq) | (simp [sUp]; done)) (by omega) (by omega)) rfl (by first | assumption | exact sUp_eq | (rw [sUp_ne (by omega)]; assumption) | (rw [sUp_ne (by omega), sUp_ne (by omega)]; assumption) | (rw [sUp_ne (by omega)]; exact sUp_eq) | (simp [sUp]; done)) rfl (Nat.le_of_ble_eq_true rfl) (by decide) ⟨by decide, by decide⟩ rfl ?_
  refine e_istore_5 (p' := 20) D_Parts_reachOver_18 (Nat.le_of_ble_eq_true rfl) rfl rfl ?_
  refine e_aload_1 (p' := 21) D_Parts_reachOver_20 rfl ?_
  refine e_iload_2 (p' := 22) D_Parts_reachOver_21 rfl ?_
  refine e_iload_3 (p' := 23) D_Parts_reachOver_22 rfl ?_
  refine x_callV1 (p' := 26) D_Parts_reachOver_23 V_Parts_65 (c_Grid_number hG0 hx (by omega) (by omega)) rfl (by first | assumption | exact sUp_eq | (rw [sUp_ne (by omega)]; assumption) | (rw [sUp_ne (by omega), sUp_ne (by omega)]; assumption) | (rw [sUp_ne (by omega)]; exact sUp_eq) | (simp [sUp]; done)) rfl (Nat.le_of_ble_eq_true rfl) (by decide) ⟨by decide, by decide⟩ rfl ?_
  refine e_istore_6 (p' := 28) D_Parts_reachOver_26 (Nat.le_of_ble_eq_true rfl) rfl rfl ?_
  refine e_iload_4 (p' := 30) D_Parts_reachOver_28 rfl ?_
  refine e_iconst (v := (-1)) (p' := 31) D_Parts_reachOver_30 cst_iconst_m1 rfl ?_
  refine e_icmp_ne (q := 38) (p' := 34) D_Parts_reachOver_31 rfl rfl (fun hc31 => ?_) (fun hc31 => ?_)
  ·
    refine e_iconst (v := nI 0) (p' := 39) D_Parts_reachOver_38 cst_iconst_0 rfl ?_
    refine e_iload_5 (p' := 41) D_Parts_reachOver_39 rfl ?_
    refine e_iconst (v := (-1)) (p' := 42) D_Parts_reachOver_41 cst_iconst_m1 rfl ?_
    refine e_icmp_ne (q := 49) (p' := 45) D_Parts_reachOver_42 rfl rfl (fun hc42 => ?_) (fun hc42 => ?_)
    ·
      refine e_iconst (v := nI 0) (p' := 50) D_Parts_reachOver_49 cst_iconst_0 rfl ?_
      refine e_icmpN_ne (q := 55) (p' := 53) D_Parts_reachOver_50 (by omega) (by omega) rfl rfl (fun hc50 => ?_) (fun hc50 => ?_)
      ·
        exfalso; omega
      ·
        have hno : psCh x r c s = false := by
          rw [w1, pI_m1 (by omega)] at hc31
          rw [w2, pI_m1 (by omega)] at hc42
          unfold psCh; simp [hc31, hc42]
        refine e_iconst (v := nI 0) (p' := 54) D_Parts_reachOver_53 cst_iconst_0 rfl ?_
        refine e_ireturn (ty := .boolean) D_Parts_reachOver_54 rfl (by first | rfl | exact sBo_nar _) ⟨by decide, by decide⟩ ?_
        rw [hno, psStep_no hno]
        exact ⟨rfl, ⟨f1, f2, f3, f4, C0, V⟩, Fr.rf⟩
    ·
      refine e_iconst (v := nI 1) (p' := 46) D_Parts_reachOver_45 cst_iconst_1 rfl ?_
      refine e_goto (p' := 50) D_Parts_reachOver_46 rfl ?_
      refine e_icmpN_ne (q := 55) (p' := 53) D_Parts_reachOver_50 (by omega) (by omega) rfl rfl (fun hc50 => ?_) (fun hc50 => ?_)
      ·
        refine e_iload_4 (p' := 57) D_Parts_reachOver_55 rfl ?_
        refine e_iconst (v := (-1)) (p' := 58) D_Parts_reachOver_57 cst_iconst_m1 rfl ?_
        refine e_icmp_ne (q := 96) (p' := 61) D_Parts_reachOver_58 rfl rfl (fun hc58 => ?_) (fun hc58 => ?_)
        ·
          have hc0 : s.1.2 c = 0 := by rw [w2] at hc42; exact (pI_m1 (by omega)).mp hc42
          have hr0 : s.1.1 r ≠ 0 := by rw [w1] at hc31; exact fun z => hc31 ((pI_m1 (by omega)).mpr z)
          have hq := (hv.1.1 r hr0)
          have hst := psStep_colU (x := x) ht hr0 hc0
          refine e_aload_0 (p' := 97) D_Parts_reachOver_96 rfl ?_
          refine e_getfield (p' := 100) D_Parts_reachOver_97 F_Parts_20 (by first | assumption | exact sUp_eq | (rw [sUp_ne (by omega)]; assumption) | (rw [sUp_ne (by omega), sUp_ne (by omega)]; assumption) | (rw [sUp_ne (by omega)]; exact sUp_eq) | (simp [sUp]; done)) (by rfl) rfl ?_
          refine e_iload_3 (p' := 101) D_Parts_reachOver_100 rfl ?_
          refine e_iload_4 (p' := 103) D_Parts_reachOver_101 rfl ?_
          refine x_callV0 (p' := 106) D_Parts_reachOver_103 V_Parts_46 (c_Num_set (by first | assumption | exact sUp_eq | (rw [sUp_ne (by omega)]; assumption) | (rw [sUp_ne (by omega), sUp_ne (by omega)]; assumption) | (rw [sUp_ne (by omega)]; exact sUp_eq) | (simp [sUp]; done)) (by first | assumption | exact sUp_eq | (rw [sUp_ne (by omega)]; assumption) | (rw [sUp_ne (by omega), sUp_ne (by omega)]; assumption) | (rw [sUp_ne (by omega)]; exact sUp_eq) | (simp [sUp]; done)) (by omega) (by omega)) rfl (by first | assumption | exact sUp_eq | (rw [sUp_ne (by omega)]; assumption) | (rw [sUp_ne (by omega), sUp_ne (by omega)]; assumption) | (rw [sUp_ne (by omega)]; exact sUp_eq) | (simp [sUp]; done)) rfl (Nat.le_of_ble_eq_true rfl) (by decide) ⟨by decide, by decide⟩ rfl ?_
          refine e_aload_0 (p' := 107) D_Parts_reachOver_106 rfl ?_
          refine e_getfield (p' := 110) D_Parts_reachOver_107 F_Parts_26 (by first | assumption | exact sUp_eq | (rw [sUp_ne (by omega)]; assumption) | (rw [sUp_ne (by omega), sUp_ne (by omega)]; assumption) | (rw [sUp_ne (by omega)]; exact sUp_eq) | (simp [sUp]; done)) (by rfl) rfl ?_
          refine e_iload_3 (p' := 111) D_Parts_reachOver_110 rfl ?_
          refine e_aload_1 (p' := 112) D_Parts_reachOver_111 rfl ?_
          refine e_iload_6 (p' := 114) D_Parts_reachOver_112 rfl ?_
          refine e_aload_0 (p' := 115) D_Parts_reachOver_114 rfl ?_
          refine e_getfield (p' := 118) D_Parts_reachOver_115 F_Parts_23 (by first | assumption | exact sUp_eq | (rw [sUp_ne (by omega)]; assumption) | (rw [sUp_ne (by omega), sUp_ne (by omega)]; assumption) | (rw [sUp_ne (by omega)]; exact sUp_eq) | (simp [sUp]; done)) (by rfl) rfl ?_
          refine e_iload_2 (p' := 119) D_Parts_reachOver_118 rfl ?_
          refine x_callV1 (p' := 122) D_Parts_reachOver_119 V_Parts_42 (c_Num_get (by first | assumption | exact sUp_eq | (rw [sUp_ne (by omega)]; assumption) | (rw [sUp_ne (by omega), sUp_ne (by omega)]; assumption) | (rw [sUp_ne (by omega)]; exact sUp_eq) | (simp [sUp]; done)) (by first | assumption | exact sUp_eq | (rw [sUp_ne (by omega)]; assumption) | (rw [sUp_ne (by omega), sUp_ne (by omega)]; assumption) | (rw [sUp_ne (by omega)]; exact sUp_eq) | (simp [sUp]; done)) (by omega) (by omega)) rfl (by first | assumption | exact sUp_eq | (rw [sUp_ne (by omega)]; assumption) | (rw [sUp_ne (by omega), sUp_ne (by omega)]; assumption) | (rw [sUp_ne (by omega)]; exact sUp_eq) | (simp [sUp]; done)) rfl (Nat.le_of_ble_eq_true rfl) (by decide) ⟨by decide, by decide⟩ rfl ?_
          rw [w3 hr0]
          refine x_callV1 (p' := 125) D_Parts_reachOver_122 V_Parts_73 (c_Grid_quotient (hG0.kept (sUp_ne (by omega)) (sUp_ne (by omega)) (sUp_ne (by omega))) hx (by omega) (by omega)) rfl (by first | assumption | exact sUp_eq | (rw [sUp_ne (by omega)]; assumption) | (rw [sUp_ne (by omega), sUp_ne (by omega)]; assumption) | (rw [sUp_ne (by omega)]; exact sUp_eq) | (simp [sUp]; done)) rfl (Nat.le_of_ble_eq_true rfl) (by decide) ⟨by decide, by decide⟩ rfl ?_
          refine x_callV0 (p' := 128) D_Parts_reachOver_125 V_Parts_46 (c_Num_set (by first | assumption | exact sUp_eq | (rw [sUp_ne (by omega)]; assumption) | (rw [sUp_ne (by omega), sUp_ne (by omega)]; assumption) | (rw [sUp_ne (by omega)]; exact sUp_eq) | (simp [sUp]; done)) (by first | assumption | exact sUp_eq | (rw [sUp_ne (by omega)]; assumption) | (rw [sUp_ne (by omega), sUp_ne (by omega)]; assumption) | (rw [sUp_ne (by omega)]; exact sUp_eq) | (simp [sUp]; done)) (by omega) (by omega)) rfl (by first | assumption | exact sUp_eq | (rw [sUp_ne (by omega)]; assumption) | (rw [sUp_ne (by omega), sUp_ne (by omega)]; assumption) | (rw [sUp_ne (by omega)]; exact sUp_eq) | (simp [sUp]; done)) rfl (Nat.le_of_ble_eq_true rfl) (by decide) ⟨by decide, by decide⟩ rfl ?_
          refine e_iconst (v := nI 1) (p' := 129) D_Parts_reachOver_128 cst_iconst_1 rfl ?_
          refine e_ireturn (ty := .boolean) D_Parts_reachOver_129 rfl (by first | rfl | exact sBo_nar _) ⟨by decide, by decide⟩ ?_
          rw [hst.1, hst.2]
          refine ⟨rfl, ?_, (Fr.rf.up (by omega) (by omega)).up (by omega) (by omega)⟩
          exact PtAt.colSet C0 V w1
        ·
          exact absurd hc58 hc31
      ·
        exfalso; omega
  ·
    refine e_iconst (v := nI 1) (p' := 35) D_Parts_reachOver_34 cst_iconst_1 rfl ?_
    refine e_goto (p' := 39) D_Parts_reachOver_35 rfl ?_
    refine e_iload_5 (p' := 41) D_Parts_reachOver_39 rfl ?_
    refine e_iconst (v := (-1)) (p' := 42) D_Parts_reachOver_41 cst_iconst_m1 rfl ?_
    refine e_icmp_ne (q := 49) (p' := 45) D_Parts_reachOver_42 rfl rfl (fun hc42 => ?_) (fun hc42 => ?_)
    ·
      refine e_iconst (v := nI 0) (p' := 50) D_Parts_reachOver_49 cst_iconst_0 rfl ?_
      refine e_icmpN_ne (q := 55) (p' := 53) D_Parts_reachOver_50 (by omega) (by omega) rfl rfl (fun hc50 => ?_) (fun hc50 => ?_)
      ·
        refine e_iload_4 (p' := 57) D_Parts_reachOver_55 rfl ?_
        refine e_iconst (v := (-1)) (p' := 58) D_Parts_reachOver_57 cst_iconst_m1 rfl ?_
        refine e_icmp_ne (q := 96) (p' := 61) D_Parts_reachOver_58 rfl rfl (fun hc58 => ?_) (fun hc58 => ?_)
        ·
          exact absurd hc31 hc58
        ·
          have hr0 : s.1.1 r = 0 := by rw [w1] at hc31; exact (pI_m1 (by omega)).mp hc31
          have hc0 : s.1.2 c ≠ 0 := by rw [w2] at hc42; exact fun z => hc42 ((pI_m1 (by omega)).mpr z)
          have hq := (hv.1.2 c hc0)
          have hst := psStep_rowU (x := x) ht hr0 hc0
          refine e_aload_0 (p' := 62) D_Parts_reachOver_61 rfl ?_
          refine e_getfield (p' := 65) D_Parts_reachOver_62 F_Parts_14 (by first | assumption | exact sUp_eq | (rw [sUp_ne (by omega)]; assumption) | (rw [sUp_ne (by omega), sUp_ne (by omega)]; assumption) | (rw [sUp_ne (by omega)]; exact sUp_eq) | (simp [sUp]; done)) (by rfl) rfl ?_
          refine e_iload_2 (p' := 66) D_Parts_reachOver_65 rfl ?_
          refine e_iload_5 (p' := 68) D_Parts_reachOver_66 rfl ?_
          refine x_callV0 (p' := 71) D_Parts_reachOver_68 V_Parts_46 (c_Num_set (by first | assumption | exact sUp_eq | (rw [sUp_ne (by omega)]; assumption) | (rw [sUp_ne (by omega), sUp_ne (by omega)]; assumption) | (rw [sUp_ne (by omega)]; exact sUp_eq) | (simp [sUp]; done)) (by first | assumption | exact sUp_eq | (rw [sUp_ne (by omega)]; assumption) | (rw [sUp_ne (by omega), sUp_ne (by omega)]; assumption) | (rw [sUp_ne (by omega)]; exact sUp_eq) | (simp [sUp]; done)) (by omega) (by omega)) rfl (by first | assumption | exact sUp_eq | (rw [sUp_ne (by omega)]; assumption) | (rw [sUp_ne (by omega), sUp_ne (by omega)]; assumption) | (rw [sUp_ne (by omega)]; exact sUp_eq) | (simp [sUp]; done)) rfl (Nat.le_of_ble_eq_true rfl) (by decide) ⟨by decide, by decide⟩ rfl ?_
          refine e_aload_0 (p' := 72) D_Parts_reachOver_71 rfl ?_
          refine e_getfield (p' := 75) D_Parts_reachOver_72 F_Parts_23 (by first | assumption | exact sUp_eq | (rw [sUp_ne (by omega)]; assumption) | (rw [sUp_ne (by omega), sUp_ne (by omega)]; assumption) | (rw [sUp_ne (by omega)]; exact sUp_eq) | (simp [sUp]; done)) (by rfl) rfl ?_
          refine e_iload_2 (p' := 76) D_Parts_reachOver_75 rfl ?_
          refine e_aload_1 (p' := 77) D_Parts_reachOver_76 rfl ?_
          refine e_iload_6 (p' := 79) D_Parts_reachOver_77 rfl ?_
          refine e_aload_0 (p' := 80) D_Parts_reachOver_79 rfl ?_
          refine e_getfield (p' := 83) D_Parts_reachOver_80 F_Parts_26 (by first | assumption | exact sUp_eq | (rw [sUp_ne (by omega)]; assumption) | (rw [sUp_ne (by omega), sUp_ne (by omega)]; assumption) | (rw [sUp_ne (by omega)]; exact sUp_eq) | (simp [sUp]; done)) (by rfl) rfl ?_
          refine e_iload_3 (p' := 84) D_Parts_reachOver_83 rfl ?_
          refine x_callV1 (p' := 87) D_Parts_reachOver_84 V_Parts_42 (c_Num_get (by first | assumption | exact sUp_eq | (rw [sUp_ne (by omega)]; assumption) | (rw [sUp_ne (by omega), sUp_ne (by omega)]; assumption) | (rw [sUp_ne (by omega)]; exact sUp_eq) | (simp [sUp]; done)) (by first | assumption | exact sUp_eq | (rw [sUp_ne (by omega)]; assumption) | (rw [sUp_ne (by omega), sUp_ne (by omega)]; assumption) | (rw [sUp_ne (by omega)]; exact sUp_eq) | (simp [sUp]; done)) (by omega) (by omega)) rfl (by first | assumption | exact sUp_eq | (rw [sUp_ne (by omega)]; assumption) | (rw [sUp_ne (by omega), sUp_ne (by omega)]; assumption) | (rw [sUp_ne (by omega)]; exact sUp_eq) | (simp [sUp]; done)) rfl (Nat.le_of_ble_eq_true rfl) (by decide) ⟨by decide, by decide⟩ rfl ?_
          rw [w4 hc0]
          refine x_callV1 (p' := 90) D_Parts_reachOver_87 V_Parts_73 (c_Grid_quotient (hG0.kept (sUp_ne (by omega)) (sUp_ne (by omega)) (sUp_ne (by omega))) hx (by omega) (by omega)) rfl (by first | assumption | exact sUp_eq | (rw [sUp_ne (by omega)]; assumption) | (rw [sUp_ne (by omega), sUp_ne (by omega)]; assumption) | (rw [sUp_ne (by omega)]; exact sUp_eq) | (simp [sUp]; done)) rfl (Nat.le_of_ble_eq_true rfl) (by decide) ⟨by decide, by decide⟩ rfl ?_
          refine x_callV0 (p' := 93) D_Parts_reachOver_90 V_Parts_46 (c_Num_set (by first | assumption | exact sUp_eq | (rw [sUp_ne (by omega)]; assumption) | (rw [sUp_ne (by omega), sUp_ne (by omega)]; assumption) | (rw [sUp_ne (by omega)]; exact sUp_eq) | (simp [sUp]; done)) (by first | assumption | exact sUp_eq | (rw [sUp_ne (by omega)]; assumption) | (rw [sUp_ne (by omega), sUp_ne (by omega)]; assumption) | (rw [sUp_ne (by omega)]; exact sUp_eq) | (simp [sUp]; done)) (by omega) (by omega)) rfl (by first | assumption | exact sUp_eq | (rw [sUp_ne (by omega)]; assumption) | (rw [sUp_ne (by omega), sUp_ne (by omega)]; assumption) | (rw [sUp_ne (by omega)]; exact sUp_eq) | (simp [sUp]; done)) rfl (Nat.le_of_ble_eq_true rfl) (by decide) ⟨by decide, by decide⟩ rfl ?_
          refine e_goto (p' := 128) D_Parts_reachOver_93 rfl ?_
          refine e_iconst (v := nI 1) (p' := 129) D_Parts_reachOver_128 cst_iconst_1 rfl ?_
          refine e_ireturn (ty := .boolean) D_Parts_reachOver_129 rfl (by first | rfl | exact sBo_nar _) ⟨by decide, by decide⟩ ?_
          rw [hst.1, hst.2]
          refine ⟨rfl, ?_, (Fr.rf.up (by omega) (by omega)).up (by omega) (by omega)⟩
          exact PtAt.rowSet C0 V w2
      ·
        exfalso; omega
    ·
      refine e_iconst (v := nI 1) (p' := 46) D_Parts_reachOver_45 cst_iconst_1 rfl ?_
      refine e_goto (p' := 50) D_Parts_reachOver_46 rfl ?_
      refine e_icmpN_ne (q := 55) (p' := 53) D_Parts_reachOver_50 (by omega) (by omega) rfl rfl (fun hc50 => ?_) (fun hc50 => ?_)
      ·
        exfalso; omega
      ·
        have hno : psCh x r c s = false := by
          rw [w1, pI_m1 (by omega)] at hc31
          rw [w2, pI_m1 (by omega)] at hc42
          unfold psCh; simp [hc31, hc42]
        refine e_iconst (v := nI 0) (p' := 54) D_Parts_reachOver_53 cst_iconst_0 rfl ?_
        refine e_ireturn (ty := .boolean) D_Parts_reachOver_54 rfl (by first | rfl | exact sBo_nar _) ⟨by decide, by decide⟩ ?_
        rw [hno, psStep_no hno]
        exact ⟨rfl, ⟨f1, f2, f3, f4, C0, V⟩, Fr.rf⟩
set_option maxRecDepth 4000 in
theorem c_Parts_product {l : Launch} {h : sH} {g : Nat} {x : Gd} (hG : GridAt h g x) (hx : Gok x) (hg : g + 2 < 7 ∨ 16 ≤ g) {s : Ps} {sz : Nat} {con : Bool} (hP : PtAt h s sz con) (hv : Pv x s) {r c : Nat} (hr : r < 6) (hc : c < 6) (hr0 : s.1.1 r ≠ 0) (hc0 : s.1.2 c ≠ 0) : sX l m_Parts_product 1 [.ref 7, .ref g, .int (nI r), .int (nI c)] h (some (.int (nI (s.2.1 r * s.2.2 c % x.1.2.2)))) (h) := by
  have hG0 := hG
  have hR := hx.1
  have hC := hx.2.1
  have hM := hx.2.2.1.le
  obtain ⟨f1, f2, f3, f4, C, V⟩ := hP
  obtain ⟨g0, g1, g2⟩ := hG
  have C0 := C
  obtain ⟨c1, ⟨c2, c3⟩, ⟨c4, c5⟩, ⟨c6, c7⟩, ⟨c8, c9⟩⟩ := C
  obtain ⟨⟨w1, -⟩, w3, -⟩ := V r (by omega)
  obtain ⟨⟨-, w2⟩, -, w4⟩ := V c (by omega)
  have k1 := hv.1.1 r hr0
  have k2 := hv.1.2 c hc0
  refine en_Parts_product ?_
  refine e_aload_1 (p' := 1) D_Parts_product_0 rfl ?_
  refine e_aload_0 (p' := 2) D_Parts_product_1 rfl ?_
  refine e_getfield (p' := 5) D_Parts_product_2 F_Parts_23 (by first | assumption | exact sUp_eq | (rw [sUp_ne (by omega)]; assumption) | (rw [sUp_ne (by omega), sUp_ne (by omega)]; assumption) | (rw [sUp_ne (by omega)]; exact sUp_eq) | (simp [sUp]; done)) (by rfl) rfl ?_
  refine e_iload_2 (p' := 6) D_Parts_product_5 rfl ?_
  refine x_callV1 (p' := 9) D_Parts_product_6 V_Parts_42 (c_Num_get (by first | assumption | exact sUp_eq | (rw [sUp_ne (by omega)]; assumption) | (rw [sUp_ne (by omega), sUp_ne (by omega)]; assumption) | (rw [sUp_ne (by omega)]; exact sUp_eq) | (simp [sUp]; done)) (by first | assumption | exact sUp_eq | (rw [sUp_ne (by omega)]; assumption) | (rw [sUp_ne (by omega), sUp_ne (by omega)]; assumption) | (rw [sUp_ne (by omega)]; exact sUp_eq) | (simp [sUp]; done)) (by omega) (by omega)) rfl (by first | assumption | exact sUp_eq | (rw [sUp_ne (by omega)]; assumption) | (rw [sUp_ne (by omega), sUp_ne (by omega)]; assumption) | (rw [sUp_ne (by omega)]; exact sUp_eq) | (simp [sUp]; done)) rfl (Nat.le_of_ble_eq_true rfl) (by decide) ⟨by decide, by decide⟩ rfl ?_
  rw [w3 hr0]
  refine e_aload_0 (p' := 10) D_Parts_product_9 rfl ?_
  refine e_getfield (p' := 13) D_Parts_product_10 F_Parts_26 (by first | assumption | exact sUp_eq | (rw [sUp_ne (by omega)]; assumption) | (rw [sUp_ne (by omega), sUp_ne (by omega)]; assumption) | (rw [sUp_ne (by omega)]; exact sUp_eq) | (simp [sUp]; done)) (by rfl) rfl ?_
  refine e_iload_3 (p' := 14) D_Parts_product_13 rfl ?_
  refine x_callV1 (p' := 17) D_Parts_product_14 V_Parts_42 (c_Num_get (by first | assumption | exact sUp_eq | (rw [sUp_ne (by omega)]; assumption) | (rw [sUp_ne (by omega), sUp_ne (by omega)]; assumption) | (rw [sUp_ne (by omega)]; exact sUp_eq) | (simp [sUp]; done)) (by first | assumption | exact sUp_eq | (rw [sUp_ne (by omega)]; assumption) | (rw [sUp_ne (by omega), sUp_ne (by omega)]; assumption) | (rw [sUp_ne (by omega)]; exact sUp_eq) | (simp [sUp]; done)) (by omega) (by omega)) rfl (by first | assumption | exact sUp_eq | (rw [sUp_ne (by omega)]; assumption) | (rw [sUp_ne (by omega), sUp_ne (by omega)]; assumption) | (rw [sUp_ne (by omega)]; exact sUp_eq) | (simp [sUp]; done)) rfl (Nat.le_of_ble_eq_true rfl) (by decide) ⟨by decide, by decide⟩ rfl ?_
  rw [w4 hc0]
  refine x_callV1 (p' := 20) D_Parts_product_17 V_Parts_80 (c_Grid_product hG0 hx (by omega) (by omega)) rfl (by first | assumption | exact sUp_eq | (rw [sUp_ne (by omega)]; assumption) | (rw [sUp_ne (by omega), sUp_ne (by omega)]; assumption) | (rw [sUp_ne (by omega)]; exact sUp_eq) | (simp [sUp]; done)) rfl (Nat.le_of_ble_eq_true rfl) (by decide) ⟨by decide, by decide⟩ rfl ?_
  refine e_ireturn (ty := .int) D_Parts_product_20 rfl (by first | rfl | exact sBo_nar _) ⟨by decide, by decide⟩ ?_
  exact ⟨by first | rfl | (simp; done) | (simp [*]; done), by first | rfl | (simp; done)⟩
