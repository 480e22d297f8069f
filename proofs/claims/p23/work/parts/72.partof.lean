/-! ===== the law: the part of a row or a column ===== -/
def fnd (L p : Nat) : Int32 := if L ≠ 0 ∧ L ≤ p then nI (L - 1) else -1
theorem fnd_no {L p : Nat} (h : L ≠ p + 1) : fnd L (p + 1) = fnd L p := by
  unfold fnd
  by_cases e : L ≠ 0 ∧ L ≤ p
  · rw [if_pos e, if_pos ⟨e.1, by omega⟩]
  · rw [if_neg e, if_neg (by omega)]
theorem fnd_yes {L p : Nat} (h : L = p + 1) : fnd L (p + 1) = nI p := by
  subst h
  unfold fnd
  rw [if_pos ⟨by omega, Nat.le_refl _⟩]
  rfl
theorem fnd_end {L n : Nat} (h0 : L ≠ 0) (h : L ≤ n) : fnd L n = nI (L - 1) := if_pos ⟨h0, h⟩
theorem fnd_0 {L : Nat} : fnd L 0 = -1 := if_neg (by omega)
set_option maxRecDepth 4000 in
theorem c_Law_partOfR {l : Launch} {h : sH} {st : St} (hC : CInv h st) (hS : StOk st) {k : Nat} (hk : k < 6) (h0 : lP st.1 k ≠ 0) : sY l m_Law_partOf 7 [.ref 0, .int (nI k), .int (nI 0)] h (some (.int (nI (lP st.1 k - 1)))) (fun h1 => CInv h1 st) := by
  have hz := l_sz hS.1
  have hl : lP st.1 k ≤ (lay st.1).2 := lP_le hS.1 k
  refine en_Law_partOf ?_
  refine e_iconst (v := (-1)) (p' := 1) D_Law_partOf_0 cst_iconst_m1 rfl ?_
  refine e_istore_3 (p' := 2) D_Law_partOf_1 (Nat.le_of_ble_eq_true rfl) rfl rfl ?_
  refine e_iconst (v := nI 0) (p' := 3) D_Law_partOf_2 cst_iconst_0 rfl ?_
  refine e_istore_4 (p' := 5) D_Law_partOf_3 (Nat.le_of_ble_eq_true rfl) rfl rfl ?_
  have lk5 : ∀ p : Nat, p ≤ (lay st.1).2 → ∀ (h1 : sH), CInv h1 st → sEv l m_Law_partOf 7 (0, 0, 0, 0) (sKm 0 0 (fun r1 h1 => r1 = some (.int (nI (lP st.1 k - 1))) ∧ (fun h1 => CInv h1 st) h1)) 5 [some (.ref 0), some (.int (nI k)), some (.int (nI 0)), some (.int (fnd (lP st.1 k) p)), some (.int (nI p))] [] (h1) := by
    refine lp_up _ ?_ ?_
    · intro h1 CC
      have cc := CC.1
      refine e_iload_4 (p' := 7) D_Law_partOf_5 rfl ?_
      refine e_aload_0 (p' := 8) D_Law_partOf_7 rfl ?_
      refine e_iconst (v := nI 4) (p' := 9) D_Law_partOf_8 cst_iconst_4 rfl ?_
      refine y_callV1 (p' := 12) D_Law_partOf_9 V_Law_26 (k_cnt4 CC hS) rfl (by first | assumption | exact sUp_eq | (rw [sUp_ne (by omega)]; assumption) | (rw [sUp_ne (by omega), sUp_ne (by omega)]; assumption) | (rw [sUp_ne (by omega)]; exact sUp_eq) | (rw [gSet_ne (by omega) (by omega)]; first | assumption | exact sUp_eq | (rw [sUp_ne (by omega)]; assumption) | (rw [sUp_ne (by omega), sUp_ne (by omega)]; assumption)) | (rw [sUp_ne (by omega), sUp_ne (by omega), sUp_ne (by omega)]; assumption) | (simp [sUp]; done)) rfl (Nat.le_of_ble_eq_true rfl) (by decide) ⟨by decide, by decide⟩ rfl ?_
      rintro h2 ⟨C2, F2⟩
      have c2 := C2.1
      refine e_icmpN_ge (q := 51) (p' := 15) D_Law_partOf_12 (by omega) (by omega) rfl rfl (fun hc12 => ?_) (fun hc12 => ?_)
      ·
        refine e_iload_3 (p' := 52) D_Law_partOf_51 rfl ?_
        refine e_ireturn (ty := .int) D_Law_partOf_52 rfl (by first | rfl | exact sBo_nar _) ⟨by decide, by decide⟩ ?_
        refine ⟨?_, C2⟩
        rw [fnd_end h0 hl]
      ·
        exfalso; omega
    · intro p hp ih5 h1 CC
      have cc := CC.1
      refine e_iload_4 (p' := 7) D_Law_partOf_5 rfl ?_
      refine e_aload_0 (p' := 8) D_Law_partOf_7 rfl ?_
      refine e_iconst (v := nI 4) (p' := 9) D_Law_partOf_8 cst_iconst_4 rfl ?_
      refine y_callV1 (p' := 12) D_Law_partOf_9 V_Law_26 (k_cnt4 CC hS) rfl (by first | assumption | exact sUp_eq | (rw [sUp_ne (by omega)]; assumption) | (rw [sUp_ne (by omega), sUp_ne (by omega)]; assumption) | (rw [sUp_ne (by omega)]; exact sUp_eq) | (rw [gSet_ne (by omega) (by omega)]; first | assumption | exact sUp_eq | (rw [sUp_ne (by omega)]; assumption) | (rw [sUp_ne (by omega), sUp_ne (by omega)]; assumption)) | (rw [sUp_ne (by omega), sUp_ne (by omega), sUp_ne (by omega)]; assumption) | (simp [sUp]; done)) rfl (Nat.le_of_ble_eq_true rfl) (by decide) ⟨by decide, by decide⟩ rfl ?_
      rintro h2 ⟨C2, F2⟩
      have c2 := C2.1
      refine e_icmpN_ge (q := 51) (p' := 15) D_Law_partOf_12 (by omega) (by omega) rfl rfl (fun hc12 => ?_) (fun hc12 => ?_)
      ·
        exfalso; omega
      ·
        refine e_aload_0 (p' := 16) D_Law_partOf_15 rfl ?_
        refine e_iload_4 (p' := 18) D_Law_partOf_16 rfl ?_
        refine e_iload_2 (p' := 19) D_Law_partOf_18 rfl ?_
        refine e_ifN_eq (q := 26) (p' := 22) D_Law_partOf_19 (by omega) rfl rfl (fun hc19 => ?_) (fun hc19 => ?_)
        ·
          refine e_iconst (v := nI 0) (p' := 27) D_Law_partOf_26 cst_iconst_0 rfl ?_
          refine y_callV1 (p' := 30) D_Law_partOf_27 V_Law_36 (k_part0 C2 hS (by omega)) rfl (by first | assumption | exact sUp_eq | (rw [sUp_ne (by omega)]; assumption) | (rw [sUp_ne (by omega), sUp_ne (by omega)]; assumption) | (rw [sUp_ne (by omega)]; exact sUp_eq) | (rw [gSet_ne (by omega) (by omega)]; first | assumption | exact sUp_eq | (rw [sUp_ne (by omega)]; assumption) | (rw [sUp_ne (by omega), sUp_ne (by omega)]; assumption)) | (rw [sUp_ne (by omega), sUp_ne (by omega), sUp_ne (by omega)]; assumption) | (simp [sUp]; done)) rfl (Nat.le_of_ble_eq_true rfl) (by decide) ⟨by decide, by decide⟩ rfl ?_
          rintro h3 ⟨C3, F3⟩
          have c3 := C3.1
          refine e_iload_1 (p' := 31) D_Law_partOf_30 rfl ?_
          refine e_ishr (p' := 32) D_Law_partOf_31 rfl ?_
          refine e_iconst (v := nI 1) (p' := 33) D_Law_partOf_32 cst_iconst_1 rfl ?_
          refine e_iand (p' := 34) D_Law_partOf_33 rfl ?_
          rw [bit_i _ mRows_lt k hk]
          have hb : mRows (lay st.1).1 (p + 1) / 2 ^ k % 2 = if decide (lP st.1 k = p + 1) = true then 1 else 0 := mk_bit hk
          rw [hb]
          have hb2 : (if decide (lP st.1 k = p + 1) = true then 1 else 0) < 2 := by split <;> omega
          refine e_iconst (v := nI 1) (p' := 35) D_Law_partOf_34 cst_iconst_1 rfl ?_
          refine e_icmpN_ne (q := 43) (p' := 38) D_Law_partOf_35 (by omega) (by omega) rfl rfl (fun hc35 => ?_) (fun hc35 => ?_)
          ·
            refine e_iload_3 (p' := 44) D_Law_partOf_43 rfl ?_
            refine e_istore_3 (p' := 45) D_Law_partOf_44 (Nat.le_of_ble_eq_true rfl) rfl rfl ?_
            first | refine e_iincN_4 (n := 1) (p' := 48) D_Law_partOf_45 (Nat.le_of_ble_eq_true rfl) rfl rfl ?_ | refine e_iinc_4 (p' := 48) D_Law_partOf_45 (Nat.le_of_ble_eq_true rfl) rfl rfl rfl ?_
            refine e_goto (p' := 5) D_Law_partOf_48 rfl ?_
            refine sEv.castW (ih5 h3 C3) ?_ ?_ ?_
            · exact ⟨rfl, rfl, rfl, by rw [fnd_no (by intro z; rw [if_pos (decide_eq_true z)] at hc35; exact hc35 rfl)], rfl, trivial⟩
            · rfl
            · first | rfl | (simp; done)
          ·
            refine e_iload_4 (p' := 40) D_Law_partOf_38 rfl ?_
            refine e_goto (p' := 44) D_Law_partOf_40 rfl ?_
            refine e_istore_3 (p' := 45) D_Law_partOf_44 (Nat.le_of_ble_eq_true rfl) rfl rfl ?_
            first | refine e_iincN_4 (n := 1) (p' := 48) D_Law_partOf_45 (Nat.le_of_ble_eq_true rfl) rfl rfl ?_ | refine e_iinc_4 (p' := 48) D_Law_partOf_45 (Nat.le_of_ble_eq_true rfl) rfl rfl rfl ?_
            refine e_goto (p' := 5) D_Law_partOf_48 rfl ?_
            refine sEv.castW (ih5 h3 C3) ?_ ?_ ?_
            · exact ⟨rfl, rfl, rfl, by rw [fnd_yes (by refine Classical.byContradiction fun z => ?_; rw [if_neg (by rw [decide_eq_true_iff]; exact z)] at hc35; omega)], rfl, trivial⟩
            · rfl
            · first | rfl | (simp; done)
        ·
          exfalso; omega
  refine sEv.castW (lk5 0 (by omega) h hC) ?_ ?_ ?_
  · exact ⟨rfl, rfl, rfl, by rw [fnd_0], rfl, trivial⟩
  · rfl
  · first | rfl | (simp; done)
set_option maxRecDepth 4000 in
theorem c_Law_partOfC {l : Launch} {h : sH} {st : St} (hC : CInv h st) (hS : StOk st) {k : Nat} (hk : k < 6) (h0 : lQ st.1 k ≠ 0) : sY l m_Law_partOf 7 [.ref 0, .int (nI k), .int (nI 1)] h (some (.int (nI (lQ st.1 k - 1)))) (fun h1 => CInv h1 st) := by
  have hz := l_sz hS.1
  have hl : lQ st.1 k ≤ (lay st.1).2 := lQ_le hS.1 k
  refine en_Law_partOf ?_
  refine e_iconst (v := (-1)) (p' := 1) D_Law_partOf_0 cst_iconst_m1 rfl ?_
  refine e_istore_3 (p' := 2) D_Law_partOf_1 (Nat.le_of_ble_eq_true rfl) rfl rfl ?_
  refine e_iconst (v := nI 0) (p' := 3) D_Law_partOf_2 cst_iconst_0 rfl ?_
  refine e_istore_4 (p' := 5) D_Law_partOf_3 (Nat.le_of_ble_eq_true rfl) rfl rfl ?_
  have lk5 : ∀ p : Nat, p ≤ (lay st.1).2 → ∀ (h1 : sH), CInv h1 st → sEv l m_Law_partOf 7 (0, 0, 0, 0) (sKm 0 0 (fun r1 h1 => r1 = some (.int (nI (lQ st.1 k - 1))) ∧ (fun h1 => CInv h1 st) h1)) 5 [some (.ref 0), some (.int (nI k)), some (.int (nI 1)), some (.int (fnd (lQ st.1 k) p)), some (.int (nI p))] [] (h1) := by
    refine lp_up _ ?_ ?_
    · intro h1 CC
      have cc := CC.1
      refine e_iload_4 (p' := 7) D_Law_partOf_5 rfl ?_
      refine e_aload_0 (p' := 8) D_Law_partOf_7 rfl ?_
      refine e_iconst (v := nI 4) (p' := 9) D_Law_partOf_8 cst_iconst_4 rfl ?_
      refine y_callV1 (p' := 12) D_Law_partOf_9 V_Law_26 (k_cnt4 CC hS) rfl (by first | assumption | exact sUp_eq | (rw [sUp_ne (by omega)]; assumption) | (rw [sUp_ne (by omega), sUp_ne (by omega)]; assumption) | (rw [sUp_ne (by omega)]; exact sUp_eq) | (rw [gSet_ne (by omega) (by omega)]; first | assumption | exact sUp_eq | (rw [sUp_ne (by omega)]; assumption) | (rw [sUp_ne (by omega), sUp_ne (by omega)]; assumption)) | (rw [sUp_ne (by omega), sUp_ne (by omega), sUp_ne (by omega)]; assumption) | (simp [sUp]; done)) rfl (Nat.le_of_ble_eq_true rfl) (by decide) ⟨by decide, by decide⟩ rfl ?_
      rintro h2 ⟨C2, F2⟩
      have c2 := C2.1
      refine e_icmpN_ge (q := 51) (p' := 15) D_Law_partOf_12 (by omega) (by omega) rfl rfl (fun hc12 => ?_) (fun hc12 => ?_)
      ·
        refine e_iload_3 (p' := 52) D_Law_partOf_51 rfl ?_
        refine e_ireturn (ty := .int) D_Law_partOf_52 rfl (by first | rfl | exact sBo_nar _) ⟨by decide, by decide⟩ ?_
        refine ⟨?_, C2⟩
        rw [fnd_end h0 hl]
      ·
        exfalso; omega
    · intro p hp ih5 h1 CC
      have cc := CC.1
      refine e_iload_4 (p' := 7) D_Law_partOf_5 rfl ?_
      refine e_aload_0 (p' := 8) D_Law_partOf_7 rfl ?_
      refine e_iconst (v := nI 4) (p' := 9) D_Law_partOf_8 cst_iconst_4 rfl ?_
      refine y_callV1 (p' := 12) D_Law_partOf_9 V_Law_26 (k_cnt4 CC hS) rfl (by first | assumption | exact sUp_eq | (rw [sUp_ne (by omega)]; assumption) | (rw [sUp_ne (by omega), sUp_ne (by omega)]; assumption) | (rw [sUp_ne (by omega)]; exact sUp_eq) | (rw [gSet_ne (by omega) (by omega)]; first | assumption | exact sUp_eq | (rw [sUp_ne (by omega)]; assumption) | (rw [sUp_ne (by omega), sUp_ne (by omega)]; assumption)) | (rw [sUp_ne (by omega), sUp_ne (by omega), sUp_ne (by omega)]; assumption) | (simp [sUp]; done)) rfl (Nat.le_of_ble_eq_true rfl) (by decide) ⟨by decide, by decide⟩ rfl ?_
      rintro h2 ⟨C2, F2⟩
      have c2 := C2.1
      refine e_icmpN_ge (q := 51) (p' := 15) D_Law_partOf_12 (by omega) (by omega) rfl rfl (fun hc12 => ?_) (fun hc12 => ?_)
      ·
        exfalso; omega
      ·
        refine e_aload_0 (p' := 16) D_Law_partOf_15 rfl ?_
        refine e_iload_4 (p' := 18) D_Law_partOf_16 rfl ?_
        refine e_iload_2 (p' := 19) D_Law_partOf_18 rfl ?_
        refine e_ifN_eq (q := 26) (p' := 22) D_Law_partOf_19 (by omega) rfl rfl (fun hc19 => ?_) (fun hc19 => ?_)
        ·
          exfalso; omega
        ·
          refine e_iconst (v := nI 1) (p' := 23) D_Law_partOf_22 cst_iconst_1 rfl ?_
          refine e_goto (p' := 27) D_Law_partOf_23 rfl ?_
          refine y_callV1 (p' := 30) D_Law_partOf_27 V_Law_36 (k_part1 C2 hS (by omega)) rfl (by first | assumption | exact sUp_eq | (rw [sUp_ne (by omega)]; assumption) | (rw [sUp_ne (by omega), sUp_ne (by omega)]; assumption) | (rw [sUp_ne (by omega)]; exact sUp_eq) | (rw [gSet_ne (by omega) (by omega)]; first | assumption | exact sUp_eq | (rw [sUp_ne (by omega)]; assumption) | (rw [sUp_ne (by omega), sUp_ne (by omega)]; assumption)) | (rw [sUp_ne (by omega), sUp_ne (by omega), sUp_ne (by omega)]; assumption) | (simp [sUp]; done)) rfl (Nat.le_of_ble_eq_true rfl) (by decide) ⟨by decide, by decide⟩ rfl ?_
          rintro h3 ⟨C3, F3⟩
          have c3 := C3.1
          refine e_iload_1 (p' := 31) D_Law_partOf_30 rfl ?_
          refine e_ishr (p' := 32) D_Law_partOf_31 rfl ?_
          refine e_iconst (v := nI 1) (p' := 33) D_Law_partOf_32 cst_iconst_1 rfl ?_
          refine e_iand (p' := 34) D_Law_partOf_33 rfl ?_
          rw [bit_i _ mCols_lt k hk]
          have hb : mCols (lay st.1).1 (p + 1) / 2 ^ k % 2 = if decide (lQ st.1 k = p + 1) = true then 1 else 0 := mk_bit hk
          rw [hb]
          have hb2 : (if decide (lQ st.1 k = p + 1) = true then 1 else 0) < 2 := by split <;> omega
          refine e_iconst (v := nI 1) (p' := 35) D_Law_partOf_34 cst_iconst_1 rfl ?_
          refine e_icmpN_ne (q := 43) (p' := 38) D_Law_partOf_35 (by omega) (by omega) rfl rfl (fun hc35 => ?_) (fun hc35 => ?_)
          ·
            refine e_iload_3 (p' := 44) D_Law_partOf_43 rfl ?_
            refine e_istore_3 (p' := 45) D_Law_partOf_44 (Nat.le_of_ble_eq_true rfl) rfl rfl ?_
            first | refine e_iincN_4 (n := 1) (p' := 48) D_Law_partOf_45 (Nat.le_of_ble_eq_true rfl) rfl rfl ?_ | refine e_iinc_4 (p' := 48) D_Law_partOf_45 (Nat.le_of_ble_eq_true rfl) rfl rfl rfl ?_
            refine e_goto (p' := 5) D_Law_partOf_48 rfl ?_
            refine sEv.castW (ih5 h3 C3) ?_ ?_ ?_
            · exact ⟨rfl, rfl, rfl, by rw [fnd_no (by intro z; rw [if_pos (decide_eq_true z)] at hc35; exact hc35 rfl)], rfl, trivial⟩
            · rfl
            · first | rfl | (simp; done)
          ·
            refine e_iload_4 (p' := 40) D_Law_partOf_38 rfl ?_
            refine e_goto (p' := 44) D_Law_partOf_40 rfl ?_
            refine e_istore_3 (p' := 45) D_Law_partOf_44 (Nat.le_of_ble_eq_true rfl) rfl rfl ?_
            first | refine e_iincN_4 (n := 1) (p' := 48) D_Law_partOf_45 (Nat.le_of_ble_eq_true rfl) rfl rfl ?_ | refine e_iinc_4 (p' := 48) D_Law_partOf_45 (Nat.le_of_ble_eq_true rfl) rfl rfl rfl ?_
            refine e_goto (p' := 5) D_Law_partOf_48 rfl ?_
            refine sEv.castW (ih5 h3 C3) ?_ ?_ ?_
            · exact ⟨rfl, rfl, rfl, by rw [fnd_yes (by refine Classical.byContradiction fun z => ?_; rw [if_neg (by rw [decide_eq_true_iff]; exact z)] at hc35; omega)], rfl, trivial⟩
            · rfl
            · first | rfl | (simp; done)
  refine sEv.castW (lk5 0 (by omega) h hC) ?_ ?_ ?_
  · exact ⟨rfl, rfl, rfl, by rw [fnd_0], rfl, trivial⟩
  · rfl
  · first | rfl | (simp; done)
