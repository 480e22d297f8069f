/-! ===== the reference: bits, gain ===== -/
def gnP (s : Ps) (p q : Nat) : Nat := if p = q then 0 else pRows s (p + 1) * pCols s (q + 1) + pRows s (q + 1) * pCols s (p + 1)
theorem pc_row (s : Ps) (q : Nat) : pc6 (mRows s q) = pRows s q := pc6_rows
theorem gn_P {s : Ps} {r c : Nat} (hr : s.1.1 r ≠ 0) (hc : s.1.2 c ≠ 0) : gnP s (s.1.1 r - 1) (s.1.2 c - 1) = gn s r c := by
  unfold gnP gn
  rw [show s.1.1 r - 1 + 1 = s.1.1 r by omega, show s.1.2 c - 1 + 1 = s.1.2 c by omega]
  by_cases e : s.1.1 r = s.1.2 c
  · rw [if_pos e, if_pos (by omega)]
  · rw [if_neg e, if_neg (by omega)]
theorem mRows_lt {s : Ps} {q : Nat} : mRows s q < 64 := mk_lt
theorem mCols_lt {s : Ps} {q : Nat} : mCols s q < 64 := mk_lt
set_option maxRecDepth 4000 in
theorem c_M_bits {l : Launch} {h : sH} {m : Nat} (hm : m < 64) : sX l m_M_bits 0 [.int (nI m)] h (some (.int (nI (pc6 m)))) (h) := by
  refine en_M_bits ?_
  refine e_iconst (v := nI 0) (p' := 1) D_M_bits_0 cst_iconst_0 rfl ?_
  refine e_istore_1 (p' := 2) D_M_bits_1 (Nat.le_of_ble_eq_true rfl) rfl rfl ?_
  refine e_iconst (v := nI 0) (p' := 3) D_M_bits_2 cst_iconst_0 rfl ?_
  refine e_istore_2 (p' := 4) D_M_bits_3 (Nat.le_of_ble_eq_true rfl) rfl rfl ?_
  have lk4 : ∀ i : Nat, i ≤ 6 → sEv l m_M_bits 0 (0, 0, 0, 0) (sKm 0 0 (fun r1 h1 => r1 = some (.int (nI (pc6 m))) ∧ h1 = h)) 4 [some (.int (nI m)), some (.int (nI (sm i (fun k => m / 2 ^ k % 2)))), some (.int (nI i))] [] (h) := by
    refine lp_up _ ?_ ?_
    · skip
      refine e_iload_2 (p' := 5) D_M_bits_4 rfl ?_
      refine e_bipush (v := nI 6) (p' := 7) D_M_bits_5 cst_bipush_6 rfl ?_
      refine e_icmpN_ge (q := 24) (p' := 10) D_M_bits_7 (by omega) (by omega) rfl rfl (fun hc7 => ?_) (fun hc7 => ?_)
      ·
        refine e_iload_1 (p' := 25) D_M_bits_24 rfl ?_
        refine e_ireturn (ty := .int) D_M_bits_25 rfl (by first | rfl | exact sBo_nar _) ⟨by decide, by decide⟩ ?_
        exact ⟨by first | rfl | (simp; done) | (simp [*]; done), by first | rfl | (simp; done)⟩
      ·
        exfalso; omega
    · intro i hi ih4 
      refine e_iload_2 (p' := 5) D_M_bits_4 rfl ?_
      refine e_bipush (v := nI 6) (p' := 7) D_M_bits_5 cst_bipush_6 rfl ?_
      refine e_icmpN_ge (q := 24) (p' := 10) D_M_bits_7 (by omega) (by omega) rfl rfl (fun hc7 => ?_) (fun hc7 => ?_)
      ·
        exfalso; omega
      ·
        refine e_iload_1 (p' := 11) D_M_bits_10 rfl ?_
        refine e_iload_0 (p' := 12) D_M_bits_11 rfl ?_
        refine e_iload_2 (p' := 13) D_M_bits_12 rfl ?_
        refine e_ishr (p' := 14) D_M_bits_13 rfl ?_
        refine e_iconst (v := nI 1) (p' := 15) D_M_bits_14 cst_iconst_1 rfl ?_
        refine e_iand (p' := 16) D_M_bits_15 rfl ?_
        rw [holds_ok _ hm _ (by omega)]
        first | refine e_iaddN (p' := 17) D_M_bits_16 rfl ?_ | refine e_iadd (p' := 17) D_M_bits_16 rfl ?_
        refine e_istore_1 (p' := 18) D_M_bits_17 (Nat.le_of_ble_eq_true rfl) rfl rfl ?_
        first | refine e_iincN_2 (n := 1) (p' := 21) D_M_bits_18 (Nat.le_of_ble_eq_true rfl) rfl rfl ?_ | refine e_iinc_2 (p' := 21) D_M_bits_18 (Nat.le_of_ble_eq_true rfl) rfl rfl rfl ?_
        refine e_goto (p' := 4) D_M_bits_21 rfl ?_
        refine sEv.castW (ih4) ?_ ?_ ?_
        · exact ⟨rfl, rfl, rfl, trivial⟩
        · rfl
        · first | rfl | (simp; done)
  refine sEv.castW (lk4 0 (by omega) ) ?_ ?_ ?_
  · exact ⟨rfl, rfl, rfl, trivial⟩
  · rfl
  · first | rfl | (simp; done)
set_option maxRecDepth 4000 in
theorem c_M_gain {l : Launch} {h : sH} {x : Gd} {n t : Nat} {v : mV} (hm : h.2 61 = mO n t v) (hz : h.2 62 = iA 39 (nF (zN x))) (hx : Gok x) (hP : PmAt h (lay x).1) {p q : Nat} (hp : p < 50) (hq : q < 50) : sX l m_M_gain 1 [.ref 61, .int (nI p), .int (nI q)] h (some (.int (nI (gnP (lay x).1 p q)))) (h) := by
  refine en_M_gain ?_
  refine e_iload_1 (p' := 1) D_M_gain_0 rfl ?_
  refine e_iload_2 (p' := 2) D_M_gain_1 rfl ?_
  refine e_icmpN_ne (q := 9) (p' := 5) D_M_gain_2 (by omega) (by omega) rfl rfl (fun hc2 => ?_) (fun hc2 => ?_)
  ·
    refine e_aload_0 (p' := 10) D_M_gain_9 rfl ?_
    refine e_iload_1 (p' := 11) D_M_gain_10 rfl ?_
    refine x_callV1 (p' := 14) D_M_gain_11 V_M_101 (c_M_rowsOf hm hz hx hP hp) rfl (by first | assumption | exact sUp_eq | (rw [sUp_ne (by omega)]; assumption) | (rw [sUp_ne (by omega), sUp_ne (by omega)]; assumption) | (rw [sUp_ne (by omega)]; exact sUp_eq) | (rw [gSet_ne (by omega) (by omega)]; first | assumption | exact sUp_eq | (rw [sUp_ne (by omega)]; assumption) | (rw [sUp_ne (by omega), sUp_ne (by omega)]; assumption)) | (rw [sUp_ne (by omega), sUp_ne (by omega), sUp_ne (by omega)]; assumption) | (simp [sUp]; done)) rfl (Nat.le_of_ble_eq_true rfl) (by decide) ⟨by decide, by decide⟩ rfl ?_
    refine x_callS1 (p' := 17) D_M_gain_14 S_M_178 (c_M_bits mRows_lt) rfl rfl (Nat.le_of_ble_eq_true rfl) (by decide) ⟨by decide, by decide⟩ rfl ?_
    refine e_aload_0 (p' := 18) D_M_gain_17 rfl ?_
    refine e_iload_2 (p' := 19) D_M_gain_18 rfl ?_
    refine x_callV1 (p' := 22) D_M_gain_19 V_M_104 (c_M_columnsOf hm hz hx hP hq) rfl (by first | assumption | exact sUp_eq | (rw [sUp_ne (by omega)]; assumption) | (rw [sUp_ne (by omega), sUp_ne (by omega)]; assumption) | (rw [sUp_ne (by omega)]; exact sUp_eq) | (rw [gSet_ne (by omega) (by omega)]; first | assumption | exact sUp_eq | (rw [sUp_ne (by omega)]; assumption) | (rw [sUp_ne (by omega), sUp_ne (by omega)]; assumption)) | (rw [sUp_ne (by omega), sUp_ne (by omega), sUp_ne (by omega)]; assumption) | (simp [sUp]; done)) rfl (Nat.le_of_ble_eq_true rfl) (by decide) ⟨by decide, by decide⟩ rfl ?_
    refine x_callS1 (p' := 25) D_M_gain_22 S_M_178 (c_M_bits mCols_lt) rfl rfl (Nat.le_of_ble_eq_true rfl) (by decide) ⟨by decide, by decide⟩ rfl ?_
    first | refine e_imulN (p' := 26) D_M_gain_25 rfl ?_ | refine e_imul (p' := 26) D_M_gain_25 rfl ?_
    refine e_aload_0 (p' := 27) D_M_gain_26 rfl ?_
    refine e_iload_2 (p' := 28) D_M_gain_27 rfl ?_
    refine x_callV1 (p' := 31) D_M_gain_28 V_M_101 (c_M_rowsOf hm hz hx hP hq) rfl (by first | assumption | exact sUp_eq | (rw [sUp_ne (by omega)]; assumption) | (rw [sUp_ne (by omega), sUp_ne (by omega)]; assumption) | (rw [sUp_ne (by omega)]; exact sUp_eq) | (rw [gSet_ne (by omega) (by omega)]; first | assumption | exact sUp_eq | (rw [sUp_ne (by omega)]; assumption) | (rw [sUp_ne (by omega), sUp_ne (by omega)]; assumption)) | (rw [sUp_ne (by omega), sUp_ne (by omega), sUp_ne (by omega)]; assumption) | (simp [sUp]; done)) rfl (Nat.le_of_ble_eq_true rfl) (by decide) ⟨by decide, by decide⟩ rfl ?_
    refine x_callS1 (p' := 34) D_M_gain_31 S_M_178 (c_M_bits mRows_lt) rfl rfl (Nat.le_of_ble_eq_true rfl) (by decide) ⟨by decide, by decide⟩ rfl ?_
    refine e_aload_0 (p' := 35) D_M_gain_34 rfl ?_
    refine e_iload_1 (p' := 36) D_M_gain_35 rfl ?_
    refine x_callV1 (p' := 39) D_M_gain_36 V_M_104 (c_M_columnsOf hm hz hx hP hp) rfl (by first | assumption | exact sUp_eq | (rw [sUp_ne (by omega)]; assumption) | (rw [sUp_ne (by omega), sUp_ne (by omega)]; assumption) | (rw [sUp_ne (by omega)]; exact sUp_eq) | (rw [gSet_ne (by omega) (by omega)]; first | assumption | exact sUp_eq | (rw [sUp_ne (by omega)]; assumption) | (rw [sUp_ne (by omega), sUp_ne (by omega)]; assumption)) | (rw [sUp_ne (by omega), sUp_ne (by omega), sUp_ne (by omega)]; assumption) | (simp [sUp]; done)) rfl (Nat.le_of_ble_eq_true rfl) (by decide) ⟨by decide, by decide⟩ rfl ?_
    refine x_callS1 (p' := 42) D_M_gain_39 S_M_178 (c_M_bits mCols_lt) rfl rfl (Nat.le_of_ble_eq_true rfl) (by decide) ⟨by decide, by decide⟩ rfl ?_
    first | refine e_imulN (p' := 43) D_M_gain_42 rfl ?_ | refine e_imul (p' := 43) D_M_gain_42 rfl ?_
    first | refine e_iaddN (p' := 44) D_M_gain_43 rfl ?_ | refine e_iadd (p' := 44) D_M_gain_43 rfl ?_
    refine e_ireturn (ty := .int) D_M_gain_44 rfl (by first | rfl | exact sBo_nar _) ⟨by decide, by decide⟩ ?_
    unfold gnP; rw [if_neg (by omega), pc6_rows, pc6_cols, pc6_rows, pc6_cols]; exact ⟨rfl, rfl⟩
  ·
    refine e_iconst (v := nI 0) (p' := 6) D_M_gain_5 cst_iconst_0 rfl ?_
    refine e_goto (p' := 44) D_M_gain_6 rfl ?_
    refine e_ireturn (ty := .int) D_M_gain_44 rfl (by first | rfl | exact sBo_nar _) ⟨by decide, by decide⟩ ?_
    unfold gnP; rw [if_pos (by omega)]; exact ⟨rfl, rfl⟩
