/-! ===== contracts: Grid ===== -/
theorem gMask_lt {x : Gd} {r : Nat} : gMask x r < 64 := mk_lt
theorem at_out {x : Gd} (hx : Gok x) {r c : Nat} (hr : r < 6) (hc : c < 6) (h : gHas x (nI r) (nI c) = false) : at' x r c = 0 := by
  rw [gHas_N hx (by omega) (by omega)] at h
  refine hx.out hc ?_
  by_cases h1 : r < x.1.1
  · by_cases h2 : c < x.1.2.1
    · simp [h1, h2] at h
    · exact Or.inr (Nat.not_lt.mp h2)
  · exact Or.inl (Nat.not_lt.mp h1)
theorem Gok.zero {x : Gd} (hx : Gok x) {p : Nat} (hp : 36 ≤ p) : x.2 p = 0 := hx.2.2.2.2 p (Or.inl (by have := hx.1; omega))
theorem has_in {x : Gd} (hx : Gok x) {r c : Nat} (hr : r < x.1.1) (hc : c < x.1.2.1) : gHas x (nI r) (nI c) = true := by
  have h1 := hx.1
  have h2 := hx.2.1
  rw [gHas_N hx (by omega) (by omega)]
  simp [hr, hc]
set_option maxRecDepth 4000 in
theorem c_Grid_number {l : Launch} {h : sH} {g : Nat} {x : Gd} (hG : GridAt h g x) (hx : Gok x) {r c : Nat} (hr : r < 6) (hc : c < 6) : sX l m_Grid_number 1 [.ref g, .int (nI r), .int (nI c)] h (some (.int (nI (at' x r c)))) (h) := by
  have hG0 := hG
  obtain ⟨g0, g1, g2⟩ := hG
  have hR := hx.1
  have hC := hx.2.1
  have hM := hx.2.2.1.le
  refine en_Grid_number ?_
  refine e_aload_0 (p' := 1) D_Grid_number_0 rfl ?_
  refine e_iload_1 (p' := 2) D_Grid_number_1 rfl ?_
  refine e_iload_2 (p' := 3) D_Grid_number_2 rfl ?_
  refine x_callV1 (p' := 6) D_Grid_number_3 V_Grid_37 (c_Grid_has hG0) rfl (by first | assumption | exact sUp_eq | (rw [sUp_ne (by omega)]; assumption) | (rw [sUp_ne (by omega), sUp_ne (by omega)]; assumption) | (rw [sUp_ne (by omega)]; exact sUp_eq) | (simp [sUp]; done)) rfl (Nat.le_of_ble_eq_true rfl) (by decide) ⟨by decide, by decide⟩ rfl ?_
  refine e_ifB_eq (q := 25) (p' := 9) D_Grid_number_6 rfl rfl (fun hc6 => ?_) (fun hc6 => ?_)
  ·
    refine e_iconst (v := nI 0) (p' := 26) D_Grid_number_25 cst_iconst_0 rfl ?_
    refine e_ireturn (ty := .int) D_Grid_number_26 rfl (by first | rfl | exact sBo_nar _) ⟨by decide, by decide⟩ ?_
    first | exact ⟨rfl, rfl⟩ | (rw [at_out hx hr hc hc6]; exact ⟨rfl, rfl⟩)
  ·
    refine e_aload_0 (p' := 10) D_Grid_number_9 rfl ?_
    refine e_getfield (p' := 13) D_Grid_number_10 F_Grid_14 (by first | assumption | exact sUp_eq | (rw [sUp_ne (by omega)]; assumption) | (rw [sUp_ne (by omega), sUp_ne (by omega)]; assumption) | (rw [sUp_ne (by omega)]; exact sUp_eq) | (simp [sUp]; done)) (by rfl) rfl ?_
    refine e_bipush (v := nI 6) (p' := 15) D_Grid_number_13 cst_bipush_6 rfl ?_
    refine e_iload_1 (p' := 16) D_Grid_number_15 rfl ?_
    first | refine e_imulN (p' := 17) D_Grid_number_16 rfl ?_ | refine e_imul (p' := 17) D_Grid_number_16 rfl ?_
    refine e_iload_2 (p' := 18) D_Grid_number_17 rfl ?_
    first | refine e_iaddN (p' := 19) D_Grid_number_18 rfl ?_ | refine e_iadd (p' := 19) D_Grid_number_18 rfl ?_
    refine x_callV1 (p' := 22) D_Grid_number_19 V_Grid_41 (c_Num_get g1 g2 (by omega) (by omega)) rfl (by first | assumption | exact sUp_eq | (rw [sUp_ne (by omega)]; assumption) | (rw [sUp_ne (by omega), sUp_ne (by omega)]; assumption) | (rw [sUp_ne (by omega)]; exact sUp_eq) | (simp [sUp]; done)) rfl (Nat.le_of_ble_eq_true rfl) (by decide) ⟨by decide, by decide⟩ rfl ?_
    refine e_goto (p' := 26) D_Grid_number_22 rfl ?_
    refine e_ireturn (ty := .int) D_Grid_number_26 rfl (by first | rfl | exact sBo_nar _) ⟨by decide, by decide⟩ ?_
    first | exact ⟨rfl, rfl⟩ | (rw [at_out hx hr hc hc6]; exact ⟨rfl, rfl⟩)
set_option maxRecDepth 4000 in
theorem c_Grid_setNumber {l : Launch} {h : sH} {g : Nat} {x : Gd} (hG : GridAt h g x) (hx : Gok x) {r c v : Nat} (hr : r < x.1.1) (hc : c < x.1.2.1) : sX l m_Grid_setNumber 1 [.ref g, .int (nI r), .int (nI c), .int (nI v)] h (none) (gSet h g (x.1, up x.2 (6 * r + c) v)) := by
  have hG0 := hG
  obtain ⟨g0, g1, g2⟩ := hG
  have hR := hx.1
  have hC := hx.2.1
  have hM := hx.2.2.1.le
  have hin := has_in hx hr hc
  refine en_Grid_setNumber ?_
  refine e_aload_0 (p' := 1) D_Grid_setNumber_0 rfl ?_
  refine e_iload_1 (p' := 2) D_Grid_setNumber_1 rfl ?_
  refine e_iload_2 (p' := 3) D_Grid_setNumber_2 rfl ?_
  refine x_callV1 (p' := 6) D_Grid_setNumber_3 V_Grid_37 (c_Grid_has hG0) rfl (by first | assumption | exact sUp_eq | (rw [sUp_ne (by omega)]; assumption) | (rw [sUp_ne (by omega), sUp_ne (by omega)]; assumption) | (rw [sUp_ne (by omega)]; exact sUp_eq) | (simp [sUp]; done)) rfl (Nat.le_of_ble_eq_true rfl) (by decide) ⟨by decide, by decide⟩ rfl ?_
  refine e_ifB_eq (q := 23) (p' := 9) D_Grid_setNumber_6 rfl rfl (fun hc6 => ?_) (fun hc6 => ?_)
  ·
    rw [hin] at hc6; cases hc6
  ·
    refine e_aload_0 (p' := 10) D_Grid_setNumber_9 rfl ?_
    refine e_getfield (p' := 13) D_Grid_setNumber_10 F_Grid_14 (by first | assumption | exact sUp_eq | (rw [sUp_ne (by omega)]; assumption) | (rw [sUp_ne (by omega), sUp_ne (by omega)]; assumption) | (rw [sUp_ne (by omega)]; exact sUp_eq) | (simp [sUp]; done)) (by rfl) rfl ?_
    refine e_bipush (v := nI 6) (p' := 15) D_Grid_setNumber_13 cst_bipush_6 rfl ?_
    refine e_iload_1 (p' := 16) D_Grid_setNumber_15 rfl ?_
    first | refine e_imulN (p' := 17) D_Grid_setNumber_16 rfl ?_ | refine e_imul (p' := 17) D_Grid_setNumber_16 rfl ?_
    refine e_iload_2 (p' := 18) D_Grid_setNumber_17 rfl ?_
    first | refine e_iaddN (p' := 19) D_Grid_setNumber_18 rfl ?_ | refine e_iadd (p' := 19) D_Grid_setNumber_18 rfl ?_
    refine e_iload_3 (p' := 20) D_Grid_setNumber_19 rfl ?_
    refine x_callV0 (p' := 23) D_Grid_setNumber_20 V_Grid_45 (c_Num_set g1 g2 (by omega) (by omega)) rfl (by first | assumption | exact sUp_eq | (rw [sUp_ne (by omega)]; assumption) | (rw [sUp_ne (by omega), sUp_ne (by omega)]; assumption) | (rw [sUp_ne (by omega)]; exact sUp_eq) | (simp [sUp]; done)) rfl (Nat.le_of_ble_eq_true rfl) (by decide) ⟨by decide, by decide⟩ rfl ?_
    refine e_return D_Grid_setNumber_23 rfl ⟨by decide, by decide⟩ ?_
    refine ⟨rfl, ?_⟩
    unfold gSet
    rw [sUp_self g0, upd_nF]
set_option maxRecDepth 4000 in
theorem c_Grid_toldInRow {l : Launch} {h : sH} {g : Nat} {x : Gd} (hG : GridAt h g x) (hx : Gok x) {r : Nat} (hr : r < 6) : sX l m_Grid_toldInRow 2 [.ref g, .int (nI r)] h (some (.int (nI (gMask x r)))) (h) := by
  have hG0 := hG
  obtain ⟨g0, g1, g2⟩ := hG
  have hR := hx.1
  have hC := hx.2.1
  have hM := hx.2.2.1.le
  refine en_Grid_toldInRow ?_
  refine e_iconst (v := nI 0) (p' := 1) D_Grid_toldInRow_0 cst_iconst_0 rfl ?_
  refine e_istore_2 (p' := 2) D_Grid_toldInRow_1 (Nat.le_of_ble_eq_true rfl) rfl rfl ?_
  refine e_iconst (v := nI 0) (p' := 3) D_Grid_toldInRow_2 cst_iconst_0 rfl ?_
  refine e_istore_3 (p' := 4) D_Grid_toldInRow_3 (Nat.le_of_ble_eq_true rfl) rfl rfl ?_
  have lk4 : ∀ i : Nat, i ≤ x.1.2.1 → sEv l m_Grid_toldInRow 2 (0, 0, 0, 0) (sKm 0 0 (fun r1 h1 => r1 = some (.int (nI (gMask x r))) ∧ h1 = h)) 4 [some (.ref g), some (.int (nI r)), some (.int (nI (mk i (td x r)))), some (.int (nI i))] [] (h) := by
    refine lp_up _ ?_ ?_
    · skip
      refine e_iload_3 (p' := 5) D_Grid_toldInRow_4 rfl ?_
      refine e_aload_0 (p' := 6) D_Grid_toldInRow_5 rfl ?_
      refine e_getfield (p' := 9) D_Grid_toldInRow_6 F_Grid_24 (by first | assumption | exact sUp_eq | (rw [sUp_ne (by omega)]; assumption) | (rw [sUp_ne (by omega), sUp_ne (by omega)]; assumption) | (rw [sUp_ne (by omega)]; exact sUp_eq) | (simp [sUp]; done)) (by rfl) rfl ?_
      first | refine e_icmpN_ge (q := 33) (p' := 12) D_Grid_toldInRow_9 (by omega) (by omega) rfl rfl (fun hc9 => ?_) (fun hc9 => ?_) | refine e_icmp_ge (q := 33) (p' := 12) D_Grid_toldInRow_9 rfl rfl (fun hc9 => ?_) (fun hc9 => ?_)
      ·
        refine e_iload_2 (p' := 34) D_Grid_toldInRow_33 rfl ?_
        refine e_ireturn (ty := .int) D_Grid_toldInRow_34 rfl (by first | rfl | exact sBo_nar _) ⟨by decide, by decide⟩ ?_
        rw [gMask_C hx]; exact ⟨rfl, rfl⟩
      ·
        exfalso; omega
    · intro i hi ih4 
      refine e_iload_3 (p' := 5) D_Grid_toldInRow_4 rfl ?_
      refine e_aload_0 (p' := 6) D_Grid_toldInRow_5 rfl ?_
      refine e_getfield (p' := 9) D_Grid_toldInRow_6 F_Grid_24 (by first | assumption | exact sUp_eq | (rw [sUp_ne (by omega)]; assumption) | (rw [sUp_ne (by omega), sUp_ne (by omega)]; assumption) | (rw [sUp_ne (by omega)]; exact sUp_eq) | (simp [sUp]; done)) (by rfl) rfl ?_
      first | refine e_icmpN_ge (q := 33) (p' := 12) D_Grid_toldInRow_9 (by omega) (by omega) rfl rfl (fun hc9 => ?_) (fun hc9 => ?_) | refine e_icmp_ge (q := 33) (p' := 12) D_Grid_toldInRow_9 rfl rfl (fun hc9 => ?_) (fun hc9 => ?_)
      ·
        exfalso; omega
      ·
        refine e_aload_0 (p' := 13) D_Grid_toldInRow_12 rfl ?_
        refine e_iload_1 (p' := 14) D_Grid_toldInRow_13 rfl ?_
        refine e_iload_3 (p' := 15) D_Grid_toldInRow_14 rfl ?_
        have hs := hx.small r i
        refine x_callV1 (p' := 18) D_Grid_toldInRow_15 V_Grid_49 (c_Grid_number hG0 hx hr (by omega)) rfl (by first | assumption | exact sUp_eq | (rw [sUp_ne (by omega)]; assumption) | (rw [sUp_ne (by omega), sUp_ne (by omega)]; assumption) | (rw [sUp_ne (by omega)]; exact sUp_eq) | (simp [sUp]; done)) rfl (Nat.le_of_ble_eq_true rfl) (by decide) ⟨by decide, by decide⟩ rfl ?_
        refine e_ifN_eq (q := 27) (p' := 21) D_Grid_toldInRow_18 (by omega) rfl rfl (fun hc18 => ?_) (fun hc18 => ?_)
        ·
          first | refine e_iincN_3 (n := 1) (p' := 30) D_Grid_toldInRow_27 (Nat.le_of_ble_eq_true rfl) rfl rfl ?_ | refine e_iinc_3 (p' := 30) D_Grid_toldInRow_27 (Nat.le_of_ble_eq_true rfl) rfl rfl rfl ?_
          refine e_goto (p' := 4) D_Grid_toldInRow_30 rfl ?_
          refine sEv.castW (ih4) ?_ ?_ ?_
          · first | exact lvW_rfl _ | (rw [mk_skip (by simp [td, hc18])]; exact lvW_rfl _)
          · rfl
          · first | rfl | (simp; done)
        ·
          refine e_iload_2 (p' := 22) D_Grid_toldInRow_21 rfl ?_
          refine e_iconst (v := nI 1) (p' := 23) D_Grid_toldInRow_22 cst_iconst_1 rfl ?_
          refine e_iload_3 (p' := 24) D_Grid_toldInRow_23 rfl ?_
          refine e_ishl (p' := 25) D_Grid_toldInRow_24 rfl ?_
          refine e_ior (p' := 26) D_Grid_toldInRow_25 rfl ?_
          rw [mk_or (p := td x r) (by omega) (decide_eq_true (Nat.pos_of_ne_zero hc18))]
          refine e_istore_2 (p' := 27) D_Grid_toldInRow_26 (Nat.le_of_ble_eq_true rfl) rfl rfl ?_
          first | refine e_iincN_3 (n := 1) (p' := 30) D_Grid_toldInRow_27 (Nat.le_of_ble_eq_true rfl) rfl rfl ?_ | refine e_iinc_3 (p' := 30) D_Grid_toldInRow_27 (Nat.le_of_ble_eq_true rfl) rfl rfl rfl ?_
          refine e_goto (p' := 4) D_Grid_toldInRow_30 rfl ?_
          refine sEv.castW (ih4) ?_ ?_ ?_
          · first | exact lvW_rfl _ | (rw [mk_skip (by simp [td, hc18])]; exact lvW_rfl _)
          · rfl
          · first | rfl | (simp; done)
  refine sEv.castW (lk4 0 (by omega) ) ?_ ?_ ?_
  · first | exact lvW_rfl _ | (rw [mk_skip (by simp [td, hc18])]; exact lvW_rfl _)
  · rfl
  · first | rfl | (simp; done)
set_option maxRecDepth 4000 in
theorem c_Grid_toldCount {l : Launch} {h : sH} {g : Nat} {x : Gd} (hG : GridAt h g x) (hx : Gok x) : sX l m_Grid_toldCount 3 [.ref g] h (some (.int (nI (told x)))) (h) := by
  have hG0 := hG
  obtain ⟨g0, g1, g2⟩ := hG
  have hR := hx.1
  have hC := hx.2.1
  have hM := hx.2.2.1.le
  refine en_Grid_toldCount ?_
  refine e_iconst (v := nI 0) (p' := 1) D_Grid_toldCount_0 cst_iconst_0 rfl ?_
  refine e_istore_1 (p' := 2) D_Grid_toldCount_1 (Nat.le_of_ble_eq_true rfl) rfl rfl ?_
  refine e_iconst (v := nI 0) (p' := 3) D_Grid_toldCount_2 cst_iconst_0 rfl ?_
  refine e_istore_2 (p' := 4) D_Grid_toldCount_3 (Nat.le_of_ble_eq_true rfl) rfl rfl ?_
  have lk4 : ∀ i : Nat, i ≤ x.1.1 → sEv l m_Grid_toldCount 3 (0, 0, 0, 0) (sKm 0 0 (fun r1 h1 => r1 = some (.int (nI (told x))) ∧ h1 = h)) 4 [some (.ref g), some (.int (nI (sm i (fun r => ct 6 (td x r))))), some (.int (nI i))] [] (h) := by
    refine lp_up _ ?_ ?_
    · skip
      refine e_iload_2 (p' := 5) D_Grid_toldCount_4 rfl ?_
      refine e_aload_0 (p' := 6) D_Grid_toldCount_5 rfl ?_
      refine e_getfield (p' := 9) D_Grid_toldCount_6 F_Grid_20 (by first | assumption | exact sUp_eq | (rw [sUp_ne (by omega)]; assumption) | (rw [sUp_ne (by omega), sUp_ne (by omega)]; assumption) | (rw [sUp_ne (by omega)]; exact sUp_eq) | (simp [sUp]; done)) (by rfl) rfl ?_
      first | refine e_icmpN_ge (q := 29) (p' := 12) D_Grid_toldCount_9 (by omega) (by omega) rfl rfl (fun hc9 => ?_) (fun hc9 => ?_) | refine e_icmp_ge (q := 29) (p' := 12) D_Grid_toldCount_9 rfl rfl (fun hc9 => ?_) (fun hc9 => ?_)
      ·
        refine e_iload_1 (p' := 30) D_Grid_toldCount_29 rfl ?_
        refine e_ireturn (ty := .int) D_Grid_toldCount_30 rfl (by first | rfl | exact sBo_nar _) ⟨by decide, by decide⟩ ?_
        rw [told_rows hx]; exact ⟨rfl, rfl⟩
      ·
        exfalso; omega
    · intro i hi ih4 
      refine e_iload_2 (p' := 5) D_Grid_toldCount_4 rfl ?_
      refine e_aload_0 (p' := 6) D_Grid_toldCount_5 rfl ?_
      refine e_getfield (p' := 9) D_Grid_toldCount_6 F_Grid_20 (by first | assumption | exact sUp_eq | (rw [sUp_ne (by omega)]; assumption) | (rw [sUp_ne (by omega), sUp_ne (by omega)]; assumption) | (rw [sUp_ne (by omega)]; exact sUp_eq) | (simp [sUp]; done)) (by rfl) rfl ?_
      first | refine e_icmpN_ge (q := 29) (p' := 12) D_Grid_toldCount_9 (by omega) (by omega) rfl rfl (fun hc9 => ?_) (fun hc9 => ?_) | refine e_icmp_ge (q := 29) (p' := 12) D_Grid_toldCount_9 rfl rfl (fun hc9 => ?_) (fun hc9 => ?_)
      ·
        exfalso; omega
      ·
        refine e_iload_1 (p' := 13) D_Grid_toldCount_12 rfl ?_
        refine e_aload_0 (p' := 14) D_Grid_toldCount_13 rfl ?_
        refine e_iload_2 (p' := 15) D_Grid_toldCount_14 rfl ?_
        refine x_callV1 (p' := 18) D_Grid_toldCount_15 V_Grid_53 (c_Grid_toldInRow hG0 hx (by omega)) rfl (by first | assumption | exact sUp_eq | (rw [sUp_ne (by omega)]; assumption) | (rw [sUp_ne (by omega), sUp_ne (by omega)]; assumption) | (rw [sUp_ne (by omega)]; exact sUp_eq) | (simp [sUp]; done)) rfl (Nat.le_of_ble_eq_true rfl) (by decide) ⟨by decide, by decide⟩ rfl ?_
        refine x_callS1 (p' := 21) D_Grid_toldCount_18 S_Grid_56 (c_Int_bitCount gMask_lt) rfl rfl (Nat.le_of_ble_eq_true rfl) (by decide) ⟨by decide, by decide⟩ rfl ?_
        rw [show pc6 (gMask x i) = ct 6 (td x i) from pc6_mk]
        first | refine e_iaddN (p' := 22) D_Grid_toldCount_21 rfl ?_ | refine e_iadd (p' := 22) D_Grid_toldCount_21 rfl ?_
        refine e_istore_1 (p' := 23) D_Grid_toldCount_22 (Nat.le_of_ble_eq_true rfl) rfl rfl ?_
        first | refine e_iincN_2 (n := 1) (p' := 26) D_Grid_toldCount_23 (Nat.le_of_ble_eq_true rfl) rfl rfl ?_ | refine e_iinc_2 (p' := 26) D_Grid_toldCount_23 (Nat.le_of_ble_eq_true rfl) rfl rfl rfl ?_
        refine e_goto (p' := 4) D_Grid_toldCount_26 rfl ?_
        refine sEv.castW (ih4) ?_ ?_ ?_
        · first | exact lvW_rfl _ | (simp [lvW]; done) | (simp [lvW, *]; done) | (simp [lvW]; omega)
        · rfl
        · first | rfl | (simp; done)
  refine sEv.castW (lk4 0 (by omega) ) ?_ ?_ ?_
  · first | exact lvW_rfl _ | (simp [lvW]; done) | (simp [lvW, *]; done) | (simp [lvW]; omega)
  · rfl
  · first | rfl | (simp; done)
set_option maxRecDepth 4000 in
theorem c_Grid_product {l : Launch} {h : sH} {g : Nat} {x : Gd} (hG : GridAt h g x) (hx : Gok x) {a b : Nat} (ha : a ≤ 200) (hb : b ≤ 200) : sX l m_Grid_product 0 [.ref g, .int (nI a), .int (nI b)] h (some (.int (nI (a * b % x.1.2.2)))) (h) := by
  have hG0 := hG
  obtain ⟨g0, g1, g2⟩ := hG
  have hR := hx.1
  have hC := hx.2.1
  have hM := hx.2.2.1.le
  have hab : a * b ≤ 200 * 200 := Nat.mul_le_mul ha hb
  refine en_Grid_product ?_
  refine e_aload_0 (p' := 1) D_Grid_product_0 rfl ?_
  refine e_getfield (p' := 4) D_Grid_product_1 F_Grid_27 (by first | assumption | exact sUp_eq | (rw [sUp_ne (by omega)]; assumption) | (rw [sUp_ne (by omega), sUp_ne (by omega)]; assumption) | (rw [sUp_ne (by omega)]; exact sUp_eq) | (simp [sUp]; done)) (by rfl) rfl ?_
  refine e_ifN_le (q := 18) (p' := 7) D_Grid_product_4 (by omega) rfl rfl (fun hc4 => ?_) (fun hc4 => ?_)
  ·
    exfalso; omega
  ·
    refine e_iload_1 (p' := 8) D_Grid_product_7 rfl ?_
    refine e_iload_2 (p' := 9) D_Grid_product_8 rfl ?_
    first | refine e_imulN (p' := 10) D_Grid_product_9 rfl ?_ | refine e_imul (p' := 10) D_Grid_product_9 rfl ?_
    refine e_aload_0 (p' := 11) D_Grid_product_10 rfl ?_
    refine e_getfield (p' := 14) D_Grid_product_11 F_Grid_27 (by first | assumption | exact sUp_eq | (rw [sUp_ne (by omega)]; assumption) | (rw [sUp_ne (by omega), sUp_ne (by omega)]; assumption) | (rw [sUp_ne (by omega)]; exact sUp_eq) | (simp [sUp]; done)) (by rfl) rfl ?_
    first | refine e_iremN (p' := 15) D_Grid_product_14 (by omega) (by omega) (by omega) rfl ?_ | refine e_irem (p' := 15) D_Grid_product_14 (by assumption) rfl ?_
    refine e_goto (p' := 19) D_Grid_product_15 rfl ?_
    refine e_ireturn (ty := .int) D_Grid_product_19 rfl (by first | rfl | exact sBo_nar _) ⟨by decide, by decide⟩ ?_
    exact ⟨by first | rfl | (simp; done) | (simp [*]; done), by first | rfl | (simp; done)⟩
set_option maxRecDepth 4000 in
theorem c_Grid_remainder {l : Launch} {h : sH} {g : Nat} {x : Gd} (hG : GridAt h g x) (hx : Gok x) {a : Nat} (ha : a < 2 ^ 31) : sX l m_Grid_remainder 0 [.ref g, .int (nI a)] h (some (.int (nI (a % x.1.2.2)))) (h) := by
  have hG0 := hG
  obtain ⟨g0, g1, g2⟩ := hG
  have hR := hx.1
  have hC := hx.2.1
  have hM := hx.2.2.1.le
  refine en_Grid_remainder ?_
  refine e_aload_0 (p' := 1) D_Grid_remainder_0 rfl ?_
  refine e_getfield (p' := 4) D_Grid_remainder_1 F_Grid_27 (by first | assumption | exact sUp_eq | (rw [sUp_ne (by omega)]; assumption) | (rw [sUp_ne (by omega), sUp_ne (by omega)]; assumption) | (rw [sUp_ne (by omega)]; exact sUp_eq) | (simp [sUp]; done)) (by rfl) rfl ?_
  refine e_ifN_le (q := 16) (p' := 7) D_Grid_remainder_4 (by omega) rfl rfl (fun hc4 => ?_) (fun hc4 => ?_)
  ·
    exfalso; omega
  ·
    refine e_iload_1 (p' := 8) D_Grid_remainder_7 rfl ?_
    refine e_aload_0 (p' := 9) D_Grid_remainder_8 rfl ?_
    refine e_getfield (p' := 12) D_Grid_remainder_9 F_Grid_27 (by first | assumption | exact sUp_eq | (rw [sUp_ne (by omega)]; assumption) | (rw [sUp_ne (by omega), sUp_ne (by omega)]; assumption) | (rw [sUp_ne (by omega)]; exact sUp_eq) | (simp [sUp]; done)) (by rfl) rfl ?_
    first | refine e_iremN (p' := 13) D_Grid_remainder_12 (by omega) (by omega) (by omega) rfl ?_ | refine e_irem (p' := 13) D_Grid_remainder_12 (by assumption) rfl ?_
    refine e_goto (p' := 17) D_Grid_remainder_13 rfl ?_
    refine e_ireturn (ty := .int) D_Grid_remainder_17 rfl (by first | rfl | exact sBo_nar _) ⟨by decide, by decide⟩ ?_
    exact ⟨by first | rfl | (simp; done) | (simp [*]; done), by first | rfl | (simp; done)⟩
set_option maxRecDepth 4000 in
theorem c_Grid_quotient {l : Launch} {h : sH} {g : Nat} {x : Gd} (hG : GridAt h g x) (hx : Gok x) {a b : Nat} (ha : a ≤ 200) (hb : b ≤ 200) : sX l m_Grid_quotient 1 [.ref g, .int (nI a), .int (nI b)] h (some (.int (nI (qt x.1.2.2 a b)))) (h) := by
  have hG0 := hG
  obtain ⟨g0, g1, g2⟩ := hG
  have hR := hx.1
  have hC := hx.2.1
  have hM := hx.2.2.1.le
  refine en_Grid_quotient ?_
  refine e_iconst (v := nI 0) (p' := 1) D_Grid_quotient_0 cst_iconst_0 rfl ?_
  refine e_istore_3 (p' := 2) D_Grid_quotient_1 (Nat.le_of_ble_eq_true rfl) rfl rfl ?_
  have lk2 : ∀ k : Nat, k ≤ x.1.2.2 → qtF x.1.2.2 a b (x.1.2.2 - k) k = qt x.1.2.2 a b → sEv l m_Grid_quotient 1 (0, 0, 0, 0) (sKm 0 0 (fun r1 h1 => r1 = some (.int (nI (qt x.1.2.2 a b))) ∧ h1 = h)) 2 [some (.ref g), some (.int (nI a)), some (.int (nI b)), some (.int (nI k))] [] (h) := by
    refine lp_up _ ?_ ?_
    · intro hq
      refine e_iload_3 (p' := 3) D_Grid_quotient_2 rfl ?_
      refine e_aload_0 (p' := 4) D_Grid_quotient_3 rfl ?_
      refine e_getfield (p' := 7) D_Grid_quotient_4 F_Grid_27 (by first | assumption | exact sUp_eq | (rw [sUp_ne (by omega)]; assumption) | (rw [sUp_ne (by omega), sUp_ne (by omega)]; assumption) | (rw [sUp_ne (by omega)]; exact sUp_eq) | (simp [sUp]; done)) (by rfl) rfl ?_
      first | refine e_icmpN_ge (q := 28) (p' := 10) D_Grid_quotient_7 (by omega) (by omega) rfl rfl (fun hc7 => ?_) (fun hc7 => ?_) | refine e_icmp_ge (q := 28) (p' := 10) D_Grid_quotient_7 rfl rfl (fun hc7 => ?_) (fun hc7 => ?_)
      ·
        refine e_iconst (v := nI 0) (p' := 29) D_Grid_quotient_28 cst_iconst_0 rfl ?_
        refine e_ireturn (ty := .int) D_Grid_quotient_29 rfl (by first | rfl | exact sBo_nar _) ⟨by decide, by decide⟩ ?_
        rw [Nat.sub_self] at hq
        unfold qtF at hq
        rw [← hq]; exact ⟨rfl, rfl⟩
      ·
        exfalso; omega
    · intro k hk ih2 hq
      refine e_iload_3 (p' := 3) D_Grid_quotient_2 rfl ?_
      refine e_aload_0 (p' := 4) D_Grid_quotient_3 rfl ?_
      refine e_getfield (p' := 7) D_Grid_quotient_4 F_Grid_27 (by first | assumption | exact sUp_eq | (rw [sUp_ne (by omega)]; assumption) | (rw [sUp_ne (by omega), sUp_ne (by omega)]; assumption) | (rw [sUp_ne (by omega)]; exact sUp_eq) | (simp [sUp]; done)) (by rfl) rfl ?_
      first | refine e_icmpN_ge (q := 28) (p' := 10) D_Grid_quotient_7 (by omega) (by omega) rfl rfl (fun hc7 => ?_) (fun hc7 => ?_) | refine e_icmp_ge (q := 28) (p' := 10) D_Grid_quotient_7 rfl rfl (fun hc7 => ?_) (fun hc7 => ?_)
      ·
        exfalso; omega
      ·
        refine e_aload_0 (p' := 11) D_Grid_quotient_10 rfl ?_
        refine e_iload_3 (p' := 12) D_Grid_quotient_11 rfl ?_
        refine e_iload_2 (p' := 13) D_Grid_quotient_12 rfl ?_
        have hmm := Nat.mod_lt (k * b) (y := x.1.2.2) (by omega)
        refine x_callV1 (p' := 16) D_Grid_quotient_13 V_Grid_61 (c_Grid_product hG0 hx (by omega) hb) rfl (by first | assumption | exact sUp_eq | (rw [sUp_ne (by omega)]; assumption) | (rw [sUp_ne (by omega), sUp_ne (by omega)]; assumption) | (rw [sUp_ne (by omega)]; exact sUp_eq) | (simp [sUp]; done)) rfl (Nat.le_of_ble_eq_true rfl) (by decide) ⟨by decide, by decide⟩ rfl ?_
        refine e_iload_1 (p' := 17) D_Grid_quotient_16 rfl ?_
        first | refine e_icmpN_ne (q := 22) (p' := 20) D_Grid_quotient_17 (by omega) (by omega) rfl rfl (fun hc17 => ?_) (fun hc17 => ?_) | refine e_icmp_ne (q := 22) (p' := 20) D_Grid_quotient_17 rfl rfl (fun hc17 => ?_) (fun hc17 => ?_)
        ·
          first | refine e_iincN_3 (n := 1) (p' := 25) D_Grid_quotient_22 (Nat.le_of_ble_eq_true rfl) rfl rfl ?_ | refine e_iinc_3 (p' := 25) D_Grid_quotient_22 (Nat.le_of_ble_eq_true rfl) rfl rfl rfl ?_
          refine e_goto (p' := 2) D_Grid_quotient_25 rfl ?_
          rw [show x.1.2.2 - k = (x.1.2.2 - (k + 1)) + 1 by omega] at hq
          unfold qtF at hq
          rw [if_neg hc17] at hq
          refine sEv.castW (ih2 hq) ?_ ?_ ?_
          · first | exact lvW_rfl _ | (simp [lvW]; done) | (simp [lvW, *]; done) | (simp [lvW]; omega)
          · rfl
          · first | rfl | (simp; done)
        ·
          refine e_iload_3 (p' := 21) D_Grid_quotient_20 rfl ?_
          refine e_ireturn (ty := .int) D_Grid_quotient_21 rfl (by first | rfl | exact sBo_nar _) ⟨by decide, by decide⟩ ?_
          rw [show x.1.2.2 - k = (x.1.2.2 - (k + 1)) + 1 by omega] at hq
          unfold qtF at hq
          rw [if_pos (by omega)] at hq
          rw [← hq]; exact ⟨rfl, rfl⟩
  refine sEv.castW (lk2 0 (by omega) rfl) ?_ ?_ ?_
  · first | exact lvW_rfl _ | (simp [lvW]; done) | (simp [lvW, *]; done) | (simp [lvW]; omega)
  · rfl
  · first | rfl | (simp; done)
set_option maxRecDepth 4000 in
theorem c_Grid_clear {l : Launch} {h : sH} {g : Nat} {x : Gd} (hG : GridAt h g x) (hx : Gok x) {r c m : Nat} : sX l m_Grid_clear 1 [.ref g, .int (nI r), .int (nI c), .int (nI m)] h (none) (gSet h g ((r, c, m), fun _ => 0)) := by
  have hG0 := hG
  obtain ⟨g0, g1, g2⟩ := hG
  have hR := hx.1
  have hC := hx.2.1
  have hM := hx.2.2.1.le
  refine en_Grid_clear ?_
  refine e_aload_0 (p' := 1) D_Grid_clear_0 rfl ?_
  refine e_iload_1 (p' := 2) D_Grid_clear_1 rfl ?_
  refine e_putfield (p' := 5) D_Grid_clear_2 F_Grid_20 (Or.inl rfl) (by first | assumption | exact sUp_eq | (rw [sUp_ne (by omega)]; assumption) | (rw [sUp_ne (by omega), sUp_ne (by omega)]; assumption) | (rw [sUp_ne (by omega)]; exact sUp_eq) | (simp [sUp]; done)) (fun _ => ⟨rfl, rfl⟩) (Nat.le_of_ble_eq_true rfl) (by rfl) rfl ?_
  try dsimp only [List.set]
  refine e_aload_0 (p' := 6) D_Grid_clear_5 rfl ?_
  refine e_iload_2 (p' := 7) D_Grid_clear_6 rfl ?_
  refine e_putfield (p' := 10) D_Grid_clear_7 F_Grid_24 (Or.inl rfl) (by first | assumption | exact sUp_eq | (rw [sUp_ne (by omega)]; assumption) | (rw [sUp_ne (by omega), sUp_ne (by omega)]; assumption) | (rw [sUp_ne (by omega)]; exact sUp_eq) | (simp [sUp]; done)) (fun _ => ⟨rfl, rfl⟩) (Nat.le_of_ble_eq_true rfl) (by rfl) rfl ?_
  try dsimp only [List.set]
  rw [sUp_sUp]
  refine e_aload_0 (p' := 11) D_Grid_clear_10 rfl ?_
  refine e_iload_3 (p' := 12) D_Grid_clear_11 rfl ?_
  refine e_putfield (p' := 15) D_Grid_clear_12 F_Grid_27 (Or.inl rfl) (by first | assumption | exact sUp_eq | (rw [sUp_ne (by omega)]; assumption) | (rw [sUp_ne (by omega), sUp_ne (by omega)]; assumption) | (rw [sUp_ne (by omega)]; exact sUp_eq) | (simp [sUp]; done)) (fun _ => ⟨rfl, rfl⟩) (Nat.le_of_ble_eq_true rfl) (by rfl) rfl ?_
  try dsimp only [List.set]
  rw [sUp_sUp]
  refine e_aload_0 (p' := 16) D_Grid_clear_15 rfl ?_
  refine e_getfield (p' := 19) D_Grid_clear_16 F_Grid_14 (by first | assumption | exact sUp_eq | (rw [sUp_ne (by omega)]; assumption) | (rw [sUp_ne (by omega), sUp_ne (by omega)]; assumption) | (rw [sUp_ne (by omega)]; exact sUp_eq) | (simp [sUp]; done)) (by rfl) rfl ?_
  refine e_iconst (v := nI 0) (p' := 20) D_Grid_clear_19 cst_iconst_0 rfl ?_
  refine x_callV0 (p' := 23) D_Grid_clear_20 V_Grid_30 (c_Num_setEach (by first | assumption | exact sUp_eq | (rw [sUp_ne (by omega)]; assumption) | (rw [sUp_ne (by omega), sUp_ne (by omega)]; assumption) | (rw [sUp_ne (by omega)]; exact sUp_eq) | (simp [sUp]; done)) (by first | assumption | exact sUp_eq | (rw [sUp_ne (by omega)]; assumption) | (rw [sUp_ne (by omega), sUp_ne (by omega)]; assumption) | (rw [sUp_ne (by omega)]; exact sUp_eq) | (simp [sUp]; done)) (by omega)) rfl (by first | assumption | exact sUp_eq | (rw [sUp_ne (by omega)]; assumption) | (rw [sUp_ne (by omega), sUp_ne (by omega)]; assumption) | (rw [sUp_ne (by omega)]; exact sUp_eq) | (simp [sUp]; done)) rfl (Nat.le_of_ble_eq_true rfl) (by decide) ⟨by decide, by decide⟩ rfl ?_
  refine e_return D_Grid_clear_23 rfl ⟨by decide, by decide⟩ ?_
  refine ⟨rfl, ?_⟩
  unfold gSet
  refine sUp_arr fun k => ?_
  by_cases e : k < 36
  · simp [e, nF]
  · simp [e, nF, hx.zero (Nat.not_lt.mp e)]
set_option maxRecDepth 4000 in
theorem c_Grid_copyFrom {l : Launch} {h : sH} {g : Nat} {x : Gd} (hG : GridAt h g x) (hx : Gok x) {g' : Nat} {y : Gd} (hG2 : GridAt h g' y) (hy : Gok y) (hgg : g + 3 ≤ g' ∨ g' + 3 ≤ g) : sX l m_Grid_copyFrom 2 [.ref g, .ref g'] h (none) (gSet h g y) := by
  have hG0 := hG
  obtain ⟨g0, g1, g2⟩ := hG
  have hR := hx.1
  have hC := hx.2.1
  have hM := hx.2.2.1.le
  obtain ⟨y0, y1, y2⟩ := hG2
  refine en_Grid_copyFrom ?_
  refine e_aload_0 (p' := 1) D_Grid_copyFrom_0 rfl ?_
  refine e_aload_1 (p' := 2) D_Grid_copyFrom_1 rfl ?_
  refine e_getfield (p' := 5) D_Grid_copyFrom_2 F_Grid_20 (by first | assumption | exact sUp_eq | (rw [sUp_ne (by omega)]; assumption) | (rw [sUp_ne (by omega), sUp_ne (by omega)]; assumption) | (rw [sUp_ne (by omega)]; exact sUp_eq) | (simp [sUp]; done)) (by rfl) rfl ?_
  refine e_putfield (p' := 8) D_Grid_copyFrom_5 F_Grid_20 (Or.inl rfl) (by first | assumption | exact sUp_eq | (rw [sUp_ne (by omega)]; assumption) | (rw [sUp_ne (by omega), sUp_ne (by omega)]; assumption) | (rw [sUp_ne (by omega)]; exact sUp_eq) | (simp [sUp]; done)) (fun _ => ⟨rfl, rfl⟩) (Nat.le_of_ble_eq_true rfl) (by rfl) rfl ?_
  try dsimp only [List.set]
  refine e_aload_0 (p' := 9) D_Grid_copyFrom_8 rfl ?_
  refine e_aload_1 (p' := 10) D_Grid_copyFrom_9 rfl ?_
  refine e_getfield (p' := 13) D_Grid_copyFrom_10 F_Grid_24 (by first | assumption | exact sUp_eq | (rw [sUp_ne (by omega)]; assumption) | (rw [sUp_ne (by omega), sUp_ne (by omega)]; assumption) | (rw [sUp_ne (by omega)]; exact sUp_eq) | (simp [sUp]; done)) (by rfl) rfl ?_
  refine e_putfield (p' := 16) D_Grid_copyFrom_13 F_Grid_24 (Or.inl rfl) (by first | assumption | exact sUp_eq | (rw [sUp_ne (by omega)]; assumption) | (rw [sUp_ne (by omega), sUp_ne (by omega)]; assumption) | (rw [sUp_ne (by omega)]; exact sUp_eq) | (simp [sUp]; done)) (fun _ => ⟨rfl, rfl⟩) (Nat.le_of_ble_eq_true rfl) (by rfl) rfl ?_
  try dsimp only [List.set]
  rw [sUp_sUp]
  refine e_aload_0 (p' := 17) D_Grid_copyFrom_16 rfl ?_
  refine e_aload_1 (p' := 18) D_Grid_copyFrom_17 rfl ?_
  refine e_getfield (p' := 21) D_Grid_copyFrom_18 F_Grid_27 (by first | assumption | exact sUp_eq | (rw [sUp_ne (by omega)]; assumption) | (rw [sUp_ne (by omega), sUp_ne (by omega)]; assumption) | (rw [sUp_ne (by omega)]; exact sUp_eq) | (simp [sUp]; done)) (by rfl) rfl ?_
  refine e_putfield (p' := 24) D_Grid_copyFrom_21 F_Grid_27 (Or.inl rfl) (by first | assumption | exact sUp_eq | (rw [sUp_ne (by omega)]; assumption) | (rw [sUp_ne (by omega), sUp_ne (by omega)]; assumption) | (rw [sUp_ne (by omega)]; exact sUp_eq) | (simp [sUp]; done)) (fun _ => ⟨rfl, rfl⟩) (Nat.le_of_ble_eq_true rfl) (by rfl) rfl ?_
  try dsimp only [List.set]
  rw [sUp_sUp]
  refine e_aload_0 (p' := 25) D_Grid_copyFrom_24 rfl ?_
  refine e_getfield (p' := 28) D_Grid_copyFrom_25 F_Grid_14 (by first | assumption | exact sUp_eq | (rw [sUp_ne (by omega)]; assumption) | (rw [sUp_ne (by omega), sUp_ne (by omega)]; assumption) | (rw [sUp_ne (by omega)]; exact sUp_eq) | (simp [sUp]; done)) (by rfl) rfl ?_
  refine e_aload_1 (p' := 29) D_Grid_copyFrom_28 rfl ?_
  refine e_getfield (p' := 32) D_Grid_copyFrom_29 F_Grid_14 (by first | assumption | exact sUp_eq | (rw [sUp_ne (by omega)]; assumption) | (rw [sUp_ne (by omega), sUp_ne (by omega)]; assumption) | (rw [sUp_ne (by omega)]; exact sUp_eq) | (simp [sUp]; done)) (by rfl) rfl ?_
  refine x_callV0 (p' := 35) D_Grid_copyFrom_32 V_Grid_33 (c_Num_copyFrom (by first | assumption | exact sUp_eq | (rw [sUp_ne (by omega)]; assumption) | (rw [sUp_ne (by omega), sUp_ne (by omega)]; assumption) | (rw [sUp_ne (by omega)]; exact sUp_eq) | (simp [sUp]; done)) (by first | assumption | exact sUp_eq | (rw [sUp_ne (by omega)]; assumption) | (rw [sUp_ne (by omega), sUp_ne (by omega)]; assumption) | (rw [sUp_ne (by omega)]; exact sUp_eq) | (simp [sUp]; done)) (by first | assumption | exact sUp_eq | (rw [sUp_ne (by omega)]; assumption) | (rw [sUp_ne (by omega), sUp_ne (by omega)]; assumption) | (rw [sUp_ne (by omega)]; exact sUp_eq) | (simp [sUp]; done)) (by first | assumption | exact sUp_eq | (rw [sUp_ne (by omega)]; assumption) | (rw [sUp_ne (by omega), sUp_ne (by omega)]; assumption) | (rw [sUp_ne (by omega)]; exact sUp_eq) | (simp [sUp]; done)) (by omega) (by omega) (by omega)) rfl (by first | assumption | exact sUp_eq | (rw [sUp_ne (by omega)]; assumption) | (rw [sUp_ne (by omega), sUp_ne (by omega)]; assumption) | (rw [sUp_ne (by omega)]; exact sUp_eq) | (simp [sUp]; done)) rfl (Nat.le_of_ble_eq_true rfl) (by decide) ⟨by decide, by decide⟩ rfl ?_
  refine e_return D_Grid_copyFrom_35 rfl ⟨by decide, by decide⟩ ?_
  refine ⟨rfl, ?_⟩
  unfold gSet
  refine sUp_arr fun k => ?_
  by_cases e : k < 36
  · simp [e]
  · simp [e, nF, hx.zero (Nat.not_lt.mp e), hy.zero (Nat.not_lt.mp e)]
