/-! ===== contracts: Parts, the search ===== -/
theorem rdC_skip {x : Gd} {r c : Nat} {a : Ps × Bool} (h : td x r c = false) : rdC x r (c + 1) a = rdC x r c a := by
  have h2 : psCh x r c (rdC x r c a).1 = false := by unfold psCh; rw [h]; rfl
  show (psStep x r c (rdC x r c a).1, (rdC x r c a).2 || psCh x r c (rdC x r c a).1) = _
  rw [psStep_no h2, h2, Bool.or_false]
theorem rdC_flag {x : Gd} {r c : Nat} {a : Ps × Bool} : (rdC x r (c + 1) a).2 = ((rdC x r c a).2 || psCh x r c (rdC x r c a).1) := rfl
theorem rdR_succ {x : Gd} {r : Nat} {a : Ps × Bool} : rdR x (r + 1) a = rdC x r x.1.2.1 (rdR x r a) := rfl
theorem td_false {x : Gd} {r c : Nat} (h : at' x r c = 0) : td x r c = false := by unfold td; rw [h]; rfl
theorem td_true {x : Gd} {r c : Nat} (h : ¬ at' x r c = 0) : td x r c = true := decide_eq_true (Nat.pos_of_ne_zero h)
theorem spr_fix {x : Gd} {k : Nat} {s : Ps} (h : (rnd x (spr x k s)).2 = false) : (rnd x (spr x (k + 1) s)).2 = false := by
  show (rnd x (rnd x (spr x k s)).1).2 = false
  rw [show (rnd x (spr x k s)).1 = spr x k s from (rdR_no h).2.1]; exact h
theorem PtAt.c7 {h : sH} {s : Ps} {sz : Nat} {con : Bool} (hP : PtAt h s sz con) : h.2 7 = oC 5 [.ref 8, .ref 10, .ref 12, .ref 14, .int (nI sz), .int (sBo con)] := by
  obtain ⟨_, _, _, _, C, -⟩ := hP
  exact C.1
/-- all rows and columns are known -/
def Kn (x : Gd) (s : Ps) : Prop := (∀ k, k < x.1.1 → s.1.1 k ≠ 0) ∧ ∀ k, k < x.1.2.1 → s.1.2 k ≠ 0
set_option maxRecDepth 4000 in
theorem c_Parts_spread {l : Launch} {h : sH} {g : Nat} {x : Gd} (hG : GridAt h g x) (hx : Gok x) (hg : g + 2 < 7 ∨ 16 ≤ g) {s : Ps} {sz : Nat} {con : Bool} (hP : PtAt h s sz con) {p : Nat} (hp : p ≠ 0) (hp2 : p < 100) (hi0 : Iv x p s) : sY l m_Parts_spread 3 [.ref 7, .ref g] h (none) (fun h1 => PtAt h1 (spread x s) sz con ∧ Fr h h1) := by
  have hR := hx.1
  have hC := hx.2.1
  refine en_Parts_spread ?_
  refine e_iconst (v := nI 1) (p' := 1) D_Parts_spread_0 cst_iconst_1 rfl ?_
  refine e_istore_2 (p' := 2) D_Parts_spread_1 (Nat.le_of_ble_eq_true rfl) rfl rfl ?_
  refine e_iconst (v := nI 0) (p' := 3) D_Parts_spread_2 cst_iconst_0 rfl ?_
  refine e_istore_3 (p' := 4) D_Parts_spread_3 (Nat.le_of_ble_eq_true rfl) rfl rfl ?_
  have lk4 : ∀ k : Nat, k ≤ 13 → ∀ (h1 : sH) (gb : Bool), (PtAt h1 (spr x k s) sz con ∧ Fr h h1 ∧ (gb = false → (rnd x (spr x k s)).2 = false)) → sEv l m_Parts_spread 3 (0, 0, 0, 0) (sKm 0 0 (fun r1 h1 => r1 = none ∧ (fun h1 => PtAt h1 (spread x s) sz con ∧ Fr h h1) h1)) 4 [some (.ref 7), some (.ref g), some (.int (sBo gb)), some (.int (nI k)), none, none] [] (h1) := by
    refine lp_up _ ?_ ?_
    · intro h1 gb hI
      obtain ⟨hP1, hF1, hgb⟩ := hI
      have hG1 := hG.fr hF1 hg
      have hi1 := (spr_iv hx hp hi0 13).1
      obtain ⟨q0, q1, q2⟩ := hG1
      have hG1 := hG.fr hF1 hg
      have q7 := hP1.c7
      refine e_iload_3 (p' := 5) D_Parts_spread_4 rfl ?_
      refine e_bipush (v := nI 12) (p' := 7) D_Parts_spread_5 cst_bipush_12 rfl ?_
      first | refine e_icmpN_gt (q := 83) (p' := 10) D_Parts_spread_7 (by omega) (by omega) rfl rfl (fun hc7 => ?_) (fun hc7 => ?_) | refine e_icmp_gt (q := 83) (p' := 10) D_Parts_spread_7 rfl rfl (fun hc7 => ?_) (fun hc7 => ?_)
      ·
        refine e_return D_Parts_spread_83 rfl ⟨by decide, by decide⟩ ?_
        exact ⟨rfl, hP1, hF1⟩
      ·
        exfalso; omega
    · intro k hk ih4 h1 gb hI
      obtain ⟨hP1, hF1, hgb⟩ := hI
      have hG1 := hG.fr hF1 hg
      have hi1 := (spr_iv hx hp hi0 k).1
      obtain ⟨q0, q1, q2⟩ := hG1
      have hG1 := hG.fr hF1 hg
      have q7 := hP1.c7
      refine e_iload_3 (p' := 5) D_Parts_spread_4 rfl ?_
      refine e_bipush (v := nI 12) (p' := 7) D_Parts_spread_5 cst_bipush_12 rfl ?_
      first | refine e_icmpN_gt (q := 83) (p' := 10) D_Parts_spread_7 (by omega) (by omega) rfl rfl (fun hc7 => ?_) (fun hc7 => ?_) | refine e_icmp_gt (q := 83) (p' := 10) D_Parts_spread_7 rfl rfl (fun hc7 => ?_) (fun hc7 => ?_)
      ·
        exfalso; omega
      ·
        refine e_iload_2 (p' := 11) D_Parts_spread_10 rfl ?_
        refine e_ifB_eq (q := 83) (p' := 14) D_Parts_spread_11 rfl rfl (fun hc11 => ?_) (fun hc11 => ?_)
        ·
          refine e_return D_Parts_spread_83 rfl ⟨by decide, by decide⟩ ?_
          refine ⟨rfl, ?_, hF1⟩
          have e := spr_stop (hgb hc11) (13 - k)
          rw [show k + (13 - k) = 13 by omega] at e
          unfold spread
          rw [e]; exact hP1
        ·
          refine e_iconst (v := nI 0) (p' := 15) D_Parts_spread_14 cst_iconst_0 rfl ?_
          refine e_istore_2 (p' := 16) D_Parts_spread_15 (Nat.le_of_ble_eq_true rfl) rfl rfl ?_
          refine e_iconst (v := nI 0) (p' := 17) D_Parts_spread_16 cst_iconst_0 rfl ?_
          refine e_istore_4 (p' := 19) D_Parts_spread_17 (Nat.le_of_ble_eq_true rfl) rfl rfl ?_
          have lk19 : ∀ i : Nat, i ≤ x.1.1 → ∀ (h2 : sH), (PtAt h2 (rdR x i (spr x k s, false)).1 sz con ∧ Fr h h2) → sEv l m_Parts_spread 3 (0, 0, 0, 0) (sKm 0 0 (fun r1 h1 => r1 = none ∧ (fun h1 => PtAt h1 (spread x s) sz con ∧ Fr h h1) h1)) 19 [some (.ref 7), some (.ref g), some (.int (sBo (rdR x i (spr x k s, false)).2)), some (.int (nI k)), some (.int (nI i)), none] [] (h2) := by
            refine lp_up _ ?_ ?_
            · intro h2 hI2
              obtain ⟨hP2, hF2⟩ := hI2
              have hG2 := hG.fr hF2 hg
              obtain ⟨r0, r1, r2⟩ := hG2
              have hG2 := hG.fr hF2 hg
              have hi2 := (rdR_iv hx hp (a := (spr x k s, false)) hi1 (x.1.1) (by omega)).1
              refine e_iload_4 (p' := 21) D_Parts_spread_19 rfl ?_
              refine e_aload_1 (p' := 22) D_Parts_spread_21 rfl ?_
              refine x_callV1 (p' := 25) D_Parts_spread_22 V_Parts_36 (c_Grid_rows hG2) rfl (by first | assumption | exact sUp_eq | (rw [sUp_ne (by omega)]; assumption) | (rw [sUp_ne (by omega), sUp_ne (by omega)]; assumption) | (rw [sUp_ne (by omega)]; exact sUp_eq) | (simp [sUp]; done)) rfl (Nat.le_of_ble_eq_true rfl) (by decide) ⟨by decide, by decide⟩ rfl ?_
              first | refine e_icmpN_ge (q := 77) (p' := 28) D_Parts_spread_25 (by omega) (by omega) rfl rfl (fun hc25 => ?_) (fun hc25 => ?_) | refine e_icmp_ge (q := 77) (p' := 28) D_Parts_spread_25 rfl rfl (fun hc25 => ?_) (fun hc25 => ?_)
              ·
                first | refine e_iincN_3 (n := 1) (p' := 80) D_Parts_spread_77 (Nat.le_of_ble_eq_true rfl) rfl rfl ?_ | refine e_iinc_3 (p' := 80) D_Parts_spread_77 (Nat.le_of_ble_eq_true rfl) rfl rfl rfl ?_
                refine e_goto (p' := 4) D_Parts_spread_80 rfl ?_
                refine sEv.castW (ih4 h2 (rdR x x.1.1 (spr x k s, false)).2 ⟨hP2, hF2, fun z => spr_fix z⟩) ?_ ?_ ?_
                · first | exact lvW_rfl _ | (simp [lvW]; done) | (simp [lvW, *]; done) | (simp [lvW]; omega)
                · rfl
                · first | rfl | (simp; done)
              ·
                exfalso; omega
            · intro i hi ih19 h2 hI2
              obtain ⟨hP2, hF2⟩ := hI2
              have hG2 := hG.fr hF2 hg
              obtain ⟨r0, r1, r2⟩ := hG2
              have hG2 := hG.fr hF2 hg
              have hi2 := (rdR_iv hx hp (a := (spr x k s, false)) hi1 i (by omega)).1
              refine e_iload_4 (p' := 21) D_Parts_spread_19 rfl ?_
              refine e_aload_1 (p' := 22) D_Parts_spread_21 rfl ?_
              refine x_callV1 (p' := 25) D_Parts_spread_22 V_Parts_36 (c_Grid_rows hG2) rfl (by first | assumption | exact sUp_eq | (rw [sUp_ne (by omega)]; assumption) | (rw [sUp_ne (by omega), sUp_ne (by omega)]; assumption) | (rw [sUp_ne (by omega)]; exact sUp_eq) | (simp [sUp]; done)) rfl (Nat.le_of_ble_eq_true rfl) (by decide) ⟨by decide, by decide⟩ rfl ?_
              first | refine e_icmpN_ge (q := 77) (p' := 28) D_Parts_spread_25 (by omega) (by omega) rfl rfl (fun hc25 => ?_) (fun hc25 => ?_) | refine e_icmp_ge (q := 77) (p' := 28) D_Parts_spread_25 rfl rfl (fun hc25 => ?_) (fun hc25 => ?_)
              ·
                exfalso; omega
              ·
                refine e_iconst (v := nI 0) (p' := 29) D_Parts_spread_28 cst_iconst_0 rfl ?_
                refine e_istore_5 (p' := 31) D_Parts_spread_29 (Nat.le_of_ble_eq_true rfl) rfl rfl ?_
                have lk31 : ∀ j : Nat, j ≤ x.1.2.1 → ∀ (h3 : sH), (PtAt h3 (rdC x i j (rdR x i (spr x k s, false))).1 sz con ∧ Fr h h3) → sEv l m_Parts_spread 3 (0, 0, 0, 0) (sKm 0 0 (fun r1 h1 => r1 = none ∧ (fun h1 => PtAt h1 (spread x s) sz con ∧ Fr h h1) h1)) 31 [some (.ref 7), some (.ref g), some (.int (sBo (rdC x i j (rdR x i (spr x k s, false))).2)), some (.int (nI k)), some (.int (nI i)), some (.int (nI j))] [] (h3) := by
                  refine lp_up _ ?_ ?_
                  · intro h3 hI3
                    obtain ⟨hP3, hF3⟩ := hI3
                    have hG3 := hG.fr hF3 hg
                    obtain ⟨s0, s1, s2⟩ := hG3
                    have hG3 := hG.fr hF3 hg
                    have hi3 := (rdC_iv hx hp (r := i) (by omega) (a := rdR x i (spr x k s, false)) hi2 (x.1.2.1) (by omega)).1
                    have s7 := hP3.c7
                    refine e_iload_5 (p' := 33) D_Parts_spread_31 rfl ?_
                    refine e_aload_1 (p' := 34) D_Parts_spread_33 rfl ?_
                    refine x_callV1 (p' := 37) D_Parts_spread_34 V_Parts_54 (c_Grid_columns hG3) rfl (by first | assumption | exact sUp_eq | (rw [sUp_ne (by omega)]; assumption) | (rw [sUp_ne (by omega), sUp_ne (by omega)]; assumption) | (rw [sUp_ne (by omega)]; exact sUp_eq) | (simp [sUp]; done)) rfl (Nat.le_of_ble_eq_true rfl) (by decide) ⟨by decide, by decide⟩ rfl ?_
                    first | refine e_icmpN_ge (q := 71) (p' := 40) D_Parts_spread_37 (by omega) (by omega) rfl rfl (fun hc37 => ?_) (fun hc37 => ?_) | refine e_icmp_ge (q := 71) (p' := 40) D_Parts_spread_37 rfl rfl (fun hc37 => ?_) (fun hc37 => ?_)
                    ·
                      first | refine e_iincN_4 (n := 1) (p' := 74) D_Parts_spread_71 (Nat.le_of_ble_eq_true rfl) rfl rfl ?_ | refine e_iinc_4 (p' := 74) D_Parts_spread_71 (Nat.le_of_ble_eq_true rfl) rfl rfl rfl ?_
                      refine e_goto (p' := 19) D_Parts_spread_74 rfl ?_
                      refine sEv.castW (ih19 h3 ⟨hP3, hF3⟩) ?_ ?_ ?_
                      · rw [rdR_succ]; exact ⟨rfl, rfl, rfl, rfl, rfl, trivial⟩
                      · rfl
                      · first | rfl | (simp; done)
                    ·
                      exfalso; omega
                  · intro j hj ih31 h3 hI3
                    obtain ⟨hP3, hF3⟩ := hI3
                    have hG3 := hG.fr hF3 hg
                    obtain ⟨s0, s1, s2⟩ := hG3
                    have hG3 := hG.fr hF3 hg
                    have hi3 := (rdC_iv hx hp (r := i) (by omega) (a := rdR x i (spr x k s, false)) hi2 j (by omega)).1
                    have s7 := hP3.c7
                    refine e_iload_5 (p' := 33) D_Parts_spread_31 rfl ?_
                    refine e_aload_1 (p' := 34) D_Parts_spread_33 rfl ?_
                    refine x_callV1 (p' := 37) D_Parts_spread_34 V_Parts_54 (c_Grid_columns hG3) rfl (by first | assumption | exact sUp_eq | (rw [sUp_ne (by omega)]; assumption) | (rw [sUp_ne (by omega), sUp_ne (by omega)]; assumption) | (rw [sUp_ne (by omega)]; exact sUp_eq) | (simp [sUp]; done)) rfl (Nat.le_of_ble_eq_true rfl) (by decide) ⟨by decide, by decide⟩ rfl ?_
                    first | refine e_icmpN_ge (q := 71) (p' := 40) D_Parts_spread_37 (by omega) (by omega) rfl rfl (fun hc37 => ?_) (fun hc37 => ?_) | refine e_icmp_ge (q := 71) (p' := 40) D_Parts_spread_37 rfl rfl (fun hc37 => ?_) (fun hc37 => ?_)
                    ·
                      exfalso; omega
                    ·
                      refine e_aload_1 (p' := 41) D_Parts_spread_40 rfl ?_
                      refine e_iload_4 (p' := 43) D_Parts_spread_41 rfl ?_
                      refine e_iload_5 (p' := 45) D_Parts_spread_43 rfl ?_
                      refine x_callV1 (p' := 48) D_Parts_spread_45 V_Parts_65 (c_Grid_number hG3 hx (by omega) (by omega)) rfl (by first | assumption | exact sUp_eq | (rw [sUp_ne (by omega)]; assumption) | (rw [sUp_ne (by omega), sUp_ne (by omega)]; assumption) | (rw [sUp_ne (by omega)]; exact sUp_eq) | (simp [sUp]; done)) rfl (Nat.le_of_ble_eq_true rfl) (by decide) ⟨by decide, by decide⟩ rfl ?_
                      have hs := hx.small i j
                      refine e_ifN_eq (q := 65) (p' := 51) D_Parts_spread_48 (by omega) rfl rfl (fun hc48 => ?_) (fun hc48 => ?_)
                      ·
                        first | refine e_iincN_5 (n := 1) (p' := 68) D_Parts_spread_65 (Nat.le_of_ble_eq_true rfl) rfl rfl ?_ | refine e_iinc_5 (p' := 68) D_Parts_spread_65 (Nat.le_of_ble_eq_true rfl) rfl rfl rfl ?_
                        refine e_goto (p' := 31) D_Parts_spread_68 rfl ?_
                        refine sEv.castW (ih31 h3 (by rw [rdC_skip (td_false hc48)]; exact ⟨hP3, hF3⟩)) ?_ ?_ ?_
                        · rw [rdC_skip (td_false hc48)]; exact lvW_rfl _
                        · rfl
                        · first | rfl | (simp; done)
                      ·
                        refine e_aload_0 (p' := 52) D_Parts_spread_51 rfl ?_
                        refine e_aload_1 (p' := 53) D_Parts_spread_52 rfl ?_
                        refine e_iload_4 (p' := 55) D_Parts_spread_53 rfl ?_
                        refine e_iload_5 (p' := 57) D_Parts_spread_55 rfl ?_
                        refine y_callV1 (p' := 60) D_Parts_spread_57 V_Parts_69 (c_Parts_reachOver hG3 hx hg hP3 (hi3.pv hp2) hi (by omega) (td_true hc48)) rfl (by first | assumption | exact sUp_eq | (rw [sUp_ne (by omega)]; assumption) | (rw [sUp_ne (by omega), sUp_ne (by omega)]; assumption) | (rw [sUp_ne (by omega)]; exact sUp_eq) | (simp [sUp]; done)) rfl (Nat.le_of_ble_eq_true rfl) (by decide) ⟨by decide, by decide⟩ rfl ?_
                        rintro h4 ⟨hP4, hF4⟩
                        refine e_ifB_eq (q := 65) (p' := 63) D_Parts_spread_60 rfl rfl (fun hc60 => ?_) (fun hc60 => ?_)
                        ·
                          first | refine e_iincN_5 (n := 1) (p' := 68) D_Parts_spread_65 (Nat.le_of_ble_eq_true rfl) rfl rfl ?_ | refine e_iinc_5 (p' := 68) D_Parts_spread_65 (Nat.le_of_ble_eq_true rfl) rfl rfl rfl ?_
                          refine e_goto (p' := 31) D_Parts_spread_68 rfl ?_
                          refine sEv.castW (ih31 h4 ⟨hP4, hF3.tr hF4⟩) ?_ ?_ ?_
                          · rw [rdC_flag, hc60, Bool.or_false]; exact lvW_rfl _
                          · rfl
                          · first | rfl | (simp; done)
                        ·
                          refine e_iconst (v := nI 1) (p' := 64) D_Parts_spread_63 cst_iconst_1 rfl ?_
                          refine e_istore_2 (p' := 65) D_Parts_spread_64 (Nat.le_of_ble_eq_true rfl) rfl rfl ?_
                          first | refine e_iincN_5 (n := 1) (p' := 68) D_Parts_spread_65 (Nat.le_of_ble_eq_true rfl) rfl rfl ?_ | refine e_iinc_5 (p' := 68) D_Parts_spread_65 (Nat.le_of_ble_eq_true rfl) rfl rfl rfl ?_
                          refine e_goto (p' := 31) D_Parts_spread_68 rfl ?_
                          refine sEv.castW (ih31 h4 ⟨hP4, hF3.tr hF4⟩) ?_ ?_ ?_
                          · rw [rdC_flag, hc60, Bool.or_true]; exact lvW_rfl _
                          · rfl
                          · first | rfl | (simp; done)
                refine sEv.castW (lk31 0 (by omega) h2 ⟨hP2, hF2⟩) ?_ ?_ ?_
                · first | exact lvW_rfl _ | (simp [lvW]; done) | (simp [lvW, *]; done) | (simp [lvW]; omega)
                · rfl
                · first | rfl | (simp; done)
          refine sEv.castW (lk19 0 (by omega) h1 ⟨hP1, hF1⟩) ?_ ?_ ?_
          · first | exact lvW_rfl _ | (simp [lvW]; done) | (simp [lvW, *]; done) | (simp [lvW]; omega)
          · rfl
          · first | rfl | (simp; done)
  refine sEv.castW (lk4 0 (by omega) h true ⟨hP, Fr.rf, fun z => by cases z⟩) ?_ ?_ ?_
  · first | exact lvW_rfl _ | (simp [lvW]; done) | (simp [lvW, *]; done) | (simp [lvW]; omega)
  · rfl
  · first | rfl | (simp; done)
