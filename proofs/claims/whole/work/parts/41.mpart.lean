/-! ===== the reference: part ===== -/
def tiF (x : Gd) (q r c : Nat) : Nat := if td x r c = true ∧ (lay x).1.1.1 r = q then 1 else 0
theorem tiF_sum {x : Gd} (hx : Gok x) {q : Nat} : sm x.1.1 (fun r => sm x.1.2.1 (fun c => tiF x q r c)) = tIn x q := by
  have h6 := hx.2.1.2
  unfold tIn
  refine sm_congr fun r hr => ?_
  by_cases e : (lay x).1.1.1 r = q
  · rw [if_pos e]
    have e2 : ct 6 (td x r) = sm x.1.2.1 (fun c => if td x r c then 1 else 0) := sm_more (f := fun c => if td x r c then 1 else 0) h6 fun k h1 h2 => by
      show (if td x r k then 1 else 0) = 0
      rw [td_false (hx.out h2 (Or.inr h1))]; rfl
    rw [e2]
    refine sm_congr fun c _ => ?_
    unfold tiF
    by_cases w : td x r c = true
    · rw [if_pos ⟨w, e⟩, if_pos w]
    · rw [if_neg (fun z => w z.1), if_neg w]
  · rw [if_neg e]
    refine sm_zero fun c _ => ?_
    exact if_neg (fun z => e z.2)
theorem isOut_no {k sz : Nat} (h1 : 1 ≤ sz) (h2 : sz ≤ 12) (hk : k < 2 ^ 31) (h : ¬ nI k < nI sz) : isOut (nI k) (nI 0) (nI (sz - 1)) = true := by
  rw [nI_ltI hk (by omega)] at h
  unfold isOut
  rw [decide_eq_true (show nI (sz - 1) < nI k from (nI_ltI (by omega) hk).mpr (by omega)), Bool.or_true]
theorem w2 {w : Int32} (h : (!isOut w (nI 0) (nI 2)) = true) (h0 : ¬ w = 0) (h1 : ¬ w = nI 1) : w = nI 2 := by
  obtain ⟨k, k1, k2, rfl⟩ := in_R (a := 0) (b := 2) (by omega) (by omega) (by simpa using h)
  have : k = 0 ∨ k = 1 ∨ k = 2 := by omega
  rcases this with rfl | rfl | rfl
  · exact absurd rfl h0
  · exact absurd rfl h1
  · rfl
theorem isOut_no2 {p : Int32} {sz : Nat} (h1 : 1 ≤ sz) (h2 : sz ≤ 12) (h0 : ¬ p < 0) (h : ¬ p < nI sz) : isOut p (nI 0) (nI (sz - 1)) = true := by
  obtain ⟨k, k0, rfl⟩ := nI_of h0
  exact isOut_no h1 h2 k0 h
theorem isOut_neg {p b : Int32} (h : p < 0) : isOut p (nI 0) b = true := by
  unfold isOut
  rw [decide_eq_true (show p < nI 0 from h), Bool.true_or]
set_option maxRecDepth 4000 in
theorem c_M_toldIn {l : Launch} {h : sH} {x : Gd} {n t : Nat} {v : mV} (hm : h.2 61 = mO n t v) (hz : h.2 62 = iA 39 (nF (zN x))) (hx : Gok x) (hP : PmAt h (lay x).1) {p : Nat} (hp : p < 50) : sX l m_M_toldIn 1 [.ref 61, .int (nI p)] h (some (.int (nI (tIn x (p + 1))))) (h) := by
  have hM := hx.2.2.1.le
  have hR := hx.1
  have hC := hx.2.1
  obtain ⟨e1, e2, e3, e4, p1, p2, p3, p4, PV⟩ := id hP
  have lp := lay_pv hx
  have lo := lay_ou (x := x)
  refine en_M_toldIn ?_
  refine e_iconst (v := nI 0) (p' := 1) D_M_toldIn_0 cst_iconst_0 rfl ?_
  refine e_istore_2 (p' := 2) D_M_toldIn_1 (Nat.le_of_ble_eq_true rfl) rfl rfl ?_
  refine e_iconst (v := nI 0) (p' := 3) D_M_toldIn_2 cst_iconst_0 rfl ?_
  refine e_istore_3 (p' := 4) D_M_toldIn_3 (Nat.le_of_ble_eq_true rfl) rfl rfl ?_
  have lk4 : ∀ i : Nat, i ≤ x.1.1 → sEv l m_M_toldIn 1 (0, 0, 0, 0) (sKm 0 0 (fun r1 h1 => r1 = some (.int (nI (tIn x (p + 1)))) ∧ h1 = h)) 4 [some (.ref 61), some (.int (nI p)), some (.int (nI (sm i (fun r => sm x.1.2.1 (fun c => tiF x (p + 1) r c))))), some (.int (nI i)), none] [] (h) := by
    refine lp_up _ ?_ ?_
    · skip
      have pb := (lp.2 (x.1.1)).1
      refine e_iload_3 (p' := 5) D_M_toldIn_4 rfl ?_
      refine e_aload_0 (p' := 6) D_M_toldIn_5 rfl ?_
      refine e_getfield (p' := 9) D_M_toldIn_6 F_M_7 (by first | assumption | exact sUp_eq | (rw [sUp_ne (by omega)]; assumption) | (rw [sUp_ne (by omega), sUp_ne (by omega)]; assumption) | (rw [sUp_ne (by omega)]; exact sUp_eq) | (rw [gSet_ne (by omega) (by omega)]; first | assumption | exact sUp_eq | (rw [sUp_ne (by omega)]; assumption) | (rw [sUp_ne (by omega), sUp_ne (by omega)]; assumption)) | (rw [sUp_ne (by omega), sUp_ne (by omega), sUp_ne (by omega)]; assumption) | (simp [sUp]; done)) (by rfl) rfl ?_
      refine e_bipush (v := nI 36) (p' := 11) D_M_toldIn_9 cst_bipush_36 rfl ?_
      refine e_iaload (p' := 12) D_M_toldIn_11 (by first | assumption | exact sUp_eq | (rw [sUp_ne (by omega)]; assumption) | (rw [sUp_ne (by omega), sUp_ne (by omega)]; assumption) | (rw [sUp_ne (by omega)]; exact sUp_eq) | (rw [gSet_ne (by omega) (by omega)]; first | assumption | exact sUp_eq | (rw [sUp_ne (by omega)]; assumption) | (rw [sUp_ne (by omega), sUp_ne (by omega)]; assumption)) | (rw [sUp_ne (by omega), sUp_ne (by omega), sUp_ne (by omega)]; assumption) | (simp [sUp]; done)) (by omega) (by omega) (by rfl) rfl ?_
      rw [z36]
      refine e_icmpN_ge (q := 70) (p' := 15) D_M_toldIn_12 (by omega) (by omega) rfl rfl (fun hc12 => ?_) (fun hc12 => ?_)
      ·
        refine e_iload_2 (p' := 71) D_M_toldIn_70 rfl ?_
        refine e_ireturn (ty := .int) D_M_toldIn_71 rfl (by first | rfl | exact sBo_nar _) ⟨by decide, by decide⟩ ?_
        rw [tiF_sum hx]; exact ⟨rfl, rfl⟩
      ·
        exfalso; omega
    · intro i hi ih4 
      have pb := (lp.2 i).1
      refine e_iload_3 (p' := 5) D_M_toldIn_4 rfl ?_
      refine e_aload_0 (p' := 6) D_M_toldIn_5 rfl ?_
      refine e_getfield (p' := 9) D_M_toldIn_6 F_M_7 (by first | assumption | exact sUp_eq | (rw [sUp_ne (by omega)]; assumption) | (rw [sUp_ne (by omega), sUp_ne (by omega)]; assumption) | (rw [sUp_ne (by omega)]; exact sUp_eq) | (rw [gSet_ne (by omega) (by omega)]; first | assumption | exact sUp_eq | (rw [sUp_ne (by omega)]; assumption) | (rw [sUp_ne (by omega), sUp_ne (by omega)]; assumption)) | (rw [sUp_ne (by omega), sUp_ne (by omega), sUp_ne (by omega)]; assumption) | (simp [sUp]; done)) (by rfl) rfl ?_
      refine e_bipush (v := nI 36) (p' := 11) D_M_toldIn_9 cst_bipush_36 rfl ?_
      refine e_iaload (p' := 12) D_M_toldIn_11 (by first | assumption | exact sUp_eq | (rw [sUp_ne (by omega)]; assumption) | (rw [sUp_ne (by omega), sUp_ne (by omega)]; assumption) | (rw [sUp_ne (by omega)]; exact sUp_eq) | (rw [gSet_ne (by omega) (by omega)]; first | assumption | exact sUp_eq | (rw [sUp_ne (by omega)]; assumption) | (rw [sUp_ne (by omega), sUp_ne (by omega)]; assumption)) | (rw [sUp_ne (by omega), sUp_ne (by omega), sUp_ne (by omega)]; assumption) | (simp [sUp]; done)) (by omega) (by omega) (by rfl) rfl ?_
      rw [z36]
      refine e_icmpN_ge (q := 70) (p' := 15) D_M_toldIn_12 (by omega) (by omega) rfl rfl (fun hc12 => ?_) (fun hc12 => ?_)
      ·
        exfalso; omega
      ·
        refine e_iconst (v := nI 0) (p' := 16) D_M_toldIn_15 cst_iconst_0 rfl ?_
        refine e_istore_4 (p' := 18) D_M_toldIn_16 (Nat.le_of_ble_eq_true rfl) rfl rfl ?_
        have lk18 : ∀ j : Nat, j ≤ x.1.2.1 → sEv l m_M_toldIn 1 (0, 0, 0, 0) (sKm 0 0 (fun r1 h1 => r1 = some (.int (nI (tIn x (p + 1)))) ∧ h1 = h)) 18 [some (.ref 61), some (.int (nI p)), some (.int (nI (sm i (fun r => sm x.1.2.1 (fun c => tiF x (p + 1) r c)) + sm j (fun c => tiF x (p + 1) i c)))), some (.int (nI i)), some (.int (nI j))] [] (h) := by
          refine lp_up _ ?_ ?_
          · skip
            have s2 := hx.small i (x.1.2.1)
            refine e_iload_4 (p' := 20) D_M_toldIn_18 rfl ?_
            refine e_aload_0 (p' := 21) D_M_toldIn_20 rfl ?_
            refine e_getfield (p' := 24) D_M_toldIn_21 F_M_7 (by first | assumption | exact sUp_eq | (rw [sUp_ne (by omega)]; assumption) | (rw [sUp_ne (by omega), sUp_ne (by omega)]; assumption) | (rw [sUp_ne (by omega)]; exact sUp_eq) | (rw [gSet_ne (by omega) (by omega)]; first | assumption | exact sUp_eq | (rw [sUp_ne (by omega)]; assumption) | (rw [sUp_ne (by omega), sUp_ne (by omega)]; assumption)) | (rw [sUp_ne (by omega), sUp_ne (by omega), sUp_ne (by omega)]; assumption) | (simp [sUp]; done)) (by rfl) rfl ?_
            refine e_bipush (v := nI 37) (p' := 26) D_M_toldIn_24 cst_bipush_37 rfl ?_
            refine e_iaload (p' := 27) D_M_toldIn_26 (by first | assumption | exact sUp_eq | (rw [sUp_ne (by omega)]; assumption) | (rw [sUp_ne (by omega), sUp_ne (by omega)]; assumption) | (rw [sUp_ne (by omega)]; exact sUp_eq) | (rw [gSet_ne (by omega) (by omega)]; first | assumption | exact sUp_eq | (rw [sUp_ne (by omega)]; assumption) | (rw [sUp_ne (by omega), sUp_ne (by omega)]; assumption)) | (rw [sUp_ne (by omega), sUp_ne (by omega), sUp_ne (by omega)]; assumption) | (simp [sUp]; done)) (by omega) (by omega) (by rfl) rfl ?_
            rw [z37]
            refine e_icmpN_ge (q := 64) (p' := 30) D_M_toldIn_27 (by omega) (by omega) rfl rfl (fun hc27 => ?_) (fun hc27 => ?_)
            ·
              first | refine e_iincN_3 (n := 1) (p' := 67) D_M_toldIn_64 (Nat.le_of_ble_eq_true rfl) rfl rfl ?_ | refine e_iinc_3 (p' := 67) D_M_toldIn_64 (Nat.le_of_ble_eq_true rfl) rfl rfl rfl ?_
              refine e_goto (p' := 4) D_M_toldIn_67 rfl ?_
              refine sEv.castW (ih4) ?_ ?_ ?_
              · exact ⟨rfl, rfl, rfl, rfl, trivial⟩
              · rfl
              · first | rfl | (simp; done)
            ·
              exfalso; omega
          · intro j hj ih18 
            have s2 := hx.small i j
            refine e_iload_4 (p' := 20) D_M_toldIn_18 rfl ?_
            refine e_aload_0 (p' := 21) D_M_toldIn_20 rfl ?_
            refine e_getfield (p' := 24) D_M_toldIn_21 F_M_7 (by first | assumption | exact sUp_eq | (rw [sUp_ne (by omega)]; assumption) | (rw [sUp_ne (by omega), sUp_ne (by omega)]; assumption) | (rw [sUp_ne (by omega)]; exact sUp_eq) | (rw [gSet_ne (by omega) (by omega)]; first | assumption | exact sUp_eq | (rw [sUp_ne (by omega)]; assumption) | (rw [sUp_ne (by omega), sUp_ne (by omega)]; assumption)) | (rw [sUp_ne (by omega), sUp_ne (by omega), sUp_ne (by omega)]; assumption) | (simp [sUp]; done)) (by rfl) rfl ?_
            refine e_bipush (v := nI 37) (p' := 26) D_M_toldIn_24 cst_bipush_37 rfl ?_
            refine e_iaload (p' := 27) D_M_toldIn_26 (by first | assumption | exact sUp_eq | (rw [sUp_ne (by omega)]; assumption) | (rw [sUp_ne (by omega), sUp_ne (by omega)]; assumption) | (rw [sUp_ne (by omega)]; exact sUp_eq) | (rw [gSet_ne (by omega) (by omega)]; first | assumption | exact sUp_eq | (rw [sUp_ne (by omega)]; assumption) | (rw [sUp_ne (by omega), sUp_ne (by omega)]; assumption)) | (rw [sUp_ne (by omega), sUp_ne (by omega), sUp_ne (by omega)]; assumption) | (simp [sUp]; done)) (by omega) (by omega) (by rfl) rfl ?_
            rw [z37]
            refine e_icmpN_ge (q := 64) (p' := 30) D_M_toldIn_27 (by omega) (by omega) rfl rfl (fun hc27 => ?_) (fun hc27 => ?_)
            ·
              exfalso; omega
            ·
              refine e_iload_2 (p' := 31) D_M_toldIn_30 rfl ?_
              refine e_aload_0 (p' := 32) D_M_toldIn_31 rfl ?_
              refine e_iload_3 (p' := 33) D_M_toldIn_32 rfl ?_
              refine e_iload_4 (p' := 35) D_M_toldIn_33 rfl ?_
              refine x_callV1 (p' := 38) D_M_toldIn_35 V_M_67 (c_M_at hm hz hx (by omega) (by omega)) rfl (by first | assumption | exact sUp_eq | (rw [sUp_ne (by omega)]; assumption) | (rw [sUp_ne (by omega), sUp_ne (by omega)]; assumption) | (rw [sUp_ne (by omega)]; exact sUp_eq) | (rw [gSet_ne (by omega) (by omega)]; first | assumption | exact sUp_eq | (rw [sUp_ne (by omega)]; assumption) | (rw [sUp_ne (by omega), sUp_ne (by omega)]; assumption)) | (rw [sUp_ne (by omega), sUp_ne (by omega), sUp_ne (by omega)]; assumption) | (simp [sUp]; done)) rfl (Nat.le_of_ble_eq_true rfl) (by decide) ⟨by decide, by decide⟩ rfl ?_
              refine e_ifN_le (q := 55) (p' := 41) D_M_toldIn_38 (by omega) rfl rfl (fun hc38 => ?_) (fun hc38 => ?_)
              ·
                refine e_iconst (v := nI 0) (p' := 56) D_M_toldIn_55 cst_iconst_0 rfl ?_
                first | refine e_iaddN (p' := 57) D_M_toldIn_56 rfl ?_ | refine e_iadd (p' := 57) D_M_toldIn_56 rfl ?_
                refine e_istore_2 (p' := 58) D_M_toldIn_57 (Nat.le_of_ble_eq_true rfl) rfl rfl ?_
                first | refine e_iincN_4 (n := 1) (p' := 61) D_M_toldIn_58 (Nat.le_of_ble_eq_true rfl) rfl rfl ?_ | refine e_iinc_4 (p' := 61) D_M_toldIn_58 (Nat.le_of_ble_eq_true rfl) rfl rfl rfl ?_
                refine e_goto (p' := 18) D_M_toldIn_61 rfl ?_
                refine sEv.castW (ih18) ?_ ?_ ?_
                · refine ⟨rfl, rfl, ?_, rfl, rfl, trivial⟩
                  rw [sm_succ, show tiF x (p + 1) i j = 0 from if_neg (fun z => absurd z.1 (by rw [td_false (by omega)]; decide)), Nat.add_assoc]
                · rfl
                · first | rfl | (simp; done)
              ·
                refine e_aload_0 (p' := 42) D_M_toldIn_41 rfl ?_
                refine e_getfield (p' := 45) D_M_toldIn_42 F_M_27 (by first | assumption | exact sUp_eq | (rw [sUp_ne (by omega)]; assumption) | (rw [sUp_ne (by omega), sUp_ne (by omega)]; assumption) | (rw [sUp_ne (by omega)]; exact sUp_eq) | (rw [gSet_ne (by omega) (by omega)]; first | assumption | exact sUp_eq | (rw [sUp_ne (by omega)]; assumption) | (rw [sUp_ne (by omega), sUp_ne (by omega)]; assumption)) | (rw [sUp_ne (by omega), sUp_ne (by omega), sUp_ne (by omega)]; assumption) | (simp [sUp]; done)) (by rfl) rfl ?_
                refine e_iload_3 (p' := 46) D_M_toldIn_45 rfl ?_
                refine e_iaload (p' := 47) D_M_toldIn_46 (by first | assumption | exact sUp_eq | (rw [sUp_ne (by omega)]; assumption) | (rw [sUp_ne (by omega), sUp_ne (by omega)]; assumption) | (rw [sUp_ne (by omega)]; exact sUp_eq) | (rw [gSet_ne (by omega) (by omega)]; first | assumption | exact sUp_eq | (rw [sUp_ne (by omega)]; assumption) | (rw [sUp_ne (by omega), sUp_ne (by omega)]; assumption)) | (rw [sUp_ne (by omega), sUp_ne (by omega), sUp_ne (by omega)]; assumption) | (simp [sUp]; done)) (by omega) (by omega) (by rfl) rfl ?_
                refine e_iload_1 (p' := 48) D_M_toldIn_47 rfl ?_
                rw [(PV i (by omega)).1.1]
                refine e_icmp_ne (q := 55) (p' := 51) D_M_toldIn_48 rfl rfl (fun hc48 => ?_) (fun hc48 => ?_)
                ·
                  refine e_iconst (v := nI 0) (p' := 56) D_M_toldIn_55 cst_iconst_0 rfl ?_
                  first | refine e_iaddN (p' := 57) D_M_toldIn_56 rfl ?_ | refine e_iadd (p' := 57) D_M_toldIn_56 rfl ?_
                  refine e_istore_2 (p' := 58) D_M_toldIn_57 (Nat.le_of_ble_eq_true rfl) rfl rfl ?_
                  first | refine e_iincN_4 (n := 1) (p' := 61) D_M_toldIn_58 (Nat.le_of_ble_eq_true rfl) rfl rfl ?_ | refine e_iinc_4 (p' := 61) D_M_toldIn_58 (Nat.le_of_ble_eq_true rfl) rfl rfl rfl ?_
                  refine e_goto (p' := 18) D_M_toldIn_61 rfl ?_
                  refine sEv.castW (ih18) ?_ ?_ ?_
                  · refine ⟨rfl, rfl, ?_, rfl, rfl, trivial⟩
                    rw [sm_succ, show tiF x (p + 1) i j = 0 from if_neg (fun z => hc48 ((pJ_nI pb (by omega)).mpr z.2)), Nat.add_assoc]
                  · rfl
                  · first | rfl | (simp; done)
                ·
                  refine e_iconst (v := nI 1) (p' := 52) D_M_toldIn_51 cst_iconst_1 rfl ?_
                  refine e_goto (p' := 56) D_M_toldIn_52 rfl ?_
                  first | refine e_iaddN (p' := 57) D_M_toldIn_56 rfl ?_ | refine e_iadd (p' := 57) D_M_toldIn_56 rfl ?_
                  refine e_istore_2 (p' := 58) D_M_toldIn_57 (Nat.le_of_ble_eq_true rfl) rfl rfl ?_
                  first | refine e_iincN_4 (n := 1) (p' := 61) D_M_toldIn_58 (Nat.le_of_ble_eq_true rfl) rfl rfl ?_ | refine e_iinc_4 (p' := 61) D_M_toldIn_58 (Nat.le_of_ble_eq_true rfl) rfl rfl rfl ?_
                  refine e_goto (p' := 18) D_M_toldIn_61 rfl ?_
                  refine sEv.castW (ih18) ?_ ?_ ?_
                  · refine ⟨rfl, rfl, ?_, rfl, rfl, trivial⟩
                    rw [sm_succ, show tiF x (p + 1) i j = 1 from if_pos ⟨td_true (by omega), (pJ_nI pb (by omega)).mp hc48⟩, Nat.add_assoc]
                  · rfl
                  · first | rfl | (simp; done)
        refine sEv.castW (lk18 0 (by omega) ) ?_ ?_ ?_
        · exact ⟨rfl, rfl, rfl, rfl, rfl, trivial⟩
        · rfl
        · first | rfl | (simp; done)
  refine sEv.castW (lk4 0 (by omega) ) ?_ ?_ ?_
  · exact ⟨rfl, rfl, rfl, rfl, trivial⟩
  · rfl
  · first | rfl | (simp; done)
set_option maxRecDepth 4000 in
theorem c_M_part {l : Launch} {h : sH} {st : St} (hI : MInv h st) (hS : StOk st) {p w : Int32} : sY l m_M_part 4 [.ref 61, .int p, .int w] h (some (.int (Vpart st.1 p w))) (MR h st) := by
  have hI0 := hI
  obtain ⟨hz, H⟩ := hI
  have H0 := H
  have hx := hS.1
  have hM := hx.2.2.1.le
  have hRr := hx.1
  have hCc := hx.2.1
  have hh6 := hS.2.1.1
  obtain ⟨⟨v, a1⟩, ⟨f, a2, b2⟩, ⟨f3, a3, b3⟩, ⟨f4, a4, b4⟩, ⟨f5, a5, b5⟩, ⟨f6, f7, f8, f9, a6, a7, a8, a9⟩, ⟨f10, a10⟩, ⟨f11, a11⟩, ⟨f12, a12⟩⟩ := H
  have lsz := lay_sz hx
  refine en_M_part ?_
  refine e_aload_0 (p' := 1) D_M_part_0 rfl ?_
  refine y_callV0 (p' := 4) D_M_part_1 V_M_85 (c_M_layParts a1 hz hx (MRest.arr H0)) rfl (by first | assumption | exact sUp_eq | (rw [sUp_ne (by omega)]; assumption) | (rw [sUp_ne (by omega), sUp_ne (by omega)]; assumption) | (rw [sUp_ne (by omega)]; exact sUp_eq) | (rw [gSet_ne (by omega) (by omega)]; first | assumption | exact sUp_eq | (rw [sUp_ne (by omega)]; assumption) | (rw [sUp_ne (by omega), sUp_ne (by omega)]; assumption)) | (rw [sUp_ne (by omega), sUp_ne (by omega), sUp_ne (by omega)]; assumption) | (simp [sUp]; done)) rfl (Nat.le_of_ble_eq_true rfl) (by decide) ⟨by decide, by decide⟩ rfl ?_
  rintro h1 ⟨P1, m1, L1⟩
  have Z1 := (L1 62 (by omega) (by omega)).trans (hz)
  have R1 := MRest.lay H0 m1 ⟨_, P1⟩ L1
  obtain ⟨e1, e2, e3, e4, p1, p2, p3, p4, PV⟩ := id P1
  refine e_iload_1 (p' := 5) D_M_part_4 rfl ?_
  refine e_if_lt (q := 16) (p' := 8) D_M_part_5 rfl rfl (fun hc5 => ?_) (fun hc5 => ?_)
  ·
    refine e_iconst (v := (-1)) (p' := 17) D_M_part_16 cst_iconst_m1 rfl ?_
    refine e_ireturn (ty := .int) D_M_part_17 rfl (by first | rfl | exact sBo_nar _) ⟨by decide, by decide⟩ ?_
    unfold Vpart; rw [if_pos (isOut_neg hc5)]; exact ⟨rfl, ⟨Z1, R1⟩, L1.k⟩
  ·
    refine e_iload_1 (p' := 9) D_M_part_8 rfl ?_
    refine e_aload_0 (p' := 10) D_M_part_9 rfl ?_
    refine e_getfield (p' := 13) D_M_part_10 F_M_74 (by first | assumption | exact sUp_eq | (rw [sUp_ne (by omega)]; assumption) | (rw [sUp_ne (by omega), sUp_ne (by omega)]; assumption) | (rw [sUp_ne (by omega)]; exact sUp_eq) | (rw [gSet_ne (by omega) (by omega)]; first | assumption | exact sUp_eq | (rw [sUp_ne (by omega)]; assumption) | (rw [sUp_ne (by omega), sUp_ne (by omega)]; assumption)) | (rw [sUp_ne (by omega), sUp_ne (by omega), sUp_ne (by omega)]; assumption) | (simp [sUp]; done)) (by rfl) rfl ?_
    refine e_icmp_lt (q := 18) (p' := 16) D_M_part_13 rfl rfl (fun hc13 => ?_) (fun hc13 => ?_)
    ·
      obtain ⟨kp, kp0, rfl⟩ := nI_of hc5
      have kp1 : kp < (lay st.1).2 := (nI_ltI kp0 (by omega)).mp hc13
      have io : isOut (nI kp) (nI 0) (nI ((lay st.1).2 - 1)) = false := isOut_R (a := 0) (by omega) ⟨by omega, by omega⟩
      refine e_iload_2 (p' := 19) D_M_part_18 rfl ?_
      refine e_iconst (v := nI 0) (p' := 20) D_M_part_19 cst_iconst_0 rfl ?_
      refine e_iconst (v := nI 2) (p' := 21) D_M_part_20 cst_iconst_2 rfl ?_
      refine x_callS1 (p' := 24) D_M_part_21 S_M_52 (c_M_in) rfl rfl (Nat.le_of_ble_eq_true rfl) (by decide) ⟨by decide, by decide⟩ rfl ?_
      refine e_ifB_ne (q := 30) (p' := 27) D_M_part_24 rfl rfl (fun hc24 => ?_) (fun hc24 => ?_)
      ·
        refine e_iload_2 (p' := 31) D_M_part_30 rfl ?_
        refine e_if_ne (q := 42) (p' := 34) D_M_part_31 rfl rfl (fun hc31 => ?_) (fun hc31 => ?_)
        ·
          refine e_iload_2 (p' := 43) D_M_part_42 rfl ?_
          refine e_iconst (v := nI 1) (p' := 44) D_M_part_43 cst_iconst_1 rfl ?_
          refine e_icmp_ne (q := 55) (p' := 47) D_M_part_44 rfl rfl (fun hc44 => ?_) (fun hc44 => ?_)
          ·
            refine e_aload_0 (p' := 56) D_M_part_55 rfl ?_
            refine e_iload_1 (p' := 57) D_M_part_56 rfl ?_
            refine x_callV1 (p' := 60) D_M_part_57 V_M_107 (c_M_toldIn m1 Z1 hx P1 (by omega)) rfl (by first | assumption | exact sUp_eq | (rw [sUp_ne (by omega)]; assumption) | (rw [sUp_ne (by omega), sUp_ne (by omega)]; assumption) | (rw [sUp_ne (by omega)]; exact sUp_eq) | (rw [gSet_ne (by omega) (by omega)]; first | assumption | exact sUp_eq | (rw [sUp_ne (by omega)]; assumption) | (rw [sUp_ne (by omega), sUp_ne (by omega)]; assumption)) | (rw [sUp_ne (by omega), sUp_ne (by omega), sUp_ne (by omega)]; assumption) | (simp [sUp]; done)) rfl (Nat.le_of_ble_eq_true rfl) (by decide) ⟨by decide, by decide⟩ rfl ?_
            refine e_ireturn (ty := .int) D_M_part_60 rfl (by first | rfl | exact sBo_nar _) ⟨by decide, by decide⟩ ?_
            unfold Vpart
            rw [if_neg (by rw [io]; decide), natOf_nI (by omega), if_neg (show ¬ w = nI 0 from hc31), if_neg hc44, if_pos (w2 hc24 hc31 hc44)]
            exact ⟨rfl, ⟨Z1, R1⟩, L1.k⟩
          ·
            refine e_aload_0 (p' := 48) D_M_part_47 rfl ?_
            refine e_iload_1 (p' := 49) D_M_part_48 rfl ?_
            refine x_callV1 (p' := 52) D_M_part_49 V_M_104 (c_M_columnsOf m1 Z1 hx P1 (by omega)) rfl (by first | assumption | exact sUp_eq | (rw [sUp_ne (by omega)]; assumption) | (rw [sUp_ne (by omega), sUp_ne (by omega)]; assumption) | (rw [sUp_ne (by omega)]; exact sUp_eq) | (rw [gSet_ne (by omega) (by omega)]; first | assumption | exact sUp_eq | (rw [sUp_ne (by omega)]; assumption) | (rw [sUp_ne (by omega), sUp_ne (by omega)]; assumption)) | (rw [sUp_ne (by omega), sUp_ne (by omega), sUp_ne (by omega)]; assumption) | (simp [sUp]; done)) rfl (Nat.le_of_ble_eq_true rfl) (by decide) ⟨by decide, by decide⟩ rfl ?_
            refine e_goto (p' := 60) D_M_part_52 rfl ?_
            refine e_ireturn (ty := .int) D_M_part_60 rfl (by first | rfl | exact sBo_nar _) ⟨by decide, by decide⟩ ?_
            unfold Vpart
            rw [if_neg (by rw [io]; decide), natOf_nI (by omega), if_neg (show ¬ w = nI 0 from hc31), if_pos (by first | exact hc44 | exact Classical.not_not.mp hc44)]
            exact ⟨rfl, ⟨Z1, R1⟩, L1.k⟩
        ·
          refine e_aload_0 (p' := 35) D_M_part_34 rfl ?_
          refine e_iload_1 (p' := 36) D_M_part_35 rfl ?_
          refine x_callV1 (p' := 39) D_M_part_36 V_M_101 (c_M_rowsOf m1 Z1 hx P1 (by omega)) rfl (by first | assumption | exact sUp_eq | (rw [sUp_ne (by omega)]; assumption) | (rw [sUp_ne (by omega), sUp_ne (by omega)]; assumption) | (rw [sUp_ne (by omega)]; exact sUp_eq) | (rw [gSet_ne (by omega) (by omega)]; first | assumption | exact sUp_eq | (rw [sUp_ne (by omega)]; assumption) | (rw [sUp_ne (by omega), sUp_ne (by omega)]; assumption)) | (rw [sUp_ne (by omega), sUp_ne (by omega), sUp_ne (by omega)]; assumption) | (simp [sUp]; done)) rfl (Nat.le_of_ble_eq_true rfl) (by decide) ⟨by decide, by decide⟩ rfl ?_
          refine e_goto (p' := 60) D_M_part_39 rfl ?_
          refine e_ireturn (ty := .int) D_M_part_60 rfl (by first | rfl | exact sBo_nar _) ⟨by decide, by decide⟩ ?_
          unfold Vpart
          rw [if_neg (by rw [io]; decide), natOf_nI (by omega), if_pos (show w = nI 0 by first | exact hc31 | exact Classical.not_not.mp hc31)]
          exact ⟨rfl, ⟨Z1, R1⟩, L1.k⟩
      ·
        refine e_bipush (v := (-2)) (p' := 29) D_M_part_27 cst_bipush_m2 rfl ?_
        refine e_ireturn (ty := .int) D_M_part_29 rfl (by first | rfl | exact sBo_nar _) ⟨by decide, by decide⟩ ?_
        have w3 : ∀ k, isOut (nI k) (nI 0) (nI 2) = false → ¬ w = nI k := fun k hk e => by rw [e, hk] at hc24; exact absurd hc24 (by decide)
        unfold Vpart
        rw [if_neg (by rw [io]; decide), if_neg (w3 0 (by decide)), if_neg (w3 1 (by decide)), if_neg (w3 2 (by decide))]
        exact ⟨rfl, ⟨Z1, R1⟩, L1.k⟩
    ·
      refine e_iconst (v := (-1)) (p' := 17) D_M_part_16 cst_iconst_m1 rfl ?_
      refine e_ireturn (ty := .int) D_M_part_17 rfl (by first | rfl | exact sBo_nar _) ⟨by decide, by decide⟩ ?_
      unfold Vpart; rw [if_pos (isOut_no2 lsz.1 lsz.2 hc5 hc13)]; exact ⟨rfl, ⟨Z1, R1⟩, L1.k⟩
