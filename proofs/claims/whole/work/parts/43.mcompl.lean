/-! ===== the reference: completions ===== -/
def cplI (x : Gd) (i : Nat) : Nat := if wellX x = true then (x.1.2.2 - 1) ^ i else 0
theorem cplI_s {x : Gd} {i : Nat} : cplI x i * (x.1.2.2 - 1) = cplI x (i + 1) := by
  unfold cplI
  split
  · rw [← Nat.pow_succ]
  · exact Nat.zero_mul _
theorem mod1 (y d m : Nat) : (y % m) * d % m = y * d % m := by rw [Nat.mul_mod, Nat.mod_mod, ← Nat.mul_mod]
theorem mod4 (a b c d m : Nat) : (a * b % m) * (c * d % m) % m = (a * c % m * b % m) * d % m := by
  rw [← Nat.mul_mod, mod1, Nat.mul_assoc (a * c % m), mod1]
  congr 1
  rw [Nat.mul_assoc, Nat.mul_assoc, ← Nat.mul_assoc b c d, Nat.mul_comm b c, Nat.mul_assoc]
set_option maxRecDepth 4000 in
theorem c_M_completions {l : Launch} {h : sH} {x : Gd} {s : Mr} (hz : h.2 62 = iA 39 (nF (zN x))) (H : MRest h s) (hx : Gok x) : sY l m_M_completions 4 [.ref 61] h (some (.long (lN (cpl x)))) (fun h1 => MQ2 h x s h1 ∧ PmAt h1 (lay x).1) := by
  have hM := hx.2.2.1.le
  have hRr := hx.1
  have hCc := hx.2.1
  have H0 := H
  obtain ⟨⟨v, a1⟩, _⟩ := H
  have lsz := lay_sz hx
  refine en_M_completions ?_
  refine e_aload_0 (p' := 1) D_M_completions_0 rfl ?_
  refine y_callV0 (p' := 4) D_M_completions_1 V_M_85 (c_M_layParts a1 hz hx (MRest.arr H0)) rfl (by first | assumption | exact sUp_eq | (rw [sUp_ne (by omega)]; assumption) | (rw [sUp_ne (by omega), sUp_ne (by omega)]; assumption) | (rw [sUp_ne (by omega)]; exact sUp_eq) | (rw [gSet_ne (by omega) (by omega)]; first | assumption | exact sUp_eq | (rw [sUp_ne (by omega)]; assumption) | (rw [sUp_ne (by omega), sUp_ne (by omega)]; assumption)) | (rw [sUp_ne (by omega), sUp_ne (by omega), sUp_ne (by omega)]; assumption) | (simp [sUp]; done)) rfl (Nat.le_of_ble_eq_true rfl) (by decide) ⟨by decide, by decide⟩ rfl ?_
  rintro h1 ⟨P1, m1, L1⟩
  have Z1 := (L1 62 (by omega) (by omega)).trans (hz)
  have R1 := MRest.lay H0 m1 ⟨_, P1⟩ L1
  obtain ⟨e1, e2, e3, e4, p1, p2, p3, p4, PV⟩ := id P1
  refine e_aload_0 (p' := 5) D_M_completions_4 rfl ?_
  refine e_getfield (p' := 8) D_M_completions_5 F_M_81 (by first | assumption | exact sUp_eq | (rw [sUp_ne (by omega)]; assumption) | (rw [sUp_ne (by omega), sUp_ne (by omega)]; assumption) | (rw [sUp_ne (by omega)]; exact sUp_eq) | (rw [gSet_ne (by omega) (by omega)]; first | assumption | exact sUp_eq | (rw [sUp_ne (by omega)]; assumption) | (rw [sUp_ne (by omega), sUp_ne (by omega)]; assumption)) | (rw [sUp_ne (by omega), sUp_ne (by omega), sUp_ne (by omega)]; assumption) | (simp [sUp]; done)) (by rfl) rfl ?_
  refine e_ifB_eq (q := 15) (p' := 11) D_M_completions_8 rfl rfl (fun hc8 => ?_) (fun hc8 => ?_)
  ·
    refine e_lconst (v := lN 0) (p' := 16) D_M_completions_15 rfl rfl ?_
    refine e_lstore_1 (p' := 17) D_M_completions_16 (Nat.le_of_ble_eq_true rfl) rfl rfl ?_
    refine e_iconst (v := nI 1) (p' := 18) D_M_completions_17 cst_iconst_1 rfl ?_
    refine e_istore_3 (p' := 19) D_M_completions_18 (Nat.le_of_ble_eq_true rfl) rfl rfl ?_
    have lk19 : ∀ i : Nat, i ≤ (lay x).2 - 1 → sEv l m_M_completions 4 (0, 0, 0, 0) (sKm 0 0 (fun r1 h1 => r1 = some (.long (lN (cpl x))) ∧ (fun h1 => MQ2 h x s h1 ∧ PmAt h1 (lay x).1) h1)) 19 [some (.ref 61), some (.long (lN (cplI x i))), none, some (.int (nI (i + 1)))] [] (h1) := by
      refine lp_up _ ?_ ?_
      · skip
        refine e_iload_3 (p' := 20) D_M_completions_19 rfl ?_
        refine e_aload_0 (p' := 21) D_M_completions_20 rfl ?_
        refine e_getfield (p' := 24) D_M_completions_21 F_M_74 (by first | assumption | exact sUp_eq | (rw [sUp_ne (by omega)]; assumption) | (rw [sUp_ne (by omega), sUp_ne (by omega)]; assumption) | (rw [sUp_ne (by omega)]; exact sUp_eq) | (rw [gSet_ne (by omega) (by omega)]; first | assumption | exact sUp_eq | (rw [sUp_ne (by omega)]; assumption) | (rw [sUp_ne (by omega), sUp_ne (by omega)]; assumption)) | (rw [sUp_ne (by omega), sUp_ne (by omega), sUp_ne (by omega)]; assumption) | (simp [sUp]; done)) (by rfl) rfl ?_
        refine e_icmpN_ge (q := 46) (p' := 27) D_M_completions_24 (by omega) (by omega) rfl rfl (fun hc24 => ?_) (fun hc24 => ?_)
        ·
          refine e_lload_1 (p' := 47) D_M_completions_46 rfl ?_
          refine e_lreturn D_M_completions_47 rfl ⟨by decide, by decide⟩ ?_
          exact ⟨rfl, ⟨⟨R1, Z1⟩, L1.k⟩, P1⟩
        ·
          exfalso; omega
      · intro i hi ih19 
        refine e_iload_3 (p' := 20) D_M_completions_19 rfl ?_
        refine e_aload_0 (p' := 21) D_M_completions_20 rfl ?_
        refine e_getfield (p' := 24) D_M_completions_21 F_M_74 (by first | assumption | exact sUp_eq | (rw [sUp_ne (by omega)]; assumption) | (rw [sUp_ne (by omega), sUp_ne (by omega)]; assumption) | (rw [sUp_ne (by omega)]; exact sUp_eq) | (rw [gSet_ne (by omega) (by omega)]; first | assumption | exact sUp_eq | (rw [sUp_ne (by omega)]; assumption) | (rw [sUp_ne (by omega), sUp_ne (by omega)]; assumption)) | (rw [sUp_ne (by omega), sUp_ne (by omega), sUp_ne (by omega)]; assumption) | (simp [sUp]; done)) (by rfl) rfl ?_
        refine e_icmpN_ge (q := 46) (p' := 27) D_M_completions_24 (by omega) (by omega) rfl rfl (fun hc24 => ?_) (fun hc24 => ?_)
        ·
          exfalso; omega
        ·
          refine e_lload_1 (p' := 28) D_M_completions_27 rfl ?_
          refine e_aload_0 (p' := 29) D_M_completions_28 rfl ?_
          refine e_getfield (p' := 32) D_M_completions_29 F_M_7 (by first | assumption | exact sUp_eq | (rw [sUp_ne (by omega)]; assumption) | (rw [sUp_ne (by omega), sUp_ne (by omega)]; assumption) | (rw [sUp_ne (by omega)]; exact sUp_eq) | (rw [gSet_ne (by omega) (by omega)]; first | assumption | exact sUp_eq | (rw [sUp_ne (by omega)]; assumption) | (rw [sUp_ne (by omega), sUp_ne (by omega)]; assumption)) | (rw [sUp_ne (by omega), sUp_ne (by omega), sUp_ne (by omega)]; assumption) | (simp [sUp]; done)) (by rfl) rfl ?_
          refine e_bipush (v := nI 38) (p' := 34) D_M_completions_32 cst_bipush_38 rfl ?_
          refine e_iaload (p' := 35) D_M_completions_34 (by first | assumption | exact sUp_eq | (rw [sUp_ne (by omega)]; assumption) | (rw [sUp_ne (by omega), sUp_ne (by omega)]; assumption) | (rw [sUp_ne (by omega)]; exact sUp_eq) | (rw [gSet_ne (by omega) (by omega)]; first | assumption | exact sUp_eq | (rw [sUp_ne (by omega)]; assumption) | (rw [sUp_ne (by omega), sUp_ne (by omega)]; assumption)) | (rw [sUp_ne (by omega), sUp_ne (by omega), sUp_ne (by omega)]; assumption) | (simp [sUp]; done)) (by omega) (by omega) (by rfl) rfl ?_
          rw [z38]
          refine e_iconst (v := nI 1) (p' := 36) D_M_completions_35 cst_iconst_1 rfl ?_
          first | refine e_isubN (p' := 37) D_M_completions_36 (by omega) rfl ?_ | refine e_isub (p' := 37) D_M_completions_36 rfl ?_
          first | refine e_i2lN (p' := 38) D_M_completions_37 (by omega) rfl ?_ | refine e_i2l (p' := 38) D_M_completions_37 rfl rfl ?_
          refine e_lmul (p' := 39) D_M_completions_38 rfl ?_
          refine e_lstore_1 (p' := 40) D_M_completions_39 (Nat.le_of_ble_eq_true rfl) rfl rfl ?_
          first | refine e_iincN_3 (n := 1) (p' := 43) D_M_completions_40 (Nat.le_of_ble_eq_true rfl) rfl rfl ?_ | refine e_iinc_3 (p' := 43) D_M_completions_40 (Nat.le_of_ble_eq_true rfl) rfl rfl rfl ?_
          refine e_goto (p' := 19) D_M_completions_43 rfl ?_
          refine sEv.castW (ih19) ?_ ?_ ?_
          · exact ⟨rfl, by rw [lN_mul, cplI_s], rfl, trivial⟩
          · rfl
          · first | rfl | (simp; done)
    refine sEv.castW (lk19 0 (by omega) ) ?_ ?_ ?_
    · refine ⟨rfl, ?_, rfl, trivial⟩
      unfold cplI
      first | (rw [if_neg (by rw [hc8]; decide)]; done) | (rw [if_pos hc8]; rfl)
    · rfl
    · first | rfl | (simp; done)
  ·
    refine e_lconst (v := lN 1) (p' := 12) D_M_completions_11 rfl rfl ?_
    refine e_goto (p' := 16) D_M_completions_12 rfl ?_
    refine e_lstore_1 (p' := 17) D_M_completions_16 (Nat.le_of_ble_eq_true rfl) rfl rfl ?_
    refine e_iconst (v := nI 1) (p' := 18) D_M_completions_17 cst_iconst_1 rfl ?_
    refine e_istore_3 (p' := 19) D_M_completions_18 (Nat.le_of_ble_eq_true rfl) rfl rfl ?_
    have lk19 : ∀ i : Nat, i ≤ (lay x).2 - 1 → sEv l m_M_completions 4 (0, 0, 0, 0) (sKm 0 0 (fun r1 h1 => r1 = some (.long (lN (cpl x))) ∧ (fun h1 => MQ2 h x s h1 ∧ PmAt h1 (lay x).1) h1)) 19 [some (.ref 61), some (.long (lN (cplI x i))), none, some (.int (nI (i + 1)))] [] (h1) := by
      refine lp_up _ ?_ ?_
      · skip
        refine e_iload_3 (p' := 20) D_M_completions_19 rfl ?_
        refine e_aload_0 (p' := 21) D_M_completions_20 rfl ?_
        refine e_getfield (p' := 24) D_M_completions_21 F_M_74 (by first | assumption | exact sUp_eq | (rw [sUp_ne (by omega)]; assumption) | (rw [sUp_ne (by omega), sUp_ne (by omega)]; assumption) | (rw [sUp_ne (by omega)]; exact sUp_eq) | (rw [gSet_ne (by omega) (by omega)]; first | assumption | exact sUp_eq | (rw [sUp_ne (by omega)]; assumption) | (rw [sUp_ne (by omega), sUp_ne (by omega)]; assumption)) | (rw [sUp_ne (by omega), sUp_ne (by omega), sUp_ne (by omega)]; assumption) | (simp [sUp]; done)) (by rfl) rfl ?_
        refine e_icmpN_ge (q := 46) (p' := 27) D_M_completions_24 (by omega) (by omega) rfl rfl (fun hc24 => ?_) (fun hc24 => ?_)
        ·
          refine e_lload_1 (p' := 47) D_M_completions_46 rfl ?_
          refine e_lreturn D_M_completions_47 rfl ⟨by decide, by decide⟩ ?_
          exact ⟨rfl, ⟨⟨R1, Z1⟩, L1.k⟩, P1⟩
        ·
          exfalso; omega
      · intro i hi ih19 
        refine e_iload_3 (p' := 20) D_M_completions_19 rfl ?_
        refine e_aload_0 (p' := 21) D_M_completions_20 rfl ?_
        refine e_getfield (p' := 24) D_M_completions_21 F_M_74 (by first | assumption | exact sUp_eq | (rw [sUp_ne (by omega)]; assumption) | (rw [sUp_ne (by omega), sUp_ne (by omega)]; assumption) | (rw [sUp_ne (by omega)]; exact sUp_eq) | (rw [gSet_ne (by omega) (by omega)]; first | assumption | exact sUp_eq | (rw [sUp_ne (by omega)]; assumption) | (rw [sUp_ne (by omega), sUp_ne (by omega)]; assumption)) | (rw [sUp_ne (by omega), sUp_ne (by omega), sUp_ne (by omega)]; assumption) | (simp [sUp]; done)) (by rfl) rfl ?_
        refine e_icmpN_ge (q := 46) (p' := 27) D_M_completions_24 (by omega) (by omega) rfl rfl (fun hc24 => ?_) (fun hc24 => ?_)
        ·
          exfalso; omega
        ·
          refine e_lload_1 (p' := 28) D_M_completions_27 rfl ?_
          refine e_aload_0 (p' := 29) D_M_completions_28 rfl ?_
          refine e_getfield (p' := 32) D_M_completions_29 F_M_7 (by first | assumption | exact sUp_eq | (rw [sUp_ne (by omega)]; assumption) | (rw [sUp_ne (by omega), sUp_ne (by omega)]; assumption) | (rw [sUp_ne (by omega)]; exact sUp_eq) | (rw [gSet_ne (by omega) (by omega)]; first | assumption | exact sUp_eq | (rw [sUp_ne (by omega)]; assumption) | (rw [sUp_ne (by omega), sUp_ne (by omega)]; assumption)) | (rw [sUp_ne (by omega), sUp_ne (by omega), sUp_ne (by omega)]; assumption) | (simp [sUp]; done)) (by rfl) rfl ?_
          refine e_bipush (v := nI 38) (p' := 34) D_M_completions_32 cst_bipush_38 rfl ?_
          refine e_iaload (p' := 35) D_M_completions_34 (by first | assumption | exact sUp_eq | (rw [sUp_ne (by omega)]; assumption) | (rw [sUp_ne (by omega), sUp_ne (by omega)]; assumption) | (rw [sUp_ne (by omega)]; exact sUp_eq) | (rw [gSet_ne (by omega) (by omega)]; first | assumption | exact sUp_eq | (rw [sUp_ne (by omega)]; assumption) | (rw [sUp_ne (by omega), sUp_ne (by omega)]; assumption)) | (rw [sUp_ne (by omega), sUp_ne (by omega), sUp_ne (by omega)]; assumption) | (simp [sUp]; done)) (by omega) (by omega) (by rfl) rfl ?_
          rw [z38]
          refine e_iconst (v := nI 1) (p' := 36) D_M_completions_35 cst_iconst_1 rfl ?_
          first | refine e_isubN (p' := 37) D_M_completions_36 (by omega) rfl ?_ | refine e_isub (p' := 37) D_M_completions_36 rfl ?_
          first | refine e_i2lN (p' := 38) D_M_completions_37 (by omega) rfl ?_ | refine e_i2l (p' := 38) D_M_completions_37 rfl rfl ?_
          refine e_lmul (p' := 39) D_M_completions_38 rfl ?_
          refine e_lstore_1 (p' := 40) D_M_completions_39 (Nat.le_of_ble_eq_true rfl) rfl rfl ?_
          first | refine e_iincN_3 (n := 1) (p' := 43) D_M_completions_40 (Nat.le_of_ble_eq_true rfl) rfl rfl ?_ | refine e_iinc_3 (p' := 43) D_M_completions_40 (Nat.le_of_ble_eq_true rfl) rfl rfl rfl ?_
          refine e_goto (p' := 19) D_M_completions_43 rfl ?_
          refine sEv.castW (ih19) ?_ ?_ ?_
          · exact ⟨rfl, by rw [lN_mul, cplI_s], rfl, trivial⟩
          · rfl
          · first | rfl | (simp; done)
    refine sEv.castW (lk19 0 (by omega) ) ?_ ?_ ?_
    · refine ⟨rfl, ?_, rfl, trivial⟩
      unfold cplI
      first | (rw [if_neg (by rw [hc8]; decide)]; done) | (rw [if_pos hc8]; rfl)
    · rfl
    · first | rfl | (simp; done)
set_option maxRecDepth 4000 in
theorem c_M_factorOf {l : Launch} {h : sH} {x : Gd} {n t : Nat} {v : mV} (hm : h.2 61 = mO n t v) (hz : h.2 62 = iA 39 (nF (zN x))) (hx : Gok x) {k p : Nat} (hk : k < 2 ^ 63) (hp : p < 100) : sX l m_M_factorOf 0 [.ref 61, .long (lN k), .int (nI p)] h (some (.int (nI (fac x.1.2.2 k p)))) (h) := by
  have hM := hx.2.2.1.le
  have hR := hx.1
  have hC := hx.2.1
  have hb0 := lN_ne0 (b := x.1.2.2 - 1) (by omega) (by omega)
  refine en_M_factorOf ?_
  refine e_lload_1 (p' := 1) D_M_factorOf_0 rfl ?_
  refine e_lstore_4 (p' := 3) D_M_factorOf_1 (Nat.le_of_ble_eq_true rfl) rfl rfl ?_
  refine e_iconst (v := nI 1) (p' := 4) D_M_factorOf_3 cst_iconst_1 rfl ?_
  refine e_istore_6 (p' := 6) D_M_factorOf_4 (Nat.le_of_ble_eq_true rfl) rfl rfl ?_
  have lk6 : ∀ i : Nat, i ≤ p - 1 → sEv l m_M_factorOf 0 (0, 0, 0, 0) (sKm 0 0 (fun r1 h1 => r1 = some (.int (nI (fac x.1.2.2 k p))) ∧ h1 = h)) 6 [some (.ref 61), some (.long (lN k)), none, some (.int (nI p)), some (.long (lN (k / (x.1.2.2 - 1) ^ i))), none, some (.int (nI (i + 1)))] [] (h) := by
    refine lp_up _ ?_ ?_
    · skip
      refine e_iload_6 (p' := 8) D_M_factorOf_6 rfl ?_
      refine e_iload_3 (p' := 9) D_M_factorOf_8 rfl ?_
      refine e_icmpN_ge (q := 33) (p' := 12) D_M_factorOf_9 (by omega) (by omega) rfl rfl (fun hc9 => ?_) (fun hc9 => ?_)
      ·
        refine e_iload_3 (p' := 34) D_M_factorOf_33 rfl ?_
        refine e_ifN_ne (q := 41) (p' := 37) D_M_factorOf_34 (by omega) rfl rfl (fun hc34 => ?_) (fun hc34 => ?_)
        ·
          refine e_iconst (v := nI 1) (p' := 42) D_M_factorOf_41 cst_iconst_1 rfl ?_
          refine e_lload_4 (p' := 44) D_M_factorOf_42 rfl ?_
          refine e_aload_0 (p' := 45) D_M_factorOf_44 rfl ?_
          refine e_getfield (p' := 48) D_M_factorOf_45 F_M_7 (by first | assumption | exact sUp_eq | (rw [sUp_ne (by omega)]; assumption) | (rw [sUp_ne (by omega), sUp_ne (by omega)]; assumption) | (rw [sUp_ne (by omega)]; exact sUp_eq) | (rw [gSet_ne (by omega) (by omega)]; first | assumption | exact sUp_eq | (rw [sUp_ne (by omega)]; assumption) | (rw [sUp_ne (by omega), sUp_ne (by omega)]; assumption)) | (rw [sUp_ne (by omega), sUp_ne (by omega), sUp_ne (by omega)]; assumption) | (simp [sUp]; done)) (by rfl) rfl ?_
          refine e_bipush (v := nI 38) (p' := 50) D_M_factorOf_48 cst_bipush_38 rfl ?_
          refine e_iaload (p' := 51) D_M_factorOf_50 (by first | assumption | exact sUp_eq | (rw [sUp_ne (by omega)]; assumption) | (rw [sUp_ne (by omega), sUp_ne (by omega)]; assumption) | (rw [sUp_ne (by omega)]; exact sUp_eq) | (rw [gSet_ne (by omega) (by omega)]; first | assumption | exact sUp_eq | (rw [sUp_ne (by omega)]; assumption) | (rw [sUp_ne (by omega), sUp_ne (by omega)]; assumption)) | (rw [sUp_ne (by omega), sUp_ne (by omega), sUp_ne (by omega)]; assumption) | (simp [sUp]; done)) (by omega) (by omega) (by rfl) rfl ?_
          rw [z38]
          refine e_iconst (v := nI 1) (p' := 52) D_M_factorOf_51 cst_iconst_1 rfl ?_
          first | refine e_isubN (p' := 53) D_M_factorOf_52 (by omega) rfl ?_ | refine e_isub (p' := 53) D_M_factorOf_52 rfl ?_
          first | refine e_i2lN (p' := 54) D_M_factorOf_53 (by omega) rfl ?_ | refine e_i2l (p' := 54) D_M_factorOf_53 rfl rfl ?_
          refine e_lrem (p' := 55) D_M_factorOf_54 (by assumption) rfl ?_
          refine e_l2i (p' := 56) D_M_factorOf_55 rfl rfl ?_
          first | refine e_iaddN (p' := 57) D_M_factorOf_56 rfl ?_ | refine e_iadd (p' := 57) D_M_factorOf_56 rfl ?_
          refine e_ireturn (ty := .int) D_M_factorOf_57 rfl (by first | rfl | exact sBo_nar _) ⟨by decide, by decide⟩ ?_
          refine ⟨?_, rfl⟩
          rw [lN_rem (Nat.lt_of_le_of_lt (Nat.div_le_self _ _) hk) (by omega) (by omega), lN_i, nI_add]
          unfold fac
          rw [if_neg (by omega)]
        ·
          refine e_iconst (v := nI 1) (p' := 38) D_M_factorOf_37 cst_iconst_1 rfl ?_
          refine e_goto (p' := 57) D_M_factorOf_38 rfl ?_
          refine e_ireturn (ty := .int) D_M_factorOf_57 rfl (by first | rfl | exact sBo_nar _) ⟨by decide, by decide⟩ ?_
          unfold fac; rw [if_pos (by omega)]; exact ⟨rfl, rfl⟩
      ·
        exfalso; omega
    · intro i hi ih6 
      refine e_iload_6 (p' := 8) D_M_factorOf_6 rfl ?_
      refine e_iload_3 (p' := 9) D_M_factorOf_8 rfl ?_
      refine e_icmpN_ge (q := 33) (p' := 12) D_M_factorOf_9 (by omega) (by omega) rfl rfl (fun hc9 => ?_) (fun hc9 => ?_)
      ·
        exfalso; omega
      ·
        refine e_lload_4 (p' := 14) D_M_factorOf_12 rfl ?_
        refine e_aload_0 (p' := 15) D_M_factorOf_14 rfl ?_
        refine e_getfield (p' := 18) D_M_factorOf_15 F_M_7 (by first | assumption | exact sUp_eq | (rw [sUp_ne (by omega)]; assumption) | (rw [sUp_ne (by omega), sUp_ne (by omega)]; assumption) | (rw [sUp_ne (by omega)]; exact sUp_eq) | (rw [gSet_ne (by omega) (by omega)]; first | assumption | exact sUp_eq | (rw [sUp_ne (by omega)]; assumption) | (rw [sUp_ne (by omega), sUp_ne (by omega)]; assumption)) | (rw [sUp_ne (by omega), sUp_ne (by omega), sUp_ne (by omega)]; assumption) | (simp [sUp]; done)) (by rfl) rfl ?_
        refine e_bipush (v := nI 38) (p' := 20) D_M_factorOf_18 cst_bipush_38 rfl ?_
        refine e_iaload (p' := 21) D_M_factorOf_20 (by first | assumption | exact sUp_eq | (rw [sUp_ne (by omega)]; assumption) | (rw [sUp_ne (by omega), sUp_ne (by omega)]; assumption) | (rw [sUp_ne (by omega)]; exact sUp_eq) | (rw [gSet_ne (by omega) (by omega)]; first | assumption | exact sUp_eq | (rw [sUp_ne (by omega)]; assumption) | (rw [sUp_ne (by omega), sUp_ne (by omega)]; assumption)) | (rw [sUp_ne (by omega), sUp_ne (by omega), sUp_ne (by omega)]; assumption) | (simp [sUp]; done)) (by omega) (by omega) (by rfl) rfl ?_
        rw [z38]
        refine e_iconst (v := nI 1) (p' := 22) D_M_factorOf_21 cst_iconst_1 rfl ?_
        first | refine e_isubN (p' := 23) D_M_factorOf_22 (by omega) rfl ?_ | refine e_isub (p' := 23) D_M_factorOf_22 rfl ?_
        first | refine e_i2lN (p' := 24) D_M_factorOf_23 (by omega) rfl ?_ | refine e_i2l (p' := 24) D_M_factorOf_23 rfl rfl ?_
        refine e_ldiv (p' := 25) D_M_factorOf_24 (by assumption) rfl ?_
        refine e_lstore_4 (p' := 27) D_M_factorOf_25 (Nat.le_of_ble_eq_true rfl) rfl rfl ?_
        first | refine e_iincN_6 (n := 1) (p' := 30) D_M_factorOf_27 (Nat.le_of_ble_eq_true rfl) rfl rfl ?_ | refine e_iinc_6 (p' := 30) D_M_factorOf_27 (Nat.le_of_ble_eq_true rfl) rfl rfl rfl ?_
        refine e_goto (p' := 6) D_M_factorOf_30 rfl ?_
        refine sEv.castW (ih6) ?_ ?_ ?_
        · refine ⟨rfl, rfl, rfl, ?_, lvW_rfl _⟩
          rw [lN_div (Nat.lt_of_le_of_lt (Nat.div_le_self _ _) hk) (by omega) (by omega), Nat.div_div_eq_div_mul, ← Nat.pow_succ]
        · rfl
        · first | rfl | (simp; done)
  refine sEv.castW (lk6 0 (by omega) ) ?_ ?_ ?_
  · refine ⟨rfl, rfl, rfl, ?_, lvW_rfl _⟩
    rw [Nat.pow_zero, Nat.div_one]
  · rfl
  · first | rfl | (simp; done)
set_option maxRecDepth 4000 in
theorem c_M_completed {l : Launch} {h : sH} {st : St} (hI : MInv h st) (hS : StOk st) {k : Int64} {r c : Int32} : sY l m_M_completed 5 [.ref 61, .long k, .int r, .int c] h (some (.int (Vcompl st.1 k r c))) (MR h st) := by
  have hI0 := hI
  obtain ⟨hz, H⟩ := hI
  have H0 := H
  have hx := hS.1
  have hM := hx.2.2.1.le
  have hRr := hx.1
  have hCc := hx.2.1
  have hh6 := hS.2.1.1
  obtain ⟨⟨v, a1⟩, ⟨f, a2, b2⟩, ⟨f3, a3, b3⟩, ⟨f4, a4, b4⟩, ⟨f5, a5, b5⟩, ⟨f6, f7, f8, f9, a6, a7, a8, a9⟩, ⟨f10, a10⟩, ⟨f11, a11⟩, ⟨f12, a12⟩⟩ := H
  refine en_M_completed ?_
  refine e_aload_0 (p' := 1) D_M_completed_0 rfl ?_
  refine e_iload_3 (p' := 2) D_M_completed_1 rfl ?_
  refine e_iload_4 (p' := 4) D_M_completed_2 rfl ?_
  refine x_callV1 (p' := 7) D_M_completed_4 V_M_88 (c_M_isEntry a1 hz hx) rfl (by first | assumption | exact sUp_eq | (rw [sUp_ne (by omega)]; assumption) | (rw [sUp_ne (by omega), sUp_ne (by omega)]; assumption) | (rw [sUp_ne (by omega)]; exact sUp_eq) | (rw [gSet_ne (by omega) (by omega)]; first | assumption | exact sUp_eq | (rw [sUp_ne (by omega)]; assumption) | (rw [sUp_ne (by omega), sUp_ne (by omega)]; assumption)) | (rw [sUp_ne (by omega), sUp_ne (by omega), sUp_ne (by omega)]; assumption) | (simp [sUp]; done)) rfl (Nat.le_of_ble_eq_true rfl) (by decide) ⟨by decide, by decide⟩ rfl ?_
  refine e_ifB_eq (q := 25) (p' := 10) D_M_completed_7 rfl rfl (fun hc7 => ?_) (fun hc7 => ?_)
  ·
    refine e_iconst (v := (-1)) (p' := 26) D_M_completed_25 cst_iconst_m1 rfl ?_
    refine e_ireturn (ty := .int) D_M_completed_26 rfl (by first | rfl | exact sBo_nar _) ⟨by decide, by decide⟩ ?_
    unfold Vcompl; rw [if_pos (Or.inr (Or.inr hc7))]; exact ⟨rfl, hI0, FrK.rf⟩
  ·
    refine e_lload_1 (p' := 11) D_M_completed_10 rfl ?_
    refine e_lconst (v := lN 0) (p' := 12) D_M_completed_11 rfl rfl ?_
    refine e_lcmp (p' := 13) D_M_completed_12 rfl ?_
    refine e_if_lt (q := 25) (p' := 16) D_M_completed_13 rfl rfl (fun hc13 => ?_) (fun hc13 => ?_)
    ·
      refine e_iconst (v := (-1)) (p' := 26) D_M_completed_25 cst_iconst_m1 rfl ?_
      refine e_ireturn (ty := .int) D_M_completed_26 rfl (by first | rfl | exact sBo_nar _) ⟨by decide, by decide⟩ ?_
      unfold Vcompl; rw [if_pos (Or.inl ((lg_cmp_lt _ _).mp hc13))]; exact ⟨rfl, hI0, FrK.rf⟩
    ·
      refine e_lload_1 (p' := 17) D_M_completed_16 rfl ?_
      refine e_aload_0 (p' := 18) D_M_completed_17 rfl ?_
      refine y_callV1 (p' := 21) D_M_completed_18 V_M_165 (c_M_completions hz H0 hx) rfl (by first | assumption | exact sUp_eq | (rw [sUp_ne (by omega)]; assumption) | (rw [sUp_ne (by omega), sUp_ne (by omega)]; assumption) | (rw [sUp_ne (by omega)]; exact sUp_eq) | (rw [gSet_ne (by omega) (by omega)]; first | assumption | exact sUp_eq | (rw [sUp_ne (by omega)]; assumption) | (rw [sUp_ne (by omega), sUp_ne (by omega)]; assumption)) | (rw [sUp_ne (by omega), sUp_ne (by omega), sUp_ne (by omega)]; assumption) | (simp [sUp]; done)) rfl (Nat.le_of_ble_eq_true rfl) (by decide) ⟨by decide, by decide⟩ rfl ?_
      rintro h1 ⟨⟨⟨R1, Z1⟩, K1⟩, P1⟩
      obtain ⟨v1, m1⟩ := R1.1
      obtain ⟨e1, e2, e3, e4, p1, p2, p3, p4, PV⟩ := id P1
      refine e_lcmp (p' := 22) D_M_completed_21 rfl ?_
      refine e_if_lt (q := 27) (p' := 25) D_M_completed_22 rfl rfl (fun hc22 => ?_) (fun hc22 => ?_)
      ·
        obtain ⟨kr, kc, kr1, kc1, rfl, rfl⟩ := has_N hx hc7
        obtain ⟨n, kn1, rfl, kn2⟩ := lN_of (k := k) (fun q => hc13 ((lg_cmp_lt _ _).mpr q))
        have kn := lay_kn hx
        have lp := lay_pv hx
        have pb1 := (lp.2 kr).1
        have pb2 := (lp.2 kc).2
        have kz1 := kn.1 kr kr1
        have kz2 := kn.2 kc kc1
        have n1 := lp.1.1 kr kz1
        have n2 := lp.1.2 kc kz2
        have f1 := fac_lt (m := st.1.1.2.2) (n := n) (p := (lay st.1).1.1.1 kr - 1) (by omega)
        have f2 := fac_lt (m := st.1.1.2.2) (n := n) (p := (lay st.1).1.1.2 kc - 1) (by omega)
        have ob := ovr_le (m := st.1.1.2.2) (a := fac st.1.1.2.2 n ((lay st.1).1.1.2 kc - 1)) (st.1.1.2.2 - 1)
        have q1 := Nat.mod_lt ((lay st.1).1.2.1 kr * fac st.1.1.2.2 n ((lay st.1).1.1.1 kr - 1)) (y := st.1.1.2.2) (by omega)
        have q2 := Nat.mod_lt ((lay st.1).1.2.2 kc * ovr st.1.1.2.2 (fac st.1.1.2.2 n ((lay st.1).1.1.2 kc - 1)) (st.1.1.2.2 - 1)) (y := st.1.1.2.2) (by omega)
        refine e_aload_0 (p' := 28) D_M_completed_27 rfl ?_
        refine e_aload_0 (p' := 29) D_M_completed_28 rfl ?_
        refine e_getfield (p' := 32) D_M_completed_29 F_M_33 (by first | assumption | exact sUp_eq | (rw [sUp_ne (by omega)]; assumption) | (rw [sUp_ne (by omega), sUp_ne (by omega)]; assumption) | (rw [sUp_ne (by omega)]; exact sUp_eq) | (rw [gSet_ne (by omega) (by omega)]; first | assumption | exact sUp_eq | (rw [sUp_ne (by omega)]; assumption) | (rw [sUp_ne (by omega), sUp_ne (by omega)]; assumption)) | (rw [sUp_ne (by omega), sUp_ne (by omega), sUp_ne (by omega)]; assumption) | (simp [sUp]; done)) (by rfl) rfl ?_
        refine e_iload_3 (p' := 33) D_M_completed_32 rfl ?_
        refine e_iaload (p' := 34) D_M_completed_33 (by first | assumption | exact sUp_eq | (rw [sUp_ne (by omega)]; assumption) | (rw [sUp_ne (by omega), sUp_ne (by omega)]; assumption) | (rw [sUp_ne (by omega)]; exact sUp_eq) | (rw [gSet_ne (by omega) (by omega)]; first | assumption | exact sUp_eq | (rw [sUp_ne (by omega)]; assumption) | (rw [sUp_ne (by omega), sUp_ne (by omega)]; assumption)) | (rw [sUp_ne (by omega), sUp_ne (by omega), sUp_ne (by omega)]; assumption) | (simp [sUp]; done)) (by omega) (by omega) (by rfl) rfl ?_
        rw [(PV kr (by omega)).2.1]
        refine e_aload_0 (p' := 35) D_M_completed_34 rfl ?_
        refine e_lload_1 (p' := 36) D_M_completed_35 rfl ?_
        refine e_aload_0 (p' := 37) D_M_completed_36 rfl ?_
        refine e_getfield (p' := 40) D_M_completed_37 F_M_27 (by first | assumption | exact sUp_eq | (rw [sUp_ne (by omega)]; assumption) | (rw [sUp_ne (by omega), sUp_ne (by omega)]; assumption) | (rw [sUp_ne (by omega)]; exact sUp_eq) | (rw [gSet_ne (by omega) (by omega)]; first | assumption | exact sUp_eq | (rw [sUp_ne (by omega)]; assumption) | (rw [sUp_ne (by omega), sUp_ne (by omega)]; assumption)) | (rw [sUp_ne (by omega), sUp_ne (by omega), sUp_ne (by omega)]; assumption) | (simp [sUp]; done)) (by rfl) rfl ?_
        refine e_iload_3 (p' := 41) D_M_completed_40 rfl ?_
        refine e_iaload (p' := 42) D_M_completed_41 (by first | assumption | exact sUp_eq | (rw [sUp_ne (by omega)]; assumption) | (rw [sUp_ne (by omega), sUp_ne (by omega)]; assumption) | (rw [sUp_ne (by omega)]; exact sUp_eq) | (rw [gSet_ne (by omega) (by omega)]; first | assumption | exact sUp_eq | (rw [sUp_ne (by omega)]; assumption) | (rw [sUp_ne (by omega), sUp_ne (by omega)]; assumption)) | (rw [sUp_ne (by omega), sUp_ne (by omega), sUp_ne (by omega)]; assumption) | (simp [sUp]; done)) (by omega) (by omega) (by rfl) rfl ?_
        rw [(PV kr (by omega)).1.1, show pJ ((lay st.1).1.1.1 kr) = nI ((lay st.1).1.1.1 kr - 1) from if_neg kz1]
        refine x_callV1 (p' := 45) D_M_completed_42 V_M_169 (c_M_factorOf m1 Z1 hx kn1 (by omega)) rfl (by first | assumption | exact sUp_eq | (rw [sUp_ne (by omega)]; assumption) | (rw [sUp_ne (by omega), sUp_ne (by omega)]; assumption) | (rw [sUp_ne (by omega)]; exact sUp_eq) | (rw [gSet_ne (by omega) (by omega)]; first | assumption | exact sUp_eq | (rw [sUp_ne (by omega)]; assumption) | (rw [sUp_ne (by omega), sUp_ne (by omega)]; assumption)) | (rw [sUp_ne (by omega), sUp_ne (by omega), sUp_ne (by omega)]; assumption) | (simp [sUp]; done)) rfl (Nat.le_of_ble_eq_true rfl) (by decide) ⟨by decide, by decide⟩ rfl ?_
        refine x_callV1 (p' := 48) D_M_completed_45 V_M_63 (c_M_times m1 Z1 hx (by omega) (by omega)) rfl (by first | assumption | exact sUp_eq | (rw [sUp_ne (by omega)]; assumption) | (rw [sUp_ne (by omega), sUp_ne (by omega)]; assumption) | (rw [sUp_ne (by omega)]; exact sUp_eq) | (rw [gSet_ne (by omega) (by omega)]; first | assumption | exact sUp_eq | (rw [sUp_ne (by omega)]; assumption) | (rw [sUp_ne (by omega), sUp_ne (by omega)]; assumption)) | (rw [sUp_ne (by omega), sUp_ne (by omega), sUp_ne (by omega)]; assumption) | (simp [sUp]; done)) rfl (Nat.le_of_ble_eq_true rfl) (by decide) ⟨by decide, by decide⟩ rfl ?_
        refine e_istore_5 (p' := 50) D_M_completed_48 (Nat.le_of_ble_eq_true rfl) rfl rfl ?_
        refine e_aload_0 (p' := 51) D_M_completed_50 rfl ?_
        refine e_aload_0 (p' := 52) D_M_completed_51 rfl ?_
        refine e_getfield (p' := 55) D_M_completed_52 F_M_36 (by first | assumption | exact sUp_eq | (rw [sUp_ne (by omega)]; assumption) | (rw [sUp_ne (by omega), sUp_ne (by omega)]; assumption) | (rw [sUp_ne (by omega)]; exact sUp_eq) | (rw [gSet_ne (by omega) (by omega)]; first | assumption | exact sUp_eq | (rw [sUp_ne (by omega)]; assumption) | (rw [sUp_ne (by omega), sUp_ne (by omega)]; assumption)) | (rw [sUp_ne (by omega), sUp_ne (by omega), sUp_ne (by omega)]; assumption) | (simp [sUp]; done)) (by rfl) rfl ?_
        refine e_iload_4 (p' := 57) D_M_completed_55 rfl ?_
        refine e_iaload (p' := 58) D_M_completed_57 (by first | assumption | exact sUp_eq | (rw [sUp_ne (by omega)]; assumption) | (rw [sUp_ne (by omega), sUp_ne (by omega)]; assumption) | (rw [sUp_ne (by omega)]; exact sUp_eq) | (rw [gSet_ne (by omega) (by omega)]; first | assumption | exact sUp_eq | (rw [sUp_ne (by omega)]; assumption) | (rw [sUp_ne (by omega), sUp_ne (by omega)]; assumption)) | (rw [sUp_ne (by omega), sUp_ne (by omega), sUp_ne (by omega)]; assumption) | (simp [sUp]; done)) (by omega) (by omega) (by rfl) rfl ?_
        rw [(PV kc (by omega)).2.2]
        refine e_aload_0 (p' := 59) D_M_completed_58 rfl ?_
        refine e_aload_0 (p' := 60) D_M_completed_59 rfl ?_
        refine e_lload_1 (p' := 61) D_M_completed_60 rfl ?_
        refine e_aload_0 (p' := 62) D_M_completed_61 rfl ?_
        refine e_getfield (p' := 65) D_M_completed_62 F_M_30 (by first | assumption | exact sUp_eq | (rw [sUp_ne (by omega)]; assumption) | (rw [sUp_ne (by omega), sUp_ne (by omega)]; assumption) | (rw [sUp_ne (by omega)]; exact sUp_eq) | (rw [gSet_ne (by omega) (by omega)]; first | assumption | exact sUp_eq | (rw [sUp_ne (by omega)]; assumption) | (rw [sUp_ne (by omega), sUp_ne (by omega)]; assumption)) | (rw [sUp_ne (by omega), sUp_ne (by omega), sUp_ne (by omega)]; assumption) | (simp [sUp]; done)) (by rfl) rfl ?_
        refine e_iload_4 (p' := 67) D_M_completed_65 rfl ?_
        refine e_iaload (p' := 68) D_M_completed_67 (by first | assumption | exact sUp_eq | (rw [sUp_ne (by omega)]; assumption) | (rw [sUp_ne (by omega), sUp_ne (by omega)]; assumption) | (rw [sUp_ne (by omega)]; exact sUp_eq) | (rw [gSet_ne (by omega) (by omega)]; first | assumption | exact sUp_eq | (rw [sUp_ne (by omega)]; assumption) | (rw [sUp_ne (by omega), sUp_ne (by omega)]; assumption)) | (rw [sUp_ne (by omega), sUp_ne (by omega), sUp_ne (by omega)]; assumption) | (simp [sUp]; done)) (by omega) (by omega) (by rfl) rfl ?_
        rw [(PV kc (by omega)).1.2, show pJ ((lay st.1).1.1.2 kc) = nI ((lay st.1).1.1.2 kc - 1) from if_neg kz2]
        refine x_callV1 (p' := 71) D_M_completed_68 V_M_169 (c_M_factorOf m1 Z1 hx kn1 (by omega)) rfl (by first | assumption | exact sUp_eq | (rw [sUp_ne (by omega)]; assumption) | (rw [sUp_ne (by omega), sUp_ne (by omega)]; assumption) | (rw [sUp_ne (by omega)]; exact sUp_eq) | (rw [gSet_ne (by omega) (by omega)]; first | assumption | exact sUp_eq | (rw [sUp_ne (by omega)]; assumption) | (rw [sUp_ne (by omega), sUp_ne (by omega)]; assumption)) | (rw [sUp_ne (by omega), sUp_ne (by omega), sUp_ne (by omega)]; assumption) | (simp [sUp]; done)) rfl (Nat.le_of_ble_eq_true rfl) (by decide) ⟨by decide, by decide⟩ rfl ?_
        refine x_callV1 (p' := 74) D_M_completed_71 V_M_70 (c_M_over m1 Z1 hx (by omega)) rfl (by first | assumption | exact sUp_eq | (rw [sUp_ne (by omega)]; assumption) | (rw [sUp_ne (by omega), sUp_ne (by omega)]; assumption) | (rw [sUp_ne (by omega)]; exact sUp_eq) | (rw [gSet_ne (by omega) (by omega)]; first | assumption | exact sUp_eq | (rw [sUp_ne (by omega)]; assumption) | (rw [sUp_ne (by omega), sUp_ne (by omega)]; assumption)) | (rw [sUp_ne (by omega), sUp_ne (by omega), sUp_ne (by omega)]; assumption) | (simp [sUp]; done)) rfl (Nat.le_of_ble_eq_true rfl) (by decide) ⟨by decide, by decide⟩ rfl ?_
        refine x_callV1 (p' := 77) D_M_completed_74 V_M_63 (c_M_times m1 Z1 hx (by omega) (by omega)) rfl (by first | assumption | exact sUp_eq | (rw [sUp_ne (by omega)]; assumption) | (rw [sUp_ne (by omega), sUp_ne (by omega)]; assumption) | (rw [sUp_ne (by omega)]; exact sUp_eq) | (rw [gSet_ne (by omega) (by omega)]; first | assumption | exact sUp_eq | (rw [sUp_ne (by omega)]; assumption) | (rw [sUp_ne (by omega), sUp_ne (by omega)]; assumption)) | (rw [sUp_ne (by omega), sUp_ne (by omega), sUp_ne (by omega)]; assumption) | (simp [sUp]; done)) rfl (Nat.le_of_ble_eq_true rfl) (by decide) ⟨by decide, by decide⟩ rfl ?_
        refine e_istore_6 (p' := 79) D_M_completed_77 (Nat.le_of_ble_eq_true rfl) rfl rfl ?_
        refine e_aload_0 (p' := 80) D_M_completed_79 rfl ?_
        refine e_iload_5 (p' := 82) D_M_completed_80 rfl ?_
        refine e_iload_6 (p' := 84) D_M_completed_82 rfl ?_
        refine x_callV1 (p' := 87) D_M_completed_84 V_M_63 (c_M_times m1 Z1 hx (by omega) (by omega)) rfl (by first | assumption | exact sUp_eq | (rw [sUp_ne (by omega)]; assumption) | (rw [sUp_ne (by omega), sUp_ne (by omega)]; assumption) | (rw [sUp_ne (by omega)]; exact sUp_eq) | (rw [gSet_ne (by omega) (by omega)]; first | assumption | exact sUp_eq | (rw [sUp_ne (by omega)]; assumption) | (rw [sUp_ne (by omega), sUp_ne (by omega)]; assumption)) | (rw [sUp_ne (by omega), sUp_ne (by omega), sUp_ne (by omega)]; assumption) | (simp [sUp]; done)) rfl (Nat.le_of_ble_eq_true rfl) (by decide) ⟨by decide, by decide⟩ rfl ?_
        refine e_ireturn (ty := .int) D_M_completed_87 rfl (by first | rfl | exact sBo_nar _) ⟨by decide, by decide⟩ ?_
        unfold Vcompl
        rw [if_neg (fun q => by rcases q with q | q | q; exact hc13 ((lg_cmp_lt _ _).mpr q); exact absurd ((lg_cmp_lt _ _).mp hc22) (Int64.not_lt.mpr q); rw [hc7] at q; exact absurd q (by decide)), natOf_nI (by omega), natOf_nI (by omega), kn2, mod4]
        refine ⟨?_, ⟨Z1, R1⟩, K1⟩
        rw [ov_qt _ (by omega) hx.2.2.1 _ (Nat.mod_lt _ (by omega)) _ f2.2 (by omega)]
        rfl
      ·
        refine e_iconst (v := (-1)) (p' := 26) D_M_completed_25 cst_iconst_m1 rfl ?_
        refine e_ireturn (ty := .int) D_M_completed_26 rfl (by first | rfl | exact sBo_nar _) ⟨by decide, by decide⟩ ?_
        unfold Vcompl; rw [if_pos (Or.inr (Or.inl (Classical.byContradiction fun q => hc22 ((lg_cmp_lt _ _).mpr (Int64.not_le.mp q)))))]; exact ⟨rfl, ⟨Z1, R1⟩, K1⟩
