/-! ===== the reference: entry, part ===== -/
def Ou (x : Gd) (s : Ps) : Prop := (∀ k, x.1.1 ≤ k → s.1.1 k = 0) ∧ ∀ k, x.1.2.1 ≤ k → s.1.2 k = 0
theorem Ou.step {x : Gd} {r c : Nat} {s : Ps} (h : Ou x s) (hr : r < x.1.1) (hc : c < x.1.2.1) : Ou x (psStep x r c s) := by
  unfold psStep
  split
  · refine ⟨h.1, fun k hk => ?_⟩
    show up s.1.2 c _ k = 0
    rw [up_off (by omega)]; exact h.2 k hk
  · split
    · refine ⟨fun k hk => ?_, h.2⟩
      show up s.1.1 r _ k = 0
      rw [up_off (by omega)]; exact h.1 k hk
    · exact h
theorem ou_rdC {x : Gd} {r : Nat} {a : Ps × Bool} (h : Ou x a.1) (hr : r < x.1.1) : ∀ c, c ≤ x.1.2.1 → Ou x (rdC x r c a).1
  | 0, _ => h
  | c + 1, hc => (ou_rdC h hr c (by omega)).step hr (by omega)
theorem ou_rdR {x : Gd} {a : Ps × Bool} (h : Ou x a.1) : ∀ r, r ≤ x.1.1 → Ou x (rdR x r a).1
  | 0, _ => h
  | r + 1, hr => ou_rdC (ou_rdR h r (by omega)) (by omega) _ (Nat.le_refl _)
theorem ou_spr {x : Gd} {s : Ps} (h : Ou x s) : ∀ k, Ou x (spr x k s)
  | 0 => h
  | k + 1 => ou_rdR (a := (_, false)) (ou_spr h k) _ (Nat.le_refl _)
theorem ou_layR {x : Gd} : ∀ r, r ≤ x.1.1 → Ou x (layR x r).1
  | 0, _ => ⟨fun _ _ => rfl, fun _ _ => rfl⟩
  | r + 1, hr => by
    have ih := ou_layR (x := x) r (by omega)
    by_cases e : (layR x r).1.1.1 r = 0
    · rw [layR_go e]
      have key : Ou x (psRow (layR x r).1 r (layR x r).2) := by
        refine ⟨fun k hk => ?_, ih.2⟩
        show up (layR x r).1.1.1 r _ k = 0
        rw [up_off (by omega)]; exact ih.1 k hk
      exact ou_spr key _
    · rw [layR_skip e]; exact ih
theorem ou_layC {x : Gd} : ∀ c, c ≤ x.1.2.1 → Ou x (layC x c).1
  | 0, _ => ou_layR _ (Nat.le_refl _)
  | c + 1, hc => by
    have ih := ou_layC (x := x) c (by omega)
    by_cases e : (layC x c).1.1.2 c = 0
    · rw [layC_go e]
      refine ⟨ih.1, fun k hk => ?_⟩
      show up (layC x c).1.1.2 c _ k = 0
      rw [up_off (by omega)]; exact ih.2 k hk
    · rw [layC_skip e]; exact ih
theorem lay_ou {x : Gd} : Ou x (lay x).1 := ou_layC _ (Nat.le_refl _)
def ctF (x : Gd) (r c s d : Nat) : Nat := if s = r then 0 else if d = c then 0 else if mnr x r s c d then 1 else 0
theorem ctF_0 {x : Gd} {r c s d : Nat} (h : s = r ∨ d = c ∨ at' x r c = 0 ∨ at' x s c = 0 ∨ at' x r d = 0 ∨ at' x s d = 0) : ctF x r c s d = 0 := by
  unfold ctF mnr
  split
  · rfl
  · split
    · rfl
    · rename_i a b
      rcases h with h | h | h | h | h | h
      · exact absurd h a
      · exact absurd h b
      · rw [td_false h]; rfl
      · rw [td_false h]; simp
      · rw [td_false h]; simp
      · rw [td_false h]; simp
theorem ctF_1 {x : Gd} {r c s d : Nat} (h1 : ¬ s = r) (h2 : ¬ d = c) (h3 : ¬ at' x r c = 0) (h4 : ¬ at' x s c = 0) (h5 : ¬ at' x r d = 0) (h6 : ¬ at' x s d = 0) : ctF x r c s d = 1 := by
  unfold ctF mnr
  rw [if_neg h1, if_neg h2, td_true h3, td_true h4, td_true h5, td_true h6]
  rfl
theorem cth_F {x : Gd} {r c : Nat} : cth x r c = sm x.1.1 (fun s => sm x.1.2.1 (fun d => ctF x r c s d)) := rfl
theorem orI0 (m : Nat) : nI m ||| nI 0 = nI m := by
  refine Int32.toBitVec_inj.mp ?_
  rw [Int32.toBitVec_or]
  show BitVec.ofNat 32 m ||| BitVec.ofNat 32 0 = BitVec.ofNat 32 m
  rw [← BitVec.ofNat_or, Nat.or_zero]
set_option maxRecDepth 4000 in
theorem c_M_minorsWith {l : Launch} {h : sH} {x : Gd} {n t : Nat} {v : mV} (hm : h.2 61 = mO n t v) (hz : h.2 62 = iA 39 (nF (zN x))) (hx : Gok x) {r c : Nat} (hr : r < x.1.1) (hc : c < x.1.2.1) : sX l m_M_minorsWith 1 [.ref 61, .int (nI r), .int (nI c)] h (some (.int (nI (cth x r c)))) (h) := by
  have hM := hx.2.2.1.le
  have hR := hx.1
  have hC := hx.2.1
  have s1 := hx.small r c
  refine en_M_minorsWith ?_
  refine e_iconst (v := nI 0) (p' := 1) D_M_minorsWith_0 cst_iconst_0 rfl ?_
  refine e_istore_3 (p' := 2) D_M_minorsWith_1 (Nat.le_of_ble_eq_true rfl) rfl rfl ?_
  refine e_iconst (v := nI 0) (p' := 3) D_M_minorsWith_2 cst_iconst_0 rfl ?_
  refine e_istore_4 (p' := 5) D_M_minorsWith_3 (Nat.le_of_ble_eq_true rfl) rfl rfl ?_
  have lk5 : ∀ i : Nat, i ≤ x.1.1 → sEv l m_M_minorsWith 1 (0, 0, 0, 0) (sKm 0 0 (fun r1 h1 => r1 = some (.int (nI (cth x r c))) ∧ h1 = h)) 5 [some (.ref 61), some (.int (nI r)), some (.int (nI c)), some (.int (nI (sm i (fun s => sm x.1.2.1 (fun d => ctF x r c s d))))), some (.int (nI i)), none] [] (h) := by
    refine lp_up _ ?_ ?_
    · skip
      refine e_iload_4 (p' := 7) D_M_minorsWith_5 rfl ?_
      refine e_aload_0 (p' := 8) D_M_minorsWith_7 rfl ?_
      refine e_getfield (p' := 11) D_M_minorsWith_8 F_M_7 (by first | assumption | exact sUp_eq | (rw [sUp_ne (by omega)]; assumption) | (rw [sUp_ne (by omega), sUp_ne (by omega)]; assumption) | (rw [sUp_ne (by omega)]; exact sUp_eq) | (rw [gSet_ne (by omega) (by omega)]; first | assumption | exact sUp_eq | (rw [sUp_ne (by omega)]; assumption) | (rw [sUp_ne (by omega), sUp_ne (by omega)]; assumption)) | (rw [sUp_ne (by omega), sUp_ne (by omega), sUp_ne (by omega)]; assumption) | (simp [sUp]; done)) (by rfl) rfl ?_
      refine e_bipush (v := nI 36) (p' := 13) D_M_minorsWith_11 cst_bipush_36 rfl ?_
      refine e_iaload (p' := 14) D_M_minorsWith_13 (by first | assumption | exact sUp_eq | (rw [sUp_ne (by omega)]; assumption) | (rw [sUp_ne (by omega), sUp_ne (by omega)]; assumption) | (rw [sUp_ne (by omega)]; exact sUp_eq) | (rw [gSet_ne (by omega) (by omega)]; first | assumption | exact sUp_eq | (rw [sUp_ne (by omega)]; assumption) | (rw [sUp_ne (by omega), sUp_ne (by omega)]; assumption)) | (rw [sUp_ne (by omega), sUp_ne (by omega), sUp_ne (by omega)]; assumption) | (simp [sUp]; done)) (by omega) (by omega) (by rfl) rfl ?_
      rw [z36]
      refine e_icmpN_ge (q := 104) (p' := 17) D_M_minorsWith_14 (by omega) (by omega) rfl rfl (fun hc14 => ?_) (fun hc14 => ?_)
      ·
        refine e_iload_3 (p' := 105) D_M_minorsWith_104 rfl ?_
        refine e_ireturn (ty := .int) D_M_minorsWith_105 rfl (by first | rfl | exact sBo_nar _) ⟨by decide, by decide⟩ ?_
        rw [cth_F]; exact ⟨rfl, rfl⟩
      ·
        exfalso; omega
    · intro i hi ih5 
      refine e_iload_4 (p' := 7) D_M_minorsWith_5 rfl ?_
      refine e_aload_0 (p' := 8) D_M_minorsWith_7 rfl ?_
      refine e_getfield (p' := 11) D_M_minorsWith_8 F_M_7 (by first | assumption | exact sUp_eq | (rw [sUp_ne (by omega)]; assumption) | (rw [sUp_ne (by omega), sUp_ne (by omega)]; assumption) | (rw [sUp_ne (by omega)]; exact sUp_eq) | (rw [gSet_ne (by omega) (by omega)]; first | assumption | exact sUp_eq | (rw [sUp_ne (by omega)]; assumption) | (rw [sUp_ne (by omega), sUp_ne (by omega)]; assumption)) | (rw [sUp_ne (by omega), sUp_ne (by omega), sUp_ne (by omega)]; assumption) | (simp [sUp]; done)) (by rfl) rfl ?_
      refine e_bipush (v := nI 36) (p' := 13) D_M_minorsWith_11 cst_bipush_36 rfl ?_
      refine e_iaload (p' := 14) D_M_minorsWith_13 (by first | assumption | exact sUp_eq | (rw [sUp_ne (by omega)]; assumption) | (rw [sUp_ne (by omega), sUp_ne (by omega)]; assumption) | (rw [sUp_ne (by omega)]; exact sUp_eq) | (rw [gSet_ne (by omega) (by omega)]; first | assumption | exact sUp_eq | (rw [sUp_ne (by omega)]; assumption) | (rw [sUp_ne (by omega), sUp_ne (by omega)]; assumption)) | (rw [sUp_ne (by omega), sUp_ne (by omega), sUp_ne (by omega)]; assumption) | (simp [sUp]; done)) (by omega) (by omega) (by rfl) rfl ?_
      rw [z36]
      refine e_icmpN_ge (q := 104) (p' := 17) D_M_minorsWith_14 (by omega) (by omega) rfl rfl (fun hc14 => ?_) (fun hc14 => ?_)
      ·
        exfalso; omega
      ·
        refine e_iconst (v := nI 0) (p' := 18) D_M_minorsWith_17 cst_iconst_0 rfl ?_
        refine e_istore_5 (p' := 20) D_M_minorsWith_18 (Nat.le_of_ble_eq_true rfl) rfl rfl ?_
        have lk20 : ∀ j : Nat, j ≤ x.1.2.1 → sEv l m_M_minorsWith 1 (0, 0, 0, 0) (sKm 0 0 (fun r1 h1 => r1 = some (.int (nI (cth x r c))) ∧ h1 = h)) 20 [some (.ref 61), some (.int (nI r)), some (.int (nI c)), some (.int (nI (sm i (fun s => sm x.1.2.1 (fun d => ctF x r c s d)) + sm j (fun d => ctF x r c i d)))), some (.int (nI i)), some (.int (nI j))] [] (h) := by
          refine lp_up _ ?_ ?_
          · skip
            have s2 := hx.small i c
            have s3 := hx.small r (x.1.2.1)
            have s4 := hx.small i (x.1.2.1)
            refine e_iload_5 (p' := 22) D_M_minorsWith_20 rfl ?_
            refine e_aload_0 (p' := 23) D_M_minorsWith_22 rfl ?_
            refine e_getfield (p' := 26) D_M_minorsWith_23 F_M_7 (by first | assumption | exact sUp_eq | (rw [sUp_ne (by omega)]; assumption) | (rw [sUp_ne (by omega), sUp_ne (by omega)]; assumption) | (rw [sUp_ne (by omega)]; exact sUp_eq) | (rw [gSet_ne (by omega) (by omega)]; first | assumption | exact sUp_eq | (rw [sUp_ne (by omega)]; assumption) | (rw [sUp_ne (by omega), sUp_ne (by omega)]; assumption)) | (rw [sUp_ne (by omega), sUp_ne (by omega), sUp_ne (by omega)]; assumption) | (simp [sUp]; done)) (by rfl) rfl ?_
            refine e_bipush (v := nI 37) (p' := 28) D_M_minorsWith_26 cst_bipush_37 rfl ?_
            refine e_iaload (p' := 29) D_M_minorsWith_28 (by first | assumption | exact sUp_eq | (rw [sUp_ne (by omega)]; assumption) | (rw [sUp_ne (by omega), sUp_ne (by omega)]; assumption) | (rw [sUp_ne (by omega)]; exact sUp_eq) | (rw [gSet_ne (by omega) (by omega)]; first | assumption | exact sUp_eq | (rw [sUp_ne (by omega)]; assumption) | (rw [sUp_ne (by omega), sUp_ne (by omega)]; assumption)) | (rw [sUp_ne (by omega), sUp_ne (by omega), sUp_ne (by omega)]; assumption) | (simp [sUp]; done)) (by omega) (by omega) (by rfl) rfl ?_
            rw [z37]
            refine e_icmpN_ge (q := 98) (p' := 32) D_M_minorsWith_29 (by omega) (by omega) rfl rfl (fun hc29 => ?_) (fun hc29 => ?_)
            ·
              first | refine e_iincN_4 (n := 1) (p' := 101) D_M_minorsWith_98 (Nat.le_of_ble_eq_true rfl) rfl rfl ?_ | refine e_iinc_4 (p' := 101) D_M_minorsWith_98 (Nat.le_of_ble_eq_true rfl) rfl rfl rfl ?_
              refine e_goto (p' := 5) D_M_minorsWith_101 rfl ?_
              refine sEv.castW (ih5) ?_ ?_ ?_
              · exact ⟨rfl, rfl, rfl, rfl, rfl, trivial⟩
              · rfl
              · first | rfl | (simp; done)
            ·
              exfalso; omega
          · intro j hj ih20 
            have s2 := hx.small i c
            have s3 := hx.small r j
            have s4 := hx.small i j
            refine e_iload_5 (p' := 22) D_M_minorsWith_20 rfl ?_
            refine e_aload_0 (p' := 23) D_M_minorsWith_22 rfl ?_
            refine e_getfield (p' := 26) D_M_minorsWith_23 F_M_7 (by first | assumption | exact sUp_eq | (rw [sUp_ne (by omega)]; assumption) | (rw [sUp_ne (by omega), sUp_ne (by omega)]; assumption) | (rw [sUp_ne (by omega)]; exact sUp_eq) | (rw [gSet_ne (by omega) (by omega)]; first | assumption | exact sUp_eq | (rw [sUp_ne (by omega)]; assumption) | (rw [sUp_ne (by omega), sUp_ne (by omega)]; assumption)) | (rw [sUp_ne (by omega), sUp_ne (by omega), sUp_ne (by omega)]; assumption) | (simp [sUp]; done)) (by rfl) rfl ?_
            refine e_bipush (v := nI 37) (p' := 28) D_M_minorsWith_26 cst_bipush_37 rfl ?_
            refine e_iaload (p' := 29) D_M_minorsWith_28 (by first | assumption | exact sUp_eq | (rw [sUp_ne (by omega)]; assumption) | (rw [sUp_ne (by omega), sUp_ne (by omega)]; assumption) | (rw [sUp_ne (by omega)]; exact sUp_eq) | (rw [gSet_ne (by omega) (by omega)]; first | assumption | exact sUp_eq | (rw [sUp_ne (by omega)]; assumption) | (rw [sUp_ne (by omega), sUp_ne (by omega)]; assumption)) | (rw [sUp_ne (by omega), sUp_ne (by omega), sUp_ne (by omega)]; assumption) | (simp [sUp]; done)) (by omega) (by omega) (by rfl) rfl ?_
            rw [z37]
            refine e_icmpN_ge (q := 98) (p' := 32) D_M_minorsWith_29 (by omega) (by omega) rfl rfl (fun hc29 => ?_) (fun hc29 => ?_)
            ·
              exfalso; omega
            ·
              refine e_iload_3 (p' := 33) D_M_minorsWith_32 rfl ?_
              refine e_iload_4 (p' := 35) D_M_minorsWith_33 rfl ?_
              refine e_iload_1 (p' := 36) D_M_minorsWith_35 rfl ?_
              refine e_icmpN_eq (q := 89) (p' := 39) D_M_minorsWith_36 (by omega) (by omega) rfl rfl (fun hc36 => ?_) (fun hc36 => ?_)
              ·
                refine e_iconst (v := nI 0) (p' := 90) D_M_minorsWith_89 cst_iconst_0 rfl ?_
                first | refine e_iaddN (p' := 91) D_M_minorsWith_90 rfl ?_ | refine e_iadd (p' := 91) D_M_minorsWith_90 rfl ?_
                refine e_istore_3 (p' := 92) D_M_minorsWith_91 (Nat.le_of_ble_eq_true rfl) rfl rfl ?_
                first | refine e_iincN_5 (n := 1) (p' := 95) D_M_minorsWith_92 (Nat.le_of_ble_eq_true rfl) rfl rfl ?_ | refine e_iinc_5 (p' := 95) D_M_minorsWith_92 (Nat.le_of_ble_eq_true rfl) rfl rfl rfl ?_
                refine e_goto (p' := 20) D_M_minorsWith_95 rfl ?_
                refine sEv.castW (ih20) ?_ ?_ ?_
                · refine ⟨rfl, rfl, rfl, ?_, rfl, rfl, trivial⟩
                  rw [sm_succ, ctF_0 (Or.inl (by omega)), Nat.add_assoc]
                · rfl
                · first | rfl | (simp; done)
              ·
                refine e_iload_5 (p' := 41) D_M_minorsWith_39 rfl ?_
                refine e_iload_2 (p' := 42) D_M_minorsWith_41 rfl ?_
                refine e_icmpN_eq (q := 89) (p' := 45) D_M_minorsWith_42 (by omega) (by omega) rfl rfl (fun hc42 => ?_) (fun hc42 => ?_)
                ·
                  refine e_iconst (v := nI 0) (p' := 90) D_M_minorsWith_89 cst_iconst_0 rfl ?_
                  first | refine e_iaddN (p' := 91) D_M_minorsWith_90 rfl ?_ | refine e_iadd (p' := 91) D_M_minorsWith_90 rfl ?_
                  refine e_istore_3 (p' := 92) D_M_minorsWith_91 (Nat.le_of_ble_eq_true rfl) rfl rfl ?_
                  first | refine e_iincN_5 (n := 1) (p' := 95) D_M_minorsWith_92 (Nat.le_of_ble_eq_true rfl) rfl rfl ?_ | refine e_iinc_5 (p' := 95) D_M_minorsWith_92 (Nat.le_of_ble_eq_true rfl) rfl rfl rfl ?_
                  refine e_goto (p' := 20) D_M_minorsWith_95 rfl ?_
                  refine sEv.castW (ih20) ?_ ?_ ?_
                  · refine ⟨rfl, rfl, rfl, ?_, rfl, rfl, trivial⟩
                    rw [sm_succ, ctF_0 (Or.inr (Or.inl (by omega))), Nat.add_assoc]
                  · rfl
                  · first | rfl | (simp; done)
                ·
                  refine e_aload_0 (p' := 46) D_M_minorsWith_45 rfl ?_
                  refine e_iload_1 (p' := 47) D_M_minorsWith_46 rfl ?_
                  refine e_iload_2 (p' := 48) D_M_minorsWith_47 rfl ?_
                  refine x_callV1 (p' := 51) D_M_minorsWith_48 V_M_67 (c_M_at hm hz hx (by omega) (by omega)) rfl (by first | assumption | exact sUp_eq | (rw [sUp_ne (by omega)]; assumption) | (rw [sUp_ne (by omega), sUp_ne (by omega)]; assumption) | (rw [sUp_ne (by omega)]; exact sUp_eq) | (rw [gSet_ne (by omega) (by omega)]; first | assumption | exact sUp_eq | (rw [sUp_ne (by omega)]; assumption) | (rw [sUp_ne (by omega), sUp_ne (by omega)]; assumption)) | (rw [sUp_ne (by omega), sUp_ne (by omega), sUp_ne (by omega)]; assumption) | (simp [sUp]; done)) rfl (Nat.le_of_ble_eq_true rfl) (by decide) ⟨by decide, by decide⟩ rfl ?_
                  refine e_ifN_le (q := 89) (p' := 54) D_M_minorsWith_51 (by omega) rfl rfl (fun hc51 => ?_) (fun hc51 => ?_)
                  ·
                    refine e_iconst (v := nI 0) (p' := 90) D_M_minorsWith_89 cst_iconst_0 rfl ?_
                    first | refine e_iaddN (p' := 91) D_M_minorsWith_90 rfl ?_ | refine e_iadd (p' := 91) D_M_minorsWith_90 rfl ?_
                    refine e_istore_3 (p' := 92) D_M_minorsWith_91 (Nat.le_of_ble_eq_true rfl) rfl rfl ?_
                    first | refine e_iincN_5 (n := 1) (p' := 95) D_M_minorsWith_92 (Nat.le_of_ble_eq_true rfl) rfl rfl ?_ | refine e_iinc_5 (p' := 95) D_M_minorsWith_92 (Nat.le_of_ble_eq_true rfl) rfl rfl rfl ?_
                    refine e_goto (p' := 20) D_M_minorsWith_95 rfl ?_
                    refine sEv.castW (ih20) ?_ ?_ ?_
                    · refine ⟨rfl, rfl, rfl, ?_, rfl, rfl, trivial⟩
                      rw [sm_succ, ctF_0 (Or.inr (Or.inr (Or.inl (by omega)))), Nat.add_assoc]
                    · rfl
                    · first | rfl | (simp; done)
                  ·
                    refine e_aload_0 (p' := 55) D_M_minorsWith_54 rfl ?_
                    refine e_iload_4 (p' := 57) D_M_minorsWith_55 rfl ?_
                    refine e_iload_2 (p' := 58) D_M_minorsWith_57 rfl ?_
                    refine x_callV1 (p' := 61) D_M_minorsWith_58 V_M_67 (c_M_at hm hz hx (by omega) (by omega)) rfl (by first | assumption | exact sUp_eq | (rw [sUp_ne (by omega)]; assumption) | (rw [sUp_ne (by omega), sUp_ne (by omega)]; assumption) | (rw [sUp_ne (by omega)]; exact sUp_eq) | (rw [gSet_ne (by omega) (by omega)]; first | assumption | exact sUp_eq | (rw [sUp_ne (by omega)]; assumption) | (rw [sUp_ne (by omega), sUp_ne (by omega)]; assumption)) | (rw [sUp_ne (by omega), sUp_ne (by omega), sUp_ne (by omega)]; assumption) | (simp [sUp]; done)) rfl (Nat.le_of_ble_eq_true rfl) (by decide) ⟨by decide, by decide⟩ rfl ?_
                    refine e_ifN_le (q := 89) (p' := 64) D_M_minorsWith_61 (by omega) rfl rfl (fun hc61 => ?_) (fun hc61 => ?_)
                    ·
                      refine e_iconst (v := nI 0) (p' := 90) D_M_minorsWith_89 cst_iconst_0 rfl ?_
                      first | refine e_iaddN (p' := 91) D_M_minorsWith_90 rfl ?_ | refine e_iadd (p' := 91) D_M_minorsWith_90 rfl ?_
                      refine e_istore_3 (p' := 92) D_M_minorsWith_91 (Nat.le_of_ble_eq_true rfl) rfl rfl ?_
                      first | refine e_iincN_5 (n := 1) (p' := 95) D_M_minorsWith_92 (Nat.le_of_ble_eq_true rfl) rfl rfl ?_ | refine e_iinc_5 (p' := 95) D_M_minorsWith_92 (Nat.le_of_ble_eq_true rfl) rfl rfl rfl ?_
                      refine e_goto (p' := 20) D_M_minorsWith_95 rfl ?_
                      refine sEv.castW (ih20) ?_ ?_ ?_
                      · refine ⟨rfl, rfl, rfl, ?_, rfl, rfl, trivial⟩
                        rw [sm_succ, ctF_0 (Or.inr (Or.inr (Or.inr (Or.inl (by omega))))), Nat.add_assoc]
                      · rfl
                      · first | rfl | (simp; done)
                    ·
                      refine e_aload_0 (p' := 65) D_M_minorsWith_64 rfl ?_
                      refine e_iload_1 (p' := 66) D_M_minorsWith_65 rfl ?_
                      refine e_iload_5 (p' := 68) D_M_minorsWith_66 rfl ?_
                      refine x_callV1 (p' := 71) D_M_minorsWith_68 V_M_67 (c_M_at hm hz hx (by omega) (by omega)) rfl (by first | assumption | exact sUp_eq | (rw [sUp_ne (by omega)]; assumption) | (rw [sUp_ne (by omega), sUp_ne (by omega)]; assumption) | (rw [sUp_ne (by omega)]; exact sUp_eq) | (rw [gSet_ne (by omega) (by omega)]; first | assumption | exact sUp_eq | (rw [sUp_ne (by omega)]; assumption) | (rw [sUp_ne (by omega), sUp_ne (by omega)]; assumption)) | (rw [sUp_ne (by omega), sUp_ne (by omega), sUp_ne (by omega)]; assumption) | (simp [sUp]; done)) rfl (Nat.le_of_ble_eq_true rfl) (by decide) ⟨by decide, by decide⟩ rfl ?_
                      refine e_ifN_le (q := 89) (p' := 74) D_M_minorsWith_71 (by omega) rfl rfl (fun hc71 => ?_) (fun hc71 => ?_)
                      ·
                        refine e_iconst (v := nI 0) (p' := 90) D_M_minorsWith_89 cst_iconst_0 rfl ?_
                        first | refine e_iaddN (p' := 91) D_M_minorsWith_90 rfl ?_ | refine e_iadd (p' := 91) D_M_minorsWith_90 rfl ?_
                        refine e_istore_3 (p' := 92) D_M_minorsWith_91 (Nat.le_of_ble_eq_true rfl) rfl rfl ?_
                        first | refine e_iincN_5 (n := 1) (p' := 95) D_M_minorsWith_92 (Nat.le_of_ble_eq_true rfl) rfl rfl ?_ | refine e_iinc_5 (p' := 95) D_M_minorsWith_92 (Nat.le_of_ble_eq_true rfl) rfl rfl rfl ?_
                        refine e_goto (p' := 20) D_M_minorsWith_95 rfl ?_
                        refine sEv.castW (ih20) ?_ ?_ ?_
                        · refine ⟨rfl, rfl, rfl, ?_, rfl, rfl, trivial⟩
                          rw [sm_succ, ctF_0 (Or.inr (Or.inr (Or.inr (Or.inr (Or.inl (by omega)))))), Nat.add_assoc]
                        · rfl
                        · first | rfl | (simp; done)
                      ·
                        refine e_aload_0 (p' := 75) D_M_minorsWith_74 rfl ?_
                        refine e_iload_4 (p' := 77) D_M_minorsWith_75 rfl ?_
                        refine e_iload_5 (p' := 79) D_M_minorsWith_77 rfl ?_
                        refine x_callV1 (p' := 82) D_M_minorsWith_79 V_M_67 (c_M_at hm hz hx (by omega) (by omega)) rfl (by first | assumption | exact sUp_eq | (rw [sUp_ne (by omega)]; assumption) | (rw [sUp_ne (by omega), sUp_ne (by omega)]; assumption) | (rw [sUp_ne (by omega)]; exact sUp_eq) | (rw [gSet_ne (by omega) (by omega)]; first | assumption | exact sUp_eq | (rw [sUp_ne (by omega)]; assumption) | (rw [sUp_ne (by omega), sUp_ne (by omega)]; assumption)) | (rw [sUp_ne (by omega), sUp_ne (by omega), sUp_ne (by omega)]; assumption) | (simp [sUp]; done)) rfl (Nat.le_of_ble_eq_true rfl) (by decide) ⟨by decide, by decide⟩ rfl ?_
                        refine e_ifN_le (q := 89) (p' := 85) D_M_minorsWith_82 (by omega) rfl rfl (fun hc82 => ?_) (fun hc82 => ?_)
                        ·
                          refine e_iconst (v := nI 0) (p' := 90) D_M_minorsWith_89 cst_iconst_0 rfl ?_
                          first | refine e_iaddN (p' := 91) D_M_minorsWith_90 rfl ?_ | refine e_iadd (p' := 91) D_M_minorsWith_90 rfl ?_
                          refine e_istore_3 (p' := 92) D_M_minorsWith_91 (Nat.le_of_ble_eq_true rfl) rfl rfl ?_
                          first | refine e_iincN_5 (n := 1) (p' := 95) D_M_minorsWith_92 (Nat.le_of_ble_eq_true rfl) rfl rfl ?_ | refine e_iinc_5 (p' := 95) D_M_minorsWith_92 (Nat.le_of_ble_eq_true rfl) rfl rfl rfl ?_
                          refine e_goto (p' := 20) D_M_minorsWith_95 rfl ?_
                          refine sEv.castW (ih20) ?_ ?_ ?_
                          · refine ⟨rfl, rfl, rfl, ?_, rfl, rfl, trivial⟩
                            rw [sm_succ, ctF_0 (Or.inr (Or.inr (Or.inr (Or.inr (Or.inr (by omega)))))), Nat.add_assoc]
                          · rfl
                          · first | rfl | (simp; done)
                        ·
                          refine e_iconst (v := nI 1) (p' := 86) D_M_minorsWith_85 cst_iconst_1 rfl ?_
                          refine e_goto (p' := 90) D_M_minorsWith_86 rfl ?_
                          first | refine e_iaddN (p' := 91) D_M_minorsWith_90 rfl ?_ | refine e_iadd (p' := 91) D_M_minorsWith_90 rfl ?_
                          refine e_istore_3 (p' := 92) D_M_minorsWith_91 (Nat.le_of_ble_eq_true rfl) rfl rfl ?_
                          first | refine e_iincN_5 (n := 1) (p' := 95) D_M_minorsWith_92 (Nat.le_of_ble_eq_true rfl) rfl rfl ?_ | refine e_iinc_5 (p' := 95) D_M_minorsWith_92 (Nat.le_of_ble_eq_true rfl) rfl rfl rfl ?_
                          refine e_goto (p' := 20) D_M_minorsWith_95 rfl ?_
                          refine sEv.castW (ih20) ?_ ?_ ?_
                          · refine ⟨rfl, rfl, rfl, ?_, rfl, rfl, trivial⟩
                            rw [sm_succ, ctF_1 hc36 hc42 (by omega) (by omega) (by omega) (by omega), Nat.add_assoc]
                          · rfl
                          · first | rfl | (simp; done)
        refine sEv.castW (lk20 0 (by omega) ) ?_ ?_ ?_
        · exact ⟨rfl, rfl, rfl, rfl, rfl, rfl, trivial⟩
        · rfl
        · first | rfl | (simp; done)
  refine sEv.castW (lk5 0 (by omega) ) ?_ ?_ ?_
  · exact ⟨rfl, rfl, rfl, rfl, rfl, trivial⟩
  · rfl
  · first | rfl | (simp; done)
set_option maxRecDepth 4000 in
theorem c_M_entry {l : Launch} {h : sH} {st : St} (hI : MInv h st) (hS : StOk st) {r c w : Int32} : sY l m_M_entry 6 [.ref 61, .int r, .int c, .int w] h (some (.int (Ventry st.1 r c w))) (MR h st) := by
  have hI0 := hI
  obtain ⟨hz, H⟩ := hI
  have H0 := H
  have hx := hS.1
  have hM := hx.2.2.1.le
  have hRr := hx.1
  have hCc := hx.2.1
  have hh6 := hS.2.1.1
  obtain ⟨⟨v, a1⟩, ⟨f, a2, b2⟩, ⟨f3, a3, b3⟩, ⟨f4, a4, b4⟩, ⟨f5, a5, b5⟩, ⟨f6, f7, f8, f9, a6, a7, a8, a9⟩, ⟨f10, a10⟩, ⟨f11, a11⟩, ⟨f12, a12⟩⟩ := H
  refine en_M_entry ?_
  refine e_aload_0 (p' := 1) D_M_entry_0 rfl ?_
  refine e_iload_1 (p' := 2) D_M_entry_1 rfl ?_
  refine e_iload_2 (p' := 3) D_M_entry_2 rfl ?_
  refine x_callV1 (p' := 6) D_M_entry_3 V_M_88 (c_M_isEntry a1 hz hx) rfl (by first | assumption | exact sUp_eq | (rw [sUp_ne (by omega)]; assumption) | (rw [sUp_ne (by omega), sUp_ne (by omega)]; assumption) | (rw [sUp_ne (by omega)]; exact sUp_eq) | (rw [gSet_ne (by omega) (by omega)]; first | assumption | exact sUp_eq | (rw [sUp_ne (by omega)]; assumption) | (rw [sUp_ne (by omega), sUp_ne (by omega)]; assumption)) | (rw [sUp_ne (by omega), sUp_ne (by omega), sUp_ne (by omega)]; assumption) | (simp [sUp]; done)) rfl (Nat.le_of_ble_eq_true rfl) (by decide) ⟨by decide, by decide⟩ rfl ?_
  refine e_ifB_ne (q := 11) (p' := 9) D_M_entry_6 rfl rfl (fun hc6 => ?_) (fun hc6 => ?_)
  ·
    have hc9 := hc6
    obtain ⟨kr, kc, kr1, kc1, rfl, rfl⟩ := has_N hx hc6
    refine e_iload_3 (p' := 12) D_M_entry_11 rfl ?_
    by_cases hw12_0 : w = nI 0
    · subst hw12_0
      refine e_tsIn (off := 32) (p' := 44) D_M_entry_12 (by decide) (by decide) rfl rfl ?_
      refine e_aload_0 (p' := 45) D_M_entry_44 rfl ?_
      refine e_iload_1 (p' := 46) D_M_entry_45 rfl ?_
      refine e_iload_2 (p' := 47) D_M_entry_46 rfl ?_
      refine x_callV1 (p' := 50) D_M_entry_47 V_M_67 (c_M_at a1 hz hx (by omega) (by omega)) rfl (by first | assumption | exact sUp_eq | (rw [sUp_ne (by omega)]; assumption) | (rw [sUp_ne (by omega), sUp_ne (by omega)]; assumption) | (rw [sUp_ne (by omega)]; exact sUp_eq) | (rw [gSet_ne (by omega) (by omega)]; first | assumption | exact sUp_eq | (rw [sUp_ne (by omega)]; assumption) | (rw [sUp_ne (by omega), sUp_ne (by omega)]; assumption)) | (rw [sUp_ne (by omega), sUp_ne (by omega), sUp_ne (by omega)]; assumption) | (simp [sUp]; done)) rfl (Nat.le_of_ble_eq_true rfl) (by decide) ⟨by decide, by decide⟩ rfl ?_
      refine e_ireturn (ty := .int) D_M_entry_50 rfl (by first | rfl | exact sBo_nar _) ⟨by decide, by decide⟩ ?_
      rw [show Ventry st.1 (nI kr) (nI kc) (nI 0) = nI (at' st.1 kr kc) from by unfold Ventry; rw [if_neg (by rw [hc9]; decide), natOf_nI (by omega), natOf_nI (by omega), if_pos rfl]]
      exact ⟨rfl, hI0, FrK.rf⟩
    by_cases hw12_1 : w = nI 1
    · subst hw12_1
      refine e_tsIn (off := 39) (p' := 51) D_M_entry_12 (by decide) (by decide) rfl rfl ?_
      refine e_aload_0 (p' := 52) D_M_entry_51 rfl ?_
      refine e_iload_1 (p' := 53) D_M_entry_52 rfl ?_
      refine e_iload_2 (p' := 54) D_M_entry_53 rfl ?_
      refine y_callV1 (p' := 57) D_M_entry_54 V_M_92 (c_M_follows hz H0 hx kr1 kc1) rfl (by first | assumption | exact sUp_eq | (rw [sUp_ne (by omega)]; assumption) | (rw [sUp_ne (by omega), sUp_ne (by omega)]; assumption) | (rw [sUp_ne (by omega)]; exact sUp_eq) | (rw [gSet_ne (by omega) (by omega)]; first | assumption | exact sUp_eq | (rw [sUp_ne (by omega)]; assumption) | (rw [sUp_ne (by omega), sUp_ne (by omega)]; assumption)) | (rw [sUp_ne (by omega), sUp_ne (by omega), sUp_ne (by omega)]; assumption) | (simp [sUp]; done)) rfl (Nat.le_of_ble_eq_true rfl) (by decide) ⟨by decide, by decide⟩ rfl ?_
      rintro h1 ⟨⟨R1, Z1⟩, K1⟩
      refine e_ireturn (ty := .int) D_M_entry_57 rfl (by first | rfl | exact sBo_nar _) ⟨by decide, by decide⟩ ?_
      rw [show Ventry st.1 (nI kr) (nI kc) (nI 1) = fol st.1 kr kc from by unfold Ventry; rw [if_neg (by rw [hc9]; decide), natOf_nI (by omega), natOf_nI (by omega), if_neg (by decide), if_pos rfl]]
      exact ⟨rfl, ⟨Z1, R1⟩, K1⟩
    by_cases hw12_2 : w = nI 2
    · subst hw12_2
      refine e_tsIn (off := 46) (p' := 58) D_M_entry_12 (by decide) (by decide) rfl rfl ?_
      refine e_aload_0 (p' := 59) D_M_entry_58 rfl ?_
      refine e_iload_1 (p' := 60) D_M_entry_59 rfl ?_
      refine e_iload_2 (p' := 61) D_M_entry_60 rfl ?_
      refine y_callV1 (p' := 64) D_M_entry_61 V_M_95 (c_M_followsWithout hz H0 hx kr1 kc1) rfl (by first | assumption | exact sUp_eq | (rw [sUp_ne (by omega)]; assumption) | (rw [sUp_ne (by omega), sUp_ne (by omega)]; assumption) | (rw [sUp_ne (by omega)]; exact sUp_eq) | (rw [gSet_ne (by omega) (by omega)]; first | assumption | exact sUp_eq | (rw [sUp_ne (by omega)]; assumption) | (rw [sUp_ne (by omega), sUp_ne (by omega)]; assumption)) | (rw [sUp_ne (by omega), sUp_ne (by omega), sUp_ne (by omega)]; assumption) | (simp [sUp]; done)) rfl (Nat.le_of_ble_eq_true rfl) (by decide) ⟨by decide, by decide⟩ rfl ?_
      rintro h1 ⟨⟨R1, Z1⟩, K1⟩
      refine e_ireturn (ty := .int) D_M_entry_64 rfl (by first | rfl | exact sBo_nar _) ⟨by decide, by decide⟩ ?_
      rw [show Ventry st.1 (nI kr) (nI kc) (nI 2) = fol (upd1 st.1 kr kc 0) kr kc from by unfold Ventry; rw [if_neg (by rw [hc9]; decide), natOf_nI (by omega), natOf_nI (by omega), if_neg (by decide), if_neg (by decide), if_pos rfl]]
      exact ⟨rfl, ⟨Z1, R1⟩, K1⟩
    by_cases hw12_3 : w = nI 3
    · subst hw12_3
      refine e_tsIn (off := 53) (p' := 65) D_M_entry_12 (by decide) (by decide) rfl rfl ?_
      refine e_aload_0 (p' := 66) D_M_entry_65 rfl ?_
      refine e_iload_1 (p' := 67) D_M_entry_66 rfl ?_
      refine e_iload_2 (p' := 68) D_M_entry_67 rfl ?_
      refine x_callV1 (p' := 71) D_M_entry_68 V_M_98 (c_M_minorsWith a1 hz hx kr1 kc1) rfl (by first | assumption | exact sUp_eq | (rw [sUp_ne (by omega)]; assumption) | (rw [sUp_ne (by omega), sUp_ne (by omega)]; assumption) | (rw [sUp_ne (by omega)]; exact sUp_eq) | (rw [gSet_ne (by omega) (by omega)]; first | assumption | exact sUp_eq | (rw [sUp_ne (by omega)]; assumption) | (rw [sUp_ne (by omega), sUp_ne (by omega)]; assumption)) | (rw [sUp_ne (by omega), sUp_ne (by omega), sUp_ne (by omega)]; assumption) | (simp [sUp]; done)) rfl (Nat.le_of_ble_eq_true rfl) (by decide) ⟨by decide, by decide⟩ rfl ?_
      refine e_ireturn (ty := .int) D_M_entry_71 rfl (by first | rfl | exact sBo_nar _) ⟨by decide, by decide⟩ ?_
      rw [show Ventry st.1 (nI kr) (nI kc) (nI 3) = nI (cth st.1 kr kc) from by unfold Ventry; rw [if_neg (by rw [hc9]; decide), natOf_nI (by omega), natOf_nI (by omega), if_neg (by decide), if_neg (by decide), if_neg (by decide), if_pos rfl]]
      exact ⟨rfl, hI0, FrK.rf⟩
    refine e_tsOut (p' := 72) D_M_entry_12 (ts_out (n := 3) (by omega) (fun k hk => by rcases (show k = 0 ∨ k = 1 ∨ k = 2 ∨ k = 3 by omega) with rfl | rfl | rfl | rfl <;> assumption)) rfl ?_
    refine e_bipush (v := (-2)) (p' := 74) D_M_entry_72 cst_bipush_m2 rfl ?_
    refine e_ireturn (ty := .int) D_M_entry_74 rfl (by first | rfl | exact sBo_nar _) ⟨by decide, by decide⟩ ?_
    unfold Ventry
    rw [if_neg (by rw [hc9]; decide), if_neg hw12_0, if_neg hw12_1, if_neg hw12_2, if_neg hw12_3]
    exact ⟨rfl, hI0, FrK.rf⟩
  ·
    refine e_iconst (v := (-1)) (p' := 10) D_M_entry_9 cst_iconst_m1 rfl ?_
    refine e_ireturn (ty := .int) D_M_entry_10 rfl (by first | rfl | exact sBo_nar _) ⟨by decide, by decide⟩ ?_
    unfold Ventry; rw [if_pos hc6]; exact ⟨rfl, hI0, FrK.rf⟩
set_option maxRecDepth 4000 in
theorem c_M_rowsOf {l : Launch} {h : sH} {x : Gd} {n t : Nat} {v : mV} (hm : h.2 61 = mO n t v) (hz : h.2 62 = iA 39 (nF (zN x))) (hx : Gok x) (hP : PmAt h (lay x).1) {p : Nat} (hp : p < 50) : sX l m_M_rowsOf 0 [.ref 61, .int (nI p)] h (some (.int (nI (mRows (lay x).1 (p + 1))))) (h) := by
  have hM := hx.2.2.1.le
  have hR := hx.1
  have hC := hx.2.1
  obtain ⟨e1, e2, e3, e4, p1, p2, p3, p4, PV⟩ := id hP
  have lp := lay_pv hx
  have lo := lay_ou (x := x)
  refine en_M_rowsOf ?_
  refine e_iconst (v := nI 0) (p' := 1) D_M_rowsOf_0 cst_iconst_0 rfl ?_
  refine e_istore_2 (p' := 2) D_M_rowsOf_1 (Nat.le_of_ble_eq_true rfl) rfl rfl ?_
  refine e_iconst (v := nI 0) (p' := 3) D_M_rowsOf_2 cst_iconst_0 rfl ?_
  refine e_istore_3 (p' := 4) D_M_rowsOf_3 (Nat.le_of_ble_eq_true rfl) rfl rfl ?_
  have lk4 : ∀ i : Nat, i ≤ x.1.1 → sEv l m_M_rowsOf 0 (0, 0, 0, 0) (sKm 0 0 (fun r1 h1 => r1 = some (.int (nI (mRows (lay x).1 (p + 1)))) ∧ h1 = h)) 4 [some (.ref 61), some (.int (nI p)), some (.int (nI (mk i (fun k => decide ((lay x).1.1.1 k = p + 1))))), some (.int (nI i))] [] (h) := by
    refine lp_up _ ?_ ?_
    · skip
      have pb := (lp.2 (x.1.1)).1
      refine e_iload_3 (p' := 5) D_M_rowsOf_4 rfl ?_
      refine e_aload_0 (p' := 6) D_M_rowsOf_5 rfl ?_
      refine e_getfield (p' := 9) D_M_rowsOf_6 F_M_7 (by first | assumption | exact sUp_eq | (rw [sUp_ne (by omega)]; assumption) | (rw [sUp_ne (by omega), sUp_ne (by omega)]; assumption) | (rw [sUp_ne (by omega)]; exact sUp_eq) | (rw [gSet_ne (by omega) (by omega)]; first | assumption | exact sUp_eq | (rw [sUp_ne (by omega)]; assumption) | (rw [sUp_ne (by omega), sUp_ne (by omega)]; assumption)) | (rw [sUp_ne (by omega), sUp_ne (by omega), sUp_ne (by omega)]; assumption) | (simp [sUp]; done)) (by rfl) rfl ?_
      refine e_bipush (v := nI 36) (p' := 11) D_M_rowsOf_9 cst_bipush_36 rfl ?_
      refine e_iaload (p' := 12) D_M_rowsOf_11 (by first | assumption | exact sUp_eq | (rw [sUp_ne (by omega)]; assumption) | (rw [sUp_ne (by omega), sUp_ne (by omega)]; assumption) | (rw [sUp_ne (by omega)]; exact sUp_eq) | (rw [gSet_ne (by omega) (by omega)]; first | assumption | exact sUp_eq | (rw [sUp_ne (by omega)]; assumption) | (rw [sUp_ne (by omega), sUp_ne (by omega)]; assumption)) | (rw [sUp_ne (by omega), sUp_ne (by omega), sUp_ne (by omega)]; assumption) | (simp [sUp]; done)) (by omega) (by omega) (by rfl) rfl ?_
      rw [z36]
      refine e_icmpN_ge (q := 41) (p' := 15) D_M_rowsOf_12 (by omega) (by omega) rfl rfl (fun hc12 => ?_) (fun hc12 => ?_)
      ·
        refine e_iload_2 (p' := 42) D_M_rowsOf_41 rfl ?_
        refine e_ireturn (ty := .int) D_M_rowsOf_42 rfl (by first | rfl | exact sBo_nar _) ⟨by decide, by decide⟩ ?_
        refine ⟨?_, rfl⟩
        unfold mRows
        rw [mk_more (n := x.1.1) (m := 6) (by omega) (fun k h1 h2 => decide_eq_false (by rw [lo.1 k h1]; omega))]
      ·
        exfalso; omega
    · intro i hi ih4 
      have pb := (lp.2 i).1
      refine e_iload_3 (p' := 5) D_M_rowsOf_4 rfl ?_
      refine e_aload_0 (p' := 6) D_M_rowsOf_5 rfl ?_
      refine e_getfield (p' := 9) D_M_rowsOf_6 F_M_7 (by first | assumption | exact sUp_eq | (rw [sUp_ne (by omega)]; assumption) | (rw [sUp_ne (by omega), sUp_ne (by omega)]; assumption) | (rw [sUp_ne (by omega)]; exact sUp_eq) | (rw [gSet_ne (by omega) (by omega)]; first | assumption | exact sUp_eq | (rw [sUp_ne (by omega)]; assumption) | (rw [sUp_ne (by omega), sUp_ne (by omega)]; assumption)) | (rw [sUp_ne (by omega), sUp_ne (by omega), sUp_ne (by omega)]; assumption) | (simp [sUp]; done)) (by rfl) rfl ?_
      refine e_bipush (v := nI 36) (p' := 11) D_M_rowsOf_9 cst_bipush_36 rfl ?_
      refine e_iaload (p' := 12) D_M_rowsOf_11 (by first | assumption | exact sUp_eq | (rw [sUp_ne (by omega)]; assumption) | (rw [sUp_ne (by omega), sUp_ne (by omega)]; assumption) | (rw [sUp_ne (by omega)]; exact sUp_eq) | (rw [gSet_ne (by omega) (by omega)]; first | assumption | exact sUp_eq | (rw [sUp_ne (by omega)]; assumption) | (rw [sUp_ne (by omega), sUp_ne (by omega)]; assumption)) | (rw [sUp_ne (by omega), sUp_ne (by omega), sUp_ne (by omega)]; assumption) | (simp [sUp]; done)) (by omega) (by omega) (by rfl) rfl ?_
      rw [z36]
      refine e_icmpN_ge (q := 41) (p' := 15) D_M_rowsOf_12 (by omega) (by omega) rfl rfl (fun hc12 => ?_) (fun hc12 => ?_)
      ·
        exfalso; omega
      ·
        refine e_iload_2 (p' := 16) D_M_rowsOf_15 rfl ?_
        refine e_aload_0 (p' := 17) D_M_rowsOf_16 rfl ?_
        refine e_getfield (p' := 20) D_M_rowsOf_17 F_M_27 (by first | assumption | exact sUp_eq | (rw [sUp_ne (by omega)]; assumption) | (rw [sUp_ne (by omega), sUp_ne (by omega)]; assumption) | (rw [sUp_ne (by omega)]; exact sUp_eq) | (rw [gSet_ne (by omega) (by omega)]; first | assumption | exact sUp_eq | (rw [sUp_ne (by omega)]; assumption) | (rw [sUp_ne (by omega), sUp_ne (by omega)]; assumption)) | (rw [sUp_ne (by omega), sUp_ne (by omega), sUp_ne (by omega)]; assumption) | (simp [sUp]; done)) (by rfl) rfl ?_
        refine e_iload_3 (p' := 21) D_M_rowsOf_20 rfl ?_
        refine e_iaload (p' := 22) D_M_rowsOf_21 (by first | assumption | exact sUp_eq | (rw [sUp_ne (by omega)]; assumption) | (rw [sUp_ne (by omega), sUp_ne (by omega)]; assumption) | (rw [sUp_ne (by omega)]; exact sUp_eq) | (rw [gSet_ne (by omega) (by omega)]; first | assumption | exact sUp_eq | (rw [sUp_ne (by omega)]; assumption) | (rw [sUp_ne (by omega), sUp_ne (by omega)]; assumption)) | (rw [sUp_ne (by omega), sUp_ne (by omega), sUp_ne (by omega)]; assumption) | (simp [sUp]; done)) (by omega) (by omega) (by rfl) rfl ?_
        refine e_iload_1 (p' := 23) D_M_rowsOf_22 rfl ?_
        rw [(PV i (by omega)).1.1]
        refine e_icmp_ne (q := 32) (p' := 26) D_M_rowsOf_23 rfl rfl (fun hc23 => ?_) (fun hc23 => ?_)
        ·
          refine e_iconst (v := nI 0) (p' := 33) D_M_rowsOf_32 cst_iconst_0 rfl ?_
          refine e_ior (p' := 34) D_M_rowsOf_33 rfl ?_
          refine e_istore_2 (p' := 35) D_M_rowsOf_34 (Nat.le_of_ble_eq_true rfl) rfl rfl ?_
          first | refine e_iincN_3 (n := 1) (p' := 38) D_M_rowsOf_35 (Nat.le_of_ble_eq_true rfl) rfl rfl ?_ | refine e_iinc_3 (p' := 38) D_M_rowsOf_35 (Nat.le_of_ble_eq_true rfl) rfl rfl rfl ?_
          refine e_goto (p' := 4) D_M_rowsOf_38 rfl ?_
          refine sEv.castW (ih4) ?_ ?_ ?_
          · refine ⟨rfl, rfl, ?_, rfl, trivial⟩
            rw [orI0, mk_skip (decide_eq_false (fun q => hc23 ((pJ_nI pb (by omega)).mpr q)))]
          · rfl
          · first | rfl | (simp; done)
        ·
          refine e_iconst (v := nI 1) (p' := 27) D_M_rowsOf_26 cst_iconst_1 rfl ?_
          refine e_iload_3 (p' := 28) D_M_rowsOf_27 rfl ?_
          refine e_ishl (p' := 29) D_M_rowsOf_28 rfl ?_
          refine e_goto (p' := 33) D_M_rowsOf_29 rfl ?_
          refine e_ior (p' := 34) D_M_rowsOf_33 rfl ?_
          refine e_istore_2 (p' := 35) D_M_rowsOf_34 (Nat.le_of_ble_eq_true rfl) rfl rfl ?_
          first | refine e_iincN_3 (n := 1) (p' := 38) D_M_rowsOf_35 (Nat.le_of_ble_eq_true rfl) rfl rfl ?_ | refine e_iinc_3 (p' := 38) D_M_rowsOf_35 (Nat.le_of_ble_eq_true rfl) rfl rfl rfl ?_
          refine e_goto (p' := 4) D_M_rowsOf_38 rfl ?_
          refine sEv.castW (ih4) ?_ ?_ ?_
          · refine ⟨rfl, rfl, ?_, rfl, trivial⟩
            rw [mk_or (by omega) (decide_eq_true ((pJ_nI pb (by omega)).mp hc23))]
          · rfl
          · first | rfl | (simp; done)
  refine sEv.castW (lk4 0 (by omega) ) ?_ ?_ ?_
  · exact ⟨rfl, rfl, rfl, rfl, trivial⟩
  · rfl
  · first | rfl | (simp; done)
set_option maxRecDepth 4000 in
theorem c_M_columnsOf {l : Launch} {h : sH} {x : Gd} {n t : Nat} {v : mV} (hm : h.2 61 = mO n t v) (hz : h.2 62 = iA 39 (nF (zN x))) (hx : Gok x) (hP : PmAt h (lay x).1) {p : Nat} (hp : p < 50) : sX l m_M_columnsOf 0 [.ref 61, .int (nI p)] h (some (.int (nI (mCols (lay x).1 (p + 1))))) (h) := by
  have hM := hx.2.2.1.le
  have hR := hx.1
  have hC := hx.2.1
  obtain ⟨e1, e2, e3, e4, p1, p2, p3, p4, PV⟩ := id hP
  have lp := lay_pv hx
  have lo := lay_ou (x := x)
  refine en_M_columnsOf ?_
  refine e_iconst (v := nI 0) (p' := 1) D_M_columnsOf_0 cst_iconst_0 rfl ?_
  refine e_istore_2 (p' := 2) D_M_columnsOf_1 (Nat.le_of_ble_eq_true rfl) rfl rfl ?_
  refine e_iconst (v := nI 0) (p' := 3) D_M_columnsOf_2 cst_iconst_0 rfl ?_
  refine e_istore_3 (p' := 4) D_M_columnsOf_3 (Nat.le_of_ble_eq_true rfl) rfl rfl ?_
  have lk4 : ∀ i : Nat, i ≤ x.1.2.1 → sEv l m_M_columnsOf 0 (0, 0, 0, 0) (sKm 0 0 (fun r1 h1 => r1 = some (.int (nI (mCols (lay x).1 (p + 1)))) ∧ h1 = h)) 4 [some (.ref 61), some (.int (nI p)), some (.int (nI (mk i (fun k => decide ((lay x).1.1.2 k = p + 1))))), some (.int (nI i))] [] (h) := by
    refine lp_up _ ?_ ?_
    · skip
      have pb := (lp.2 (x.1.2.1)).2
      refine e_iload_3 (p' := 5) D_M_columnsOf_4 rfl ?_
      refine e_aload_0 (p' := 6) D_M_columnsOf_5 rfl ?_
      refine e_getfield (p' := 9) D_M_columnsOf_6 F_M_7 (by first | assumption | exact sUp_eq | (rw [sUp_ne (by omega)]; assumption) | (rw [sUp_ne (by omega), sUp_ne (by omega)]; assumption) | (rw [sUp_ne (by omega)]; exact sUp_eq) | (rw [gSet_ne (by omega) (by omega)]; first | assumption | exact sUp_eq | (rw [sUp_ne (by omega)]; assumption) | (rw [sUp_ne (by omega), sUp_ne (by omega)]; assumption)) | (rw [sUp_ne (by omega), sUp_ne (by omega), sUp_ne (by omega)]; assumption) | (simp [sUp]; done)) (by rfl) rfl ?_
      refine e_bipush (v := nI 37) (p' := 11) D_M_columnsOf_9 cst_bipush_37 rfl ?_
      refine e_iaload (p' := 12) D_M_columnsOf_11 (by first | assumption | exact sUp_eq | (rw [sUp_ne (by omega)]; assumption) | (rw [sUp_ne (by omega), sUp_ne (by omega)]; assumption) | (rw [sUp_ne (by omega)]; exact sUp_eq) | (rw [gSet_ne (by omega) (by omega)]; first | assumption | exact sUp_eq | (rw [sUp_ne (by omega)]; assumption) | (rw [sUp_ne (by omega), sUp_ne (by omega)]; assumption)) | (rw [sUp_ne (by omega), sUp_ne (by omega), sUp_ne (by omega)]; assumption) | (simp [sUp]; done)) (by omega) (by omega) (by rfl) rfl ?_
      rw [z37]
      refine e_icmpN_ge (q := 41) (p' := 15) D_M_columnsOf_12 (by omega) (by omega) rfl rfl (fun hc12 => ?_) (fun hc12 => ?_)
      ·
        refine e_iload_2 (p' := 42) D_M_columnsOf_41 rfl ?_
        refine e_ireturn (ty := .int) D_M_columnsOf_42 rfl (by first | rfl | exact sBo_nar _) ⟨by decide, by decide⟩ ?_
        refine ⟨?_, rfl⟩
        unfold mCols
        rw [mk_more (n := x.1.2.1) (m := 6) (by omega) (fun k h1 h2 => decide_eq_false (by rw [lo.2 k h1]; omega))]
      ·
        exfalso; omega
    · intro i hi ih4 
      have pb := (lp.2 i).2
      refine e_iload_3 (p' := 5) D_M_columnsOf_4 rfl ?_
      refine e_aload_0 (p' := 6) D_M_columnsOf_5 rfl ?_
      refine e_getfield (p' := 9) D_M_columnsOf_6 F_M_7 (by first | assumption | exact sUp_eq | (rw [sUp_ne (by omega)]; assumption) | (rw [sUp_ne (by omega), sUp_ne (by omega)]; assumption) | (rw [sUp_ne (by omega)]; exact sUp_eq) | (rw [gSet_ne (by omega) (by omega)]; first | assumption | exact sUp_eq | (rw [sUp_ne (by omega)]; assumption) | (rw [sUp_ne (by omega), sUp_ne (by omega)]; assumption)) | (rw [sUp_ne (by omega), sUp_ne (by omega), sUp_ne (by omega)]; assumption) | (simp [sUp]; done)) (by rfl) rfl ?_
      refine e_bipush (v := nI 37) (p' := 11) D_M_columnsOf_9 cst_bipush_37 rfl ?_
      refine e_iaload (p' := 12) D_M_columnsOf_11 (by first | assumption | exact sUp_eq | (rw [sUp_ne (by omega)]; assumption) | (rw [sUp_ne (by omega), sUp_ne (by omega)]; assumption) | (rw [sUp_ne (by omega)]; exact sUp_eq) | (rw [gSet_ne (by omega) (by omega)]; first | assumption | exact sUp_eq | (rw [sUp_ne (by omega)]; assumption) | (rw [sUp_ne (by omega), sUp_ne (by omega)]; assumption)) | (rw [sUp_ne (by omega), sUp_ne (by omega), sUp_ne (by omega)]; assumption) | (simp [sUp]; done)) (by omega) (by omega) (by rfl) rfl ?_
      rw [z37]
      refine e_icmpN_ge (q := 41) (p' := 15) D_M_columnsOf_12 (by omega) (by omega) rfl rfl (fun hc12 => ?_) (fun hc12 => ?_)
      ·
        exfalso; omega
      ·
        refine e_iload_2 (p' := 16) D_M_columnsOf_15 rfl ?_
        refine e_aload_0 (p' := 17) D_M_columnsOf_16 rfl ?_
        refine e_getfield (p' := 20) D_M_columnsOf_17 F_M_30 (by first | assumption | exact sUp_eq | (rw [sUp_ne (by omega)]; assumption) | (rw [sUp_ne (by omega), sUp_ne (by omega)]; assumption) | (rw [sUp_ne (by omega)]; exact sUp_eq) | (rw [gSet_ne (by omega) (by omega)]; first | assumption | exact sUp_eq | (rw [sUp_ne (by omega)]; assumption) | (rw [sUp_ne (by omega), sUp_ne (by omega)]; assumption)) | (rw [sUp_ne (by omega), sUp_ne (by omega), sUp_ne (by omega)]; assumption) | (simp [sUp]; done)) (by rfl) rfl ?_
        refine e_iload_3 (p' := 21) D_M_columnsOf_20 rfl ?_
        refine e_iaload (p' := 22) D_M_columnsOf_21 (by first | assumption | exact sUp_eq | (rw [sUp_ne (by omega)]; assumption) | (rw [sUp_ne (by omega), sUp_ne (by omega)]; assumption) | (rw [sUp_ne (by omega)]; exact sUp_eq) | (rw [gSet_ne (by omega) (by omega)]; first | assumption | exact sUp_eq | (rw [sUp_ne (by omega)]; assumption) | (rw [sUp_ne (by omega), sUp_ne (by omega)]; assumption)) | (rw [sUp_ne (by omega), sUp_ne (by omega), sUp_ne (by omega)]; assumption) | (simp [sUp]; done)) (by omega) (by omega) (by rfl) rfl ?_
        refine e_iload_1 (p' := 23) D_M_columnsOf_22 rfl ?_
        rw [(PV i (by omega)).1.2]
        refine e_icmp_ne (q := 32) (p' := 26) D_M_columnsOf_23 rfl rfl (fun hc23 => ?_) (fun hc23 => ?_)
        ·
          refine e_iconst (v := nI 0) (p' := 33) D_M_columnsOf_32 cst_iconst_0 rfl ?_
          refine e_ior (p' := 34) D_M_columnsOf_33 rfl ?_
          refine e_istore_2 (p' := 35) D_M_columnsOf_34 (Nat.le_of_ble_eq_true rfl) rfl rfl ?_
          first | refine e_iincN_3 (n := 1) (p' := 38) D_M_columnsOf_35 (Nat.le_of_ble_eq_true rfl) rfl rfl ?_ | refine e_iinc_3 (p' := 38) D_M_columnsOf_35 (Nat.le_of_ble_eq_true rfl) rfl rfl rfl ?_
          refine e_goto (p' := 4) D_M_columnsOf_38 rfl ?_
          refine sEv.castW (ih4) ?_ ?_ ?_
          · refine ⟨rfl, rfl, ?_, rfl, trivial⟩
            rw [orI0, mk_skip (decide_eq_false (fun q => hc23 ((pJ_nI pb (by omega)).mpr q)))]
          · rfl
          · first | rfl | (simp; done)
        ·
          refine e_iconst (v := nI 1) (p' := 27) D_M_columnsOf_26 cst_iconst_1 rfl ?_
          refine e_iload_3 (p' := 28) D_M_columnsOf_27 rfl ?_
          refine e_ishl (p' := 29) D_M_columnsOf_28 rfl ?_
          refine e_goto (p' := 33) D_M_columnsOf_29 rfl ?_
          refine e_ior (p' := 34) D_M_columnsOf_33 rfl ?_
          refine e_istore_2 (p' := 35) D_M_columnsOf_34 (Nat.le_of_ble_eq_true rfl) rfl rfl ?_
          first | refine e_iincN_3 (n := 1) (p' := 38) D_M_columnsOf_35 (Nat.le_of_ble_eq_true rfl) rfl rfl ?_ | refine e_iinc_3 (p' := 38) D_M_columnsOf_35 (Nat.le_of_ble_eq_true rfl) rfl rfl rfl ?_
          refine e_goto (p' := 4) D_M_columnsOf_38 rfl ?_
          refine sEv.castW (ih4) ?_ ?_ ?_
          · refine ⟨rfl, rfl, ?_, rfl, trivial⟩
            rw [mk_or (by omega) (decide_eq_true ((pJ_nI pb (by omega)).mp hc23))]
          · rfl
          · first | rfl | (simp; done)
  refine sEv.castW (lk4 0 (by omega) ) ?_ ?_ ?_
  · exact ⟨rfl, rfl, rfl, rfl, trivial⟩
  · rfl
  · first | rfl | (simp; done)
