/-! ===== the law: completions ===== -/
theorem lg_cmp_r (x : Int64) : lg_cmp x x = 0 := by
  rw [lg_cmp_eq]
theorem cpl_pos {x : Gd} (hx : Gok x) (hw : wellX x = true) : cpl x = (x.1.2.2 - 1) ^ ((lay x).2 - 1) ∧ 1 ≤ cpl x ∧ cpl x < 2 ^ 62 := by
  have e : cpl x = (x.1.2.2 - 1) ^ ((lay x).2 - 1) := if_pos hw
  have hm := hx.2.2.1.le
  refine ⟨e, ?_, ?_⟩
  · rw [e]; exact Nat.pow_pos (by omega)
  · rw [e]; exact cpl_le hx
theorem kk_lt {x : Gd} (hx : Gok x) (hw : wellX x = true) {r c mx : Nat} (hr : r < x.1.1) (hc : c < x.1.2.1) (hmx : mx = max (lP x r - 1) (lQ x c - 1)) (hne : lP x r ≠ lQ x c) : (x.1.2.2 - 1) ^ (mx - 1) < cpl x := by
  have hm := hx.2.2.1.le
  have a := lP_nz hx hr
  have b := lQ_nz hx hc
  have a2 := lP_le hx r
  have b2 := lQ_le hx c
  rw [(cpl_pos hx hw).1]
  refine Nat.pow_lt_pow_right (by omega) ?_
  rcases Nat.le_total (lP x r - 1) (lQ x c - 1) with z | z
  · rw [Nat.max_eq_right z] at hmx; omega
  · rw [Nat.max_eq_left z] at hmx; omega
set_option maxRecDepth 4000 in
theorem c_Law_completions {l : Launch} {h : sH} {st : St} (hC : CInv h st) (hS : StOk st) (hw : wellX st.1 = true) {v : Int32} : sY l m_Law_completions 8 [.ref 0, .int v] h (some (.int (nI 1))) (fun h1 => CInv h1 st) := by
  have hx := hS.1
  have hz := l_sz hx
  have hR := hx.1
  have hCc := hx.2.1
  have hm := hx.2.2.1.le
  have c0 := hC.1
  obtain ⟨hcpl, hcp1, hcp2⟩ := cpl_pos hx hw
  have hlow := lowN_lt (v := v) (n := 1000000) (by omega)
  have hlm := Nat.mod_lt (lowN v 1000000) (show 0 < cpl st.1 by omega)
  refine en_Law_completions ?_
  refine e_lconst (v := lN 1) (p' := 1) D_Law_completions_0 rfl rfl ?_
  refine e_lstore_2 (p' := 2) D_Law_completions_1 (Nat.le_of_ble_eq_true rfl) rfl rfl ?_
  refine e_aload_0 (p' := 3) D_Law_completions_2 rfl ?_
  refine e_iconst (v := nI 2) (p' := 4) D_Law_completions_3 cst_iconst_2 rfl ?_
  refine y_callV1 (p' := 7) D_Law_completions_4 V_Law_26 (k_cnt2 hC hS) rfl (by first | assumption | exact sUp_eq | (rw [sUp_ne (by omega)]; assumption) | (rw [sUp_ne (by omega), sUp_ne (by omega)]; assumption) | (rw [sUp_ne (by omega)]; exact sUp_eq) | (rw [gSet_ne (by omega) (by omega)]; first | assumption | exact sUp_eq | (rw [sUp_ne (by omega)]; assumption) | (rw [sUp_ne (by omega), sUp_ne (by omega)]; assumption)) | (rw [sUp_ne (by omega), sUp_ne (by omega), sUp_ne (by omega)]; assumption) | (simp [sUp]; done)) rfl (Nat.le_of_ble_eq_true rfl) (by decide) ⟨by decide, by decide⟩ rfl ?_
  rintro h1 ⟨C1, F1⟩
  have c1 := C1.1
  refine e_istore_4 (p' := 9) D_Law_completions_7 (Nat.le_of_ble_eq_true rfl) rfl rfl ?_
  refine e_iconst (v := nI 1) (p' := 10) D_Law_completions_9 cst_iconst_1 rfl ?_
  refine e_istore_5 (p' := 12) D_Law_completions_10 (Nat.le_of_ble_eq_true rfl) rfl rfl ?_
  have lk12 : ∀ i : Nat, i ≤ ((lay st.1).2 - 1) → ∀ (h1 : sH), CInv h1 st → sEv l m_Law_completions 8 (0, 0, 0, 0) (sKm 0 0 (fun r1 h1 => r1 = some (.int (nI 1)) ∧ (fun h1 => CInv h1 st) h1)) 12 [some (.ref 0), some (.int v), some (.long (lN ((st.1.1.2.2 - 1) ^ i))), none, some (.int (nI st.1.1.2.2)), some (.int (nI (i + 1))), none, none, none, none, none, none, none] [] (h1) := by
    refine lp_up _ ?_ ?_
    · intro h1 CC
      have cc := CC.1
      refine e_iload_5 (p' := 14) D_Law_completions_12 rfl ?_
      refine e_aload_0 (p' := 15) D_Law_completions_14 rfl ?_
      refine e_iconst (v := nI 4) (p' := 16) D_Law_completions_15 cst_iconst_4 rfl ?_
      refine y_callV1 (p' := 19) D_Law_completions_16 V_Law_26 (k_cnt4 CC hS) rfl (by first | assumption | exact sUp_eq | (rw [sUp_ne (by omega)]; assumption) | (rw [sUp_ne (by omega), sUp_ne (by omega)]; assumption) | (rw [sUp_ne (by omega)]; exact sUp_eq) | (rw [gSet_ne (by omega) (by omega)]; first | assumption | exact sUp_eq | (rw [sUp_ne (by omega)]; assumption) | (rw [sUp_ne (by omega), sUp_ne (by omega)]; assumption)) | (rw [sUp_ne (by omega), sUp_ne (by omega), sUp_ne (by omega)]; assumption) | (simp [sUp]; done)) rfl (Nat.le_of_ble_eq_true rfl) (by decide) ⟨by decide, by decide⟩ rfl ?_
      rintro h2 ⟨C2, F2⟩
      have c2 := C2.1
      refine e_icmpN_ge (q := 36) (p' := 22) D_Law_completions_19 (by omega) (by omega) rfl rfl (fun hc19 => ?_) (fun hc19 => ?_)
      ·
        rw [← hcpl]
        refine e_aload_0 (p' := 37) D_Law_completions_36 rfl ?_
        refine y_callV1 (p' := 40) D_Law_completions_37 V_Law_50 (c_O_completions C2 hS) rfl (by first | assumption | exact sUp_eq | (rw [sUp_ne (by omega)]; assumption) | (rw [sUp_ne (by omega), sUp_ne (by omega)]; assumption) | (rw [sUp_ne (by omega)]; exact sUp_eq) | (rw [gSet_ne (by omega) (by omega)]; first | assumption | exact sUp_eq | (rw [sUp_ne (by omega)]; assumption) | (rw [sUp_ne (by omega), sUp_ne (by omega)]; assumption)) | (rw [sUp_ne (by omega), sUp_ne (by omega), sUp_ne (by omega)]; assumption) | (simp [sUp]; done)) rfl (Nat.le_of_ble_eq_true rfl) (by decide) ⟨by decide, by decide⟩ rfl ?_
        rintro h3 ⟨C3, F3⟩
        have c3 := C3.1
        refine e_lload_2 (p' := 41) D_Law_completions_40 rfl ?_
        refine e_lcmp (p' := 42) D_Law_completions_41 rfl ?_
        refine e_if_ne (q := 69) (p' := 45) D_Law_completions_42 rfl rfl (fun hc42 => ?_) (fun hc42 => ?_)
        ·
          exact absurd (lg_cmp_r _) hc42
        ·
          refine e_aload_0 (p' := 46) D_Law_completions_45 rfl ?_
          refine e_lload_2 (p' := 47) D_Law_completions_46 rfl ?_
          refine e_iconst (v := nI 0) (p' := 48) D_Law_completions_47 cst_iconst_0 rfl ?_
          refine e_iconst (v := nI 0) (p' := 49) D_Law_completions_48 cst_iconst_0 rfl ?_
          refine y_callV1 (p' := 52) D_Law_completions_49 V_Law_46 (k_cmdH C3 hS) rfl (by first | assumption | exact sUp_eq | (rw [sUp_ne (by omega)]; assumption) | (rw [sUp_ne (by omega), sUp_ne (by omega)]; assumption) | (rw [sUp_ne (by omega)]; exact sUp_eq) | (rw [gSet_ne (by omega) (by omega)]; first | assumption | exact sUp_eq | (rw [sUp_ne (by omega)]; assumption) | (rw [sUp_ne (by omega), sUp_ne (by omega)]; assumption)) | (rw [sUp_ne (by omega), sUp_ne (by omega), sUp_ne (by omega)]; assumption) | (simp [sUp]; done)) rfl (Nat.le_of_ble_eq_true rfl) (by decide) ⟨by decide, by decide⟩ rfl ?_
          rintro h4 ⟨C4, F4⟩
          have c4 := C4.1
          refine e_iconst (v := (-1)) (p' := 53) D_Law_completions_52 cst_iconst_m1 rfl ?_
          refine e_icmp_ne (q := 69) (p' := 56) D_Law_completions_53 rfl rfl (fun hc53 => ?_) (fun hc53 => ?_)
          ·
            first | exact absurd rfl hc53 | exact hc53 rfl | (exfalso; omega) | exact absurd hc53 (by decide) | exact absurd hc53 (by simp [*])
          ·
            refine e_aload_0 (p' := 57) D_Law_completions_56 rfl ?_
            refine e_ldc2 (p' := 60) D_Law_completions_57 K_Law_54 rfl ?_
            refine e_iconst (v := nI 0) (p' := 61) D_Law_completions_60 cst_iconst_0 rfl ?_
            refine e_iconst (v := nI 0) (p' := 62) D_Law_completions_61 cst_iconst_0 rfl ?_
            refine y_callV1 (p' := 65) D_Law_completions_62 V_Law_46 (k_cmdL C4 hS (by decide)) rfl (by first | assumption | exact sUp_eq | (rw [sUp_ne (by omega)]; assumption) | (rw [sUp_ne (by omega), sUp_ne (by omega)]; assumption) | (rw [sUp_ne (by omega)]; exact sUp_eq) | (rw [gSet_ne (by omega) (by omega)]; first | assumption | exact sUp_eq | (rw [sUp_ne (by omega)]; assumption) | (rw [sUp_ne (by omega), sUp_ne (by omega)]; assumption)) | (rw [sUp_ne (by omega), sUp_ne (by omega), sUp_ne (by omega)]; assumption) | (simp [sUp]; done)) rfl (Nat.le_of_ble_eq_true rfl) (by decide) ⟨by decide, by decide⟩ rfl ?_
            rintro h5 ⟨C5, F5⟩
            have c5 := C5.1
            refine e_iconst (v := (-1)) (p' := 66) D_Law_completions_65 cst_iconst_m1 rfl ?_
            refine e_icmp_eq (q := 71) (p' := 69) D_Law_completions_66 rfl rfl (fun hc66 => ?_) (fun hc66 => ?_)
            ·
              refine e_aload_0 (p' := 72) D_Law_completions_71 rfl ?_
              refine e_lconst (v := lN 0) (p' := 73) D_Law_completions_72 rfl rfl ?_
              refine y_callS1 (p' := 76) D_Law_completions_73 S_Law_56 (c_Law_isCompletion C5 hS hw (k := 0) (by omega)) rfl rfl (Nat.le_of_ble_eq_true rfl) (by decide) ⟨by decide, by decide⟩ rfl ?_
              rintro h6 C6
              have c6 := C6.1
              refine e_ifN_eq (q := 105) (p' := 79) D_Law_completions_76 (by omega) rfl rfl (fun hc76 => ?_) (fun hc76 => ?_)
              ·
                first | exact absurd rfl hc76 | exact hc76 rfl | (exfalso; omega) | exact absurd hc76 (by decide) | exact absurd hc76 (by simp [*])
              ·
                refine e_aload_0 (p' := 80) D_Law_completions_79 rfl ?_
                refine e_lload_2 (p' := 81) D_Law_completions_80 rfl ?_
                refine e_lconst (v := lN 1) (p' := 82) D_Law_completions_81 rfl rfl ?_
                refine e_lsub (p' := 83) D_Law_completions_82 rfl ?_
                rw [lN_sub (by omega)]
                refine y_callS1 (p' := 86) D_Law_completions_83 S_Law_56 (c_Law_isCompletion C6 hS hw (k := cpl st.1 - 1) (by omega)) rfl rfl (Nat.le_of_ble_eq_true rfl) (by decide) ⟨by decide, by decide⟩ rfl ?_
                rintro h7 C7
                have c7 := C7.1
                refine e_ifN_eq (q := 105) (p' := 89) D_Law_completions_86 (by omega) rfl rfl (fun hc86 => ?_) (fun hc86 => ?_)
                ·
                  first | exact absurd rfl hc86 | exact hc86 rfl | (exfalso; omega) | exact absurd hc86 (by decide) | exact absurd hc86 (by simp [*])
                ·
                  refine e_aload_0 (p' := 90) D_Law_completions_89 rfl ?_
                  refine e_iload_1 (p' := 91) D_Law_completions_90 rfl ?_
                  refine e_ldc (p' := 93) D_Law_completions_91 K_Law_60 rfl ?_
                  rw [show (1000000 : Int32) = nI 1000000 from rfl]
                  refine x_callS1 (p' := 96) D_Law_completions_93 S_Law_16 (c_Law_low (n := 1000000) (by omega) (by omega)) rfl rfl (Nat.le_of_ble_eq_true rfl) (by decide) ⟨by decide, by decide⟩ rfl ?_
                  first | refine e_i2lN (p' := 97) D_Law_completions_96 (by omega) rfl ?_ | refine e_i2l (p' := 97) D_Law_completions_96 rfl rfl ?_
                  refine e_lload_2 (p' := 98) D_Law_completions_97 rfl ?_
                  refine e_lrem (p' := 99) D_Law_completions_98 (lN_ne0 (by omega) (by omega)) rfl ?_
                  rw [lN_rem (by omega) (by omega) (by omega)]
                  refine y_callS1 (p' := 102) D_Law_completions_99 S_Law_56 (c_Law_isCompletion C7 hS hw hlm) rfl rfl (Nat.le_of_ble_eq_true rfl) (by decide) ⟨by decide, by decide⟩ rfl ?_
                  rintro h8 C8
                  have c8 := C8.1
                  refine e_ifN_ne (q := 107) (p' := 105) D_Law_completions_102 (by omega) rfl rfl (fun hc102 => ?_) (fun hc102 => ?_)
                  ·
                    refine e_iconst (v := nI 0) (p' := 108) D_Law_completions_107 cst_iconst_0 rfl ?_
                    refine e_istore_5 (p' := 110) D_Law_completions_108 (Nat.le_of_ble_eq_true rfl) rfl rfl ?_
                    have lk110 : ∀ r : Nat, r ≤ st.1.1.1 → ∀ (h1 : sH), CInv h1 st → sEv l m_Law_completions 8 (0, 0, 0, 0) (sKm 0 0 (fun r1 h1 => r1 = some (.int (nI 1)) ∧ (fun h1 => CInv h1 st) h1)) 110 [some (.ref 0), some (.int v), some (.long (lN (cpl st.1))), none, some (.int (nI st.1.1.2.2)), some (.int (nI r)), none, none, none, none, none, none, none] [] (h1) := by
                      refine lp_up _ ?_ ?_
                      · intro h1 CD
                        have cd := CD.1
                        refine e_iload_5 (p' := 112) D_Law_completions_110 rfl ?_
                        refine e_aload_0 (p' := 113) D_Law_completions_112 rfl ?_
                        refine e_iconst (v := nI 0) (p' := 114) D_Law_completions_113 cst_iconst_0 rfl ?_
                        refine y_callV1 (p' := 117) D_Law_completions_114 V_Law_26 (k_cnt0 CD hS) rfl (by first | assumption | exact sUp_eq | (rw [sUp_ne (by omega)]; assumption) | (rw [sUp_ne (by omega), sUp_ne (by omega)]; assumption) | (rw [sUp_ne (by omega)]; exact sUp_eq) | (rw [gSet_ne (by omega) (by omega)]; first | assumption | exact sUp_eq | (rw [sUp_ne (by omega)]; assumption) | (rw [sUp_ne (by omega), sUp_ne (by omega)]; assumption)) | (rw [sUp_ne (by omega), sUp_ne (by omega), sUp_ne (by omega)]; assumption) | (simp [sUp]; done)) rfl (Nat.le_of_ble_eq_true rfl) (by decide) ⟨by decide, by decide⟩ rfl ?_
                        rintro h9 ⟨C9, F9⟩
                        have c9 := C9.1
                        refine e_icmpN_ge (q := 303) (p' := 120) D_Law_completions_117 (by omega) (by omega) rfl rfl (fun hc117 => ?_) (fun hc117 => ?_)
                        ·
                          refine e_iconst (v := nI 1) (p' := 304) D_Law_completions_303 cst_iconst_1 rfl ?_
                          refine e_ireturn (ty := .boolean) D_Law_completions_304 rfl (by first | rfl | exact sBo_nar _) ⟨by decide, by decide⟩ ?_
                          exact ⟨rfl, C9⟩
                        ·
                          exfalso; omega
                      · intro r hr ih110 h1 CD
                        have cd := CD.1
                        refine e_iload_5 (p' := 112) D_Law_completions_110 rfl ?_
                        refine e_aload_0 (p' := 113) D_Law_completions_112 rfl ?_
                        refine e_iconst (v := nI 0) (p' := 114) D_Law_completions_113 cst_iconst_0 rfl ?_
                        refine y_callV1 (p' := 117) D_Law_completions_114 V_Law_26 (k_cnt0 CD hS) rfl (by first | assumption | exact sUp_eq | (rw [sUp_ne (by omega)]; assumption) | (rw [sUp_ne (by omega), sUp_ne (by omega)]; assumption) | (rw [sUp_ne (by omega)]; exact sUp_eq) | (rw [gSet_ne (by omega) (by omega)]; first | assumption | exact sUp_eq | (rw [sUp_ne (by omega)]; assumption) | (rw [sUp_ne (by omega), sUp_ne (by omega)]; assumption)) | (rw [sUp_ne (by omega), sUp_ne (by omega), sUp_ne (by omega)]; assumption) | (simp [sUp]; done)) rfl (Nat.le_of_ble_eq_true rfl) (by decide) ⟨by decide, by decide⟩ rfl ?_
                        rintro h9 ⟨C9, F9⟩
                        have c9 := C9.1
                        refine e_icmpN_ge (q := 303) (p' := 120) D_Law_completions_117 (by omega) (by omega) rfl rfl (fun hc117 => ?_) (fun hc117 => ?_)
                        ·
                          exfalso; omega
                        ·
                          refine e_iconst (v := nI 0) (p' := 121) D_Law_completions_120 cst_iconst_0 rfl ?_
                          refine e_istore_6 (p' := 123) D_Law_completions_121 (Nat.le_of_ble_eq_true rfl) rfl rfl ?_
                          have lk123 : ∀ c : Nat, c ≤ st.1.1.2.1 → ∀ (h1 : sH), CInv h1 st → sEv l m_Law_completions 8 (0, 0, 0, 0) (sKm 0 0 (fun r1 h1 => r1 = some (.int (nI 1)) ∧ (fun h1 => CInv h1 st) h1)) 123 [some (.ref 0), some (.int v), some (.long (lN (cpl st.1))), none, some (.int (nI st.1.1.2.2)), some (.int (nI r)), some (.int (nI c)), none, none, none, none, none, none] [] (h1) := by
                            refine lp_up _ ?_ ?_
                            · intro h1 CE
                              have ce := CE.1
                              refine e_iload_6 (p' := 125) D_Law_completions_123 rfl ?_
                              refine e_aload_0 (p' := 126) D_Law_completions_125 rfl ?_
                              refine e_iconst (v := nI 1) (p' := 127) D_Law_completions_126 cst_iconst_1 rfl ?_
                              refine y_callV1 (p' := 130) D_Law_completions_127 V_Law_26 (k_cnt1 CE hS) rfl (by first | assumption | exact sUp_eq | (rw [sUp_ne (by omega)]; assumption) | (rw [sUp_ne (by omega), sUp_ne (by omega)]; assumption) | (rw [sUp_ne (by omega)]; exact sUp_eq) | (rw [gSet_ne (by omega) (by omega)]; first | assumption | exact sUp_eq | (rw [sUp_ne (by omega)]; assumption) | (rw [sUp_ne (by omega), sUp_ne (by omega)]; assumption)) | (rw [sUp_ne (by omega), sUp_ne (by omega), sUp_ne (by omega)]; assumption) | (simp [sUp]; done)) rfl (Nat.le_of_ble_eq_true rfl) (by decide) ⟨by decide, by decide⟩ rfl ?_
                              rintro h10 ⟨C10, F10⟩
                              have c10 := C10.1
                              refine e_icmpN_ge (q := 297) (p' := 133) D_Law_completions_130 (by omega) (by omega) rfl rfl (fun hc130 => ?_) (fun hc130 => ?_)
                              ·
                                first | refine e_iincN_5 (n := 1) (p' := 300) D_Law_completions_297 (Nat.le_of_ble_eq_true rfl) rfl rfl ?_ | refine e_iinc_5 (p' := 300) D_Law_completions_297 (Nat.le_of_ble_eq_true rfl) rfl rfl rfl ?_
                                refine e_goto (p' := 110) D_Law_completions_300 rfl ?_
                                refine sEv.castW (ih110 h10 C10) ?_ ?_ ?_
                                · exact ⟨rfl, rfl, rfl, rfl, rfl, trivial⟩
                                · rfl
                                · first | rfl | (simp; done)
                              ·
                                exfalso; omega
                            · intro c hc ih123 h1 CE
                              have ce := CE.1
                              refine e_iload_6 (p' := 125) D_Law_completions_123 rfl ?_
                              refine e_aload_0 (p' := 126) D_Law_completions_125 rfl ?_
                              refine e_iconst (v := nI 1) (p' := 127) D_Law_completions_126 cst_iconst_1 rfl ?_
                              refine y_callV1 (p' := 130) D_Law_completions_127 V_Law_26 (k_cnt1 CE hS) rfl (by first | assumption | exact sUp_eq | (rw [sUp_ne (by omega)]; assumption) | (rw [sUp_ne (by omega), sUp_ne (by omega)]; assumption) | (rw [sUp_ne (by omega)]; exact sUp_eq) | (rw [gSet_ne (by omega) (by omega)]; first | assumption | exact sUp_eq | (rw [sUp_ne (by omega)]; assumption) | (rw [sUp_ne (by omega), sUp_ne (by omega)]; assumption)) | (rw [sUp_ne (by omega), sUp_ne (by omega), sUp_ne (by omega)]; assumption) | (simp [sUp]; done)) rfl (Nat.le_of_ble_eq_true rfl) (by decide) ⟨by decide, by decide⟩ rfl ?_
                              rintro h10 ⟨C10, F10⟩
                              have c10 := C10.1
                              refine e_icmpN_ge (q := 297) (p' := 133) D_Law_completions_130 (by omega) (by omega) rfl rfl (fun hc130 => ?_) (fun hc130 => ?_)
                              ·
                                exfalso; omega
                              ·
                                refine e_aload_0 (p' := 134) D_Law_completions_133 rfl ?_
                                refine e_iload_5 (p' := 136) D_Law_completions_134 rfl ?_
                                refine e_iconst (v := nI 0) (p' := 137) D_Law_completions_136 cst_iconst_0 rfl ?_
                                refine y_callS1 (p' := 140) D_Law_completions_137 S_Law_42 (c_Law_partOfR C10 hS (by omega) (lP_nz hx (by omega))) rfl rfl (Nat.le_of_ble_eq_true rfl) (by decide) ⟨by decide, by decide⟩ rfl ?_
                                rintro h11 C11
                                have c11 := C11.1
                                refine e_istore_7 (p' := 142) D_Law_completions_140 (Nat.le_of_ble_eq_true rfl) rfl rfl ?_
                                refine e_aload_0 (p' := 143) D_Law_completions_142 rfl ?_
                                refine e_iload_6 (p' := 145) D_Law_completions_143 rfl ?_
                                refine e_iconst (v := nI 1) (p' := 146) D_Law_completions_145 cst_iconst_1 rfl ?_
                                refine y_callS1 (p' := 149) D_Law_completions_146 S_Law_42 (c_Law_partOfC C11 hS (by omega) (lQ_nz hx (by omega))) rfl rfl (Nat.le_of_ble_eq_true rfl) (by decide) ⟨by decide, by decide⟩ rfl ?_
                                rintro h12 C12
                                have c12 := C12.1
                                refine e_istore_8 (p' := 151) D_Law_completions_149 (Nat.le_of_ble_eq_true rfl) rfl rfl ?_
                                refine e_aload_0 (p' := 152) D_Law_completions_151 rfl ?_
                                refine e_lconst (v := lN 0) (p' := 153) D_Law_completions_152 rfl rfl ?_
                                refine e_iload_5 (p' := 155) D_Law_completions_153 rfl ?_
                                refine e_iload_6 (p' := 157) D_Law_completions_155 rfl ?_
                                refine y_callV1 (p' := 160) D_Law_completions_157 V_Law_46 (k_cmd C12 hS (k := 0) (by omega) (by omega) (by omega)) rfl (by first | assumption | exact sUp_eq | (rw [sUp_ne (by omega)]; assumption) | (rw [sUp_ne (by omega), sUp_ne (by omega)]; assumption) | (rw [sUp_ne (by omega)]; exact sUp_eq) | (rw [gSet_ne (by omega) (by omega)]; first | assumption | exact sUp_eq | (rw [sUp_ne (by omega)]; assumption) | (rw [sUp_ne (by omega), sUp_ne (by omega)]; assumption)) | (rw [sUp_ne (by omega), sUp_ne (by omega), sUp_ne (by omega)]; assumption) | (simp [sUp]; done)) rfl (Nat.le_of_ble_eq_true rfl) (by decide) ⟨by decide, by decide⟩ rfl ?_
                                rintro h13 ⟨C13, F13⟩
                                have c13 := C13.1
                                refine e_istore_9 (p' := 162) D_Law_completions_160 (Nat.le_of_ble_eq_true rfl) rfl rfl ?_
                                obtain ⟨mx, hmx⟩ : ∃ mx, mx = max (lP st.1 r - 1) (lQ st.1 c - 1) := ⟨_, rfl⟩
                                have pn := lP_nz hx (r := r) (by omega)
                                have qn := lQ_nz hx (c := c) (by omega)
                                have pl := lP_le hx r
                                have ql := lQ_le hx c
                                have hb1 := cv_13 hx (k := 0) (r := r) (c := c) (by omega) (by omega)
                                have hb2 := cv_13 hx (k := (st.1.1.2.2 - 1) ^ (mx - 1)) (r := r) (c := c) (by omega) (by omega)
                                refine e_lconst (v := lN 1) (p' := 163) D_Law_completions_162 rfl rfl ?_
                                refine e_lstore_10 (p' := 165) D_Law_completions_163 (Nat.le_of_ble_eq_true rfl) rfl rfl ?_
                                refine e_iconst (v := nI 1) (p' := 166) D_Law_completions_165 cst_iconst_1 rfl ?_
                                refine e_istore_12 (p' := 168) D_Law_completions_166 (Nat.le_of_ble_eq_true rfl) rfl rfl ?_
                                have lk168 : ∀ i : Nat, i ≤ (mx - 1) → sEv l m_Law_completions 8 (0, 0, 0, 0) (sKm 0 0 (fun r1 h1 => r1 = some (.int (nI 1)) ∧ (fun h1 => CInv h1 st) h1)) 168 [some (.ref 0), some (.int v), some (.long (lN (cpl st.1))), none, some (.int (nI st.1.1.2.2)), some (.int (nI r)), some (.int (nI c)), some (.int (nI (lP st.1 r - 1))), some (.int (nI (lQ st.1 c - 1))), some (.int (nI (cv st.1 0 r c))), some (.long (lN ((st.1.1.2.2 - 1) ^ i))), none, some (.int (nI (i + 1)))] [] (h13) := by
                                  refine lp_up _ ?_ ?_
                                  · skip
                                    refine e_iload_12 (p' := 170) D_Law_completions_168 rfl ?_
                                    have jn184 : sEv l m_Law_completions 8 (0, 0, 0, 0) (sKm 0 0 (fun r1 h1 => r1 = some (.int (nI 1)) ∧ (fun h1 => CInv h1 st) h1)) 184 [some (.ref 0), some (.int v), some (.long (lN (cpl st.1))), none, some (.int (nI st.1.1.2.2)), some (.int (nI r)), some (.int (nI c)), some (.int (nI (lP st.1 r - 1))), some (.int (nI (lQ st.1 c - 1))), some (.int (nI (cv st.1 0 r c))), some (.long (lN ((st.1.1.2.2 - 1) ^ ((mx - 1))))), none, some (.int (nI (((mx - 1)) + 1)))] [.int (nI mx), .int (nI (((mx - 1)) + 1))] h13 := by
                                      refine e_icmpN_ge (q := 203) (p' := 187) D_Law_completions_184 (by omega) (by omega) rfl rfl (fun hc184 => ?_) (fun hc184 => ?_)
                                      ·
                                        refine e_iload_7 (p' := 205) D_Law_completions_203 rfl ?_
                                        refine e_iload_8 (p' := 207) D_Law_completions_205 rfl ?_
                                        refine e_icmpN_ne (q := 248) (p' := 210) D_Law_completions_207 (by omega) (by omega) rfl rfl (fun hc207 => ?_) (fun hc207 => ?_)
                                        ·
                                          refine e_aload_0 (p' := 249) D_Law_completions_248 rfl ?_
                                          refine e_iload_5 (p' := 251) D_Law_completions_249 rfl ?_
                                          refine e_iload_6 (p' := 253) D_Law_completions_251 rfl ?_
                                          refine e_iconst (v := nI 1) (p' := 254) D_Law_completions_253 cst_iconst_1 rfl ?_
                                          refine y_callV1 (p' := 257) D_Law_completions_254 V_Law_33 (k_ent1 C13 hS (by omega) (by omega)) rfl (by first | assumption | exact sUp_eq | (rw [sUp_ne (by omega)]; assumption) | (rw [sUp_ne (by omega), sUp_ne (by omega)]; assumption) | (rw [sUp_ne (by omega)]; exact sUp_eq) | (rw [gSet_ne (by omega) (by omega)]; first | assumption | exact sUp_eq | (rw [sUp_ne (by omega)]; assumption) | (rw [sUp_ne (by omega), sUp_ne (by omega)]; assumption)) | (rw [sUp_ne (by omega), sUp_ne (by omega), sUp_ne (by omega)]; assumption) | (simp [sUp]; done)) rfl (Nat.le_of_ble_eq_true rfl) (by decide) ⟨by decide, by decide⟩ rfl ?_
                                          rintro h14 ⟨C14, F14⟩
                                          have c14 := C14.1
                                          rw [fol_no (show lP st.1 r ≠ lQ st.1 c by omega)]
                                          refine e_bipush (v := (-6)) (p' := 259) D_Law_completions_257 cst_bipush_m6 rfl ?_
                                          refine e_icmp_ne (q := 281) (p' := 262) D_Law_completions_259 rfl rfl (fun hc259 => ?_) (fun hc259 => ?_)
                                          ·
                                            first | exact absurd rfl hc259 | exact hc259 rfl | (exfalso; omega) | exact absurd hc259 (by decide) | exact absurd hc259 (by simp [*])
                                          ·
                                            refine e_aload_0 (p' := 263) D_Law_completions_262 rfl ?_
                                            refine e_lload_10 (p' := 265) D_Law_completions_263 rfl ?_
                                            refine e_iload_5 (p' := 267) D_Law_completions_265 rfl ?_
                                            refine e_iload_6 (p' := 269) D_Law_completions_267 rfl ?_
                                            refine y_callV1 (p' := 272) D_Law_completions_269 V_Law_46 (k_cmd C14 hS (kk_lt hx hw (by omega) (by omega) hmx (by omega)) (by omega) (by omega)) rfl (by first | assumption | exact sUp_eq | (rw [sUp_ne (by omega)]; assumption) | (rw [sUp_ne (by omega), sUp_ne (by omega)]; assumption) | (rw [sUp_ne (by omega)]; exact sUp_eq) | (rw [gSet_ne (by omega) (by omega)]; first | assumption | exact sUp_eq | (rw [sUp_ne (by omega)]; assumption) | (rw [sUp_ne (by omega), sUp_ne (by omega)]; assumption)) | (rw [sUp_ne (by omega), sUp_ne (by omega), sUp_ne (by omega)]; assumption) | (simp [sUp]; done)) rfl (Nat.le_of_ble_eq_true rfl) (by decide) ⟨by decide, by decide⟩ rfl ?_
                                            rintro h15 ⟨C15, F15⟩
                                            have c15 := C15.1
                                            refine e_iload_9 (p' := 274) D_Law_completions_272 rfl ?_
                                            refine e_icmpN_eq (q := 281) (p' := 277) D_Law_completions_274 (by omega) (by omega) rfl rfl (fun hc274 => ?_) (fun hc274 => ?_)
                                            ·
                                              exact absurd hc274 (by rw [hmx]; exact cv_ne hx (by omega) (by omega) (by omega))
                                            ·
                                              refine e_iconst (v := nI 1) (p' := 278) D_Law_completions_277 cst_iconst_1 rfl ?_
                                              refine e_goto (p' := 282) D_Law_completions_278 rfl ?_
                                              refine e_istore_12 (p' := 284) D_Law_completions_282 (Nat.le_of_ble_eq_true rfl) rfl rfl ?_
                                              refine e_iload_12 (p' := 286) D_Law_completions_284 rfl ?_
                                              refine e_ifN_ne (q := 291) (p' := 289) D_Law_completions_286 (by omega) rfl rfl (fun hc286 => ?_) (fun hc286 => ?_)
                                              ·
                                                first | refine e_iincN_6 (n := 1) (p' := 294) D_Law_completions_291 (Nat.le_of_ble_eq_true rfl) rfl rfl ?_ | refine e_iinc_6 (p' := 294) D_Law_completions_291 (Nat.le_of_ble_eq_true rfl) rfl rfl rfl ?_
                                                refine e_goto (p' := 123) D_Law_completions_294 rfl ?_
                                                refine sEv.castW (ih123 h15 C15) ?_ ?_ ?_
                                                · exact ⟨rfl, rfl, rfl, rfl, rfl, rfl, trivial⟩
                                                · rfl
                                                · first | rfl | (simp; done)
                                              ·
                                                first | exact absurd rfl hc286 | exact hc286 rfl | (exfalso; omega) | exact absurd hc286 (by decide) | exact absurd hc286 (by simp [*])
                                        ·
                                          have he : lP st.1 r = lQ st.1 c := by omega
                                          rw [cv_jn hx (by omega) (by omega) he]
                                          refine e_aload_0 (p' := 211) D_Law_completions_210 rfl ?_
                                          refine e_iload_5 (p' := 213) D_Law_completions_211 rfl ?_
                                          refine e_iload_6 (p' := 215) D_Law_completions_213 rfl ?_
                                          refine e_iconst (v := nI 1) (p' := 216) D_Law_completions_215 cst_iconst_1 rfl ?_
                                          refine y_callV1 (p' := 219) D_Law_completions_216 V_Law_33 (k_ent1 C13 hS (by omega) (by omega)) rfl (by first | assumption | exact sUp_eq | (rw [sUp_ne (by omega)]; assumption) | (rw [sUp_ne (by omega), sUp_ne (by omega)]; assumption) | (rw [sUp_ne (by omega)]; exact sUp_eq) | (rw [gSet_ne (by omega) (by omega)]; first | assumption | exact sUp_eq | (rw [sUp_ne (by omega)]; assumption) | (rw [sUp_ne (by omega), sUp_ne (by omega)]; assumption)) | (rw [sUp_ne (by omega), sUp_ne (by omega), sUp_ne (by omega)]; assumption) | (simp [sUp]; done)) rfl (Nat.le_of_ble_eq_true rfl) (by decide) ⟨by decide, by decide⟩ rfl ?_
                                          rintro h14 ⟨C14, F14⟩
                                          have c14 := C14.1
                                          rw [fol_jn hw he]
                                          refine e_iload_9 (p' := 221) D_Law_completions_219 rfl ?_
                                          refine e_icmp_ne (q := 244) (p' := 224) D_Law_completions_221 rfl rfl (fun hc221 => ?_) (fun hc221 => ?_)
                                          ·
                                            first | exact absurd rfl hc221 | exact hc221 rfl | (exfalso; omega) | exact absurd hc221 (by decide) | exact absurd hc221 (by simp [*])
                                          ·
                                            refine e_aload_0 (p' := 225) D_Law_completions_224 rfl ?_
                                            refine e_lload_2 (p' := 226) D_Law_completions_225 rfl ?_
                                            refine e_lconst (v := lN 1) (p' := 227) D_Law_completions_226 rfl rfl ?_
                                            refine e_lsub (p' := 228) D_Law_completions_227 rfl ?_
                                            rw [lN_sub (by omega)]
                                            refine e_iload_5 (p' := 230) D_Law_completions_228 rfl ?_
                                            refine e_iload_6 (p' := 232) D_Law_completions_230 rfl ?_
                                            refine y_callV1 (p' := 235) D_Law_completions_232 V_Law_46 (k_cmd C14 hS (k := cpl st.1 - 1) (by omega) (by omega) (by omega)) rfl (by first | assumption | exact sUp_eq | (rw [sUp_ne (by omega)]; assumption) | (rw [sUp_ne (by omega), sUp_ne (by omega)]; assumption) | (rw [sUp_ne (by omega)]; exact sUp_eq) | (rw [gSet_ne (by omega) (by omega)]; first | assumption | exact sUp_eq | (rw [sUp_ne (by omega)]; assumption) | (rw [sUp_ne (by omega), sUp_ne (by omega)]; assumption)) | (rw [sUp_ne (by omega), sUp_ne (by omega), sUp_ne (by omega)]; assumption) | (simp [sUp]; done)) rfl (Nat.le_of_ble_eq_true rfl) (by decide) ⟨by decide, by decide⟩ rfl ?_
                                            rintro h15 ⟨C15, F15⟩
                                            have c15 := C15.1
                                            rw [cv_jn hx (k := cpl st.1 - 1) (by omega) (by omega) he]
                                            refine e_iload_9 (p' := 237) D_Law_completions_235 rfl ?_
                                            refine e_icmp_ne (q := 244) (p' := 240) D_Law_completions_237 rfl rfl (fun hc237 => ?_) (fun hc237 => ?_)
                                            ·
                                              first | exact absurd rfl hc237 | exact hc237 rfl | (exfalso; omega) | exact absurd hc237 (by decide) | exact absurd hc237 (by simp [*])
                                            ·
                                              refine e_iconst (v := nI 1) (p' := 241) D_Law_completions_240 cst_iconst_1 rfl ?_
                                              refine e_goto (p' := 282) D_Law_completions_241 rfl ?_
                                              refine e_istore_12 (p' := 284) D_Law_completions_282 (Nat.le_of_ble_eq_true rfl) rfl rfl ?_
                                              refine e_iload_12 (p' := 286) D_Law_completions_284 rfl ?_
                                              refine e_ifN_ne (q := 291) (p' := 289) D_Law_completions_286 (by omega) rfl rfl (fun hc286 => ?_) (fun hc286 => ?_)
                                              ·
                                                first | refine e_iincN_6 (n := 1) (p' := 294) D_Law_completions_291 (Nat.le_of_ble_eq_true rfl) rfl rfl ?_ | refine e_iinc_6 (p' := 294) D_Law_completions_291 (Nat.le_of_ble_eq_true rfl) rfl rfl rfl ?_
                                                refine e_goto (p' := 123) D_Law_completions_294 rfl ?_
                                                refine sEv.castW (ih123 h15 C15) ?_ ?_ ?_
                                                · exact ⟨rfl, rfl, rfl, rfl, rfl, rfl, trivial⟩
                                                · rfl
                                                · first | rfl | (simp; done)
                                              ·
                                                first | exact absurd rfl hc286 | exact hc286 rfl | (exfalso; omega) | exact absurd hc286 (by decide) | exact absurd hc286 (by simp [*])
                                      ·
                                        exfalso; omega
                                    refine e_iload_7 (p' := 172) D_Law_completions_170 rfl ?_
                                    refine e_iload_8 (p' := 174) D_Law_completions_172 rfl ?_
                                    refine e_icmpN_le (q := 182) (p' := 177) D_Law_completions_174 (by omega) (by omega) rfl rfl (fun hc174 => ?_) (fun hc174 => ?_)
                                    ·
                                      refine e_iload_8 (p' := 184) D_Law_completions_182 rfl ?_
                                      refine sEv.castW (jn184 ) ?_ ?_ ?_
                                      · exact lvW_rfl _
                                      · first | exact congrArg (fun z => [Value.int z, Value.int (nI (((mx - 1)) + 1))]) (by rw [hmx, Nat.max_eq_right hc174]) | exact congrArg (fun z => [Value.int z, Value.int (nI (((mx - 1)) + 1))]) (by rw [hmx, Nat.max_eq_left (by omega)])
                                      · first | rfl | (simp; done)
                                    ·
                                      refine e_iload_7 (p' := 179) D_Law_completions_177 rfl ?_
                                      refine e_goto (p' := 184) D_Law_completions_179 rfl ?_
                                      refine sEv.castW (jn184 ) ?_ ?_ ?_
                                      · exact lvW_rfl _
                                      · first | exact congrArg (fun z => [Value.int z, Value.int (nI (((mx - 1)) + 1))]) (by rw [hmx, Nat.max_eq_right hc174]) | exact congrArg (fun z => [Value.int z, Value.int (nI (((mx - 1)) + 1))]) (by rw [hmx, Nat.max_eq_left (by omega)])
                                      · first | rfl | (simp; done)
                                  · intro i hi ih168 
                                    refine e_iload_12 (p' := 170) D_Law_completions_168 rfl ?_
                                    have jn184 : sEv l m_Law_completions 8 (0, 0, 0, 0) (sKm 0 0 (fun r1 h1 => r1 = some (.int (nI 1)) ∧ (fun h1 => CInv h1 st) h1)) 184 [some (.ref 0), some (.int v), some (.long (lN (cpl st.1))), none, some (.int (nI st.1.1.2.2)), some (.int (nI r)), some (.int (nI c)), some (.int (nI (lP st.1 r - 1))), some (.int (nI (lQ st.1 c - 1))), some (.int (nI (cv st.1 0 r c))), some (.long (lN ((st.1.1.2.2 - 1) ^ i))), none, some (.int (nI (i + 1)))] [.int (nI mx), .int (nI (i + 1))] h13 := by
                                      refine e_icmpN_ge (q := 203) (p' := 187) D_Law_completions_184 (by omega) (by omega) rfl rfl (fun hc184 => ?_) (fun hc184 => ?_)
                                      ·
                                        exfalso; omega
                                      ·
                                        refine e_lload_10 (p' := 189) D_Law_completions_187 rfl ?_
                                        refine e_iload_4 (p' := 191) D_Law_completions_189 rfl ?_
                                        refine e_iconst (v := nI 1) (p' := 192) D_Law_completions_191 cst_iconst_1 rfl ?_
                                        first | refine e_isubN (p' := 193) D_Law_completions_192 (by omega) rfl ?_ | refine e_isub (p' := 193) D_Law_completions_192 rfl ?_
                                        first | refine e_i2lN (p' := 194) D_Law_completions_193 (by omega) rfl ?_ | refine e_i2l (p' := 194) D_Law_completions_193 rfl rfl ?_
                                        refine e_lmul (p' := 195) D_Law_completions_194 rfl ?_
                                        rw [lN_mul, ← Nat.pow_succ]
                                        refine e_lstore_10 (p' := 197) D_Law_completions_195 (Nat.le_of_ble_eq_true rfl) rfl rfl ?_
                                        first | refine e_iincN_12 (n := 1) (p' := 200) D_Law_completions_197 (Nat.le_of_ble_eq_true rfl) rfl rfl ?_ | refine e_iinc_12 (p' := 200) D_Law_completions_197 (Nat.le_of_ble_eq_true rfl) rfl rfl rfl ?_
                                        refine e_goto (p' := 168) D_Law_completions_200 rfl ?_
                                        refine sEv.castW (ih168) ?_ ?_ ?_
                                        · exact ⟨rfl, rfl, rfl, rfl, rfl, rfl, rfl, rfl, rfl, rfl, rfl, trivial⟩
                                        · rfl
                                        · first | rfl | (simp; done)
                                    refine e_iload_7 (p' := 172) D_Law_completions_170 rfl ?_
                                    refine e_iload_8 (p' := 174) D_Law_completions_172 rfl ?_
                                    refine e_icmpN_le (q := 182) (p' := 177) D_Law_completions_174 (by omega) (by omega) rfl rfl (fun hc174 => ?_) (fun hc174 => ?_)
                                    ·
                                      refine e_iload_8 (p' := 184) D_Law_completions_182 rfl ?_
                                      refine sEv.castW (jn184 ) ?_ ?_ ?_
                                      · exact lvW_rfl _
                                      · first | exact congrArg (fun z => [Value.int z, Value.int (nI (i + 1))]) (by rw [hmx, Nat.max_eq_right hc174]) | exact congrArg (fun z => [Value.int z, Value.int (nI (i + 1))]) (by rw [hmx, Nat.max_eq_left (by omega)])
                                      · first | rfl | (simp; done)
                                    ·
                                      refine e_iload_7 (p' := 179) D_Law_completions_177 rfl ?_
                                      refine e_goto (p' := 184) D_Law_completions_179 rfl ?_
                                      refine sEv.castW (jn184 ) ?_ ?_ ?_
                                      · exact lvW_rfl _
                                      · first | exact congrArg (fun z => [Value.int z, Value.int (nI (i + 1))]) (by rw [hmx, Nat.max_eq_right hc174]) | exact congrArg (fun z => [Value.int z, Value.int (nI (i + 1))]) (by rw [hmx, Nat.max_eq_left (by omega)])
                                      · first | rfl | (simp; done)
                                refine sEv.castW (lk168 0 (by omega) ) ?_ ?_ ?_
                                · exact ⟨rfl, rfl, rfl, rfl, rfl, rfl, rfl, rfl, rfl, rfl, rfl, trivial⟩
                                · rfl
                                · first | rfl | (simp; done)
                          refine sEv.castW (lk123 0 (by omega) h9 C9) ?_ ?_ ?_
                          · exact ⟨rfl, rfl, rfl, rfl, rfl, rfl, trivial⟩
                          · rfl
                          · first | rfl | (simp; done)
                    refine sEv.castW (lk110 0 (by omega) h8 C8) ?_ ?_ ?_
                    · exact ⟨rfl, rfl, rfl, rfl, rfl, trivial⟩
                    · rfl
                    · first | rfl | (simp; done)
                  ·
                    first | exact absurd rfl hc102 | exact hc102 rfl | (exfalso; omega) | exact absurd hc102 (by decide) | exact absurd hc102 (by simp [*])
            ·
              first | exact absurd rfl hc66 | exact hc66 rfl | (exfalso; omega) | exact absurd hc66 (by decide) | exact absurd hc66 (by simp [*])
      ·
        exfalso; omega
    · intro i hi ih12 h1 CC
      have cc := CC.1
      refine e_iload_5 (p' := 14) D_Law_completions_12 rfl ?_
      refine e_aload_0 (p' := 15) D_Law_completions_14 rfl ?_
      refine e_iconst (v := nI 4) (p' := 16) D_Law_completions_15 cst_iconst_4 rfl ?_
      refine y_callV1 (p' := 19) D_Law_completions_16 V_Law_26 (k_cnt4 CC hS) rfl (by first | assumption | exact sUp_eq | (rw [sUp_ne (by omega)]; assumption) | (rw [sUp_ne (by omega), sUp_ne (by omega)]; assumption) | (rw [sUp_ne (by omega)]; exact sUp_eq) | (rw [gSet_ne (by omega) (by omega)]; first | assumption | exact sUp_eq | (rw [sUp_ne (by omega)]; assumption) | (rw [sUp_ne (by omega), sUp_ne (by omega)]; assumption)) | (rw [sUp_ne (by omega), sUp_ne (by omega), sUp_ne (by omega)]; assumption) | (simp [sUp]; done)) rfl (Nat.le_of_ble_eq_true rfl) (by decide) ⟨by decide, by decide⟩ rfl ?_
      rintro h2 ⟨C2, F2⟩
      have c2 := C2.1
      refine e_icmpN_ge (q := 36) (p' := 22) D_Law_completions_19 (by omega) (by omega) rfl rfl (fun hc19 => ?_) (fun hc19 => ?_)
      ·
        exfalso; omega
      ·
        refine e_lload_2 (p' := 23) D_Law_completions_22 rfl ?_
        refine e_iload_4 (p' := 25) D_Law_completions_23 rfl ?_
        refine e_iconst (v := nI 1) (p' := 26) D_Law_completions_25 cst_iconst_1 rfl ?_
        first | refine e_isubN (p' := 27) D_Law_completions_26 (by omega) rfl ?_ | refine e_isub (p' := 27) D_Law_completions_26 rfl ?_
        first | refine e_i2lN (p' := 28) D_Law_completions_27 (by omega) rfl ?_ | refine e_i2l (p' := 28) D_Law_completions_27 rfl rfl ?_
        refine e_lmul (p' := 29) D_Law_completions_28 rfl ?_
        rw [lN_mul, ← Nat.pow_succ]
        refine e_lstore_2 (p' := 30) D_Law_completions_29 (Nat.le_of_ble_eq_true rfl) rfl rfl ?_
        first | refine e_iincN_5 (n := 1) (p' := 33) D_Law_completions_30 (Nat.le_of_ble_eq_true rfl) rfl rfl ?_ | refine e_iinc_5 (p' := 33) D_Law_completions_30 (Nat.le_of_ble_eq_true rfl) rfl rfl rfl ?_
        refine e_goto (p' := 12) D_Law_completions_33 rfl ?_
        refine sEv.castW (ih12 h2 C2) ?_ ?_ ?_
        · exact ⟨rfl, rfl, rfl, rfl, rfl, trivial⟩
        · rfl
        · first | rfl | (simp; done)
  refine sEv.castW (lk12 0 (by omega) h1 C1) ?_ ?_ ?_
  · exact ⟨rfl, rfl, rfl, rfl, rfl, trivial⟩
  · rfl
  · first | rfl | (simp; done)
