/-! ===== the law: a completion ===== -/
theorem cv_13 {x : Gd} (hx : Gok x) {k r c : Nat} (hr : r < x.1.1) (hc : c < x.1.2.1) : cv x k r c ≤ 12 := by
  have := (cv_ok hx (k := k) hr hc).1
  have := hx.2.2.1.le
  omega
set_option maxRecDepth 4000 in
theorem c_Law_isCompletion {l : Launch} {h : sH} {st : St} (hC : CInv h st) (hS : StOk st) (hw : wellX st.1 = true) {k : Nat} (hk : k < cpl st.1) : sY l m_Law_isCompletion 7 [.ref 0, .long (lN k)] h (some (.int (nI 1))) (fun h1 => CInv h1 st) := by
  have hx := hS.1
  have hR := hx.1
  have hCc := hx.2.1
  have hm := hx.2.2.1.le
  have c0 := hC.1
  refine en_Law_isCompletion ?_
  refine e_aload_0 (p' := 1) D_Law_isCompletion_0 rfl ?_
  refine e_iconst (v := nI 2) (p' := 2) D_Law_isCompletion_1 cst_iconst_2 rfl ?_
  refine y_callV1 (p' := 5) D_Law_isCompletion_2 V_Law_26 (k_cnt2 hC hS) rfl (by first | assumption | exact sUp_eq | (rw [sUp_ne (by omega)]; assumption) | (rw [sUp_ne (by omega), sUp_ne (by omega)]; assumption) | (rw [sUp_ne (by omega)]; exact sUp_eq) | (rw [gSet_ne (by omega) (by omega)]; first | assumption | exact sUp_eq | (rw [sUp_ne (by omega)]; assumption) | (rw [sUp_ne (by omega), sUp_ne (by omega)]; assumption)) | (rw [sUp_ne (by omega), sUp_ne (by omega), sUp_ne (by omega)]; assumption) | (simp [sUp]; done)) rfl (Nat.le_of_ble_eq_true rfl) (by decide) ⟨by decide, by decide⟩ rfl ?_
  rintro h1 ⟨C1, F1⟩
  have c1 := C1.1
  refine e_istore_3 (p' := 6) D_Law_isCompletion_5 (Nat.le_of_ble_eq_true rfl) rfl rfl ?_
  refine e_iconst (v := nI 0) (p' := 7) D_Law_isCompletion_6 cst_iconst_0 rfl ?_
  refine e_istore_4 (p' := 9) D_Law_isCompletion_7 (Nat.le_of_ble_eq_true rfl) rfl rfl ?_
  have lk9 : ∀ r : Nat, r ≤ st.1.1.1 → ∀ (h1 : sH), CInv h1 st → sEv l m_Law_isCompletion 7 (0, 0, 0, 0) (sKm 0 0 (fun r1 h1 => r1 = some (.int (nI 1)) ∧ (fun h1 => CInv h1 st) h1)) 9 [some (.ref 0), some (.long (lN k)), none, some (.int (nI st.1.1.2.2)), some (.int (nI r)), none, none, none, none] [] (h1) := by
    refine lp_up _ ?_ ?_
    · intro h1 CC
      have cc := CC.1
      refine e_iload_4 (p' := 11) D_Law_isCompletion_9 rfl ?_
      refine e_aload_0 (p' := 12) D_Law_isCompletion_11 rfl ?_
      refine e_iconst (v := nI 0) (p' := 13) D_Law_isCompletion_12 cst_iconst_0 rfl ?_
      refine y_callV1 (p' := 16) D_Law_isCompletion_13 V_Law_26 (k_cnt0 CC hS) rfl (by first | assumption | exact sUp_eq | (rw [sUp_ne (by omega)]; assumption) | (rw [sUp_ne (by omega), sUp_ne (by omega)]; assumption) | (rw [sUp_ne (by omega)]; exact sUp_eq) | (rw [gSet_ne (by omega) (by omega)]; first | assumption | exact sUp_eq | (rw [sUp_ne (by omega)]; assumption) | (rw [sUp_ne (by omega), sUp_ne (by omega)]; assumption)) | (rw [sUp_ne (by omega), sUp_ne (by omega), sUp_ne (by omega)]; assumption) | (simp [sUp]; done)) rfl (Nat.le_of_ble_eq_true rfl) (by decide) ⟨by decide, by decide⟩ rfl ?_
      rintro h2 ⟨C2, F2⟩
      have c2 := C2.1
      refine e_icmpN_ge (q := 131) (p' := 19) D_Law_isCompletion_16 (by omega) (by omega) rfl rfl (fun hc16 => ?_) (fun hc16 => ?_)
      ·
        refine e_iconst (v := nI 1) (p' := 132) D_Law_isCompletion_131 cst_iconst_1 rfl ?_
        refine e_ireturn (ty := .boolean) D_Law_isCompletion_132 rfl (by first | rfl | exact sBo_nar _) ⟨by decide, by decide⟩ ?_
        exact ⟨rfl, C2⟩
      ·
        exfalso; omega
    · intro r hr ih9 h1 CC
      have cc := CC.1
      refine e_iload_4 (p' := 11) D_Law_isCompletion_9 rfl ?_
      refine e_aload_0 (p' := 12) D_Law_isCompletion_11 rfl ?_
      refine e_iconst (v := nI 0) (p' := 13) D_Law_isCompletion_12 cst_iconst_0 rfl ?_
      refine y_callV1 (p' := 16) D_Law_isCompletion_13 V_Law_26 (k_cnt0 CC hS) rfl (by first | assumption | exact sUp_eq | (rw [sUp_ne (by omega)]; assumption) | (rw [sUp_ne (by omega), sUp_ne (by omega)]; assumption) | (rw [sUp_ne (by omega)]; exact sUp_eq) | (rw [gSet_ne (by omega) (by omega)]; first | assumption | exact sUp_eq | (rw [sUp_ne (by omega)]; assumption) | (rw [sUp_ne (by omega), sUp_ne (by omega)]; assumption)) | (rw [sUp_ne (by omega), sUp_ne (by omega), sUp_ne (by omega)]; assumption) | (simp [sUp]; done)) rfl (Nat.le_of_ble_eq_true rfl) (by decide) ⟨by decide, by decide⟩ rfl ?_
      rintro h2 ⟨C2, F2⟩
      have c2 := C2.1
      refine e_icmpN_ge (q := 131) (p' := 19) D_Law_isCompletion_16 (by omega) (by omega) rfl rfl (fun hc16 => ?_) (fun hc16 => ?_)
      ·
        exfalso; omega
      ·
        refine e_iconst (v := nI 0) (p' := 20) D_Law_isCompletion_19 cst_iconst_0 rfl ?_
        refine e_istore_5 (p' := 22) D_Law_isCompletion_20 (Nat.le_of_ble_eq_true rfl) rfl rfl ?_
        have lk22 : ∀ c : Nat, c ≤ st.1.1.2.1 → ∀ (h1 : sH), CInv h1 st → sEv l m_Law_isCompletion 7 (0, 0, 0, 0) (sKm 0 0 (fun r1 h1 => r1 = some (.int (nI 1)) ∧ (fun h1 => CInv h1 st) h1)) 22 [some (.ref 0), some (.long (lN k)), none, some (.int (nI st.1.1.2.2)), some (.int (nI r)), some (.int (nI c)), none, none, none] [] (h1) := by
          refine lp_up _ ?_ ?_
          · intro h1 CD
            have cd := CD.1
            refine e_iload_5 (p' := 24) D_Law_isCompletion_22 rfl ?_
            refine e_aload_0 (p' := 25) D_Law_isCompletion_24 rfl ?_
            refine e_iconst (v := nI 1) (p' := 26) D_Law_isCompletion_25 cst_iconst_1 rfl ?_
            refine y_callV1 (p' := 29) D_Law_isCompletion_26 V_Law_26 (k_cnt1 CD hS) rfl (by first | assumption | exact sUp_eq | (rw [sUp_ne (by omega)]; assumption) | (rw [sUp_ne (by omega), sUp_ne (by omega)]; assumption) | (rw [sUp_ne (by omega)]; exact sUp_eq) | (rw [gSet_ne (by omega) (by omega)]; first | assumption | exact sUp_eq | (rw [sUp_ne (by omega)]; assumption) | (rw [sUp_ne (by omega), sUp_ne (by omega)]; assumption)) | (rw [sUp_ne (by omega), sUp_ne (by omega), sUp_ne (by omega)]; assumption) | (simp [sUp]; done)) rfl (Nat.le_of_ble_eq_true rfl) (by decide) ⟨by decide, by decide⟩ rfl ?_
            rintro h3 ⟨C3, F3⟩
            have c3 := C3.1
            refine e_icmpN_ge (q := 125) (p' := 32) D_Law_isCompletion_29 (by omega) (by omega) rfl rfl (fun hc29 => ?_) (fun hc29 => ?_)
            ·
              first | refine e_iincN_4 (n := 1) (p' := 128) D_Law_isCompletion_125 (Nat.le_of_ble_eq_true rfl) rfl rfl ?_ | refine e_iinc_4 (p' := 128) D_Law_isCompletion_125 (Nat.le_of_ble_eq_true rfl) rfl rfl rfl ?_
              refine e_goto (p' := 9) D_Law_isCompletion_128 rfl ?_
              refine sEv.castW (ih9 h3 C3) ?_ ?_ ?_
              · exact ⟨rfl, rfl, rfl, rfl, trivial⟩
              · rfl
              · first | rfl | (simp; done)
            ·
              exfalso; omega
          · intro c hc ih22 h1 CD
            have cd := CD.1
            refine e_iload_5 (p' := 24) D_Law_isCompletion_22 rfl ?_
            refine e_aload_0 (p' := 25) D_Law_isCompletion_24 rfl ?_
            refine e_iconst (v := nI 1) (p' := 26) D_Law_isCompletion_25 cst_iconst_1 rfl ?_
            refine y_callV1 (p' := 29) D_Law_isCompletion_26 V_Law_26 (k_cnt1 CD hS) rfl (by first | assumption | exact sUp_eq | (rw [sUp_ne (by omega)]; assumption) | (rw [sUp_ne (by omega), sUp_ne (by omega)]; assumption) | (rw [sUp_ne (by omega)]; exact sUp_eq) | (rw [gSet_ne (by omega) (by omega)]; first | assumption | exact sUp_eq | (rw [sUp_ne (by omega)]; assumption) | (rw [sUp_ne (by omega), sUp_ne (by omega)]; assumption)) | (rw [sUp_ne (by omega), sUp_ne (by omega), sUp_ne (by omega)]; assumption) | (simp [sUp]; done)) rfl (Nat.le_of_ble_eq_true rfl) (by decide) ⟨by decide, by decide⟩ rfl ?_
            rintro h3 ⟨C3, F3⟩
            have c3 := C3.1
            refine e_icmpN_ge (q := 125) (p' := 32) D_Law_isCompletion_29 (by omega) (by omega) rfl rfl (fun hc29 => ?_) (fun hc29 => ?_)
            ·
              exfalso; omega
            ·
              refine e_aload_0 (p' := 33) D_Law_isCompletion_32 rfl ?_
              refine e_lload_1 (p' := 34) D_Law_isCompletion_33 rfl ?_
              refine e_iload_4 (p' := 36) D_Law_isCompletion_34 rfl ?_
              refine e_iload_5 (p' := 38) D_Law_isCompletion_36 rfl ?_
              have q1 := (cv_ok hx (k := k) (r := r) (c := c) (by omega) (by omega)).1
              have b1 := cv_13 hx (k := k) (r := r) (c := c) (by omega) (by omega)
              have b2 := cv_13 hx (k := k) (r := 0) (c := 0) (by omega) (by omega)
              have b3 := cv_13 hx (k := k) (r := r) (c := 0) (by omega) (by omega)
              have b4 := cv_13 hx (k := k) (r := 0) (c := c) (by omega) (by omega)
              have d1 := Nat.mul_le_mul b1 b2
              have d2 := Nat.mul_le_mul b3 b4
              refine y_callV1 (p' := 41) D_Law_isCompletion_38 V_Law_46 (k_cmd C3 hS hk (by omega) (by omega)) rfl (by first | assumption | exact sUp_eq | (rw [sUp_ne (by omega)]; assumption) | (rw [sUp_ne (by omega), sUp_ne (by omega)]; assumption) | (rw [sUp_ne (by omega)]; exact sUp_eq) | (rw [gSet_ne (by omega) (by omega)]; first | assumption | exact sUp_eq | (rw [sUp_ne (by omega)]; assumption) | (rw [sUp_ne (by omega), sUp_ne (by omega)]; assumption)) | (rw [sUp_ne (by omega), sUp_ne (by omega), sUp_ne (by omega)]; assumption) | (simp [sUp]; done)) rfl (Nat.le_of_ble_eq_true rfl) (by decide) ⟨by decide, by decide⟩ rfl ?_
              rintro h4 ⟨C4, F4⟩
              have c4 := C4.1
              refine e_istore_6 (p' := 43) D_Law_isCompletion_41 (Nat.le_of_ble_eq_true rfl) rfl rfl ?_
              refine e_aload_0 (p' := 44) D_Law_isCompletion_43 rfl ?_
              refine e_iload_4 (p' := 46) D_Law_isCompletion_44 rfl ?_
              refine e_iload_5 (p' := 48) D_Law_isCompletion_46 rfl ?_
              refine e_iconst (v := nI 0) (p' := 49) D_Law_isCompletion_48 cst_iconst_0 rfl ?_
              refine y_callV1 (p' := 52) D_Law_isCompletion_49 V_Law_33 (k_ent0 C4 hS (by omega) (by omega)) rfl (by first | assumption | exact sUp_eq | (rw [sUp_ne (by omega)]; assumption) | (rw [sUp_ne (by omega), sUp_ne (by omega)]; assumption) | (rw [sUp_ne (by omega)]; exact sUp_eq) | (rw [gSet_ne (by omega) (by omega)]; first | assumption | exact sUp_eq | (rw [sUp_ne (by omega)]; assumption) | (rw [sUp_ne (by omega), sUp_ne (by omega)]; assumption)) | (rw [sUp_ne (by omega), sUp_ne (by omega), sUp_ne (by omega)]; assumption) | (simp [sUp]; done)) rfl (Nat.le_of_ble_eq_true rfl) (by decide) ⟨by decide, by decide⟩ rfl ?_
              rintro h5 ⟨C5, F5⟩
              have c5 := C5.1
              have hat := hx.small r c
              refine e_istore_7 (p' := 54) D_Law_isCompletion_52 (Nat.le_of_ble_eq_true rfl) rfl rfl ?_
              refine e_iload_6 (p' := 56) D_Law_isCompletion_54 rfl ?_
              refine e_aload_0 (p' := 57) D_Law_isCompletion_56 rfl ?_
              refine e_lload_1 (p' := 58) D_Law_isCompletion_57 rfl ?_
              refine e_iconst (v := nI 0) (p' := 59) D_Law_isCompletion_58 cst_iconst_0 rfl ?_
              refine e_iconst (v := nI 0) (p' := 60) D_Law_isCompletion_59 cst_iconst_0 rfl ?_
              refine y_callV1 (p' := 63) D_Law_isCompletion_60 V_Law_46 (k_cmd C5 hS hk (r := 0) (c := 0) (by omega) (by omega)) rfl (by first | assumption | exact sUp_eq | (rw [sUp_ne (by omega)]; assumption) | (rw [sUp_ne (by omega), sUp_ne (by omega)]; assumption) | (rw [sUp_ne (by omega)]; exact sUp_eq) | (rw [gSet_ne (by omega) (by omega)]; first | assumption | exact sUp_eq | (rw [sUp_ne (by omega)]; assumption) | (rw [sUp_ne (by omega), sUp_ne (by omega)]; assumption)) | (rw [sUp_ne (by omega), sUp_ne (by omega), sUp_ne (by omega)]; assumption) | (simp [sUp]; done)) rfl (Nat.le_of_ble_eq_true rfl) (by decide) ⟨by decide, by decide⟩ rfl ?_
              rintro h6 ⟨C6, F6⟩
              have c6 := C6.1
              first | refine e_imulN (p' := 64) D_Law_isCompletion_63 rfl ?_ | refine e_imul (p' := 64) D_Law_isCompletion_63 rfl ?_
              refine e_iload_3 (p' := 65) D_Law_isCompletion_64 rfl ?_
              first | refine e_iremN (p' := 66) D_Law_isCompletion_65 (by omega) (by omega) (by omega) rfl ?_ | refine e_irem (p' := 66) D_Law_isCompletion_65 (by assumption) rfl ?_
              refine e_aload_0 (p' := 67) D_Law_isCompletion_66 rfl ?_
              refine e_lload_1 (p' := 68) D_Law_isCompletion_67 rfl ?_
              refine e_iload_4 (p' := 70) D_Law_isCompletion_68 rfl ?_
              refine e_iconst (v := nI 0) (p' := 71) D_Law_isCompletion_70 cst_iconst_0 rfl ?_
              refine y_callV1 (p' := 74) D_Law_isCompletion_71 V_Law_46 (k_cmd C6 hS hk (c := 0) (by omega) (by omega)) rfl (by first | assumption | exact sUp_eq | (rw [sUp_ne (by omega)]; assumption) | (rw [sUp_ne (by omega), sUp_ne (by omega)]; assumption) | (rw [sUp_ne (by omega)]; exact sUp_eq) | (rw [gSet_ne (by omega) (by omega)]; first | assumption | exact sUp_eq | (rw [sUp_ne (by omega)]; assumption) | (rw [sUp_ne (by omega), sUp_ne (by omega)]; assumption)) | (rw [sUp_ne (by omega), sUp_ne (by omega), sUp_ne (by omega)]; assumption) | (simp [sUp]; done)) rfl (Nat.le_of_ble_eq_true rfl) (by decide) ⟨by decide, by decide⟩ rfl ?_
              rintro h7 ⟨C7, F7⟩
              have c7 := C7.1
              refine e_aload_0 (p' := 75) D_Law_isCompletion_74 rfl ?_
              refine e_lload_1 (p' := 76) D_Law_isCompletion_75 rfl ?_
              refine e_iconst (v := nI 0) (p' := 77) D_Law_isCompletion_76 cst_iconst_0 rfl ?_
              refine e_iload_5 (p' := 79) D_Law_isCompletion_77 rfl ?_
              refine y_callV1 (p' := 82) D_Law_isCompletion_79 V_Law_46 (k_cmd C7 hS hk (r := 0) (by omega) (by omega)) rfl (by first | assumption | exact sUp_eq | (rw [sUp_ne (by omega)]; assumption) | (rw [sUp_ne (by omega), sUp_ne (by omega)]; assumption) | (rw [sUp_ne (by omega)]; exact sUp_eq) | (rw [gSet_ne (by omega) (by omega)]; first | assumption | exact sUp_eq | (rw [sUp_ne (by omega)]; assumption) | (rw [sUp_ne (by omega), sUp_ne (by omega)]; assumption)) | (rw [sUp_ne (by omega), sUp_ne (by omega), sUp_ne (by omega)]; assumption) | (simp [sUp]; done)) rfl (Nat.le_of_ble_eq_true rfl) (by decide) ⟨by decide, by decide⟩ rfl ?_
              rintro h8 ⟨C8, F8⟩
              have c8 := C8.1
              first | refine e_imulN (p' := 83) D_Law_isCompletion_82 rfl ?_ | refine e_imul (p' := 83) D_Law_isCompletion_82 rfl ?_
              refine e_iload_3 (p' := 84) D_Law_isCompletion_83 rfl ?_
              first | refine e_iremN (p' := 85) D_Law_isCompletion_84 (by omega) (by omega) (by omega) rfl ?_ | refine e_irem (p' := 85) D_Law_isCompletion_84 (by assumption) rfl ?_
              rw [show cv st.1 k r c * cv st.1 k 0 0 % st.1.1.2.2 = cv st.1 k r 0 * cv st.1 k 0 c % st.1.1.2.2 from cv_rest hx (by omega) (by omega)]
              first | refine e_isubN (p' := 86) D_Law_isCompletion_85 (by omega) rfl ?_ | refine e_isub (p' := 86) D_Law_isCompletion_85 rfl ?_
              refine e_istore_8 (p' := 88) D_Law_isCompletion_86 (Nat.le_of_ble_eq_true rfl) rfl rfl ?_
              refine e_iload_6 (p' := 90) D_Law_isCompletion_88 rfl ?_
              refine e_iconst (v := nI 1) (p' := 91) D_Law_isCompletion_90 cst_iconst_1 rfl ?_
              refine e_icmpN_lt (q := 117) (p' := 94) D_Law_isCompletion_91 (by omega) (by omega) rfl rfl (fun hc91 => ?_) (fun hc91 => ?_)
              ·
                first | exact absurd rfl hc91 | exact hc91 rfl | (exfalso; omega) | exact absurd hc91 (by decide) | exact absurd hc91 (by simp [*])
              ·
                refine e_iload_6 (p' := 96) D_Law_isCompletion_94 rfl ?_
                refine e_iload_3 (p' := 97) D_Law_isCompletion_96 rfl ?_
                refine e_icmpN_ge (q := 117) (p' := 100) D_Law_isCompletion_97 (by omega) (by omega) rfl rfl (fun hc97 => ?_) (fun hc97 => ?_)
                ·
                  first | exact absurd rfl hc97 | exact hc97 rfl | (exfalso; omega) | exact absurd hc97 (by decide) | exact absurd hc97 (by simp [*])
                ·
                  refine e_iload_7 (p' := 102) D_Law_isCompletion_100 rfl ?_
                  refine e_ifN_le (q := 112) (p' := 105) D_Law_isCompletion_102 (by omega) rfl rfl (fun hc102 => ?_) (fun hc102 => ?_)
                  ·
                    refine e_iload_8 (p' := 114) D_Law_isCompletion_112 rfl ?_
                    refine e_ifN_eq (q := 119) (p' := 117) D_Law_isCompletion_114 (by omega) rfl rfl (fun hc114 => ?_) (fun hc114 => ?_)
                    ·
                      first | refine e_iincN_5 (n := 1) (p' := 122) D_Law_isCompletion_119 (Nat.le_of_ble_eq_true rfl) rfl rfl ?_ | refine e_iinc_5 (p' := 122) D_Law_isCompletion_119 (Nat.le_of_ble_eq_true rfl) rfl rfl rfl ?_
                      refine e_goto (p' := 22) D_Law_isCompletion_122 rfl ?_
                      refine sEv.castW (ih22 h8 C8) ?_ ?_ ?_
                      · exact ⟨rfl, rfl, rfl, rfl, rfl, trivial⟩
                      · rfl
                      · first | rfl | (simp; done)
                    ·
                      first | exact absurd rfl hc114 | exact hc114 rfl | (exfalso; omega) | exact absurd hc114 (by decide) | exact absurd hc114 (by simp [*])
                  ·
                    refine e_iload_7 (p' := 107) D_Law_isCompletion_105 rfl ?_
                    refine e_iload_6 (p' := 109) D_Law_isCompletion_107 rfl ?_
                    refine e_icmp_ne (q := 117) (p' := 112) D_Law_isCompletion_109 rfl rfl (fun hc109 => ?_) (fun hc109 => ?_)
                    ·
                      exact absurd (by rw [cv_told hx hw (by omega) (by omega) (td_true (by omega))]) hc109
                    ·
                      refine e_iload_8 (p' := 114) D_Law_isCompletion_112 rfl ?_
                      refine e_ifN_eq (q := 119) (p' := 117) D_Law_isCompletion_114 (by omega) rfl rfl (fun hc114 => ?_) (fun hc114 => ?_)
                      ·
                        first | refine e_iincN_5 (n := 1) (p' := 122) D_Law_isCompletion_119 (Nat.le_of_ble_eq_true rfl) rfl rfl ?_ | refine e_iinc_5 (p' := 122) D_Law_isCompletion_119 (Nat.le_of_ble_eq_true rfl) rfl rfl rfl ?_
                        refine e_goto (p' := 22) D_Law_isCompletion_122 rfl ?_
                        refine sEv.castW (ih22 h8 C8) ?_ ?_ ?_
                        · exact ⟨rfl, rfl, rfl, rfl, rfl, trivial⟩
                        · rfl
                        · first | rfl | (simp; done)
                      ·
                        first | exact absurd rfl hc114 | exact hc114 rfl | (exfalso; omega) | exact absurd hc114 (by decide) | exact absurd hc114 (by simp [*])
        refine sEv.castW (lk22 0 (by omega) h2 C2) ?_ ?_ ?_
        · exact ⟨rfl, rfl, rfl, rfl, rfl, trivial⟩
        · rfl
        · first | rfl | (simp; done)
  refine sEv.castW (lk9 0 (by omega) h1 C1) ?_ ?_ ?_
  · exact ⟨rfl, rfl, rfl, rfl, trivial⟩
  · rfl
  · first | rfl | (simp; done)
