/-! ===== the law: build ===== -/
theorem e_cell {l : Launch} {M : sM} {d : Nat} {B : sB} {K : sK} {pc p' : Nat} {lv : List (Option Value)} {st : List Value} {h : sH} {idx b L j : Nat} {xs : Nat → Int32} (hX : sXs K b L xs) (hL : L < 2 ^ 31) (hj : j < 2 ^ 31) (hd : decode M.2.1 pc = .ok (.invokestatic idx, 3)) (F : sSL M.1.cls idx m_Law_cell 2) (hcat : (st.map fun v => v.category).sum ≤ 8) (hdp : 0 + 1 ≤ d) (hB : B.1 ≤ B.2.2.1 ∧ B.2.1 ≤ B.2.2.2) (hp : pc + 3 = p')
    (kk : ∀ w : Int32, sEv l M d B K p' lv (.int w :: st) h) : sEv l M d B K pc lv (.int (nI j) :: .retAddr b :: st) h := by
  refine e_callSL (mc := 0) (ms := 0) (As := [.retAddr b, .int (nI j)]) hX hd F (c_Law_cell hL hj) rfl rfl hcat hdp hB hp (fun r h1 hq => ?_)
  obtain ⟨w, rfl, rfl⟩ := hq
  exact kk w
theorem lay_empty {x : Gd} (hx : Gok x) (ht : ∀ r c, td x r c = false) : (lay x).2 = x.1.1 + x.1.2.1 ∧ jnE x = 0 := by
  have hR := hx.1
  have hC := hx.2.1
  have h1 := layR_ind hx (J := fun s n => (∀ k, s.1.1 k ≠ 0 ↔ k < n) ∧ ∀ k, s.1.2 k = 0) ⟨fun k => ⟨fun z => absurd rfl z, fun z => absurd z (Nat.not_lt_zero _)⟩, fun _ => rfl⟩
    (fun s n r c hr hc hn hi hJ => by
      rcases psStep_cases hr hc hi with e | ⟨⟨t, _⟩, _⟩ | ⟨⟨t, _⟩, _⟩
      · rw [e]; exact hJ
      · rw [ht] at t; cases t
      · rw [ht] at t; cases t)
    (fun s n r hr hk0 h0 hi hcl hJ => by
      have e1 : ¬ r < n := fun z => (hJ.1 r).mpr z h0
      have e2 : n = r := by
        refine Classical.byContradiction fun z => ?_
        have := (hJ.1 n).mp (hk0 n (by omega))
        omega
      subst e2
      refine ⟨fun k => ?_, hJ.2⟩
      show up s.1.1 n (n + 1) k ≠ 0 ↔ _
      by_cases ek : k = n
      · subst ek; rw [up_at]; omega
      · rw [up_off ek, hJ.1 k]; omega) _ (Nat.le_refl _)
  have n1 := (layR_ok hx x.1.1 (Nat.le_refl _)).2.2.2.1
  have n2 := (h1.1 (x.1.1 - 1)).mp ((layR_ok hx x.1.1 (Nat.le_refl _)).2.2.1 _ (by omega))
  have h2 := layC_ind hx (J := fun s n => (∀ k, s.1.2 k ≠ 0 ↔ x.1.1 + k < n) ∧ x.1.1 ≤ n) ⟨fun k => ⟨fun z => absurd (h1.2 k) z, fun z => by omega⟩, by omega⟩
    (fun s n c hc hj hk hk2 h0 hle hJ => by
      have e1 : ¬ x.1.1 + c < n := fun z => (hJ.1 c).mpr z h0
      have e3 := hJ.2
      have e2 : n = x.1.1 + c := by
        refine Classical.byContradiction fun z => ?_
        have := (hJ.1 (n - x.1.1)).mp (hk2 _ (by omega))
        omega
      subst e2
      refine ⟨fun k => ?_, by omega⟩
      show up s.1.2 c (x.1.1 + c + 1) k ≠ 0 ↔ _
      by_cases ek : k = c
      · subst ek; rw [up_at]; omega
      · rw [up_off ek, hJ.1 k]; omega) _ (Nat.le_refl _)
  refine ⟨?_, ?_⟩
  · have m1 := (layC_ok hx _ (Nat.le_refl _)).2.2.2.2.2.1
    have m2 := (h2.1 (x.1.2.1 - 1)).mp (lQ_nz hx (by omega))
    have m1 : (lay x).2 ≤ x.1.1 + x.1.2.1 := m1
    have m2 : x.1.1 + (x.1.2.1 - 1) < (lay x).2 := m2
    omega
  · rw [← inF_sum hx]
    obtain ⟨f, f1, f2⟩ := lay_lab hx (A := fun _ => 0) (B := fun _ => 1) (fun r c _ _ t => by rw [ht] at t; cases t)
    refine sm_zero fun r hr => sm_zero fun c hc => if_neg fun z => ?_
    have a := f1 r hr
    have b := f2 c hc
    have z : lP x r = lQ x c := z
    rw [z, ← b] at a
    exact absurd a (by decide)
theorem told_up1 {x : Gd} {r c v : Nat} (hp : 6 * r + c < 36) (h0 : at' x r c = 0) (hv : 0 < v) : told (upd1 x r c v) = told x + 1 := by
  have h := sm_one (n := 36) (p := 6 * r + c) (f := fun p => if 0 < (upd1 x r c v).2 p then 1 else 0) (g := fun p => if 0 < x.2 p then 1 else 0) hp (fun k _ hk => by
    show (if 0 < up x.2 (6 * r + c) v k then 1 else 0) = _
    rw [up_off hk])
  have e1 : (if 0 < (upd1 x r c v).2 (6 * r + c) then 1 else 0) = 1 := by
    show (if 0 < up x.2 (6 * r + c) v (6 * r + c) then 1 else 0) = 1
    rw [up_at, if_pos hv]
  have e2 : (if 0 < x.2 (6 * r + c) then 1 else 0) = 0 := by
    have : x.2 (6 * r + c) = 0 := h0
    rw [this]; rfl
  rw [e1, e2] at h
  exact h
theorem cst_bipush_60 : (Int8.ofInt 60).toInt32 = nI 60 := rfl
theorem cst_bipush_41 : (Int8.ofInt 41).toInt32 = nI 41 := rfl
theorem cst_bipush_42 : (Int8.ofInt 42).toInt32 = nI 42 := rfl
theorem told_e {R C m : Nat} : told ((R, C, m), fun _ => 0) = 0 := sm_zero fun _ _ => rfl
theorem mok_mul {m a b : Nat} (hm : Mok m) : (a % m) * (b % m) < 2 ^ 31 := by
  have h := hm.le
  have h1 := Nat.mod_lt a (show 0 < m by omega)
  have h2 := Nat.mod_lt b (show 0 < m by omega)
  have h3 := Nat.mul_le_mul (show a % m ≤ 13 by omega) (show b % m ≤ 13 by omega)
  omega
set_option maxRecDepth 4000 in
theorem c_Law_build {l : Launch} {h : sH} {st : St} (hC : CInv h st) (hS : StOk st) (ht0 : told st.1 = 0) {b L : Nat} {xs : Nat → Int32} (hL : L < 2 ^ 31) : sCallL l b L xs m_Law_build 7 0 0 [.ref 0, .retAddr b] h (fun r1 h1 => r1 = some (.int (nI 1)) ∧ ∃ (x : Gd) (hs : Hs), CInv h1 (x, hs, st.2.2) ∧ StOk (x, hs, st.2.2)) := by
  have c0 := hC.1
  refine en_Law_build ?_
  refine e_aloadA_1 (p' := 1) D_Law_build_0 rfl ?_
  refine e_iconst (v := nI 0) (p' := 2) D_Law_build_1 cst_iconst_0 rfl ?_
  refine e_cell sKmL_X hL (by omega) (p' := 5) D_Law_build_2 S_Law_10 (Nat.le_of_ble_eq_true rfl) (by decide) ⟨by decide, by decide⟩ rfl (fun w2 => ?_)
  refine e_istore_2 (p' := 6) D_Law_build_5 (Nat.le_of_ble_eq_true rfl) rfl rfl ?_
  refine e_iconst (v := nI 2) (p' := 7) D_Law_build_6 cst_iconst_2 rfl ?_
  refine e_iload_2 (p' := 8) D_Law_build_7 rfl ?_
  refine e_iconst (v := nI 5) (p' := 9) D_Law_build_8 cst_iconst_5 rfl ?_
  refine x_callS1 (p' := 12) D_Law_build_9 S_Law_16 (c_Law_low (by omega) (by omega)) rfl rfl (Nat.le_of_ble_eq_true rfl) (by decide) ⟨by decide, by decide⟩ rfl ?_
  first | refine e_iaddN (p' := 13) D_Law_build_12 rfl ?_ | refine e_iadd (p' := 13) D_Law_build_12 rfl ?_
  have hl1 := lowN_lt (v := w2) (n := 5) (by omega)
  obtain ⟨R, hRe⟩ : ∃ R, 2 + lowN w2 5 = R := ⟨_, rfl⟩
  rw [hRe]
  refine e_istore_3 (p' := 14) D_Law_build_13 (Nat.le_of_ble_eq_true rfl) rfl rfl ?_
  refine e_iconst (v := nI 2) (p' := 15) D_Law_build_14 cst_iconst_2 rfl ?_
  refine e_iload_2 (p' := 16) D_Law_build_15 rfl ?_
  refine e_iconst (v := nI 3) (p' := 17) D_Law_build_16 cst_iconst_3 rfl ?_
  refine e_ishr (p' := 18) D_Law_build_17 rfl ?_
  refine e_iconst (v := nI 5) (p' := 19) D_Law_build_18 cst_iconst_5 rfl ?_
  refine x_callS1 (p' := 22) D_Law_build_19 S_Law_16 (c_Law_low (by omega) (by omega)) rfl rfl (Nat.le_of_ble_eq_true rfl) (by decide) ⟨by decide, by decide⟩ rfl ?_
  first | refine e_iaddN (p' := 23) D_Law_build_22 rfl ?_ | refine e_iadd (p' := 23) D_Law_build_22 rfl ?_
  have hl2 := lowN_lt (v := w2 >>> (nI 3 &&& 31)) (n := 5) (by omega)
  obtain ⟨C, hCe⟩ : ∃ C, 2 + lowN (w2 >>> (nI 3 &&& 31)) 5 = C := ⟨_, rfl⟩
  rw [hCe]
  have hR : 2 ≤ R ∧ R ≤ 6 := by omega
  have hCc : 2 ≤ C ∧ C ≤ 6 := by omega
  refine e_istore_4 (p' := 25) D_Law_build_23 (Nat.le_of_ble_eq_true rfl) rfl rfl ?_
  refine e_iload_2 (p' := 26) D_Law_build_25 rfl ?_
  refine e_bipush (v := nI 6) (p' := 28) D_Law_build_26 cst_bipush_6 rfl ?_
  refine e_ishr (p' := 29) D_Law_build_28 rfl ?_
  refine e_iconst (v := nI 4) (p' := 30) D_Law_build_29 cst_iconst_4 rfl ?_
  refine x_callS1 (p' := 33) D_Law_build_30 S_Law_16 (c_Law_low (by omega) (by omega)) rfl rfl (Nat.le_of_ble_eq_true rfl) (by decide) ⟨by decide, by decide⟩ rfl ?_
  have hl3 := lowN_lt (v := w2 >>> (nI 6 &&& 31)) (n := 4) (by omega)
  refine e_istore_5 (p' := 35) D_Law_build_33 (Nat.le_of_ble_eq_true rfl) rfl rfl ?_
  have jn68 : ∀ (m : Nat), Mok m → sEv l m_Law_build 7 (0, 0, 0, 0) (sKmL b L xs 0 0 (fun r1 h1 => r1 = some (.int (nI 1)) ∧ ∃ (x : Gd) (hs : Hs), CInv h1 (x, hs, st.2.2) ∧ StOk (x, hs, st.2.2))) 68 [some (.ref 0), some (.retAddr b), some (.int w2), some (.int (nI R)), some (.int (nI C)), some (.int (nI (lowN (w2 >>> (nI 6 &&& 31)) 4))), none, none, none, none, none, none, none, none, none, none] [.int (nI m)] h := by
    intro m hm
    have hml := hm.le
    refine e_istore_6 (p' := 70) D_Law_build_68 (Nat.le_of_ble_eq_true rfl) rfl rfl ?_
    refine e_aload_0 (p' := 71) D_Law_build_70 rfl ?_
    refine e_iload_3 (p' := 72) D_Law_build_71 rfl ?_
    refine e_iload_4 (p' := 74) D_Law_build_72 rfl ?_
    refine e_iload_6 (p' := 76) D_Law_build_74 rfl ?_
    refine y_callV1 (p' := 79) D_Law_build_76 V_Law_20 (k_begin hC hS hR hCc hm) rfl (by first | assumption | exact sUp_eq | (rw [sUp_ne (by omega)]; assumption) | (rw [sUp_ne (by omega), sUp_ne (by omega)]; assumption) | (rw [sUp_ne (by omega)]; exact sUp_eq) | (rw [gSet_ne (by omega) (by omega)]; first | assumption | exact sUp_eq | (rw [sUp_ne (by omega)]; assumption) | (rw [sUp_ne (by omega), sUp_ne (by omega)]; assumption)) | (rw [sUp_ne (by omega), sUp_ne (by omega), sUp_ne (by omega)]; assumption) | (simp [sUp]; done)) rfl (Nat.le_of_ble_eq_true rfl) (by decide) ⟨by decide, by decide⟩ rfl ?_
    rintro h1 ⟨C1, F1⟩
    have c1 := C1.1
    have hS1 : StOk (((R, C, m), fun _ => 0), recH st.2.1 st.1, st.2.2) := chg_ok hS (clr_ok hR hCc hm)
    rw [ht0]
    have hle := lay_empty hS1.1 (fun _ _ => rfl)
    refine e_ifN_ne (q := 136) (p' := 82) D_Law_build_79 (by omega) rfl rfl (fun hc79 => ?_) (fun hc79 => ?_)
    ·
      first | exact absurd rfl hc79 | exact hc79 rfl | (exfalso; omega) | exact absurd hc79 (by decide) | exact absurd hc79 (by simp [*])
    ·
      refine e_aload_0 (p' := 83) D_Law_build_82 rfl ?_
      refine e_iconst (v := nI 0) (p' := 84) D_Law_build_83 cst_iconst_0 rfl ?_
      refine y_callV1 (p' := 87) D_Law_build_84 V_Law_26 (t_cnt0 C1 hS1) rfl (by first | assumption | exact sUp_eq | (rw [sUp_ne (by omega)]; assumption) | (rw [sUp_ne (by omega), sUp_ne (by omega)]; assumption) | (rw [sUp_ne (by omega)]; exact sUp_eq) | (rw [gSet_ne (by omega) (by omega)]; first | assumption | exact sUp_eq | (rw [sUp_ne (by omega)]; assumption) | (rw [sUp_ne (by omega), sUp_ne (by omega)]; assumption)) | (rw [sUp_ne (by omega), sUp_ne (by omega), sUp_ne (by omega)]; assumption) | (simp [sUp]; done)) rfl (Nat.le_of_ble_eq_true rfl) (by decide) ⟨by decide, by decide⟩ rfl ?_
      rintro h2 ⟨C2, F2⟩
      have c2 := C2.1
      refine e_iload_3 (p' := 88) D_Law_build_87 rfl ?_
      refine e_icmp_ne (q := 136) (p' := 91) D_Law_build_88 rfl rfl (fun hc88 => ?_) (fun hc88 => ?_)
      ·
        first | exact absurd rfl hc88 | exact hc88 rfl | (exfalso; omega) | exact absurd hc88 (by decide) | exact absurd hc88 (by simp [*])
      ·
        refine e_aload_0 (p' := 92) D_Law_build_91 rfl ?_
        refine e_iconst (v := nI 1) (p' := 93) D_Law_build_92 cst_iconst_1 rfl ?_
        refine y_callV1 (p' := 96) D_Law_build_93 V_Law_26 (t_cnt1 C2 hS1) rfl (by first | assumption | exact sUp_eq | (rw [sUp_ne (by omega)]; assumption) | (rw [sUp_ne (by omega), sUp_ne (by omega)]; assumption) | (rw [sUp_ne (by omega)]; exact sUp_eq) | (rw [gSet_ne (by omega) (by omega)]; first | assumption | exact sUp_eq | (rw [sUp_ne (by omega)]; assumption) | (rw [sUp_ne (by omega), sUp_ne (by omega)]; assumption)) | (rw [sUp_ne (by omega), sUp_ne (by omega), sUp_ne (by omega)]; assumption) | (simp [sUp]; done)) rfl (Nat.le_of_ble_eq_true rfl) (by decide) ⟨by decide, by decide⟩ rfl ?_
        rintro h3 ⟨C3, F3⟩
        have c3 := C3.1
        refine e_iload_4 (p' := 98) D_Law_build_96 rfl ?_
        refine e_icmp_ne (q := 136) (p' := 101) D_Law_build_98 rfl rfl (fun hc98 => ?_) (fun hc98 => ?_)
        ·
          first | exact absurd rfl hc98 | exact hc98 rfl | (exfalso; omega) | exact absurd hc98 (by decide) | exact absurd hc98 (by simp [*])
        ·
          refine e_aload_0 (p' := 102) D_Law_build_101 rfl ?_
          refine e_iconst (v := nI 2) (p' := 103) D_Law_build_102 cst_iconst_2 rfl ?_
          refine y_callV1 (p' := 106) D_Law_build_103 V_Law_26 (t_cnt2 C3 hS1) rfl (by first | assumption | exact sUp_eq | (rw [sUp_ne (by omega)]; assumption) | (rw [sUp_ne (by omega), sUp_ne (by omega)]; assumption) | (rw [sUp_ne (by omega)]; exact sUp_eq) | (rw [gSet_ne (by omega) (by omega)]; first | assumption | exact sUp_eq | (rw [sUp_ne (by omega)]; assumption) | (rw [sUp_ne (by omega), sUp_ne (by omega)]; assumption)) | (rw [sUp_ne (by omega), sUp_ne (by omega), sUp_ne (by omega)]; assumption) | (simp [sUp]; done)) rfl (Nat.le_of_ble_eq_true rfl) (by decide) ⟨by decide, by decide⟩ rfl ?_
          rintro h4 ⟨C4, F4⟩
          have c4 := C4.1
          refine e_iload_6 (p' := 108) D_Law_build_106 rfl ?_
          refine e_icmp_ne (q := 136) (p' := 111) D_Law_build_108 rfl rfl (fun hc108 => ?_) (fun hc108 => ?_)
          ·
            first | exact absurd rfl hc108 | exact hc108 rfl | (exfalso; omega) | exact absurd hc108 (by decide) | exact absurd hc108 (by simp [*])
          ·
            refine e_aload_0 (p' := 112) D_Law_build_111 rfl ?_
            refine e_iconst (v := nI 4) (p' := 113) D_Law_build_112 cst_iconst_4 rfl ?_
            refine y_callV1 (p' := 116) D_Law_build_113 V_Law_26 (t_cnt4 C4 hS1) rfl (by first | assumption | exact sUp_eq | (rw [sUp_ne (by omega)]; assumption) | (rw [sUp_ne (by omega), sUp_ne (by omega)]; assumption) | (rw [sUp_ne (by omega)]; exact sUp_eq) | (rw [gSet_ne (by omega) (by omega)]; first | assumption | exact sUp_eq | (rw [sUp_ne (by omega)]; assumption) | (rw [sUp_ne (by omega), sUp_ne (by omega)]; assumption)) | (rw [sUp_ne (by omega), sUp_ne (by omega), sUp_ne (by omega)]; assumption) | (simp [sUp]; done)) rfl (Nat.le_of_ble_eq_true rfl) (by decide) ⟨by decide, by decide⟩ rfl ?_
            rintro h5 ⟨C5, F5⟩
            have c5 := C5.1
            rw [hle.1]
            refine e_iload_3 (p' := 117) D_Law_build_116 rfl ?_
            refine e_iload_4 (p' := 119) D_Law_build_117 rfl ?_
            first | refine e_iaddN (p' := 120) D_Law_build_119 rfl ?_ | refine e_iadd (p' := 120) D_Law_build_119 rfl ?_
            refine e_icmp_ne (q := 136) (p' := 123) D_Law_build_120 rfl rfl (fun hc120 => ?_) (fun hc120 => ?_)
            ·
              first | exact absurd rfl hc120 | exact hc120 rfl | (exfalso; omega) | exact absurd hc120 (by decide) | exact absurd hc120 (by simp [*])
            ·
              refine e_aload_0 (p' := 124) D_Law_build_123 rfl ?_
              refine e_bipush (v := nI 6) (p' := 126) D_Law_build_124 cst_bipush_6 rfl ?_
              refine y_callV1 (p' := 129) D_Law_build_126 V_Law_26 (t_cnt6 C5 hS1) rfl (by first | assumption | exact sUp_eq | (rw [sUp_ne (by omega)]; assumption) | (rw [sUp_ne (by omega), sUp_ne (by omega)]; assumption) | (rw [sUp_ne (by omega)]; exact sUp_eq) | (rw [gSet_ne (by omega) (by omega)]; first | assumption | exact sUp_eq | (rw [sUp_ne (by omega)]; assumption) | (rw [sUp_ne (by omega), sUp_ne (by omega)]; assumption)) | (rw [sUp_ne (by omega), sUp_ne (by omega), sUp_ne (by omega)]; assumption) | (simp [sUp]; done)) rfl (Nat.le_of_ble_eq_true rfl) (by decide) ⟨by decide, by decide⟩ rfl ?_
              rintro h6 ⟨C6, F6⟩
              have c6 := C6.1
              rw [hle.2]
              refine e_ifN_ne (q := 136) (p' := 132) D_Law_build_129 (by omega) rfl rfl (fun hc129 => ?_) (fun hc129 => ?_)
              ·
                first | exact absurd rfl hc129 | exact hc129 rfl | (exfalso; omega) | exact absurd hc129 (by decide) | exact absurd hc129 (by simp [*])
              ·
                refine e_iconst (v := nI 1) (p' := 133) D_Law_build_132 cst_iconst_1 rfl ?_
                refine e_goto (p' := 137) D_Law_build_133 rfl ?_
                refine e_istore_7 (p' := 139) D_Law_build_137 (Nat.le_of_ble_eq_true rfl) rfl rfl ?_
                refine e_iconst (v := nI 1) (p' := 140) D_Law_build_139 cst_iconst_1 rfl ?_
                refine e_aloadA_1 (p' := 141) D_Law_build_140 rfl ?_
                refine e_iconst (v := nI 1) (p' := 142) D_Law_build_141 cst_iconst_1 rfl ?_
                refine e_cell sKmL_X hL (by omega) (p' := 145) D_Law_build_142 S_Law_10 (Nat.le_of_ble_eq_true rfl) (by decide) ⟨by decide, by decide⟩ rfl (fun w142 => ?_)
                refine e_iconst (v := nI 4) (p' := 146) D_Law_build_145 cst_iconst_4 rfl ?_
                refine x_callS1 (p' := 149) D_Law_build_146 S_Law_16 (c_Law_low (by omega) (by omega)) rfl rfl (Nat.le_of_ble_eq_true rfl) (by decide) ⟨by decide, by decide⟩ rfl ?_
                first | refine e_iaddN (p' := 150) D_Law_build_149 rfl ?_ | refine e_iadd (p' := 150) D_Law_build_149 rfl ?_
                have hl4 := lowN_lt (v := w142) (n := 4) (by omega)
                refine e_istore_8 (p' := 152) D_Law_build_150 (Nat.le_of_ble_eq_true rfl) rfl rfl ?_
                have jn171 : ∀ (od : Nat), (0 < od ∧ od < 100) → sEv l m_Law_build 7 (0, 0, 0, 0) (sKmL b L xs 0 0 (fun r1 h1 => r1 = some (.int (nI 1)) ∧ ∃ (x : Gd) (hs : Hs), CInv h1 (x, hs, st.2.2) ∧ StOk (x, hs, st.2.2))) 171 [some (.ref 0), some (.retAddr b), none, some (.int (nI R)), some (.int (nI C)), none, some (.int (nI m)), some (.int (nI 1)), some (.int (nI (1 + lowN w142 4))), none, none, none, none, none, none, none] [.int (nI od)] h6 := by
                  rintro od ⟨ho1, ho2⟩
                  refine e_istore_9 (p' := 173) D_Law_build_171 (Nat.le_of_ble_eq_true rfl) rfl rfl ?_
                  refine e_iconst (v := nI 0) (p' := 174) D_Law_build_173 cst_iconst_0 rfl ?_
                  refine e_istore_10 (p' := 176) D_Law_build_174 (Nat.le_of_ble_eq_true rfl) rfl rfl ?_
                  refine e_iconst (v := nI 0) (p' := 177) D_Law_build_176 cst_iconst_0 rfl ?_
                  refine e_istore_11 (p' := 179) D_Law_build_177 (Nat.le_of_ble_eq_true rfl) rfl rfl ?_
                  have lk179 : ∀ p : Nat, p ≤ 36 → ∀ (h1 : sH) (z : Nat → Nat) (hs : Hs), (CInv h1 (((R, C, m), z), hs, st.2.2) ∧ StOk (((R, C, m), z), hs, st.2.2) ∧ ∀ q, p ≤ q → z q = 0) → sEv l m_Law_build 7 (0, 0, 0, 0) (sKmL b L xs 0 0 (fun r1 h1 => r1 = some (.int (nI 1)) ∧ ∃ (x : Gd) (hs : Hs), CInv h1 (x, hs, st.2.2) ∧ StOk (x, hs, st.2.2))) 179 [some (.ref 0), some (.retAddr b), none, some (.int (nI R)), some (.int (nI C)), none, some (.int (nI m)), some (.int (nI 1)), some (.int (nI (1 + lowN w142 4))), some (.int (nI od)), some (.int (nI (told ((R, C, m), z)))), some (.int (nI p)), none, none, none, none] [] (h1) := by
                    refine lp_up _ ?_ ?_
                    · intro h1 z hs ⟨CC, hSC, hz⟩
                      have cc := CC.1
                      have hto := told_36 hSC.1
                      refine e_iload_11 (p' := 181) D_Law_build_179 rfl ?_
                      refine e_bipush (v := nI 36) (p' := 183) D_Law_build_181 cst_bipush_36 rfl ?_
                      refine e_icmpN_ge (q := 345) (p' := 186) D_Law_build_183 (by omega) (by omega) rfl rfl (fun hc183 => ?_) (fun hc183 => ?_)
                      ·
                        refine e_iload_7 (p' := 347) D_Law_build_345 rfl ?_
                        refine e_ifN_eq (q := 364) (p' := 350) D_Law_build_347 (by omega) rfl rfl (fun hc347 => ?_) (fun hc347 => ?_)
                        ·
                          first | exact absurd rfl hc347 | exact hc347 rfl | (exfalso; omega) | exact absurd hc347 (by decide) | exact absurd hc347 (by simp [*])
                        ·
                          refine e_aload_0 (p' := 351) D_Law_build_350 rfl ?_
                          refine e_iconst (v := nI 3) (p' := 352) D_Law_build_351 cst_iconst_3 rfl ?_
                          refine y_callV1 (p' := 355) D_Law_build_352 V_Law_26 (t_cnt3 CC hSC) rfl (by first | assumption | exact sUp_eq | (rw [sUp_ne (by omega)]; assumption) | (rw [sUp_ne (by omega), sUp_ne (by omega)]; assumption) | (rw [sUp_ne (by omega)]; exact sUp_eq) | (rw [gSet_ne (by omega) (by omega)]; first | assumption | exact sUp_eq | (rw [sUp_ne (by omega)]; assumption) | (rw [sUp_ne (by omega), sUp_ne (by omega)]; assumption)) | (rw [sUp_ne (by omega), sUp_ne (by omega), sUp_ne (by omega)]; assumption) | (simp [sUp]; done)) rfl (Nat.le_of_ble_eq_true rfl) (by decide) ⟨by decide, by decide⟩ rfl ?_
                          rintro h10 ⟨C10, F10⟩
                          have c10 := C10.1
                          refine e_iload_10 (p' := 357) D_Law_build_355 rfl ?_
                          refine e_icmp_ne (q := 364) (p' := 360) D_Law_build_357 rfl rfl (fun hc357 => ?_) (fun hc357 => ?_)
                          ·
                            first | exact absurd rfl hc357 | exact hc357 rfl | (exfalso; omega) | exact absurd hc357 (by decide) | exact absurd hc357 (by simp [*])
                          ·
                            refine e_iconst (v := nI 1) (p' := 361) D_Law_build_360 cst_iconst_1 rfl ?_
                            refine e_goto (p' := 365) D_Law_build_361 rfl ?_
                            refine sEv.weakK ?_
                            refine e_ireturn (ty := .boolean) D_Law_build_365 rfl (by first | rfl | exact sBo_nar _) ⟨by decide, by decide⟩ ?_
                            exact ⟨rfl, _, _, C10, hSC⟩
                      ·
                        exfalso; omega
                    · intro p hp ih179 h1 z hs ⟨CC, hSC, hz⟩
                      have cc := CC.1
                      have hto := told_36 hSC.1
                      refine e_iload_11 (p' := 181) D_Law_build_179 rfl ?_
                      refine e_bipush (v := nI 36) (p' := 183) D_Law_build_181 cst_bipush_36 rfl ?_
                      refine e_icmpN_ge (q := 345) (p' := 186) D_Law_build_183 (by omega) (by omega) rfl rfl (fun hc183 => ?_) (fun hc183 => ?_)
                      ·
                        exfalso; omega
                      ·
                        refine e_iload_7 (p' := 188) D_Law_build_186 rfl ?_
                        refine e_ifN_eq (q := 345) (p' := 191) D_Law_build_188 (by omega) rfl rfl (fun hc188 => ?_) (fun hc188 => ?_)
                        ·
                          first | exact absurd rfl hc188 | exact hc188 rfl | (exfalso; omega) | exact absurd hc188 (by decide) | exact absurd hc188 (by simp [*])
                        ·
                          refine e_iload_11 (p' := 193) D_Law_build_191 rfl ?_
                          refine e_bipush (v := nI 6) (p' := 195) D_Law_build_193 cst_bipush_6 rfl ?_
                          first | refine e_idivN (p' := 196) D_Law_build_195 (by omega) (by omega) (by omega) rfl ?_ | refine e_idiv (p' := 196) D_Law_build_195 (by assumption) rfl ?_
                          refine e_istore_12 (p' := 198) D_Law_build_196 (Nat.le_of_ble_eq_true rfl) rfl rfl ?_
                          refine e_iload_11 (p' := 200) D_Law_build_198 rfl ?_
                          refine e_bipush (v := nI 6) (p' := 202) D_Law_build_200 cst_bipush_6 rfl ?_
                          first | refine e_iremN (p' := 203) D_Law_build_202 (by omega) (by omega) (by omega) rfl ?_ | refine e_irem (p' := 203) D_Law_build_202 (by assumption) rfl ?_
                          refine e_istore_13 (p' := 205) D_Law_build_203 (Nat.le_of_ble_eq_true rfl) rfl rfl ?_
                          refine e_aloadA_1 (p' := 206) D_Law_build_205 rfl ?_
                          refine e_iconst (v := nI 4) (p' := 207) D_Law_build_206 cst_iconst_4 rfl ?_
                          refine e_iload_11 (p' := 209) D_Law_build_207 rfl ?_
                          first | refine e_iaddN (p' := 210) D_Law_build_209 rfl ?_ | refine e_iadd (p' := 210) D_Law_build_209 rfl ?_
                          refine e_cell sKmL_X hL (by omega) (p' := 213) D_Law_build_210 S_Law_10 (Nat.le_of_ble_eq_true rfl) (by decide) ⟨by decide, by decide⟩ rfl (fun w210 => ?_)
                          refine e_istore_14 (p' := 215) D_Law_build_213 (Nat.le_of_ble_eq_true rfl) rfl rfl ?_
                          refine e_iload_12 (p' := 217) D_Law_build_215 rfl ?_
                          refine e_iload_3 (p' := 218) D_Law_build_217 rfl ?_
                          refine e_icmpN_ge (q := 339) (p' := 221) D_Law_build_218 (by omega) (by omega) rfl rfl (fun hc218 => ?_) (fun hc218 => ?_)
                          ·
                            first | refine e_iincN_11 (n := 1) (p' := 342) D_Law_build_339 (Nat.le_of_ble_eq_true rfl) rfl rfl ?_ | refine e_iinc_11 (p' := 342) D_Law_build_339 (Nat.le_of_ble_eq_true rfl) rfl rfl rfl ?_
                            refine e_goto (p' := 179) D_Law_build_342 rfl ?_
                            refine sEv.castW (ih179 h1 z hs ⟨CC, hSC, fun q hq => hz q (by omega)⟩) ?_ ?_ ?_
                            · exact ⟨rfl, rfl, rfl, rfl, rfl, rfl, rfl, rfl, rfl, rfl, trivial⟩
                            · rfl
                            · first | rfl | (simp; done)
                          ·
                            refine e_iload_13 (p' := 223) D_Law_build_221 rfl ?_
                            refine e_iload_4 (p' := 225) D_Law_build_223 rfl ?_
                            refine e_icmpN_ge (q := 339) (p' := 228) D_Law_build_225 (by omega) (by omega) rfl rfl (fun hc225 => ?_) (fun hc225 => ?_)
                            ·
                              first | refine e_iincN_11 (n := 1) (p' := 342) D_Law_build_339 (Nat.le_of_ble_eq_true rfl) rfl rfl ?_ | refine e_iinc_11 (p' := 342) D_Law_build_339 (Nat.le_of_ble_eq_true rfl) rfl rfl rfl ?_
                              refine e_goto (p' := 179) D_Law_build_342 rfl ?_
                              refine sEv.castW (ih179 h1 z hs ⟨CC, hSC, fun q hq => hz q (by omega)⟩) ?_ ?_ ?_
                              · exact ⟨rfl, rfl, rfl, rfl, rfl, rfl, rfl, rfl, rfl, rfl, trivial⟩
                              · rfl
                              · first | rfl | (simp; done)
                            ·
                              refine e_iload_14 (p' := 230) D_Law_build_228 rfl ?_
                              refine e_iconst (v := nI 5) (p' := 231) D_Law_build_230 cst_iconst_5 rfl ?_
                              refine x_callS1 (p' := 234) D_Law_build_231 S_Law_16 (c_Law_low (by omega) (by omega)) rfl rfl (Nat.le_of_ble_eq_true rfl) (by decide) ⟨by decide, by decide⟩ rfl ?_
                              refine e_iload_8 (p' := 236) D_Law_build_234 rfl ?_
                              have hl6 := lowN_lt (v := w210) (n := 5) (by omega)
                              refine e_icmpN_ge (q := 339) (p' := 239) D_Law_build_236 (by omega) (by omega) rfl rfl (fun hc236 => ?_) (fun hc236 => ?_)
                              ·
                                first | refine e_iincN_11 (n := 1) (p' := 342) D_Law_build_339 (Nat.le_of_ble_eq_true rfl) rfl rfl ?_ | refine e_iinc_11 (p' := 342) D_Law_build_339 (Nat.le_of_ble_eq_true rfl) rfl rfl rfl ?_
                                refine e_goto (p' := 179) D_Law_build_342 rfl ?_
                                refine sEv.castW (ih179 h1 z hs ⟨CC, hSC, fun q hq => hz q (by omega)⟩) ?_ ?_ ?_
                                · exact ⟨rfl, rfl, rfl, rfl, rfl, rfl, rfl, rfl, rfl, rfl, trivial⟩
                                · rfl
                                · first | rfl | (simp; done)
                              ·
                                have hr1 : p / 6 < R := by omega
                                have hc1 : p % 6 < C := by omega
                                have h25 := Nat.mul_le_mul (show p / 6 ≤ 5 by omega) (show p / 6 ≤ 5 by omega)
                                have hmm := mok_mul (a := p / 6 * (p / 6) + 1) (b := 2 * (p % 6) + 1) hm
                                have hlt := Nat.mod_lt ((p / 6 * (p / 6) + 1) % m * ((2 * (p % 6) + 1) % m)) (show 0 < m by omega)
                                refine e_iload_12 (p' := 241) D_Law_build_239 rfl ?_
                                refine e_iload_12 (p' := 243) D_Law_build_241 rfl ?_
                                first | refine e_imulN (p' := 244) D_Law_build_243 rfl ?_ | refine e_imul (p' := 244) D_Law_build_243 rfl ?_
                                refine e_iconst (v := nI 1) (p' := 245) D_Law_build_244 cst_iconst_1 rfl ?_
                                first | refine e_iaddN (p' := 246) D_Law_build_245 rfl ?_ | refine e_iadd (p' := 246) D_Law_build_245 rfl ?_
                                refine e_iload_6 (p' := 248) D_Law_build_246 rfl ?_
                                first | refine e_iremN (p' := 249) D_Law_build_248 (by omega) (by omega) (by omega) rfl ?_ | refine e_irem (p' := 249) D_Law_build_248 (by assumption) rfl ?_
                                refine e_iconst (v := nI 2) (p' := 250) D_Law_build_249 cst_iconst_2 rfl ?_
                                refine e_iload_13 (p' := 252) D_Law_build_250 rfl ?_
                                first | refine e_imulN (p' := 253) D_Law_build_252 rfl ?_ | refine e_imul (p' := 253) D_Law_build_252 rfl ?_
                                refine e_iconst (v := nI 1) (p' := 254) D_Law_build_253 cst_iconst_1 rfl ?_
                                first | refine e_iaddN (p' := 255) D_Law_build_254 rfl ?_ | refine e_iadd (p' := 255) D_Law_build_254 rfl ?_
                                refine e_iload_6 (p' := 257) D_Law_build_255 rfl ?_
                                first | refine e_iremN (p' := 258) D_Law_build_257 (by omega) (by omega) (by omega) rfl ?_ | refine e_irem (p' := 258) D_Law_build_257 (by assumption) rfl ?_
                                first | refine e_imulN (p' := 259) D_Law_build_258 rfl ?_ | refine e_imul (p' := 259) D_Law_build_258 rfl ?_
                                refine e_iload_6 (p' := 261) D_Law_build_259 rfl ?_
                                first | refine e_iremN (p' := 262) D_Law_build_261 (by omega) (by omega) (by omega) rfl ?_ | refine e_irem (p' := 262) D_Law_build_261 (by assumption) rfl ?_
                                refine e_istore_15 (p' := 264) D_Law_build_262 (Nat.le_of_ble_eq_true rfl) rfl rfl ?_
                                have jn300 : ∀ (num : Nat), (1 ≤ num ∧ num < m) → sEv l m_Law_build 7 (0, 0, 0, 0) (sKmL b L xs 0 0 (fun r1 h1 => r1 = some (.int (nI 1)) ∧ ∃ (x : Gd) (hs : Hs), CInv h1 (x, hs, st.2.2) ∧ StOk (x, hs, st.2.2))) 300 [some (.ref 0), some (.retAddr b), none, some (.int (nI R)), some (.int (nI C)), none, some (.int (nI m)), some (.int (nI 1)), some (.int (nI (1 + lowN w142 4))), some (.int (nI od)), some (.int (nI (told ((R, C, m), z)))), some (.int (nI p)), some (.int (nI (p / 6))), some (.int (nI (p % 6))), none, none] [.int (nI num)] h1 := by
                                  rintro num ⟨hn1, hn2⟩
                                  refine e_istore_15 (p' := 302) D_Law_build_300 (Nat.le_of_ble_eq_true rfl) rfl rfl ?_
                                  refine e_aload_0 (p' := 303) D_Law_build_302 rfl ?_
                                  refine e_iload_12 (p' := 305) D_Law_build_303 rfl ?_
                                  refine e_iload_13 (p' := 307) D_Law_build_305 rfl ?_
                                  refine e_iload_15 (p' := 309) D_Law_build_307 rfl ?_
                                  refine y_callV1 (p' := 312) D_Law_build_309 V_Law_30 (t_tell CC hSC hr1 hc1 (n := num) hn2) rfl (by first | assumption | exact sUp_eq | (rw [sUp_ne (by omega)]; assumption) | (rw [sUp_ne (by omega), sUp_ne (by omega)]; assumption) | (rw [sUp_ne (by omega)]; exact sUp_eq) | (rw [gSet_ne (by omega) (by omega)]; first | assumption | exact sUp_eq | (rw [sUp_ne (by omega)]; assumption) | (rw [sUp_ne (by omega), sUp_ne (by omega)]; assumption)) | (rw [sUp_ne (by omega), sUp_ne (by omega), sUp_ne (by omega)]; assumption) | (simp [sUp]; done)) rfl (Nat.le_of_ble_eq_true rfl) (by decide) ⟨by decide, by decide⟩ rfl ?_
                                  rintro h8 ⟨C8, F8⟩
                                  have c8 := C8.1
                                  have hS8 : StOk (upd1 ((R, C, m), z) (p / 6) (p % 6) num, recH hs ((R, C, m), z), st.2.2) := chg_ok hSC (up_ok hSC.1 hr1 hc1 hn2)
                                  have hat : at' (((R, C, m), z) : Gd) (p / 6) (p % 6) = 0 := by
                                    show z (6 * (p / 6) + p % 6) = 0
                                    exact hz _ (by omega)
                                  rw [hat]
                                  refine e_ifN_ne (q := 333) (p' := 315) D_Law_build_312 (by omega) rfl rfl (fun hc312 => ?_) (fun hc312 => ?_)
                                  ·
                                    first | exact absurd rfl hc312 | exact hc312 rfl | (exfalso; omega) | exact absurd hc312 (by decide) | exact absurd hc312 (by simp [*])
                                  ·
                                    refine e_aload_0 (p' := 316) D_Law_build_315 rfl ?_
                                    refine e_iload_12 (p' := 318) D_Law_build_316 rfl ?_
                                    refine e_iload_13 (p' := 320) D_Law_build_318 rfl ?_
                                    refine e_iconst (v := nI 0) (p' := 321) D_Law_build_320 cst_iconst_0 rfl ?_
                                    refine y_callV1 (p' := 324) D_Law_build_321 V_Law_33 (t_ent0 C8 hS8 (r := p / 6) (c := p % 6) hr1 hc1) rfl (by first | assumption | exact sUp_eq | (rw [sUp_ne (by omega)]; assumption) | (rw [sUp_ne (by omega), sUp_ne (by omega)]; assumption) | (rw [sUp_ne (by omega)]; exact sUp_eq) | (rw [gSet_ne (by omega) (by omega)]; first | assumption | exact sUp_eq | (rw [sUp_ne (by omega)]; assumption) | (rw [sUp_ne (by omega), sUp_ne (by omega)]; assumption)) | (rw [sUp_ne (by omega), sUp_ne (by omega), sUp_ne (by omega)]; assumption) | (simp [sUp]; done)) rfl (Nat.le_of_ble_eq_true rfl) (by decide) ⟨by decide, by decide⟩ rfl ?_
                                    rintro h9 ⟨C9, F9⟩
                                    have c9 := C9.1
                                    rw [at_up (by omega) (by omega), if_pos ⟨rfl, rfl⟩]
                                    refine e_iload_15 (p' := 326) D_Law_build_324 rfl ?_
                                    refine e_icmp_ne (q := 333) (p' := 329) D_Law_build_326 rfl rfl (fun hc326 => ?_) (fun hc326 => ?_)
                                    ·
                                      first | exact absurd rfl hc326 | exact hc326 rfl | (exfalso; omega) | exact absurd hc326 (by decide) | exact absurd hc326 (by simp [*])
                                    ·
                                      refine e_iconst (v := nI 1) (p' := 330) D_Law_build_329 cst_iconst_1 rfl ?_
                                      refine e_goto (p' := 334) D_Law_build_330 rfl ?_
                                      refine e_istore_7 (p' := 336) D_Law_build_334 (Nat.le_of_ble_eq_true rfl) rfl rfl ?_
                                      first | refine e_iincN_10 (n := 1) (p' := 339) D_Law_build_336 (Nat.le_of_ble_eq_true rfl) rfl rfl ?_ | refine e_iinc_10 (p' := 339) D_Law_build_336 (Nat.le_of_ble_eq_true rfl) rfl rfl rfl ?_
                                      first | refine e_iincN_11 (n := 1) (p' := 342) D_Law_build_339 (Nat.le_of_ble_eq_true rfl) rfl rfl ?_ | refine e_iinc_11 (p' := 342) D_Law_build_339 (Nat.le_of_ble_eq_true rfl) rfl rfl rfl ?_
                                      refine e_goto (p' := 179) D_Law_build_342 rfl ?_
                                      refine sEv.castW (ih179 h9 (up z (6 * (p / 6) + p % 6) num) _ ⟨C9, hS8, fun q hq => (up_off (by omega)).trans (hz q (by omega))⟩) ?_ ?_ ?_
                                      · exact ⟨rfl, rfl, rfl, rfl, rfl, rfl, rfl, rfl, by rw [← told_up1 (x := ((R, C, m), z)) (r := p / 6) (c := p % 6) (v := num) (by omega) hat (by omega)]; rfl, rfl, trivial⟩
                                      · rfl
                                      · first | rfl | (simp; done)
                                refine e_iload_15 (p' := 266) D_Law_build_264 rfl ?_
                                refine e_ifN_eq (q := 281) (p' := 269) D_Law_build_266 (by omega) rfl rfl (fun hc266 => ?_) (fun hc266 => ?_)
                                ·
                                  refine e_iconst (v := nI 1) (p' := 282) D_Law_build_281 cst_iconst_1 rfl ?_
                                  refine e_iload_14 (p' := 284) D_Law_build_282 rfl ?_
                                  refine e_bipush (v := nI 10) (p' := 286) D_Law_build_284 cst_bipush_10 rfl ?_
                                  refine e_ishr (p' := 287) D_Law_build_286 rfl ?_
                                  refine e_iload_6 (p' := 289) D_Law_build_287 rfl ?_
                                  refine e_iconst (v := nI 1) (p' := 290) D_Law_build_289 cst_iconst_1 rfl ?_
                                  first | refine e_isubN (p' := 291) D_Law_build_290 (by omega) rfl ?_ | refine e_isub (p' := 291) D_Law_build_290 rfl ?_
                                  refine x_callS1 (p' := 294) D_Law_build_291 S_Law_16 (c_Law_low (by omega) (by omega)) rfl rfl (Nat.le_of_ble_eq_true rfl) (by decide) ⟨by decide, by decide⟩ rfl ?_
                                  have hl8 := lowN_lt (v := w210 >>> (nI 10 &&& 31)) (n := m - 1) (by omega)
                                  first | refine e_iaddN (p' := 295) D_Law_build_294 rfl ?_ | refine e_iadd (p' := 295) D_Law_build_294 rfl ?_
                                  refine e_goto (p' := 300) D_Law_build_295 rfl ?_
                                  refine sEv.castW (jn300 (1 + lowN (w210 >>> (nI 10 &&& 31)) (m - 1)) ⟨by omega, by omega⟩) ?_ ?_ ?_
                                  · exact ⟨rfl, rfl, rfl, rfl, rfl, rfl, rfl, rfl, rfl, rfl, rfl, rfl, trivial⟩
                                  · rfl
                                  · first | rfl | (simp; done)
                                ·
                                  refine e_iload_14 (p' := 271) D_Law_build_269 rfl ?_
                                  refine e_iconst (v := nI 4) (p' := 272) D_Law_build_271 cst_iconst_4 rfl ?_
                                  refine e_ishr (p' := 273) D_Law_build_272 rfl ?_
                                  refine e_iload_9 (p' := 275) D_Law_build_273 rfl ?_
                                  refine x_callS1 (p' := 278) D_Law_build_275 S_Law_16 (c_Law_low (by omega) (by omega)) rfl rfl (Nat.le_of_ble_eq_true rfl) (by decide) ⟨by decide, by decide⟩ rfl ?_
                                  have hl7 := lowN_lt (v := w210 >>> (nI 4 &&& 31)) (n := od) (by omega)
                                  refine e_ifN_ne (q := 298) (p' := 281) D_Law_build_278 (by omega) rfl rfl (fun hc278 => ?_) (fun hc278 => ?_)
                                  ·
                                    refine e_iload_15 (p' := 300) D_Law_build_298 rfl ?_
                                    refine sEv.castW (jn300 ((p / 6 * (p / 6) + 1) % m * ((2 * (p % 6) + 1) % m) % m) ⟨by omega, hlt⟩) ?_ ?_ ?_
                                    · exact ⟨rfl, rfl, rfl, rfl, rfl, rfl, rfl, rfl, rfl, rfl, rfl, rfl, trivial⟩
                                    · rfl
                                    · first | rfl | (simp; done)
                                  ·
                                    refine e_iconst (v := nI 1) (p' := 282) D_Law_build_281 cst_iconst_1 rfl ?_
                                    refine e_iload_14 (p' := 284) D_Law_build_282 rfl ?_
                                    refine e_bipush (v := nI 10) (p' := 286) D_Law_build_284 cst_bipush_10 rfl ?_
                                    refine e_ishr (p' := 287) D_Law_build_286 rfl ?_
                                    refine e_iload_6 (p' := 289) D_Law_build_287 rfl ?_
                                    refine e_iconst (v := nI 1) (p' := 290) D_Law_build_289 cst_iconst_1 rfl ?_
                                    first | refine e_isubN (p' := 291) D_Law_build_290 (by omega) rfl ?_ | refine e_isub (p' := 291) D_Law_build_290 rfl ?_
                                    refine x_callS1 (p' := 294) D_Law_build_291 S_Law_16 (c_Law_low (by omega) (by omega)) rfl rfl (Nat.le_of_ble_eq_true rfl) (by decide) ⟨by decide, by decide⟩ rfl ?_
                                    have hl8 := lowN_lt (v := w210 >>> (nI 10 &&& 31)) (n := m - 1) (by omega)
                                    first | refine e_iaddN (p' := 295) D_Law_build_294 rfl ?_ | refine e_iadd (p' := 295) D_Law_build_294 rfl ?_
                                    refine e_goto (p' := 300) D_Law_build_295 rfl ?_
                                    refine sEv.castW (jn300 (1 + lowN (w210 >>> (nI 10 &&& 31)) (m - 1)) ⟨by omega, by omega⟩) ?_ ?_ ?_
                                    · exact ⟨rfl, rfl, rfl, rfl, rfl, rfl, rfl, rfl, rfl, rfl, rfl, rfl, trivial⟩
                                    · rfl
                                    · first | rfl | (simp; done)
                  refine sEv.castW (lk179 0 (by omega) h6 (fun _ => 0) (recH st.2.1 st.1) ⟨C6, hS1, fun _ _ => rfl⟩) ?_ ?_ ?_
                  · exact ⟨rfl, rfl, rfl, rfl, rfl, rfl, rfl, rfl, by rw [told_e], rfl, trivial⟩
                  · rfl
                  · first | rfl | (simp; done)
                refine e_aloadA_1 (p' := 153) D_Law_build_152 rfl ?_
                refine e_iconst (v := nI 2) (p' := 154) D_Law_build_153 cst_iconst_2 rfl ?_
                refine e_cell sKmL_X hL (by omega) (p' := 157) D_Law_build_154 S_Law_10 (Nat.le_of_ble_eq_true rfl) (by decide) ⟨by decide, by decide⟩ rfl (fun w154 => ?_)
                refine e_iconst (v := nI 3) (p' := 158) D_Law_build_157 cst_iconst_3 rfl ?_
                refine x_callS1 (p' := 161) D_Law_build_158 S_Law_16 (c_Law_low (by omega) (by omega)) rfl rfl (Nat.le_of_ble_eq_true rfl) (by decide) ⟨by decide, by decide⟩ rfl ?_
                have hl5 := lowN_lt (v := w154) (n := 3) (by omega)
                refine e_ifN_ne (q := 169) (p' := 164) D_Law_build_161 (by omega) rfl rfl (fun hc161 => ?_) (fun hc161 => ?_)
                ·
                  refine e_bipush (v := nI 60) (p' := 171) D_Law_build_169 cst_bipush_60 rfl ?_
                  refine sEv.castW (jn171 60 ⟨by omega, by omega⟩) ?_ ?_ ?_
                  · exact ⟨rfl, rfl, rfl, rfl, rfl, rfl, rfl, trivial⟩
                  · rfl
                  · first | rfl | (simp; done)
                ·
                  refine e_bipush (v := nI 12) (p' := 166) D_Law_build_164 cst_bipush_12 rfl ?_
                  refine e_goto (p' := 171) D_Law_build_166 rfl ?_
                  refine sEv.castW (jn171 12 ⟨by omega, by omega⟩) ?_ ?_ ?_
                  · exact ⟨rfl, rfl, rfl, rfl, rfl, rfl, rfl, trivial⟩
                  · rfl
                  · first | rfl | (simp; done)
  refine e_iload_5 (p' := 37) D_Law_build_35 rfl ?_
  refine e_ifN_ne (q := 44) (p' := 40) D_Law_build_37 (by omega) rfl rfl (fun hc37 => ?_) (fun hc37 => ?_)
  ·
    refine e_iload_5 (p' := 46) D_Law_build_44 rfl ?_
    refine e_iconst (v := nI 1) (p' := 47) D_Law_build_46 cst_iconst_1 rfl ?_
    refine e_icmpN_ne (q := 55) (p' := 50) D_Law_build_47 (by omega) (by omega) rfl rfl (fun hc47 => ?_) (fun hc47 => ?_)
    ·
      refine e_iload_5 (p' := 57) D_Law_build_55 rfl ?_
      refine e_iconst (v := nI 2) (p' := 58) D_Law_build_57 cst_iconst_2 rfl ?_
      refine e_icmpN_ne (q := 66) (p' := 61) D_Law_build_58 (by omega) (by omega) rfl rfl (fun hc58 => ?_) (fun hc58 => ?_)
      ·
        refine e_bipush (v := nI 13) (p' := 68) D_Law_build_66 cst_bipush_13 rfl ?_
        refine sEv.castW (jn68 13 (Or.inr (Or.inr (Or.inr rfl)))) ?_ ?_ ?_
        · exact lvW_rfl _
        · rfl
        · first | rfl | (simp; done)
      ·
        refine e_bipush (v := nI 11) (p' := 63) D_Law_build_61 cst_bipush_11 rfl ?_
        refine e_goto (p' := 68) D_Law_build_63 rfl ?_
        refine sEv.castW (jn68 11 (Or.inr (Or.inr (Or.inl rfl)))) ?_ ?_ ?_
        · exact lvW_rfl _
        · rfl
        · first | rfl | (simp; done)
    ·
      refine e_bipush (v := nI 7) (p' := 52) D_Law_build_50 cst_bipush_7 rfl ?_
      refine e_goto (p' := 68) D_Law_build_52 rfl ?_
      refine sEv.castW (jn68 7 (Or.inr (Or.inl rfl))) ?_ ?_ ?_
      · exact lvW_rfl _
      · rfl
      · first | rfl | (simp; done)
  ·
    refine e_iconst (v := nI 5) (p' := 41) D_Law_build_40 cst_iconst_5 rfl ?_
    refine e_goto (p' := 68) D_Law_build_41 rfl ?_
    refine sEv.castW (jn68 5 (Or.inl rfl)) ?_ ?_ ?_
    · exact lvW_rfl _
    · rfl
    · first | rfl | (simp; done)
