/-! ===== the reference: put ===== -/
theorem i2c_nI : ∀ b, b < 256 → ((nI b).toUInt32 % 65536).toInt32 = nI b := by decide +kernel
theorem nar_char : ∀ b, b < 256 → narrow .char (.int (nI b)) = .int (nI b) := by decide +kernel
theorem byteV {k : Int64} {s i : Nat} (hi : i < s) (hs : s ≤ 8) : ((k.toUInt64 >>> ((nI (8 * (s - i - 1))).toInt64.toUInt64 &&& Int64.toUInt64 63)).toInt64 &&& (255 : Int64)).toInt32 = nI (by8 (natU k) (s - 1 - i)) := by
  have e : k.toUInt64 = (lN (natU k)).toUInt64 := congrArg Int64.toUInt64 natU_eq
  rw [e, ushrL natU_lt _ (by omega), byteL, show s - i - 1 = s - 1 - i by omega]
  rfl
theorem szF_0 {n f i : Nat} (h : n / 256 ^ i = 0) : szF n f i = i := by
  cases f with
  | zero => rfl
  | succ f => unfold szF; rw [if_pos h]
theorem div256_8 {n : Nat} (h : n < 2 ^ 64) : n / 256 ^ 8 = 0 := Nat.div_eq_of_lt h
set_option maxRecDepth 4000 in
theorem c_M_put {l : Launch} {h : sH} {st : St} (hI : MInv h st) (hS : StOk st) {k : Int64} : sY l m_M_put 1 [.ref 61, .long k] h (some (.int (Sput st k).1)) (MR h (Sput st k).2) := by
  have hI0 := hI
  obtain ⟨hz, H⟩ := hI
  have H0 := H
  have hx := hS.1
  have hM := hx.2.2.1.le
  have hRr := hx.1
  have hCc := hx.2.1
  have hh6 := hS.2.1.1
  obtain ⟨⟨v, a1⟩, ⟨f, a2, b2⟩, ⟨f3, a3, b3⟩, ⟨f4, a4, b4⟩, ⟨f5, a5, b5⟩, ⟨f6, f7, f8, f9, a6, a7, a8, a9⟩, ⟨f10, a10⟩, ⟨f11, a11⟩, ⟨f12, a12⟩⟩ := H
  have zl := pz_le (n := natU k)
  have q50 := hS.2.2.2.1
  have nlt := natU_lt (k := k)
  have ek := natU_eq (k := k)
  obtain ⟨t, ht⟩ : ∃ t, st.2.2.2.1 = t := ⟨_, rfl⟩
  rw [ht] at q50
  have a1 : h.2 61 = mO st.2.1.1 t v := by rw [a1, ht]
  refine en_M_put ?_
  have jn49 : ∀ (m : Nat) (g : Bool), ((g = true → pz (natU k) = m) ∧ (g = false → pz (natU k) = 0) ∧ m ≤ 8) → sEv l m_M_put 1 (0, 0, 0, 0) (sKm 0 0 (fun r1 h1 => r1 = some (.int (Sput st k).1) ∧ (MR h (Sput st k).2) h1)) 49 [some (.ref 61), some (.long k), none, some (.int (nI m)), none, none, some (.int (sBo g)), none] [] h := by
    rintro m g ⟨j1, j2, j3⟩
    refine e_iload_3 (p' := 50) D_M_put_49 rfl ?_
    refine e_ifN_eq (q := 58) (p' := 53) D_M_put_50 (by omega) rfl rfl (fun hc50 => ?_) (fun hc50 => ?_)
    ·
      refine e_bipush (v := (-2)) (p' := 60) D_M_put_58 cst_bipush_m2 rfl ?_
      refine e_ireturn (ty := .int) D_M_put_60 rfl (by first | rfl | exact sBo_nar _) ⟨by decide, by decide⟩ ?_
      unfold Sput; rw [if_pos (by cases g with | true => rw [j1 rfl]; omega | false => exact j2 rfl)]; exact ⟨rfl, hI0, FrK.rf⟩
    ·
      refine e_iload_6 (p' := 55) D_M_put_53 rfl ?_
      refine e_ifB_ne (q := 61) (p' := 58) D_M_put_55 rfl rfl (fun hc55 => ?_) (fun hc55 => ?_)
      ·
        have hpz := j1 hc55
        refine e_aload_0 (p' := 62) D_M_put_61 rfl ?_
        refine e_getfield (p' := 65) D_M_put_62 F_M_137 (by first | assumption | exact sUp_eq | (rw [sUp_ne (by omega)]; assumption) | (rw [sUp_ne (by omega), sUp_ne (by omega)]; assumption) | (rw [sUp_ne (by omega)]; exact sUp_eq) | (rw [gSet_ne (by omega) (by omega)]; first | assumption | exact sUp_eq | (rw [sUp_ne (by omega)]; assumption) | (rw [sUp_ne (by omega), sUp_ne (by omega)]; assumption)) | (rw [sUp_ne (by omega), sUp_ne (by omega), sUp_ne (by omega)]; assumption) | (simp [sUp]; done)) (by rfl) rfl ?_
        refine e_iload_3 (p' := 66) D_M_put_65 rfl ?_
        first | refine e_iaddN (p' := 67) D_M_put_66 rfl ?_ | refine e_iadd (p' := 67) D_M_put_66 rfl ?_
        refine e_bipush (v := nI 50) (p' := 69) D_M_put_67 cst_bipush_50 rfl ?_
        refine e_icmpN_le (q := 75) (p' := 72) D_M_put_69 (by omega) (by omega) rfl rfl (fun hc69 => ?_) (fun hc69 => ?_)
        ·
          refine e_iload_3 (p' := 76) D_M_put_75 rfl ?_
          refine e_iconst (v := nI 1) (p' := 77) D_M_put_76 cst_iconst_1 rfl ?_
          first | refine e_isubN (p' := 78) D_M_put_77 (by omega) rfl ?_ | refine e_isub (p' := 78) D_M_put_77 rfl ?_
          refine e_istore_7 (p' := 80) D_M_put_78 (Nat.le_of_ble_eq_true rfl) rfl rfl ?_
          have lk80 : ∀ i : Nat, i ≤ m → ∀ (h1 : sH), (h1.2 61 = mO st.2.1.1 (t + i) v ∧ (∃ F, h1.2 66 = .inl (1, 50, F) ∧ ∀ j, j < t + i → F j = nI (apd st.2.2.2.2 t (natU k) m i j)) ∧ ∀ a, a ≠ 61 → a ≠ 66 → h1.2 a = h.2 a) → sEv l m_M_put 1 (0, 0, 0, 0) (sKm 0 0 (fun r1 h1 => r1 = some (.int (Sput st k).1) ∧ (MR h (Sput st k).2) h1)) 80 [some (.ref 61), some (.long k), none, some (.int (nI m)), none, none, none, some (.int (pI (m - i)))] [] (h1) := by
            refine lp_up _ ?_ ?_
            · intro h1 ⟨c1, ⟨F, c2, c3⟩, fr⟩
              first | rw [pI_pos (show m - m ≠ 0 by omega)] | rw [show pI (m - m) = -1 from if_pos (by omega)]
              refine e_iload_7 (p' := 82) D_M_put_80 rfl ?_
              refine e_if_lt (q := 123) (p' := 85) D_M_put_82 rfl rfl (fun hc82 => ?_) (fun hc82 => ?_)
              ·
                refine e_aload_0 (p' := 124) D_M_put_123 rfl ?_
                refine e_getfield (p' := 127) D_M_put_124 F_M_137 (by first | assumption | exact sUp_eq | (rw [sUp_ne (by omega)]; assumption) | (rw [sUp_ne (by omega), sUp_ne (by omega)]; assumption) | (rw [sUp_ne (by omega)]; exact sUp_eq) | (rw [gSet_ne (by omega) (by omega)]; first | assumption | exact sUp_eq | (rw [sUp_ne (by omega)]; assumption) | (rw [sUp_ne (by omega), sUp_ne (by omega)]; assumption)) | (rw [sUp_ne (by omega), sUp_ne (by omega), sUp_ne (by omega)]; assumption) | (simp [sUp]; done)) (by rfl) rfl ?_
                refine e_ireturn (ty := .int) D_M_put_127 rfl (by first | rfl | exact sBo_nar _) ⟨by decide, by decide⟩ ?_
                have e : Sput st k = (nI (t + m), (st.1, st.2.1, st.2.2.1, (t + m, apd st.2.2.2.2 t (natU k) m m))) := by
                  unfold Sput putP
                  rw [hpz, ht, if_neg hc50, if_neg (by omega)]
                rw [e]
                refine ⟨rfl, ⟨?_, ⟨v, c1⟩, ⟨f, ?_, b2⟩, ⟨f3, ?_, b3⟩, ⟨f4, ?_, b4⟩, ⟨F, c2, c3⟩, ⟨f6, f7, f8, f9, ?_, ?_, ?_, ?_⟩, ⟨f10, ?_⟩, ⟨f11, ?_⟩, ⟨f12, ?_⟩⟩, fun a ha => fr a (by omega) (by omega)⟩
                · exact (fr _ (by omega) (by omega)).trans hz
                · exact (fr _ (by omega) (by omega)).trans a2
                · exact (fr _ (by omega) (by omega)).trans a3
                · exact (fr _ (by omega) (by omega)).trans a4
                · exact (fr _ (by omega) (by omega)).trans a6
                · exact (fr _ (by omega) (by omega)).trans a7
                · exact (fr _ (by omega) (by omega)).trans a8
                · exact (fr _ (by omega) (by omega)).trans a9
                · exact (fr _ (by omega) (by omega)).trans a10
                · exact (fr _ (by omega) (by omega)).trans a11
                · exact (fr _ (by omega) (by omega)).trans a12
              ·
                first | exact absurd hc82 (nI_pos (by omega)) | exact absurd (by decide) hc82
            · intro i hi ih80 h1 ⟨c1, ⟨F, c2, c3⟩, fr⟩
              first | rw [pI_pos (show m - i ≠ 0 by omega)] | rw [show pI (m - i) = -1 from if_pos (by omega)]
              refine e_iload_7 (p' := 82) D_M_put_80 rfl ?_
              refine e_if_lt (q := 123) (p' := 85) D_M_put_82 rfl rfl (fun hc82 => ?_) (fun hc82 => ?_)
              ·
                first | exact absurd hc82 (nI_pos (by omega)) | exact absurd (by decide) hc82
              ·
                refine e_aload_0 (p' := 86) D_M_put_85 rfl ?_
                refine e_getfield (p' := 89) D_M_put_86 F_M_23 (by first | assumption | exact sUp_eq | (rw [sUp_ne (by omega)]; assumption) | (rw [sUp_ne (by omega), sUp_ne (by omega)]; assumption) | (rw [sUp_ne (by omega)]; exact sUp_eq) | (rw [gSet_ne (by omega) (by omega)]; first | assumption | exact sUp_eq | (rw [sUp_ne (by omega)]; assumption) | (rw [sUp_ne (by omega), sUp_ne (by omega)]; assumption)) | (rw [sUp_ne (by omega), sUp_ne (by omega), sUp_ne (by omega)]; assumption) | (simp [sUp]; done)) (by rfl) rfl ?_
                refine e_aload_0 (p' := 90) D_M_put_89 rfl ?_
                refine e_getfield (p' := 93) D_M_put_90 F_M_137 (by first | assumption | exact sUp_eq | (rw [sUp_ne (by omega)]; assumption) | (rw [sUp_ne (by omega), sUp_ne (by omega)]; assumption) | (rw [sUp_ne (by omega)]; exact sUp_eq) | (rw [gSet_ne (by omega) (by omega)]; first | assumption | exact sUp_eq | (rw [sUp_ne (by omega)]; assumption) | (rw [sUp_ne (by omega), sUp_ne (by omega)]; assumption)) | (rw [sUp_ne (by omega), sUp_ne (by omega), sUp_ne (by omega)]; assumption) | (simp [sUp]; done)) (by rfl) rfl ?_
                refine e_lload_1 (p' := 94) D_M_put_93 rfl ?_
                refine e_bipush (v := nI 8) (p' := 96) D_M_put_94 cst_bipush_8 rfl ?_
                refine e_iload_7 (p' := 98) D_M_put_96 rfl ?_
                first | refine e_imulN (p' := 99) D_M_put_98 rfl ?_ | refine e_imul (p' := 99) D_M_put_98 rfl ?_
                refine e_lushr (p' := 100) D_M_put_99 rfl rfl ?_
                refine e_ldc2 (p' := 103) D_M_put_100 K_M_184 rfl ?_
                refine e_land (p' := 104) D_M_put_103 rfl ?_
                refine e_l2i (p' := 105) D_M_put_104 rfl rfl ?_
                rw [byteV (k := k) (s := m) (i := i) (by omega) j3]
                have b256 : by8 (natU k) (m - 1 - i) < 256 := Nat.mod_lt _ (by omega)
                refine e_i2c (p' := 106) D_M_put_105 rfl rfl ?_
                rw [i2c_nI _ b256]
                refine e_castore (p' := 107) D_M_put_106 (by first | assumption | exact sUp_eq | (rw [sUp_ne (by omega)]; assumption) | (rw [sUp_ne (by omega), sUp_ne (by omega)]; assumption) | (rw [sUp_ne (by omega)]; exact sUp_eq) | (rw [gSet_ne (by omega) (by omega)]; first | assumption | exact sUp_eq | (rw [sUp_ne (by omega)]; assumption) | (rw [sUp_ne (by omega), sUp_ne (by omega)]; assumption)) | (rw [sUp_ne (by omega), sUp_ne (by omega), sUp_ne (by omega)]; assumption) | (simp [sUp]; done)) (by omega) (by omega) (nar_char _ b256) rfl ?_
                refine e_aload_0 (p' := 108) D_M_put_107 rfl ?_
                refine e_dup (p' := 109) D_M_put_108 rfl rfl ?_
                refine e_getfield (p' := 112) D_M_put_109 F_M_137 (by first | assumption | exact sUp_eq | (rw [sUp_ne (by omega)]; assumption) | (rw [sUp_ne (by omega), sUp_ne (by omega)]; assumption) | (rw [sUp_ne (by omega)]; exact sUp_eq) | (rw [gSet_ne (by omega) (by omega)]; first | assumption | exact sUp_eq | (rw [sUp_ne (by omega)]; assumption) | (rw [sUp_ne (by omega), sUp_ne (by omega)]; assumption)) | (rw [sUp_ne (by omega), sUp_ne (by omega), sUp_ne (by omega)]; assumption) | (simp [sUp]; done)) (by rfl) rfl ?_
                refine e_iconst (v := nI 1) (p' := 113) D_M_put_112 cst_iconst_1 rfl ?_
                first | refine e_iaddN (p' := 114) D_M_put_113 rfl ?_ | refine e_iadd (p' := 114) D_M_put_113 rfl ?_
                refine e_putfield (p' := 117) D_M_put_114 F_M_137 (Or.inl rfl) (by first | assumption | exact sUp_eq | (rw [sUp_ne (by omega)]; assumption) | (rw [sUp_ne (by omega), sUp_ne (by omega)]; assumption) | (rw [sUp_ne (by omega)]; exact sUp_eq) | (rw [gSet_ne (by omega) (by omega)]; first | assumption | exact sUp_eq | (rw [sUp_ne (by omega)]; assumption) | (rw [sUp_ne (by omega), sUp_ne (by omega)]; assumption)) | (rw [sUp_ne (by omega), sUp_ne (by omega), sUp_ne (by omega)]; assumption) | (simp [sUp]; done)) (fun _ => ⟨rfl, rfl⟩) (Nat.le_of_ble_eq_true rfl) (by rfl) rfl ?_
                try dsimp only [List.set]
                first | refine e_iincM_7 (n := 1) (p' := 120) D_M_put_117 (Nat.le_of_ble_eq_true rfl) rfl (by omega) rfl ?_ | refine e_iinc_7 (p' := 120) D_M_put_117 (Nat.le_of_ble_eq_true rfl) rfl rfl rfl ?_
                refine e_goto (p' := 80) D_M_put_120 rfl ?_
                refine sEv.castW (ih80 (sUp (sUp h1 66 (.inl (1, 50, upd F (t + i) (nI (by8 (natU k) (m - 1 - i)))))) 61 (mO st.2.1.1 (t + i + 1) v)) ⟨sUp_eq, ⟨_, (sUp_ne (by omega)).trans sUp_eq, fun j hj => by
  rw [← apd_s]
  unfold upd up
  by_cases e : j = t + i
  · rw [if_pos e, if_pos e]
  · rw [if_neg e, if_neg e]; exact c3 j (by omega)⟩, fun a n1 n2 => (sUp_ne n1).trans ((sUp_ne n2).trans (fr a n1 n2))⟩) ?_ ?_ ?_
                · refine ⟨rfl, rfl, rfl, ?_, trivial⟩
                  rw [show m - (i + 1) = m - i - 1 by omega]
                  exact congrArg (fun v => some (Value.int v)) (pI_dec _)
                · rfl
                · first | rfl | (simp; done)
          refine sEv.castW (lk80 0 (by omega) h ⟨a1, ⟨f5, a5, fun j hj => by rw [apd_0]; exact b5 j (by omega)⟩, fun _ _ _ => rfl⟩) ?_ ?_ ?_
          · refine ⟨rfl, rfl, rfl, ?_, trivial⟩
            rw [Nat.sub_zero, pI_pos hc50]
          · rfl
          · first | rfl | (simp; done)
        ·
          refine e_bipush (v := (-4)) (p' := 74) D_M_put_72 cst_bipush_m4 rfl ?_
          refine e_ireturn (ty := .int) D_M_put_74 rfl (by first | rfl | exact sBo_nar _) ⟨by decide, by decide⟩ ?_
          unfold Sput; rw [hpz, ht, if_neg hc50, if_pos (by omega)]; exact ⟨rfl, hI0, FrK.rf⟩
      ·
        refine e_bipush (v := (-2)) (p' := 60) D_M_put_58 cst_bipush_m2 rfl ?_
        refine e_ireturn (ty := .int) D_M_put_60 rfl (by first | rfl | exact sBo_nar _) ⟨by decide, by decide⟩ ?_
        unfold Sput; rw [if_pos (j2 hc55)]; exact ⟨rfl, hI0, FrK.rf⟩
  refine e_iconst (v := nI 0) (p' := 1) D_M_put_0 cst_iconst_0 rfl ?_
  refine e_istore_3 (p' := 2) D_M_put_1 (Nat.le_of_ble_eq_true rfl) rfl rfl ?_
  refine e_lload_1 (p' := 3) D_M_put_2 rfl ?_
  refine e_lstore_4 (p' := 5) D_M_put_3 (Nat.le_of_ble_eq_true rfl) rfl rfl ?_
  refine e_iconst (v := nI 1) (p' := 6) D_M_put_5 cst_iconst_1 rfl ?_
  refine e_istore_6 (p' := 8) D_M_put_6 (Nat.le_of_ble_eq_true rfl) rfl rfl ?_
  have lk8 : ∀ i : Nat, i ≤ 8 → ∀ (g : Bool), ((g = true → pz (natU k) = szF (natU k) (8 - i) i) ∧ (g = false → pz (natU k) = 0)) → sEv l m_M_put 1 (0, 0, 0, 0) (sKm 0 0 (fun r1 h1 => r1 = some (.int (Sput st k).1) ∧ (MR h (Sput st k).2) h1)) 8 [some (.ref 61), some (.long k), none, some (.int (nI i)), some (.long (lN (natU k / 256 ^ i))), none, some (.int (sBo g)), none] [] (h) := by
    refine lp_up _ ?_ ?_
    · intro g ⟨i1, i2⟩
      have nd : natU k / 256 ^ 8 ≤ natU k := Nat.div_le_self _ _
      refine e_lload_4 (p' := 10) D_M_put_8 rfl ?_
      refine e_lconst (v := lN 0) (p' := 11) D_M_put_10 rfl rfl ?_
      refine e_lcmp (p' := 12) D_M_put_11 rfl ?_
      refine e_if_eq (q := 49) (p' := 15) D_M_put_12 rfl rfl (fun hc12 => ?_) (fun hc12 => ?_)
      ·
        refine sEv.castW (jn49 _ g ⟨fun z => (i1 z).trans (szF_0 ((lN_zero (by omega)).mp hc12)), i2, by omega⟩) ?_ ?_ ?_
        · first | exact lvW_rfl _ | exact ⟨rfl, rfl, rfl, rfl, trivial⟩ | (rw [hc17]; exact ⟨rfl, rfl, rfl, rfl, trivial⟩)
        · rfl
        · first | rfl | (simp; done)
      ·
        exact absurd ((lN_zero (by omega)).mpr (div256_8 nlt)) hc12
    · intro i hi ih8 g ⟨i1, i2⟩
      have nd : natU k / 256 ^ i ≤ natU k := Nat.div_le_self _ _
      refine e_lload_4 (p' := 10) D_M_put_8 rfl ?_
      refine e_lconst (v := lN 0) (p' := 11) D_M_put_10 rfl rfl ?_
      refine e_lcmp (p' := 12) D_M_put_11 rfl ?_
      refine e_if_eq (q := 49) (p' := 15) D_M_put_12 rfl rfl (fun hc12 => ?_) (fun hc12 => ?_)
      ·
        refine sEv.castW (jn49 _ g ⟨fun z => (i1 z).trans (szF_0 ((lN_zero (by omega)).mp hc12)), i2, by omega⟩) ?_ ?_ ?_
        · first | exact lvW_rfl _ | exact ⟨rfl, rfl, rfl, rfl, trivial⟩ | (rw [hc17]; exact ⟨rfl, rfl, rfl, rfl, trivial⟩)
        · rfl
        · first | rfl | (simp; done)
      ·
        refine e_iload_6 (p' := 17) D_M_put_15 rfl ?_
        refine e_ifB_eq (q := 49) (p' := 20) D_M_put_17 rfl rfl (fun hc17 => ?_) (fun hc17 => ?_)
        ·
          refine sEv.castW (jn49 i g ⟨fun z => absurd (z.symm.trans hc17) (by decide), i2, by omega⟩) ?_ ?_ ?_
          · first | exact lvW_rfl _ | exact ⟨rfl, rfl, rfl, rfl, trivial⟩ | (rw [hc17]; exact ⟨rfl, rfl, rfl, rfl, trivial⟩)
          · rfl
          · first | rfl | (simp; done)
        ·
          refine e_lload_4 (p' := 22) D_M_put_20 rfl ?_
          refine e_ldc2 (p' := 25) D_M_put_22 K_M_184 rfl ?_
          refine e_land (p' := 26) D_M_put_25 rfl ?_
          refine e_l2i (p' := 27) D_M_put_26 rfl rfl ?_
          rw [byteL]
          refine e_bipush (v := nI 33) (p' := 29) D_M_put_27 cst_bipush_33 rfl ?_
          refine e_bipush (v := nI 126) (p' := 31) D_M_put_29 cst_bipush_126 rfl ?_
          refine x_callS1 (p' := 34) D_M_put_31 S_M_52 (c_M_in) rfl rfl (Nat.le_of_ble_eq_true rfl) (by decide) ⟨by decide, by decide⟩ rfl ?_
          refine e_istore_6 (p' := 36) D_M_put_34 (Nat.le_of_ble_eq_true rfl) rfl rfl ?_
          refine e_lload_4 (p' := 38) D_M_put_36 rfl ?_
          refine e_bipush (v := nI 8) (p' := 40) D_M_put_38 cst_bipush_8 rfl ?_
          refine e_lushr (p' := 41) D_M_put_40 rfl rfl ?_
          refine e_lstore_4 (p' := 43) D_M_put_41 (Nat.le_of_ble_eq_true rfl) rfl rfl ?_
          first | refine e_iincN_3 (n := 1) (p' := 46) D_M_put_43 (Nat.le_of_ble_eq_true rfl) rfl rfl ?_ | refine e_iinc_3 (p' := 46) D_M_put_43 (Nat.le_of_ble_eq_true rfl) rfl rfl rfl ?_
          refine e_goto (p' := 8) D_M_put_46 rfl ?_
          have nz : ¬ natU k / 256 ^ i = 0 := fun q => hc12 ((lN_zero (by omega)).mpr q)
          have i3 := i1 hc17
          rw [show 8 - i = 8 - (i + 1) + 1 by omega, szF, if_neg nz] at i3
          refine sEv.castW (ih8 (!isOut (nI (by8 (natU k) i)) (nI 33) (nI 126)) ⟨fun z => by rw [i3, if_neg (by simpa using z)], fun z => by rw [i3, if_pos (by simpa using z)]⟩) ?_ ?_ ?_
          · refine ⟨rfl, rfl, rfl, ?_, rfl, trivial⟩
            rw [ushrL (m := 1) (by omega) (by omega), Nat.div_div_eq_div_mul, ← Nat.pow_succ]
          · rfl
          · first | rfl | (simp; done)
  refine sEv.castW (lk8 0 (by omega) true ⟨fun _ => rfl, fun z => absurd z (by decide)⟩) ?_ ?_ ?_
  · refine ⟨rfl, rfl, rfl, ?_, rfl, trivial⟩
    rw [Nat.pow_zero, Nat.div_one, ← ek]
  · rfl
  · first | rfl | (simp; done)
