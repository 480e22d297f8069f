/-! ===== the reference's changes ===== -/
theorem in_F {i : Int32} (h : (!isOut i (nI 0) (nI 1)) = false) : ¬ (i = nI 0 ∨ i = nI 1) := by
  intro e
  rcases e with rfl | rfl <;> exact absurd h (by decide)
theorem in_T {i : Int32} (h : (!isOut i (nI 0) (nI 1)) = true) : ∃ k, k < 2 ∧ i = nI k := by
  obtain ⟨k, _, h2, h3⟩ := in_R (a := 0) (b := 1) (by omega) (by omega) (by simpa using h)
  exact ⟨k, by omega, h3⟩
theorem isOut_R {k a b : Nat} (hb : b < 2 ^ 31) (h : a ≤ k ∧ k ≤ b) : isOut (nI k) (nI a) (nI b) = false := by
  unfold isOut
  rw [decide_eq_false (nI_nlt (by omega) (by omega)), decide_eq_false (nI_nlt (by omega) (by omega))]
  rfl
theorem isM_M {m : Nat} (h : Mok m) : isM (nI m) = true := by
  unfold Mok at h
  rcases h with rfl | rfl | rfl | rfl <;> decide
theorem PastIs.less {f : Nat → Int32} {s : Hs} (h : PastIs f s) : PastIs f (s.1 - 1, s.2) := fun i hi k hk => h i (by have hi : i < s.1 - 1 := hi; omega) k hk
theorem zN_clr {x : Gd} {r c m : Nat} : upd (upd (upd (fun k => if k < 36 then nI 0 else nF (zN x) k) 36 (nI r)) 37 (nI c)) 38 (nI m) = nF (zN ((r, c, m), fun _ => 0)) := by
  funext k
  unfold upd
  by_cases e1 : k = 38
  · subst e1; rfl
  · rw [if_neg e1]
    by_cases e2 : k = 37
    · subst e2; rfl
    · rw [if_neg e2]
      by_cases e3 : k = 36
      · subst e3; rfl
      · rw [if_neg e3]
        unfold nF zN
        dsimp only
        by_cases e4 : k < 36
        · rw [if_pos e4, if_pos e4]
        · rw [if_neg e4, if_neg e4, if_neg e3, if_neg e2, if_neg e1, if_neg e4, if_neg e3, if_neg e2, if_neg e1]
set_option maxRecDepth 4000 in
theorem c_M_undo {l : Launch} {h : sH} {st : St} (hI : MInv h st) (hS : StOk st) : sY l m_M_undo 0 [.ref 61] h (some (.int (Sundo st).1)) (MR h (Sundo st).2) := by
  have hI0 := hI
  obtain ⟨hz, H⟩ := hI
  have H0 := H
  have hx := hS.1
  have hM := hx.2.2.1.le
  have hRr := hx.1
  have hCc := hx.2.1
  have hh6 := hS.2.1.1
  obtain ⟨⟨v, a1⟩, ⟨f, a2, b2⟩, ⟨f3, a3, b3⟩, ⟨f4, a4, b4⟩, ⟨f5, a5, b5⟩, ⟨f6, f7, f8, f9, a6, a7, a8, a9⟩, ⟨f10, a10⟩, ⟨f11, a11⟩, ⟨f12, a12⟩⟩ := H
  refine en_M_undo ?_
  refine e_aload_0 (p' := 1) D_M_undo_0 rfl ?_
  refine e_getfield (p' := 4) D_M_undo_1 F_M_48 (by first | assumption | exact sUp_eq | (rw [sUp_ne (by omega)]; assumption) | (rw [sUp_ne (by omega), sUp_ne (by omega)]; assumption) | (rw [sUp_ne (by omega)]; exact sUp_eq) | (rw [gSet_ne (by omega) (by omega)]; first | assumption | exact sUp_eq | (rw [sUp_ne (by omega)]; assumption) | (rw [sUp_ne (by omega), sUp_ne (by omega)]; assumption)) | (simp [sUp]; done)) (by rfl) rfl ?_
  refine e_ifN_ne (q := 10) (p' := 7) D_M_undo_4 (by omega) rfl rfl (fun hc4 => ?_) (fun hc4 => ?_)
  ·
    refine e_aload_0 (p' := 11) D_M_undo_10 rfl ?_
    refine e_dup (p' := 12) D_M_undo_11 rfl rfl ?_
    refine e_getfield (p' := 15) D_M_undo_12 F_M_48 (by first | assumption | exact sUp_eq | (rw [sUp_ne (by omega)]; assumption) | (rw [sUp_ne (by omega), sUp_ne (by omega)]; assumption) | (rw [sUp_ne (by omega)]; exact sUp_eq) | (rw [gSet_ne (by omega) (by omega)]; first | assumption | exact sUp_eq | (rw [sUp_ne (by omega)]; assumption) | (rw [sUp_ne (by omega), sUp_ne (by omega)]; assumption)) | (simp [sUp]; done)) (by rfl) rfl ?_
    refine e_iconst (v := nI 1) (p' := 16) D_M_undo_15 cst_iconst_1 rfl ?_
    first | refine e_isubN (p' := 17) D_M_undo_16 (by omega) rfl ?_ | refine e_isub (p' := 17) D_M_undo_16 rfl ?_
    refine e_putfield (p' := 20) D_M_undo_17 F_M_48 (Or.inl rfl) (by first | assumption | exact sUp_eq | (rw [sUp_ne (by omega)]; assumption) | (rw [sUp_ne (by omega), sUp_ne (by omega)]; assumption) | (rw [sUp_ne (by omega)]; exact sUp_eq) | (rw [gSet_ne (by omega) (by omega)]; first | assumption | exact sUp_eq | (rw [sUp_ne (by omega)]; assumption) | (rw [sUp_ne (by omega), sUp_ne (by omega)]; assumption)) | (simp [sUp]; done)) (fun _ => ⟨rfl, rfl⟩) (Nat.le_of_ble_eq_true rfl) (by rfl) rfl ?_
    try dsimp only [List.set]
    refine e_iconst (v := nI 0) (p' := 21) D_M_undo_20 cst_iconst_0 rfl ?_
    refine e_istore_1 (p' := 22) D_M_undo_21 (Nat.le_of_ble_eq_true rfl) rfl rfl ?_
    have lk22 : ∀ i : Nat, i ≤ 39 → sEv l m_M_undo 0 (0, 0, 0, 0) (sKm 0 0 (fun r1 h1 => r1 = some (.int (Sundo st).1) ∧ (MR h (Sundo st).2) h1)) 22 [some (.ref 61), some (.int (nI i))] [] (sUp (sUp h 61 (mO (st.2.1.1 - 1) st.2.2.2.1 v)) 62 (iA 39 (fun k => if k < i then nI (zN (st.2.1.2 (st.2.1.1 - 1)) k) else nF (zN st.1) k))) := by
      refine lp_up _ ?_ ?_
      · skip
        refine e_iload_1 (p' := 23) D_M_undo_22 rfl ?_
        refine e_bipush (v := nI 39) (p' := 25) D_M_undo_23 cst_bipush_39 rfl ?_
        refine e_icmpN_ge (q := 54) (p' := 28) D_M_undo_25 (by omega) (by omega) rfl rfl (fun hc25 => ?_) (fun hc25 => ?_)
        ·
          refine e_aload_0 (p' := 55) D_M_undo_54 rfl ?_
          refine e_getfield (p' := 58) D_M_undo_55 F_M_48 (by first | assumption | exact sUp_eq | (rw [sUp_ne (by omega)]; assumption) | (rw [sUp_ne (by omega), sUp_ne (by omega)]; assumption) | (rw [sUp_ne (by omega)]; exact sUp_eq) | (rw [gSet_ne (by omega) (by omega)]; first | assumption | exact sUp_eq | (rw [sUp_ne (by omega)]; assumption) | (rw [sUp_ne (by omega), sUp_ne (by omega)]; assumption)) | (simp [sUp]; done)) (by rfl) rfl ?_
          refine e_ireturn (ty := .int) D_M_undo_58 rfl (by first | rfl | exact sBo_nar _) ⟨by decide, by decide⟩ ?_
          unfold Sundo; rw [if_neg (by omega)]
          refine ⟨rfl, ⟨?_, ⟨v, ?_⟩, ⟨f, ?_, b2.less⟩, ⟨f3, ?_, b3⟩, ⟨f4, ?_, b4⟩, ⟨f5, ?_, b5⟩, ⟨f6, f7, f8, f9, ?_, ?_, ?_, ?_⟩, ⟨f10, ?_⟩, ⟨f11, ?_⟩, ⟨f12, ?_⟩⟩, fun a ha => (sUp_ne (by omega)).trans (sUp_ne (by omega))⟩
          · rw [sUp_eq]
            exact congrArg (iA 39) (zN_mix (x := st.1) (fun k hk => if_pos hk) (fun k hk => (if_neg hk).trans (zN_hi hk)))
          · exact (sUp_ne (by omega)).trans sUp_eq
          · exact (sUp_ne (by omega)).trans ((sUp_ne (by omega)).trans a2)
          · exact (sUp_ne (by omega)).trans ((sUp_ne (by omega)).trans a3)
          · exact (sUp_ne (by omega)).trans ((sUp_ne (by omega)).trans a4)
          · exact (sUp_ne (by omega)).trans ((sUp_ne (by omega)).trans a5)
          · exact (sUp_ne (by omega)).trans ((sUp_ne (by omega)).trans a6)
          · exact (sUp_ne (by omega)).trans ((sUp_ne (by omega)).trans a7)
          · exact (sUp_ne (by omega)).trans ((sUp_ne (by omega)).trans a8)
          · exact (sUp_ne (by omega)).trans ((sUp_ne (by omega)).trans a9)
          · exact (sUp_ne (by omega)).trans ((sUp_ne (by omega)).trans a10)
          · exact (sUp_ne (by omega)).trans ((sUp_ne (by omega)).trans a11)
          · exact (sUp_ne (by omega)).trans ((sUp_ne (by omega)).trans a12)
        ·
          exfalso; omega
      · intro i hi ih22 
        refine e_iload_1 (p' := 23) D_M_undo_22 rfl ?_
        refine e_bipush (v := nI 39) (p' := 25) D_M_undo_23 cst_bipush_39 rfl ?_
        refine e_icmpN_ge (q := 54) (p' := 28) D_M_undo_25 (by omega) (by omega) rfl rfl (fun hc25 => ?_) (fun hc25 => ?_)
        ·
          exfalso; omega
        ·
          refine e_aload_0 (p' := 29) D_M_undo_28 rfl ?_
          refine e_getfield (p' := 32) D_M_undo_29 F_M_7 (by first | assumption | exact sUp_eq | (rw [sUp_ne (by omega)]; assumption) | (rw [sUp_ne (by omega), sUp_ne (by omega)]; assumption) | (rw [sUp_ne (by omega)]; exact sUp_eq) | (rw [gSet_ne (by omega) (by omega)]; first | assumption | exact sUp_eq | (rw [sUp_ne (by omega)]; assumption) | (rw [sUp_ne (by omega), sUp_ne (by omega)]; assumption)) | (simp [sUp]; done)) (by rfl) rfl ?_
          refine e_iload_1 (p' := 33) D_M_undo_32 rfl ?_
          refine e_aload_0 (p' := 34) D_M_undo_33 rfl ?_
          refine e_getfield (p' := 37) D_M_undo_34 F_M_13 (by first | assumption | exact sUp_eq | (rw [sUp_ne (by omega)]; assumption) | (rw [sUp_ne (by omega), sUp_ne (by omega)]; assumption) | (rw [sUp_ne (by omega)]; exact sUp_eq) | (rw [gSet_ne (by omega) (by omega)]; first | assumption | exact sUp_eq | (rw [sUp_ne (by omega)]; assumption) | (rw [sUp_ne (by omega), sUp_ne (by omega)]; assumption)) | (simp [sUp]; done)) (by rfl) rfl ?_
          refine e_aload_0 (p' := 38) D_M_undo_37 rfl ?_
          refine e_getfield (p' := 41) D_M_undo_38 F_M_48 (by first | assumption | exact sUp_eq | (rw [sUp_ne (by omega)]; assumption) | (rw [sUp_ne (by omega), sUp_ne (by omega)]; assumption) | (rw [sUp_ne (by omega)]; exact sUp_eq) | (rw [gSet_ne (by omega) (by omega)]; first | assumption | exact sUp_eq | (rw [sUp_ne (by omega)]; assumption) | (rw [sUp_ne (by omega), sUp_ne (by omega)]; assumption)) | (simp [sUp]; done)) (by rfl) rfl ?_
          refine e_bipush (v := nI 39) (p' := 43) D_M_undo_41 cst_bipush_39 rfl ?_
          first | refine e_imulN (p' := 44) D_M_undo_43 rfl ?_ | refine e_imul (p' := 44) D_M_undo_43 rfl ?_
          refine e_iload_1 (p' := 45) D_M_undo_44 rfl ?_
          first | refine e_iaddN (p' := 46) D_M_undo_45 rfl ?_ | refine e_iadd (p' := 46) D_M_undo_45 rfl ?_
          refine e_iaload (p' := 47) D_M_undo_46 (by first | assumption | exact sUp_eq | (rw [sUp_ne (by omega)]; assumption) | (rw [sUp_ne (by omega), sUp_ne (by omega)]; assumption) | (rw [sUp_ne (by omega)]; exact sUp_eq) | (rw [gSet_ne (by omega) (by omega)]; first | assumption | exact sUp_eq | (rw [sUp_ne (by omega)]; assumption) | (rw [sUp_ne (by omega), sUp_ne (by omega)]; assumption)) | (simp [sUp]; done)) (by omega) (by omega) (by rfl) rfl ?_
          refine e_iastore (p' := 48) D_M_undo_47 (by first | assumption | exact sUp_eq | (rw [sUp_ne (by omega)]; assumption) | (rw [sUp_ne (by omega), sUp_ne (by omega)]; assumption) | (rw [sUp_ne (by omega)]; exact sUp_eq) | (rw [gSet_ne (by omega) (by omega)]; first | assumption | exact sUp_eq | (rw [sUp_ne (by omega)]; assumption) | (rw [sUp_ne (by omega), sUp_ne (by omega)]; assumption)) | (simp [sUp]; done)) (by omega) (by omega) rfl ?_
          first | refine e_iincN_1 (n := 1) (p' := 51) D_M_undo_48 (Nat.le_of_ble_eq_true rfl) rfl rfl ?_ | refine e_iinc_1 (p' := 51) D_M_undo_48 (Nat.le_of_ble_eq_true rfl) rfl rfl rfl ?_
          refine e_goto (p' := 22) D_M_undo_51 rfl ?_
          refine sEv.castW (ih22) ?_ ?_ ?_
          · first | exact lvW_rfl _ | (simp [lvW]; done) | (simp [lvW, *]; done) | (simp [lvW]; omega)
          · rfl
          · rw [sUp_sUp]
            refine sUp_arr fun k => ?_
            unfold upd
            dsimp only
            by_cases e : k = i
            · subst e
              rw [if_pos rfl, if_pos (by omega), show (st.2.1.1 - 1) * 39 + k = 39 * (st.2.1.1 - 1) + k by omega]
              exact b2 _ (by omega) k hi
            · rw [if_neg e]
              by_cases w : k < i
              · rw [if_pos w, if_pos (by omega)]
              · rw [if_neg w, if_neg (by omega)]
    refine sEv.castW (lk22 0 (by omega) ) ?_ ?_ ?_
    · first | exact lvW_rfl _ | (simp [lvW]; done) | (simp [lvW, *]; done) | (simp [lvW]; omega)
    · rfl
    · refine sUp_arrS ((sUp_ne (by omega)).trans hz) fun k => ?_
      rw [if_neg (by omega)]
  ·
    refine e_bipush (v := (-5)) (p' := 9) D_M_undo_7 cst_bipush_m5 rfl ?_
    refine e_ireturn (ty := .int) D_M_undo_9 rfl (by first | rfl | exact sBo_nar _) ⟨by decide, by decide⟩ ?_
    unfold Sundo; rw [if_pos (by omega)]; exact ⟨rfl, hI0, FrK.rf⟩
set_option maxRecDepth 4000 in
theorem c_M_saveN {l : Launch} {h : sH} {st : St} (hI : MInv h st) (hS : StOk st) {i : Int32} (hn : ¬ (i = nI 0 ∨ i = nI 1)) : sY l m_M_save 1 [.ref 61, .int i] h (some (.int (Ssave st i).1)) (MR h (Ssave st i).2) := by
  have hI0 := hI
  obtain ⟨hz, H⟩ := hI
  have H0 := H
  have hx := hS.1
  have hM := hx.2.2.1.le
  have hRr := hx.1
  have hCc := hx.2.1
  have hh6 := hS.2.1.1
  obtain ⟨⟨v, a1⟩, ⟨f, a2, b2⟩, ⟨f3, a3, b3⟩, ⟨f4, a4, b4⟩, ⟨f5, a5, b5⟩, ⟨f6, f7, f8, f9, a6, a7, a8, a9⟩, ⟨f10, a10⟩, ⟨f11, a11⟩, ⟨f12, a12⟩⟩ := H
  refine en_M_save ?_
  refine e_iload_1 (p' := 1) D_M_save_0 rfl ?_
  refine e_iconst (v := nI 0) (p' := 2) D_M_save_1 cst_iconst_0 rfl ?_
  refine e_iconst (v := nI 1) (p' := 3) D_M_save_2 cst_iconst_1 rfl ?_
  refine x_callS1 (p' := 6) D_M_save_3 S_M_52 (c_M_in) rfl rfl (Nat.le_of_ble_eq_true rfl) (by decide) ⟨by decide, by decide⟩ rfl ?_
  refine e_ifB_ne (q := 12) (p' := 9) D_M_save_6 rfl rfl (fun hc6 => ?_) (fun hc6 => ?_)
  ·
    obtain ⟨s, hs, rfl⟩ := in_T hc6
    exact absurd (slot_nI hs) hn
  ·
    refine e_bipush (v := (-2)) (p' := 11) D_M_save_9 cst_bipush_m2 rfl ?_
    refine e_ireturn (ty := .int) D_M_save_11 rfl (by first | rfl | exact sBo_nar _) ⟨by decide, by decide⟩ ?_
    unfold Ssave; rw [if_neg hn]; exact ⟨rfl, hI0, FrK.rf⟩
set_option maxRecDepth 4000 in
theorem c_M_saveK {l : Launch} {h : sH} {st : St} (hI : MInv h st) (hS : StOk st) {s : Nat} (hs : s < 2) : sY l m_M_save 1 [.ref 61, .int (nI s)] h (some (.int (Ssave st (nI s)).1)) (MR h (Ssave st (nI s)).2) := by
  have hI0 := hI
  obtain ⟨hz, H⟩ := hI
  have H0 := H
  have hx := hS.1
  have hM := hx.2.2.1.le
  have hRr := hx.1
  have hCc := hx.2.1
  have hh6 := hS.2.1.1
  obtain ⟨⟨v, a1⟩, ⟨f, a2, b2⟩, ⟨f3, a3, b3⟩, ⟨f4, a4, b4⟩, ⟨f5, a5, b5⟩, ⟨f6, f7, f8, f9, a6, a7, a8, a9⟩, ⟨f10, a10⟩, ⟨f11, a11⟩, ⟨f12, a12⟩⟩ := H
  refine en_M_save ?_
  refine e_iload_1 (p' := 1) D_M_save_0 rfl ?_
  refine e_iconst (v := nI 0) (p' := 2) D_M_save_1 cst_iconst_0 rfl ?_
  refine e_iconst (v := nI 1) (p' := 3) D_M_save_2 cst_iconst_1 rfl ?_
  refine x_callS1 (p' := 6) D_M_save_3 S_M_52 (c_M_in) rfl rfl (Nat.le_of_ble_eq_true rfl) (by decide) ⟨by decide, by decide⟩ rfl ?_
  refine e_ifB_ne (q := 12) (p' := 9) D_M_save_6 rfl rfl (fun hc6 => ?_) (fun hc6 => ?_)
  ·
    have es := slot_nI hs
    refine e_aload_0 (p' := 13) D_M_save_12 rfl ?_
    refine e_getfield (p' := 16) D_M_save_13 F_M_19 (by first | assumption | exact sUp_eq | (rw [sUp_ne (by omega)]; assumption) | (rw [sUp_ne (by omega), sUp_ne (by omega)]; assumption) | (rw [sUp_ne (by omega)]; exact sUp_eq) | (rw [gSet_ne (by omega) (by omega)]; first | assumption | exact sUp_eq | (rw [sUp_ne (by omega)]; assumption) | (rw [sUp_ne (by omega), sUp_ne (by omega)]; assumption)) | (simp [sUp]; done)) (by rfl) rfl ?_
    refine e_iload_1 (p' := 17) D_M_save_16 rfl ?_
    refine e_iconst (v := nI 1) (p' := 18) D_M_save_17 cst_iconst_1 rfl ?_
    refine e_bastore (p' := 19) D_M_save_18 (by first | assumption | exact sUp_eq | (rw [sUp_ne (by omega)]; assumption) | (rw [sUp_ne (by omega), sUp_ne (by omega)]; assumption) | (rw [sUp_ne (by omega)]; exact sUp_eq) | (rw [gSet_ne (by omega) (by omega)]; first | assumption | exact sUp_eq | (rw [sUp_ne (by omega)]; assumption) | (rw [sUp_ne (by omega), sUp_ne (by omega)]; assumption)) | (simp [sUp]; done)) (by omega) (by omega) sBo_nar1 rfl ?_
    refine e_iconst (v := nI 0) (p' := 20) D_M_save_19 cst_iconst_0 rfl ?_
    refine e_istore_2 (p' := 21) D_M_save_20 (Nat.le_of_ble_eq_true rfl) rfl rfl ?_
    have lk21 : ∀ k : Nat, k ≤ 39 → sEv l m_M_save 1 (0, 0, 0, 0) (sKm 0 0 (fun r1 h1 => r1 = some (.int (Ssave st (nI s)).1) ∧ (MR h (Ssave st (nI s)).2) h1)) 21 [some (.ref 61), some (.int (nI s)), some (.int (nI k))] [] (sUp (sUp h 65 (.inl (2, 2, upd f4 s (nI 1)))) 64 (iA 78 (fun j => if 39 * s ≤ j ∧ j < 39 * s + k then nI (zN st.1 (j - 39 * s)) else f3 j))) := by
      refine lp_up _ ?_ ?_
      · skip
        refine e_iload_2 (p' := 22) D_M_save_21 rfl ?_
        refine e_bipush (v := nI 39) (p' := 24) D_M_save_22 cst_bipush_39 rfl ?_
        refine e_icmpN_ge (q := 50) (p' := 27) D_M_save_24 (by omega) (by omega) rfl rfl (fun hc24 => ?_) (fun hc24 => ?_)
        ·
          refine e_aload_0 (p' := 51) D_M_save_50 rfl ?_
          refine x_callV1 (p' := 54) D_M_save_51 V_M_56 (c_M_toldMany ((sUp_ne (by omega)).trans ((sUp_ne (by omega)).trans a1)) ((sUp_ne (by omega)).trans ((sUp_ne (by omega)).trans hz)) hx) rfl (by first | assumption | exact sUp_eq | (rw [sUp_ne (by omega)]; assumption) | (rw [sUp_ne (by omega), sUp_ne (by omega)]; assumption) | (rw [sUp_ne (by omega)]; exact sUp_eq) | (rw [gSet_ne (by omega) (by omega)]; first | assumption | exact sUp_eq | (rw [sUp_ne (by omega)]; assumption) | (rw [sUp_ne (by omega), sUp_ne (by omega)]; assumption)) | (simp [sUp]; done)) rfl (Nat.le_of_ble_eq_true rfl) (by decide) ⟨by decide, by decide⟩ rfl ?_
          refine e_ireturn (ty := .int) D_M_save_54 rfl (by first | rfl | exact sBo_nar _) ⟨by decide, by decide⟩ ?_
          unfold Ssave; rw [if_pos es, natOf_nI (by omega)]
          refine ⟨rfl, ⟨?_, ⟨v, ?_⟩, ⟨f, ?_, b2⟩, ⟨_, sUp_eq, ?_⟩, ⟨_, (sUp_ne (by omega)).trans sUp_eq, ?_⟩, ⟨f5, ?_, b5⟩, ⟨f6, f7, f8, f9, ?_, ?_, ?_, ?_⟩, ⟨f10, ?_⟩, ⟨f11, ?_⟩, ⟨f12, ?_⟩⟩, fun a ha => (sUp_ne (by omega)).trans (sUp_ne (by omega))⟩
          · exact (sUp_ne (by omega)).trans ((sUp_ne (by omega)).trans hz)
          · exact (sUp_ne (by omega)).trans ((sUp_ne (by omega)).trans a1)
          · exact (sUp_ne (by omega)).trans ((sUp_ne (by omega)).trans a2)
          · intro q z hq hz2 k hk
            have hz2 : (if q = s then some st.1 else st.2.2.1 q) = some z := hz2
            dsimp only
            by_cases e : q = s
            · subst e
              rw [if_pos rfl] at hz2
              injection hz2 with hz2
              subst hz2
              rw [if_pos (by omega), show 39 * q + k - 39 * q = k by omega]
            · rw [if_neg e] at hz2
              rw [if_neg (by omega)]
              exact b3 q z hq hz2 k hk
          · intro q hq
            show upd f4 s (nI 1) q = sBo (if q = s then some st.1 else st.2.2.1 q).isSome
            unfold upd
            by_cases e : q = s
            · rw [if_pos e, if_pos e]; rfl
            · rw [if_neg e, if_neg e]; exact b4 q hq
          · exact (sUp_ne (by omega)).trans ((sUp_ne (by omega)).trans a5)
          · exact (sUp_ne (by omega)).trans ((sUp_ne (by omega)).trans a6)
          · exact (sUp_ne (by omega)).trans ((sUp_ne (by omega)).trans a7)
          · exact (sUp_ne (by omega)).trans ((sUp_ne (by omega)).trans a8)
          · exact (sUp_ne (by omega)).trans ((sUp_ne (by omega)).trans a9)
          · exact (sUp_ne (by omega)).trans ((sUp_ne (by omega)).trans a10)
          · exact (sUp_ne (by omega)).trans ((sUp_ne (by omega)).trans a11)
          · exact (sUp_ne (by omega)).trans ((sUp_ne (by omega)).trans a12)
        ·
          exfalso; omega
      · intro k hk ih21 
        refine e_iload_2 (p' := 22) D_M_save_21 rfl ?_
        refine e_bipush (v := nI 39) (p' := 24) D_M_save_22 cst_bipush_39 rfl ?_
        refine e_icmpN_ge (q := 50) (p' := 27) D_M_save_24 (by omega) (by omega) rfl rfl (fun hc24 => ?_) (fun hc24 => ?_)
        ·
          exfalso; omega
        ·
          refine e_aload_0 (p' := 28) D_M_save_27 rfl ?_
          refine e_getfield (p' := 31) D_M_save_28 F_M_16 (by first | assumption | exact sUp_eq | (rw [sUp_ne (by omega)]; assumption) | (rw [sUp_ne (by omega), sUp_ne (by omega)]; assumption) | (rw [sUp_ne (by omega)]; exact sUp_eq) | (rw [gSet_ne (by omega) (by omega)]; first | assumption | exact sUp_eq | (rw [sUp_ne (by omega)]; assumption) | (rw [sUp_ne (by omega), sUp_ne (by omega)]; assumption)) | (simp [sUp]; done)) (by rfl) rfl ?_
          refine e_iload_1 (p' := 32) D_M_save_31 rfl ?_
          refine e_bipush (v := nI 39) (p' := 34) D_M_save_32 cst_bipush_39 rfl ?_
          first | refine e_imulN (p' := 35) D_M_save_34 rfl ?_ | refine e_imul (p' := 35) D_M_save_34 rfl ?_
          refine e_iload_2 (p' := 36) D_M_save_35 rfl ?_
          first | refine e_iaddN (p' := 37) D_M_save_36 rfl ?_ | refine e_iadd (p' := 37) D_M_save_36 rfl ?_
          refine e_aload_0 (p' := 38) D_M_save_37 rfl ?_
          refine e_getfield (p' := 41) D_M_save_38 F_M_7 (by first | assumption | exact sUp_eq | (rw [sUp_ne (by omega)]; assumption) | (rw [sUp_ne (by omega), sUp_ne (by omega)]; assumption) | (rw [sUp_ne (by omega)]; exact sUp_eq) | (rw [gSet_ne (by omega) (by omega)]; first | assumption | exact sUp_eq | (rw [sUp_ne (by omega)]; assumption) | (rw [sUp_ne (by omega), sUp_ne (by omega)]; assumption)) | (simp [sUp]; done)) (by rfl) rfl ?_
          refine e_iload_2 (p' := 42) D_M_save_41 rfl ?_
          refine e_iaload (p' := 43) D_M_save_42 (by first | assumption | exact sUp_eq | (rw [sUp_ne (by omega)]; assumption) | (rw [sUp_ne (by omega), sUp_ne (by omega)]; assumption) | (rw [sUp_ne (by omega)]; exact sUp_eq) | (rw [gSet_ne (by omega) (by omega)]; first | assumption | exact sUp_eq | (rw [sUp_ne (by omega)]; assumption) | (rw [sUp_ne (by omega), sUp_ne (by omega)]; assumption)) | (simp [sUp]; done)) (by omega) (by omega) (by rfl) rfl ?_
          refine e_iastore (p' := 44) D_M_save_43 (by first | assumption | exact sUp_eq | (rw [sUp_ne (by omega)]; assumption) | (rw [sUp_ne (by omega), sUp_ne (by omega)]; assumption) | (rw [sUp_ne (by omega)]; exact sUp_eq) | (rw [gSet_ne (by omega) (by omega)]; first | assumption | exact sUp_eq | (rw [sUp_ne (by omega)]; assumption) | (rw [sUp_ne (by omega), sUp_ne (by omega)]; assumption)) | (simp [sUp]; done)) (by omega) (by omega) rfl ?_
          first | refine e_iincN_2 (n := 1) (p' := 47) D_M_save_44 (Nat.le_of_ble_eq_true rfl) rfl rfl ?_ | refine e_iinc_2 (p' := 47) D_M_save_44 (Nat.le_of_ble_eq_true rfl) rfl rfl rfl ?_
          refine e_goto (p' := 21) D_M_save_47 rfl ?_
          refine sEv.castW (ih21) ?_ ?_ ?_
          · first | exact lvW_rfl _ | (simp [lvW]; done) | (simp [lvW, *]; done) | (simp [lvW]; omega)
          · rfl
          · rw [sUp_sUp]
            refine sUp_arr fun j => ?_
            unfold upd
            dsimp only
            by_cases e : j = s * 39 + k
            · subst e
              rw [if_pos rfl, if_pos (by omega), show s * 39 + k - 39 * s = k by omega]
              rfl
            · rw [if_neg e]
              by_cases w : 39 * s ≤ j ∧ j < 39 * s + k
              · rw [if_pos w, if_pos (by omega)]
              · rw [if_neg w, if_neg (by omega)]
    refine sEv.castW (lk21 0 (by omega) ) ?_ ?_ ?_
    · first | exact lvW_rfl _ | (simp [lvW]; done) | (simp [lvW, *]; done) | (simp [lvW]; omega)
    · rfl
    · refine sUp_arrS ((sUp_ne (by omega)).trans a3) fun k => ?_
      rw [if_neg (by omega)]
  ·
    exact absurd (slot_nI hs) (in_F hc6)
theorem c_M_save {l : Launch} {h : sH} {st : St} (hI : MInv h st) (hS : StOk st) {i : Int32} : sY l m_M_save 1 [.ref 61, .int i] h (some (.int (Ssave st i).1)) (MR h (Ssave st i).2) := by
  by_cases e : i = nI 0 ∨ i = nI 1
  · obtain ⟨k, hk, rfl⟩ := slot_k e
    exact c_M_saveK hI hS hk
  · exact c_M_saveN hI hS e
set_option maxRecDepth 4000 in
theorem c_M_restoreN {l : Launch} {h : sH} {st : St} (hI : MInv h st) (hS : StOk st) {i : Int32} (hn : ¬ (i = nI 0 ∨ i = nI 1)) : sY l m_M_restore 1 [.ref 61, .int i] h (some (.int (Srestore st i).1)) (MR h (Srestore st i).2) := by
  have hI0 := hI
  obtain ⟨hz, H⟩ := hI
  have H0 := H
  have hx := hS.1
  have hM := hx.2.2.1.le
  have hRr := hx.1
  have hCc := hx.2.1
  have hh6 := hS.2.1.1
  obtain ⟨⟨v, a1⟩, ⟨f, a2, b2⟩, ⟨f3, a3, b3⟩, ⟨f4, a4, b4⟩, ⟨f5, a5, b5⟩, ⟨f6, f7, f8, f9, a6, a7, a8, a9⟩, ⟨f10, a10⟩, ⟨f11, a11⟩, ⟨f12, a12⟩⟩ := H
  refine en_M_restore ?_
  refine e_iload_1 (p' := 1) D_M_restore_0 rfl ?_
  refine e_iconst (v := nI 0) (p' := 2) D_M_restore_1 cst_iconst_0 rfl ?_
  refine e_iconst (v := nI 1) (p' := 3) D_M_restore_2 cst_iconst_1 rfl ?_
  refine x_callS1 (p' := 6) D_M_restore_3 S_M_52 (c_M_in) rfl rfl (Nat.le_of_ble_eq_true rfl) (by decide) ⟨by decide, by decide⟩ rfl ?_
  refine e_ifB_ne (q := 12) (p' := 9) D_M_restore_6 rfl rfl (fun hc6 => ?_) (fun hc6 => ?_)
  ·
    obtain ⟨s, hs, rfl⟩ := in_T hc6
    exact absurd (slot_nI hs) hn
  ·
    refine e_bipush (v := (-2)) (p' := 11) D_M_restore_9 cst_bipush_m2 rfl ?_
    refine e_ireturn (ty := .int) D_M_restore_11 rfl (by first | rfl | exact sBo_nar _) ⟨by decide, by decide⟩ ?_
    unfold Srestore; rw [if_neg hn]; exact ⟨rfl, hI0, FrK.rf⟩
set_option maxRecDepth 4000 in
theorem c_M_restoreK {l : Launch} {h : sH} {st : St} (hI : MInv h st) (hS : StOk st) {s : Nat} (hs : s < 2) : sY l m_M_restore 1 [.ref 61, .int (nI s)] h (some (.int (Srestore st (nI s)).1)) (MR h (Srestore st (nI s)).2) := by
  have hI0 := hI
  obtain ⟨hz, H⟩ := hI
  have H0 := H
  have hx := hS.1
  have hM := hx.2.2.1.le
  have hRr := hx.1
  have hCc := hx.2.1
  have hh6 := hS.2.1.1
  obtain ⟨⟨v, a1⟩, ⟨f, a2, b2⟩, ⟨f3, a3, b3⟩, ⟨f4, a4, b4⟩, ⟨f5, a5, b5⟩, ⟨f6, f7, f8, f9, a6, a7, a8, a9⟩, ⟨f10, a10⟩, ⟨f11, a11⟩, ⟨f12, a12⟩⟩ := H
  refine en_M_restore ?_
  refine e_iload_1 (p' := 1) D_M_restore_0 rfl ?_
  refine e_iconst (v := nI 0) (p' := 2) D_M_restore_1 cst_iconst_0 rfl ?_
  refine e_iconst (v := nI 1) (p' := 3) D_M_restore_2 cst_iconst_1 rfl ?_
  refine x_callS1 (p' := 6) D_M_restore_3 S_M_52 (c_M_in) rfl rfl (Nat.le_of_ble_eq_true rfl) (by decide) ⟨by decide, by decide⟩ rfl ?_
  refine e_ifB_ne (q := 12) (p' := 9) D_M_restore_6 rfl rfl (fun hc6 => ?_) (fun hc6 => ?_)
  ·
    have es := slot_nI hs
    refine e_aload_0 (p' := 13) D_M_restore_12 rfl ?_
    refine e_getfield (p' := 16) D_M_restore_13 F_M_19 (by first | assumption | exact sUp_eq | (rw [sUp_ne (by omega)]; assumption) | (rw [sUp_ne (by omega), sUp_ne (by omega)]; assumption) | (rw [sUp_ne (by omega)]; exact sUp_eq) | (rw [gSet_ne (by omega) (by omega)]; first | assumption | exact sUp_eq | (rw [sUp_ne (by omega)]; assumption) | (rw [sUp_ne (by omega), sUp_ne (by omega)]; assumption)) | (simp [sUp]; done)) (by rfl) rfl ?_
    refine e_iload_1 (p' := 17) D_M_restore_16 rfl ?_
    refine e_baload (p' := 18) D_M_restore_17 (by first | assumption | exact sUp_eq | (rw [sUp_ne (by omega)]; assumption) | (rw [sUp_ne (by omega), sUp_ne (by omega)]; assumption) | (rw [sUp_ne (by omega)]; exact sUp_eq) | (rw [gSet_ne (by omega) (by omega)]; first | assumption | exact sUp_eq | (rw [sUp_ne (by omega)]; assumption) | (rw [sUp_ne (by omega), sUp_ne (by omega)]; assumption)) | (simp [sUp]; done)) (by omega) (by omega) (by rfl) rfl ?_
    rw [b4 s hs]
    refine e_ifB_ne (q := 24) (p' := 21) D_M_restore_18 rfl rfl (fun hc18 => ?_) (fun hc18 => ?_)
    ·
      obtain ⟨z, hzz⟩ : ∃ z, st.2.2.1 s = some z := by
        cases e : st.2.2.1 s with
        | none => rw [e] at hc18; exact absurd hc18 (by decide)
        | some z => exact ⟨z, rfl⟩
      have zok := hS.2.2.1 s z hzz
      refine e_aload_0 (p' := 25) D_M_restore_24 rfl ?_
      refine y_callV0 (p' := 28) D_M_restore_25 V_M_60 (c_M_record hz H0 hS.2.1.1) rfl (by first | assumption | exact sUp_eq | (rw [sUp_ne (by omega)]; assumption) | (rw [sUp_ne (by omega), sUp_ne (by omega)]; assumption) | (rw [sUp_ne (by omega)]; exact sUp_eq) | (rw [gSet_ne (by omega) (by omega)]; first | assumption | exact sUp_eq | (rw [sUp_ne (by omega)]; assumption) | (rw [sUp_ne (by omega), sUp_ne (by omega)]; assumption)) | (simp [sUp]; done)) rfl (Nat.le_of_ble_eq_true rfl) (by decide) ⟨by decide, by decide⟩ rfl ?_
      rintro h1 ⟨⟨H1, z1⟩, F1⟩
      have H10 := H1
      obtain ⟨⟨v1, k1⟩, ⟨g1, k2, l2⟩, ⟨g3, k3, l3⟩, ⟨g4, k4, l4⟩, ⟨g5, k5, l5⟩, _⟩ := H1
      refine e_iconst (v := nI 0) (p' := 29) D_M_restore_28 cst_iconst_0 rfl ?_
      refine e_istore_2 (p' := 30) D_M_restore_29 (Nat.le_of_ble_eq_true rfl) rfl rfl ?_
      have lk30 : ∀ k : Nat, k ≤ 39 → sEv l m_M_restore 1 (0, 0, 0, 0) (sKm 0 0 (fun r1 h1 => r1 = some (.int (Srestore st (nI s)).1) ∧ (MR h (Srestore st (nI s)).2) h1)) 30 [some (.ref 61), some (.int (nI s)), some (.int (nI k))] [] (sUp h1 62 (iA 39 (fun k2 => if k2 < k then nI (zN z k2) else nF (zN st.1) k2))) := by
        refine lp_up _ ?_ ?_
        · skip
          refine e_iload_2 (p' := 31) D_M_restore_30 rfl ?_
          refine e_bipush (v := nI 39) (p' := 33) D_M_restore_31 cst_bipush_39 rfl ?_
          refine e_icmpN_ge (q := 59) (p' := 36) D_M_restore_33 (by omega) (by omega) rfl rfl (fun hc33 => ?_) (fun hc33 => ?_)
          ·
            have ezz : (fun k => if k < 39 then nI (zN z k) else nF (zN st.1) k) = nF (zN z) := zN_mix (x := st.1) (fun k hk => if_pos hk) (fun k hk => (if_neg hk).trans (zN_hi hk))
            refine e_aload_0 (p' := 60) D_M_restore_59 rfl ?_
            refine x_callV1 (p' := 63) D_M_restore_60 V_M_56 (c_M_toldMany ((sUp_ne (by omega)).trans k1) (sUp_eq.trans (congrArg (iA 39) ezz)) zok) rfl (by first | assumption | exact sUp_eq | (rw [sUp_ne (by omega)]; assumption) | (rw [sUp_ne (by omega), sUp_ne (by omega)]; assumption) | (rw [sUp_ne (by omega)]; exact sUp_eq) | (rw [gSet_ne (by omega) (by omega)]; first | assumption | exact sUp_eq | (rw [sUp_ne (by omega)]; assumption) | (rw [sUp_ne (by omega), sUp_ne (by omega)]; assumption)) | (simp [sUp]; done)) rfl (Nat.le_of_ble_eq_true rfl) (by decide) ⟨by decide, by decide⟩ rfl ?_
            refine e_ireturn (ty := .int) D_M_restore_63 rfl (by first | rfl | exact sBo_nar _) ⟨by decide, by decide⟩ ?_
            unfold Srestore; rw [if_pos es, natOf_nI (by omega), hzz]
            exact ⟨rfl, ⟨sUp_eq.trans (congrArg (iA 39) ezz), H10.z⟩, F1.up (by omega)⟩
          ·
            exfalso; omega
        · intro k hk ih30 
          refine e_iload_2 (p' := 31) D_M_restore_30 rfl ?_
          refine e_bipush (v := nI 39) (p' := 33) D_M_restore_31 cst_bipush_39 rfl ?_
          refine e_icmpN_ge (q := 59) (p' := 36) D_M_restore_33 (by omega) (by omega) rfl rfl (fun hc33 => ?_) (fun hc33 => ?_)
          ·
            exfalso; omega
          ·
            refine e_aload_0 (p' := 37) D_M_restore_36 rfl ?_
            refine e_getfield (p' := 40) D_M_restore_37 F_M_7 (by first | assumption | exact sUp_eq | (rw [sUp_ne (by omega)]; assumption) | (rw [sUp_ne (by omega), sUp_ne (by omega)]; assumption) | (rw [sUp_ne (by omega)]; exact sUp_eq) | (rw [gSet_ne (by omega) (by omega)]; first | assumption | exact sUp_eq | (rw [sUp_ne (by omega)]; assumption) | (rw [sUp_ne (by omega), sUp_ne (by omega)]; assumption)) | (simp [sUp]; done)) (by rfl) rfl ?_
            refine e_iload_2 (p' := 41) D_M_restore_40 rfl ?_
            refine e_aload_0 (p' := 42) D_M_restore_41 rfl ?_
            refine e_getfield (p' := 45) D_M_restore_42 F_M_16 (by first | assumption | exact sUp_eq | (rw [sUp_ne (by omega)]; assumption) | (rw [sUp_ne (by omega), sUp_ne (by omega)]; assumption) | (rw [sUp_ne (by omega)]; exact sUp_eq) | (rw [gSet_ne (by omega) (by omega)]; first | assumption | exact sUp_eq | (rw [sUp_ne (by omega)]; assumption) | (rw [sUp_ne (by omega), sUp_ne (by omega)]; assumption)) | (simp [sUp]; done)) (by rfl) rfl ?_
            refine e_iload_1 (p' := 46) D_M_restore_45 rfl ?_
            refine e_bipush (v := nI 39) (p' := 48) D_M_restore_46 cst_bipush_39 rfl ?_
            first | refine e_imulN (p' := 49) D_M_restore_48 rfl ?_ | refine e_imul (p' := 49) D_M_restore_48 rfl ?_
            refine e_iload_2 (p' := 50) D_M_restore_49 rfl ?_
            first | refine e_iaddN (p' := 51) D_M_restore_50 rfl ?_ | refine e_iadd (p' := 51) D_M_restore_50 rfl ?_
            refine e_iaload (p' := 52) D_M_restore_51 (by first | assumption | exact sUp_eq | (rw [sUp_ne (by omega)]; assumption) | (rw [sUp_ne (by omega), sUp_ne (by omega)]; assumption) | (rw [sUp_ne (by omega)]; exact sUp_eq) | (rw [gSet_ne (by omega) (by omega)]; first | assumption | exact sUp_eq | (rw [sUp_ne (by omega)]; assumption) | (rw [sUp_ne (by omega), sUp_ne (by omega)]; assumption)) | (simp [sUp]; done)) (by omega) (by omega) (by rfl) rfl ?_
            refine e_iastore (p' := 53) D_M_restore_52 (by first | assumption | exact sUp_eq | (rw [sUp_ne (by omega)]; assumption) | (rw [sUp_ne (by omega), sUp_ne (by omega)]; assumption) | (rw [sUp_ne (by omega)]; exact sUp_eq) | (rw [gSet_ne (by omega) (by omega)]; first | assumption | exact sUp_eq | (rw [sUp_ne (by omega)]; assumption) | (rw [sUp_ne (by omega), sUp_ne (by omega)]; assumption)) | (simp [sUp]; done)) (by omega) (by omega) rfl ?_
            first | refine e_iincN_2 (n := 1) (p' := 56) D_M_restore_53 (Nat.le_of_ble_eq_true rfl) rfl rfl ?_ | refine e_iinc_2 (p' := 56) D_M_restore_53 (Nat.le_of_ble_eq_true rfl) rfl rfl rfl ?_
            refine e_goto (p' := 30) D_M_restore_56 rfl ?_
            refine sEv.castW (ih30) ?_ ?_ ?_
            · first | exact lvW_rfl _ | (simp [lvW]; done) | (simp [lvW, *]; done) | (simp [lvW]; omega)
            · rfl
            · rw [sUp_sUp]
              refine sUp_arr fun j => ?_
              unfold upd
              dsimp only
              by_cases e : j = k
              · subst e
                rw [if_pos rfl, if_pos (by omega), show s * 39 + j = 39 * s + j by omega]
                exact l3 s z hs hzz j hk
              · rw [if_neg e]
                by_cases w : j < k
                · rw [if_pos w, if_pos (by omega)]
                · rw [if_neg w, if_neg (by omega)]
      refine sEv.castW (lk30 0 (by omega) ) ?_ ?_ ?_
      · first | exact lvW_rfl _ | (simp [lvW]; done) | (simp [lvW, *]; done) | (simp [lvW]; omega)
      · rfl
      · refine sUp_arrS z1 fun k => ?_
        rw [if_neg (by omega)]
    ·
      refine e_bipush (v := (-5)) (p' := 23) D_M_restore_21 cst_bipush_m5 rfl ?_
      refine e_ireturn (ty := .int) D_M_restore_23 rfl (by first | rfl | exact sBo_nar _) ⟨by decide, by decide⟩ ?_
      have hz0 : st.2.2.1 s = none := by
        cases e : st.2.2.1 s with
        | none => rfl
        | some z => rw [e] at hc18; exact absurd hc18 (by simp)
      unfold Srestore; rw [if_pos es, natOf_nI (by omega), hz0]; exact ⟨rfl, hI0, FrK.rf⟩
  ·
    exact absurd (slot_nI hs) (in_F hc6)
theorem c_M_restore {l : Launch} {h : sH} {st : St} (hI : MInv h st) (hS : StOk st) {i : Int32} : sY l m_M_restore 1 [.ref 61, .int i] h (some (.int (Srestore st i).1)) (MR h (Srestore st i).2) := by
  by_cases e : i = nI 0 ∨ i = nI 1
  · obtain ⟨k, hk, rfl⟩ := slot_k e
    exact c_M_restoreK hI hS hk
  · exact c_M_restoreN hI hS e
set_option maxRecDepth 4000 in
theorem c_M_wipe {l : Launch} {h : sH} {st : St} (hI : MInv h st) (hS : StOk st) : sY l m_M_wipe 0 [.ref 61] h (some (.int (Swipe st).1)) (MR h (Swipe st).2) := by
  have hI0 := hI
  obtain ⟨hz, H⟩ := hI
  have H0 := H
  have hx := hS.1
  have hM := hx.2.2.1.le
  have hRr := hx.1
  have hCc := hx.2.1
  have hh6 := hS.2.1.1
  obtain ⟨⟨v, a1⟩, ⟨f, a2, b2⟩, ⟨f3, a3, b3⟩, ⟨f4, a4, b4⟩, ⟨f5, a5, b5⟩, ⟨f6, f7, f8, f9, a6, a7, a8, a9⟩, ⟨f10, a10⟩, ⟨f11, a11⟩, ⟨f12, a12⟩⟩ := H
  refine en_M_wipe ?_
  refine e_aload_0 (p' := 1) D_M_wipe_0 rfl ?_
  refine e_getfield (p' := 4) D_M_wipe_1 F_M_137 (by first | assumption | exact sUp_eq | (rw [sUp_ne (by omega)]; assumption) | (rw [sUp_ne (by omega), sUp_ne (by omega)]; assumption) | (rw [sUp_ne (by omega)]; exact sUp_eq) | (rw [gSet_ne (by omega) (by omega)]; first | assumption | exact sUp_eq | (rw [sUp_ne (by omega)]; assumption) | (rw [sUp_ne (by omega), sUp_ne (by omega)]; assumption)) | (simp [sUp]; done)) (by rfl) rfl ?_
  refine e_istore_1 (p' := 5) D_M_wipe_4 (Nat.le_of_ble_eq_true rfl) rfl rfl ?_
  refine e_aload_0 (p' := 6) D_M_wipe_5 rfl ?_
  refine e_iconst (v := nI 0) (p' := 7) D_M_wipe_6 cst_iconst_0 rfl ?_
  refine e_putfield (p' := 10) D_M_wipe_7 F_M_137 (Or.inl rfl) (by first | assumption | exact sUp_eq | (rw [sUp_ne (by omega)]; assumption) | (rw [sUp_ne (by omega), sUp_ne (by omega)]; assumption) | (rw [sUp_ne (by omega)]; exact sUp_eq) | (rw [gSet_ne (by omega) (by omega)]; first | assumption | exact sUp_eq | (rw [sUp_ne (by omega)]; assumption) | (rw [sUp_ne (by omega), sUp_ne (by omega)]; assumption)) | (simp [sUp]; done)) (fun _ => ⟨rfl, rfl⟩) (Nat.le_of_ble_eq_true rfl) (by rfl) rfl ?_
  try dsimp only [List.set]
  refine e_iload_1 (p' := 11) D_M_wipe_10 rfl ?_
  refine e_ireturn (ty := .int) D_M_wipe_11 rfl (by first | rfl | exact sBo_nar _) ⟨by decide, by decide⟩ ?_
  refine ⟨rfl, ⟨(sUp_ne (by omega)).trans hz, ⟨v, sUp_eq⟩, ⟨f, (sUp_ne (by omega)).trans a2, b2⟩, ⟨f3, (sUp_ne (by omega)).trans a3, b3⟩, ⟨f4, (sUp_ne (by omega)).trans a4, b4⟩, ⟨f5, (sUp_ne (by omega)).trans a5, fun i hi => absurd hi (Nat.not_lt_zero _)⟩, ⟨f6, f7, f8, f9, (sUp_ne (by omega)).trans a6, (sUp_ne (by omega)).trans a7, (sUp_ne (by omega)).trans a8, (sUp_ne (by omega)).trans a9⟩, ⟨f10, (sUp_ne (by omega)).trans a10⟩, ⟨f11, (sUp_ne (by omega)).trans a11⟩, ⟨f12, (sUp_ne (by omega)).trans a12⟩⟩, fun a ha => sUp_ne (by omega)⟩
set_option maxRecDepth 4000 in
theorem c_M_beginN {l : Launch} {h : sH} {st : St} (hI : MInv h st) (hS : StOk st) {a b m : Int32} (hn : ¬ (isOut a (nI 2) (nI 6) = false ∧ isOut b (nI 2) (nI 6) = false ∧ isM m = true)) : sY l m_M_begin 1 [.ref 61, .int a, .int b, .int m] h (some (.int (Sbegin st a b m).1)) (MR h (Sbegin st a b m).2) := by
  have hI0 := hI
  obtain ⟨hz, H⟩ := hI
  have H0 := H
  have hx := hS.1
  have hM := hx.2.2.1.le
  have hRr := hx.1
  have hCc := hx.2.1
  have hh6 := hS.2.1.1
  obtain ⟨⟨v, a1⟩, ⟨f, a2, b2⟩, ⟨f3, a3, b3⟩, ⟨f4, a4, b4⟩, ⟨f5, a5, b5⟩, ⟨f6, f7, f8, f9, a6, a7, a8, a9⟩, ⟨f10, a10⟩, ⟨f11, a11⟩, ⟨f12, a12⟩⟩ := H
  refine en_M_begin ?_
  have jn30 : sEv l m_M_begin 1 (0, 0, 0, 0) (sKm 0 0 (fun r1 h1 => r1 = some (.int (Sbegin st a b m).1) ∧ (MR h (Sbegin st a b m).2) h1)) 30 [some (.ref 61), some (.int a), some (.int b), some (.int m), some (.int (sBo (isM m))), none, none] [] h := by
    refine e_iload_4 (p' := 32) D_M_begin_30 rfl ?_
    refine e_ifB_eq (q := 55) (p' := 35) D_M_begin_32 rfl rfl (fun hc32 => ?_) (fun hc32 => ?_)
    ·
      refine e_bipush (v := (-2)) (p' := 57) D_M_begin_55 cst_bipush_m2 rfl ?_
      refine e_ireturn (ty := .int) D_M_begin_57 rfl (by first | rfl | exact sBo_nar _) ⟨by decide, by decide⟩ ?_
      rw [Sbegin_no hn]; exact ⟨rfl, hI0, FrK.rf⟩
    ·
      refine e_iload_1 (p' := 36) D_M_begin_35 rfl ?_
      refine e_iconst (v := nI 2) (p' := 37) D_M_begin_36 cst_iconst_2 rfl ?_
      refine e_bipush (v := nI 6) (p' := 39) D_M_begin_37 cst_bipush_6 rfl ?_
      refine x_callS1 (p' := 42) D_M_begin_39 S_M_52 (c_M_in) rfl rfl (Nat.le_of_ble_eq_true rfl) (by decide) ⟨by decide, by decide⟩ rfl ?_
      refine e_ifB_eq (q := 55) (p' := 45) D_M_begin_42 rfl rfl (fun hc42 => ?_) (fun hc42 => ?_)
      ·
        refine e_bipush (v := (-2)) (p' := 57) D_M_begin_55 cst_bipush_m2 rfl ?_
        refine e_ireturn (ty := .int) D_M_begin_57 rfl (by first | rfl | exact sBo_nar _) ⟨by decide, by decide⟩ ?_
        rw [Sbegin_no hn]; exact ⟨rfl, hI0, FrK.rf⟩
      ·
        refine e_iload_2 (p' := 46) D_M_begin_45 rfl ?_
        refine e_iconst (v := nI 2) (p' := 47) D_M_begin_46 cst_iconst_2 rfl ?_
        refine e_bipush (v := nI 6) (p' := 49) D_M_begin_47 cst_bipush_6 rfl ?_
        refine x_callS1 (p' := 52) D_M_begin_49 S_M_52 (c_M_in) rfl rfl (Nat.le_of_ble_eq_true rfl) (by decide) ⟨by decide, by decide⟩ rfl ?_
        refine e_ifB_ne (q := 58) (p' := 55) D_M_begin_52 rfl rfl (fun hc52 => ?_) (fun hc52 => ?_)
        ·
          exact absurd ⟨by simpa using hc42, by simpa using hc52, hc32⟩ hn
        ·
          refine e_bipush (v := (-2)) (p' := 57) D_M_begin_55 cst_bipush_m2 rfl ?_
          refine e_ireturn (ty := .int) D_M_begin_57 rfl (by first | rfl | exact sBo_nar _) ⟨by decide, by decide⟩ ?_
          rw [Sbegin_no hn]; exact ⟨rfl, hI0, FrK.rf⟩
  refine e_iload_3 (p' := 1) D_M_begin_0 rfl ?_
  refine e_iconst (v := nI 5) (p' := 2) D_M_begin_1 cst_iconst_5 rfl ?_
  refine e_icmp_eq (q := 23) (p' := 5) D_M_begin_2 rfl rfl (fun hc2 => ?_) (fun hc2 => ?_)
  ·
    refine e_iconst (v := nI 1) (p' := 24) D_M_begin_23 cst_iconst_1 rfl ?_
    refine e_goto (p' := 28) D_M_begin_24 rfl ?_
    refine e_istore_4 (p' := 30) D_M_begin_28 (Nat.le_of_ble_eq_true rfl) rfl rfl ?_
    refine sEv.castW (jn30 ) ?_ ?_ ?_
    · refine ⟨rfl, rfl, rfl, rfl, ?_, trivial⟩
      unfold isM
      rw [decide_eq_true hc2]
      rfl
    · rfl
    · first | rfl | (simp; done)
  ·
    refine e_iload_3 (p' := 6) D_M_begin_5 rfl ?_
    refine e_bipush (v := nI 7) (p' := 8) D_M_begin_6 cst_bipush_7 rfl ?_
    refine e_icmp_eq (q := 23) (p' := 11) D_M_begin_8 rfl rfl (fun hc8 => ?_) (fun hc8 => ?_)
    ·
      refine e_iconst (v := nI 1) (p' := 24) D_M_begin_23 cst_iconst_1 rfl ?_
      refine e_goto (p' := 28) D_M_begin_24 rfl ?_
      refine e_istore_4 (p' := 30) D_M_begin_28 (Nat.le_of_ble_eq_true rfl) rfl rfl ?_
      refine sEv.castW (jn30 ) ?_ ?_ ?_
      · refine ⟨rfl, rfl, rfl, rfl, ?_, trivial⟩
        unfold isM
        rw [decide_eq_false hc2, decide_eq_true hc8]
        rfl
      · rfl
      · first | rfl | (simp; done)
    ·
      refine e_iload_3 (p' := 12) D_M_begin_11 rfl ?_
      refine e_bipush (v := nI 11) (p' := 14) D_M_begin_12 cst_bipush_11 rfl ?_
      refine e_icmp_eq (q := 23) (p' := 17) D_M_begin_14 rfl rfl (fun hc14 => ?_) (fun hc14 => ?_)
      ·
        refine e_iconst (v := nI 1) (p' := 24) D_M_begin_23 cst_iconst_1 rfl ?_
        refine e_goto (p' := 28) D_M_begin_24 rfl ?_
        refine e_istore_4 (p' := 30) D_M_begin_28 (Nat.le_of_ble_eq_true rfl) rfl rfl ?_
        refine sEv.castW (jn30 ) ?_ ?_ ?_
        · refine ⟨rfl, rfl, rfl, rfl, ?_, trivial⟩
          unfold isM
          rw [decide_eq_false hc2, decide_eq_false hc8, decide_eq_true hc14]
          rfl
        · rfl
        · first | rfl | (simp; done)
      ·
        refine e_iload_3 (p' := 18) D_M_begin_17 rfl ?_
        refine e_bipush (v := nI 13) (p' := 20) D_M_begin_18 cst_bipush_13 rfl ?_
        refine e_icmp_ne (q := 27) (p' := 23) D_M_begin_20 rfl rfl (fun hc20 => ?_) (fun hc20 => ?_)
        ·
          refine e_iconst (v := nI 0) (p' := 28) D_M_begin_27 cst_iconst_0 rfl ?_
          refine e_istore_4 (p' := 30) D_M_begin_28 (Nat.le_of_ble_eq_true rfl) rfl rfl ?_
          refine sEv.castW (jn30 ) ?_ ?_ ?_
          · refine ⟨rfl, rfl, rfl, rfl, ?_, trivial⟩
            unfold isM
            rw [decide_eq_false hc2, decide_eq_false hc8, decide_eq_false hc14, decide_eq_false hc20]
            rfl
          · rfl
          · first | rfl | (simp; done)
        ·
          refine e_iconst (v := nI 1) (p' := 24) D_M_begin_23 cst_iconst_1 rfl ?_
          refine e_goto (p' := 28) D_M_begin_24 rfl ?_
          refine e_istore_4 (p' := 30) D_M_begin_28 (Nat.le_of_ble_eq_true rfl) rfl rfl ?_
          refine sEv.castW (jn30 ) ?_ ?_ ?_
          · refine ⟨rfl, rfl, rfl, rfl, ?_, trivial⟩
            unfold isM
            rw [decide_eq_false hc2, decide_eq_false hc8, decide_eq_false hc14, decide_eq_true hc20]
            rfl
          · rfl
          · first | rfl | (simp; done)
set_option maxRecDepth 4000 in
theorem c_M_beginK {l : Launch} {h : sH} {st : St} (hI : MInv h st) (hS : StOk st) {ka kb km : Nat} (n1 : 2 ≤ ka ∧ ka ≤ 6) (n3 : 2 ≤ kb ∧ kb ≤ 6) (m1 : Mok km) : sY l m_M_begin 1 [.ref 61, .int (nI ka), .int (nI kb), .int (nI km)] h (some (.int (Sbegin st (nI ka) (nI kb) (nI km)).1)) (MR h (Sbegin st (nI ka) (nI kb) (nI km)).2) := by
  have hI0 := hI
  obtain ⟨hz, H⟩ := hI
  have H0 := H
  have hx := hS.1
  have hM := hx.2.2.1.le
  have hRr := hx.1
  have hCc := hx.2.1
  have hh6 := hS.2.1.1
  obtain ⟨⟨v, a1⟩, ⟨f, a2, b2⟩, ⟨f3, a3, b3⟩, ⟨f4, a4, b4⟩, ⟨f5, a5, b5⟩, ⟨f6, f7, f8, f9, a6, a7, a8, a9⟩, ⟨f10, a10⟩, ⟨f11, a11⟩, ⟨f12, a12⟩⟩ := H
  have m2 := m1.le
  have q1 := isOut_R (a := 2) (b := 6) (by omega) n1
  have q2 := isOut_R (a := 2) (b := 6) (by omega) n3
  have q3 := isM_M m1
  refine en_M_begin ?_
  have jn30 : sEv l m_M_begin 1 (0, 0, 0, 0) (sKm 0 0 (fun r1 h1 => r1 = some (.int (Sbegin st (nI ka) (nI kb) (nI km)).1) ∧ (MR h (Sbegin st (nI ka) (nI kb) (nI km)).2) h1)) 30 [some (.ref 61), some (.int (nI ka)), some (.int (nI kb)), some (.int (nI km)), some (.int (sBo (isM (nI km)))), none, none] [] h := by
    refine e_iload_4 (p' := 32) D_M_begin_30 rfl ?_
    refine e_ifB_eq (q := 55) (p' := 35) D_M_begin_32 rfl rfl (fun hc32 => ?_) (fun hc32 => ?_)
    ·
      exact absurd (q3.symm.trans hc32) (by decide)
    ·
      refine e_iload_1 (p' := 36) D_M_begin_35 rfl ?_
      refine e_iconst (v := nI 2) (p' := 37) D_M_begin_36 cst_iconst_2 rfl ?_
      refine e_bipush (v := nI 6) (p' := 39) D_M_begin_37 cst_bipush_6 rfl ?_
      refine x_callS1 (p' := 42) D_M_begin_39 S_M_52 (c_M_in) rfl rfl (Nat.le_of_ble_eq_true rfl) (by decide) ⟨by decide, by decide⟩ rfl ?_
      refine e_ifB_eq (q := 55) (p' := 45) D_M_begin_42 rfl rfl (fun hc42 => ?_) (fun hc42 => ?_)
      ·
        rw [q1] at hc42; exact absurd hc42 (by decide)
      ·
        refine e_iload_2 (p' := 46) D_M_begin_45 rfl ?_
        refine e_iconst (v := nI 2) (p' := 47) D_M_begin_46 cst_iconst_2 rfl ?_
        refine e_bipush (v := nI 6) (p' := 49) D_M_begin_47 cst_bipush_6 rfl ?_
        refine x_callS1 (p' := 52) D_M_begin_49 S_M_52 (c_M_in) rfl rfl (Nat.le_of_ble_eq_true rfl) (by decide) ⟨by decide, by decide⟩ rfl ?_
        refine e_ifB_ne (q := 58) (p' := 55) D_M_begin_52 rfl rfl (fun hc52 => ?_) (fun hc52 => ?_)
        ·
          refine e_aload_0 (p' := 59) D_M_begin_58 rfl ?_
          refine y_callV0 (p' := 62) D_M_begin_59 V_M_60 (c_M_record hz H0 hS.2.1.1) rfl (by first | assumption | exact sUp_eq | (rw [sUp_ne (by omega)]; assumption) | (rw [sUp_ne (by omega), sUp_ne (by omega)]; assumption) | (rw [sUp_ne (by omega)]; exact sUp_eq) | (rw [gSet_ne (by omega) (by omega)]; first | assumption | exact sUp_eq | (rw [sUp_ne (by omega)]; assumption) | (rw [sUp_ne (by omega), sUp_ne (by omega)]; assumption)) | (simp [sUp]; done)) rfl (Nat.le_of_ble_eq_true rfl) (by decide) ⟨by decide, by decide⟩ rfl ?_
          rintro h1 ⟨⟨H1, z1⟩, F1⟩
          have H10 := H1
          obtain ⟨⟨v1, k1⟩, ⟨g1, k2, l2⟩, ⟨g3, k3, l3⟩, ⟨g4, k4, l4⟩, ⟨g5, k5, l5⟩, _⟩ := H1
          refine e_aload_0 (p' := 63) D_M_begin_62 rfl ?_
          refine x_callV1 (p' := 66) D_M_begin_63 V_M_56 (c_M_toldMany k1 z1 hx) rfl (by first | assumption | exact sUp_eq | (rw [sUp_ne (by omega)]; assumption) | (rw [sUp_ne (by omega), sUp_ne (by omega)]; assumption) | (rw [sUp_ne (by omega)]; exact sUp_eq) | (rw [gSet_ne (by omega) (by omega)]; first | assumption | exact sUp_eq | (rw [sUp_ne (by omega)]; assumption) | (rw [sUp_ne (by omega), sUp_ne (by omega)]; assumption)) | (simp [sUp]; done)) rfl (Nat.le_of_ble_eq_true rfl) (by decide) ⟨by decide, by decide⟩ rfl ?_
          refine e_istore_5 (p' := 68) D_M_begin_66 (Nat.le_of_ble_eq_true rfl) rfl rfl ?_
          refine e_iconst (v := nI 0) (p' := 69) D_M_begin_68 cst_iconst_0 rfl ?_
          refine e_istore_6 (p' := 71) D_M_begin_69 (Nat.le_of_ble_eq_true rfl) rfl rfl ?_
          have lk71 : ∀ i : Nat, i ≤ 36 → sEv l m_M_begin 1 (0, 0, 0, 0) (sKm 0 0 (fun r1 h1 => r1 = some (.int (Sbegin st (nI ka) (nI kb) (nI km)).1) ∧ (MR h (Sbegin st (nI ka) (nI kb) (nI km)).2) h1)) 71 [some (.ref 61), some (.int (nI ka)), some (.int (nI kb)), some (.int (nI km)), none, some (.int (nI (told st.1))), some (.int (nI i))] [] (sUp h1 62 (iA 39 (fun k => if k < i then nI 0 else nF (zN st.1) k))) := by
            refine lp_up _ ?_ ?_
            · skip
              refine e_iload_6 (p' := 73) D_M_begin_71 rfl ?_
              refine e_bipush (v := nI 36) (p' := 75) D_M_begin_73 cst_bipush_36 rfl ?_
              refine e_icmpN_ge (q := 92) (p' := 78) D_M_begin_75 (by omega) (by omega) rfl rfl (fun hc75 => ?_) (fun hc75 => ?_)
              ·
                refine e_aload_0 (p' := 93) D_M_begin_92 rfl ?_
                refine e_getfield (p' := 96) D_M_begin_93 F_M_7 (by first | assumption | exact sUp_eq | (rw [sUp_ne (by omega)]; assumption) | (rw [sUp_ne (by omega), sUp_ne (by omega)]; assumption) | (rw [sUp_ne (by omega)]; exact sUp_eq) | (rw [gSet_ne (by omega) (by omega)]; first | assumption | exact sUp_eq | (rw [sUp_ne (by omega)]; assumption) | (rw [sUp_ne (by omega), sUp_ne (by omega)]; assumption)) | (simp [sUp]; done)) (by rfl) rfl ?_
                refine e_bipush (v := nI 36) (p' := 98) D_M_begin_96 cst_bipush_36 rfl ?_
                refine e_iload_1 (p' := 99) D_M_begin_98 rfl ?_
                refine e_iastore (p' := 100) D_M_begin_99 (by first | assumption | exact sUp_eq | (rw [sUp_ne (by omega)]; assumption) | (rw [sUp_ne (by omega), sUp_ne (by omega)]; assumption) | (rw [sUp_ne (by omega)]; exact sUp_eq) | (rw [gSet_ne (by omega) (by omega)]; first | assumption | exact sUp_eq | (rw [sUp_ne (by omega)]; assumption) | (rw [sUp_ne (by omega), sUp_ne (by omega)]; assumption)) | (simp [sUp]; done)) (by omega) (by omega) rfl ?_
                refine e_aload_0 (p' := 101) D_M_begin_100 rfl ?_
                refine e_getfield (p' := 104) D_M_begin_101 F_M_7 (by first | assumption | exact sUp_eq | (rw [sUp_ne (by omega)]; assumption) | (rw [sUp_ne (by omega), sUp_ne (by omega)]; assumption) | (rw [sUp_ne (by omega)]; exact sUp_eq) | (rw [gSet_ne (by omega) (by omega)]; first | assumption | exact sUp_eq | (rw [sUp_ne (by omega)]; assumption) | (rw [sUp_ne (by omega), sUp_ne (by omega)]; assumption)) | (simp [sUp]; done)) (by rfl) rfl ?_
                refine e_bipush (v := nI 37) (p' := 106) D_M_begin_104 cst_bipush_37 rfl ?_
                refine e_iload_2 (p' := 107) D_M_begin_106 rfl ?_
                refine e_iastore (p' := 108) D_M_begin_107 (by first | assumption | exact sUp_eq | (rw [sUp_ne (by omega)]; assumption) | (rw [sUp_ne (by omega), sUp_ne (by omega)]; assumption) | (rw [sUp_ne (by omega)]; exact sUp_eq) | (rw [gSet_ne (by omega) (by omega)]; first | assumption | exact sUp_eq | (rw [sUp_ne (by omega)]; assumption) | (rw [sUp_ne (by omega), sUp_ne (by omega)]; assumption)) | (simp [sUp]; done)) (by omega) (by omega) rfl ?_
                refine e_aload_0 (p' := 109) D_M_begin_108 rfl ?_
                refine e_getfield (p' := 112) D_M_begin_109 F_M_7 (by first | assumption | exact sUp_eq | (rw [sUp_ne (by omega)]; assumption) | (rw [sUp_ne (by omega), sUp_ne (by omega)]; assumption) | (rw [sUp_ne (by omega)]; exact sUp_eq) | (rw [gSet_ne (by omega) (by omega)]; first | assumption | exact sUp_eq | (rw [sUp_ne (by omega)]; assumption) | (rw [sUp_ne (by omega), sUp_ne (by omega)]; assumption)) | (simp [sUp]; done)) (by rfl) rfl ?_
                refine e_bipush (v := nI 38) (p' := 114) D_M_begin_112 cst_bipush_38 rfl ?_
                refine e_iload_3 (p' := 115) D_M_begin_114 rfl ?_
                refine e_iastore (p' := 116) D_M_begin_115 (by first | assumption | exact sUp_eq | (rw [sUp_ne (by omega)]; assumption) | (rw [sUp_ne (by omega), sUp_ne (by omega)]; assumption) | (rw [sUp_ne (by omega)]; exact sUp_eq) | (rw [gSet_ne (by omega) (by omega)]; first | assumption | exact sUp_eq | (rw [sUp_ne (by omega)]; assumption) | (rw [sUp_ne (by omega), sUp_ne (by omega)]; assumption)) | (simp [sUp]; done)) (by omega) (by omega) rfl ?_
                refine e_iload_5 (p' := 118) D_M_begin_116 rfl ?_
                refine e_ireturn (ty := .int) D_M_begin_118 rfl (by first | rfl | exact sBo_nar _) ⟨by decide, by decide⟩ ?_
                unfold Sbegin
                rw [if_pos ⟨q1, q2, q3⟩, natOf_nI (by omega), natOf_nI (by omega), natOf_nI (by omega)]
                refine ⟨rfl, ⟨?_, ?_⟩, ?_⟩
                · rw [sUp_eq, zN_clr]
                · exact H10.z.z.z.z
                · exact (((F1.up (by omega)).up (by omega)).up (by omega)).up (by omega)
              ·
                exfalso; omega
            · intro i hi ih71 
              refine e_iload_6 (p' := 73) D_M_begin_71 rfl ?_
              refine e_bipush (v := nI 36) (p' := 75) D_M_begin_73 cst_bipush_36 rfl ?_
              refine e_icmpN_ge (q := 92) (p' := 78) D_M_begin_75 (by omega) (by omega) rfl rfl (fun hc75 => ?_) (fun hc75 => ?_)
              ·
                exfalso; omega
              ·
                refine e_aload_0 (p' := 79) D_M_begin_78 rfl ?_
                refine e_getfield (p' := 82) D_M_begin_79 F_M_7 (by first | assumption | exact sUp_eq | (rw [sUp_ne (by omega)]; assumption) | (rw [sUp_ne (by omega), sUp_ne (by omega)]; assumption) | (rw [sUp_ne (by omega)]; exact sUp_eq) | (rw [gSet_ne (by omega) (by omega)]; first | assumption | exact sUp_eq | (rw [sUp_ne (by omega)]; assumption) | (rw [sUp_ne (by omega), sUp_ne (by omega)]; assumption)) | (simp [sUp]; done)) (by rfl) rfl ?_
                refine e_iload_6 (p' := 84) D_M_begin_82 rfl ?_
                refine e_iconst (v := nI 0) (p' := 85) D_M_begin_84 cst_iconst_0 rfl ?_
                refine e_iastore (p' := 86) D_M_begin_85 (by first | assumption | exact sUp_eq | (rw [sUp_ne (by omega)]; assumption) | (rw [sUp_ne (by omega), sUp_ne (by omega)]; assumption) | (rw [sUp_ne (by omega)]; exact sUp_eq) | (rw [gSet_ne (by omega) (by omega)]; first | assumption | exact sUp_eq | (rw [sUp_ne (by omega)]; assumption) | (rw [sUp_ne (by omega), sUp_ne (by omega)]; assumption)) | (simp [sUp]; done)) (by omega) (by omega) rfl ?_
                first | refine e_iincN_6 (n := 1) (p' := 89) D_M_begin_86 (Nat.le_of_ble_eq_true rfl) rfl rfl ?_ | refine e_iinc_6 (p' := 89) D_M_begin_86 (Nat.le_of_ble_eq_true rfl) rfl rfl rfl ?_
                refine e_goto (p' := 71) D_M_begin_89 rfl ?_
                refine sEv.castW (ih71) ?_ ?_ ?_
                · first | exact lvW_rfl _ | (simp [lvW]; done) | (simp [lvW, *]; done) | (simp [lvW]; omega)
                · rfl
                · rw [sUp_sUp]
                  refine sUp_arr fun j => ?_
                  unfold upd
                  dsimp only
                  by_cases e : j = i
                  · subst e
                    rw [if_pos rfl, if_pos (by omega)]
                  · rw [if_neg e]
                    by_cases w : j < i
                    · rw [if_pos w, if_pos (by omega)]
                    · rw [if_neg w, if_neg (by omega)]
          refine sEv.castW (lk71 0 (by omega) ) ?_ ?_ ?_
          · exact ⟨rfl, rfl, rfl, rfl, rfl, rfl, trivial⟩
          · rfl
          · refine sUp_arrS z1 fun k => ?_
            rw [if_neg (by omega)]
        ·
          rw [q2] at hc52; exact absurd hc52 (by decide)
  refine e_iload_3 (p' := 1) D_M_begin_0 rfl ?_
  refine e_iconst (v := nI 5) (p' := 2) D_M_begin_1 cst_iconst_5 rfl ?_
  refine e_icmp_eq (q := 23) (p' := 5) D_M_begin_2 rfl rfl (fun hc2 => ?_) (fun hc2 => ?_)
  ·
    refine e_iconst (v := nI 1) (p' := 24) D_M_begin_23 cst_iconst_1 rfl ?_
    refine e_goto (p' := 28) D_M_begin_24 rfl ?_
    refine e_istore_4 (p' := 30) D_M_begin_28 (Nat.le_of_ble_eq_true rfl) rfl rfl ?_
    refine sEv.castW (jn30 ) ?_ ?_ ?_
    · refine ⟨rfl, rfl, rfl, rfl, ?_, trivial⟩
      unfold isM
      rw [decide_eq_true hc2]
      rfl
    · rfl
    · first | rfl | (simp; done)
  ·
    refine e_iload_3 (p' := 6) D_M_begin_5 rfl ?_
    refine e_bipush (v := nI 7) (p' := 8) D_M_begin_6 cst_bipush_7 rfl ?_
    refine e_icmp_eq (q := 23) (p' := 11) D_M_begin_8 rfl rfl (fun hc8 => ?_) (fun hc8 => ?_)
    ·
      refine e_iconst (v := nI 1) (p' := 24) D_M_begin_23 cst_iconst_1 rfl ?_
      refine e_goto (p' := 28) D_M_begin_24 rfl ?_
      refine e_istore_4 (p' := 30) D_M_begin_28 (Nat.le_of_ble_eq_true rfl) rfl rfl ?_
      refine sEv.castW (jn30 ) ?_ ?_ ?_
      · refine ⟨rfl, rfl, rfl, rfl, ?_, trivial⟩
        unfold isM
        rw [decide_eq_false hc2, decide_eq_true hc8]
        rfl
      · rfl
      · first | rfl | (simp; done)
    ·
      refine e_iload_3 (p' := 12) D_M_begin_11 rfl ?_
      refine e_bipush (v := nI 11) (p' := 14) D_M_begin_12 cst_bipush_11 rfl ?_
      refine e_icmp_eq (q := 23) (p' := 17) D_M_begin_14 rfl rfl (fun hc14 => ?_) (fun hc14 => ?_)
      ·
        refine e_iconst (v := nI 1) (p' := 24) D_M_begin_23 cst_iconst_1 rfl ?_
        refine e_goto (p' := 28) D_M_begin_24 rfl ?_
        refine e_istore_4 (p' := 30) D_M_begin_28 (Nat.le_of_ble_eq_true rfl) rfl rfl ?_
        refine sEv.castW (jn30 ) ?_ ?_ ?_
        · refine ⟨rfl, rfl, rfl, rfl, ?_, trivial⟩
          unfold isM
          rw [decide_eq_false hc2, decide_eq_false hc8, decide_eq_true hc14]
          rfl
        · rfl
        · first | rfl | (simp; done)
      ·
        refine e_iload_3 (p' := 18) D_M_begin_17 rfl ?_
        refine e_bipush (v := nI 13) (p' := 20) D_M_begin_18 cst_bipush_13 rfl ?_
        refine e_icmp_ne (q := 27) (p' := 23) D_M_begin_20 rfl rfl (fun hc20 => ?_) (fun hc20 => ?_)
        ·
          refine e_iconst (v := nI 0) (p' := 28) D_M_begin_27 cst_iconst_0 rfl ?_
          refine e_istore_4 (p' := 30) D_M_begin_28 (Nat.le_of_ble_eq_true rfl) rfl rfl ?_
          refine sEv.castW (jn30 ) ?_ ?_ ?_
          · refine ⟨rfl, rfl, rfl, rfl, ?_, trivial⟩
            unfold isM
            rw [decide_eq_false hc2, decide_eq_false hc8, decide_eq_false hc14, decide_eq_false hc20]
            rfl
          · rfl
          · first | rfl | (simp; done)
        ·
          refine e_iconst (v := nI 1) (p' := 24) D_M_begin_23 cst_iconst_1 rfl ?_
          refine e_goto (p' := 28) D_M_begin_24 rfl ?_
          refine e_istore_4 (p' := 30) D_M_begin_28 (Nat.le_of_ble_eq_true rfl) rfl rfl ?_
          refine sEv.castW (jn30 ) ?_ ?_ ?_
          · refine ⟨rfl, rfl, rfl, rfl, ?_, trivial⟩
            unfold isM
            rw [decide_eq_false hc2, decide_eq_false hc8, decide_eq_false hc14, decide_eq_true hc20]
            rfl
          · rfl
          · first | rfl | (simp; done)
theorem c_M_begin {l : Launch} {h : sH} {st : St} (hI : MInv h st) (hS : StOk st) {a b m : Int32} : sY l m_M_begin 1 [.ref 61, .int a, .int b, .int m] h (some (.int (Sbegin st a b m).1)) (MR h (Sbegin st a b m).2) := by
  by_cases e : isOut a (nI 2) (nI 6) = false ∧ isOut b (nI 2) (nI 6) = false ∧ isM m = true
  · obtain ⟨ka, n1, n2, rfl⟩ := in_R (a := 2) (b := 6) (by omega) (by omega) e.1
    obtain ⟨kb, n3, n4, rfl⟩ := in_R (a := 2) (b := 6) (by omega) (by omega) e.2.1
    obtain ⟨km, m1, rfl⟩ := isM_ok e.2.2
    exact c_M_beginK hI hS ⟨n1, n2⟩ ⟨n3, n4⟩ m1
  · exact c_M_beginN hI hS e
set_option maxRecDepth 4000 in
theorem c_M_tell {l : Launch} {h : sH} {st : St} (hI : MInv h st) (hS : StOk st) {r c n : Int32} : sY l m_M_tell 1 [.ref 61, .int r, .int c, .int n] h (some (.int (Stell st r c n).1)) (MR h (Stell st r c n).2) := by
  have hI0 := hI
  obtain ⟨hz, H⟩ := hI
  have H0 := H
  have hx := hS.1
  have hM := hx.2.2.1.le
  have hRr := hx.1
  have hCc := hx.2.1
  have hh6 := hS.2.1.1
  obtain ⟨⟨v, a1⟩, ⟨f, a2, b2⟩, ⟨f3, a3, b3⟩, ⟨f4, a4, b4⟩, ⟨f5, a5, b5⟩, ⟨f6, f7, f8, f9, a6, a7, a8, a9⟩, ⟨f10, a10⟩, ⟨f11, a11⟩, ⟨f12, a12⟩⟩ := H
  refine en_M_tell ?_
  refine e_aload_0 (p' := 1) D_M_tell_0 rfl ?_
  refine e_iload_1 (p' := 2) D_M_tell_1 rfl ?_
  refine e_iload_2 (p' := 3) D_M_tell_2 rfl ?_
  refine x_callV1 (p' := 6) D_M_tell_3 V_M_88 (c_M_isEntry a1 hz hx) rfl (by first | assumption | exact sUp_eq | (rw [sUp_ne (by omega)]; assumption) | (rw [sUp_ne (by omega), sUp_ne (by omega)]; assumption) | (rw [sUp_ne (by omega)]; exact sUp_eq) | (rw [gSet_ne (by omega) (by omega)]; first | assumption | exact sUp_eq | (rw [sUp_ne (by omega)]; assumption) | (rw [sUp_ne (by omega), sUp_ne (by omega)]; assumption)) | (simp [sUp]; done)) rfl (Nat.le_of_ble_eq_true rfl) (by decide) ⟨by decide, by decide⟩ rfl ?_
  refine e_ifB_ne (q := 11) (p' := 9) D_M_tell_6 rfl rfl (fun hc6 => ?_) (fun hc6 => ?_)
  ·
    refine e_iload_3 (p' := 12) D_M_tell_11 rfl ?_
    refine e_iconst (v := nI 0) (p' := 13) D_M_tell_12 cst_iconst_0 rfl ?_
    refine e_aload_0 (p' := 14) D_M_tell_13 rfl ?_
    refine e_getfield (p' := 17) D_M_tell_14 F_M_7 (by first | assumption | exact sUp_eq | (rw [sUp_ne (by omega)]; assumption) | (rw [sUp_ne (by omega), sUp_ne (by omega)]; assumption) | (rw [sUp_ne (by omega)]; exact sUp_eq) | (rw [gSet_ne (by omega) (by omega)]; first | assumption | exact sUp_eq | (rw [sUp_ne (by omega)]; assumption) | (rw [sUp_ne (by omega), sUp_ne (by omega)]; assumption)) | (simp [sUp]; done)) (by rfl) rfl ?_
    refine e_bipush (v := nI 38) (p' := 19) D_M_tell_17 cst_bipush_38 rfl ?_
    refine e_iaload (p' := 20) D_M_tell_19 (by first | assumption | exact sUp_eq | (rw [sUp_ne (by omega)]; assumption) | (rw [sUp_ne (by omega), sUp_ne (by omega)]; assumption) | (rw [sUp_ne (by omega)]; exact sUp_eq) | (rw [gSet_ne (by omega) (by omega)]; first | assumption | exact sUp_eq | (rw [sUp_ne (by omega)]; assumption) | (rw [sUp_ne (by omega), sUp_ne (by omega)]; assumption)) | (simp [sUp]; done)) (by omega) (by omega) (by rfl) rfl ?_
    rw [z38]
    refine e_iconst (v := nI 1) (p' := 21) D_M_tell_20 cst_iconst_1 rfl ?_
    first | refine e_isubN (p' := 22) D_M_tell_21 (by omega) rfl ?_ | refine e_isub (p' := 22) D_M_tell_21 rfl ?_
    refine x_callS1 (p' := 25) D_M_tell_22 S_M_52 (c_M_in) rfl rfl (Nat.le_of_ble_eq_true rfl) (by decide) ⟨by decide, by decide⟩ rfl ?_
    refine e_ifB_ne (q := 31) (p' := 28) D_M_tell_25 rfl rfl (fun hc25 => ?_) (fun hc25 => ?_)
    ·
      have e0 : eT st.1 r c n = 0 := by
        unfold eT
        rw [if_neg (by rw [hc6]; decide), if_neg (by simpa using hc25)]
        rfl
      have e1 := e0
      obtain ⟨kr, kc, kv, kr1, kc1, kv1, rfl, rfl, rfl⟩ := eT_0 hx e0
      refine e_aload_0 (p' := 32) D_M_tell_31 rfl ?_
      refine y_callV0 (p' := 35) D_M_tell_32 V_M_60 (c_M_record hz H0 hS.2.1.1) rfl (by first | assumption | exact sUp_eq | (rw [sUp_ne (by omega)]; assumption) | (rw [sUp_ne (by omega), sUp_ne (by omega)]; assumption) | (rw [sUp_ne (by omega)]; exact sUp_eq) | (rw [gSet_ne (by omega) (by omega)]; first | assumption | exact sUp_eq | (rw [sUp_ne (by omega)]; assumption) | (rw [sUp_ne (by omega), sUp_ne (by omega)]; assumption)) | (simp [sUp]; done)) rfl (Nat.le_of_ble_eq_true rfl) (by decide) ⟨by decide, by decide⟩ rfl ?_
      rintro h1 ⟨⟨H1, z1⟩, F1⟩
      have H10 := H1
      obtain ⟨⟨v1, k1⟩, ⟨g1, k2, l2⟩, ⟨g3, k3, l3⟩, ⟨g4, k4, l4⟩, ⟨g5, k5, l5⟩, _⟩ := H1
      refine e_aload_0 (p' := 36) D_M_tell_35 rfl ?_
      refine e_iload_1 (p' := 37) D_M_tell_36 rfl ?_
      refine e_iload_2 (p' := 38) D_M_tell_37 rfl ?_
      refine x_callV1 (p' := 41) D_M_tell_38 V_M_67 (c_M_at k1 z1 hx (by omega) (by omega)) rfl (by first | assumption | exact sUp_eq | (rw [sUp_ne (by omega)]; assumption) | (rw [sUp_ne (by omega), sUp_ne (by omega)]; assumption) | (rw [sUp_ne (by omega)]; exact sUp_eq) | (rw [gSet_ne (by omega) (by omega)]; first | assumption | exact sUp_eq | (rw [sUp_ne (by omega)]; assumption) | (rw [sUp_ne (by omega), sUp_ne (by omega)]; assumption)) | (simp [sUp]; done)) rfl (Nat.le_of_ble_eq_true rfl) (by decide) ⟨by decide, by decide⟩ rfl ?_
      refine e_istore_4 (p' := 43) D_M_tell_41 (Nat.le_of_ble_eq_true rfl) rfl rfl ?_
      refine e_aload_0 (p' := 44) D_M_tell_43 rfl ?_
      refine e_getfield (p' := 47) D_M_tell_44 F_M_7 (by first | assumption | exact sUp_eq | (rw [sUp_ne (by omega)]; assumption) | (rw [sUp_ne (by omega), sUp_ne (by omega)]; assumption) | (rw [sUp_ne (by omega)]; exact sUp_eq) | (rw [gSet_ne (by omega) (by omega)]; first | assumption | exact sUp_eq | (rw [sUp_ne (by omega)]; assumption) | (rw [sUp_ne (by omega), sUp_ne (by omega)]; assumption)) | (simp [sUp]; done)) (by rfl) rfl ?_
      refine e_bipush (v := nI 6) (p' := 49) D_M_tell_47 cst_bipush_6 rfl ?_
      refine e_iload_1 (p' := 50) D_M_tell_49 rfl ?_
      first | refine e_imulN (p' := 51) D_M_tell_50 rfl ?_ | refine e_imul (p' := 51) D_M_tell_50 rfl ?_
      refine e_iload_2 (p' := 52) D_M_tell_51 rfl ?_
      first | refine e_iaddN (p' := 53) D_M_tell_52 rfl ?_ | refine e_iadd (p' := 53) D_M_tell_52 rfl ?_
      refine e_iload_3 (p' := 54) D_M_tell_53 rfl ?_
      refine e_iastore (p' := 55) D_M_tell_54 (by first | assumption | exact sUp_eq | (rw [sUp_ne (by omega)]; assumption) | (rw [sUp_ne (by omega), sUp_ne (by omega)]; assumption) | (rw [sUp_ne (by omega)]; exact sUp_eq) | (rw [gSet_ne (by omega) (by omega)]; first | assumption | exact sUp_eq | (rw [sUp_ne (by omega)]; assumption) | (rw [sUp_ne (by omega), sUp_ne (by omega)]; assumption)) | (simp [sUp]; done)) (by omega) (by omega) rfl ?_
      refine e_iload_4 (p' := 57) D_M_tell_55 rfl ?_
      refine e_ireturn (ty := .int) D_M_tell_57 rfl (by first | rfl | exact sBo_nar _) ⟨by decide, by decide⟩ ?_
      unfold Stell
      rw [if_pos e1, natOf_nI (by omega), natOf_nI (by omega), natOf_nI (by omega)]
      refine ⟨rfl, ⟨?_, H10.z⟩, F1.up (by omega)⟩
      rw [sUp_eq, zN_up (by omega)]
    ·
      refine e_bipush (v := (-2)) (p' := 30) D_M_tell_28 cst_bipush_m2 rfl ?_
      refine e_ireturn (ty := .int) D_M_tell_30 rfl (by first | rfl | exact sBo_nar _) ⟨by decide, by decide⟩ ?_
      have e2 : eT st.1 r c n = -2 := by
        unfold eT
        rw [if_neg (by rw [hc6]; decide), if_pos (by simpa using hc25)]
      unfold Stell; rw [e2, if_neg (by decide)]; exact ⟨rfl, hI0, FrK.rf⟩
  ·
    refine e_iconst (v := (-1)) (p' := 10) D_M_tell_9 cst_iconst_m1 rfl ?_
    refine e_ireturn (ty := .int) D_M_tell_10 rfl (by first | rfl | exact sBo_nar _) ⟨by decide, by decide⟩ ?_
    unfold Stell eT; rw [if_neg (by rw [if_pos hc6]; decide), if_pos hc6]; exact ⟨rfl, hI0, FrK.rf⟩
