/-! ===== the law: tries ===== -/
def bsI (x : Gd) (n : Nat) : Int32 := if (bst x n).2 = 0 then -1 else nI (bst x n).1
theorem bst_0 {x : Gd} : bst x 0 = (0, 0) := rfl
theorem gn_72 {s : Ps} {r c : Nat} : gn s r c ≤ 72 := gn_le
theorem jnE_36 {x : Gd} (hx : Gok x) : jnE x ≤ 36 := by
  rw [← inF_sum hx]
  have h1 := hx.1
  have h2 := hx.2.1
  have a : ∀ r, sm x.1.2.1 (fun c => inF x r c) ≤ 6 := fun r => by
    have := sm_le (n := x.1.2.1) (b := 1) (f := fun c => inF x r c) (fun c _ => by unfold inF; split <;> omega)
    omega
  have b := sm_le (n := x.1.1) (b := 6) (f := fun r => sm x.1.2.1 (fun c => inF x r c)) (fun r _ => a r)
  omega
theorem spl_at {x : Gd} {r c : Nat} (h : at' x r c ≠ 0) : spl x (6 * r + c) = wellX (upd1 x r c 0) := by
  have e : decide (0 < x.2 (6 * r + c)) = true := decide_eq_true (Nat.pos_of_ne_zero h)
  unfold spl
  rw [e]
  rfl
theorem row_end {x : Gd} (hx : Gok x) {r : Nat} : bst x (6 * r + x.1.2.1) = bst x (6 * (r + 1)) := by
  have h2 := hx.2.1
  exact (bst_skip (by omega) (fun k h1 h3 => Or.inr (by omega))).symm
theorem all_end {x : Gd} (hx : Gok x) : bst x (6 * x.1.1) = bst x 36 := by
  have h2 := hx.1
  exact (bst_skip (by omega) (fun k h1 h3 => Or.inl (by omega))).symm
section TT
variable {l : Launch} {h : sH} {x y : Gd} {s : Hs} {w : (Nat → Option Gd) × Pd}
theorem t_cnt0 (hC : CInv h (x, s, w)) (hS : StOk (x, s, w)) : sY l m_O_count 6 [.ref 0, .int (nI 0)] h (some (.int (nI x.1.1))) (CR h (x, s, w)) := k_cnt0 (st := (x, s, w)) hC hS
theorem t_cnt1 (hC : CInv h (x, s, w)) (hS : StOk (x, s, w)) : sY l m_O_count 6 [.ref 0, .int (nI 1)] h (some (.int (nI x.1.2.1))) (CR h (x, s, w)) := k_cnt1 (st := (x, s, w)) hC hS
theorem t_cnt2 (hC : CInv h (x, s, w)) (hS : StOk (x, s, w)) : sY l m_O_count 6 [.ref 0, .int (nI 2)] h (some (.int (nI x.1.2.2))) (CR h (x, s, w)) := k_cnt2 (st := (x, s, w)) hC hS
theorem t_cnt3 (hC : CInv h (x, s, w)) (hS : StOk (x, s, w)) : sY l m_O_count 6 [.ref 0, .int (nI 3)] h (some (.int (nI (told x)))) (CR h (x, s, w)) := k_cnt3 (st := (x, s, w)) hC hS
theorem t_cnt4 (hC : CInv h (x, s, w)) (hS : StOk (x, s, w)) : sY l m_O_count 6 [.ref 0, .int (nI 4)] h (some (.int (nI (lay x).2))) (CR h (x, s, w)) := k_cnt4 (st := (x, s, w)) hC hS
theorem t_cnt5 (hC : CInv h (x, s, w)) (hS : StOk (x, s, w)) : sY l m_O_count 6 [.ref 0, .int (nI 5)] h (some (.int (sBo (wellX x)))) (CR h (x, s, w)) := k_cnt5 (st := (x, s, w)) hC hS
theorem t_cnt6 (hC : CInv h (x, s, w)) (hS : StOk (x, s, w)) : sY l m_O_count 6 [.ref 0, .int (nI 6)] h (some (.int (nI (jnE x)))) (CR h (x, s, w)) := k_cnt6 (st := (x, s, w)) hC hS
theorem t_cnt7 (hC : CInv h (x, s, w)) (hS : StOk (x, s, w)) : sY l m_O_count 6 [.ref 0, .int (nI 7)] h (some (.int (nI (mAll x false)))) (CR h (x, s, w)) := k_cnt7 (st := (x, s, w)) hC hS
theorem t_cnt8 (hC : CInv h (x, s, w)) (hS : StOk (x, s, w)) : sY l m_O_count 6 [.ref 0, .int (nI 8)] h (some (.int (nI (mAll x true)))) (CR h (x, s, w)) := k_cnt8 (st := (x, s, w)) hC hS
theorem t_ent0 (hC : CInv h (x, s, w)) (hS : StOk (x, s, w)) {r c : Nat} (hr : r < x.1.1) (hc : c < x.1.2.1) : sY l m_O_entry 5 [.ref 0, .int (nI r), .int (nI c), .int (nI 0)] h (some (.int (nI (at' x r c)))) (CR h (x, s, w)) := k_ent0 (st := (x, s, w)) hC hS hr hc
theorem t_ent1 (hC : CInv h (x, s, w)) (hS : StOk (x, s, w)) {r c : Nat} (hr : r < x.1.1) (hc : c < x.1.2.1) : sY l m_O_entry 5 [.ref 0, .int (nI r), .int (nI c), .int (nI 1)] h (some (.int (fol x r c))) (CR h (x, s, w)) := k_ent1 (st := (x, s, w)) hC hS hr hc
theorem t_ent2 (hC : CInv h (x, s, w)) (hS : StOk (x, s, w)) {r c : Nat} (hr : r < x.1.1) (hc : c < x.1.2.1) : sY l m_O_entry 5 [.ref 0, .int (nI r), .int (nI c), .int (nI 2)] h (some (.int (fol (upd1 x r c 0) r c))) (CR h (x, s, w)) := k_ent2 (st := (x, s, w)) hC hS hr hc
theorem t_best (hC : CInv h (x, s, w)) (hS : StOk (x, s, w)) {k : Nat} (hw : k < 3) : sY l m_O_bestEntry 5 [.ref 0, .int (nI k)] h (some (.int (bE x k))) (CR h (x, s, w)) := k_best (st := (x, s, w)) hC hS hw
theorem t_wif (hC : CInv h (x, s, w)) (hS : StOk (x, s, w)) {r c n : Nat} (hr : r < x.1.1) (hc : c < x.1.2.1) (hn : n < x.1.2.2) : sY l m_O_isWellIf 5 [.ref 0, .int (nI r), .int (nI c), .int (nI n)] h (some (.int (sBo (wellX (upd1 x r c n))))) (CR h (x, s, w)) := k_wif (st := (x, s, w)) hC hS hr hc hn
theorem t_tell (hC : CInv h (x, s, w)) (hS : StOk (x, s, w)) {r c n : Nat} (hr : r < x.1.1) (hc : c < x.1.2.1) (hn : n < x.1.2.2) : sY l m_O_tell 4 [.ref 0, .int (nI r), .int (nI c), .int (nI n)] h (some (.int (nI (at' x r c)))) (CR h (upd1 x r c n, recH s x, w)) := k_tell (st := (x, s, w)) hC hS hr hc hn
theorem t_undo (hC : CInv h (y, recH s x, w)) (hS : StOk (y, recH s x, w)) (h6 : s.1 ≤ 6) : sY l m_O_undo 3 [.ref 0] h (some (.int (nI ((recH s x).1 - 1)))) (CR h (x, ((recH s x).1 - 1, (recH s x).2), w)) := by
  have e := (recL (x := x) h6).2.1
  have := k_undo (l := l) hC hS (recL h6).1
  have this : sY l m_O_undo 3 [.ref 0] h (some (.int (nI ((recH s x).1 - 1)))) (CR h ((recH s x).2 ((recH s x).1 - 1), ((recH s x).1 - 1, (recH s x).2), w)) := this
  rwa [e] at this
theorem t_und (hS : StOk (y, recH s x, w)) (h6 : s.1 ≤ 6) : StOk (x, ((recH s x).1 - 1, (recH s x).2), w) := by
  have e := (recL (x := x) h6).2.1
  have := und_ok hS (recL h6).1
  have this : StOk ((recH s x).2 ((recH s x).1 - 1), ((recH s x).1 - 1, (recH s x).2), w) := this
  rwa [e] at this
end TT
set_option maxRecDepth 4000 in
theorem c_Law_triesW {l : Launch} {h : sH} {st : St} (hC : CInv h st) (hS : StOk st) (hw : wellX st.1 = true) {v : Int32} : sY l m_Law_tries 7 [.ref 0, .int v] h (some (.int (nI 1))) (fun h1 => ∃ hs : Hs, CInv h1 (st.1, hs, st.2.2) ∧ StOk (st.1, hs, st.2.2)) := by
  have hx := hS.1
  have hz := l_sz hx
  have hR := hx.1
  have hCc := hx.2.1
  have hm := hx.2.2.1.le
  have hj36 := jnE_36 hx
  have c0 := hC.1
  refine en_Law_tries ?_
  refine e_aload_0 (p' := 1) D_Law_tries_0 rfl ?_
  refine e_iconst (v := nI 5) (p' := 2) D_Law_tries_1 cst_iconst_5 rfl ?_
  refine y_callV1 (p' := 5) D_Law_tries_2 V_Law_26 (k_cnt5 hC hS) rfl (by first | assumption | exact sUp_eq | (rw [sUp_ne (by omega)]; assumption) | (rw [sUp_ne (by omega), sUp_ne (by omega)]; assumption) | (rw [sUp_ne (by omega)]; exact sUp_eq) | (rw [gSet_ne (by omega) (by omega)]; first | assumption | exact sUp_eq | (rw [sUp_ne (by omega)]; assumption) | (rw [sUp_ne (by omega), sUp_ne (by omega)]; assumption)) | (rw [sUp_ne (by omega), sUp_ne (by omega), sUp_ne (by omega)]; assumption) | (simp [sUp]; done)) rfl (Nat.le_of_ble_eq_true rfl) (by decide) ⟨by decide, by decide⟩ rfl ?_
  rintro h1 ⟨C1, F1⟩
  have c1 := C1.1
  rw [hw]
  refine e_iconst (v := nI 1) (p' := 6) D_Law_tries_5 cst_iconst_1 rfl ?_
  refine e_icmp_ne (q := 13) (p' := 9) D_Law_tries_6 rfl rfl (fun hc6 => ?_) (fun hc6 => ?_)
  ·
    first | exact absurd rfl hc6 | exact hc6 rfl | (exfalso; omega) | exact absurd hc6 (by decide) | exact absurd hc6 (by simp [*])
  ·
    refine e_iconst (v := nI 1) (p' := 10) D_Law_tries_9 cst_iconst_1 rfl ?_
    refine e_goto (p' := 14) D_Law_tries_10 rfl ?_
    refine e_istore_2 (p' := 15) D_Law_tries_14 (Nat.le_of_ble_eq_true rfl) rfl rfl ?_
    refine e_aload_0 (p' := 16) D_Law_tries_15 rfl ?_
    refine y_callV1 (p' := 19) D_Law_tries_16 V_Law_61 (c_O_spoilers C1 hS) rfl (by first | assumption | exact sUp_eq | (rw [sUp_ne (by omega)]; assumption) | (rw [sUp_ne (by omega), sUp_ne (by omega)]; assumption) | (rw [sUp_ne (by omega)]; exact sUp_eq) | (rw [gSet_ne (by omega) (by omega)]; first | assumption | exact sUp_eq | (rw [sUp_ne (by omega)]; assumption) | (rw [sUp_ne (by omega), sUp_ne (by omega)]; assumption)) | (rw [sUp_ne (by omega), sUp_ne (by omega), sUp_ne (by omega)]; assumption) | (simp [sUp]; done)) rfl (Nat.le_of_ble_eq_true rfl) (by decide) ⟨by decide, by decide⟩ rfl ?_
    rintro h2 ⟨C2, F2⟩
    have c2 := C2.1
    rw [show Vspoil st.1 = -6 from if_pos hw]
    refine e_lstore_3 (p' := 20) D_Law_tries_19 (Nat.le_of_ble_eq_true rfl) rfl rfl ?_
    refine e_aload_0 (p' := 21) D_Law_tries_20 rfl ?_
    refine e_iconst (v := nI 2) (p' := 22) D_Law_tries_21 cst_iconst_2 rfl ?_
    refine y_callV1 (p' := 25) D_Law_tries_22 V_Law_64 (k_best C2 hS (w := 2) (by omega)) rfl (by first | assumption | exact sUp_eq | (rw [sUp_ne (by omega)]; assumption) | (rw [sUp_ne (by omega), sUp_ne (by omega)]; assumption) | (rw [sUp_ne (by omega)]; exact sUp_eq) | (rw [gSet_ne (by omega) (by omega)]; first | assumption | exact sUp_eq | (rw [sUp_ne (by omega)]; assumption) | (rw [sUp_ne (by omega), sUp_ne (by omega)]; assumption)) | (rw [sUp_ne (by omega), sUp_ne (by omega), sUp_ne (by omega)]; assumption) | (simp [sUp]; done)) rfl (Nat.le_of_ble_eq_true rfl) (by decide) ⟨by decide, by decide⟩ rfl ?_
    rintro h3 ⟨C3, F3⟩
    have c3 := C3.1
    refine e_istore_5 (p' := 27) D_Law_tries_25 (Nat.le_of_ble_eq_true rfl) rfl rfl ?_
    refine e_aload_0 (p' := 28) D_Law_tries_27 rfl ?_
    refine e_bipush (v := nI 6) (p' := 30) D_Law_tries_28 cst_bipush_6 rfl ?_
    refine y_callV1 (p' := 33) D_Law_tries_30 V_Law_26 (k_cnt6 C3 hS) rfl (by first | assumption | exact sUp_eq | (rw [sUp_ne (by omega)]; assumption) | (rw [sUp_ne (by omega), sUp_ne (by omega)]; assumption) | (rw [sUp_ne (by omega)]; exact sUp_eq) | (rw [gSet_ne (by omega) (by omega)]; first | assumption | exact sUp_eq | (rw [sUp_ne (by omega)]; assumption) | (rw [sUp_ne (by omega), sUp_ne (by omega)]; assumption)) | (rw [sUp_ne (by omega), sUp_ne (by omega), sUp_ne (by omega)]; assumption) | (simp [sUp]; done)) rfl (Nat.le_of_ble_eq_true rfl) (by decide) ⟨by decide, by decide⟩ rfl ?_
    rintro h4 ⟨C4, F4⟩
    have c4 := C4.1
    refine e_istore_6 (p' := 35) D_Law_tries_33 (Nat.le_of_ble_eq_true rfl) rfl rfl ?_
    refine e_iconst (v := nI 0) (p' := 36) D_Law_tries_35 cst_iconst_0 rfl ?_
    refine e_istore_7 (p' := 38) D_Law_tries_36 (Nat.le_of_ble_eq_true rfl) rfl rfl ?_
    refine e_iconst (v := (-1)) (p' := 39) D_Law_tries_38 cst_iconst_m1 rfl ?_
    refine e_istore_8 (p' := 41) D_Law_tries_39 (Nat.le_of_ble_eq_true rfl) rfl rfl ?_
    refine e_iconst (v := nI 0) (p' := 42) D_Law_tries_41 cst_iconst_0 rfl ?_
    refine e_istore_9 (p' := 44) D_Law_tries_42 (Nat.le_of_ble_eq_true rfl) rfl rfl ?_
    have lk44 : ∀ r : Nat, r ≤ st.1.1.1 → ∀ (h1 : sH) (hs : Hs), (CInv h1 (st.1, hs, st.2.2) ∧ StOk (st.1, hs, st.2.2)) → sEv l m_Law_tries 7 (0, 0, 0, 0) (sKm 0 0 (fun r1 h1 => r1 = some (.int (nI 1)) ∧ (fun h1 => ∃ hs : Hs, CInv h1 (st.1, hs, st.2.2) ∧ StOk (st.1, hs, st.2.2)) h1)) 44 [some (.ref 0), some (.int v), some (.int (nI 1)), some (.long (-6)), none, some (.int (bE st.1 2)), some (.int (nI (jnE st.1))), some (.int (nI (bst st.1 (6 * r)).2)), some (.int (bsI st.1 (6 * r))), some (.int (nI r)), none, none, none, none, none, none, none] [] (h1) := by
      refine lp_up _ ?_ ?_
      · intro h1 hs ⟨CC, hSC⟩
        have cc := CC.1
        refine e_iload_9 (p' := 46) D_Law_tries_44 rfl ?_
        refine e_aload_0 (p' := 47) D_Law_tries_46 rfl ?_
        refine e_iconst (v := nI 0) (p' := 48) D_Law_tries_47 cst_iconst_0 rfl ?_
        refine y_callV1 (p' := 51) D_Law_tries_48 V_Law_26 (t_cnt0 CC hSC) rfl (by first | assumption | exact sUp_eq | (rw [sUp_ne (by omega)]; assumption) | (rw [sUp_ne (by omega), sUp_ne (by omega)]; assumption) | (rw [sUp_ne (by omega)]; exact sUp_eq) | (rw [gSet_ne (by omega) (by omega)]; first | assumption | exact sUp_eq | (rw [sUp_ne (by omega)]; assumption) | (rw [sUp_ne (by omega), sUp_ne (by omega)]; assumption)) | (rw [sUp_ne (by omega), sUp_ne (by omega), sUp_ne (by omega)]; assumption) | (simp [sUp]; done)) rfl (Nat.le_of_ble_eq_true rfl) (by decide) ⟨by decide, by decide⟩ rfl ?_
        rintro h5 ⟨C5, F5⟩
        have c5 := C5.1
        refine e_icmpN_ge (q := 305) (p' := 54) D_Law_tries_51 (by omega) (by omega) rfl rfl (fun hc51 => ?_) (fun hc51 => ?_)
        ·
          rw [show bsI st.1 (6 * st.1.1.1) = bsI st.1 36 from by unfold bsI; rw [all_end hx], all_end hx]
          have hb36 := bst_le (x := st.1) 36
          refine e_iload_2 (p' := 306) D_Law_tries_305 rfl ?_
          refine e_lload_3 (p' := 307) D_Law_tries_306 rfl ?_
          refine e_ldc2 (p' := 310) D_Law_tries_307 K_Law_74 rfl ?_
          refine e_lcmp (p' := 311) D_Law_tries_310 rfl ?_
          refine e_if_ne (q := 318) (p' := 314) D_Law_tries_311 rfl rfl (fun hc311 => ?_) (fun hc311 => ?_)
          ·
            exact absurd (lg_cmp_r _) hc311
          ·
            refine e_iconst (v := nI 1) (p' := 315) D_Law_tries_314 cst_iconst_1 rfl ?_
            refine e_goto (p' := 319) D_Law_tries_315 rfl ?_
            refine e_icmpN_eq (q := 324) (p' := 322) D_Law_tries_319 (by omega) (by omega) rfl rfl (fun hc319 => ?_) (fun hc319 => ?_)
            ·
              refine e_iload_8 (p' := 326) D_Law_tries_324 rfl ?_
              refine e_if_ge (q := 353) (p' := 329) D_Law_tries_326 rfl rfl (fun hc326 => ?_) (fun hc326 => ?_)
              ·
                have hbz : (bst st.1 36).2 ≠ 0 := fun z => absurd hc326 (by unfold bsI; rw [if_pos z]; decide)
                rw [show bE st.1 2 = nI (bst st.1 36).2 from if_neg hbz, show bsI st.1 36 = nI (bst st.1 36).1 from if_neg hbz]
                refine e_iload_5 (p' := 355) D_Law_tries_353 rfl ?_
                refine e_iload_7 (p' := 357) D_Law_tries_355 rfl ?_
                refine e_icmp_ne (q := 383) (p' := 360) D_Law_tries_357 rfl rfl (fun hc357 => ?_) (fun hc357 => ?_)
                ·
                  first | exact absurd rfl hc357 | exact hc357 rfl | (exfalso; omega) | exact absurd hc357 (by decide) | exact absurd hc357 (by simp [*])
                ·
                  refine e_bipush (v := nI 6) (p' := 362) D_Law_tries_360 cst_bipush_6 rfl ?_
                  refine e_aload_0 (p' := 363) D_Law_tries_362 rfl ?_
                  refine e_iconst (v := nI 0) (p' := 364) D_Law_tries_363 cst_iconst_0 rfl ?_
                  refine y_callV1 (p' := 367) D_Law_tries_364 V_Law_64 (t_best C5 hSC (k := 0) (by omega)) rfl (by first | assumption | exact sUp_eq | (rw [sUp_ne (by omega)]; assumption) | (rw [sUp_ne (by omega), sUp_ne (by omega)]; assumption) | (rw [sUp_ne (by omega)]; exact sUp_eq) | (rw [gSet_ne (by omega) (by omega)]; first | assumption | exact sUp_eq | (rw [sUp_ne (by omega)]; assumption) | (rw [sUp_ne (by omega), sUp_ne (by omega)]; assumption)) | (rw [sUp_ne (by omega), sUp_ne (by omega), sUp_ne (by omega)]; assumption) | (simp [sUp]; done)) rfl (Nat.le_of_ble_eq_true rfl) (by decide) ⟨by decide, by decide⟩ rfl ?_
                  rintro h19 ⟨C19, F19⟩
                  have c19 := C19.1
                  rw [show bE st.1 0 = nI ((bst st.1 36).1 / 6) from if_neg hbz]
                  first | refine e_imulN (p' := 368) D_Law_tries_367 rfl ?_ | refine e_imul (p' := 368) D_Law_tries_367 rfl ?_
                  refine e_aload_0 (p' := 369) D_Law_tries_368 rfl ?_
                  refine e_iconst (v := nI 1) (p' := 370) D_Law_tries_369 cst_iconst_1 rfl ?_
                  refine y_callV1 (p' := 373) D_Law_tries_370 V_Law_64 (t_best C19 hSC (k := 1) (by omega)) rfl (by first | assumption | exact sUp_eq | (rw [sUp_ne (by omega)]; assumption) | (rw [sUp_ne (by omega), sUp_ne (by omega)]; assumption) | (rw [sUp_ne (by omega)]; exact sUp_eq) | (rw [gSet_ne (by omega) (by omega)]; first | assumption | exact sUp_eq | (rw [sUp_ne (by omega)]; assumption) | (rw [sUp_ne (by omega), sUp_ne (by omega)]; assumption)) | (rw [sUp_ne (by omega), sUp_ne (by omega), sUp_ne (by omega)]; assumption) | (simp [sUp]; done)) rfl (Nat.le_of_ble_eq_true rfl) (by decide) ⟨by decide, by decide⟩ rfl ?_
                  rintro h20 ⟨C20, F20⟩
                  have c20 := C20.1
                  rw [show bE st.1 1 = nI ((bst st.1 36).1 % 6) from if_neg hbz]
                  first | refine e_iaddN (p' := 374) D_Law_tries_373 rfl ?_ | refine e_iadd (p' := 374) D_Law_tries_373 rfl ?_
                  refine e_iload_8 (p' := 376) D_Law_tries_374 rfl ?_
                  refine e_icmpN_ne (q := 383) (p' := 379) D_Law_tries_376 (by omega) (by omega) rfl rfl (fun hc376 => ?_) (fun hc376 => ?_)
                  ·
                    exfalso; omega
                  ·
                    refine e_iconst (v := nI 1) (p' := 380) D_Law_tries_379 cst_iconst_1 rfl ?_
                    refine e_goto (p' := 384) D_Law_tries_380 rfl ?_
                    refine e_ireturn (ty := .boolean) D_Law_tries_384 rfl (by first | rfl | exact sBo_nar _) ⟨by decide, by decide⟩ ?_
                    exact ⟨rfl, _, C20, hSC⟩
              ·
                have hbz : (bst st.1 36).2 = 0 := Classical.byContradiction fun z => hc326 (by unfold bsI; rw [if_neg z]; exact Int32.not_lt.mp (nI_pos (by omega)))
                rw [show bE st.1 2 = -6 from if_pos hbz]
                refine e_iload_5 (p' := 331) D_Law_tries_329 rfl ?_
                refine e_bipush (v := (-6)) (p' := 333) D_Law_tries_331 cst_bipush_m6 rfl ?_
                refine e_icmp_ne (q := 349) (p' := 336) D_Law_tries_333 rfl rfl (fun hc333 => ?_) (fun hc333 => ?_)
                ·
                  first | exact absurd rfl hc333 | exact hc333 rfl | (exfalso; omega) | exact absurd hc333 (by decide) | exact absurd hc333 (by simp [*])
                ·
                  refine e_aload_0 (p' := 337) D_Law_tries_336 rfl ?_
                  refine e_iconst (v := nI 4) (p' := 338) D_Law_tries_337 cst_iconst_4 rfl ?_
                  refine y_callV1 (p' := 341) D_Law_tries_338 V_Law_26 (t_cnt4 C5 hSC) rfl (by first | assumption | exact sUp_eq | (rw [sUp_ne (by omega)]; assumption) | (rw [sUp_ne (by omega), sUp_ne (by omega)]; assumption) | (rw [sUp_ne (by omega)]; exact sUp_eq) | (rw [gSet_ne (by omega) (by omega)]; first | assumption | exact sUp_eq | (rw [sUp_ne (by omega)]; assumption) | (rw [sUp_ne (by omega), sUp_ne (by omega)]; assumption)) | (rw [sUp_ne (by omega), sUp_ne (by omega), sUp_ne (by omega)]; assumption) | (simp [sUp]; done)) rfl (Nat.le_of_ble_eq_true rfl) (by decide) ⟨by decide, by decide⟩ rfl ?_
                  rintro h19 ⟨C19, F19⟩
                  have c19 := C19.1
                  have hn1 := (bst_one hx).mp hbz
                  refine e_iconst (v := nI 1) (p' := 342) D_Law_tries_341 cst_iconst_1 rfl ?_
                  refine e_icmpN_ne (q := 349) (p' := 345) D_Law_tries_342 (by omega) (by omega) rfl rfl (fun hc342 => ?_) (fun hc342 => ?_)
                  ·
                    exfalso; omega
                  ·
                    refine e_iconst (v := nI 1) (p' := 346) D_Law_tries_345 cst_iconst_1 rfl ?_
                    refine e_goto (p' := 384) D_Law_tries_346 rfl ?_
                    refine e_ireturn (ty := .boolean) D_Law_tries_384 rfl (by first | rfl | exact sBo_nar _) ⟨by decide, by decide⟩ ?_
                    exact ⟨rfl, _, C19, hSC⟩
            ·
              first | exact absurd rfl hc319 | exact hc319 rfl | (exfalso; omega) | exact absurd hc319 (by decide) | exact absurd hc319 (by simp [*])
        ·
          exfalso; omega
      · intro r hr ih44 h1 hs ⟨CC, hSC⟩
        have cc := CC.1
        refine e_iload_9 (p' := 46) D_Law_tries_44 rfl ?_
        refine e_aload_0 (p' := 47) D_Law_tries_46 rfl ?_
        refine e_iconst (v := nI 0) (p' := 48) D_Law_tries_47 cst_iconst_0 rfl ?_
        refine y_callV1 (p' := 51) D_Law_tries_48 V_Law_26 (t_cnt0 CC hSC) rfl (by first | assumption | exact sUp_eq | (rw [sUp_ne (by omega)]; assumption) | (rw [sUp_ne (by omega), sUp_ne (by omega)]; assumption) | (rw [sUp_ne (by omega)]; exact sUp_eq) | (rw [gSet_ne (by omega) (by omega)]; first | assumption | exact sUp_eq | (rw [sUp_ne (by omega)]; assumption) | (rw [sUp_ne (by omega), sUp_ne (by omega)]; assumption)) | (rw [sUp_ne (by omega), sUp_ne (by omega), sUp_ne (by omega)]; assumption) | (simp [sUp]; done)) rfl (Nat.le_of_ble_eq_true rfl) (by decide) ⟨by decide, by decide⟩ rfl ?_
        rintro h5 ⟨C5, F5⟩
        have c5 := C5.1
        refine e_icmpN_ge (q := 305) (p' := 54) D_Law_tries_51 (by omega) (by omega) rfl rfl (fun hc51 => ?_) (fun hc51 => ?_)
        ·
          exfalso; omega
        ·
          refine e_iconst (v := nI 0) (p' := 55) D_Law_tries_54 cst_iconst_0 rfl ?_
          refine e_istore_10 (p' := 57) D_Law_tries_55 (Nat.le_of_ble_eq_true rfl) rfl rfl ?_
          have lk57 : ∀ c : Nat, c ≤ st.1.1.2.1 → ∀ (h1 : sH) (hs : Hs), (CInv h1 (st.1, hs, st.2.2) ∧ StOk (st.1, hs, st.2.2)) → sEv l m_Law_tries 7 (0, 0, 0, 0) (sKm 0 0 (fun r1 h1 => r1 = some (.int (nI 1)) ∧ (fun h1 => ∃ hs : Hs, CInv h1 (st.1, hs, st.2.2) ∧ StOk (st.1, hs, st.2.2)) h1)) 57 [some (.ref 0), some (.int v), some (.int (nI 1)), some (.long (-6)), none, some (.int (bE st.1 2)), some (.int (nI (jnE st.1))), some (.int (nI (bst st.1 (6 * r + c)).2)), some (.int (bsI st.1 (6 * r + c))), some (.int (nI r)), some (.int (nI c)), none, none, none, none, none, none] [] (h1) := by
            refine lp_up _ ?_ ?_
            · intro h1 hs ⟨CD, hSD⟩
              have cd := CD.1
              refine e_iload_10 (p' := 59) D_Law_tries_57 rfl ?_
              refine e_aload_0 (p' := 60) D_Law_tries_59 rfl ?_
              refine e_iconst (v := nI 1) (p' := 61) D_Law_tries_60 cst_iconst_1 rfl ?_
              refine y_callV1 (p' := 64) D_Law_tries_61 V_Law_26 (t_cnt1 CD hSD) rfl (by first | assumption | exact sUp_eq | (rw [sUp_ne (by omega)]; assumption) | (rw [sUp_ne (by omega), sUp_ne (by omega)]; assumption) | (rw [sUp_ne (by omega)]; exact sUp_eq) | (rw [gSet_ne (by omega) (by omega)]; first | assumption | exact sUp_eq | (rw [sUp_ne (by omega)]; assumption) | (rw [sUp_ne (by omega), sUp_ne (by omega)]; assumption)) | (rw [sUp_ne (by omega), sUp_ne (by omega), sUp_ne (by omega)]; assumption) | (simp [sUp]; done)) rfl (Nat.le_of_ble_eq_true rfl) (by decide) ⟨by decide, by decide⟩ rfl ?_
              rintro h6 ⟨C6, F6⟩
              have c6 := C6.1
              refine e_icmpN_ge (q := 299) (p' := 67) D_Law_tries_64 (by omega) (by omega) rfl rfl (fun hc64 => ?_) (fun hc64 => ?_)
              ·
                first | refine e_iincN_9 (n := 1) (p' := 302) D_Law_tries_299 (Nat.le_of_ble_eq_true rfl) rfl rfl ?_ | refine e_iinc_9 (p' := 302) D_Law_tries_299 (Nat.le_of_ble_eq_true rfl) rfl rfl rfl ?_
                refine e_goto (p' := 44) D_Law_tries_302 rfl ?_
                refine sEv.castW (ih44 h6 _ ⟨C6, hSD⟩) ?_ ?_ ?_
                · exact ⟨rfl, rfl, rfl, rfl, rfl, rfl, by rw [row_end hx], by unfold bsI; rw [row_end hx], rfl, trivial⟩
                · rfl
                · first | rfl | (simp; done)
              ·
                exfalso; omega
            · intro c hc ih57 h1 hs ⟨CD, hSD⟩
              have cd := CD.1
              refine e_iload_10 (p' := 59) D_Law_tries_57 rfl ?_
              refine e_aload_0 (p' := 60) D_Law_tries_59 rfl ?_
              refine e_iconst (v := nI 1) (p' := 61) D_Law_tries_60 cst_iconst_1 rfl ?_
              refine y_callV1 (p' := 64) D_Law_tries_61 V_Law_26 (t_cnt1 CD hSD) rfl (by first | assumption | exact sUp_eq | (rw [sUp_ne (by omega)]; assumption) | (rw [sUp_ne (by omega), sUp_ne (by omega)]; assumption) | (rw [sUp_ne (by omega)]; exact sUp_eq) | (rw [gSet_ne (by omega) (by omega)]; first | assumption | exact sUp_eq | (rw [sUp_ne (by omega)]; assumption) | (rw [sUp_ne (by omega), sUp_ne (by omega)]; assumption)) | (rw [sUp_ne (by omega), sUp_ne (by omega), sUp_ne (by omega)]; assumption) | (simp [sUp]; done)) rfl (Nat.le_of_ble_eq_true rfl) (by decide) ⟨by decide, by decide⟩ rfl ?_
              rintro h6 ⟨C6, F6⟩
              have c6 := C6.1
              refine e_icmpN_ge (q := 299) (p' := 67) D_Law_tries_64 (by omega) (by omega) rfl rfl (fun hc64 => ?_) (fun hc64 => ?_)
              ·
                exfalso; omega
              ·
                have hrr : r < st.1.1.1 := by omega
                have hcc : c < st.1.1.2.1 := by omega
                have hbl := bst_le (x := st.1) (6 * r + c)
                refine e_aload_0 (p' := 68) D_Law_tries_67 rfl ?_
                refine e_iload_9 (p' := 70) D_Law_tries_68 rfl ?_
                refine e_iload_10 (p' := 72) D_Law_tries_70 rfl ?_
                refine e_iconst (v := nI 0) (p' := 73) D_Law_tries_72 cst_iconst_0 rfl ?_
                refine y_callV1 (p' := 76) D_Law_tries_73 V_Law_33 (t_ent0 C6 hSD (r := r) (c := c) hrr hcc) rfl (by first | assumption | exact sUp_eq | (rw [sUp_ne (by omega)]; assumption) | (rw [sUp_ne (by omega), sUp_ne (by omega)]; assumption) | (rw [sUp_ne (by omega)]; exact sUp_eq) | (rw [gSet_ne (by omega) (by omega)]; first | assumption | exact sUp_eq | (rw [sUp_ne (by omega)]; assumption) | (rw [sUp_ne (by omega), sUp_ne (by omega)]; assumption)) | (rw [sUp_ne (by omega), sUp_ne (by omega), sUp_ne (by omega)]; assumption) | (simp [sUp]; done)) rfl (Nat.le_of_ble_eq_true rfl) (by decide) ⟨by decide, by decide⟩ rfl ?_
                rintro h7 ⟨C7, F7⟩
                have c7 := C7.1
                have hat := hx.small r c
                refine e_istore_11 (p' := 78) D_Law_tries_76 (Nat.le_of_ble_eq_true rfl) rfl rfl ?_
                have jn106 : ∀ (h9 : sH) (num : Nat), (CInv h9 (st.1, hs, st.2.2) ∧ num < st.1.1.2.2 ∧ (at' st.1 r c = 0 → num ≠ 0) ∧ (at' st.1 r c ≠ 0 → num = 0)) → sEv l m_Law_tries 7 (0, 0, 0, 0) (sKm 0 0 (fun r1 h1 => r1 = some (.int (nI 1)) ∧ (fun h1 => ∃ hs : Hs, CInv h1 (st.1, hs, st.2.2) ∧ StOk (st.1, hs, st.2.2)) h1)) 106 [some (.ref 0), some (.int v), some (.int (nI 1)), some (.long (-6)), none, some (.int (bE st.1 2)), some (.int (nI (jnE st.1))), some (.int (nI (bst st.1 (6 * r + c)).2)), some (.int (bsI st.1 (6 * r + c))), some (.int (nI r)), some (.int (nI c)), some (.int (nI (at' st.1 r c))), none, none, none, none, none] [.int (nI num)] h9 := by
                  rintro h9 num ⟨C9, hn1, hn2, hn3⟩
                  have c9 := C9.1
                  refine e_istore_12 (p' := 108) D_Law_tries_106 (Nat.le_of_ble_eq_true rfl) rfl rfl ?_
                  refine e_aload_0 (p' := 109) D_Law_tries_108 rfl ?_
                  refine e_iload_9 (p' := 111) D_Law_tries_109 rfl ?_
                  refine e_iload_10 (p' := 113) D_Law_tries_111 rfl ?_
                  refine e_iload_12 (p' := 115) D_Law_tries_113 rfl ?_
                  refine y_callV1 (p' := 118) D_Law_tries_115 V_Law_67 (t_wif C9 hSD hrr hcc hn1) rfl (by first | assumption | exact sUp_eq | (rw [sUp_ne (by omega)]; assumption) | (rw [sUp_ne (by omega), sUp_ne (by omega)]; assumption) | (rw [sUp_ne (by omega)]; exact sUp_eq) | (rw [gSet_ne (by omega) (by omega)]; first | assumption | exact sUp_eq | (rw [sUp_ne (by omega)]; assumption) | (rw [sUp_ne (by omega), sUp_ne (by omega)]; assumption)) | (rw [sUp_ne (by omega), sUp_ne (by omega), sUp_ne (by omega)]; assumption) | (simp [sUp]; done)) rfl (Nat.le_of_ble_eq_true rfl) (by decide) ⟨by decide, by decide⟩ rfl ?_
                  rintro h10 ⟨C10, F10⟩
                  have c10 := C10.1
                  refine e_istore_13 (p' := 120) D_Law_tries_118 (Nat.le_of_ble_eq_true rfl) rfl rfl ?_
                  refine e_aload_0 (p' := 121) D_Law_tries_120 rfl ?_
                  refine e_iload_9 (p' := 123) D_Law_tries_121 rfl ?_
                  refine e_iload_10 (p' := 125) D_Law_tries_123 rfl ?_
                  refine e_iconst (v := nI 2) (p' := 126) D_Law_tries_125 cst_iconst_2 rfl ?_
                  refine y_callV1 (p' := 129) D_Law_tries_126 V_Law_33 (t_ent2 C10 hSD hrr hcc) rfl (by first | assumption | exact sUp_eq | (rw [sUp_ne (by omega)]; assumption) | (rw [sUp_ne (by omega), sUp_ne (by omega)]; assumption) | (rw [sUp_ne (by omega)]; exact sUp_eq) | (rw [gSet_ne (by omega) (by omega)]; first | assumption | exact sUp_eq | (rw [sUp_ne (by omega)]; assumption) | (rw [sUp_ne (by omega), sUp_ne (by omega)]; assumption)) | (rw [sUp_ne (by omega), sUp_ne (by omega), sUp_ne (by omega)]; assumption) | (simp [sUp]; done)) rfl (Nat.le_of_ble_eq_true rfl) (by decide) ⟨by decide, by decide⟩ rfl ?_
                  rintro h11 ⟨C11, F11⟩
                  have c11 := C11.1
                  refine e_istore_14 (p' := 131) D_Law_tries_129 (Nat.le_of_ble_eq_true rfl) rfl rfl ?_
                  refine e_aload_0 (p' := 132) D_Law_tries_131 rfl ?_
                  refine e_iload_9 (p' := 134) D_Law_tries_132 rfl ?_
                  refine e_iload_10 (p' := 136) D_Law_tries_134 rfl ?_
                  refine e_iload_12 (p' := 138) D_Law_tries_136 rfl ?_
                  refine y_callV1 (p' := 141) D_Law_tries_138 V_Law_30 (t_tell C11 hSD hrr hcc hn1) rfl (by first | assumption | exact sUp_eq | (rw [sUp_ne (by omega)]; assumption) | (rw [sUp_ne (by omega), sUp_ne (by omega)]; assumption) | (rw [sUp_ne (by omega)]; exact sUp_eq) | (rw [gSet_ne (by omega) (by omega)]; first | assumption | exact sUp_eq | (rw [sUp_ne (by omega)]; assumption) | (rw [sUp_ne (by omega), sUp_ne (by omega)]; assumption)) | (rw [sUp_ne (by omega), sUp_ne (by omega), sUp_ne (by omega)]; assumption) | (simp [sUp]; done)) rfl (Nat.le_of_ble_eq_true rfl) (by decide) ⟨by decide, by decide⟩ rfl ?_
                  rintro h12 ⟨C12, F12⟩
                  have c12 := C12.1
                  have hS2 : StOk ((upd1 st.1 r c num), recH hs st.1, st.2.2) := chg_ok hSD (up_ok hx hrr hcc hn1)
                  have hgn := gn_72 (s := (lay st.1).1) (r := r) (c := c)
                  refine e_iload_11 (p' := 143) D_Law_tries_141 rfl ?_
                  refine e_icmp_ne (q := 156) (p' := 146) D_Law_tries_143 rfl rfl (fun hc143 => ?_) (fun hc143 => ?_)
                  ·
                    first | exact absurd rfl hc143 | exact hc143 rfl | (exfalso; omega) | exact absurd hc143 (by decide) | exact absurd hc143 (by simp [*])
                  ·
                    refine e_aload_0 (p' := 147) D_Law_tries_146 rfl ?_
                    refine e_iconst (v := nI 5) (p' := 148) D_Law_tries_147 cst_iconst_5 rfl ?_
                    refine y_callV1 (p' := 151) D_Law_tries_148 V_Law_26 (t_cnt5 C12 hS2) rfl (by first | assumption | exact sUp_eq | (rw [sUp_ne (by omega)]; assumption) | (rw [sUp_ne (by omega), sUp_ne (by omega)]; assumption) | (rw [sUp_ne (by omega)]; exact sUp_eq) | (rw [gSet_ne (by omega) (by omega)]; first | assumption | exact sUp_eq | (rw [sUp_ne (by omega)]; assumption) | (rw [sUp_ne (by omega), sUp_ne (by omega)]; assumption)) | (rw [sUp_ne (by omega), sUp_ne (by omega), sUp_ne (by omega)]; assumption) | (simp [sUp]; done)) rfl (Nat.le_of_ble_eq_true rfl) (by decide) ⟨by decide, by decide⟩ rfl ?_
                    rintro h13 ⟨C13, F13⟩
                    have c13 := C13.1
                    refine e_iload_13 (p' := 153) D_Law_tries_151 rfl ?_
                    refine e_icmp_eq (q := 158) (p' := 156) D_Law_tries_153 rfl rfl (fun hc153 => ?_) (fun hc153 => ?_)
                    ·
                      have jn176 : ∀ (h15 : sH), CInv h15 ((upd1 st.1 r c num), recH hs st.1, st.2.2) → sEv l m_Law_tries 7 (0, 0, 0, 0) (sKm 0 0 (fun r1 h1 => r1 = some (.int (nI 1)) ∧ (fun h1 => ∃ hs : Hs, CInv h1 (st.1, hs, st.2.2) ∧ StOk (st.1, hs, st.2.2)) h1)) 176 [some (.ref 0), some (.int v), some (.int (nI 1)), some (.long (-6)), none, some (.int (bE st.1 2)), some (.int (nI (jnE st.1))), some (.int (nI (bst st.1 (6 * r + c)).2)), some (.int (bsI st.1 (6 * r + c))), some (.int (nI r)), some (.int (nI c)), some (.int (nI (at' st.1 r c))), some (.int (nI num)), some (.int (sBo (wellX (upd1 st.1 r c num)))), some (.int (fol (upd1 st.1 r c 0) r c)), none, none] [.int (nI (gn (lay st.1).1 r c))] h15 := by
                        intro h15 C15
                        have c15 := C15.1
                        refine e_istore_15 (p' := 178) D_Law_tries_176 (Nat.le_of_ble_eq_true rfl) rfl rfl ?_
                        refine e_iload_11 (p' := 180) D_Law_tries_178 rfl ?_
                        refine e_ifN_eq (q := 220) (p' := 183) D_Law_tries_180 (by omega) rfl rfl (fun hc180 => ?_) (fun hc180 => ?_)
                        ·
                          refine e_iconst (v := nI 1) (p' := 221) D_Law_tries_220 cst_iconst_1 rfl ?_
                          refine e_goto (p' := 225) D_Law_tries_221 rfl ?_
                          refine e_istore_16 (p' := 227) D_Law_tries_225 (Nat.le_of_ble_eq_true rfl) rfl rfl ?_
                          refine e_iload_16 (p' := 229) D_Law_tries_227 rfl ?_
                          refine e_ifN_eq (q := 253) (p' := 232) D_Law_tries_229 (by omega) rfl rfl (fun hc229 => ?_) (fun hc229 => ?_)
                          ·
                            first | exact absurd rfl hc229 | exact hc229 rfl | (exfalso; omega) | exact absurd hc229 (by decide) | exact absurd hc229 (by simp [*])
                          ·
                            refine e_aload_0 (p' := 233) D_Law_tries_232 rfl ?_
                            have hrl := recL (s := hs) (x := st.1) hSD.2.1.1
                            have hr6 : (recH hs st.1).1 ≤ 6 := hrl.2.2.1
                            refine y_callV1 (p' := 236) D_Law_tries_233 V_Law_70 (t_undo C15 hS2 hSD.2.1.1) rfl (by first | assumption | exact sUp_eq | (rw [sUp_ne (by omega)]; assumption) | (rw [sUp_ne (by omega), sUp_ne (by omega)]; assumption) | (rw [sUp_ne (by omega)]; exact sUp_eq) | (rw [gSet_ne (by omega) (by omega)]; first | assumption | exact sUp_eq | (rw [sUp_ne (by omega)]; assumption) | (rw [sUp_ne (by omega), sUp_ne (by omega)]; assumption)) | (rw [sUp_ne (by omega), sUp_ne (by omega), sUp_ne (by omega)]; assumption) | (simp [sUp]; done)) rfl (Nat.le_of_ble_eq_true rfl) (by decide) ⟨by decide, by decide⟩ rfl ?_
                            rintro h17 ⟨C17, F17⟩
                            have hS3 := t_und hS2 hSD.2.1.1
                            have c17 := C17.1
                            refine e_ifN_lt (q := 253) (p' := 239) D_Law_tries_236 (by omega) rfl rfl (fun hc236 => ?_) (fun hc236 => ?_)
                            ·
                              exfalso; omega
                            ·
                              refine e_aload_0 (p' := 240) D_Law_tries_239 rfl ?_
                              refine e_iload_9 (p' := 242) D_Law_tries_240 rfl ?_
                              refine e_iload_10 (p' := 244) D_Law_tries_242 rfl ?_
                              refine e_iconst (v := nI 0) (p' := 245) D_Law_tries_244 cst_iconst_0 rfl ?_
                              refine y_callV1 (p' := 248) D_Law_tries_245 V_Law_33 (t_ent0 C17 hS3 (r := r) (c := c) hrr hcc) rfl (by first | assumption | exact sUp_eq | (rw [sUp_ne (by omega)]; assumption) | (rw [sUp_ne (by omega), sUp_ne (by omega)]; assumption) | (rw [sUp_ne (by omega)]; exact sUp_eq) | (rw [gSet_ne (by omega) (by omega)]; first | assumption | exact sUp_eq | (rw [sUp_ne (by omega)]; assumption) | (rw [sUp_ne (by omega), sUp_ne (by omega)]; assumption)) | (rw [sUp_ne (by omega), sUp_ne (by omega), sUp_ne (by omega)]; assumption) | (simp [sUp]; done)) rfl (Nat.le_of_ble_eq_true rfl) (by decide) ⟨by decide, by decide⟩ rfl ?_
                              rintro h18 ⟨C18, F18⟩
                              have c18 := C18.1
                              refine e_iload_11 (p' := 250) D_Law_tries_248 rfl ?_
                              refine e_icmp_eq (q := 255) (p' := 253) D_Law_tries_250 rfl rfl (fun hc250 => ?_) (fun hc250 => ?_)
                              ·
                                refine e_iload_15 (p' := 257) D_Law_tries_255 rfl ?_
                                refine e_iload_7 (p' := 259) D_Law_tries_257 rfl ?_
                                refine e_icmpN_le (q := 273) (p' := 262) D_Law_tries_259 (by omega) (by omega) rfl rfl (fun hc259 => ?_) (fun hc259 => ?_)
                                ·
                                  refine e_iload_8 (p' := 275) D_Law_tries_273 rfl ?_
                                  refine e_istore_8 (p' := 277) D_Law_tries_275 (Nat.le_of_ble_eq_true rfl) rfl rfl ?_
                                  refine e_iload_15 (p' := 279) D_Law_tries_277 rfl ?_
                                  refine e_iload_7 (p' := 281) D_Law_tries_279 rfl ?_
                                  refine e_icmpN_le (q := 289) (p' := 284) D_Law_tries_281 (by omega) (by omega) rfl rfl (fun hc281 => ?_) (fun hc281 => ?_)
                                  ·
                                    refine e_iload_7 (p' := 291) D_Law_tries_289 rfl ?_
                                    refine e_istore_7 (p' := 293) D_Law_tries_291 (Nat.le_of_ble_eq_true rfl) rfl rfl ?_
                                    first | refine e_iincN_10 (n := 1) (p' := 296) D_Law_tries_293 (Nat.le_of_ble_eq_true rfl) rfl rfl ?_ | refine e_iinc_10 (p' := 296) D_Law_tries_293 (Nat.le_of_ble_eq_true rfl) rfl rfl rfl ?_
                                    refine e_goto (p' := 57) D_Law_tries_296 rfl ?_
                                    refine sEv.castW (ih57 h18 _ ⟨C18, hS3⟩) ?_ ?_ ?_
                                    · exact ⟨rfl, rfl, rfl, rfl, rfl, rfl, by rw [bst_no (by omega) (by omega)], by unfold bsI; rw [bst_no (by omega) (by omega)], rfl, rfl, trivial⟩
                                    · rfl
                                    · first | rfl | (simp; done)
                                  ·
                                    exfalso; omega
                                ·
                                  refine e_bipush (v := nI 6) (p' := 264) D_Law_tries_262 cst_bipush_6 rfl ?_
                                  refine e_iload_9 (p' := 266) D_Law_tries_264 rfl ?_
                                  first | refine e_imulN (p' := 267) D_Law_tries_266 rfl ?_ | refine e_imul (p' := 267) D_Law_tries_266 rfl ?_
                                  refine e_iload_10 (p' := 269) D_Law_tries_267 rfl ?_
                                  first | refine e_iaddN (p' := 270) D_Law_tries_269 rfl ?_ | refine e_iadd (p' := 270) D_Law_tries_269 rfl ?_
                                  refine e_goto (p' := 275) D_Law_tries_270 rfl ?_
                                  refine e_istore_8 (p' := 277) D_Law_tries_275 (Nat.le_of_ble_eq_true rfl) rfl rfl ?_
                                  refine e_iload_15 (p' := 279) D_Law_tries_277 rfl ?_
                                  refine e_iload_7 (p' := 281) D_Law_tries_279 rfl ?_
                                  refine e_icmpN_le (q := 289) (p' := 284) D_Law_tries_281 (by omega) (by omega) rfl rfl (fun hc281 => ?_) (fun hc281 => ?_)
                                  ·
                                    exfalso; omega
                                  ·
                                    refine e_iload_15 (p' := 286) D_Law_tries_284 rfl ?_
                                    refine e_goto (p' := 291) D_Law_tries_286 rfl ?_
                                    refine e_istore_7 (p' := 293) D_Law_tries_291 (Nat.le_of_ble_eq_true rfl) rfl rfl ?_
                                    first | refine e_iincN_10 (n := 1) (p' := 296) D_Law_tries_293 (Nat.le_of_ble_eq_true rfl) rfl rfl ?_ | refine e_iinc_10 (p' := 296) D_Law_tries_293 (Nat.le_of_ble_eq_true rfl) rfl rfl rfl ?_
                                    refine e_goto (p' := 57) D_Law_tries_296 rfl ?_
                                    refine sEv.castW (ih57 h18 _ ⟨C18, hS3⟩) ?_ ?_ ?_
                                    · exact ⟨rfl, rfl, rfl, rfl, rfl, rfl, by rw [bst_go (by omega) hrr hcc (by omega)], by unfold bsI; rw [bst_go (by omega) hrr hcc (by omega), if_neg (by show ¬ gn (lay st.1).1 r c = 0; omega)], rfl, rfl, trivial⟩
                                    · rfl
                                    · first | rfl | (simp; done)
                              ·
                                first | exact absurd rfl hc250 | exact hc250 rfl | (exfalso; omega) | exact absurd hc250 (by decide) | exact absurd hc250 (by simp [*])
                        ·
                          refine e_iload_14 (p' := 185) D_Law_tries_183 rfl ?_
                          refine e_aload_0 (p' := 186) D_Law_tries_185 rfl ?_
                          refine e_iload_9 (p' := 188) D_Law_tries_186 rfl ?_
                          refine e_iload_10 (p' := 190) D_Law_tries_188 rfl ?_
                          refine e_iconst (v := nI 1) (p' := 191) D_Law_tries_190 cst_iconst_1 rfl ?_
                          refine y_callV1 (p' := 194) D_Law_tries_191 V_Law_33 (t_ent1 C15 hS2 hrr hcc) rfl (by first | assumption | exact sUp_eq | (rw [sUp_ne (by omega)]; assumption) | (rw [sUp_ne (by omega), sUp_ne (by omega)]; assumption) | (rw [sUp_ne (by omega)]; exact sUp_eq) | (rw [gSet_ne (by omega) (by omega)]; first | assumption | exact sUp_eq | (rw [sUp_ne (by omega)]; assumption) | (rw [sUp_ne (by omega), sUp_ne (by omega)]; assumption)) | (rw [sUp_ne (by omega), sUp_ne (by omega), sUp_ne (by omega)]; assumption) | (simp [sUp]; done)) rfl (Nat.le_of_ble_eq_true rfl) (by decide) ⟨by decide, by decide⟩ rfl ?_
                          rintro h16 ⟨C16, F16⟩
                          have c16 := C16.1
                          rw [(show num = 0 from hn3 (by omega))]
                          refine e_icmp_ne (q := 224) (p' := 197) D_Law_tries_194 rfl rfl (fun hc194 => ?_) (fun hc194 => ?_)
                          ·
                            first | exact absurd rfl hc194 | exact hc194 rfl | (exfalso; omega) | exact absurd hc194 (by decide) | exact absurd hc194 (by simp [*])
                          ·
                            refine e_iload_2 (p' := 198) D_Law_tries_197 rfl ?_
                            refine e_ifN_ne (q := 220) (p' := 201) D_Law_tries_198 (by omega) rfl rfl (fun hc198 => ?_) (fun hc198 => ?_)
                            ·
                              refine e_iconst (v := nI 1) (p' := 221) D_Law_tries_220 cst_iconst_1 rfl ?_
                              refine e_goto (p' := 225) D_Law_tries_221 rfl ?_
                              refine e_istore_16 (p' := 227) D_Law_tries_225 (Nat.le_of_ble_eq_true rfl) rfl rfl ?_
                              refine e_iload_16 (p' := 229) D_Law_tries_227 rfl ?_
                              refine e_ifN_eq (q := 253) (p' := 232) D_Law_tries_229 (by omega) rfl rfl (fun hc229 => ?_) (fun hc229 => ?_)
                              ·
                                first | exact absurd rfl hc229 | exact hc229 rfl | (exfalso; omega) | exact absurd hc229 (by decide) | exact absurd hc229 (by simp [*])
                              ·
                                refine e_aload_0 (p' := 233) D_Law_tries_232 rfl ?_
                                have hrl := recL (s := hs) (x := st.1) hSD.2.1.1
                                have hr6 : (recH hs st.1).1 ≤ 6 := hrl.2.2.1
                                refine y_callV1 (p' := 236) D_Law_tries_233 V_Law_70 (t_undo C16 hS2 hSD.2.1.1) rfl (by first | assumption | exact sUp_eq | (rw [sUp_ne (by omega)]; assumption) | (rw [sUp_ne (by omega), sUp_ne (by omega)]; assumption) | (rw [sUp_ne (by omega)]; exact sUp_eq) | (rw [gSet_ne (by omega) (by omega)]; first | assumption | exact sUp_eq | (rw [sUp_ne (by omega)]; assumption) | (rw [sUp_ne (by omega), sUp_ne (by omega)]; assumption)) | (rw [sUp_ne (by omega), sUp_ne (by omega), sUp_ne (by omega)]; assumption) | (simp [sUp]; done)) rfl (Nat.le_of_ble_eq_true rfl) (by decide) ⟨by decide, by decide⟩ rfl ?_
                                rintro h17 ⟨C17, F17⟩
                                have hS3 := t_und hS2 hSD.2.1.1
                                have c17 := C17.1
                                refine e_ifN_lt (q := 253) (p' := 239) D_Law_tries_236 (by omega) rfl rfl (fun hc236 => ?_) (fun hc236 => ?_)
                                ·
                                  exfalso; omega
                                ·
                                  refine e_aload_0 (p' := 240) D_Law_tries_239 rfl ?_
                                  refine e_iload_9 (p' := 242) D_Law_tries_240 rfl ?_
                                  refine e_iload_10 (p' := 244) D_Law_tries_242 rfl ?_
                                  refine e_iconst (v := nI 0) (p' := 245) D_Law_tries_244 cst_iconst_0 rfl ?_
                                  refine y_callV1 (p' := 248) D_Law_tries_245 V_Law_33 (t_ent0 C17 hS3 (r := r) (c := c) hrr hcc) rfl (by first | assumption | exact sUp_eq | (rw [sUp_ne (by omega)]; assumption) | (rw [sUp_ne (by omega), sUp_ne (by omega)]; assumption) | (rw [sUp_ne (by omega)]; exact sUp_eq) | (rw [gSet_ne (by omega) (by omega)]; first | assumption | exact sUp_eq | (rw [sUp_ne (by omega)]; assumption) | (rw [sUp_ne (by omega), sUp_ne (by omega)]; assumption)) | (rw [sUp_ne (by omega), sUp_ne (by omega), sUp_ne (by omega)]; assumption) | (simp [sUp]; done)) rfl (Nat.le_of_ble_eq_true rfl) (by decide) ⟨by decide, by decide⟩ rfl ?_
                                  rintro h18 ⟨C18, F18⟩
                                  have c18 := C18.1
                                  refine e_iload_11 (p' := 250) D_Law_tries_248 rfl ?_
                                  refine e_icmp_eq (q := 255) (p' := 253) D_Law_tries_250 rfl rfl (fun hc250 => ?_) (fun hc250 => ?_)
                                  ·
                                    refine e_iload_15 (p' := 257) D_Law_tries_255 rfl ?_
                                    refine e_iload_7 (p' := 259) D_Law_tries_257 rfl ?_
                                    refine e_icmpN_le (q := 273) (p' := 262) D_Law_tries_259 (by omega) (by omega) rfl rfl (fun hc259 => ?_) (fun hc259 => ?_)
                                    ·
                                      refine e_iload_8 (p' := 275) D_Law_tries_273 rfl ?_
                                      refine e_istore_8 (p' := 277) D_Law_tries_275 (Nat.le_of_ble_eq_true rfl) rfl rfl ?_
                                      refine e_iload_15 (p' := 279) D_Law_tries_277 rfl ?_
                                      refine e_iload_7 (p' := 281) D_Law_tries_279 rfl ?_
                                      refine e_icmpN_le (q := 289) (p' := 284) D_Law_tries_281 (by omega) (by omega) rfl rfl (fun hc281 => ?_) (fun hc281 => ?_)
                                      ·
                                        refine e_iload_7 (p' := 291) D_Law_tries_289 rfl ?_
                                        refine e_istore_7 (p' := 293) D_Law_tries_291 (Nat.le_of_ble_eq_true rfl) rfl rfl ?_
                                        first | refine e_iincN_10 (n := 1) (p' := 296) D_Law_tries_293 (Nat.le_of_ble_eq_true rfl) rfl rfl ?_ | refine e_iinc_10 (p' := 296) D_Law_tries_293 (Nat.le_of_ble_eq_true rfl) rfl rfl rfl ?_
                                        refine e_goto (p' := 57) D_Law_tries_296 rfl ?_
                                        refine sEv.castW (ih57 h18 _ ⟨C18, hS3⟩) ?_ ?_ ?_
                                        · exact ⟨rfl, rfl, rfl, rfl, rfl, rfl, by rw [bst_no (by omega) (by omega)], by unfold bsI; rw [bst_no (by omega) (by omega)], rfl, rfl, trivial⟩
                                        · rfl
                                        · first | rfl | (simp; done)
                                      ·
                                        exfalso; omega
                                    ·
                                      refine e_bipush (v := nI 6) (p' := 264) D_Law_tries_262 cst_bipush_6 rfl ?_
                                      refine e_iload_9 (p' := 266) D_Law_tries_264 rfl ?_
                                      first | refine e_imulN (p' := 267) D_Law_tries_266 rfl ?_ | refine e_imul (p' := 267) D_Law_tries_266 rfl ?_
                                      refine e_iload_10 (p' := 269) D_Law_tries_267 rfl ?_
                                      first | refine e_iaddN (p' := 270) D_Law_tries_269 rfl ?_ | refine e_iadd (p' := 270) D_Law_tries_269 rfl ?_
                                      refine e_goto (p' := 275) D_Law_tries_270 rfl ?_
                                      refine e_istore_8 (p' := 277) D_Law_tries_275 (Nat.le_of_ble_eq_true rfl) rfl rfl ?_
                                      refine e_iload_15 (p' := 279) D_Law_tries_277 rfl ?_
                                      refine e_iload_7 (p' := 281) D_Law_tries_279 rfl ?_
                                      refine e_icmpN_le (q := 289) (p' := 284) D_Law_tries_281 (by omega) (by omega) rfl rfl (fun hc281 => ?_) (fun hc281 => ?_)
                                      ·
                                        exfalso; omega
                                      ·
                                        refine e_iload_15 (p' := 286) D_Law_tries_284 rfl ?_
                                        refine e_goto (p' := 291) D_Law_tries_286 rfl ?_
                                        refine e_istore_7 (p' := 293) D_Law_tries_291 (Nat.le_of_ble_eq_true rfl) rfl rfl ?_
                                        first | refine e_iincN_10 (n := 1) (p' := 296) D_Law_tries_293 (Nat.le_of_ble_eq_true rfl) rfl rfl ?_ | refine e_iinc_10 (p' := 296) D_Law_tries_293 (Nat.le_of_ble_eq_true rfl) rfl rfl rfl ?_
                                        refine e_goto (p' := 57) D_Law_tries_296 rfl ?_
                                        refine sEv.castW (ih57 h18 _ ⟨C18, hS3⟩) ?_ ?_ ?_
                                        · exact ⟨rfl, rfl, rfl, rfl, rfl, rfl, by rw [bst_go (by omega) hrr hcc (by omega)], by unfold bsI; rw [bst_go (by omega) hrr hcc (by omega), if_neg (by show ¬ gn (lay st.1).1 r c = 0; omega)], rfl, rfl, trivial⟩
                                        · rfl
                                        · first | rfl | (simp; done)
                                  ·
                                    first | exact absurd rfl hc250 | exact hc250 rfl | (exfalso; omega) | exact absurd hc250 (by decide) | exact absurd hc250 (by simp [*])
                            ·
                              first | exact absurd rfl hc198 | exact hc198 rfl | (exfalso; omega) | exact absurd hc198 (by decide) | exact absurd hc198 (by simp [*])
                      refine e_iload_11 (p' := 160) D_Law_tries_158 rfl ?_
                      refine e_ifN_le (q := 167) (p' := 163) D_Law_tries_160 (by omega) rfl rfl (fun hc160 => ?_) (fun hc160 => ?_)
                      ·
                        refine e_aload_0 (p' := 168) D_Law_tries_167 rfl ?_
                        refine e_bipush (v := nI 6) (p' := 170) D_Law_tries_168 cst_bipush_6 rfl ?_
                        refine y_callV1 (p' := 173) D_Law_tries_170 V_Law_26 (t_cnt6 C13 hS2) rfl (by first | assumption | exact sUp_eq | (rw [sUp_ne (by omega)]; assumption) | (rw [sUp_ne (by omega), sUp_ne (by omega)]; assumption) | (rw [sUp_ne (by omega)]; exact sUp_eq) | (rw [gSet_ne (by omega) (by omega)]; first | assumption | exact sUp_eq | (rw [sUp_ne (by omega)]; assumption) | (rw [sUp_ne (by omega), sUp_ne (by omega)]; assumption)) | (rw [sUp_ne (by omega), sUp_ne (by omega), sUp_ne (by omega)]; assumption) | (simp [sUp]; done)) rfl (Nat.le_of_ble_eq_true rfl) (by decide) ⟨by decide, by decide⟩ rfl ?_
                        rintro h14 ⟨C14, F14⟩
                        have c14 := C14.1
                        refine e_iload_6 (p' := 175) D_Law_tries_173 rfl ?_
                        rw [show jnE (upd1 st.1 r c num) = jnE st.1 + gn (lay st.1).1 r c from gain_jn hx hrr hcc hn1 (hn2 (by omega))]
                        first | refine e_isubN (p' := 176) D_Law_tries_175 (by omega) rfl ?_ | refine e_isub (p' := 176) D_Law_tries_175 rfl ?_
                        refine sEv.castW (jn176 h14 C14) ?_ ?_ ?_
                        · exact lvW_rfl _
                        · rw [Nat.add_sub_cancel_left]
                        · first | rfl | (simp; done)
                      ·
                        refine e_iconst (v := nI 0) (p' := 164) D_Law_tries_163 cst_iconst_0 rfl ?_
                        refine e_goto (p' := 176) D_Law_tries_164 rfl ?_
                        refine sEv.castW (jn176 h13 C13) ?_ ?_ ?_
                        · exact lvW_rfl _
                        · rw [gn_td hx hrr hcc (td_true (by omega))]
                        · first | rfl | (simp; done)
                    ·
                      first | exact absurd rfl hc153 | exact hc153 rfl | (exfalso; omega) | exact absurd hc153 (by decide) | exact absurd hc153 (by simp [*])
                refine e_iload_11 (p' := 80) D_Law_tries_78 rfl ?_
                refine e_ifN_le (q := 87) (p' := 83) D_Law_tries_80 (by omega) rfl rfl (fun hc80 => ?_) (fun hc80 => ?_)
                ·
                  refine e_iconst (v := nI 1) (p' := 88) D_Law_tries_87 cst_iconst_1 rfl ?_
                  refine e_iload_1 (p' := 89) D_Law_tries_88 rfl ?_
                  refine e_iload_9 (p' := 91) D_Law_tries_89 rfl ?_
                  refine e_iload_10 (p' := 93) D_Law_tries_91 rfl ?_
                  first | refine e_iaddN (p' := 94) D_Law_tries_93 rfl ?_ | refine e_iadd (p' := 94) D_Law_tries_93 rfl ?_
                  refine e_ishr (p' := 95) D_Law_tries_94 rfl ?_
                  refine e_aload_0 (p' := 96) D_Law_tries_95 rfl ?_
                  refine e_iconst (v := nI 2) (p' := 97) D_Law_tries_96 cst_iconst_2 rfl ?_
                  refine y_callV1 (p' := 100) D_Law_tries_97 V_Law_26 (t_cnt2 C7 hSD) rfl (by first | assumption | exact sUp_eq | (rw [sUp_ne (by omega)]; assumption) | (rw [sUp_ne (by omega), sUp_ne (by omega)]; assumption) | (rw [sUp_ne (by omega)]; exact sUp_eq) | (rw [gSet_ne (by omega) (by omega)]; first | assumption | exact sUp_eq | (rw [sUp_ne (by omega)]; assumption) | (rw [sUp_ne (by omega), sUp_ne (by omega)]; assumption)) | (rw [sUp_ne (by omega), sUp_ne (by omega), sUp_ne (by omega)]; assumption) | (simp [sUp]; done)) rfl (Nat.le_of_ble_eq_true rfl) (by decide) ⟨by decide, by decide⟩ rfl ?_
                  rintro h8 ⟨C8, F8⟩
                  have c8 := C8.1
                  refine e_iconst (v := nI 1) (p' := 101) D_Law_tries_100 cst_iconst_1 rfl ?_
                  first | refine e_isubN (p' := 102) D_Law_tries_101 (by omega) rfl ?_ | refine e_isub (p' := 102) D_Law_tries_101 rfl ?_
                  refine x_callS1 (p' := 105) D_Law_tries_102 S_Law_16 (c_Law_low (by omega) (by omega)) rfl rfl (Nat.le_of_ble_eq_true rfl) (by decide) ⟨by decide, by decide⟩ rfl ?_
                  first | refine e_iaddN (p' := 106) D_Law_tries_105 rfl ?_ | refine e_iadd (p' := 106) D_Law_tries_105 rfl ?_
                  refine sEv.castW (jn106 h8 (1 + lowN (v >>> (nI (r + c) &&& 31)) (st.1.1.2.2 - 1)) ⟨C8, by have := lowN_lt (v := v >>> (nI (r + c) &&& 31)) (n := st.1.1.2.2 - 1) (by omega); omega, fun _ => by omega, fun z => by omega⟩) ?_ ?_ ?_
                  · exact lvW_rfl _
                  · rfl
                  · first | rfl | (simp; done)
                ·
                  refine e_iconst (v := nI 0) (p' := 84) D_Law_tries_83 cst_iconst_0 rfl ?_
                  refine e_goto (p' := 106) D_Law_tries_84 rfl ?_
                  refine sEv.castW (jn106 h7 0 ⟨C7, by omega, fun z => by omega, fun _ => rfl⟩) ?_ ?_ ?_
                  · exact lvW_rfl _
                  · rfl
                  · first | rfl | (simp; done)
          refine sEv.castW (lk57 0 (by omega) h5 _ ⟨C5, hSC⟩) ?_ ?_ ?_
          · exact ⟨rfl, rfl, rfl, rfl, rfl, rfl, rfl, rfl, rfl, rfl, trivial⟩
          · rfl
          · first | rfl | (simp; done)
    refine sEv.castW (lk44 0 (by omega) h4 st.2.1 ⟨C4, hS⟩) ?_ ?_ ?_
    · exact ⟨rfl, rfl, rfl, rfl, rfl, rfl, rfl, rfl, rfl, trivial⟩
    · rfl
    · first | rfl | (simp; done)
set_option maxRecDepth 4000 in
theorem c_Law_triesN {l : Launch} {h : sH} {st : St} (hC : CInv h st) (hS : StOk st) (hw : wellX st.1 = false) {v : Int32} : sY l m_Law_tries 7 [.ref 0, .int v] h (some (.int (nI 1))) (fun h1 => ∃ hs : Hs, CInv h1 (st.1, hs, st.2.2) ∧ StOk (st.1, hs, st.2.2)) := by
  have hx := hS.1
  have hz := l_sz hx
  have hR := hx.1
  have hCc := hx.2.1
  have hm := hx.2.2.1.le
  have hj36 := jnE_36 hx
  have c0 := hC.1
  refine en_Law_tries ?_
  refine e_aload_0 (p' := 1) D_Law_tries_0 rfl ?_
  refine e_iconst (v := nI 5) (p' := 2) D_Law_tries_1 cst_iconst_5 rfl ?_
  refine y_callV1 (p' := 5) D_Law_tries_2 V_Law_26 (k_cnt5 hC hS) rfl (by first | assumption | exact sUp_eq | (rw [sUp_ne (by omega)]; assumption) | (rw [sUp_ne (by omega), sUp_ne (by omega)]; assumption) | (rw [sUp_ne (by omega)]; exact sUp_eq) | (rw [gSet_ne (by omega) (by omega)]; first | assumption | exact sUp_eq | (rw [sUp_ne (by omega)]; assumption) | (rw [sUp_ne (by omega), sUp_ne (by omega)]; assumption)) | (rw [sUp_ne (by omega), sUp_ne (by omega), sUp_ne (by omega)]; assumption) | (simp [sUp]; done)) rfl (Nat.le_of_ble_eq_true rfl) (by decide) ⟨by decide, by decide⟩ rfl ?_
  rintro h1 ⟨C1, F1⟩
  have c1 := C1.1
  rw [hw]
  refine e_iconst (v := nI 1) (p' := 6) D_Law_tries_5 cst_iconst_1 rfl ?_
  refine e_icmp_ne (q := 13) (p' := 9) D_Law_tries_6 rfl rfl (fun hc6 => ?_) (fun hc6 => ?_)
  ·
    refine e_iconst (v := nI 0) (p' := 14) D_Law_tries_13 cst_iconst_0 rfl ?_
    refine e_istore_2 (p' := 15) D_Law_tries_14 (Nat.le_of_ble_eq_true rfl) rfl rfl ?_
    refine e_aload_0 (p' := 16) D_Law_tries_15 rfl ?_
    refine y_callV1 (p' := 19) D_Law_tries_16 V_Law_61 (c_O_spoilers C1 hS) rfl (by first | assumption | exact sUp_eq | (rw [sUp_ne (by omega)]; assumption) | (rw [sUp_ne (by omega), sUp_ne (by omega)]; assumption) | (rw [sUp_ne (by omega)]; exact sUp_eq) | (rw [gSet_ne (by omega) (by omega)]; first | assumption | exact sUp_eq | (rw [sUp_ne (by omega)]; assumption) | (rw [sUp_ne (by omega), sUp_ne (by omega)]; assumption)) | (rw [sUp_ne (by omega), sUp_ne (by omega), sUp_ne (by omega)]; assumption) | (simp [sUp]; done)) rfl (Nat.le_of_ble_eq_true rfl) (by decide) ⟨by decide, by decide⟩ rfl ?_
    rintro h2 ⟨C2, F2⟩
    have c2 := C2.1
    rw [show Vspoil st.1 = lN (mk 36 (spl st.1)) from if_neg (by rw [hw]; decide)]
    refine e_lstore_3 (p' := 20) D_Law_tries_19 (Nat.le_of_ble_eq_true rfl) rfl rfl ?_
    refine e_aload_0 (p' := 21) D_Law_tries_20 rfl ?_
    refine e_iconst (v := nI 2) (p' := 22) D_Law_tries_21 cst_iconst_2 rfl ?_
    refine y_callV1 (p' := 25) D_Law_tries_22 V_Law_64 (k_best C2 hS (w := 2) (by omega)) rfl (by first | assumption | exact sUp_eq | (rw [sUp_ne (by omega)]; assumption) | (rw [sUp_ne (by omega), sUp_ne (by omega)]; assumption) | (rw [sUp_ne (by omega)]; exact sUp_eq) | (rw [gSet_ne (by omega) (by omega)]; first | assumption | exact sUp_eq | (rw [sUp_ne (by omega)]; assumption) | (rw [sUp_ne (by omega), sUp_ne (by omega)]; assumption)) | (rw [sUp_ne (by omega), sUp_ne (by omega), sUp_ne (by omega)]; assumption) | (simp [sUp]; done)) rfl (Nat.le_of_ble_eq_true rfl) (by decide) ⟨by decide, by decide⟩ rfl ?_
    rintro h3 ⟨C3, F3⟩
    have c3 := C3.1
    refine e_istore_5 (p' := 27) D_Law_tries_25 (Nat.le_of_ble_eq_true rfl) rfl rfl ?_
    refine e_aload_0 (p' := 28) D_Law_tries_27 rfl ?_
    refine e_bipush (v := nI 6) (p' := 30) D_Law_tries_28 cst_bipush_6 rfl ?_
    refine y_callV1 (p' := 33) D_Law_tries_30 V_Law_26 (k_cnt6 C3 hS) rfl (by first | assumption | exact sUp_eq | (rw [sUp_ne (by omega)]; assumption) | (rw [sUp_ne (by omega), sUp_ne (by omega)]; assumption) | (rw [sUp_ne (by omega)]; exact sUp_eq) | (rw [gSet_ne (by omega) (by omega)]; first | assumption | exact sUp_eq | (rw [sUp_ne (by omega)]; assumption) | (rw [sUp_ne (by omega), sUp_ne (by omega)]; assumption)) | (rw [sUp_ne (by omega), sUp_ne (by omega), sUp_ne (by omega)]; assumption) | (simp [sUp]; done)) rfl (Nat.le_of_ble_eq_true rfl) (by decide) ⟨by decide, by decide⟩ rfl ?_
    rintro h4 ⟨C4, F4⟩
    have c4 := C4.1
    refine e_istore_6 (p' := 35) D_Law_tries_33 (Nat.le_of_ble_eq_true rfl) rfl rfl ?_
    refine e_iconst (v := nI 0) (p' := 36) D_Law_tries_35 cst_iconst_0 rfl ?_
    refine e_istore_7 (p' := 38) D_Law_tries_36 (Nat.le_of_ble_eq_true rfl) rfl rfl ?_
    refine e_iconst (v := (-1)) (p' := 39) D_Law_tries_38 cst_iconst_m1 rfl ?_
    refine e_istore_8 (p' := 41) D_Law_tries_39 (Nat.le_of_ble_eq_true rfl) rfl rfl ?_
    refine e_iconst (v := nI 0) (p' := 42) D_Law_tries_41 cst_iconst_0 rfl ?_
    refine e_istore_9 (p' := 44) D_Law_tries_42 (Nat.le_of_ble_eq_true rfl) rfl rfl ?_
    have lk44 : ∀ r : Nat, r ≤ st.1.1.1 → ∀ (h1 : sH) (hs : Hs), (CInv h1 (st.1, hs, st.2.2) ∧ StOk (st.1, hs, st.2.2)) → sEv l m_Law_tries 7 (0, 0, 0, 0) (sKm 0 0 (fun r1 h1 => r1 = some (.int (nI 1)) ∧ (fun h1 => ∃ hs : Hs, CInv h1 (st.1, hs, st.2.2) ∧ StOk (st.1, hs, st.2.2)) h1)) 44 [some (.ref 0), some (.int v), some (.int (nI 0)), some (.long (lN (mk 36 (spl st.1)))), none, some (.int (bE st.1 2)), some (.int (nI (jnE st.1))), some (.int (nI (bst st.1 (6 * r)).2)), some (.int (bsI st.1 (6 * r))), some (.int (nI r)), none, none, none, none, none, none, none] [] (h1) := by
      refine lp_up _ ?_ ?_
      · intro h1 hs ⟨CC, hSC⟩
        have cc := CC.1
        refine e_iload_9 (p' := 46) D_Law_tries_44 rfl ?_
        refine e_aload_0 (p' := 47) D_Law_tries_46 rfl ?_
        refine e_iconst (v := nI 0) (p' := 48) D_Law_tries_47 cst_iconst_0 rfl ?_
        refine y_callV1 (p' := 51) D_Law_tries_48 V_Law_26 (t_cnt0 CC hSC) rfl (by first | assumption | exact sUp_eq | (rw [sUp_ne (by omega)]; assumption) | (rw [sUp_ne (by omega), sUp_ne (by omega)]; assumption) | (rw [sUp_ne (by omega)]; exact sUp_eq) | (rw [gSet_ne (by omega) (by omega)]; first | assumption | exact sUp_eq | (rw [sUp_ne (by omega)]; assumption) | (rw [sUp_ne (by omega), sUp_ne (by omega)]; assumption)) | (rw [sUp_ne (by omega), sUp_ne (by omega), sUp_ne (by omega)]; assumption) | (simp [sUp]; done)) rfl (Nat.le_of_ble_eq_true rfl) (by decide) ⟨by decide, by decide⟩ rfl ?_
        rintro h5 ⟨C5, F5⟩
        have c5 := C5.1
        refine e_icmpN_ge (q := 305) (p' := 54) D_Law_tries_51 (by omega) (by omega) rfl rfl (fun hc51 => ?_) (fun hc51 => ?_)
        ·
          rw [show bsI st.1 (6 * st.1.1.1) = bsI st.1 36 from by unfold bsI; rw [all_end hx], all_end hx]
          have hb36 := bst_le (x := st.1) 36
          refine e_iload_2 (p' := 306) D_Law_tries_305 rfl ?_
          refine e_lload_3 (p' := 307) D_Law_tries_306 rfl ?_
          refine e_ldc2 (p' := 310) D_Law_tries_307 K_Law_74 rfl ?_
          refine e_lcmp (p' := 311) D_Law_tries_310 rfl ?_
          refine e_if_ne (q := 318) (p' := 314) D_Law_tries_311 rfl rfl (fun hc311 => ?_) (fun hc311 => ?_)
          ·
            refine e_iconst (v := nI 0) (p' := 319) D_Law_tries_318 cst_iconst_0 rfl ?_
            refine e_icmpN_eq (q := 324) (p' := 322) D_Law_tries_319 (by omega) (by omega) rfl rfl (fun hc319 => ?_) (fun hc319 => ?_)
            ·
              refine e_iload_8 (p' := 326) D_Law_tries_324 rfl ?_
              refine e_if_ge (q := 353) (p' := 329) D_Law_tries_326 rfl rfl (fun hc326 => ?_) (fun hc326 => ?_)
              ·
                have hbz : (bst st.1 36).2 ≠ 0 := fun z => absurd hc326 (by unfold bsI; rw [if_pos z]; decide)
                rw [show bE st.1 2 = nI (bst st.1 36).2 from if_neg hbz, show bsI st.1 36 = nI (bst st.1 36).1 from if_neg hbz]
                refine e_iload_5 (p' := 355) D_Law_tries_353 rfl ?_
                refine e_iload_7 (p' := 357) D_Law_tries_355 rfl ?_
                refine e_icmp_ne (q := 383) (p' := 360) D_Law_tries_357 rfl rfl (fun hc357 => ?_) (fun hc357 => ?_)
                ·
                  first | exact absurd rfl hc357 | exact hc357 rfl | (exfalso; omega) | exact absurd hc357 (by decide) | exact absurd hc357 (by simp [*])
                ·
                  refine e_bipush (v := nI 6) (p' := 362) D_Law_tries_360 cst_bipush_6 rfl ?_
                  refine e_aload_0 (p' := 363) D_Law_tries_362 rfl ?_
                  refine e_iconst (v := nI 0) (p' := 364) D_Law_tries_363 cst_iconst_0 rfl ?_
                  refine y_callV1 (p' := 367) D_Law_tries_364 V_Law_64 (t_best C5 hSC (k := 0) (by omega)) rfl (by first | assumption | exact sUp_eq | (rw [sUp_ne (by omega)]; assumption) | (rw [sUp_ne (by omega), sUp_ne (by omega)]; assumption) | (rw [sUp_ne (by omega)]; exact sUp_eq) | (rw [gSet_ne (by omega) (by omega)]; first | assumption | exact sUp_eq | (rw [sUp_ne (by omega)]; assumption) | (rw [sUp_ne (by omega), sUp_ne (by omega)]; assumption)) | (rw [sUp_ne (by omega), sUp_ne (by omega), sUp_ne (by omega)]; assumption) | (simp [sUp]; done)) rfl (Nat.le_of_ble_eq_true rfl) (by decide) ⟨by decide, by decide⟩ rfl ?_
                  rintro h19 ⟨C19, F19⟩
                  have c19 := C19.1
                  rw [show bE st.1 0 = nI ((bst st.1 36).1 / 6) from if_neg hbz]
                  first | refine e_imulN (p' := 368) D_Law_tries_367 rfl ?_ | refine e_imul (p' := 368) D_Law_tries_367 rfl ?_
                  refine e_aload_0 (p' := 369) D_Law_tries_368 rfl ?_
                  refine e_iconst (v := nI 1) (p' := 370) D_Law_tries_369 cst_iconst_1 rfl ?_
                  refine y_callV1 (p' := 373) D_Law_tries_370 V_Law_64 (t_best C19 hSC (k := 1) (by omega)) rfl (by first | assumption | exact sUp_eq | (rw [sUp_ne (by omega)]; assumption) | (rw [sUp_ne (by omega), sUp_ne (by omega)]; assumption) | (rw [sUp_ne (by omega)]; exact sUp_eq) | (rw [gSet_ne (by omega) (by omega)]; first | assumption | exact sUp_eq | (rw [sUp_ne (by omega)]; assumption) | (rw [sUp_ne (by omega), sUp_ne (by omega)]; assumption)) | (rw [sUp_ne (by omega), sUp_ne (by omega), sUp_ne (by omega)]; assumption) | (simp [sUp]; done)) rfl (Nat.le_of_ble_eq_true rfl) (by decide) ⟨by decide, by decide⟩ rfl ?_
                  rintro h20 ⟨C20, F20⟩
                  have c20 := C20.1
                  rw [show bE st.1 1 = nI ((bst st.1 36).1 % 6) from if_neg hbz]
                  first | refine e_iaddN (p' := 374) D_Law_tries_373 rfl ?_ | refine e_iadd (p' := 374) D_Law_tries_373 rfl ?_
                  refine e_iload_8 (p' := 376) D_Law_tries_374 rfl ?_
                  refine e_icmpN_ne (q := 383) (p' := 379) D_Law_tries_376 (by omega) (by omega) rfl rfl (fun hc376 => ?_) (fun hc376 => ?_)
                  ·
                    exfalso; omega
                  ·
                    refine e_iconst (v := nI 1) (p' := 380) D_Law_tries_379 cst_iconst_1 rfl ?_
                    refine e_goto (p' := 384) D_Law_tries_380 rfl ?_
                    refine e_ireturn (ty := .boolean) D_Law_tries_384 rfl (by first | rfl | exact sBo_nar _) ⟨by decide, by decide⟩ ?_
                    exact ⟨rfl, _, C20, hSC⟩
              ·
                have hbz : (bst st.1 36).2 = 0 := Classical.byContradiction fun z => hc326 (by unfold bsI; rw [if_neg z]; exact Int32.not_lt.mp (nI_pos (by omega)))
                rw [show bE st.1 2 = -6 from if_pos hbz]
                refine e_iload_5 (p' := 331) D_Law_tries_329 rfl ?_
                refine e_bipush (v := (-6)) (p' := 333) D_Law_tries_331 cst_bipush_m6 rfl ?_
                refine e_icmp_ne (q := 349) (p' := 336) D_Law_tries_333 rfl rfl (fun hc333 => ?_) (fun hc333 => ?_)
                ·
                  first | exact absurd rfl hc333 | exact hc333 rfl | (exfalso; omega) | exact absurd hc333 (by decide) | exact absurd hc333 (by simp [*])
                ·
                  refine e_aload_0 (p' := 337) D_Law_tries_336 rfl ?_
                  refine e_iconst (v := nI 4) (p' := 338) D_Law_tries_337 cst_iconst_4 rfl ?_
                  refine y_callV1 (p' := 341) D_Law_tries_338 V_Law_26 (t_cnt4 C5 hSC) rfl (by first | assumption | exact sUp_eq | (rw [sUp_ne (by omega)]; assumption) | (rw [sUp_ne (by omega), sUp_ne (by omega)]; assumption) | (rw [sUp_ne (by omega)]; exact sUp_eq) | (rw [gSet_ne (by omega) (by omega)]; first | assumption | exact sUp_eq | (rw [sUp_ne (by omega)]; assumption) | (rw [sUp_ne (by omega), sUp_ne (by omega)]; assumption)) | (rw [sUp_ne (by omega), sUp_ne (by omega), sUp_ne (by omega)]; assumption) | (simp [sUp]; done)) rfl (Nat.le_of_ble_eq_true rfl) (by decide) ⟨by decide, by decide⟩ rfl ?_
                  rintro h19 ⟨C19, F19⟩
                  have c19 := C19.1
                  have hn1 := (bst_one hx).mp hbz
                  refine e_iconst (v := nI 1) (p' := 342) D_Law_tries_341 cst_iconst_1 rfl ?_
                  refine e_icmpN_ne (q := 349) (p' := 345) D_Law_tries_342 (by omega) (by omega) rfl rfl (fun hc342 => ?_) (fun hc342 => ?_)
                  ·
                    exfalso; omega
                  ·
                    refine e_iconst (v := nI 1) (p' := 346) D_Law_tries_345 cst_iconst_1 rfl ?_
                    refine e_goto (p' := 384) D_Law_tries_346 rfl ?_
                    refine e_ireturn (ty := .boolean) D_Law_tries_384 rfl (by first | rfl | exact sBo_nar _) ⟨by decide, by decide⟩ ?_
                    exact ⟨rfl, _, C19, hSC⟩
            ·
              first | exact absurd rfl hc319 | exact hc319 rfl | (exfalso; omega) | exact absurd hc319 (by decide) | exact absurd hc319 (by simp [*])
          ·
            exact absurd ((lg_cmp_eq _ _).mp hc311) (lN_6 (by have := mk_lt (n := 36) (p := spl st.1); omega))
        ·
          exfalso; omega
      · intro r hr ih44 h1 hs ⟨CC, hSC⟩
        have cc := CC.1
        refine e_iload_9 (p' := 46) D_Law_tries_44 rfl ?_
        refine e_aload_0 (p' := 47) D_Law_tries_46 rfl ?_
        refine e_iconst (v := nI 0) (p' := 48) D_Law_tries_47 cst_iconst_0 rfl ?_
        refine y_callV1 (p' := 51) D_Law_tries_48 V_Law_26 (t_cnt0 CC hSC) rfl (by first | assumption | exact sUp_eq | (rw [sUp_ne (by omega)]; assumption) | (rw [sUp_ne (by omega), sUp_ne (by omega)]; assumption) | (rw [sUp_ne (by omega)]; exact sUp_eq) | (rw [gSet_ne (by omega) (by omega)]; first | assumption | exact sUp_eq | (rw [sUp_ne (by omega)]; assumption) | (rw [sUp_ne (by omega), sUp_ne (by omega)]; assumption)) | (rw [sUp_ne (by omega), sUp_ne (by omega), sUp_ne (by omega)]; assumption) | (simp [sUp]; done)) rfl (Nat.le_of_ble_eq_true rfl) (by decide) ⟨by decide, by decide⟩ rfl ?_
        rintro h5 ⟨C5, F5⟩
        have c5 := C5.1
        refine e_icmpN_ge (q := 305) (p' := 54) D_Law_tries_51 (by omega) (by omega) rfl rfl (fun hc51 => ?_) (fun hc51 => ?_)
        ·
          exfalso; omega
        ·
          refine e_iconst (v := nI 0) (p' := 55) D_Law_tries_54 cst_iconst_0 rfl ?_
          refine e_istore_10 (p' := 57) D_Law_tries_55 (Nat.le_of_ble_eq_true rfl) rfl rfl ?_
          have lk57 : ∀ c : Nat, c ≤ st.1.1.2.1 → ∀ (h1 : sH) (hs : Hs), (CInv h1 (st.1, hs, st.2.2) ∧ StOk (st.1, hs, st.2.2)) → sEv l m_Law_tries 7 (0, 0, 0, 0) (sKm 0 0 (fun r1 h1 => r1 = some (.int (nI 1)) ∧ (fun h1 => ∃ hs : Hs, CInv h1 (st.1, hs, st.2.2) ∧ StOk (st.1, hs, st.2.2)) h1)) 57 [some (.ref 0), some (.int v), some (.int (nI 0)), some (.long (lN (mk 36 (spl st.1)))), none, some (.int (bE st.1 2)), some (.int (nI (jnE st.1))), some (.int (nI (bst st.1 (6 * r + c)).2)), some (.int (bsI st.1 (6 * r + c))), some (.int (nI r)), some (.int (nI c)), none, none, none, none, none, none] [] (h1) := by
            refine lp_up _ ?_ ?_
            · intro h1 hs ⟨CD, hSD⟩
              have cd := CD.1
              refine e_iload_10 (p' := 59) D_Law_tries_57 rfl ?_
              refine e_aload_0 (p' := 60) D_Law_tries_59 rfl ?_
              refine e_iconst (v := nI 1) (p' := 61) D_Law_tries_60 cst_iconst_1 rfl ?_
              refine y_callV1 (p' := 64) D_Law_tries_61 V_Law_26 (t_cnt1 CD hSD) rfl (by first | assumption | exact sUp_eq | (rw [sUp_ne (by omega)]; assumption) | (rw [sUp_ne (by omega), sUp_ne (by omega)]; assumption) | (rw [sUp_ne (by omega)]; exact sUp_eq) | (rw [gSet_ne (by omega) (by omega)]; first | assumption | exact sUp_eq | (rw [sUp_ne (by omega)]; assumption) | (rw [sUp_ne (by omega), sUp_ne (by omega)]; assumption)) | (rw [sUp_ne (by omega), sUp_ne (by omega), sUp_ne (by omega)]; assumption) | (simp [sUp]; done)) rfl (Nat.le_of_ble_eq_true rfl) (by decide) ⟨by decide, by decide⟩ rfl ?_
              rintro h6 ⟨C6, F6⟩
              have c6 := C6.1
              refine e_icmpN_ge (q := 299) (p' := 67) D_Law_tries_64 (by omega) (by omega) rfl rfl (fun hc64 => ?_) (fun hc64 => ?_)
              ·
                first | refine e_iincN_9 (n := 1) (p' := 302) D_Law_tries_299 (Nat.le_of_ble_eq_true rfl) rfl rfl ?_ | refine e_iinc_9 (p' := 302) D_Law_tries_299 (Nat.le_of_ble_eq_true rfl) rfl rfl rfl ?_
                refine e_goto (p' := 44) D_Law_tries_302 rfl ?_
                refine sEv.castW (ih44 h6 _ ⟨C6, hSD⟩) ?_ ?_ ?_
                · exact ⟨rfl, rfl, rfl, rfl, rfl, rfl, by rw [row_end hx], by unfold bsI; rw [row_end hx], rfl, trivial⟩
                · rfl
                · first | rfl | (simp; done)
              ·
                exfalso; omega
            · intro c hc ih57 h1 hs ⟨CD, hSD⟩
              have cd := CD.1
              refine e_iload_10 (p' := 59) D_Law_tries_57 rfl ?_
              refine e_aload_0 (p' := 60) D_Law_tries_59 rfl ?_
              refine e_iconst (v := nI 1) (p' := 61) D_Law_tries_60 cst_iconst_1 rfl ?_
              refine y_callV1 (p' := 64) D_Law_tries_61 V_Law_26 (t_cnt1 CD hSD) rfl (by first | assumption | exact sUp_eq | (rw [sUp_ne (by omega)]; assumption) | (rw [sUp_ne (by omega), sUp_ne (by omega)]; assumption) | (rw [sUp_ne (by omega)]; exact sUp_eq) | (rw [gSet_ne (by omega) (by omega)]; first | assumption | exact sUp_eq | (rw [sUp_ne (by omega)]; assumption) | (rw [sUp_ne (by omega), sUp_ne (by omega)]; assumption)) | (rw [sUp_ne (by omega), sUp_ne (by omega), sUp_ne (by omega)]; assumption) | (simp [sUp]; done)) rfl (Nat.le_of_ble_eq_true rfl) (by decide) ⟨by decide, by decide⟩ rfl ?_
              rintro h6 ⟨C6, F6⟩
              have c6 := C6.1
              refine e_icmpN_ge (q := 299) (p' := 67) D_Law_tries_64 (by omega) (by omega) rfl rfl (fun hc64 => ?_) (fun hc64 => ?_)
              ·
                exfalso; omega
              ·
                have hrr : r < st.1.1.1 := by omega
                have hcc : c < st.1.1.2.1 := by omega
                have hbl := bst_le (x := st.1) (6 * r + c)
                refine e_aload_0 (p' := 68) D_Law_tries_67 rfl ?_
                refine e_iload_9 (p' := 70) D_Law_tries_68 rfl ?_
                refine e_iload_10 (p' := 72) D_Law_tries_70 rfl ?_
                refine e_iconst (v := nI 0) (p' := 73) D_Law_tries_72 cst_iconst_0 rfl ?_
                refine y_callV1 (p' := 76) D_Law_tries_73 V_Law_33 (t_ent0 C6 hSD (r := r) (c := c) hrr hcc) rfl (by first | assumption | exact sUp_eq | (rw [sUp_ne (by omega)]; assumption) | (rw [sUp_ne (by omega), sUp_ne (by omega)]; assumption) | (rw [sUp_ne (by omega)]; exact sUp_eq) | (rw [gSet_ne (by omega) (by omega)]; first | assumption | exact sUp_eq | (rw [sUp_ne (by omega)]; assumption) | (rw [sUp_ne (by omega), sUp_ne (by omega)]; assumption)) | (rw [sUp_ne (by omega), sUp_ne (by omega), sUp_ne (by omega)]; assumption) | (simp [sUp]; done)) rfl (Nat.le_of_ble_eq_true rfl) (by decide) ⟨by decide, by decide⟩ rfl ?_
                rintro h7 ⟨C7, F7⟩
                have c7 := C7.1
                have hat := hx.small r c
                refine e_istore_11 (p' := 78) D_Law_tries_76 (Nat.le_of_ble_eq_true rfl) rfl rfl ?_
                have jn106 : ∀ (h9 : sH) (num : Nat), (CInv h9 (st.1, hs, st.2.2) ∧ num < st.1.1.2.2 ∧ (at' st.1 r c = 0 → num ≠ 0) ∧ (at' st.1 r c ≠ 0 → num = 0)) → sEv l m_Law_tries 7 (0, 0, 0, 0) (sKm 0 0 (fun r1 h1 => r1 = some (.int (nI 1)) ∧ (fun h1 => ∃ hs : Hs, CInv h1 (st.1, hs, st.2.2) ∧ StOk (st.1, hs, st.2.2)) h1)) 106 [some (.ref 0), some (.int v), some (.int (nI 0)), some (.long (lN (mk 36 (spl st.1)))), none, some (.int (bE st.1 2)), some (.int (nI (jnE st.1))), some (.int (nI (bst st.1 (6 * r + c)).2)), some (.int (bsI st.1 (6 * r + c))), some (.int (nI r)), some (.int (nI c)), some (.int (nI (at' st.1 r c))), none, none, none, none, none] [.int (nI num)] h9 := by
                  rintro h9 num ⟨C9, hn1, hn2, hn3⟩
                  have c9 := C9.1
                  refine e_istore_12 (p' := 108) D_Law_tries_106 (Nat.le_of_ble_eq_true rfl) rfl rfl ?_
                  refine e_aload_0 (p' := 109) D_Law_tries_108 rfl ?_
                  refine e_iload_9 (p' := 111) D_Law_tries_109 rfl ?_
                  refine e_iload_10 (p' := 113) D_Law_tries_111 rfl ?_
                  refine e_iload_12 (p' := 115) D_Law_tries_113 rfl ?_
                  refine y_callV1 (p' := 118) D_Law_tries_115 V_Law_67 (t_wif C9 hSD hrr hcc hn1) rfl (by first | assumption | exact sUp_eq | (rw [sUp_ne (by omega)]; assumption) | (rw [sUp_ne (by omega), sUp_ne (by omega)]; assumption) | (rw [sUp_ne (by omega)]; exact sUp_eq) | (rw [gSet_ne (by omega) (by omega)]; first | assumption | exact sUp_eq | (rw [sUp_ne (by omega)]; assumption) | (rw [sUp_ne (by omega), sUp_ne (by omega)]; assumption)) | (rw [sUp_ne (by omega), sUp_ne (by omega), sUp_ne (by omega)]; assumption) | (simp [sUp]; done)) rfl (Nat.le_of_ble_eq_true rfl) (by decide) ⟨by decide, by decide⟩ rfl ?_
                  rintro h10 ⟨C10, F10⟩
                  have c10 := C10.1
                  refine e_istore_13 (p' := 120) D_Law_tries_118 (Nat.le_of_ble_eq_true rfl) rfl rfl ?_
                  refine e_aload_0 (p' := 121) D_Law_tries_120 rfl ?_
                  refine e_iload_9 (p' := 123) D_Law_tries_121 rfl ?_
                  refine e_iload_10 (p' := 125) D_Law_tries_123 rfl ?_
                  refine e_iconst (v := nI 2) (p' := 126) D_Law_tries_125 cst_iconst_2 rfl ?_
                  refine y_callV1 (p' := 129) D_Law_tries_126 V_Law_33 (t_ent2 C10 hSD hrr hcc) rfl (by first | assumption | exact sUp_eq | (rw [sUp_ne (by omega)]; assumption) | (rw [sUp_ne (by omega), sUp_ne (by omega)]; assumption) | (rw [sUp_ne (by omega)]; exact sUp_eq) | (rw [gSet_ne (by omega) (by omega)]; first | assumption | exact sUp_eq | (rw [sUp_ne (by omega)]; assumption) | (rw [sUp_ne (by omega), sUp_ne (by omega)]; assumption)) | (rw [sUp_ne (by omega), sUp_ne (by omega), sUp_ne (by omega)]; assumption) | (simp [sUp]; done)) rfl (Nat.le_of_ble_eq_true rfl) (by decide) ⟨by decide, by decide⟩ rfl ?_
                  rintro h11 ⟨C11, F11⟩
                  have c11 := C11.1
                  refine e_istore_14 (p' := 131) D_Law_tries_129 (Nat.le_of_ble_eq_true rfl) rfl rfl ?_
                  refine e_aload_0 (p' := 132) D_Law_tries_131 rfl ?_
                  refine e_iload_9 (p' := 134) D_Law_tries_132 rfl ?_
                  refine e_iload_10 (p' := 136) D_Law_tries_134 rfl ?_
                  refine e_iload_12 (p' := 138) D_Law_tries_136 rfl ?_
                  refine y_callV1 (p' := 141) D_Law_tries_138 V_Law_30 (t_tell C11 hSD hrr hcc hn1) rfl (by first | assumption | exact sUp_eq | (rw [sUp_ne (by omega)]; assumption) | (rw [sUp_ne (by omega), sUp_ne (by omega)]; assumption) | (rw [sUp_ne (by omega)]; exact sUp_eq) | (rw [gSet_ne (by omega) (by omega)]; first | assumption | exact sUp_eq | (rw [sUp_ne (by omega)]; assumption) | (rw [sUp_ne (by omega), sUp_ne (by omega)]; assumption)) | (rw [sUp_ne (by omega), sUp_ne (by omega), sUp_ne (by omega)]; assumption) | (simp [sUp]; done)) rfl (Nat.le_of_ble_eq_true rfl) (by decide) ⟨by decide, by decide⟩ rfl ?_
                  rintro h12 ⟨C12, F12⟩
                  have c12 := C12.1
                  have hS2 : StOk ((upd1 st.1 r c num), recH hs st.1, st.2.2) := chg_ok hSD (up_ok hx hrr hcc hn1)
                  have hgn := gn_72 (s := (lay st.1).1) (r := r) (c := c)
                  refine e_iload_11 (p' := 143) D_Law_tries_141 rfl ?_
                  refine e_icmp_ne (q := 156) (p' := 146) D_Law_tries_143 rfl rfl (fun hc143 => ?_) (fun hc143 => ?_)
                  ·
                    first | exact absurd rfl hc143 | exact hc143 rfl | (exfalso; omega) | exact absurd hc143 (by decide) | exact absurd hc143 (by simp [*])
                  ·
                    refine e_aload_0 (p' := 147) D_Law_tries_146 rfl ?_
                    refine e_iconst (v := nI 5) (p' := 148) D_Law_tries_147 cst_iconst_5 rfl ?_
                    refine y_callV1 (p' := 151) D_Law_tries_148 V_Law_26 (t_cnt5 C12 hS2) rfl (by first | assumption | exact sUp_eq | (rw [sUp_ne (by omega)]; assumption) | (rw [sUp_ne (by omega), sUp_ne (by omega)]; assumption) | (rw [sUp_ne (by omega)]; exact sUp_eq) | (rw [gSet_ne (by omega) (by omega)]; first | assumption | exact sUp_eq | (rw [sUp_ne (by omega)]; assumption) | (rw [sUp_ne (by omega), sUp_ne (by omega)]; assumption)) | (rw [sUp_ne (by omega), sUp_ne (by omega), sUp_ne (by omega)]; assumption) | (simp [sUp]; done)) rfl (Nat.le_of_ble_eq_true rfl) (by decide) ⟨by decide, by decide⟩ rfl ?_
                    rintro h13 ⟨C13, F13⟩
                    have c13 := C13.1
                    refine e_iload_13 (p' := 153) D_Law_tries_151 rfl ?_
                    refine e_icmp_eq (q := 158) (p' := 156) D_Law_tries_153 rfl rfl (fun hc153 => ?_) (fun hc153 => ?_)
                    ·
                      have jn176 : ∀ (h15 : sH), CInv h15 ((upd1 st.1 r c num), recH hs st.1, st.2.2) → sEv l m_Law_tries 7 (0, 0, 0, 0) (sKm 0 0 (fun r1 h1 => r1 = some (.int (nI 1)) ∧ (fun h1 => ∃ hs : Hs, CInv h1 (st.1, hs, st.2.2) ∧ StOk (st.1, hs, st.2.2)) h1)) 176 [some (.ref 0), some (.int v), some (.int (nI 0)), some (.long (lN (mk 36 (spl st.1)))), none, some (.int (bE st.1 2)), some (.int (nI (jnE st.1))), some (.int (nI (bst st.1 (6 * r + c)).2)), some (.int (bsI st.1 (6 * r + c))), some (.int (nI r)), some (.int (nI c)), some (.int (nI (at' st.1 r c))), some (.int (nI num)), some (.int (sBo (wellX (upd1 st.1 r c num)))), some (.int (fol (upd1 st.1 r c 0) r c)), none, none] [.int (nI (gn (lay st.1).1 r c))] h15 := by
                        intro h15 C15
                        have c15 := C15.1
                        refine e_istore_15 (p' := 178) D_Law_tries_176 (Nat.le_of_ble_eq_true rfl) rfl rfl ?_
                        refine e_iload_11 (p' := 180) D_Law_tries_178 rfl ?_
                        refine e_ifN_eq (q := 220) (p' := 183) D_Law_tries_180 (by omega) rfl rfl (fun hc180 => ?_) (fun hc180 => ?_)
                        ·
                          refine e_iconst (v := nI 1) (p' := 221) D_Law_tries_220 cst_iconst_1 rfl ?_
                          refine e_goto (p' := 225) D_Law_tries_221 rfl ?_
                          refine e_istore_16 (p' := 227) D_Law_tries_225 (Nat.le_of_ble_eq_true rfl) rfl rfl ?_
                          refine e_iload_16 (p' := 229) D_Law_tries_227 rfl ?_
                          refine e_ifN_eq (q := 253) (p' := 232) D_Law_tries_229 (by omega) rfl rfl (fun hc229 => ?_) (fun hc229 => ?_)
                          ·
                            first | exact absurd rfl hc229 | exact hc229 rfl | (exfalso; omega) | exact absurd hc229 (by decide) | exact absurd hc229 (by simp [*])
                          ·
                            refine e_aload_0 (p' := 233) D_Law_tries_232 rfl ?_
                            have hrl := recL (s := hs) (x := st.1) hSD.2.1.1
                            have hr6 : (recH hs st.1).1 ≤ 6 := hrl.2.2.1
                            refine y_callV1 (p' := 236) D_Law_tries_233 V_Law_70 (t_undo C15 hS2 hSD.2.1.1) rfl (by first | assumption | exact sUp_eq | (rw [sUp_ne (by omega)]; assumption) | (rw [sUp_ne (by omega), sUp_ne (by omega)]; assumption) | (rw [sUp_ne (by omega)]; exact sUp_eq) | (rw [gSet_ne (by omega) (by omega)]; first | assumption | exact sUp_eq | (rw [sUp_ne (by omega)]; assumption) | (rw [sUp_ne (by omega), sUp_ne (by omega)]; assumption)) | (rw [sUp_ne (by omega), sUp_ne (by omega), sUp_ne (by omega)]; assumption) | (simp [sUp]; done)) rfl (Nat.le_of_ble_eq_true rfl) (by decide) ⟨by decide, by decide⟩ rfl ?_
                            rintro h17 ⟨C17, F17⟩
                            have hS3 := t_und hS2 hSD.2.1.1
                            have c17 := C17.1
                            refine e_ifN_lt (q := 253) (p' := 239) D_Law_tries_236 (by omega) rfl rfl (fun hc236 => ?_) (fun hc236 => ?_)
                            ·
                              exfalso; omega
                            ·
                              refine e_aload_0 (p' := 240) D_Law_tries_239 rfl ?_
                              refine e_iload_9 (p' := 242) D_Law_tries_240 rfl ?_
                              refine e_iload_10 (p' := 244) D_Law_tries_242 rfl ?_
                              refine e_iconst (v := nI 0) (p' := 245) D_Law_tries_244 cst_iconst_0 rfl ?_
                              refine y_callV1 (p' := 248) D_Law_tries_245 V_Law_33 (t_ent0 C17 hS3 (r := r) (c := c) hrr hcc) rfl (by first | assumption | exact sUp_eq | (rw [sUp_ne (by omega)]; assumption) | (rw [sUp_ne (by omega), sUp_ne (by omega)]; assumption) | (rw [sUp_ne (by omega)]; exact sUp_eq) | (rw [gSet_ne (by omega) (by omega)]; first | assumption | exact sUp_eq | (rw [sUp_ne (by omega)]; assumption) | (rw [sUp_ne (by omega), sUp_ne (by omega)]; assumption)) | (rw [sUp_ne (by omega), sUp_ne (by omega), sUp_ne (by omega)]; assumption) | (simp [sUp]; done)) rfl (Nat.le_of_ble_eq_true rfl) (by decide) ⟨by decide, by decide⟩ rfl ?_
                              rintro h18 ⟨C18, F18⟩
                              have c18 := C18.1
                              refine e_iload_11 (p' := 250) D_Law_tries_248 rfl ?_
                              refine e_icmp_eq (q := 255) (p' := 253) D_Law_tries_250 rfl rfl (fun hc250 => ?_) (fun hc250 => ?_)
                              ·
                                refine e_iload_15 (p' := 257) D_Law_tries_255 rfl ?_
                                refine e_iload_7 (p' := 259) D_Law_tries_257 rfl ?_
                                refine e_icmpN_le (q := 273) (p' := 262) D_Law_tries_259 (by omega) (by omega) rfl rfl (fun hc259 => ?_) (fun hc259 => ?_)
                                ·
                                  refine e_iload_8 (p' := 275) D_Law_tries_273 rfl ?_
                                  refine e_istore_8 (p' := 277) D_Law_tries_275 (Nat.le_of_ble_eq_true rfl) rfl rfl ?_
                                  refine e_iload_15 (p' := 279) D_Law_tries_277 rfl ?_
                                  refine e_iload_7 (p' := 281) D_Law_tries_279 rfl ?_
                                  refine e_icmpN_le (q := 289) (p' := 284) D_Law_tries_281 (by omega) (by omega) rfl rfl (fun hc281 => ?_) (fun hc281 => ?_)
                                  ·
                                    refine e_iload_7 (p' := 291) D_Law_tries_289 rfl ?_
                                    refine e_istore_7 (p' := 293) D_Law_tries_291 (Nat.le_of_ble_eq_true rfl) rfl rfl ?_
                                    first | refine e_iincN_10 (n := 1) (p' := 296) D_Law_tries_293 (Nat.le_of_ble_eq_true rfl) rfl rfl ?_ | refine e_iinc_10 (p' := 296) D_Law_tries_293 (Nat.le_of_ble_eq_true rfl) rfl rfl rfl ?_
                                    refine e_goto (p' := 57) D_Law_tries_296 rfl ?_
                                    refine sEv.castW (ih57 h18 _ ⟨C18, hS3⟩) ?_ ?_ ?_
                                    · exact ⟨rfl, rfl, rfl, rfl, rfl, rfl, by rw [bst_no (by omega) (by omega)], by unfold bsI; rw [bst_no (by omega) (by omega)], rfl, rfl, trivial⟩
                                    · rfl
                                    · first | rfl | (simp; done)
                                  ·
                                    exfalso; omega
                                ·
                                  refine e_bipush (v := nI 6) (p' := 264) D_Law_tries_262 cst_bipush_6 rfl ?_
                                  refine e_iload_9 (p' := 266) D_Law_tries_264 rfl ?_
                                  first | refine e_imulN (p' := 267) D_Law_tries_266 rfl ?_ | refine e_imul (p' := 267) D_Law_tries_266 rfl ?_
                                  refine e_iload_10 (p' := 269) D_Law_tries_267 rfl ?_
                                  first | refine e_iaddN (p' := 270) D_Law_tries_269 rfl ?_ | refine e_iadd (p' := 270) D_Law_tries_269 rfl ?_
                                  refine e_goto (p' := 275) D_Law_tries_270 rfl ?_
                                  refine e_istore_8 (p' := 277) D_Law_tries_275 (Nat.le_of_ble_eq_true rfl) rfl rfl ?_
                                  refine e_iload_15 (p' := 279) D_Law_tries_277 rfl ?_
                                  refine e_iload_7 (p' := 281) D_Law_tries_279 rfl ?_
                                  refine e_icmpN_le (q := 289) (p' := 284) D_Law_tries_281 (by omega) (by omega) rfl rfl (fun hc281 => ?_) (fun hc281 => ?_)
                                  ·
                                    exfalso; omega
                                  ·
                                    refine e_iload_15 (p' := 286) D_Law_tries_284 rfl ?_
                                    refine e_goto (p' := 291) D_Law_tries_286 rfl ?_
                                    refine e_istore_7 (p' := 293) D_Law_tries_291 (Nat.le_of_ble_eq_true rfl) rfl rfl ?_
                                    first | refine e_iincN_10 (n := 1) (p' := 296) D_Law_tries_293 (Nat.le_of_ble_eq_true rfl) rfl rfl ?_ | refine e_iinc_10 (p' := 296) D_Law_tries_293 (Nat.le_of_ble_eq_true rfl) rfl rfl rfl ?_
                                    refine e_goto (p' := 57) D_Law_tries_296 rfl ?_
                                    refine sEv.castW (ih57 h18 _ ⟨C18, hS3⟩) ?_ ?_ ?_
                                    · exact ⟨rfl, rfl, rfl, rfl, rfl, rfl, by rw [bst_go (by omega) hrr hcc (by omega)], by unfold bsI; rw [bst_go (by omega) hrr hcc (by omega), if_neg (by show ¬ gn (lay st.1).1 r c = 0; omega)], rfl, rfl, trivial⟩
                                    · rfl
                                    · first | rfl | (simp; done)
                              ·
                                first | exact absurd rfl hc250 | exact hc250 rfl | (exfalso; omega) | exact absurd hc250 (by decide) | exact absurd hc250 (by simp [*])
                        ·
                          refine e_iload_14 (p' := 185) D_Law_tries_183 rfl ?_
                          refine e_aload_0 (p' := 186) D_Law_tries_185 rfl ?_
                          refine e_iload_9 (p' := 188) D_Law_tries_186 rfl ?_
                          refine e_iload_10 (p' := 190) D_Law_tries_188 rfl ?_
                          refine e_iconst (v := nI 1) (p' := 191) D_Law_tries_190 cst_iconst_1 rfl ?_
                          refine y_callV1 (p' := 194) D_Law_tries_191 V_Law_33 (t_ent1 C15 hS2 hrr hcc) rfl (by first | assumption | exact sUp_eq | (rw [sUp_ne (by omega)]; assumption) | (rw [sUp_ne (by omega), sUp_ne (by omega)]; assumption) | (rw [sUp_ne (by omega)]; exact sUp_eq) | (rw [gSet_ne (by omega) (by omega)]; first | assumption | exact sUp_eq | (rw [sUp_ne (by omega)]; assumption) | (rw [sUp_ne (by omega), sUp_ne (by omega)]; assumption)) | (rw [sUp_ne (by omega), sUp_ne (by omega), sUp_ne (by omega)]; assumption) | (simp [sUp]; done)) rfl (Nat.le_of_ble_eq_true rfl) (by decide) ⟨by decide, by decide⟩ rfl ?_
                          rintro h16 ⟨C16, F16⟩
                          have c16 := C16.1
                          rw [(show num = 0 from hn3 (by omega))]
                          refine e_icmp_ne (q := 224) (p' := 197) D_Law_tries_194 rfl rfl (fun hc194 => ?_) (fun hc194 => ?_)
                          ·
                            first | exact absurd rfl hc194 | exact hc194 rfl | (exfalso; omega) | exact absurd hc194 (by decide) | exact absurd hc194 (by simp [*])
                          ·
                            refine e_iload_2 (p' := 198) D_Law_tries_197 rfl ?_
                            refine e_ifN_ne (q := 220) (p' := 201) D_Law_tries_198 (by omega) rfl rfl (fun hc198 => ?_) (fun hc198 => ?_)
                            ·
                              first | exact absurd rfl hc198 | exact hc198 rfl | (exfalso; omega) | exact absurd hc198 (by decide) | exact absurd hc198 (by simp [*])
                            ·
                              refine e_lload_3 (p' := 202) D_Law_tries_201 rfl ?_
                              refine e_bipush (v := nI 6) (p' := 204) D_Law_tries_202 cst_bipush_6 rfl ?_
                              refine e_iload_9 (p' := 206) D_Law_tries_204 rfl ?_
                              first | refine e_imulN (p' := 207) D_Law_tries_206 rfl ?_ | refine e_imul (p' := 207) D_Law_tries_206 rfl ?_
                              refine e_iload_10 (p' := 209) D_Law_tries_207 rfl ?_
                              first | refine e_iaddN (p' := 210) D_Law_tries_209 rfl ?_ | refine e_iadd (p' := 210) D_Law_tries_209 rfl ?_
                              refine e_lshr (p' := 211) D_Law_tries_210 rfl rfl ?_
                              refine e_lconst (v := lN 1) (p' := 212) D_Law_tries_211 rfl rfl ?_
                              refine e_land (p' := 213) D_Law_tries_212 rfl ?_
                              rw [spl_bit (by omega)]
                              refine e_iload_13 (p' := 215) D_Law_tries_213 rfl ?_
                              first | refine e_i2lN (p' := 216) D_Law_tries_215 (by omega) rfl ?_ | refine e_i2l (p' := 216) D_Law_tries_215 rfl rfl ?_
                              rw [sBo_l, spl_at (show at' st.1 r c ≠ 0 by omega)]
                              refine e_lcmp (p' := 217) D_Law_tries_216 rfl ?_
                              refine e_if_ne (q := 224) (p' := 220) D_Law_tries_217 rfl rfl (fun hc217 => ?_) (fun hc217 => ?_)
                              ·
                                exact absurd (lg_cmp_r _) hc217
                              ·
                                refine e_iconst (v := nI 1) (p' := 221) D_Law_tries_220 cst_iconst_1 rfl ?_
                                refine e_goto (p' := 225) D_Law_tries_221 rfl ?_
                                refine e_istore_16 (p' := 227) D_Law_tries_225 (Nat.le_of_ble_eq_true rfl) rfl rfl ?_
                                refine e_iload_16 (p' := 229) D_Law_tries_227 rfl ?_
                                refine e_ifN_eq (q := 253) (p' := 232) D_Law_tries_229 (by omega) rfl rfl (fun hc229 => ?_) (fun hc229 => ?_)
                                ·
                                  first | exact absurd rfl hc229 | exact hc229 rfl | (exfalso; omega) | exact absurd hc229 (by decide) | exact absurd hc229 (by simp [*])
                                ·
                                  refine e_aload_0 (p' := 233) D_Law_tries_232 rfl ?_
                                  have hrl := recL (s := hs) (x := st.1) hSD.2.1.1
                                  have hr6 : (recH hs st.1).1 ≤ 6 := hrl.2.2.1
                                  refine y_callV1 (p' := 236) D_Law_tries_233 V_Law_70 (t_undo C16 hS2 hSD.2.1.1) rfl (by first | assumption | exact sUp_eq | (rw [sUp_ne (by omega)]; assumption) | (rw [sUp_ne (by omega), sUp_ne (by omega)]; assumption) | (rw [sUp_ne (by omega)]; exact sUp_eq) | (rw [gSet_ne (by omega) (by omega)]; first | assumption | exact sUp_eq | (rw [sUp_ne (by omega)]; assumption) | (rw [sUp_ne (by omega), sUp_ne (by omega)]; assumption)) | (rw [sUp_ne (by omega), sUp_ne (by omega), sUp_ne (by omega)]; assumption) | (simp [sUp]; done)) rfl (Nat.le_of_ble_eq_true rfl) (by decide) ⟨by decide, by decide⟩ rfl ?_
                                  rintro h17 ⟨C17, F17⟩
                                  have hS3 := t_und hS2 hSD.2.1.1
                                  have c17 := C17.1
                                  refine e_ifN_lt (q := 253) (p' := 239) D_Law_tries_236 (by omega) rfl rfl (fun hc236 => ?_) (fun hc236 => ?_)
                                  ·
                                    exfalso; omega
                                  ·
                                    refine e_aload_0 (p' := 240) D_Law_tries_239 rfl ?_
                                    refine e_iload_9 (p' := 242) D_Law_tries_240 rfl ?_
                                    refine e_iload_10 (p' := 244) D_Law_tries_242 rfl ?_
                                    refine e_iconst (v := nI 0) (p' := 245) D_Law_tries_244 cst_iconst_0 rfl ?_
                                    refine y_callV1 (p' := 248) D_Law_tries_245 V_Law_33 (t_ent0 C17 hS3 (r := r) (c := c) hrr hcc) rfl (by first | assumption | exact sUp_eq | (rw [sUp_ne (by omega)]; assumption) | (rw [sUp_ne (by omega), sUp_ne (by omega)]; assumption) | (rw [sUp_ne (by omega)]; exact sUp_eq) | (rw [gSet_ne (by omega) (by omega)]; first | assumption | exact sUp_eq | (rw [sUp_ne (by omega)]; assumption) | (rw [sUp_ne (by omega), sUp_ne (by omega)]; assumption)) | (rw [sUp_ne (by omega), sUp_ne (by omega), sUp_ne (by omega)]; assumption) | (simp [sUp]; done)) rfl (Nat.le_of_ble_eq_true rfl) (by decide) ⟨by decide, by decide⟩ rfl ?_
                                    rintro h18 ⟨C18, F18⟩
                                    have c18 := C18.1
                                    refine e_iload_11 (p' := 250) D_Law_tries_248 rfl ?_
                                    refine e_icmp_eq (q := 255) (p' := 253) D_Law_tries_250 rfl rfl (fun hc250 => ?_) (fun hc250 => ?_)
                                    ·
                                      refine e_iload_15 (p' := 257) D_Law_tries_255 rfl ?_
                                      refine e_iload_7 (p' := 259) D_Law_tries_257 rfl ?_
                                      refine e_icmpN_le (q := 273) (p' := 262) D_Law_tries_259 (by omega) (by omega) rfl rfl (fun hc259 => ?_) (fun hc259 => ?_)
                                      ·
                                        refine e_iload_8 (p' := 275) D_Law_tries_273 rfl ?_
                                        refine e_istore_8 (p' := 277) D_Law_tries_275 (Nat.le_of_ble_eq_true rfl) rfl rfl ?_
                                        refine e_iload_15 (p' := 279) D_Law_tries_277 rfl ?_
                                        refine e_iload_7 (p' := 281) D_Law_tries_279 rfl ?_
                                        refine e_icmpN_le (q := 289) (p' := 284) D_Law_tries_281 (by omega) (by omega) rfl rfl (fun hc281 => ?_) (fun hc281 => ?_)
                                        ·
                                          refine e_iload_7 (p' := 291) D_Law_tries_289 rfl ?_
                                          refine e_istore_7 (p' := 293) D_Law_tries_291 (Nat.le_of_ble_eq_true rfl) rfl rfl ?_
                                          first | refine e_iincN_10 (n := 1) (p' := 296) D_Law_tries_293 (Nat.le_of_ble_eq_true rfl) rfl rfl ?_ | refine e_iinc_10 (p' := 296) D_Law_tries_293 (Nat.le_of_ble_eq_true rfl) rfl rfl rfl ?_
                                          refine e_goto (p' := 57) D_Law_tries_296 rfl ?_
                                          refine sEv.castW (ih57 h18 _ ⟨C18, hS3⟩) ?_ ?_ ?_
                                          · exact ⟨rfl, rfl, rfl, rfl, rfl, rfl, by rw [bst_no (by omega) (by omega)], by unfold bsI; rw [bst_no (by omega) (by omega)], rfl, rfl, trivial⟩
                                          · rfl
                                          · first | rfl | (simp; done)
                                        ·
                                          exfalso; omega
                                      ·
                                        refine e_bipush (v := nI 6) (p' := 264) D_Law_tries_262 cst_bipush_6 rfl ?_
                                        refine e_iload_9 (p' := 266) D_Law_tries_264 rfl ?_
                                        first | refine e_imulN (p' := 267) D_Law_tries_266 rfl ?_ | refine e_imul (p' := 267) D_Law_tries_266 rfl ?_
                                        refine e_iload_10 (p' := 269) D_Law_tries_267 rfl ?_
                                        first | refine e_iaddN (p' := 270) D_Law_tries_269 rfl ?_ | refine e_iadd (p' := 270) D_Law_tries_269 rfl ?_
                                        refine e_goto (p' := 275) D_Law_tries_270 rfl ?_
                                        refine e_istore_8 (p' := 277) D_Law_tries_275 (Nat.le_of_ble_eq_true rfl) rfl rfl ?_
                                        refine e_iload_15 (p' := 279) D_Law_tries_277 rfl ?_
                                        refine e_iload_7 (p' := 281) D_Law_tries_279 rfl ?_
                                        refine e_icmpN_le (q := 289) (p' := 284) D_Law_tries_281 (by omega) (by omega) rfl rfl (fun hc281 => ?_) (fun hc281 => ?_)
                                        ·
                                          exfalso; omega
                                        ·
                                          refine e_iload_15 (p' := 286) D_Law_tries_284 rfl ?_
                                          refine e_goto (p' := 291) D_Law_tries_286 rfl ?_
                                          refine e_istore_7 (p' := 293) D_Law_tries_291 (Nat.le_of_ble_eq_true rfl) rfl rfl ?_
                                          first | refine e_iincN_10 (n := 1) (p' := 296) D_Law_tries_293 (Nat.le_of_ble_eq_true rfl) rfl rfl ?_ | refine e_iinc_10 (p' := 296) D_Law_tries_293 (Nat.le_of_ble_eq_true rfl) rfl rfl rfl ?_
                                          refine e_goto (p' := 57) D_Law_tries_296 rfl ?_
                                          refine sEv.castW (ih57 h18 _ ⟨C18, hS3⟩) ?_ ?_ ?_
                                          · exact ⟨rfl, rfl, rfl, rfl, rfl, rfl, by rw [bst_go (by omega) hrr hcc (by omega)], by unfold bsI; rw [bst_go (by omega) hrr hcc (by omega), if_neg (by show ¬ gn (lay st.1).1 r c = 0; omega)], rfl, rfl, trivial⟩
                                          · rfl
                                          · first | rfl | (simp; done)
                                    ·
                                      first | exact absurd rfl hc250 | exact hc250 rfl | (exfalso; omega) | exact absurd hc250 (by decide) | exact absurd hc250 (by simp [*])
                      refine e_iload_11 (p' := 160) D_Law_tries_158 rfl ?_
                      refine e_ifN_le (q := 167) (p' := 163) D_Law_tries_160 (by omega) rfl rfl (fun hc160 => ?_) (fun hc160 => ?_)
                      ·
                        refine e_aload_0 (p' := 168) D_Law_tries_167 rfl ?_
                        refine e_bipush (v := nI 6) (p' := 170) D_Law_tries_168 cst_bipush_6 rfl ?_
                        refine y_callV1 (p' := 173) D_Law_tries_170 V_Law_26 (t_cnt6 C13 hS2) rfl (by first | assumption | exact sUp_eq | (rw [sUp_ne (by omega)]; assumption) | (rw [sUp_ne (by omega), sUp_ne (by omega)]; assumption) | (rw [sUp_ne (by omega)]; exact sUp_eq) | (rw [gSet_ne (by omega) (by omega)]; first | assumption | exact sUp_eq | (rw [sUp_ne (by omega)]; assumption) | (rw [sUp_ne (by omega), sUp_ne (by omega)]; assumption)) | (rw [sUp_ne (by omega), sUp_ne (by omega), sUp_ne (by omega)]; assumption) | (simp [sUp]; done)) rfl (Nat.le_of_ble_eq_true rfl) (by decide) ⟨by decide, by decide⟩ rfl ?_
                        rintro h14 ⟨C14, F14⟩
                        have c14 := C14.1
                        refine e_iload_6 (p' := 175) D_Law_tries_173 rfl ?_
                        rw [show jnE (upd1 st.1 r c num) = jnE st.1 + gn (lay st.1).1 r c from gain_jn hx hrr hcc hn1 (hn2 (by omega))]
                        first | refine e_isubN (p' := 176) D_Law_tries_175 (by omega) rfl ?_ | refine e_isub (p' := 176) D_Law_tries_175 rfl ?_
                        refine sEv.castW (jn176 h14 C14) ?_ ?_ ?_
                        · exact lvW_rfl _
                        · rw [Nat.add_sub_cancel_left]
                        · first | rfl | (simp; done)
                      ·
                        refine e_iconst (v := nI 0) (p' := 164) D_Law_tries_163 cst_iconst_0 rfl ?_
                        refine e_goto (p' := 176) D_Law_tries_164 rfl ?_
                        refine sEv.castW (jn176 h13 C13) ?_ ?_ ?_
                        · exact lvW_rfl _
                        · rw [gn_td hx hrr hcc (td_true (by omega))]
                        · first | rfl | (simp; done)
                    ·
                      first | exact absurd rfl hc153 | exact hc153 rfl | (exfalso; omega) | exact absurd hc153 (by decide) | exact absurd hc153 (by simp [*])
                refine e_iload_11 (p' := 80) D_Law_tries_78 rfl ?_
                refine e_ifN_le (q := 87) (p' := 83) D_Law_tries_80 (by omega) rfl rfl (fun hc80 => ?_) (fun hc80 => ?_)
                ·
                  refine e_iconst (v := nI 1) (p' := 88) D_Law_tries_87 cst_iconst_1 rfl ?_
                  refine e_iload_1 (p' := 89) D_Law_tries_88 rfl ?_
                  refine e_iload_9 (p' := 91) D_Law_tries_89 rfl ?_
                  refine e_iload_10 (p' := 93) D_Law_tries_91 rfl ?_
                  first | refine e_iaddN (p' := 94) D_Law_tries_93 rfl ?_ | refine e_iadd (p' := 94) D_Law_tries_93 rfl ?_
                  refine e_ishr (p' := 95) D_Law_tries_94 rfl ?_
                  refine e_aload_0 (p' := 96) D_Law_tries_95 rfl ?_
                  refine e_iconst (v := nI 2) (p' := 97) D_Law_tries_96 cst_iconst_2 rfl ?_
                  refine y_callV1 (p' := 100) D_Law_tries_97 V_Law_26 (t_cnt2 C7 hSD) rfl (by first | assumption | exact sUp_eq | (rw [sUp_ne (by omega)]; assumption) | (rw [sUp_ne (by omega), sUp_ne (by omega)]; assumption) | (rw [sUp_ne (by omega)]; exact sUp_eq) | (rw [gSet_ne (by omega) (by omega)]; first | assumption | exact sUp_eq | (rw [sUp_ne (by omega)]; assumption) | (rw [sUp_ne (by omega), sUp_ne (by omega)]; assumption)) | (rw [sUp_ne (by omega), sUp_ne (by omega), sUp_ne (by omega)]; assumption) | (simp [sUp]; done)) rfl (Nat.le_of_ble_eq_true rfl) (by decide) ⟨by decide, by decide⟩ rfl ?_
                  rintro h8 ⟨C8, F8⟩
                  have c8 := C8.1
                  refine e_iconst (v := nI 1) (p' := 101) D_Law_tries_100 cst_iconst_1 rfl ?_
                  first | refine e_isubN (p' := 102) D_Law_tries_101 (by omega) rfl ?_ | refine e_isub (p' := 102) D_Law_tries_101 rfl ?_
                  refine x_callS1 (p' := 105) D_Law_tries_102 S_Law_16 (c_Law_low (by omega) (by omega)) rfl rfl (Nat.le_of_ble_eq_true rfl) (by decide) ⟨by decide, by decide⟩ rfl ?_
                  first | refine e_iaddN (p' := 106) D_Law_tries_105 rfl ?_ | refine e_iadd (p' := 106) D_Law_tries_105 rfl ?_
                  refine sEv.castW (jn106 h8 (1 + lowN (v >>> (nI (r + c) &&& 31)) (st.1.1.2.2 - 1)) ⟨C8, by have := lowN_lt (v := v >>> (nI (r + c) &&& 31)) (n := st.1.1.2.2 - 1) (by omega); omega, fun _ => by omega, fun z => by omega⟩) ?_ ?_ ?_
                  · exact lvW_rfl _
                  · rfl
                  · first | rfl | (simp; done)
                ·
                  refine e_iconst (v := nI 0) (p' := 84) D_Law_tries_83 cst_iconst_0 rfl ?_
                  refine e_goto (p' := 106) D_Law_tries_84 rfl ?_
                  refine sEv.castW (jn106 h7 0 ⟨C7, by omega, fun z => by omega, fun _ => rfl⟩) ?_ ?_ ?_
                  · exact lvW_rfl _
                  · rfl
                  · first | rfl | (simp; done)
          refine sEv.castW (lk57 0 (by omega) h5 _ ⟨C5, hSC⟩) ?_ ?_ ?_
          · exact ⟨rfl, rfl, rfl, rfl, rfl, rfl, rfl, rfl, rfl, rfl, trivial⟩
          · rfl
          · first | rfl | (simp; done)
    refine sEv.castW (lk44 0 (by omega) h4 st.2.1 ⟨C4, hS⟩) ?_ ?_ ?_
    · exact ⟨rfl, rfl, rfl, rfl, rfl, rfl, rfl, rfl, rfl, trivial⟩
    · rfl
    · first | rfl | (simp; done)
  ·
    exact absurd hc6 (by decide)
theorem c_Law_tries {l : Launch} {h : sH} {st : St} (hC : CInv h st) (hS : StOk st) {v : Int32} : sY l m_Law_tries 7 [.ref 0, .int v] h (some (.int (nI 1))) (fun h1 => ∃ hs : Hs, CInv h1 (st.1, hs, st.2.2) ∧ StOk (st.1, hs, st.2.2)) := by
  cases hw : wellX st.1 with
  | true => exact c_Law_triesW hC hS hw
  | false => exact c_Law_triesN hC hS hw
