/-! ===== contracts: Parts.find ===== -/
theorem sBo_fit (b : Bool) : fits .boolean (.int (sBo b)) = true := by cases b <;> rfl
theorem al_succ {n : Nat} {p : Nat → Bool} : al (n + 1) p = (al n p && p n) := rfl
def wl (x : Gd) (s : Ps) (r c : Nat) : Bool := !td x r c || decide (at' x r c = s.2.1 r * s.2.2 c % x.1.2.2)
theorem psWell_wl {x : Gd} {s : Ps} : psWell x s = al x.1.1 (fun r => al x.1.2.1 (fun c => wl x s r c)) := rfl
theorem PtC.head {h : sH} {sz n : Nat} {con con' : Bool} {f1 f2 f3 f4 : Nat → Int32} (C : PtC h sz con f1 f2 f3 f4) : PtC (sUp h 7 (oC 5 [.ref 8, .ref 10, .ref 12, .ref 14, .int (nI n), .int (sBo con')])) n con' f1 f2 f3 f4 := by
  obtain ⟨c1, ⟨c2, c3⟩, ⟨c4, c5⟩, ⟨c6, c7⟩, ⟨c8, c9⟩⟩ := C
  exact ⟨sUp_eq, ⟨(sUp_ne (by omega)).trans c2, (sUp_ne (by omega)).trans c3⟩, ⟨(sUp_ne (by omega)).trans c4, (sUp_ne (by omega)).trans c5⟩, ⟨(sUp_ne (by omega)).trans c6, (sUp_ne (by omega)).trans c7⟩, ⟨(sUp_ne (by omega)).trans c8, (sUp_ne (by omega)).trans c9⟩⟩
theorem PtAt.head {h : sH} {s : Ps} {sz n : Nat} {con con' : Bool} (hP : PtAt h s sz con) : PtAt (sUp h 7 (oC 5 [.ref 8, .ref 10, .ref 12, .ref 14, .int (nI n), .int (sBo con')])) s n con' := by
  obtain ⟨f1, f2, f3, f4, C, V⟩ := hP
  exact ⟨f1, f2, f3, f4, C.head, V⟩
theorem PtAt.init {h : sH} {sz : Nat} {con : Bool} {f1 f2 f3 f4 : Nat → Int32} (C : PtC h sz con f1 f2 f3 f4) : PtAt (sUp (sUp (sUp h 7 (oC 5 [.ref 8, .ref 10, .ref 12, .ref 14, .int (nI 0), .int (sBo con)])) 9 (iA 6 (fun k => if k < 6 then (-1) else f1 k))) 11 (iA 6 (fun k => if k < 6 then (-1) else f2 k))) ps0 0 con := by
  obtain ⟨c1, ⟨c2, c3⟩, ⟨c4, c5⟩, ⟨c6, c7⟩, ⟨c8, c9⟩⟩ := C
  refine ⟨_, _, f3, f4, ⟨?_, ⟨?_, sUp_ne (by omega) |>.trans sUp_eq⟩, ⟨?_, sUp_eq⟩, ⟨?_, ?_⟩, ⟨?_, ?_⟩⟩, fun k hk => ⟨⟨by simp [hk, pI, ps0], by simp [hk, pI, ps0]⟩, fun z => absurd rfl z, fun z => absurd rfl z⟩⟩
  all_goals simp [sUp, *]
theorem layR_skip {x : Gd} {r : Nat} (h : (layR x r).1.1.1 r ≠ 0) : layR x (r + 1) = layR x r := by
  rw [show layR x (r + 1) = (if (layR x r).1.1.1 r = 0 then (spread x (psRow (layR x r).1 r (layR x r).2), (layR x r).2 + 1) else layR x r) from rfl, if_neg h]
theorem layR_go {x : Gd} {r : Nat} (h : (layR x r).1.1.1 r = 0) : layR x (r + 1) = (spread x (psRow (layR x r).1 r (layR x r).2), (layR x r).2 + 1) := by
  rw [show layR x (r + 1) = (if (layR x r).1.1.1 r = 0 then (spread x (psRow (layR x r).1 r (layR x r).2), (layR x r).2 + 1) else layR x r) from rfl, if_pos h]
theorem layC_skip {x : Gd} {c : Nat} (h : (layC x c).1.1.2 c ≠ 0) : layC x (c + 1) = layC x c := by
  rw [show layC x (c + 1) = (if (layC x c).1.1.2 c = 0 then (psCol (layC x c).1 c (layC x c).2, (layC x c).2 + 1) else layC x c) from rfl, if_neg h]
theorem layC_go {x : Gd} {c : Nat} (h : (layC x c).1.1.2 c = 0) : layC x (c + 1) = (psCol (layC x c).1 c (layC x c).2, (layC x c).2 + 1) := by
  rw [show layC x (c + 1) = (if (layC x c).1.1.2 c = 0 then (psCol (layC x c).1 c (layC x c).2, (layC x c).2 + 1) else layC x c) from rfl, if_pos h]
theorem layC_pv {x : Gd} (hx : Gok x) {c : Nat} (hc : c ≤ x.1.2.1) : Pv x (layC x c).1 := by
  have h := layC_ok hx c hc
  have h1 := hx.1
  have h2 := hx.2.1
  exact ⟨h.2.2.2.2.1, fun k => ⟨by have := (h.2.2.2.1 k).1; omega, by have := (h.2.2.2.1 k).2; omega⟩⟩
set_option maxRecDepth 4000 in
theorem c_Parts_allToldAreProducts {l : Launch} {h : sH} {g : Nat} {x : Gd} (hG : GridAt h g x) (hx : Gok x) (hg : g + 2 < 7 ∨ 16 ≤ g) {s : Ps} {sz : Nat} {con : Bool} (hP : PtAt h s sz con) (hv : Pv x s) (hk : Kn x s) : sX l m_Parts_allToldAreProducts 2 [.ref 7, .ref g] h (some (.int (sBo (psWell x s)))) (h) := by
  have hR := hx.1
  have hC := hx.2.1
  have hM := hx.2.2.1.le
  have c1 := hP.c7
  have hG0 := hG
  obtain ⟨g0, g1, g2⟩ := hG
  refine en_Parts_allToldAreProducts ?_
  refine e_iconst (v := nI 0) (p' := 1) D_Parts_allToldAreProducts_0 cst_iconst_0 rfl ?_
  refine e_istore_2 (p' := 2) D_Parts_allToldAreProducts_1 (Nat.le_of_ble_eq_true rfl) rfl rfl ?_
  have lk2 : ∀ i : Nat, i ≤ x.1.1 → al i (fun r => al x.1.2.1 (fun c => wl x s r c)) = true → sEv l m_Parts_allToldAreProducts 2 (0, 0, 0, 0) (sKm 0 0 (fun r1 h1 => r1 = some (.int (sBo (psWell x s))) ∧ h1 = h)) 2 [some (.ref 7), some (.ref g), some (.int (nI i)), none, none] [] (h) := by
    refine lp_up _ ?_ ?_
    · intro hq
      refine e_iload_2 (p' := 3) D_Parts_allToldAreProducts_2 rfl ?_
      refine e_aload_1 (p' := 4) D_Parts_allToldAreProducts_3 rfl ?_
      refine x_callV1 (p' := 7) D_Parts_allToldAreProducts_4 V_Parts_36 (c_Grid_rows hG0) rfl (by first | assumption | exact sUp_eq | (rw [sUp_ne (by omega)]; assumption) | (rw [sUp_ne (by omega), sUp_ne (by omega)]; assumption) | (rw [sUp_ne (by omega)]; exact sUp_eq) | (simp [sUp]; done)) rfl (Nat.le_of_ble_eq_true rfl) (by decide) ⟨by decide, by decide⟩ rfl ?_
      first | refine e_icmpN_ge (q := 59) (p' := 10) D_Parts_allToldAreProducts_7 (by omega) (by omega) rfl rfl (fun hc7 => ?_) (fun hc7 => ?_) | refine e_icmp_ge (q := 59) (p' := 10) D_Parts_allToldAreProducts_7 rfl rfl (fun hc7 => ?_) (fun hc7 => ?_)
      ·
        refine e_iconst (v := nI 1) (p' := 60) D_Parts_allToldAreProducts_59 cst_iconst_1 rfl ?_
        refine e_ireturn (ty := .boolean) D_Parts_allToldAreProducts_60 rfl (by first | rfl | exact sBo_nar _) ⟨by decide, by decide⟩ ?_
        rw [psWell_wl, hq]; exact ⟨rfl, rfl⟩
      ·
        exfalso; omega
    · intro i hi ih2 hq
      refine e_iload_2 (p' := 3) D_Parts_allToldAreProducts_2 rfl ?_
      refine e_aload_1 (p' := 4) D_Parts_allToldAreProducts_3 rfl ?_
      refine x_callV1 (p' := 7) D_Parts_allToldAreProducts_4 V_Parts_36 (c_Grid_rows hG0) rfl (by first | assumption | exact sUp_eq | (rw [sUp_ne (by omega)]; assumption) | (rw [sUp_ne (by omega), sUp_ne (by omega)]; assumption) | (rw [sUp_ne (by omega)]; exact sUp_eq) | (simp [sUp]; done)) rfl (Nat.le_of_ble_eq_true rfl) (by decide) ⟨by decide, by decide⟩ rfl ?_
      first | refine e_icmpN_ge (q := 59) (p' := 10) D_Parts_allToldAreProducts_7 (by omega) (by omega) rfl rfl (fun hc7 => ?_) (fun hc7 => ?_) | refine e_icmp_ge (q := 59) (p' := 10) D_Parts_allToldAreProducts_7 rfl rfl (fun hc7 => ?_) (fun hc7 => ?_)
      ·
        exfalso; omega
      ·
        refine e_iconst (v := nI 0) (p' := 11) D_Parts_allToldAreProducts_10 cst_iconst_0 rfl ?_
        refine e_istore_3 (p' := 12) D_Parts_allToldAreProducts_11 (Nat.le_of_ble_eq_true rfl) rfl rfl ?_
        have lk12 : ∀ j : Nat, j ≤ x.1.2.1 → al j (fun c => wl x s i c) = true → sEv l m_Parts_allToldAreProducts 2 (0, 0, 0, 0) (sKm 0 0 (fun r1 h1 => r1 = some (.int (sBo (psWell x s))) ∧ h1 = h)) 12 [some (.ref 7), some (.ref g), some (.int (nI i)), some (.int (nI j)), none] [] (h) := by
          refine lp_up _ ?_ ?_
          · intro hq2
            refine e_iload_3 (p' := 13) D_Parts_allToldAreProducts_12 rfl ?_
            refine e_aload_1 (p' := 14) D_Parts_allToldAreProducts_13 rfl ?_
            refine x_callV1 (p' := 17) D_Parts_allToldAreProducts_14 V_Parts_54 (c_Grid_columns hG0) rfl (by first | assumption | exact sUp_eq | (rw [sUp_ne (by omega)]; assumption) | (rw [sUp_ne (by omega), sUp_ne (by omega)]; assumption) | (rw [sUp_ne (by omega)]; exact sUp_eq) | (simp [sUp]; done)) rfl (Nat.le_of_ble_eq_true rfl) (by decide) ⟨by decide, by decide⟩ rfl ?_
            first | refine e_icmpN_ge (q := 53) (p' := 20) D_Parts_allToldAreProducts_17 (by omega) (by omega) rfl rfl (fun hc17 => ?_) (fun hc17 => ?_) | refine e_icmp_ge (q := 53) (p' := 20) D_Parts_allToldAreProducts_17 rfl rfl (fun hc17 => ?_) (fun hc17 => ?_)
            ·
              first | refine e_iincN_2 (n := 1) (p' := 56) D_Parts_allToldAreProducts_53 (Nat.le_of_ble_eq_true rfl) rfl rfl ?_ | refine e_iinc_2 (p' := 56) D_Parts_allToldAreProducts_53 (Nat.le_of_ble_eq_true rfl) rfl rfl rfl ?_
              refine e_goto (p' := 2) D_Parts_allToldAreProducts_56 rfl ?_
              refine sEv.castW (ih2 (by rw [al_succ, hq, hq2]; rfl)) ?_ ?_ ?_
              · first | exact lvW_rfl _ | (simp [lvW]; done) | (simp [lvW, *]; done) | (simp [lvW]; omega)
              · rfl
              · first | rfl | (simp; done)
            ·
              exfalso; omega
          · intro j hj ih12 hq2
            refine e_iload_3 (p' := 13) D_Parts_allToldAreProducts_12 rfl ?_
            refine e_aload_1 (p' := 14) D_Parts_allToldAreProducts_13 rfl ?_
            refine x_callV1 (p' := 17) D_Parts_allToldAreProducts_14 V_Parts_54 (c_Grid_columns hG0) rfl (by first | assumption | exact sUp_eq | (rw [sUp_ne (by omega)]; assumption) | (rw [sUp_ne (by omega), sUp_ne (by omega)]; assumption) | (rw [sUp_ne (by omega)]; exact sUp_eq) | (simp [sUp]; done)) rfl (Nat.le_of_ble_eq_true rfl) (by decide) ⟨by decide, by decide⟩ rfl ?_
            first | refine e_icmpN_ge (q := 53) (p' := 20) D_Parts_allToldAreProducts_17 (by omega) (by omega) rfl rfl (fun hc17 => ?_) (fun hc17 => ?_) | refine e_icmp_ge (q := 53) (p' := 20) D_Parts_allToldAreProducts_17 rfl rfl (fun hc17 => ?_) (fun hc17 => ?_)
            ·
              exfalso; omega
            ·
              refine e_aload_1 (p' := 21) D_Parts_allToldAreProducts_20 rfl ?_
              refine e_iload_2 (p' := 22) D_Parts_allToldAreProducts_21 rfl ?_
              refine e_iload_3 (p' := 23) D_Parts_allToldAreProducts_22 rfl ?_
              refine x_callV1 (p' := 26) D_Parts_allToldAreProducts_23 V_Parts_65 (c_Grid_number hG0 hx (by omega) (by omega)) rfl (by first | assumption | exact sUp_eq | (rw [sUp_ne (by omega)]; assumption) | (rw [sUp_ne (by omega), sUp_ne (by omega)]; assumption) | (rw [sUp_ne (by omega)]; exact sUp_eq) | (simp [sUp]; done)) rfl (Nat.le_of_ble_eq_true rfl) (by decide) ⟨by decide, by decide⟩ rfl ?_
              have hs := hx.small i j
              refine e_istore_4 (p' := 28) D_Parts_allToldAreProducts_26 (Nat.le_of_ble_eq_true rfl) rfl rfl ?_
              refine e_iload_4 (p' := 30) D_Parts_allToldAreProducts_28 rfl ?_
              refine e_ifN_eq (q := 47) (p' := 33) D_Parts_allToldAreProducts_30 (by omega) rfl rfl (fun hc30 => ?_) (fun hc30 => ?_)
              ·
                first | refine e_iincN_3 (n := 1) (p' := 50) D_Parts_allToldAreProducts_47 (Nat.le_of_ble_eq_true rfl) rfl rfl ?_ | refine e_iinc_3 (p' := 50) D_Parts_allToldAreProducts_47 (Nat.le_of_ble_eq_true rfl) rfl rfl rfl ?_
                refine e_goto (p' := 12) D_Parts_allToldAreProducts_50 rfl ?_
                refine sEv.castW (ih12 (by rw [al_succ, hq2]; unfold wl; rw [td_false hc30]; rfl)) ?_ ?_ ?_
                · first | exact lvW_rfl _ | (simp [lvW]; done) | (simp [lvW, *]; done) | (simp [lvW]; omega)
                · rfl
                · first | rfl | (simp; done)
              ·
                refine e_iload_4 (p' := 35) D_Parts_allToldAreProducts_33 rfl ?_
                refine e_aload_0 (p' := 36) D_Parts_allToldAreProducts_35 rfl ?_
                refine e_aload_1 (p' := 37) D_Parts_allToldAreProducts_36 rfl ?_
                refine e_iload_2 (p' := 38) D_Parts_allToldAreProducts_37 rfl ?_
                refine e_iload_3 (p' := 39) D_Parts_allToldAreProducts_38 rfl ?_
                refine x_callV1 (p' := 42) D_Parts_allToldAreProducts_39 V_Parts_76 (c_Parts_product hG0 hx hg hP hv (by omega) (by omega) (hk.1 i hi) (hk.2 j hj)) rfl (by first | assumption | exact sUp_eq | (rw [sUp_ne (by omega)]; assumption) | (rw [sUp_ne (by omega), sUp_ne (by omega)]; assumption) | (rw [sUp_ne (by omega)]; exact sUp_eq) | (simp [sUp]; done)) rfl (Nat.le_of_ble_eq_true rfl) (by decide) ⟨by decide, by decide⟩ rfl ?_
                have hm := Nat.mod_lt (s.2.1 i * s.2.2 j) (y := x.1.2.2) (by omega)
                refine e_icmpN_eq (q := 47) (p' := 45) D_Parts_allToldAreProducts_42 (by omega) (by omega) rfl rfl (fun hc42 => ?_) (fun hc42 => ?_)
                ·
                  first | refine e_iincN_3 (n := 1) (p' := 50) D_Parts_allToldAreProducts_47 (Nat.le_of_ble_eq_true rfl) rfl rfl ?_ | refine e_iinc_3 (p' := 50) D_Parts_allToldAreProducts_47 (Nat.le_of_ble_eq_true rfl) rfl rfl rfl ?_
                  refine e_goto (p' := 12) D_Parts_allToldAreProducts_50 rfl ?_
                  refine sEv.castW (ih12 (by rw [al_succ, hq2]; unfold wl; simp [hc42])) ?_ ?_ ?_
                  · first | exact lvW_rfl _ | (simp [lvW]; done) | (simp [lvW, *]; done) | (simp [lvW]; omega)
                  · rfl
                  · first | rfl | (simp; done)
                ·
                  refine e_iconst (v := nI 0) (p' := 46) D_Parts_allToldAreProducts_45 cst_iconst_0 rfl ?_
                  refine e_ireturn (ty := .boolean) D_Parts_allToldAreProducts_46 rfl (by first | rfl | exact sBo_nar _) ⟨by decide, by decide⟩ ?_
                  rw [psWell_wl, al_false hi (al_false hj (show wl x s i j = false by unfold wl; simp [td_true hc30, hc42]))]
                  exact ⟨rfl, rfl⟩
        refine sEv.castW (lk12 0 (by omega) rfl) ?_ ?_ ?_
        · first | exact lvW_rfl _ | (simp [lvW]; done) | (simp [lvW, *]; done) | (simp [lvW]; omega)
        · rfl
        · first | rfl | (simp; done)
  refine sEv.castW (lk2 0 (by omega) rfl) ?_ ?_ ?_
  · first | exact lvW_rfl _ | (simp [lvW]; done) | (simp [lvW, *]; done) | (simp [lvW]; omega)
  · rfl
  · first | rfl | (simp; done)
set_option maxRecDepth 4000 in
theorem c_Parts_find {l : Launch} {h : sH} {g : Nat} {x : Gd} (hG : GridAt h g x) (hx : Gok x) (hg : g + 2 < 7 ∨ 16 ≤ g) {s : Ps} {sz : Nat} {con : Bool} (hP : PtAt h s sz con) : sY l m_Parts_find 4 [.ref 7, .ref g] h (none) (fun h1 => PtAt h1 (lay x).1 (lay x).2 (wellX x) ∧ Fr h h1) := by
  have hR := hx.1
  have hC := hx.2.1
  obtain ⟨f1, f2, f3, f4, C, V⟩ := hP
  have C0 := C
  obtain ⟨c1, ⟨c2, c3⟩, ⟨c4, c5⟩, ⟨c6, c7⟩, ⟨c8, c9⟩⟩ := C
  refine en_Parts_find ?_
  refine e_aload_0 (p' := 1) D_Parts_find_0 rfl ?_
  refine e_iconst (v := nI 0) (p' := 2) D_Parts_find_1 cst_iconst_0 rfl ?_
  refine e_putfield (p' := 5) D_Parts_find_2 F_Parts_29 (Or.inl rfl) (by first | assumption | exact sUp_eq | (rw [sUp_ne (by omega)]; assumption) | (rw [sUp_ne (by omega), sUp_ne (by omega)]; assumption) | (rw [sUp_ne (by omega)]; exact sUp_eq) | (simp [sUp]; done)) (fun _ => ⟨rfl, rfl⟩) (Nat.le_of_ble_eq_true rfl) (by rfl) rfl ?_
  try dsimp only [List.set]
  refine e_aload_0 (p' := 6) D_Parts_find_5 rfl ?_
  refine e_getfield (p' := 9) D_Parts_find_6 F_Parts_14 (by first | assumption | exact sUp_eq | (rw [sUp_ne (by omega)]; assumption) | (rw [sUp_ne (by omega), sUp_ne (by omega)]; assumption) | (rw [sUp_ne (by omega)]; exact sUp_eq) | (simp [sUp]; done)) (by rfl) rfl ?_
  refine e_iconst (v := (-1)) (p' := 10) D_Parts_find_9 cst_iconst_m1 rfl ?_
  refine x_callV0 (p' := 13) D_Parts_find_10 V_Parts_33 (c_Num_setEach (by first | assumption | exact sUp_eq | (rw [sUp_ne (by omega)]; assumption) | (rw [sUp_ne (by omega), sUp_ne (by omega)]; assumption) | (rw [sUp_ne (by omega)]; exact sUp_eq) | (simp [sUp]; done)) (by first | assumption | exact sUp_eq | (rw [sUp_ne (by omega)]; assumption) | (rw [sUp_ne (by omega), sUp_ne (by omega)]; assumption) | (rw [sUp_ne (by omega)]; exact sUp_eq) | (simp [sUp]; done)) (by omega)) rfl (by first | assumption | exact sUp_eq | (rw [sUp_ne (by omega)]; assumption) | (rw [sUp_ne (by omega), sUp_ne (by omega)]; assumption) | (rw [sUp_ne (by omega)]; exact sUp_eq) | (simp [sUp]; done)) rfl (Nat.le_of_ble_eq_true rfl) (by decide) ⟨by decide, by decide⟩ rfl ?_
  refine e_aload_0 (p' := 14) D_Parts_find_13 rfl ?_
  refine e_getfield (p' := 17) D_Parts_find_14 F_Parts_20 (by first | assumption | exact sUp_eq | (rw [sUp_ne (by omega)]; assumption) | (rw [sUp_ne (by omega), sUp_ne (by omega)]; assumption) | (rw [sUp_ne (by omega)]; exact sUp_eq) | (simp [sUp]; done)) (by rfl) rfl ?_
  refine e_iconst (v := (-1)) (p' := 18) D_Parts_find_17 cst_iconst_m1 rfl ?_
  refine x_callV0 (p' := 21) D_Parts_find_18 V_Parts_33 (c_Num_setEach (by first | assumption | exact sUp_eq | (rw [sUp_ne (by omega)]; assumption) | (rw [sUp_ne (by omega), sUp_ne (by omega)]; assumption) | (rw [sUp_ne (by omega)]; exact sUp_eq) | (simp [sUp]; done)) (by first | assumption | exact sUp_eq | (rw [sUp_ne (by omega)]; assumption) | (rw [sUp_ne (by omega), sUp_ne (by omega)]; assumption) | (rw [sUp_ne (by omega)]; exact sUp_eq) | (simp [sUp]; done)) (by omega)) rfl (by first | assumption | exact sUp_eq | (rw [sUp_ne (by omega)]; assumption) | (rw [sUp_ne (by omega), sUp_ne (by omega)]; assumption) | (rw [sUp_ne (by omega)]; exact sUp_eq) | (simp [sUp]; done)) rfl (Nat.le_of_ble_eq_true rfl) (by decide) ⟨by decide, by decide⟩ rfl ?_
  have hP0 := PtAt.init C0
  have hF0 := ((Fr.rf (h := h)).up (a := 7) (c := oC 5 [.ref 8, .ref 10, .ref 12, .ref 14, .int (nI 0), .int (sBo con)]) (by omega) (by omega)).up (a := 9) (c := iA 6 (fun k => if k < 6 then (-1) else f1 k)) (by omega) (by omega)
  replace hF0 := hF0.up (a := 11) (c := iA 6 (fun k => if k < 6 then (-1) else f2 k)) (by omega) (by omega)
  refine e_iconst (v := nI 0) (p' := 22) D_Parts_find_21 cst_iconst_0 rfl ?_
  refine e_istore_2 (p' := 23) D_Parts_find_22 (Nat.le_of_ble_eq_true rfl) rfl rfl ?_
  have lk23 : ∀ i : Nat, i ≤ x.1.1 → ∀ (h1 : sH), (PtAt h1 (layR x i).1 (layR x i).2 con ∧ Fr h h1) → sEv l m_Parts_find 4 (0, 0, 0, 0) (sKm 0 0 (fun r1 h1 => r1 = none ∧ (fun h1 => PtAt h1 (lay x).1 (lay x).2 (wellX x) ∧ Fr h h1) h1)) 23 [some (.ref 7), some (.ref g), some (.int (nI i))] [] (h1) := by
    refine lp_up _ ?_ ?_
    · intro h1 hI
      obtain ⟨hP1, hF1⟩ := hI
      have hP1' := hP1
      have hG1 := hG.fr hF1 hg
      obtain ⟨q0, q1, q2⟩ := hG1
      have hG1 := hG.fr hF1 hg
      obtain ⟨e1, e2, e3, e4, D, DV⟩ := hP1
      have D0 := D
      obtain ⟨d1, ⟨d2, d3⟩, ⟨d4, d5⟩, ⟨d6, d7⟩, ⟨d8, d9⟩⟩ := D
      have hok := layR_ok hx (x.1.1) (by omega)
      have hbd := hok.1.2.2 (x.1.1)
      refine e_iload_2 (p' := 24) D_Parts_find_23 rfl ?_
      refine e_aload_1 (p' := 25) D_Parts_find_24 rfl ?_
      refine x_callV1 (p' := 28) D_Parts_find_25 V_Parts_36 (c_Grid_rows hG1) rfl (by first | assumption | exact sUp_eq | (rw [sUp_ne (by omega)]; assumption) | (rw [sUp_ne (by omega), sUp_ne (by omega)]; assumption) | (rw [sUp_ne (by omega)]; exact sUp_eq) | (simp [sUp]; done)) rfl (Nat.le_of_ble_eq_true rfl) (by decide) ⟨by decide, by decide⟩ rfl ?_
      first | refine e_icmpN_ge (q := 85) (p' := 31) D_Parts_find_28 (by omega) (by omega) rfl rfl (fun hc28 => ?_) (fun hc28 => ?_) | refine e_icmp_ge (q := 85) (p' := 31) D_Parts_find_28 rfl rfl (fun hc28 => ?_) (fun hc28 => ?_)
      ·
        refine e_iconst (v := nI 0) (p' := 86) D_Parts_find_85 cst_iconst_0 rfl ?_
        refine e_istore_2 (p' := 87) D_Parts_find_86 (Nat.le_of_ble_eq_true rfl) rfl rfl ?_
        have lk87 : ∀ j : Nat, j ≤ x.1.2.1 → ∀ (h1 : sH), (PtAt h1 (layC x j).1 (layC x j).2 con ∧ Fr h h1) → sEv l m_Parts_find 4 (0, 0, 0, 0) (sKm 0 0 (fun r1 h1 => r1 = none ∧ (fun h1 => PtAt h1 (lay x).1 (lay x).2 (wellX x) ∧ Fr h h1) h1)) 87 [some (.ref 7), some (.ref g), some (.int (nI j))] [] (h1) := by
          refine lp_up _ ?_ ?_
          · intro h1 hI
            obtain ⟨hP1, hF1⟩ := hI
            have hP1' := hP1
            have hG1 := hG.fr hF1 hg
            obtain ⟨q0, q1, q2⟩ := hG1
            have hG1 := hG.fr hF1 hg
            obtain ⟨e1, e2, e3, e4, D, DV⟩ := hP1
            have D0 := D
            obtain ⟨d1, ⟨d2, d3⟩, ⟨d4, d5⟩, ⟨d6, d7⟩, ⟨d8, d9⟩⟩ := D
            have hok := layC_ok hx (x.1.2.1) (by omega)
            have hbd := hok.2.2.2.1 (x.1.2.1)
            refine e_iload_2 (p' := 88) D_Parts_find_87 rfl ?_
            refine e_aload_1 (p' := 89) D_Parts_find_88 rfl ?_
            refine x_callV1 (p' := 92) D_Parts_find_89 V_Parts_54 (c_Grid_columns hG1) rfl (by first | assumption | exact sUp_eq | (rw [sUp_ne (by omega)]; assumption) | (rw [sUp_ne (by omega), sUp_ne (by omega)]; assumption) | (rw [sUp_ne (by omega)]; exact sUp_eq) | (simp [sUp]; done)) rfl (Nat.le_of_ble_eq_true rfl) (by decide) ⟨by decide, by decide⟩ rfl ?_
            first | refine e_icmpN_ge (q := 144) (p' := 95) D_Parts_find_92 (by omega) (by omega) rfl rfl (fun hc92 => ?_) (fun hc92 => ?_) | refine e_icmp_ge (q := 144) (p' := 95) D_Parts_find_92 rfl rfl (fun hc92 => ?_) (fun hc92 => ?_)
            ·
              refine e_aload_0 (p' := 145) D_Parts_find_144 rfl ?_
              refine e_aload_0 (p' := 146) D_Parts_find_145 rfl ?_
              refine e_aload_1 (p' := 147) D_Parts_find_146 rfl ?_
              refine x_callV1 (p' := 150) D_Parts_find_147 V_Parts_57 (c_Parts_allToldAreProducts hG1 hx hg ⟨e1, e2, e3, e4, D0, DV⟩ (layC_pv hx (Nat.le_refl _)) ⟨hok.2.1, hok.2.2.1⟩) rfl (by first | assumption | exact sUp_eq | (rw [sUp_ne (by omega)]; assumption) | (rw [sUp_ne (by omega), sUp_ne (by omega)]; assumption) | (rw [sUp_ne (by omega)]; exact sUp_eq) | (simp [sUp]; done)) rfl (Nat.le_of_ble_eq_true rfl) (by decide) ⟨by decide, by decide⟩ rfl ?_
              refine e_putfield (p' := 153) D_Parts_find_150 F_Parts_61 (Or.inl rfl) (by first | assumption | exact sUp_eq | (rw [sUp_ne (by omega)]; assumption) | (rw [sUp_ne (by omega), sUp_ne (by omega)]; assumption) | (rw [sUp_ne (by omega)]; exact sUp_eq) | (simp [sUp]; done)) (fun _ => ⟨sBo_nar _, sBo_fit _⟩) (Nat.le_of_ble_eq_true rfl) (by rfl) rfl ?_
              try dsimp only [List.set]
              refine e_return D_Parts_find_153 rfl ⟨by decide, by decide⟩ ?_
              exact ⟨rfl, PtAt.head ⟨e1, e2, e3, e4, D0, DV⟩, hF1.up (by omega) (by omega)⟩
            ·
              exfalso; omega
          · intro j hj ih87 h1 hI
            obtain ⟨hP1, hF1⟩ := hI
            have hP1' := hP1
            have hG1 := hG.fr hF1 hg
            obtain ⟨q0, q1, q2⟩ := hG1
            have hG1 := hG.fr hF1 hg
            obtain ⟨e1, e2, e3, e4, D, DV⟩ := hP1
            have D0 := D
            obtain ⟨d1, ⟨d2, d3⟩, ⟨d4, d5⟩, ⟨d6, d7⟩, ⟨d8, d9⟩⟩ := D
            have hok := layC_ok hx j (by omega)
            have hbd := hok.2.2.2.1 j
            refine e_iload_2 (p' := 88) D_Parts_find_87 rfl ?_
            refine e_aload_1 (p' := 89) D_Parts_find_88 rfl ?_
            refine x_callV1 (p' := 92) D_Parts_find_89 V_Parts_54 (c_Grid_columns hG1) rfl (by first | assumption | exact sUp_eq | (rw [sUp_ne (by omega)]; assumption) | (rw [sUp_ne (by omega), sUp_ne (by omega)]; assumption) | (rw [sUp_ne (by omega)]; exact sUp_eq) | (simp [sUp]; done)) rfl (Nat.le_of_ble_eq_true rfl) (by decide) ⟨by decide, by decide⟩ rfl ?_
            first | refine e_icmpN_ge (q := 144) (p' := 95) D_Parts_find_92 (by omega) (by omega) rfl rfl (fun hc92 => ?_) (fun hc92 => ?_) | refine e_icmp_ge (q := 144) (p' := 95) D_Parts_find_92 rfl rfl (fun hc92 => ?_) (fun hc92 => ?_)
            ·
              exfalso; omega
            ·
              refine e_aload_0 (p' := 96) D_Parts_find_95 rfl ?_
              refine e_getfield (p' := 99) D_Parts_find_96 F_Parts_20 (by first | assumption | exact sUp_eq | (rw [sUp_ne (by omega)]; assumption) | (rw [sUp_ne (by omega), sUp_ne (by omega)]; assumption) | (rw [sUp_ne (by omega)]; exact sUp_eq) | (simp [sUp]; done)) (by rfl) rfl ?_
              refine e_iload_2 (p' := 100) D_Parts_find_99 rfl ?_
              refine x_callV1 (p' := 103) D_Parts_find_100 V_Parts_42 (c_Num_get (by first | assumption | exact sUp_eq | (rw [sUp_ne (by omega)]; assumption) | (rw [sUp_ne (by omega), sUp_ne (by omega)]; assumption) | (rw [sUp_ne (by omega)]; exact sUp_eq) | (simp [sUp]; done)) (by first | assumption | exact sUp_eq | (rw [sUp_ne (by omega)]; assumption) | (rw [sUp_ne (by omega), sUp_ne (by omega)]; assumption) | (rw [sUp_ne (by omega)]; exact sUp_eq) | (simp [sUp]; done)) (by omega) (by omega)) rfl (by first | assumption | exact sUp_eq | (rw [sUp_ne (by omega)]; assumption) | (rw [sUp_ne (by omega), sUp_ne (by omega)]; assumption) | (rw [sUp_ne (by omega)]; exact sUp_eq) | (simp [sUp]; done)) rfl (Nat.le_of_ble_eq_true rfl) (by decide) ⟨by decide, by decide⟩ rfl ?_
              refine e_iconst (v := (-1)) (p' := 104) D_Parts_find_103 cst_iconst_m1 rfl ?_
              refine e_icmp_ne (q := 138) (p' := 107) D_Parts_find_104 rfl rfl (fun hc104 => ?_) (fun hc104 => ?_)
              ·
                first | refine e_iincN_2 (n := 1) (p' := 141) D_Parts_find_138 (Nat.le_of_ble_eq_true rfl) rfl rfl ?_ | refine e_iinc_2 (p' := 141) D_Parts_find_138 (Nat.le_of_ble_eq_true rfl) rfl rfl rfl ?_
                refine e_goto (p' := 87) D_Parts_find_141 rfl ?_
                refine sEv.castW (ih87 h1 ⟨by rw [layC_skip (fun z => hc104 (by rw [(DV j (by omega)).1.2, pI_m1 (by omega)]; exact z))]; exact hP1', hF1⟩) ?_ ?_ ?_
                · first | exact lvW_rfl _ | (simp [lvW]; done) | (simp [lvW, *]; done) | (simp [lvW]; omega)
                · rfl
                · first | rfl | (simp; done)
              ·
                have hr0 : (layC x j).1.1.2 j = 0 := by rw [(DV j (by omega)).1.2, pI_m1 (by omega)] at hc104; exact hc104
                refine e_aload_0 (p' := 108) D_Parts_find_107 rfl ?_
                refine e_getfield (p' := 111) D_Parts_find_108 F_Parts_20 (by first | assumption | exact sUp_eq | (rw [sUp_ne (by omega)]; assumption) | (rw [sUp_ne (by omega), sUp_ne (by omega)]; assumption) | (rw [sUp_ne (by omega)]; exact sUp_eq) | (simp [sUp]; done)) (by rfl) rfl ?_
                refine e_iload_2 (p' := 112) D_Parts_find_111 rfl ?_
                refine e_aload_0 (p' := 113) D_Parts_find_112 rfl ?_
                refine e_getfield (p' := 116) D_Parts_find_113 F_Parts_29 (by first | assumption | exact sUp_eq | (rw [sUp_ne (by omega)]; assumption) | (rw [sUp_ne (by omega), sUp_ne (by omega)]; assumption) | (rw [sUp_ne (by omega)]; exact sUp_eq) | (simp [sUp]; done)) (by rfl) rfl ?_
                refine x_callV0 (p' := 119) D_Parts_find_116 V_Parts_46 (c_Num_set (by first | assumption | exact sUp_eq | (rw [sUp_ne (by omega)]; assumption) | (rw [sUp_ne (by omega), sUp_ne (by omega)]; assumption) | (rw [sUp_ne (by omega)]; exact sUp_eq) | (simp [sUp]; done)) (by first | assumption | exact sUp_eq | (rw [sUp_ne (by omega)]; assumption) | (rw [sUp_ne (by omega), sUp_ne (by omega)]; assumption) | (rw [sUp_ne (by omega)]; exact sUp_eq) | (simp [sUp]; done)) (by omega) (by omega)) rfl (by first | assumption | exact sUp_eq | (rw [sUp_ne (by omega)]; assumption) | (rw [sUp_ne (by omega), sUp_ne (by omega)]; assumption) | (rw [sUp_ne (by omega)]; exact sUp_eq) | (simp [sUp]; done)) rfl (Nat.le_of_ble_eq_true rfl) (by decide) ⟨by decide, by decide⟩ rfl ?_
                refine e_aload_0 (p' := 120) D_Parts_find_119 rfl ?_
                refine e_getfield (p' := 123) D_Parts_find_120 F_Parts_26 (by first | assumption | exact sUp_eq | (rw [sUp_ne (by omega)]; assumption) | (rw [sUp_ne (by omega), sUp_ne (by omega)]; assumption) | (rw [sUp_ne (by omega)]; exact sUp_eq) | (simp [sUp]; done)) (by rfl) rfl ?_
                refine e_iload_2 (p' := 124) D_Parts_find_123 rfl ?_
                refine e_iconst (v := nI 1) (p' := 125) D_Parts_find_124 cst_iconst_1 rfl ?_
                refine x_callV0 (p' := 128) D_Parts_find_125 V_Parts_46 (c_Num_set (by first | assumption | exact sUp_eq | (rw [sUp_ne (by omega)]; assumption) | (rw [sUp_ne (by omega), sUp_ne (by omega)]; assumption) | (rw [sUp_ne (by omega)]; exact sUp_eq) | (simp [sUp]; done)) (by first | assumption | exact sUp_eq | (rw [sUp_ne (by omega)]; assumption) | (rw [sUp_ne (by omega), sUp_ne (by omega)]; assumption) | (rw [sUp_ne (by omega)]; exact sUp_eq) | (simp [sUp]; done)) (by omega) (by omega)) rfl (by first | assumption | exact sUp_eq | (rw [sUp_ne (by omega)]; assumption) | (rw [sUp_ne (by omega), sUp_ne (by omega)]; assumption) | (rw [sUp_ne (by omega)]; exact sUp_eq) | (simp [sUp]; done)) rfl (Nat.le_of_ble_eq_true rfl) (by decide) ⟨by decide, by decide⟩ rfl ?_
                refine e_aload_0 (p' := 129) D_Parts_find_128 rfl ?_
                refine e_dup (p' := 130) D_Parts_find_129 rfl rfl ?_
                refine e_getfield (p' := 133) D_Parts_find_130 F_Parts_29 (by first | assumption | exact sUp_eq | (rw [sUp_ne (by omega)]; assumption) | (rw [sUp_ne (by omega), sUp_ne (by omega)]; assumption) | (rw [sUp_ne (by omega)]; exact sUp_eq) | (simp [sUp]; done)) (by rfl) rfl ?_
                refine e_iconst (v := nI 1) (p' := 134) D_Parts_find_133 cst_iconst_1 rfl ?_
                first | refine e_iaddN (p' := 135) D_Parts_find_134 rfl ?_ | refine e_iadd (p' := 135) D_Parts_find_134 rfl ?_
                refine e_putfield (p' := 138) D_Parts_find_135 F_Parts_29 (Or.inl rfl) (by first | assumption | exact sUp_eq | (rw [sUp_ne (by omega)]; assumption) | (rw [sUp_ne (by omega), sUp_ne (by omega)]; assumption) | (rw [sUp_ne (by omega)]; exact sUp_eq) | (simp [sUp]; done)) (fun _ => ⟨rfl, rfl⟩) (Nat.le_of_ble_eq_true rfl) (by rfl) rfl ?_
                try dsimp only [List.set]
                have hPs := (PtAt.colSet (c := j) (a := (layC x j).2 + 1) (q := 1) D0 DV pI_N).head (n := (layC x j).2 + 1) (con' := con)
                have hFs := ((hF1.up (a := 11) (c := iA 6 (upd e2 j (nI (layC x j).2))) (by omega) (by omega)).up (a := 15) (c := iA 6 (upd e4 j (nI 1))) (by omega) (by omega)).up (a := 7) (c := oC 5 [.ref 8, .ref 10, .ref 12, .ref 14, .int (nI ((layC x j).2 + 1)), .int (sBo con)]) (by omega) (by omega)
                first | refine e_iincN_2 (n := 1) (p' := 141) D_Parts_find_138 (Nat.le_of_ble_eq_true rfl) rfl rfl ?_ | refine e_iinc_2 (p' := 141) D_Parts_find_138 (Nat.le_of_ble_eq_true rfl) rfl rfl rfl ?_
                refine e_goto (p' := 87) D_Parts_find_141 rfl ?_
                refine sEv.castW (ih87 _ ⟨by rw [layC_go hr0]; exact hPs, hFs⟩) ?_ ?_ ?_
                · first | exact lvW_rfl _ | (simp [lvW]; done) | (simp [lvW, *]; done) | (simp [lvW]; omega)
                · rfl
                · first | rfl | (simp; done)
        refine sEv.castW (lk87 0 (by omega) _ ⟨hP1', hF1⟩) ?_ ?_ ?_
        · first | exact lvW_rfl _ | (simp [lvW]; done) | (simp [lvW, *]; done) | (simp [lvW]; omega)
        · rfl
        · first | rfl | (simp; done)
      ·
        exfalso; omega
    · intro i hi ih23 h1 hI
      obtain ⟨hP1, hF1⟩ := hI
      have hP1' := hP1
      have hG1 := hG.fr hF1 hg
      obtain ⟨q0, q1, q2⟩ := hG1
      have hG1 := hG.fr hF1 hg
      obtain ⟨e1, e2, e3, e4, D, DV⟩ := hP1
      have D0 := D
      obtain ⟨d1, ⟨d2, d3⟩, ⟨d4, d5⟩, ⟨d6, d7⟩, ⟨d8, d9⟩⟩ := D
      have hok := layR_ok hx i (by omega)
      have hbd := hok.1.2.2 i
      refine e_iload_2 (p' := 24) D_Parts_find_23 rfl ?_
      refine e_aload_1 (p' := 25) D_Parts_find_24 rfl ?_
      refine x_callV1 (p' := 28) D_Parts_find_25 V_Parts_36 (c_Grid_rows hG1) rfl (by first | assumption | exact sUp_eq | (rw [sUp_ne (by omega)]; assumption) | (rw [sUp_ne (by omega), sUp_ne (by omega)]; assumption) | (rw [sUp_ne (by omega)]; exact sUp_eq) | (simp [sUp]; done)) rfl (Nat.le_of_ble_eq_true rfl) (by decide) ⟨by decide, by decide⟩ rfl ?_
      first | refine e_icmpN_ge (q := 85) (p' := 31) D_Parts_find_28 (by omega) (by omega) rfl rfl (fun hc28 => ?_) (fun hc28 => ?_) | refine e_icmp_ge (q := 85) (p' := 31) D_Parts_find_28 rfl rfl (fun hc28 => ?_) (fun hc28 => ?_)
      ·
        exfalso; omega
      ·
        refine e_aload_0 (p' := 32) D_Parts_find_31 rfl ?_
        refine e_getfield (p' := 35) D_Parts_find_32 F_Parts_14 (by first | assumption | exact sUp_eq | (rw [sUp_ne (by omega)]; assumption) | (rw [sUp_ne (by omega), sUp_ne (by omega)]; assumption) | (rw [sUp_ne (by omega)]; exact sUp_eq) | (simp [sUp]; done)) (by rfl) rfl ?_
        refine e_iload_2 (p' := 36) D_Parts_find_35 rfl ?_
        refine x_callV1 (p' := 39) D_Parts_find_36 V_Parts_42 (c_Num_get (by first | assumption | exact sUp_eq | (rw [sUp_ne (by omega)]; assumption) | (rw [sUp_ne (by omega), sUp_ne (by omega)]; assumption) | (rw [sUp_ne (by omega)]; exact sUp_eq) | (simp [sUp]; done)) (by first | assumption | exact sUp_eq | (rw [sUp_ne (by omega)]; assumption) | (rw [sUp_ne (by omega), sUp_ne (by omega)]; assumption) | (rw [sUp_ne (by omega)]; exact sUp_eq) | (simp [sUp]; done)) (by omega) (by omega)) rfl (by first | assumption | exact sUp_eq | (rw [sUp_ne (by omega)]; assumption) | (rw [sUp_ne (by omega), sUp_ne (by omega)]; assumption) | (rw [sUp_ne (by omega)]; exact sUp_eq) | (simp [sUp]; done)) rfl (Nat.le_of_ble_eq_true rfl) (by decide) ⟨by decide, by decide⟩ rfl ?_
        refine e_iconst (v := (-1)) (p' := 40) D_Parts_find_39 cst_iconst_m1 rfl ?_
        refine e_icmp_ne (q := 79) (p' := 43) D_Parts_find_40 rfl rfl (fun hc40 => ?_) (fun hc40 => ?_)
        ·
          first | refine e_iincN_2 (n := 1) (p' := 82) D_Parts_find_79 (Nat.le_of_ble_eq_true rfl) rfl rfl ?_ | refine e_iinc_2 (p' := 82) D_Parts_find_79 (Nat.le_of_ble_eq_true rfl) rfl rfl rfl ?_
          refine e_goto (p' := 23) D_Parts_find_82 rfl ?_
          refine sEv.castW (ih23 h1 ⟨by rw [layR_skip (fun z => hc40 (by rw [(DV i (by omega)).1.1, pI_m1 (by omega)]; exact z))]; exact hP1', hF1⟩) ?_ ?_ ?_
          · first | exact lvW_rfl _ | (simp [lvW]; done) | (simp [lvW, *]; done) | (simp [lvW]; omega)
          · rfl
          · first | rfl | (simp; done)
        ·
          have hr0 : (layR x i).1.1.1 i = 0 := by rw [(DV i (by omega)).1.1, pI_m1 (by omega)] at hc40; exact hc40
          refine e_aload_0 (p' := 44) D_Parts_find_43 rfl ?_
          refine e_getfield (p' := 47) D_Parts_find_44 F_Parts_14 (by first | assumption | exact sUp_eq | (rw [sUp_ne (by omega)]; assumption) | (rw [sUp_ne (by omega), sUp_ne (by omega)]; assumption) | (rw [sUp_ne (by omega)]; exact sUp_eq) | (simp [sUp]; done)) (by rfl) rfl ?_
          refine e_iload_2 (p' := 48) D_Parts_find_47 rfl ?_
          refine e_aload_0 (p' := 49) D_Parts_find_48 rfl ?_
          refine e_getfield (p' := 52) D_Parts_find_49 F_Parts_29 (by first | assumption | exact sUp_eq | (rw [sUp_ne (by omega)]; assumption) | (rw [sUp_ne (by omega), sUp_ne (by omega)]; assumption) | (rw [sUp_ne (by omega)]; exact sUp_eq) | (simp [sUp]; done)) (by rfl) rfl ?_
          refine x_callV0 (p' := 55) D_Parts_find_52 V_Parts_46 (c_Num_set (by first | assumption | exact sUp_eq | (rw [sUp_ne (by omega)]; assumption) | (rw [sUp_ne (by omega), sUp_ne (by omega)]; assumption) | (rw [sUp_ne (by omega)]; exact sUp_eq) | (simp [sUp]; done)) (by first | assumption | exact sUp_eq | (rw [sUp_ne (by omega)]; assumption) | (rw [sUp_ne (by omega), sUp_ne (by omega)]; assumption) | (rw [sUp_ne (by omega)]; exact sUp_eq) | (simp [sUp]; done)) (by omega) (by omega)) rfl (by first | assumption | exact sUp_eq | (rw [sUp_ne (by omega)]; assumption) | (rw [sUp_ne (by omega), sUp_ne (by omega)]; assumption) | (rw [sUp_ne (by omega)]; exact sUp_eq) | (simp [sUp]; done)) rfl (Nat.le_of_ble_eq_true rfl) (by decide) ⟨by decide, by decide⟩ rfl ?_
          refine e_aload_0 (p' := 56) D_Parts_find_55 rfl ?_
          refine e_getfield (p' := 59) D_Parts_find_56 F_Parts_23 (by first | assumption | exact sUp_eq | (rw [sUp_ne (by omega)]; assumption) | (rw [sUp_ne (by omega), sUp_ne (by omega)]; assumption) | (rw [sUp_ne (by omega)]; exact sUp_eq) | (simp [sUp]; done)) (by rfl) rfl ?_
          refine e_iload_2 (p' := 60) D_Parts_find_59 rfl ?_
          refine e_iconst (v := nI 1) (p' := 61) D_Parts_find_60 cst_iconst_1 rfl ?_
          refine x_callV0 (p' := 64) D_Parts_find_61 V_Parts_46 (c_Num_set (by first | assumption | exact sUp_eq | (rw [sUp_ne (by omega)]; assumption) | (rw [sUp_ne (by omega), sUp_ne (by omega)]; assumption) | (rw [sUp_ne (by omega)]; exact sUp_eq) | (simp [sUp]; done)) (by first | assumption | exact sUp_eq | (rw [sUp_ne (by omega)]; assumption) | (rw [sUp_ne (by omega), sUp_ne (by omega)]; assumption) | (rw [sUp_ne (by omega)]; exact sUp_eq) | (simp [sUp]; done)) (by omega) (by omega)) rfl (by first | assumption | exact sUp_eq | (rw [sUp_ne (by omega)]; assumption) | (rw [sUp_ne (by omega), sUp_ne (by omega)]; assumption) | (rw [sUp_ne (by omega)]; exact sUp_eq) | (simp [sUp]; done)) rfl (Nat.le_of_ble_eq_true rfl) (by decide) ⟨by decide, by decide⟩ rfl ?_
          refine e_aload_0 (p' := 65) D_Parts_find_64 rfl ?_
          refine e_dup (p' := 66) D_Parts_find_65 rfl rfl ?_
          refine e_getfield (p' := 69) D_Parts_find_66 F_Parts_29 (by first | assumption | exact sUp_eq | (rw [sUp_ne (by omega)]; assumption) | (rw [sUp_ne (by omega), sUp_ne (by omega)]; assumption) | (rw [sUp_ne (by omega)]; exact sUp_eq) | (simp [sUp]; done)) (by rfl) rfl ?_
          refine e_iconst (v := nI 1) (p' := 70) D_Parts_find_69 cst_iconst_1 rfl ?_
          first | refine e_iaddN (p' := 71) D_Parts_find_70 rfl ?_ | refine e_iadd (p' := 71) D_Parts_find_70 rfl ?_
          refine e_putfield (p' := 74) D_Parts_find_71 F_Parts_29 (Or.inl rfl) (by first | assumption | exact sUp_eq | (rw [sUp_ne (by omega)]; assumption) | (rw [sUp_ne (by omega), sUp_ne (by omega)]; assumption) | (rw [sUp_ne (by omega)]; exact sUp_eq) | (simp [sUp]; done)) (fun _ => ⟨rfl, rfl⟩) (Nat.le_of_ble_eq_true rfl) (by rfl) rfl ?_
          try dsimp only [List.set]
          have hPs := (PtAt.rowSet (r := i) (a := (layR x i).2 + 1) (q := 1) D0 DV pI_N).head (n := (layR x i).2 + 1) (con' := con)
          have hFs := ((hF1.up (a := 9) (c := iA 6 (upd e1 i (nI (layR x i).2))) (by omega) (by omega)).up (a := 13) (c := iA 6 (upd e3 i (nI 1))) (by omega) (by omega)).up (a := 7) (c := oC 5 [.ref 8, .ref 10, .ref 12, .ref 14, .int (nI ((layR x i).2 + 1)), .int (sBo con)]) (by omega) (by omega)
          refine e_aload_0 (p' := 75) D_Parts_find_74 rfl ?_
          refine e_aload_1 (p' := 76) D_Parts_find_75 rfl ?_
          refine y_callV0 (p' := 79) D_Parts_find_76 V_Parts_50 (c_Parts_spread (hG.fr hFs hg) hx hg hPs (Nat.succ_ne_zero _) (by omega) (hok.1.row hx hok.2.1 hr0)) rfl (by first | assumption | exact sUp_eq | (rw [sUp_ne (by omega)]; assumption) | (rw [sUp_ne (by omega), sUp_ne (by omega)]; assumption) | (rw [sUp_ne (by omega)]; exact sUp_eq) | (simp [sUp]; done)) rfl (Nat.le_of_ble_eq_true rfl) (by decide) ⟨by decide, by decide⟩ rfl ?_
          rintro h2 ⟨hP2, hF2⟩
          first | refine e_iincN_2 (n := 1) (p' := 82) D_Parts_find_79 (Nat.le_of_ble_eq_true rfl) rfl rfl ?_ | refine e_iinc_2 (p' := 82) D_Parts_find_79 (Nat.le_of_ble_eq_true rfl) rfl rfl rfl ?_
          refine e_goto (p' := 23) D_Parts_find_82 rfl ?_
          refine sEv.castW (ih23 h2 ⟨by rw [layR_go hr0]; exact hP2, hFs.tr hF2⟩) ?_ ?_ ?_
          · first | exact lvW_rfl _ | (simp [lvW]; done) | (simp [lvW, *]; done) | (simp [lvW]; omega)
          · rfl
          · first | rfl | (simp; done)
  refine sEv.castW (lk23 0 (by omega) _ ⟨hP0, hF0⟩) ?_ ?_ ?_
  · first | exact lvW_rfl _ | (simp [lvW]; done) | (simp [lvW, *]; done) | (simp [lvW]; omega)
  · rfl
  · first | rfl | (simp; done)
