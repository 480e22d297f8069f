/-! ===== the reference: rankBy, rankBound, count ===== -/
theorem wk_put {G : Nat → Int32} {n w b : Nat} {W : Mx} {v : Int32} (hw : w < 6) (h : WkR G n w W) : WkR (upd G (6 * b + w) v) n w W := by
  intro i j hi hj
  rw [upd_off (by omega)]
  exact h i j hi hj
theorem wk_col {G : Nat → Int32} {w r c : Nat} {x : Gd} {S : Nat} (hw : w < 6) (e : bit S r = true) (h : ∀ i, i < (bld x S r).1 → G (6 * i + w) = nI ((bld x S r).2 i c)) : ∀ i, i < (bld x S (r + 1)).1 → upd G (6 * (bld x S r).1 + w) (nI (at' x r c)) (6 * i + w) = nI ((bld x S (r + 1)).2 i c) := by
  rw [bld_go e]
  intro i hi
  have hi : i < (bld x S r).1 + 1 := hi
  show _ = nI ((if i = (bld x S r).1 then at' x r else (bld x S r).2 i) c)
  by_cases w1 : i = (bld x S r).1
  · rw [w1, upd_at, if_pos rfl]
  · rw [upd_off (by omega), if_neg w1]
    exact h i (by omega)
theorem wk_done {G : Nat → Int32} {n w c : Nat} {q : Nat → Bool} {B : Mx} (hw : w = (cmp q B c).1) (e : q c = true) (h1 : WkR G n w (cmp q B c).2) (h2 : ∀ i, i < n → G (6 * i + w) = nI (B i c)) : WkR G n (cmp q B (c + 1)).1 (cmp q B (c + 1)).2 := by
  rw [cmp_go e]
  subst hw
  intro i j hi hj
  have hj : j < (cmp q B c).1 + 1 := hj
  show _ = nI (if j = (cmp q B c).1 then B i c else (cmp q B c).2 i j)
  by_cases w1 : j = (cmp q B c).1
  · rw [w1, if_pos rfl]; exact h2 i hi
  · rw [if_neg w1]; exact h1 i j hi (by omega)
theorem rkF_s {x : Gd} {i : Nat} : rkF x (i + 1) = rankSet x (i + 1) := if_neg (by omega)
theorem mxTo_le2 {f : Nat → Nat} {n : Nat} (h : f n ≤ mxTo f n) : mxTo f (n + 1) = mxTo f n := Nat.max_eq_left h
theorem mxTo_gt {f : Nat → Nat} {n : Nat} (h : ¬ f n ≤ mxTo f n) : mxTo f (n + 1) = f n := Nat.max_eq_right (by omega)
set_option maxRecDepth 4000 in
theorem c_M_rankBy {l : Launch} {h : sH} {x : Gd} {n0 t0 : Nat} {v : mV} (hm : h.2 61 = mO n0 t0 v) (hz : h.2 62 = iA 39 (nF (zN x))) (hx : Gok x) (hA : ∃ F, h.2 71 = iA 36 F) {S : Nat} (h0 : 0 < S) (hS : S < 2 ^ x.1.1) : sY l m_M_rankBy 4 [.ref 61, .int (nI S)] h (some (.int (nI (rankSet x S)))) (fun h1 => (∃ F, h1.2 71 = iA 36 F) ∧ FrW h h1) := by
  have hM := hx.2.2.1.le
  have hR := hx.1
  have hC := hx.2.1
  have hp := powR x.1.1 (by omega)
  have hS64 : S < 64 := by omega
  have hnb := bld_le (x := x) (S := S) (r := x.1.1)
  obtain ⟨F, hF⟩ := hA
  refine en_M_rankBy ?_
  refine e_iconst (v := nI 0) (p' := 1) D_M_rankBy_0 cst_iconst_0 rfl ?_
  refine e_istore_2 (p' := 2) D_M_rankBy_1 (Nat.le_of_ble_eq_true rfl) rfl rfl ?_
  refine e_iconst (v := nI 0) (p' := 3) D_M_rankBy_2 cst_iconst_0 rfl ?_
  refine e_istore_3 (p' := 4) D_M_rankBy_3 (Nat.le_of_ble_eq_true rfl) rfl rfl ?_
  refine e_iconst (v := nI 0) (p' := 5) D_M_rankBy_4 cst_iconst_0 rfl ?_
  refine e_istore_4 (p' := 7) D_M_rankBy_5 (Nat.le_of_ble_eq_true rfl) rfl rfl ?_
  have lk7 : ∀ c : Nat, c ≤ x.1.2.1 → ∀ (h1 : sH) (rw0 : Nat), (((∃ G, h1.2 71 = iA 36 G ∧ WkR G (bld x S x.1.1).1 (cmp (colB x S 6) (bld x S x.1.1).2 c).1 (cmp (colB x S 6) (bld x S x.1.1).2 c).2) ∧ FrW h h1) ∧ ((cmp (colB x S 6) (bld x S x.1.1).2 c).1 = 0 ∨ rw0 = (bld x S x.1.1).1)) → sEv l m_M_rankBy 4 (0, 0, 0, 0) (sKm 0 0 (fun r1 h1 => r1 = some (.int (nI (rankSet x S))) ∧ (fun h1 => (∃ F, h1.2 71 = iA 36 F) ∧ FrW h h1) h1)) 7 [some (.ref 61), some (.int (nI S)), some (.int (nI (cmp (colB x S 6) (bld x S x.1.1).2 c).1)), some (.int (nI rw0)), some (.int (nI c)), none] [] (h1) := by
    refine lp_up _ ?_ ?_
    · intro h1 rw0 ⟨⟨⟨G, G1, GG⟩, FF⟩, hrw⟩
      have km1 := (FF 61 (by omega)).trans hm
      have kz1 := (FF 62 (by omega)).trans hz
      have cl := cmp_le (q := (colB x S 6)) (B := (bld x S x.1.1).2) (x.1.2.1)
      refine e_iload_4 (p' := 9) D_M_rankBy_7 rfl ?_
      refine e_aload_0 (p' := 10) D_M_rankBy_9 rfl ?_
      refine e_getfield (p' := 13) D_M_rankBy_10 F_M_7 (by first | assumption | exact sUp_eq | (rw [sUp_ne (by omega)]; assumption) | (rw [sUp_ne (by omega), sUp_ne (by omega)]; assumption) | (rw [sUp_ne (by omega)]; exact sUp_eq) | (rw [gSet_ne (by omega) (by omega)]; first | assumption | exact sUp_eq | (rw [sUp_ne (by omega)]; assumption) | (rw [sUp_ne (by omega), sUp_ne (by omega)]; assumption)) | (rw [sUp_ne (by omega), sUp_ne (by omega), sUp_ne (by omega)]; assumption) | (simp [sUp]; done)) (by rfl) rfl ?_
      refine e_bipush (v := nI 37) (p' := 15) D_M_rankBy_13 cst_bipush_37 rfl ?_
      refine e_iaload (p' := 16) D_M_rankBy_15 (by first | assumption | exact sUp_eq | (rw [sUp_ne (by omega)]; assumption) | (rw [sUp_ne (by omega), sUp_ne (by omega)]; assumption) | (rw [sUp_ne (by omega)]; exact sUp_eq) | (rw [gSet_ne (by omega) (by omega)]; first | assumption | exact sUp_eq | (rw [sUp_ne (by omega)]; assumption) | (rw [sUp_ne (by omega), sUp_ne (by omega)]; assumption)) | (rw [sUp_ne (by omega), sUp_ne (by omega), sUp_ne (by omega)]; assumption) | (simp [sUp]; done)) (by omega) (by omega) (by rfl) rfl ?_
      rw [z37]
      refine e_icmpN_ge (q := 93) (p' := 19) D_M_rankBy_16 (by omega) (by omega) rfl rfl (fun hc16 => ?_) (fun hc16 => ?_)
      ·
        refine e_iload_2 (p' := 94) D_M_rankBy_93 rfl ?_
        refine e_ifN_ne (q := 101) (p' := 97) D_M_rankBy_94 (by omega) rfl rfl (fun hc94 => ?_) (fun hc94 => ?_)
        ·
          have ern : rw0 = (bld x S x.1.1).1 := by omega
          subst ern
          refine e_aload_0 (p' := 102) D_M_rankBy_101 rfl ?_
          refine e_iload_3 (p' := 103) D_M_rankBy_102 rfl ?_
          refine e_iload_2 (p' := 104) D_M_rankBy_103 rfl ?_
          refine y_callV1 (p' := 107) D_M_rankBy_104 V_M_121 (c_M_rankOf km1 kz1 hx G1 GG (by omega) (by omega) (cmp_bd (by omega) (bld_lt hx) _)) rfl (by first | assumption | exact sUp_eq | (rw [sUp_ne (by omega)]; assumption) | (rw [sUp_ne (by omega), sUp_ne (by omega)]; assumption) | (rw [sUp_ne (by omega)]; exact sUp_eq) | (rw [gSet_ne (by omega) (by omega)]; first | assumption | exact sUp_eq | (rw [sUp_ne (by omega)]; assumption) | (rw [sUp_ne (by omega), sUp_ne (by omega)]; assumption)) | (rw [sUp_ne (by omega), sUp_ne (by omega), sUp_ne (by omega)]; assumption) | (simp [sUp]; done)) rfl (Nat.le_of_ble_eq_true rfl) (by decide) ⟨by decide, by decide⟩ rfl ?_
          rintro h3 ⟨R1, F3⟩
          refine e_ireturn (ty := .int) D_M_rankBy_107 rfl (by first | rfl | exact sBo_nar _) ⟨by decide, by decide⟩ ?_
          rw [← rank_cmp hx h0 hS]; exact ⟨rfl, R1, FF.tr F3⟩
        ·
          refine e_iconst (v := nI 0) (p' := 98) D_M_rankBy_97 cst_iconst_0 rfl ?_
          refine e_goto (p' := 107) D_M_rankBy_98 rfl ?_
          refine e_ireturn (ty := .int) D_M_rankBy_107 rfl (by first | rfl | exact sBo_nar _) ⟨by decide, by decide⟩ ?_
          rw [← rank_cmp hx h0 hS, hc94]; exact ⟨rfl, ⟨G, G1⟩, FF⟩
      ·
        exfalso; omega
    · intro c hc ih7 h1 rw0 ⟨⟨⟨G, G1, GG⟩, FF⟩, hrw⟩
      have km1 := (FF 61 (by omega)).trans hm
      have kz1 := (FF 62 (by omega)).trans hz
      have cl := cmp_le (q := (colB x S 6)) (B := (bld x S x.1.1).2) c
      refine e_iload_4 (p' := 9) D_M_rankBy_7 rfl ?_
      refine e_aload_0 (p' := 10) D_M_rankBy_9 rfl ?_
      refine e_getfield (p' := 13) D_M_rankBy_10 F_M_7 (by first | assumption | exact sUp_eq | (rw [sUp_ne (by omega)]; assumption) | (rw [sUp_ne (by omega), sUp_ne (by omega)]; assumption) | (rw [sUp_ne (by omega)]; exact sUp_eq) | (rw [gSet_ne (by omega) (by omega)]; first | assumption | exact sUp_eq | (rw [sUp_ne (by omega)]; assumption) | (rw [sUp_ne (by omega), sUp_ne (by omega)]; assumption)) | (rw [sUp_ne (by omega), sUp_ne (by omega), sUp_ne (by omega)]; assumption) | (simp [sUp]; done)) (by rfl) rfl ?_
      refine e_bipush (v := nI 37) (p' := 15) D_M_rankBy_13 cst_bipush_37 rfl ?_
      refine e_iaload (p' := 16) D_M_rankBy_15 (by first | assumption | exact sUp_eq | (rw [sUp_ne (by omega)]; assumption) | (rw [sUp_ne (by omega), sUp_ne (by omega)]; assumption) | (rw [sUp_ne (by omega)]; exact sUp_eq) | (rw [gSet_ne (by omega) (by omega)]; first | assumption | exact sUp_eq | (rw [sUp_ne (by omega)]; assumption) | (rw [sUp_ne (by omega), sUp_ne (by omega)]; assumption)) | (rw [sUp_ne (by omega), sUp_ne (by omega), sUp_ne (by omega)]; assumption) | (simp [sUp]; done)) (by omega) (by omega) (by rfl) rfl ?_
      rw [z37]
      refine e_icmpN_ge (q := 93) (p' := 19) D_M_rankBy_16 (by omega) (by omega) rfl rfl (fun hc16 => ?_) (fun hc16 => ?_)
      ·
        exfalso; omega
      ·
        refine e_aload_0 (p' := 20) D_M_rankBy_19 rfl ?_
        refine e_iload_1 (p' := 21) D_M_rankBy_20 rfl ?_
        refine e_iload_4 (p' := 23) D_M_rankBy_21 rfl ?_
        refine x_callV1 (p' := 26) D_M_rankBy_23 V_M_118 (c_M_areTold km1 kz1 hx hS64 (by omega)) rfl (by first | assumption | exact sUp_eq | (rw [sUp_ne (by omega)]; assumption) | (rw [sUp_ne (by omega), sUp_ne (by omega)]; assumption) | (rw [sUp_ne (by omega)]; exact sUp_eq) | (rw [gSet_ne (by omega) (by omega)]; first | assumption | exact sUp_eq | (rw [sUp_ne (by omega)]; assumption) | (rw [sUp_ne (by omega), sUp_ne (by omega)]; assumption)) | (rw [sUp_ne (by omega), sUp_ne (by omega), sUp_ne (by omega)]; assumption) | (simp [sUp]; done)) rfl (Nat.le_of_ble_eq_true rfl) (by decide) ⟨by decide, by decide⟩ rfl ?_
        rw [← colB_R hx hS]
        refine e_ifB_eq (q := 87) (p' := 29) D_M_rankBy_26 rfl rfl (fun hc26 => ?_) (fun hc26 => ?_)
        ·
          first | refine e_iincN_4 (n := 1) (p' := 90) D_M_rankBy_87 (Nat.le_of_ble_eq_true rfl) rfl rfl ?_ | refine e_iinc_4 (p' := 90) D_M_rankBy_87 (Nat.le_of_ble_eq_true rfl) rfl rfl rfl ?_
          refine e_goto (p' := 7) D_M_rankBy_90 rfl ?_
          refine sEv.castW (ih7 h1 rw0 ⟨⟨⟨G, G1, by rw [cmp_no hc26]; exact GG⟩, FF⟩, by rw [cmp_no hc26]; exact hrw⟩) ?_ ?_ ?_
          · rw [cmp_no hc26]; exact ⟨rfl, rfl, rfl, rfl, rfl, trivial⟩
          · rfl
          · first | rfl | (simp; done)
        ·
          refine e_iconst (v := nI 0) (p' := 30) D_M_rankBy_29 cst_iconst_0 rfl ?_
          refine e_istore_3 (p' := 31) D_M_rankBy_30 (Nat.le_of_ble_eq_true rfl) rfl rfl ?_
          refine e_iconst (v := nI 0) (p' := 32) D_M_rankBy_31 cst_iconst_0 rfl ?_
          refine e_istore_5 (p' := 34) D_M_rankBy_32 (Nat.le_of_ble_eq_true rfl) rfl rfl ?_
          have lk34 : ∀ r : Nat, r ≤ x.1.1 → ∀ (h2 : sH), ((∃ G, h2.2 71 = iA 36 G ∧ WkR G (bld x S x.1.1).1 (cmp (colB x S 6) (bld x S x.1.1).2 c).1 (cmp (colB x S 6) (bld x S x.1.1).2 c).2 ∧ ∀ i, i < (bld x S r).1 → G (6 * i + (cmp (colB x S 6) (bld x S x.1.1).2 c).1) = nI ((bld x S r).2 i c)) ∧ FrW h h2) → sEv l m_M_rankBy 4 (0, 0, 0, 0) (sKm 0 0 (fun r1 h1 => r1 = some (.int (nI (rankSet x S))) ∧ (fun h1 => (∃ F, h1.2 71 = iA 36 F) ∧ FrW h h1) h1)) 34 [some (.ref 61), some (.int (nI S)), some (.int (nI (cmp (colB x S 6) (bld x S x.1.1).2 c).1)), some (.int (nI (bld x S r).1)), some (.int (nI c)), some (.int (nI r))] [] (h2) := by
            refine lp_up _ ?_ ?_
            · intro h2 ⟨⟨G2, G3, GG2, GC⟩, F2⟩
              have km2 := (F2 61 (by omega)).trans hm
              have kz2 := (F2 62 (by omega)).trans hz
              have bl := bld_le (x := x) (S := S) (r := (x.1.1))
              refine e_iload_5 (p' := 36) D_M_rankBy_34 rfl ?_
              refine e_aload_0 (p' := 37) D_M_rankBy_36 rfl ?_
              refine e_getfield (p' := 40) D_M_rankBy_37 F_M_7 (by first | assumption | exact sUp_eq | (rw [sUp_ne (by omega)]; assumption) | (rw [sUp_ne (by omega), sUp_ne (by omega)]; assumption) | (rw [sUp_ne (by omega)]; exact sUp_eq) | (rw [gSet_ne (by omega) (by omega)]; first | assumption | exact sUp_eq | (rw [sUp_ne (by omega)]; assumption) | (rw [sUp_ne (by omega), sUp_ne (by omega)]; assumption)) | (rw [sUp_ne (by omega), sUp_ne (by omega), sUp_ne (by omega)]; assumption) | (simp [sUp]; done)) (by rfl) rfl ?_
              refine e_bipush (v := nI 36) (p' := 42) D_M_rankBy_40 cst_bipush_36 rfl ?_
              refine e_iaload (p' := 43) D_M_rankBy_42 (by first | assumption | exact sUp_eq | (rw [sUp_ne (by omega)]; assumption) | (rw [sUp_ne (by omega), sUp_ne (by omega)]; assumption) | (rw [sUp_ne (by omega)]; exact sUp_eq) | (rw [gSet_ne (by omega) (by omega)]; first | assumption | exact sUp_eq | (rw [sUp_ne (by omega)]; assumption) | (rw [sUp_ne (by omega), sUp_ne (by omega)]; assumption)) | (rw [sUp_ne (by omega), sUp_ne (by omega), sUp_ne (by omega)]; assumption) | (simp [sUp]; done)) (by omega) (by omega) (by rfl) rfl ?_
              rw [z36]
              refine e_icmpN_ge (q := 84) (p' := 46) D_M_rankBy_43 (by omega) (by omega) rfl rfl (fun hc43 => ?_) (fun hc43 => ?_)
              ·
                first | refine e_iincN_2 (n := 1) (p' := 87) D_M_rankBy_84 (Nat.le_of_ble_eq_true rfl) rfl rfl ?_ | refine e_iinc_2 (p' := 87) D_M_rankBy_84 (Nat.le_of_ble_eq_true rfl) rfl rfl rfl ?_
                first | refine e_iincN_4 (n := 1) (p' := 90) D_M_rankBy_87 (Nat.le_of_ble_eq_true rfl) rfl rfl ?_ | refine e_iinc_4 (p' := 90) D_M_rankBy_87 (Nat.le_of_ble_eq_true rfl) rfl rfl rfl ?_
                refine e_goto (p' := 7) D_M_rankBy_90 rfl ?_
                refine sEv.castW (ih7 h2 (bld x S x.1.1).1 ⟨⟨⟨G2, G3, wk_done rfl hc26 GG2 GC⟩, F2⟩, Or.inr rfl⟩) ?_ ?_ ?_
                · rw [cmp_go hc26]; exact ⟨rfl, rfl, rfl, rfl, rfl, trivial⟩
                · rfl
                · first | rfl | (simp; done)
              ·
                exfalso; omega
            · intro r hr ih34 h2 ⟨⟨G2, G3, GG2, GC⟩, F2⟩
              have km2 := (F2 61 (by omega)).trans hm
              have kz2 := (F2 62 (by omega)).trans hz
              have bl := bld_le (x := x) (S := S) (r := r)
              refine e_iload_5 (p' := 36) D_M_rankBy_34 rfl ?_
              refine e_aload_0 (p' := 37) D_M_rankBy_36 rfl ?_
              refine e_getfield (p' := 40) D_M_rankBy_37 F_M_7 (by first | assumption | exact sUp_eq | (rw [sUp_ne (by omega)]; assumption) | (rw [sUp_ne (by omega), sUp_ne (by omega)]; assumption) | (rw [sUp_ne (by omega)]; exact sUp_eq) | (rw [gSet_ne (by omega) (by omega)]; first | assumption | exact sUp_eq | (rw [sUp_ne (by omega)]; assumption) | (rw [sUp_ne (by omega), sUp_ne (by omega)]; assumption)) | (rw [sUp_ne (by omega), sUp_ne (by omega), sUp_ne (by omega)]; assumption) | (simp [sUp]; done)) (by rfl) rfl ?_
              refine e_bipush (v := nI 36) (p' := 42) D_M_rankBy_40 cst_bipush_36 rfl ?_
              refine e_iaload (p' := 43) D_M_rankBy_42 (by first | assumption | exact sUp_eq | (rw [sUp_ne (by omega)]; assumption) | (rw [sUp_ne (by omega), sUp_ne (by omega)]; assumption) | (rw [sUp_ne (by omega)]; exact sUp_eq) | (rw [gSet_ne (by omega) (by omega)]; first | assumption | exact sUp_eq | (rw [sUp_ne (by omega)]; assumption) | (rw [sUp_ne (by omega), sUp_ne (by omega)]; assumption)) | (rw [sUp_ne (by omega), sUp_ne (by omega), sUp_ne (by omega)]; assumption) | (simp [sUp]; done)) (by omega) (by omega) (by rfl) rfl ?_
              rw [z36]
              refine e_icmpN_ge (q := 84) (p' := 46) D_M_rankBy_43 (by omega) (by omega) rfl rfl (fun hc43 => ?_) (fun hc43 => ?_)
              ·
                exfalso; omega
              ·
                refine e_iload_1 (p' := 47) D_M_rankBy_46 rfl ?_
                refine e_iload_5 (p' := 49) D_M_rankBy_47 rfl ?_
                refine e_ishr (p' := 50) D_M_rankBy_49 rfl ?_
                refine e_iconst (v := nI 1) (p' := 51) D_M_rankBy_50 cst_iconst_1 rfl ?_
                refine e_iand (p' := 52) D_M_rankBy_51 rfl ?_
                rw [holds_ok _ hS64 _ (by omega)]
                refine e_iconst (v := nI 1) (p' := 53) D_M_rankBy_52 cst_iconst_1 rfl ?_
                refine e_icmpN_ne (q := 78) (p' := 56) D_M_rankBy_53 (by omega) (by omega) rfl rfl (fun hc53 => ?_) (fun hc53 => ?_)
                ·
                  first | refine e_iincN_5 (n := 1) (p' := 81) D_M_rankBy_78 (Nat.le_of_ble_eq_true rfl) rfl rfl ?_ | refine e_iinc_5 (p' := 81) D_M_rankBy_78 (Nat.le_of_ble_eq_true rfl) rfl rfl rfl ?_
                  refine e_goto (p' := 34) D_M_rankBy_81 rfl ?_
                  refine sEv.castW (ih34 h2 ⟨⟨G2, G3, GG2, by rw [bld_no (decide_eq_false hc53)]; exact GC⟩, F2⟩) ?_ ?_ ?_
                  · rw [bld_no (decide_eq_false hc53)]; exact ⟨rfl, rfl, rfl, rfl, rfl, rfl, trivial⟩
                  · rfl
                  · first | rfl | (simp; done)
                ·
                  refine e_aload_0 (p' := 57) D_M_rankBy_56 rfl ?_
                  refine e_getfield (p' := 60) D_M_rankBy_57 F_M_39 (by first | assumption | exact sUp_eq | (rw [sUp_ne (by omega)]; assumption) | (rw [sUp_ne (by omega), sUp_ne (by omega)]; assumption) | (rw [sUp_ne (by omega)]; exact sUp_eq) | (rw [gSet_ne (by omega) (by omega)]; first | assumption | exact sUp_eq | (rw [sUp_ne (by omega)]; assumption) | (rw [sUp_ne (by omega), sUp_ne (by omega)]; assumption)) | (rw [sUp_ne (by omega), sUp_ne (by omega), sUp_ne (by omega)]; assumption) | (simp [sUp]; done)) (by rfl) rfl ?_
                  refine e_bipush (v := nI 6) (p' := 62) D_M_rankBy_60 cst_bipush_6 rfl ?_
                  refine e_iload_3 (p' := 63) D_M_rankBy_62 rfl ?_
                  first | refine e_imulN (p' := 64) D_M_rankBy_63 rfl ?_ | refine e_imul (p' := 64) D_M_rankBy_63 rfl ?_
                  refine e_iload_2 (p' := 65) D_M_rankBy_64 rfl ?_
                  first | refine e_iaddN (p' := 66) D_M_rankBy_65 rfl ?_ | refine e_iadd (p' := 66) D_M_rankBy_65 rfl ?_
                  refine e_aload_0 (p' := 67) D_M_rankBy_66 rfl ?_
                  refine e_iload_5 (p' := 69) D_M_rankBy_67 rfl ?_
                  refine e_iload_4 (p' := 71) D_M_rankBy_69 rfl ?_
                  refine x_callV1 (p' := 74) D_M_rankBy_71 V_M_67 (c_M_at km2 kz2 hx (by omega) (by omega)) rfl (by first | assumption | exact sUp_eq | (rw [sUp_ne (by omega)]; assumption) | (rw [sUp_ne (by omega), sUp_ne (by omega)]; assumption) | (rw [sUp_ne (by omega)]; exact sUp_eq) | (rw [gSet_ne (by omega) (by omega)]; first | assumption | exact sUp_eq | (rw [sUp_ne (by omega)]; assumption) | (rw [sUp_ne (by omega), sUp_ne (by omega)]; assumption)) | (rw [sUp_ne (by omega), sUp_ne (by omega), sUp_ne (by omega)]; assumption) | (simp [sUp]; done)) rfl (Nat.le_of_ble_eq_true rfl) (by decide) ⟨by decide, by decide⟩ rfl ?_
                  refine e_iastore (p' := 75) D_M_rankBy_74 (by first | assumption | exact sUp_eq | (rw [sUp_ne (by omega)]; assumption) | (rw [sUp_ne (by omega), sUp_ne (by omega)]; assumption) | (rw [sUp_ne (by omega)]; exact sUp_eq) | (rw [gSet_ne (by omega) (by omega)]; first | assumption | exact sUp_eq | (rw [sUp_ne (by omega)]; assumption) | (rw [sUp_ne (by omega), sUp_ne (by omega)]; assumption)) | (rw [sUp_ne (by omega), sUp_ne (by omega), sUp_ne (by omega)]; assumption) | (simp [sUp]; done)) (by omega) (by omega) rfl ?_
                  first | refine e_iincN_3 (n := 1) (p' := 78) D_M_rankBy_75 (Nat.le_of_ble_eq_true rfl) rfl rfl ?_ | refine e_iinc_3 (p' := 78) D_M_rankBy_75 (Nat.le_of_ble_eq_true rfl) rfl rfl rfl ?_
                  first | refine e_iincN_5 (n := 1) (p' := 81) D_M_rankBy_78 (Nat.le_of_ble_eq_true rfl) rfl rfl ?_ | refine e_iinc_5 (p' := 81) D_M_rankBy_78 (Nat.le_of_ble_eq_true rfl) rfl rfl rfl ?_
                  refine e_goto (p' := 34) D_M_rankBy_81 rfl ?_
                  refine sEv.castW (ih34 (sUp h2 71 (iA 36 (upd G2 (6 * (bld x S r).1 + (cmp (colB x S 6) (bld x S x.1.1).2 c).1) (nI (at' x r c))))) ⟨⟨_, sUp_eq, wk_put (by omega) GG2, wk_col (by omega) (decide_eq_true hc53) GC⟩, F2.tr fun q hq => sUp_ne hq⟩) ?_ ?_ ?_
                  · rw [bld_go (decide_eq_true hc53)]; exact ⟨rfl, rfl, rfl, rfl, rfl, rfl, trivial⟩
                  · rfl
                  · first | rfl | (simp; done)
          refine sEv.castW (lk34 0 (by omega) h1 ⟨⟨G, G1, GG, fun i hi => absurd hi (Nat.not_lt_zero _)⟩, FF⟩) ?_ ?_ ?_
          · exact ⟨rfl, rfl, rfl, rfl, rfl, rfl, trivial⟩
          · rfl
          · first | rfl | (simp; done)
  refine sEv.castW (lk7 0 (by omega) h 0 ⟨⟨⟨F, hF, fun i j _ hj => absurd hj (Nat.not_lt_zero _)⟩, FrW.rf⟩, Or.inl rfl⟩) ?_ ?_ ?_
  · exact ⟨rfl, rfl, rfl, rfl, rfl, trivial⟩
  · rfl
  · first | rfl | (simp; done)
set_option maxRecDepth 4000 in
theorem c_M_rankBound {l : Launch} {h : sH} {x : Gd} {n0 t0 : Nat} {v : mV} (hm : h.2 61 = mO n0 t0 v) (hz : h.2 62 = iA 39 (nF (zN x))) (hx : Gok x) (hA : ∃ F, h.2 71 = iA 36 F) : sY l m_M_rankBound 5 [.ref 61] h (some (.int (nI (rankAll x)))) (fun h1 => (∃ F, h1.2 71 = iA 36 F) ∧ FrW h h1) := by
  have hM := hx.2.2.1.le
  have hR := hx.1
  have hC := hx.2.1
  have hp := powR x.1.1 (by omega)
  refine en_M_rankBound ?_
  refine e_iconst (v := nI 0) (p' := 1) D_M_rankBound_0 cst_iconst_0 rfl ?_
  refine e_istore_1 (p' := 2) D_M_rankBound_1 (Nat.le_of_ble_eq_true rfl) rfl rfl ?_
  refine e_iconst (v := nI 1) (p' := 3) D_M_rankBound_2 cst_iconst_1 rfl ?_
  refine e_istore_2 (p' := 4) D_M_rankBound_3 (Nat.le_of_ble_eq_true rfl) rfl rfl ?_
  have lk4 : ∀ i : Nat, i ≤ 2 ^ x.1.1 - 1 → ∀ (h1 : sH), ((∃ F, h1.2 71 = iA 36 F) ∧ FrW h h1) → sEv l m_M_rankBound 5 (0, 0, 0, 0) (sKm 0 0 (fun r1 h1 => r1 = some (.int (nI (rankAll x))) ∧ (fun h1 => (∃ F, h1.2 71 = iA 36 F) ∧ FrW h h1) h1)) 4 [some (.ref 61), some (.int (nI (mxTo (rkF x) (i + 1)))), some (.int (nI (i + 1))), none] [] (h1) := by
    refine lp_up _ ?_ ?_
    · intro h1 ⟨GA, FF⟩
      have km1 := (FF 61 (by omega)).trans hm
      have kz1 := (FF 62 (by omega)).trans hz
      have m6 := mxTo_le (rkF_le hx) ((2 ^ x.1.1 - 1) + 1)
      refine e_iload_2 (p' := 5) D_M_rankBound_4 rfl ?_
      refine e_iconst (v := nI 1) (p' := 6) D_M_rankBound_5 cst_iconst_1 rfl ?_
      refine e_aload_0 (p' := 7) D_M_rankBound_6 rfl ?_
      refine e_getfield (p' := 10) D_M_rankBound_7 F_M_7 (by first | assumption | exact sUp_eq | (rw [sUp_ne (by omega)]; assumption) | (rw [sUp_ne (by omega), sUp_ne (by omega)]; assumption) | (rw [sUp_ne (by omega)]; exact sUp_eq) | (rw [gSet_ne (by omega) (by omega)]; first | assumption | exact sUp_eq | (rw [sUp_ne (by omega)]; assumption) | (rw [sUp_ne (by omega), sUp_ne (by omega)]; assumption)) | (rw [sUp_ne (by omega), sUp_ne (by omega), sUp_ne (by omega)]; assumption) | (simp [sUp]; done)) (by rfl) rfl ?_
      refine e_bipush (v := nI 36) (p' := 12) D_M_rankBound_10 cst_bipush_36 rfl ?_
      refine e_iaload (p' := 13) D_M_rankBound_12 (by first | assumption | exact sUp_eq | (rw [sUp_ne (by omega)]; assumption) | (rw [sUp_ne (by omega), sUp_ne (by omega)]; assumption) | (rw [sUp_ne (by omega)]; exact sUp_eq) | (rw [gSet_ne (by omega) (by omega)]; first | assumption | exact sUp_eq | (rw [sUp_ne (by omega)]; assumption) | (rw [sUp_ne (by omega), sUp_ne (by omega)]; assumption)) | (rw [sUp_ne (by omega), sUp_ne (by omega), sUp_ne (by omega)]; assumption) | (simp [sUp]; done)) (by omega) (by omega) (by rfl) rfl ?_
      rw [z36]
      refine e_ishl (p' := 14) D_M_rankBound_13 rfl ?_
      rw [shlR _ (by omega)]
      refine e_icmpN_ge (q := 40) (p' := 17) D_M_rankBound_14 (by omega) (by omega) rfl rfl (fun hc14 => ?_) (fun hc14 => ?_)
      ·
        refine e_iload_1 (p' := 41) D_M_rankBound_40 rfl ?_
        refine e_ireturn (ty := .int) D_M_rankBound_41 rfl (by first | rfl | exact sBo_nar _) ⟨by decide, by decide⟩ ?_
        rw [show 2 ^ x.1.1 - 1 + 1 = 2 ^ x.1.1 by omega, rank_all hx]; exact ⟨rfl, GA, FF⟩
      ·
        exfalso; omega
    · intro i hi ih4 h1 ⟨GA, FF⟩
      have km1 := (FF 61 (by omega)).trans hm
      have kz1 := (FF 62 (by omega)).trans hz
      have m6 := mxTo_le (rkF_le hx) (i + 1)
      refine e_iload_2 (p' := 5) D_M_rankBound_4 rfl ?_
      refine e_iconst (v := nI 1) (p' := 6) D_M_rankBound_5 cst_iconst_1 rfl ?_
      refine e_aload_0 (p' := 7) D_M_rankBound_6 rfl ?_
      refine e_getfield (p' := 10) D_M_rankBound_7 F_M_7 (by first | assumption | exact sUp_eq | (rw [sUp_ne (by omega)]; assumption) | (rw [sUp_ne (by omega), sUp_ne (by omega)]; assumption) | (rw [sUp_ne (by omega)]; exact sUp_eq) | (rw [gSet_ne (by omega) (by omega)]; first | assumption | exact sUp_eq | (rw [sUp_ne (by omega)]; assumption) | (rw [sUp_ne (by omega), sUp_ne (by omega)]; assumption)) | (rw [sUp_ne (by omega), sUp_ne (by omega), sUp_ne (by omega)]; assumption) | (simp [sUp]; done)) (by rfl) rfl ?_
      refine e_bipush (v := nI 36) (p' := 12) D_M_rankBound_10 cst_bipush_36 rfl ?_
      refine e_iaload (p' := 13) D_M_rankBound_12 (by first | assumption | exact sUp_eq | (rw [sUp_ne (by omega)]; assumption) | (rw [sUp_ne (by omega), sUp_ne (by omega)]; assumption) | (rw [sUp_ne (by omega)]; exact sUp_eq) | (rw [gSet_ne (by omega) (by omega)]; first | assumption | exact sUp_eq | (rw [sUp_ne (by omega)]; assumption) | (rw [sUp_ne (by omega), sUp_ne (by omega)]; assumption)) | (rw [sUp_ne (by omega), sUp_ne (by omega), sUp_ne (by omega)]; assumption) | (simp [sUp]; done)) (by omega) (by omega) (by rfl) rfl ?_
      rw [z36]
      refine e_ishl (p' := 14) D_M_rankBound_13 rfl ?_
      rw [shlR _ (by omega)]
      refine e_icmpN_ge (q := 40) (p' := 17) D_M_rankBound_14 (by omega) (by omega) rfl rfl (fun hc14 => ?_) (fun hc14 => ?_)
      ·
        exfalso; omega
      ·
        refine e_aload_0 (p' := 18) D_M_rankBound_17 rfl ?_
        refine e_iload_2 (p' := 19) D_M_rankBound_18 rfl ?_
        refine y_callV1 (p' := 22) D_M_rankBound_19 V_M_124 (c_M_rankBy km1 kz1 hx GA (by omega) (by omega)) rfl (by first | assumption | exact sUp_eq | (rw [sUp_ne (by omega)]; assumption) | (rw [sUp_ne (by omega), sUp_ne (by omega)]; assumption) | (rw [sUp_ne (by omega)]; exact sUp_eq) | (rw [gSet_ne (by omega) (by omega)]; first | assumption | exact sUp_eq | (rw [sUp_ne (by omega)]; assumption) | (rw [sUp_ne (by omega), sUp_ne (by omega)]; assumption)) | (rw [sUp_ne (by omega), sUp_ne (by omega), sUp_ne (by omega)]; assumption) | (simp [sUp]; done)) rfl (Nat.le_of_ble_eq_true rfl) (by decide) ⟨by decide, by decide⟩ rfl ?_
        rintro h2 ⟨R2, F2⟩
        have r6 := rankSet_le hx (S := i + 1)
        refine e_istore_3 (p' := 23) D_M_rankBound_22 (Nat.le_of_ble_eq_true rfl) rfl rfl ?_
        refine e_iload_3 (p' := 24) D_M_rankBound_23 rfl ?_
        refine e_iload_1 (p' := 25) D_M_rankBound_24 rfl ?_
        refine e_icmpN_le (q := 32) (p' := 28) D_M_rankBound_25 (by omega) (by omega) rfl rfl (fun hc25 => ?_) (fun hc25 => ?_)
        ·
          refine e_iload_1 (p' := 33) D_M_rankBound_32 rfl ?_
          refine e_istore_1 (p' := 34) D_M_rankBound_33 (Nat.le_of_ble_eq_true rfl) rfl rfl ?_
          first | refine e_iincN_2 (n := 1) (p' := 37) D_M_rankBound_34 (Nat.le_of_ble_eq_true rfl) rfl rfl ?_ | refine e_iinc_2 (p' := 37) D_M_rankBound_34 (Nat.le_of_ble_eq_true rfl) rfl rfl rfl ?_
          refine e_goto (p' := 4) D_M_rankBound_37 rfl ?_
          refine sEv.castW (ih4 h2 ⟨R2, FF.tr F2⟩) ?_ ?_ ?_
          · rw [mxTo_le2 (by rw [rkF_s]; exact hc25)]; exact ⟨rfl, rfl, rfl, trivial⟩
          · rfl
          · first | rfl | (simp; done)
        ·
          refine e_iload_3 (p' := 29) D_M_rankBound_28 rfl ?_
          refine e_goto (p' := 33) D_M_rankBound_29 rfl ?_
          refine e_istore_1 (p' := 34) D_M_rankBound_33 (Nat.le_of_ble_eq_true rfl) rfl rfl ?_
          first | refine e_iincN_2 (n := 1) (p' := 37) D_M_rankBound_34 (Nat.le_of_ble_eq_true rfl) rfl rfl ?_ | refine e_iinc_2 (p' := 37) D_M_rankBound_34 (Nat.le_of_ble_eq_true rfl) rfl rfl rfl ?_
          refine e_goto (p' := 4) D_M_rankBound_37 rfl ?_
          refine sEv.castW (ih4 h2 ⟨R2, FF.tr F2⟩) ?_ ?_ ?_
          · rw [mxTo_gt (by rw [rkF_s]; exact hc25), rkF_s]; exact ⟨rfl, rfl, rfl, trivial⟩
          · rfl
          · first | rfl | (simp; done)
  refine sEv.castW (lk4 0 (by omega) h ⟨hA, FrW.rf⟩) ?_ ?_ ?_
  · rw [rkF_0]; exact ⟨rfl, rfl, rfl, trivial⟩
  · rfl
  · first | rfl | (simp; done)
theorem MRest.wk {h h1 : sH} {s : Mr} (H : MRest h s) (fw : ∃ F, h1.2 71 = iA 36 F) (ff : FrW h h1) : MRest h1 s := by
  obtain ⟨⟨v, a1⟩, ⟨f, a2, b2⟩, ⟨f3, a3, b3⟩, ⟨f4, a4, b4⟩, ⟨f5, a5, b5⟩, ⟨f6, f7, f8, f9, a6, a7, a8, a9⟩, _, ⟨f11, a11⟩, ⟨f12, a12⟩⟩ := H
  exact ⟨⟨v, (ff _ (by omega)).trans a1⟩, ⟨f, (ff _ (by omega)).trans a2, b2⟩, ⟨f3, (ff _ (by omega)).trans a3, b3⟩, ⟨f4, (ff _ (by omega)).trans a4, b4⟩, ⟨f5, (ff _ (by omega)).trans a5, b5⟩, ⟨f6, f7, f8, f9, (ff _ (by omega)).trans a6, (ff _ (by omega)).trans a7, (ff _ (by omega)).trans a8, (ff _ (by omega)).trans a9⟩, fw, ⟨f11, (ff _ (by omega)).trans a11⟩, ⟨f12, (ff _ (by omega)).trans a12⟩⟩
theorem FrW.k {h h1 : sH} (f : FrW h h1) : FrK h h1 := fun a ha => f a (by omega)
set_option maxRecDepth 4000 in
theorem c_M_count {l : Launch} {h : sH} {st : St} (hI : MInv h st) (hS : StOk st) {w : Int32} : sY l m_M_count 6 [.ref 61, .int w] h (some (.int (Vcount st w))) (MR h st) := by
  have hI0 := hI
  obtain ⟨hz, H⟩ := hI
  have H0 := H
  have hx := hS.1
  have hM := hx.2.2.1.le
  have hRr := hx.1
  have hCc := hx.2.1
  have hh6 := hS.2.1.1
  obtain ⟨⟨v, a1⟩, ⟨f, a2, b2⟩, ⟨f3, a3, b3⟩, ⟨f4, a4, b4⟩, ⟨f5, a5, b5⟩, ⟨f6, f7, f8, f9, a6, a7, a8, a9⟩, ⟨f10, a10⟩, ⟨f11, a11⟩, ⟨f12, a12⟩⟩ := H
  refine en_M_count ?_
  refine e_aload_0 (p' := 1) D_M_count_0 rfl ?_
  refine y_callV0 (p' := 4) D_M_count_1 V_M_85 (c_M_layParts a1 hz hx (MRest.arr H0)) rfl (by first | assumption | exact sUp_eq | (rw [sUp_ne (by omega)]; assumption) | (rw [sUp_ne (by omega), sUp_ne (by omega)]; assumption) | (rw [sUp_ne (by omega)]; exact sUp_eq) | (rw [gSet_ne (by omega) (by omega)]; first | assumption | exact sUp_eq | (rw [sUp_ne (by omega)]; assumption) | (rw [sUp_ne (by omega), sUp_ne (by omega)]; assumption)) | (rw [sUp_ne (by omega), sUp_ne (by omega), sUp_ne (by omega)]; assumption) | (simp [sUp]; done)) rfl (Nat.le_of_ble_eq_true rfl) (by decide) ⟨by decide, by decide⟩ rfl ?_
  rintro h1 ⟨P1, m1, L1⟩
  have Z1 := (L1 62 (by omega) (by omega)).trans (hz)
  have R1 := MRest.lay H0 m1 ⟨_, P1⟩ L1
  obtain ⟨e1, e2, e3, e4, p1, p2, p3, p4, PV⟩ := id P1
  refine e_iload_1 (p' := 5) D_M_count_4 rfl ?_
  by_cases hw5_0 : w = nI 0
  · subst hw5_0
    refine e_tsIn (off := 63) (p' := 68) D_M_count_5 (by decide) (by decide) rfl rfl ?_
    refine e_aload_0 (p' := 69) D_M_count_68 rfl ?_
    refine e_getfield (p' := 72) D_M_count_69 F_M_7 (by first | assumption | exact sUp_eq | (rw [sUp_ne (by omega)]; assumption) | (rw [sUp_ne (by omega), sUp_ne (by omega)]; assumption) | (rw [sUp_ne (by omega)]; exact sUp_eq) | (rw [gSet_ne (by omega) (by omega)]; first | assumption | exact sUp_eq | (rw [sUp_ne (by omega)]; assumption) | (rw [sUp_ne (by omega), sUp_ne (by omega)]; assumption)) | (rw [sUp_ne (by omega), sUp_ne (by omega), sUp_ne (by omega)]; assumption) | (simp [sUp]; done)) (by rfl) rfl ?_
    refine e_bipush (v := nI 36) (p' := 74) D_M_count_72 cst_bipush_36 rfl ?_
    refine e_iaload (p' := 75) D_M_count_74 (by first | assumption | exact sUp_eq | (rw [sUp_ne (by omega)]; assumption) | (rw [sUp_ne (by omega), sUp_ne (by omega)]; assumption) | (rw [sUp_ne (by omega)]; exact sUp_eq) | (rw [gSet_ne (by omega) (by omega)]; first | assumption | exact sUp_eq | (rw [sUp_ne (by omega)]; assumption) | (rw [sUp_ne (by omega), sUp_ne (by omega)]; assumption)) | (rw [sUp_ne (by omega), sUp_ne (by omega), sUp_ne (by omega)]; assumption) | (simp [sUp]; done)) (by omega) (by omega) (by rfl) rfl ?_
    rw [z36]
    refine e_ireturn (ty := .int) D_M_count_75 rfl (by first | rfl | exact sBo_nar _) ⟨by decide, by decide⟩ ?_
    unfold Vcount
    rw [if_pos rfl]
    exact ⟨rfl, ⟨Z1, R1⟩, L1.k⟩
  by_cases hw5_1 : w = nI 1
  · subst hw5_1
    refine e_tsIn (off := 71) (p' := 76) D_M_count_5 (by decide) (by decide) rfl rfl ?_
    refine e_aload_0 (p' := 77) D_M_count_76 rfl ?_
    refine e_getfield (p' := 80) D_M_count_77 F_M_7 (by first | assumption | exact sUp_eq | (rw [sUp_ne (by omega)]; assumption) | (rw [sUp_ne (by omega), sUp_ne (by omega)]; assumption) | (rw [sUp_ne (by omega)]; exact sUp_eq) | (rw [gSet_ne (by omega) (by omega)]; first | assumption | exact sUp_eq | (rw [sUp_ne (by omega)]; assumption) | (rw [sUp_ne (by omega), sUp_ne (by omega)]; assumption)) | (rw [sUp_ne (by omega), sUp_ne (by omega), sUp_ne (by omega)]; assumption) | (simp [sUp]; done)) (by rfl) rfl ?_
    refine e_bipush (v := nI 37) (p' := 82) D_M_count_80 cst_bipush_37 rfl ?_
    refine e_iaload (p' := 83) D_M_count_82 (by first | assumption | exact sUp_eq | (rw [sUp_ne (by omega)]; assumption) | (rw [sUp_ne (by omega), sUp_ne (by omega)]; assumption) | (rw [sUp_ne (by omega)]; exact sUp_eq) | (rw [gSet_ne (by omega) (by omega)]; first | assumption | exact sUp_eq | (rw [sUp_ne (by omega)]; assumption) | (rw [sUp_ne (by omega), sUp_ne (by omega)]; assumption)) | (rw [sUp_ne (by omega), sUp_ne (by omega), sUp_ne (by omega)]; assumption) | (simp [sUp]; done)) (by omega) (by omega) (by rfl) rfl ?_
    rw [z37]
    refine e_ireturn (ty := .int) D_M_count_83 rfl (by first | rfl | exact sBo_nar _) ⟨by decide, by decide⟩ ?_
    unfold Vcount
    rw [if_neg (by decide), if_pos rfl]
    exact ⟨rfl, ⟨Z1, R1⟩, L1.k⟩
  by_cases hw5_2 : w = nI 2
  · subst hw5_2
    refine e_tsIn (off := 79) (p' := 84) D_M_count_5 (by decide) (by decide) rfl rfl ?_
    refine e_aload_0 (p' := 85) D_M_count_84 rfl ?_
    refine e_getfield (p' := 88) D_M_count_85 F_M_7 (by first | assumption | exact sUp_eq | (rw [sUp_ne (by omega)]; assumption) | (rw [sUp_ne (by omega), sUp_ne (by omega)]; assumption) | (rw [sUp_ne (by omega)]; exact sUp_eq) | (rw [gSet_ne (by omega) (by omega)]; first | assumption | exact sUp_eq | (rw [sUp_ne (by omega)]; assumption) | (rw [sUp_ne (by omega), sUp_ne (by omega)]; assumption)) | (rw [sUp_ne (by omega), sUp_ne (by omega), sUp_ne (by omega)]; assumption) | (simp [sUp]; done)) (by rfl) rfl ?_
    refine e_bipush (v := nI 38) (p' := 90) D_M_count_88 cst_bipush_38 rfl ?_
    refine e_iaload (p' := 91) D_M_count_90 (by first | assumption | exact sUp_eq | (rw [sUp_ne (by omega)]; assumption) | (rw [sUp_ne (by omega), sUp_ne (by omega)]; assumption) | (rw [sUp_ne (by omega)]; exact sUp_eq) | (rw [gSet_ne (by omega) (by omega)]; first | assumption | exact sUp_eq | (rw [sUp_ne (by omega)]; assumption) | (rw [sUp_ne (by omega), sUp_ne (by omega)]; assumption)) | (rw [sUp_ne (by omega), sUp_ne (by omega), sUp_ne (by omega)]; assumption) | (simp [sUp]; done)) (by omega) (by omega) (by rfl) rfl ?_
    rw [z38]
    refine e_ireturn (ty := .int) D_M_count_91 rfl (by first | rfl | exact sBo_nar _) ⟨by decide, by decide⟩ ?_
    unfold Vcount
    rw [if_neg (by decide), if_neg (by decide), if_pos rfl]
    exact ⟨rfl, ⟨Z1, R1⟩, L1.k⟩
  by_cases hw5_3 : w = nI 3
  · subst hw5_3
    refine e_tsIn (off := 87) (p' := 92) D_M_count_5 (by decide) (by decide) rfl rfl ?_
    refine e_aload_0 (p' := 93) D_M_count_92 rfl ?_
    refine x_callV1 (p' := 96) D_M_count_93 V_M_56 (c_M_toldMany m1 Z1 hx) rfl (by first | assumption | exact sUp_eq | (rw [sUp_ne (by omega)]; assumption) | (rw [sUp_ne (by omega), sUp_ne (by omega)]; assumption) | (rw [sUp_ne (by omega)]; exact sUp_eq) | (rw [gSet_ne (by omega) (by omega)]; first | assumption | exact sUp_eq | (rw [sUp_ne (by omega)]; assumption) | (rw [sUp_ne (by omega), sUp_ne (by omega)]; assumption)) | (rw [sUp_ne (by omega), sUp_ne (by omega), sUp_ne (by omega)]; assumption) | (simp [sUp]; done)) rfl (Nat.le_of_ble_eq_true rfl) (by decide) ⟨by decide, by decide⟩ rfl ?_
    refine e_ireturn (ty := .int) D_M_count_96 rfl (by first | rfl | exact sBo_nar _) ⟨by decide, by decide⟩ ?_
    unfold Vcount
    rw [if_neg (by decide), if_neg (by decide), if_neg (by decide), if_pos rfl]
    exact ⟨rfl, ⟨Z1, R1⟩, L1.k⟩
  by_cases hw5_4 : w = nI 4
  · subst hw5_4
    refine e_tsIn (off := 92) (p' := 97) D_M_count_5 (by decide) (by decide) rfl rfl ?_
    refine e_aload_0 (p' := 98) D_M_count_97 rfl ?_
    refine e_getfield (p' := 101) D_M_count_98 F_M_74 (by first | assumption | exact sUp_eq | (rw [sUp_ne (by omega)]; assumption) | (rw [sUp_ne (by omega), sUp_ne (by omega)]; assumption) | (rw [sUp_ne (by omega)]; exact sUp_eq) | (rw [gSet_ne (by omega) (by omega)]; first | assumption | exact sUp_eq | (rw [sUp_ne (by omega)]; assumption) | (rw [sUp_ne (by omega), sUp_ne (by omega)]; assumption)) | (rw [sUp_ne (by omega), sUp_ne (by omega), sUp_ne (by omega)]; assumption) | (simp [sUp]; done)) (by rfl) rfl ?_
    refine e_ireturn (ty := .int) D_M_count_101 rfl (by first | rfl | exact sBo_nar _) ⟨by decide, by decide⟩ ?_
    unfold Vcount
    rw [if_neg (by decide), if_neg (by decide), if_neg (by decide), if_neg (by decide), if_pos rfl]
    exact ⟨rfl, ⟨Z1, R1⟩, L1.k⟩
  by_cases hw5_5 : w = nI 5
  · subst hw5_5
    refine e_tsIn (off := 97) (p' := 102) D_M_count_5 (by decide) (by decide) rfl rfl ?_
    refine e_aload_0 (p' := 103) D_M_count_102 rfl ?_
    refine e_getfield (p' := 106) D_M_count_103 F_M_81 (by first | assumption | exact sUp_eq | (rw [sUp_ne (by omega)]; assumption) | (rw [sUp_ne (by omega), sUp_ne (by omega)]; assumption) | (rw [sUp_ne (by omega)]; exact sUp_eq) | (rw [gSet_ne (by omega) (by omega)]; first | assumption | exact sUp_eq | (rw [sUp_ne (by omega)]; assumption) | (rw [sUp_ne (by omega), sUp_ne (by omega)]; assumption)) | (rw [sUp_ne (by omega), sUp_ne (by omega), sUp_ne (by omega)]; assumption) | (simp [sUp]; done)) (by rfl) rfl ?_
    refine e_ifB_eq (q := 113) (p' := 109) D_M_count_106 rfl rfl (fun hc106 => ?_) (fun hc106 => ?_)
    ·
      refine e_iconst (v := nI 0) (p' := 114) D_M_count_113 cst_iconst_0 rfl ?_
      refine e_ireturn (ty := .int) D_M_count_114 rfl (by first | rfl | exact sBo_nar _) ⟨by decide, by decide⟩ ?_
      rw [show Vcount st (nI 5) = sBo (wellX st.1) from rfl, hc106]
      exact ⟨rfl, ⟨Z1, R1⟩, L1.k⟩
    ·
      refine e_iconst (v := nI 1) (p' := 110) D_M_count_109 cst_iconst_1 rfl ?_
      refine e_goto (p' := 114) D_M_count_110 rfl ?_
      refine e_ireturn (ty := .int) D_M_count_114 rfl (by first | rfl | exact sBo_nar _) ⟨by decide, by decide⟩ ?_
      rw [show Vcount st (nI 5) = sBo (wellX st.1) from rfl, hc106]
      exact ⟨rfl, ⟨Z1, R1⟩, L1.k⟩
  by_cases hw5_6 : w = nI 6
  · subst hw5_6
    refine e_tsIn (off := 110) (p' := 115) D_M_count_5 (by decide) (by decide) rfl rfl ?_
    refine e_aload_0 (p' := 116) D_M_count_115 rfl ?_
    refine x_callV1 (p' := 119) D_M_count_116 V_M_127 (c_M_inParts m1 Z1 hx P1) rfl (by first | assumption | exact sUp_eq | (rw [sUp_ne (by omega)]; assumption) | (rw [sUp_ne (by omega), sUp_ne (by omega)]; assumption) | (rw [sUp_ne (by omega)]; exact sUp_eq) | (rw [gSet_ne (by omega) (by omega)]; first | assumption | exact sUp_eq | (rw [sUp_ne (by omega)]; assumption) | (rw [sUp_ne (by omega), sUp_ne (by omega)]; assumption)) | (rw [sUp_ne (by omega), sUp_ne (by omega), sUp_ne (by omega)]; assumption) | (simp [sUp]; done)) rfl (Nat.le_of_ble_eq_true rfl) (by decide) ⟨by decide, by decide⟩ rfl ?_
    refine e_ireturn (ty := .int) D_M_count_119 rfl (by first | rfl | exact sBo_nar _) ⟨by decide, by decide⟩ ?_
    unfold Vcount
    rw [if_neg (by decide), if_neg (by decide), if_neg (by decide), if_neg (by decide), if_neg (by decide), if_neg (by decide), if_pos rfl]
    exact ⟨rfl, ⟨Z1, R1⟩, L1.k⟩
  by_cases hw5_7 : w = nI 7
  · subst hw5_7
    refine e_tsIn (off := 115) (p' := 120) D_M_count_5 (by decide) (by decide) rfl rfl ?_
    refine e_aload_0 (p' := 121) D_M_count_120 rfl ?_
    refine e_iconst (v := nI 0) (p' := 122) D_M_count_121 cst_iconst_0 rfl ?_
    refine x_callV1 (p' := 125) D_M_count_122 V_M_130 (c_M_minors (b := false) m1 Z1 hx) rfl (by first | assumption | exact sUp_eq | (rw [sUp_ne (by omega)]; assumption) | (rw [sUp_ne (by omega), sUp_ne (by omega)]; assumption) | (rw [sUp_ne (by omega)]; exact sUp_eq) | (rw [gSet_ne (by omega) (by omega)]; first | assumption | exact sUp_eq | (rw [sUp_ne (by omega)]; assumption) | (rw [sUp_ne (by omega), sUp_ne (by omega)]; assumption)) | (rw [sUp_ne (by omega), sUp_ne (by omega), sUp_ne (by omega)]; assumption) | (simp [sUp]; done)) rfl (Nat.le_of_ble_eq_true rfl) (by decide) ⟨by decide, by decide⟩ rfl ?_
    refine e_ireturn (ty := .int) D_M_count_125 rfl (by first | rfl | exact sBo_nar _) ⟨by decide, by decide⟩ ?_
    unfold Vcount
    rw [if_neg (by decide), if_neg (by decide), if_neg (by decide), if_neg (by decide), if_neg (by decide), if_neg (by decide), if_neg (by decide), if_pos rfl]
    exact ⟨rfl, ⟨Z1, R1⟩, L1.k⟩
  by_cases hw5_8 : w = nI 8
  · subst hw5_8
    refine e_tsIn (off := 121) (p' := 126) D_M_count_5 (by decide) (by decide) rfl rfl ?_
    refine e_aload_0 (p' := 127) D_M_count_126 rfl ?_
    refine e_iconst (v := nI 1) (p' := 128) D_M_count_127 cst_iconst_1 rfl ?_
    refine x_callV1 (p' := 131) D_M_count_128 V_M_130 (c_M_minors (b := true) m1 Z1 hx) rfl (by first | assumption | exact sUp_eq | (rw [sUp_ne (by omega)]; assumption) | (rw [sUp_ne (by omega), sUp_ne (by omega)]; assumption) | (rw [sUp_ne (by omega)]; exact sUp_eq) | (rw [gSet_ne (by omega) (by omega)]; first | assumption | exact sUp_eq | (rw [sUp_ne (by omega)]; assumption) | (rw [sUp_ne (by omega), sUp_ne (by omega)]; assumption)) | (rw [sUp_ne (by omega), sUp_ne (by omega), sUp_ne (by omega)]; assumption) | (simp [sUp]; done)) rfl (Nat.le_of_ble_eq_true rfl) (by decide) ⟨by decide, by decide⟩ rfl ?_
    refine e_ireturn (ty := .int) D_M_count_131 rfl (by first | rfl | exact sBo_nar _) ⟨by decide, by decide⟩ ?_
    unfold Vcount
    rw [if_neg (by decide), if_neg (by decide), if_neg (by decide), if_neg (by decide), if_neg (by decide), if_neg (by decide), if_neg (by decide), if_neg (by decide), if_pos rfl]
    exact ⟨rfl, ⟨Z1, R1⟩, L1.k⟩
  by_cases hw5_9 : w = nI 9
  · subst hw5_9
    refine e_tsIn (off := 127) (p' := 132) D_M_count_5 (by decide) (by decide) rfl rfl ?_
    refine e_aload_0 (p' := 133) D_M_count_132 rfl ?_
    refine y_callV1 (p' := 136) D_M_count_133 V_M_134 (c_M_rankBound m1 Z1 hx R1.2.2.2.2.2.2.1) rfl (by first | assumption | exact sUp_eq | (rw [sUp_ne (by omega)]; assumption) | (rw [sUp_ne (by omega), sUp_ne (by omega)]; assumption) | (rw [sUp_ne (by omega)]; exact sUp_eq) | (rw [gSet_ne (by omega) (by omega)]; first | assumption | exact sUp_eq | (rw [sUp_ne (by omega)]; assumption) | (rw [sUp_ne (by omega), sUp_ne (by omega)]; assumption)) | (rw [sUp_ne (by omega), sUp_ne (by omega), sUp_ne (by omega)]; assumption) | (simp [sUp]; done)) rfl (Nat.le_of_ble_eq_true rfl) (by decide) ⟨by decide, by decide⟩ rfl ?_
    rintro h2 ⟨R2, F2⟩
    refine e_ireturn (ty := .int) D_M_count_136 rfl (by first | rfl | exact sBo_nar _) ⟨by decide, by decide⟩ ?_
    unfold Vcount
    rw [if_neg (by decide), if_neg (by decide), if_neg (by decide), if_neg (by decide), if_neg (by decide), if_neg (by decide), if_neg (by decide), if_neg (by decide), if_neg (by decide), if_pos rfl]
    exact ⟨rfl, ⟨(F2 62 (by omega)).trans Z1, R1.wk R2 F2⟩, L1.k.tr F2.k⟩
  by_cases hw5_10 : w = nI 10
  · subst hw5_10
    refine e_tsIn (off := 132) (p' := 137) D_M_count_5 (by decide) (by decide) rfl rfl ?_
    refine e_aload_0 (p' := 138) D_M_count_137 rfl ?_
    refine e_getfield (p' := 141) D_M_count_138 F_M_137 (by first | assumption | exact sUp_eq | (rw [sUp_ne (by omega)]; assumption) | (rw [sUp_ne (by omega), sUp_ne (by omega)]; assumption) | (rw [sUp_ne (by omega)]; exact sUp_eq) | (rw [gSet_ne (by omega) (by omega)]; first | assumption | exact sUp_eq | (rw [sUp_ne (by omega)]; assumption) | (rw [sUp_ne (by omega), sUp_ne (by omega)]; assumption)) | (rw [sUp_ne (by omega), sUp_ne (by omega), sUp_ne (by omega)]; assumption) | (simp [sUp]; done)) (by rfl) rfl ?_
    refine e_ireturn (ty := .int) D_M_count_141 rfl (by first | rfl | exact sBo_nar _) ⟨by decide, by decide⟩ ?_
    unfold Vcount
    rw [if_neg (by decide), if_neg (by decide), if_neg (by decide), if_neg (by decide), if_neg (by decide), if_neg (by decide), if_neg (by decide), if_neg (by decide), if_neg (by decide), if_neg (by decide), if_pos rfl]
    exact ⟨rfl, ⟨Z1, R1⟩, L1.k⟩
  by_cases hw5_11 : w = nI 11
  · subst hw5_11
    refine e_tsIn (off := 137) (p' := 142) D_M_count_5 (by decide) (by decide) rfl rfl ?_
    refine e_aload_0 (p' := 143) D_M_count_142 rfl ?_
    refine e_getfield (p' := 146) D_M_count_143 F_M_48 (by first | assumption | exact sUp_eq | (rw [sUp_ne (by omega)]; assumption) | (rw [sUp_ne (by omega), sUp_ne (by omega)]; assumption) | (rw [sUp_ne (by omega)]; exact sUp_eq) | (rw [gSet_ne (by omega) (by omega)]; first | assumption | exact sUp_eq | (rw [sUp_ne (by omega)]; assumption) | (rw [sUp_ne (by omega), sUp_ne (by omega)]; assumption)) | (rw [sUp_ne (by omega), sUp_ne (by omega), sUp_ne (by omega)]; assumption) | (simp [sUp]; done)) (by rfl) rfl ?_
    refine e_ireturn (ty := .int) D_M_count_146 rfl (by first | rfl | exact sBo_nar _) ⟨by decide, by decide⟩ ?_
    unfold Vcount
    rw [if_neg (by decide), if_neg (by decide), if_neg (by decide), if_neg (by decide), if_neg (by decide), if_neg (by decide), if_neg (by decide), if_neg (by decide), if_neg (by decide), if_neg (by decide), if_neg (by decide), if_pos rfl]
    exact ⟨rfl, ⟨Z1, R1⟩, L1.k⟩
  refine e_tsOut (p' := 147) D_M_count_5 (ts_out (n := 11) (by omega) (fun k hk => by rcases (show k = 0 ∨ k = 1 ∨ k = 2 ∨ k = 3 ∨ k = 4 ∨ k = 5 ∨ k = 6 ∨ k = 7 ∨ k = 8 ∨ k = 9 ∨ k = 10 ∨ k = 11 by omega) with rfl | rfl | rfl | rfl | rfl | rfl | rfl | rfl | rfl | rfl | rfl | rfl <;> assumption)) rfl ?_
  refine e_bipush (v := (-2)) (p' := 149) D_M_count_147 cst_bipush_m2 rfl ?_
  refine e_ireturn (ty := .int) D_M_count_149 rfl (by first | rfl | exact sBo_nar _) ⟨by decide, by decide⟩ ?_
  unfold Vcount
  rw [if_neg hw5_0, if_neg hw5_1, if_neg hw5_2, if_neg hw5_3, if_neg hw5_4, if_neg hw5_5, if_neg hw5_6, if_neg hw5_7, if_neg hw5_8, if_neg hw5_9, if_neg hw5_10, if_neg hw5_11]
  exact ⟨rfl, ⟨Z1, R1⟩, L1.k⟩
