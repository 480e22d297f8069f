/-! ===== the reference: layParts ===== -/
def PmI (h : sH) (i : Nat) : Prop := ∃ f1 f2 f3 f4, h.2 67 = iA 6 f1 ∧ h.2 68 = iA 6 f2 ∧ h.2 69 = iA 6 f3 ∧ h.2 70 = iA 6 f4 ∧ ∀ k, k < i → (f1 k = -6 ∧ f2 k = -6) ∧ (f3 k = nI 1 ∧ f4 k = nI 1)
theorem pm_step {h : sH} {i : Nat} {f1 f2 f3 f4 : Nat → Int32} (V : ∀ k, k < i → (f1 k = -6 ∧ f2 k = -6) ∧ (f3 k = nI 1 ∧ f4 k = nI 1)) : PmI (sUp (sUp (sUp (sUp h 67 (iA 6 (upd f1 i (-6)))) 68 (iA 6 (upd f2 i (-6)))) 69 (iA 6 (upd f3 i (nI 1)))) 70 (iA 6 (upd f4 i (nI 1)))) (i + 1) := by
  refine ⟨_, _, _, _, (sUp_ne (by omega)).trans ((sUp_ne (by omega)).trans ((sUp_ne (by omega)).trans sUp_eq)), (sUp_ne (by omega)).trans ((sUp_ne (by omega)).trans sUp_eq), (sUp_ne (by omega)).trans sUp_eq, sUp_eq, fun k hk => ?_⟩
  unfold upd
  by_cases e : k = i
  · rw [if_pos e, if_pos e, if_pos e, if_pos e]; exact ⟨⟨rfl, rfl⟩, rfl, rfl⟩
  · rw [if_neg e, if_neg e, if_neg e, if_neg e]; exact V k (by omega)
theorem PmI.ps0 {h : sH} (H : PmI h 6) : PmAt h ps0 := by
  obtain ⟨f1, f2, f3, f4, a1, a2, a3, a4, V⟩ := H
  exact ⟨f1, f2, f3, f4, a1, a2, a3, a4, V⟩
theorem PmAt.row1 {h : sH} {s : Ps} {c a : Nat} {f1 f2 f3 f4 : Nat → Int32} {y : Int32} (a2 : h.2 68 = iA 6 f2) (a3 : h.2 69 = iA 6 f3) (a4 : h.2 70 = iA 6 f4) (V : ∀ k, k < 6 → (f1 k = pJ (s.1.1 k) ∧ f2 k = pJ (s.1.2 k)) ∧ (f3 k = nI (s.2.1 k) ∧ f4 k = nI (s.2.2 k))) (hy : y = pJ a) : PmAt (sUp h 67 (iA 6 (upd f1 c y))) ((up s.1.1 c a, s.1.2), s.2) := by
  refine ⟨_, f2, f3, f4, sUp_eq, (sUp_ne (by omega)).trans a2, (sUp_ne (by omega)).trans a3, (sUp_ne (by omega)).trans a4, fun k hk => ⟨⟨?_, (V k hk).1.2⟩, (V k hk).2⟩⟩
  show upd f1 c y k = pJ (up s.1.1 c a k)
  unfold upd up
  by_cases e : k = c
  · rw [if_pos e, if_pos e, hy]
  · rw [if_neg e, if_neg e]; exact (V k hk).1.1
theorem PmAt.col1 {h : sH} {s : Ps} {c a : Nat} {f1 f2 f3 f4 : Nat → Int32} {y : Int32} (a1 : h.2 67 = iA 6 f1) (a3 : h.2 69 = iA 6 f3) (a4 : h.2 70 = iA 6 f4) (V : ∀ k, k < 6 → (f1 k = pJ (s.1.1 k) ∧ f2 k = pJ (s.1.2 k)) ∧ (f3 k = nI (s.2.1 k) ∧ f4 k = nI (s.2.2 k))) (hy : y = pJ a) : PmAt (sUp h 68 (iA 6 (upd f2 c y))) ((s.1.1, up s.1.2 c a), s.2) := by
  refine ⟨f1, _, f3, f4, (sUp_ne (by omega)).trans a1, sUp_eq, (sUp_ne (by omega)).trans a3, (sUp_ne (by omega)).trans a4, fun k hk => ⟨⟨(V k hk).1.1, ?_⟩, (V k hk).2⟩⟩
  show upd f2 c y k = pJ (up s.1.2 c a k)
  unfold upd up
  by_cases e : k = c
  · rw [if_pos e, if_pos e, hy]
  · rw [if_neg e, if_neg e]; exact (V k hk).1.2
theorem MRest.lay {h h1 : sH} {s : Mr} (H : MRest h s) {v : mV} (hm : h1.2 61 = mO s.1.1 s.2.2.1 v) (hP : ∃ p, PmAt h1 p) (ff : FrL h h1) : MRest h1 s := by
  obtain ⟨_, ⟨f, a2, b2⟩, ⟨f3, a3, b3⟩, ⟨f4, a4, b4⟩, ⟨f5, a5, b5⟩, _, ⟨f10, a10⟩, ⟨f11, a11⟩, ⟨f12, a12⟩⟩ := H
  obtain ⟨p, p1, p2, p3, p4, q1, q2, q3, q4, _⟩ := hP
  exact ⟨⟨v, hm⟩, ⟨f, (ff _ (by omega) (by omega)).trans a2, b2⟩, ⟨f3, (ff _ (by omega) (by omega)).trans a3, b3⟩, ⟨f4, (ff _ (by omega) (by omega)).trans a4, b4⟩, ⟨f5, (ff _ (by omega) (by omega)).trans a5, b5⟩, ⟨p1, p2, p3, p4, q1, q2, q3, q4⟩, ⟨f10, (ff _ (by omega) (by omega)).trans a10⟩, ⟨f11, (ff _ (by omega) (by omega)).trans a11⟩, ⟨f12, (ff _ (by omega) (by omega)).trans a12⟩⟩
set_option maxRecDepth 4000 in
theorem c_M_layParts {l : Launch} {h : sH} {x : Gd} {n t : Nat} {v : mV} (hm : h.2 61 = mO n t v) (hz : h.2 62 = iA 39 (nF (zN x))) (hx : Gok x) (hA : ∃ s, PmI h s) : sY l m_M_layParts 3 [.ref 61] h (none) (fun h1 => PmAt h1 (lay x).1 ∧ h1.2 61 = mO n t (nI (lay x).2, sBo (wellX x), v.2.2) ∧ FrL h h1) := by
  have hR := hx.1
  have hC := hx.2.1
  have hM := hx.2.2.1.le
  obtain ⟨_, f1, f2, f3, f4, a1, a2, a3, a4, _⟩ := hA
  have lp := lay_pv hx
  have lk := lay_kn hx
  refine en_M_layParts ?_
  refine e_aload_0 (p' := 1) D_M_layParts_0 rfl ?_
  refine e_iconst (v := nI 0) (p' := 2) D_M_layParts_1 cst_iconst_0 rfl ?_
  refine e_putfield (p' := 5) D_M_layParts_2 F_M_74 (Or.inl rfl) (by first | assumption | exact sUp_eq | (rw [sUp_ne (by omega)]; assumption) | (rw [sUp_ne (by omega), sUp_ne (by omega)]; assumption) | (rw [sUp_ne (by omega)]; exact sUp_eq) | (rw [gSet_ne (by omega) (by omega)]; first | assumption | exact sUp_eq | (rw [sUp_ne (by omega)]; assumption) | (rw [sUp_ne (by omega), sUp_ne (by omega)]; assumption)) | (rw [sUp_ne (by omega), sUp_ne (by omega), sUp_ne (by omega)]; assumption) | (simp [sUp]; done)) (fun _ => ⟨rfl, rfl⟩) (Nat.le_of_ble_eq_true rfl) (by rfl) rfl ?_
  try dsimp only [List.set]
  refine e_iconst (v := nI 0) (p' := 6) D_M_layParts_5 cst_iconst_0 rfl ?_
  refine e_istore_1 (p' := 7) D_M_layParts_6 (Nat.le_of_ble_eq_true rfl) rfl rfl ?_
  have lk7 : ∀ i : Nat, i ≤ 6 → ∀ (h1 : sH), (PmI h1 i ∧ h1.2 61 = mO n t (nI 0, v.2) ∧ FrL h h1) → sEv l m_M_layParts 3 (0, 0, 0, 0) (sKm 0 0 (fun r1 h1 => r1 = none ∧ (fun h1 => PmAt h1 (lay x).1 ∧ h1.2 61 = mO n t (nI (lay x).2, sBo (wellX x), v.2.2) ∧ FrL h h1) h1)) 7 [some (.ref 61), some (.int (nI i)), none] [] (h1) := by
    refine lp_up _ ?_ ?_
    · intro h1 ⟨I1, m1, F1⟩
      obtain ⟨e1, e2, e3, e4, p1, p2, p3, p4, IV⟩ := id I1
      refine e_iload_1 (p' := 8) D_M_layParts_7 rfl ?_
      refine e_bipush (v := nI 6) (p' := 10) D_M_layParts_8 cst_bipush_6 rfl ?_
      refine e_icmpN_ge (q := 49) (p' := 13) D_M_layParts_10 (by omega) (by omega) rfl rfl (fun hc10 => ?_) (fun hc10 => ?_)
      ·
        refine e_iconst (v := nI 0) (p' := 50) D_M_layParts_49 cst_iconst_0 rfl ?_
        refine e_istore_1 (p' := 51) D_M_layParts_50 (Nat.le_of_ble_eq_true rfl) rfl rfl ?_
        have lk51 : ∀ i : Nat, i ≤ x.1.1 → ∀ (h1 : sH), (PmAt h1 (layR x i).1 ∧ h1.2 61 = mO n t (nI (layR x i).2, v.2) ∧ FrL h h1) → sEv l m_M_layParts 3 (0, 0, 0, 0) (sKm 0 0 (fun r1 h1 => r1 = none ∧ (fun h1 => PmAt h1 (lay x).1 ∧ h1.2 61 = mO n t (nI (lay x).2, sBo (wellX x), v.2.2) ∧ FrL h h1) h1)) 51 [some (.ref 61), some (.int (nI i)), none] [] (h1) := by
          refine lp_up _ ?_ ?_
          · intro h1 ⟨hP1, m1, F1⟩
            obtain ⟨e1, e2, e3, e4, p1, p2, p3, p4, PV⟩ := id hP1
            have z1 := (F1 62 (by omega) (by omega)).trans hz
            have hok := layR_ok hx (x.1.1) (by omega)
            have hbd := hok.1.2.2 (x.1.1)
            refine e_iload_1 (p' := 52) D_M_layParts_51 rfl ?_
            refine e_aload_0 (p' := 53) D_M_layParts_52 rfl ?_
            refine e_getfield (p' := 56) D_M_layParts_53 F_M_7 (by first | assumption | exact sUp_eq | (rw [sUp_ne (by omega)]; assumption) | (rw [sUp_ne (by omega), sUp_ne (by omega)]; assumption) | (rw [sUp_ne (by omega)]; exact sUp_eq) | (rw [gSet_ne (by omega) (by omega)]; first | assumption | exact sUp_eq | (rw [sUp_ne (by omega)]; assumption) | (rw [sUp_ne (by omega), sUp_ne (by omega)]; assumption)) | (rw [sUp_ne (by omega), sUp_ne (by omega), sUp_ne (by omega)]; assumption) | (simp [sUp]; done)) (by rfl) rfl ?_
            refine e_bipush (v := nI 36) (p' := 58) D_M_layParts_56 cst_bipush_36 rfl ?_
            refine e_iaload (p' := 59) D_M_layParts_58 (by first | assumption | exact sUp_eq | (rw [sUp_ne (by omega)]; assumption) | (rw [sUp_ne (by omega), sUp_ne (by omega)]; assumption) | (rw [sUp_ne (by omega)]; exact sUp_eq) | (rw [gSet_ne (by omega) (by omega)]; first | assumption | exact sUp_eq | (rw [sUp_ne (by omega)]; assumption) | (rw [sUp_ne (by omega), sUp_ne (by omega)]; assumption)) | (rw [sUp_ne (by omega), sUp_ne (by omega), sUp_ne (by omega)]; assumption) | (simp [sUp]; done)) (by omega) (by omega) (by rfl) rfl ?_
            rw [z36]
            refine e_icmpN_ge (q := 107) (p' := 62) D_M_layParts_59 (by omega) (by omega) rfl rfl (fun hc59 => ?_) (fun hc59 => ?_)
            ·
              refine e_iconst (v := nI 0) (p' := 108) D_M_layParts_107 cst_iconst_0 rfl ?_
              refine e_istore_1 (p' := 109) D_M_layParts_108 (Nat.le_of_ble_eq_true rfl) rfl rfl ?_
              have lk109 : ∀ j : Nat, j ≤ x.1.2.1 → ∀ (h1 : sH), (PmAt h1 (layC x j).1 ∧ h1.2 61 = mO n t (nI (layC x j).2, v.2) ∧ FrL h h1) → sEv l m_M_layParts 3 (0, 0, 0, 0) (sKm 0 0 (fun r1 h1 => r1 = none ∧ (fun h1 => PmAt h1 (lay x).1 ∧ h1.2 61 = mO n t (nI (lay x).2, sBo (wellX x), v.2.2) ∧ FrL h h1) h1)) 109 [some (.ref 61), some (.int (nI j)), none] [] (h1) := by
                refine lp_up _ ?_ ?_
                · intro h1 ⟨hP1, m1, F1⟩
                  obtain ⟨e1, e2, e3, e4, p1, p2, p3, p4, PV⟩ := id hP1
                  have z1 := (F1 62 (by omega) (by omega)).trans hz
                  have hok := layC_ok hx (x.1.2.1) (by omega)
                  have hbd := hok.2.2.2.1 (x.1.2.1)
                  refine e_iload_1 (p' := 110) D_M_layParts_109 rfl ?_
                  refine e_aload_0 (p' := 111) D_M_layParts_110 rfl ?_
                  refine e_getfield (p' := 114) D_M_layParts_111 F_M_7 (by first | assumption | exact sUp_eq | (rw [sUp_ne (by omega)]; assumption) | (rw [sUp_ne (by omega), sUp_ne (by omega)]; assumption) | (rw [sUp_ne (by omega)]; exact sUp_eq) | (rw [gSet_ne (by omega) (by omega)]; first | assumption | exact sUp_eq | (rw [sUp_ne (by omega)]; assumption) | (rw [sUp_ne (by omega), sUp_ne (by omega)]; assumption)) | (rw [sUp_ne (by omega), sUp_ne (by omega), sUp_ne (by omega)]; assumption) | (simp [sUp]; done)) (by rfl) rfl ?_
                  refine e_bipush (v := nI 37) (p' := 116) D_M_layParts_114 cst_bipush_37 rfl ?_
                  refine e_iaload (p' := 117) D_M_layParts_116 (by first | assumption | exact sUp_eq | (rw [sUp_ne (by omega)]; assumption) | (rw [sUp_ne (by omega), sUp_ne (by omega)]; assumption) | (rw [sUp_ne (by omega)]; exact sUp_eq) | (rw [gSet_ne (by omega) (by omega)]; first | assumption | exact sUp_eq | (rw [sUp_ne (by omega)]; assumption) | (rw [sUp_ne (by omega), sUp_ne (by omega)]; assumption)) | (rw [sUp_ne (by omega), sUp_ne (by omega), sUp_ne (by omega)]; assumption) | (simp [sUp]; done)) (by omega) (by omega) (by rfl) rfl ?_
                  rw [z37]
                  refine e_icmpN_ge (q := 157) (p' := 120) D_M_layParts_117 (by omega) (by omega) rfl rfl (fun hc117 => ?_) (fun hc117 => ?_)
                  ·
                    refine e_aload_0 (p' := 158) D_M_layParts_157 rfl ?_
                    refine e_iconst (v := nI 1) (p' := 159) D_M_layParts_158 cst_iconst_1 rfl ?_
                    refine e_putfield (p' := 162) D_M_layParts_159 F_M_81 (Or.inl rfl) (by first | assumption | exact sUp_eq | (rw [sUp_ne (by omega)]; assumption) | (rw [sUp_ne (by omega), sUp_ne (by omega)]; assumption) | (rw [sUp_ne (by omega)]; exact sUp_eq) | (rw [gSet_ne (by omega) (by omega)]; first | assumption | exact sUp_eq | (rw [sUp_ne (by omega)]; assumption) | (rw [sUp_ne (by omega), sUp_ne (by omega)]; assumption)) | (rw [sUp_ne (by omega), sUp_ne (by omega), sUp_ne (by omega)]; assumption) | (simp [sUp]; done)) (fun _ => ⟨by first | rfl | assumption, rfl⟩) (Nat.le_of_ble_eq_true rfl) (by rfl) rfl ?_
                    try dsimp only [List.set]
                    refine e_iconst (v := nI 0) (p' := 163) D_M_layParts_162 cst_iconst_0 rfl ?_
                    refine e_istore_1 (p' := 164) D_M_layParts_163 (Nat.le_of_ble_eq_true rfl) rfl rfl ?_
                    have lk164 : ∀ i : Nat, i ≤ x.1.1 → ∀ (h2 : sH), (PmAt h2 (lay x).1 ∧ h2.2 61 = mO n t (nI (lay x).2, sBo (al i (fun r => al x.1.2.1 (fun c => wl x (lay x).1 r c))), v.2.2) ∧ FrL h h2) → sEv l m_M_layParts 3 (0, 0, 0, 0) (sKm 0 0 (fun r1 h1 => r1 = none ∧ (fun h1 => PmAt h1 (lay x).1 ∧ h1.2 61 = mO n t (nI (lay x).2, sBo (wellX x), v.2.2) ∧ FrL h h1) h1)) 164 [some (.ref 61), some (.int (nI i)), none] [] (h2) := by
                      refine lp_up _ ?_ ?_
                      · intro h2 ⟨hP2, m2, F2⟩
                        have z2 := (F2 62 (by omega) (by omega)).trans hz
                        refine e_iload_1 (p' := 165) D_M_layParts_164 rfl ?_
                        refine e_aload_0 (p' := 166) D_M_layParts_165 rfl ?_
                        refine e_getfield (p' := 169) D_M_layParts_166 F_M_7 (by first | assumption | exact sUp_eq | (rw [sUp_ne (by omega)]; assumption) | (rw [sUp_ne (by omega), sUp_ne (by omega)]; assumption) | (rw [sUp_ne (by omega)]; exact sUp_eq) | (rw [gSet_ne (by omega) (by omega)]; first | assumption | exact sUp_eq | (rw [sUp_ne (by omega)]; assumption) | (rw [sUp_ne (by omega), sUp_ne (by omega)]; assumption)) | (rw [sUp_ne (by omega), sUp_ne (by omega), sUp_ne (by omega)]; assumption) | (simp [sUp]; done)) (by rfl) rfl ?_
                        refine e_bipush (v := nI 36) (p' := 171) D_M_layParts_169 cst_bipush_36 rfl ?_
                        refine e_iaload (p' := 172) D_M_layParts_171 (by first | assumption | exact sUp_eq | (rw [sUp_ne (by omega)]; assumption) | (rw [sUp_ne (by omega), sUp_ne (by omega)]; assumption) | (rw [sUp_ne (by omega)]; exact sUp_eq) | (rw [gSet_ne (by omega) (by omega)]; first | assumption | exact sUp_eq | (rw [sUp_ne (by omega)]; assumption) | (rw [sUp_ne (by omega), sUp_ne (by omega)]; assumption)) | (rw [sUp_ne (by omega), sUp_ne (by omega), sUp_ne (by omega)]; assumption) | (simp [sUp]; done)) (by omega) (by omega) (by rfl) rfl ?_
                        rw [z36]
                        refine e_icmpN_ge (q := 250) (p' := 175) D_M_layParts_172 (by omega) (by omega) rfl rfl (fun hc172 => ?_) (fun hc172 => ?_)
                        ·
                          refine e_return D_M_layParts_250 rfl ⟨by decide, by decide⟩ ?_
                          exact ⟨rfl, hP2, m2, F2⟩
                        ·
                          exfalso; omega
                      · intro i hi ih164 h2 ⟨hP2, m2, F2⟩
                        have z2 := (F2 62 (by omega) (by omega)).trans hz
                        refine e_iload_1 (p' := 165) D_M_layParts_164 rfl ?_
                        refine e_aload_0 (p' := 166) D_M_layParts_165 rfl ?_
                        refine e_getfield (p' := 169) D_M_layParts_166 F_M_7 (by first | assumption | exact sUp_eq | (rw [sUp_ne (by omega)]; assumption) | (rw [sUp_ne (by omega), sUp_ne (by omega)]; assumption) | (rw [sUp_ne (by omega)]; exact sUp_eq) | (rw [gSet_ne (by omega) (by omega)]; first | assumption | exact sUp_eq | (rw [sUp_ne (by omega)]; assumption) | (rw [sUp_ne (by omega), sUp_ne (by omega)]; assumption)) | (rw [sUp_ne (by omega), sUp_ne (by omega), sUp_ne (by omega)]; assumption) | (simp [sUp]; done)) (by rfl) rfl ?_
                        refine e_bipush (v := nI 36) (p' := 171) D_M_layParts_169 cst_bipush_36 rfl ?_
                        refine e_iaload (p' := 172) D_M_layParts_171 (by first | assumption | exact sUp_eq | (rw [sUp_ne (by omega)]; assumption) | (rw [sUp_ne (by omega), sUp_ne (by omega)]; assumption) | (rw [sUp_ne (by omega)]; exact sUp_eq) | (rw [gSet_ne (by omega) (by omega)]; first | assumption | exact sUp_eq | (rw [sUp_ne (by omega)]; assumption) | (rw [sUp_ne (by omega), sUp_ne (by omega)]; assumption)) | (rw [sUp_ne (by omega), sUp_ne (by omega), sUp_ne (by omega)]; assumption) | (simp [sUp]; done)) (by omega) (by omega) (by rfl) rfl ?_
                        rw [z36]
                        refine e_icmpN_ge (q := 250) (p' := 175) D_M_layParts_172 (by omega) (by omega) rfl rfl (fun hc172 => ?_) (fun hc172 => ?_)
                        ·
                          exfalso; omega
                        ·
                          refine e_iconst (v := nI 0) (p' := 176) D_M_layParts_175 cst_iconst_0 rfl ?_
                          refine e_istore_2 (p' := 177) D_M_layParts_176 (Nat.le_of_ble_eq_true rfl) rfl rfl ?_
                          have lk177 : ∀ j : Nat, j ≤ x.1.2.1 → ∀ (h3 : sH), (PmAt h3 (lay x).1 ∧ h3.2 61 = mO n t (nI (lay x).2, sBo (al i (fun r => al x.1.2.1 (fun c => wl x (lay x).1 r c)) && al j (fun c => wl x (lay x).1 i c)), v.2.2) ∧ FrL h h3) → sEv l m_M_layParts 3 (0, 0, 0, 0) (sKm 0 0 (fun r1 h1 => r1 = none ∧ (fun h1 => PmAt h1 (lay x).1 ∧ h1.2 61 = mO n t (nI (lay x).2, sBo (wellX x), v.2.2) ∧ FrL h h1) h1)) 177 [some (.ref 61), some (.int (nI i)), some (.int (nI j))] [] (h3) := by
                            refine lp_up _ ?_ ?_
                            · intro h3 ⟨hP3, m3, F3⟩
                              have z3 := (F3 62 (by omega) (by omega)).trans hz
                              obtain ⟨e1, e2, e3, e4, p1, p2, p3, p4, PV⟩ := id hP3
                              have sm3 := hx.small i (x.1.2.1)
                              refine e_iload_2 (p' := 178) D_M_layParts_177 rfl ?_
                              refine e_aload_0 (p' := 179) D_M_layParts_178 rfl ?_
                              refine e_getfield (p' := 182) D_M_layParts_179 F_M_7 (by first | assumption | exact sUp_eq | (rw [sUp_ne (by omega)]; assumption) | (rw [sUp_ne (by omega), sUp_ne (by omega)]; assumption) | (rw [sUp_ne (by omega)]; exact sUp_eq) | (rw [gSet_ne (by omega) (by omega)]; first | assumption | exact sUp_eq | (rw [sUp_ne (by omega)]; assumption) | (rw [sUp_ne (by omega), sUp_ne (by omega)]; assumption)) | (rw [sUp_ne (by omega), sUp_ne (by omega), sUp_ne (by omega)]; assumption) | (simp [sUp]; done)) (by rfl) rfl ?_
                              refine e_bipush (v := nI 37) (p' := 184) D_M_layParts_182 cst_bipush_37 rfl ?_
                              refine e_iaload (p' := 185) D_M_layParts_184 (by first | assumption | exact sUp_eq | (rw [sUp_ne (by omega)]; assumption) | (rw [sUp_ne (by omega), sUp_ne (by omega)]; assumption) | (rw [sUp_ne (by omega)]; exact sUp_eq) | (rw [gSet_ne (by omega) (by omega)]; first | assumption | exact sUp_eq | (rw [sUp_ne (by omega)]; assumption) | (rw [sUp_ne (by omega), sUp_ne (by omega)]; assumption)) | (rw [sUp_ne (by omega), sUp_ne (by omega), sUp_ne (by omega)]; assumption) | (simp [sUp]; done)) (by omega) (by omega) (by rfl) rfl ?_
                              rw [z37]
                              refine e_icmpN_ge (q := 244) (p' := 188) D_M_layParts_185 (by omega) (by omega) rfl rfl (fun hc185 => ?_) (fun hc185 => ?_)
                              ·
                                first | refine e_iincN_1 (n := 1) (p' := 247) D_M_layParts_244 (Nat.le_of_ble_eq_true rfl) rfl rfl ?_ | refine e_iinc_1 (p' := 247) D_M_layParts_244 (Nat.le_of_ble_eq_true rfl) rfl rfl rfl ?_
                                refine e_goto (p' := 164) D_M_layParts_247 rfl ?_
                                refine sEv.castW (ih164 h3 ⟨hP3, m3, F3⟩) ?_ ?_ ?_
                                · first | exact lvW_rfl _ | (simp [lvW]; done) | (simp [lvW, *]; done) | (simp [lvW]; omega)
                                · rfl
                                · first | rfl | (simp; done)
                              ·
                                exfalso; omega
                            · intro j hj ih177 h3 ⟨hP3, m3, F3⟩
                              have z3 := (F3 62 (by omega) (by omega)).trans hz
                              obtain ⟨e1, e2, e3, e4, p1, p2, p3, p4, PV⟩ := id hP3
                              have sm3 := hx.small i j
                              refine e_iload_2 (p' := 178) D_M_layParts_177 rfl ?_
                              refine e_aload_0 (p' := 179) D_M_layParts_178 rfl ?_
                              refine e_getfield (p' := 182) D_M_layParts_179 F_M_7 (by first | assumption | exact sUp_eq | (rw [sUp_ne (by omega)]; assumption) | (rw [sUp_ne (by omega), sUp_ne (by omega)]; assumption) | (rw [sUp_ne (by omega)]; exact sUp_eq) | (rw [gSet_ne (by omega) (by omega)]; first | assumption | exact sUp_eq | (rw [sUp_ne (by omega)]; assumption) | (rw [sUp_ne (by omega), sUp_ne (by omega)]; assumption)) | (rw [sUp_ne (by omega), sUp_ne (by omega), sUp_ne (by omega)]; assumption) | (simp [sUp]; done)) (by rfl) rfl ?_
                              refine e_bipush (v := nI 37) (p' := 184) D_M_layParts_182 cst_bipush_37 rfl ?_
                              refine e_iaload (p' := 185) D_M_layParts_184 (by first | assumption | exact sUp_eq | (rw [sUp_ne (by omega)]; assumption) | (rw [sUp_ne (by omega), sUp_ne (by omega)]; assumption) | (rw [sUp_ne (by omega)]; exact sUp_eq) | (rw [gSet_ne (by omega) (by omega)]; first | assumption | exact sUp_eq | (rw [sUp_ne (by omega)]; assumption) | (rw [sUp_ne (by omega), sUp_ne (by omega)]; assumption)) | (rw [sUp_ne (by omega), sUp_ne (by omega), sUp_ne (by omega)]; assumption) | (simp [sUp]; done)) (by omega) (by omega) (by rfl) rfl ?_
                              rw [z37]
                              refine e_icmpN_ge (q := 244) (p' := 188) D_M_layParts_185 (by omega) (by omega) rfl rfl (fun hc185 => ?_) (fun hc185 => ?_)
                              ·
                                exfalso; omega
                              ·
                                refine e_aload_0 (p' := 189) D_M_layParts_188 rfl ?_
                                refine e_aload_0 (p' := 190) D_M_layParts_189 rfl ?_
                                refine e_getfield (p' := 193) D_M_layParts_190 F_M_81 (by first | assumption | exact sUp_eq | (rw [sUp_ne (by omega)]; assumption) | (rw [sUp_ne (by omega), sUp_ne (by omega)]; assumption) | (rw [sUp_ne (by omega)]; exact sUp_eq) | (rw [gSet_ne (by omega) (by omega)]; first | assumption | exact sUp_eq | (rw [sUp_ne (by omega)]; assumption) | (rw [sUp_ne (by omega), sUp_ne (by omega)]; assumption)) | (rw [sUp_ne (by omega), sUp_ne (by omega), sUp_ne (by omega)]; assumption) | (simp [sUp]; done)) (by rfl) rfl ?_
                                refine e_ifB_eq (q := 234) (p' := 196) D_M_layParts_193 rfl rfl (fun hc193 => ?_) (fun hc193 => ?_)
                                ·
                                  refine e_iconst (v := nI 0) (p' := 235) D_M_layParts_234 cst_iconst_0 rfl ?_
                                  refine e_putfield (p' := 238) D_M_layParts_235 F_M_81 (Or.inl rfl) (by first | assumption | exact sUp_eq | (rw [sUp_ne (by omega)]; assumption) | (rw [sUp_ne (by omega), sUp_ne (by omega)]; assumption) | (rw [sUp_ne (by omega)]; exact sUp_eq) | (rw [gSet_ne (by omega) (by omega)]; first | assumption | exact sUp_eq | (rw [sUp_ne (by omega)]; assumption) | (rw [sUp_ne (by omega), sUp_ne (by omega)]; assumption)) | (rw [sUp_ne (by omega), sUp_ne (by omega), sUp_ne (by omega)]; assumption) | (simp [sUp]; done)) (fun _ => ⟨by first | rfl | assumption, rfl⟩) (Nat.le_of_ble_eq_true rfl) (by rfl) rfl ?_
                                  try dsimp only [List.set]
                                  first | refine e_iincN_2 (n := 1) (p' := 241) D_M_layParts_238 (Nat.le_of_ble_eq_true rfl) rfl rfl ?_ | refine e_iinc_2 (p' := 241) D_M_layParts_238 (Nat.le_of_ble_eq_true rfl) rfl rfl rfl ?_
                                  refine e_goto (p' := 177) D_M_layParts_241 rfl ?_
                                  refine sEv.castW (ih177 (sUp h3 61 (mO n t (nI (lay x).2, nI 0, v.2.2))) ⟨hP3.kept (fun a h1 h2 => sUp_ne (by omega)), sUp_eq.trans (congrArg (fun b => mO n t (nI (lay x).2, b, v.2.2)) (show nI 0 = sBo (al i (fun r => al x.1.2.1 (fun c => wl x (lay x).1 r c)) && al (j + 1) (fun c => wl x (lay x).1 i c)) from by rw [al_succ, ← Bool.and_assoc, hc193]; rfl)), F3.up (Or.inr rfl)⟩) ?_ ?_ ?_
                                  · first | exact lvW_rfl _ | (simp [lvW]; done) | (simp [lvW, *]; done) | (simp [lvW]; omega)
                                  · rfl
                                  · first | rfl | (simp; done)
                                ·
                                  refine e_aload_0 (p' := 197) D_M_layParts_196 rfl ?_
                                  refine e_iload_1 (p' := 198) D_M_layParts_197 rfl ?_
                                  refine e_iload_2 (p' := 199) D_M_layParts_198 rfl ?_
                                  refine x_callV1 (p' := 202) D_M_layParts_199 V_M_67 (c_M_at m3 z3 hx (by omega) (by omega)) rfl (by first | assumption | exact sUp_eq | (rw [sUp_ne (by omega)]; assumption) | (rw [sUp_ne (by omega), sUp_ne (by omega)]; assumption) | (rw [sUp_ne (by omega)]; exact sUp_eq) | (rw [gSet_ne (by omega) (by omega)]; first | assumption | exact sUp_eq | (rw [sUp_ne (by omega)]; assumption) | (rw [sUp_ne (by omega), sUp_ne (by omega)]; assumption)) | (rw [sUp_ne (by omega), sUp_ne (by omega), sUp_ne (by omega)]; assumption) | (simp [sUp]; done)) rfl (Nat.le_of_ble_eq_true rfl) (by decide) ⟨by decide, by decide⟩ rfl ?_
                                  refine e_ifN_eq (q := 230) (p' := 205) D_M_layParts_202 (by omega) rfl rfl (fun hc202 => ?_) (fun hc202 => ?_)
                                  ·
                                    refine e_iconst (v := nI 1) (p' := 231) D_M_layParts_230 cst_iconst_1 rfl ?_
                                    refine e_goto (p' := 235) D_M_layParts_231 rfl ?_
                                    refine e_putfield (p' := 238) D_M_layParts_235 F_M_81 (Or.inl rfl) (by first | assumption | exact sUp_eq | (rw [sUp_ne (by omega)]; assumption) | (rw [sUp_ne (by omega), sUp_ne (by omega)]; assumption) | (rw [sUp_ne (by omega)]; exact sUp_eq) | (rw [gSet_ne (by omega) (by omega)]; first | assumption | exact sUp_eq | (rw [sUp_ne (by omega)]; assumption) | (rw [sUp_ne (by omega), sUp_ne (by omega)]; assumption)) | (rw [sUp_ne (by omega), sUp_ne (by omega), sUp_ne (by omega)]; assumption) | (simp [sUp]; done)) (fun _ => ⟨by first | rfl | assumption, rfl⟩) (Nat.le_of_ble_eq_true rfl) (by rfl) rfl ?_
                                    try dsimp only [List.set]
                                    first | refine e_iincN_2 (n := 1) (p' := 241) D_M_layParts_238 (Nat.le_of_ble_eq_true rfl) rfl rfl ?_ | refine e_iinc_2 (p' := 241) D_M_layParts_238 (Nat.le_of_ble_eq_true rfl) rfl rfl rfl ?_
                                    refine e_goto (p' := 177) D_M_layParts_241 rfl ?_
                                    refine sEv.castW (ih177 (sUp h3 61 (mO n t (nI (lay x).2, nI 1, v.2.2))) ⟨hP3.kept (fun a h1 h2 => sUp_ne (by omega)), sUp_eq.trans (congrArg (fun b => mO n t (nI (lay x).2, b, v.2.2)) (show nI 1 = sBo (al i (fun r => al x.1.2.1 (fun c => wl x (lay x).1 r c)) && al (j + 1) (fun c => wl x (lay x).1 i c)) from by rw [al_succ, ← Bool.and_assoc, hc193, show wl x (lay x).1 i j = true from by unfold wl; rw [td_false (by omega)]; rfl]; rfl)), F3.up (Or.inr rfl)⟩) ?_ ?_ ?_
                                    · first | exact lvW_rfl _ | (simp [lvW]; done) | (simp [lvW, *]; done) | (simp [lvW]; omega)
                                    · rfl
                                    · first | rfl | (simp; done)
                                  ·
                                    refine e_aload_0 (p' := 206) D_M_layParts_205 rfl ?_
                                    refine e_iload_1 (p' := 207) D_M_layParts_206 rfl ?_
                                    refine e_iload_2 (p' := 208) D_M_layParts_207 rfl ?_
                                    refine x_callV1 (p' := 211) D_M_layParts_208 V_M_67 (c_M_at m3 z3 hx (by omega) (by omega)) rfl (by first | assumption | exact sUp_eq | (rw [sUp_ne (by omega)]; assumption) | (rw [sUp_ne (by omega), sUp_ne (by omega)]; assumption) | (rw [sUp_ne (by omega)]; exact sUp_eq) | (rw [gSet_ne (by omega) (by omega)]; first | assumption | exact sUp_eq | (rw [sUp_ne (by omega)]; assumption) | (rw [sUp_ne (by omega), sUp_ne (by omega)]; assumption)) | (rw [sUp_ne (by omega), sUp_ne (by omega), sUp_ne (by omega)]; assumption) | (simp [sUp]; done)) rfl (Nat.le_of_ble_eq_true rfl) (by decide) ⟨by decide, by decide⟩ rfl ?_
                                    refine e_aload_0 (p' := 212) D_M_layParts_211 rfl ?_
                                    refine e_aload_0 (p' := 213) D_M_layParts_212 rfl ?_
                                    refine e_getfield (p' := 216) D_M_layParts_213 F_M_33 (by first | assumption | exact sUp_eq | (rw [sUp_ne (by omega)]; assumption) | (rw [sUp_ne (by omega), sUp_ne (by omega)]; assumption) | (rw [sUp_ne (by omega)]; exact sUp_eq) | (rw [gSet_ne (by omega) (by omega)]; first | assumption | exact sUp_eq | (rw [sUp_ne (by omega)]; assumption) | (rw [sUp_ne (by omega), sUp_ne (by omega)]; assumption)) | (rw [sUp_ne (by omega), sUp_ne (by omega), sUp_ne (by omega)]; assumption) | (simp [sUp]; done)) (by rfl) rfl ?_
                                    refine e_iload_1 (p' := 217) D_M_layParts_216 rfl ?_
                                    refine e_iaload (p' := 218) D_M_layParts_217 (by first | assumption | exact sUp_eq | (rw [sUp_ne (by omega)]; assumption) | (rw [sUp_ne (by omega), sUp_ne (by omega)]; assumption) | (rw [sUp_ne (by omega)]; exact sUp_eq) | (rw [gSet_ne (by omega) (by omega)]; first | assumption | exact sUp_eq | (rw [sUp_ne (by omega)]; assumption) | (rw [sUp_ne (by omega), sUp_ne (by omega)]; assumption)) | (rw [sUp_ne (by omega), sUp_ne (by omega), sUp_ne (by omega)]; assumption) | (simp [sUp]; done)) (by omega) (by omega) (by rfl) rfl ?_
                                    rw [(PV i (by omega)).2.1]
                                    refine e_aload_0 (p' := 219) D_M_layParts_218 rfl ?_
                                    refine e_getfield (p' := 222) D_M_layParts_219 F_M_36 (by first | assumption | exact sUp_eq | (rw [sUp_ne (by omega)]; assumption) | (rw [sUp_ne (by omega), sUp_ne (by omega)]; assumption) | (rw [sUp_ne (by omega)]; exact sUp_eq) | (rw [gSet_ne (by omega) (by omega)]; first | assumption | exact sUp_eq | (rw [sUp_ne (by omega)]; assumption) | (rw [sUp_ne (by omega), sUp_ne (by omega)]; assumption)) | (rw [sUp_ne (by omega), sUp_ne (by omega), sUp_ne (by omega)]; assumption) | (simp [sUp]; done)) (by rfl) rfl ?_
                                    refine e_iload_2 (p' := 223) D_M_layParts_222 rfl ?_
                                    refine e_iaload (p' := 224) D_M_layParts_223 (by first | assumption | exact sUp_eq | (rw [sUp_ne (by omega)]; assumption) | (rw [sUp_ne (by omega), sUp_ne (by omega)]; assumption) | (rw [sUp_ne (by omega)]; exact sUp_eq) | (rw [gSet_ne (by omega) (by omega)]; first | assumption | exact sUp_eq | (rw [sUp_ne (by omega)]; assumption) | (rw [sUp_ne (by omega), sUp_ne (by omega)]; assumption)) | (rw [sUp_ne (by omega), sUp_ne (by omega), sUp_ne (by omega)]; assumption) | (simp [sUp]; done)) (by omega) (by omega) (by rfl) rfl ?_
                                    rw [(PV j (by omega)).2.2]
                                    refine x_callV1 (p' := 227) D_M_layParts_224 V_M_63 (c_M_times m3 z3 hx (by have := (lp.1.1 i (lk.1 i (by omega))).2; omega) (by have := (lp.1.2 j (lk.2 j (by omega))).2; omega)) rfl (by first | assumption | exact sUp_eq | (rw [sUp_ne (by omega)]; assumption) | (rw [sUp_ne (by omega), sUp_ne (by omega)]; assumption) | (rw [sUp_ne (by omega)]; exact sUp_eq) | (rw [gSet_ne (by omega) (by omega)]; first | assumption | exact sUp_eq | (rw [sUp_ne (by omega)]; assumption) | (rw [sUp_ne (by omega), sUp_ne (by omega)]; assumption)) | (rw [sUp_ne (by omega), sUp_ne (by omega), sUp_ne (by omega)]; assumption) | (simp [sUp]; done)) rfl (Nat.le_of_ble_eq_true rfl) (by decide) ⟨by decide, by decide⟩ rfl ?_
                                    have mdl := Nat.mod_lt ((lay x).1.2.1 i * (lay x).1.2.2 j) (y := x.1.2.2) (by omega)
                                    refine e_icmpN_ne (q := 234) (p' := 230) D_M_layParts_227 (by omega) (by omega) rfl rfl (fun hc227 => ?_) (fun hc227 => ?_)
                                    ·
                                      refine e_iconst (v := nI 0) (p' := 235) D_M_layParts_234 cst_iconst_0 rfl ?_
                                      refine e_putfield (p' := 238) D_M_layParts_235 F_M_81 (Or.inl rfl) (by first | assumption | exact sUp_eq | (rw [sUp_ne (by omega)]; assumption) | (rw [sUp_ne (by omega), sUp_ne (by omega)]; assumption) | (rw [sUp_ne (by omega)]; exact sUp_eq) | (rw [gSet_ne (by omega) (by omega)]; first | assumption | exact sUp_eq | (rw [sUp_ne (by omega)]; assumption) | (rw [sUp_ne (by omega), sUp_ne (by omega)]; assumption)) | (rw [sUp_ne (by omega), sUp_ne (by omega), sUp_ne (by omega)]; assumption) | (simp [sUp]; done)) (fun _ => ⟨by first | rfl | assumption, rfl⟩) (Nat.le_of_ble_eq_true rfl) (by rfl) rfl ?_
                                      try dsimp only [List.set]
                                      first | refine e_iincN_2 (n := 1) (p' := 241) D_M_layParts_238 (Nat.le_of_ble_eq_true rfl) rfl rfl ?_ | refine e_iinc_2 (p' := 241) D_M_layParts_238 (Nat.le_of_ble_eq_true rfl) rfl rfl rfl ?_
                                      refine e_goto (p' := 177) D_M_layParts_241 rfl ?_
                                      refine sEv.castW (ih177 (sUp h3 61 (mO n t (nI (lay x).2, nI 0, v.2.2))) ⟨hP3.kept (fun a h1 h2 => sUp_ne (by omega)), sUp_eq.trans (congrArg (fun b => mO n t (nI (lay x).2, b, v.2.2)) (show nI 0 = sBo (al i (fun r => al x.1.2.1 (fun c => wl x (lay x).1 r c)) && al (j + 1) (fun c => wl x (lay x).1 i c)) from by rw [al_succ, ← Bool.and_assoc, hc193, show wl x (lay x).1 i j = false from by unfold wl; rw [td_true (by omega), decide_eq_false (by assumption)]; rfl]; rfl)), F3.up (Or.inr rfl)⟩) ?_ ?_ ?_
                                      · first | exact lvW_rfl _ | (simp [lvW]; done) | (simp [lvW, *]; done) | (simp [lvW]; omega)
                                      · rfl
                                      · first | rfl | (simp; done)
                                    ·
                                      refine e_iconst (v := nI 1) (p' := 231) D_M_layParts_230 cst_iconst_1 rfl ?_
                                      refine e_goto (p' := 235) D_M_layParts_231 rfl ?_
                                      refine e_putfield (p' := 238) D_M_layParts_235 F_M_81 (Or.inl rfl) (by first | assumption | exact sUp_eq | (rw [sUp_ne (by omega)]; assumption) | (rw [sUp_ne (by omega), sUp_ne (by omega)]; assumption) | (rw [sUp_ne (by omega)]; exact sUp_eq) | (rw [gSet_ne (by omega) (by omega)]; first | assumption | exact sUp_eq | (rw [sUp_ne (by omega)]; assumption) | (rw [sUp_ne (by omega), sUp_ne (by omega)]; assumption)) | (rw [sUp_ne (by omega), sUp_ne (by omega), sUp_ne (by omega)]; assumption) | (simp [sUp]; done)) (fun _ => ⟨by first | rfl | assumption, rfl⟩) (Nat.le_of_ble_eq_true rfl) (by rfl) rfl ?_
                                      try dsimp only [List.set]
                                      first | refine e_iincN_2 (n := 1) (p' := 241) D_M_layParts_238 (Nat.le_of_ble_eq_true rfl) rfl rfl ?_ | refine e_iinc_2 (p' := 241) D_M_layParts_238 (Nat.le_of_ble_eq_true rfl) rfl rfl rfl ?_
                                      refine e_goto (p' := 177) D_M_layParts_241 rfl ?_
                                      refine sEv.castW (ih177 (sUp h3 61 (mO n t (nI (lay x).2, nI 1, v.2.2))) ⟨hP3.kept (fun a h1 h2 => sUp_ne (by omega)), sUp_eq.trans (congrArg (fun b => mO n t (nI (lay x).2, b, v.2.2)) (show nI 1 = sBo (al i (fun r => al x.1.2.1 (fun c => wl x (lay x).1 r c)) && al (j + 1) (fun c => wl x (lay x).1 i c)) from by rw [al_succ, ← Bool.and_assoc, hc193, show wl x (lay x).1 i j = true from by unfold wl; rw [td_true (by omega), decide_eq_true (by omega)]; rfl]; rfl)), F3.up (Or.inr rfl)⟩) ?_ ?_ ?_
                                      · first | exact lvW_rfl _ | (simp [lvW]; done) | (simp [lvW, *]; done) | (simp [lvW]; omega)
                                      · rfl
                                      · first | rfl | (simp; done)
                          refine sEv.castW (lk177 0 (by omega) h2 ⟨hP2, by rw [show al 0 (fun c => wl x (lay x).1 i c) = true from rfl, Bool.and_true]; exact m2, F2⟩) ?_ ?_ ?_
                          · exact ⟨rfl, rfl, rfl, trivial⟩
                          · rfl
                          · first | rfl | (simp; done)
                    refine sEv.castW (lk164 0 (by omega) (sUp h1 61 (mO n t (nI (lay x).2, nI 1, v.2.2))) ⟨hP1.kept (fun a h1 h2 => sUp_ne (by omega)), sUp_eq, F1.up (Or.inr rfl)⟩) ?_ ?_ ?_
                    · first | exact lvW_rfl _ | (simp [lvW]; done) | (simp [lvW, *]; done) | (simp [lvW]; omega)
                    · rfl
                    · first | rfl | (simp; done)
                  ·
                    exfalso; omega
                · intro j hj ih109 h1 ⟨hP1, m1, F1⟩
                  obtain ⟨e1, e2, e3, e4, p1, p2, p3, p4, PV⟩ := id hP1
                  have z1 := (F1 62 (by omega) (by omega)).trans hz
                  have hok := layC_ok hx j (by omega)
                  have hbd := hok.2.2.2.1 j
                  refine e_iload_1 (p' := 110) D_M_layParts_109 rfl ?_
                  refine e_aload_0 (p' := 111) D_M_layParts_110 rfl ?_
                  refine e_getfield (p' := 114) D_M_layParts_111 F_M_7 (by first | assumption | exact sUp_eq | (rw [sUp_ne (by omega)]; assumption) | (rw [sUp_ne (by omega), sUp_ne (by omega)]; assumption) | (rw [sUp_ne (by omega)]; exact sUp_eq) | (rw [gSet_ne (by omega) (by omega)]; first | assumption | exact sUp_eq | (rw [sUp_ne (by omega)]; assumption) | (rw [sUp_ne (by omega), sUp_ne (by omega)]; assumption)) | (rw [sUp_ne (by omega), sUp_ne (by omega), sUp_ne (by omega)]; assumption) | (simp [sUp]; done)) (by rfl) rfl ?_
                  refine e_bipush (v := nI 37) (p' := 116) D_M_layParts_114 cst_bipush_37 rfl ?_
                  refine e_iaload (p' := 117) D_M_layParts_116 (by first | assumption | exact sUp_eq | (rw [sUp_ne (by omega)]; assumption) | (rw [sUp_ne (by omega), sUp_ne (by omega)]; assumption) | (rw [sUp_ne (by omega)]; exact sUp_eq) | (rw [gSet_ne (by omega) (by omega)]; first | assumption | exact sUp_eq | (rw [sUp_ne (by omega)]; assumption) | (rw [sUp_ne (by omega), sUp_ne (by omega)]; assumption)) | (rw [sUp_ne (by omega), sUp_ne (by omega), sUp_ne (by omega)]; assumption) | (simp [sUp]; done)) (by omega) (by omega) (by rfl) rfl ?_
                  rw [z37]
                  refine e_icmpN_ge (q := 157) (p' := 120) D_M_layParts_117 (by omega) (by omega) rfl rfl (fun hc117 => ?_) (fun hc117 => ?_)
                  ·
                    exfalso; omega
                  ·
                    refine e_aload_0 (p' := 121) D_M_layParts_120 rfl ?_
                    refine e_getfield (p' := 124) D_M_layParts_121 F_M_30 (by first | assumption | exact sUp_eq | (rw [sUp_ne (by omega)]; assumption) | (rw [sUp_ne (by omega), sUp_ne (by omega)]; assumption) | (rw [sUp_ne (by omega)]; exact sUp_eq) | (rw [gSet_ne (by omega) (by omega)]; first | assumption | exact sUp_eq | (rw [sUp_ne (by omega)]; assumption) | (rw [sUp_ne (by omega), sUp_ne (by omega)]; assumption)) | (rw [sUp_ne (by omega), sUp_ne (by omega), sUp_ne (by omega)]; assumption) | (simp [sUp]; done)) (by rfl) rfl ?_
                    refine e_iload_1 (p' := 125) D_M_layParts_124 rfl ?_
                    refine e_iaload (p' := 126) D_M_layParts_125 (by first | assumption | exact sUp_eq | (rw [sUp_ne (by omega)]; assumption) | (rw [sUp_ne (by omega), sUp_ne (by omega)]; assumption) | (rw [sUp_ne (by omega)]; exact sUp_eq) | (rw [gSet_ne (by omega) (by omega)]; first | assumption | exact sUp_eq | (rw [sUp_ne (by omega)]; assumption) | (rw [sUp_ne (by omega), sUp_ne (by omega)]; assumption)) | (rw [sUp_ne (by omega), sUp_ne (by omega), sUp_ne (by omega)]; assumption) | (simp [sUp]; done)) (by omega) (by omega) (by rfl) rfl ?_
                    refine e_bipush (v := (-6)) (p' := 128) D_M_layParts_126 cst_bipush_m6 rfl ?_
                    refine e_icmp_ne (q := 151) (p' := 131) D_M_layParts_128 rfl rfl (fun hc128 => ?_) (fun hc128 => ?_)
                    ·
                      first | refine e_iincN_1 (n := 1) (p' := 154) D_M_layParts_151 (Nat.le_of_ble_eq_true rfl) rfl rfl ?_ | refine e_iinc_1 (p' := 154) D_M_layParts_151 (Nat.le_of_ble_eq_true rfl) rfl rfl rfl ?_
                      refine e_goto (p' := 109) D_M_layParts_154 rfl ?_
                      refine sEv.castW (ih109 h1 (by rw [layC_skip (fun z => hc128 (by rw [(PV j (by omega)).1.2, pJ_m6 (by omega)]; exact z))]; exact ⟨hP1, m1, F1⟩)) ?_ ?_ ?_
                      · first | exact lvW_rfl _ | (simp [lvW]; done) | (simp [lvW, *]; done) | (simp [lvW]; omega)
                      · rfl
                      · first | rfl | (simp; done)
                    ·
                      have hr0 : (layC x j).1.1.2 j = 0 := (pJ_m6 (by omega)).mp ((PV j (by omega)).1.2.symm.trans (by first | exact hc128 | exact Classical.not_not.mp hc128))
                      refine e_aload_0 (p' := 132) D_M_layParts_131 rfl ?_
                      refine e_getfield (p' := 135) D_M_layParts_132 F_M_30 (by first | assumption | exact sUp_eq | (rw [sUp_ne (by omega)]; assumption) | (rw [sUp_ne (by omega), sUp_ne (by omega)]; assumption) | (rw [sUp_ne (by omega)]; exact sUp_eq) | (rw [gSet_ne (by omega) (by omega)]; first | assumption | exact sUp_eq | (rw [sUp_ne (by omega)]; assumption) | (rw [sUp_ne (by omega), sUp_ne (by omega)]; assumption)) | (rw [sUp_ne (by omega), sUp_ne (by omega), sUp_ne (by omega)]; assumption) | (simp [sUp]; done)) (by rfl) rfl ?_
                      refine e_iload_1 (p' := 136) D_M_layParts_135 rfl ?_
                      refine e_aload_0 (p' := 137) D_M_layParts_136 rfl ?_
                      refine e_getfield (p' := 140) D_M_layParts_137 F_M_74 (by first | assumption | exact sUp_eq | (rw [sUp_ne (by omega)]; assumption) | (rw [sUp_ne (by omega), sUp_ne (by omega)]; assumption) | (rw [sUp_ne (by omega)]; exact sUp_eq) | (rw [gSet_ne (by omega) (by omega)]; first | assumption | exact sUp_eq | (rw [sUp_ne (by omega)]; assumption) | (rw [sUp_ne (by omega), sUp_ne (by omega)]; assumption)) | (rw [sUp_ne (by omega), sUp_ne (by omega), sUp_ne (by omega)]; assumption) | (simp [sUp]; done)) (by rfl) rfl ?_
                      refine e_iastore (p' := 141) D_M_layParts_140 (by first | assumption | exact sUp_eq | (rw [sUp_ne (by omega)]; assumption) | (rw [sUp_ne (by omega), sUp_ne (by omega)]; assumption) | (rw [sUp_ne (by omega)]; exact sUp_eq) | (rw [gSet_ne (by omega) (by omega)]; first | assumption | exact sUp_eq | (rw [sUp_ne (by omega)]; assumption) | (rw [sUp_ne (by omega), sUp_ne (by omega)]; assumption)) | (rw [sUp_ne (by omega), sUp_ne (by omega), sUp_ne (by omega)]; assumption) | (simp [sUp]; done)) (by omega) (by omega) rfl ?_
                      refine e_aload_0 (p' := 142) D_M_layParts_141 rfl ?_
                      refine e_dup (p' := 143) D_M_layParts_142 rfl rfl ?_
                      refine e_getfield (p' := 146) D_M_layParts_143 F_M_74 (by first | assumption | exact sUp_eq | (rw [sUp_ne (by omega)]; assumption) | (rw [sUp_ne (by omega), sUp_ne (by omega)]; assumption) | (rw [sUp_ne (by omega)]; exact sUp_eq) | (rw [gSet_ne (by omega) (by omega)]; first | assumption | exact sUp_eq | (rw [sUp_ne (by omega)]; assumption) | (rw [sUp_ne (by omega), sUp_ne (by omega)]; assumption)) | (rw [sUp_ne (by omega), sUp_ne (by omega), sUp_ne (by omega)]; assumption) | (simp [sUp]; done)) (by rfl) rfl ?_
                      refine e_iconst (v := nI 1) (p' := 147) D_M_layParts_146 cst_iconst_1 rfl ?_
                      first | refine e_iaddN (p' := 148) D_M_layParts_147 rfl ?_ | refine e_iadd (p' := 148) D_M_layParts_147 rfl ?_
                      refine e_putfield (p' := 151) D_M_layParts_148 F_M_74 (Or.inl rfl) (by first | assumption | exact sUp_eq | (rw [sUp_ne (by omega)]; assumption) | (rw [sUp_ne (by omega), sUp_ne (by omega)]; assumption) | (rw [sUp_ne (by omega)]; exact sUp_eq) | (rw [gSet_ne (by omega) (by omega)]; first | assumption | exact sUp_eq | (rw [sUp_ne (by omega)]; assumption) | (rw [sUp_ne (by omega), sUp_ne (by omega)]; assumption)) | (rw [sUp_ne (by omega), sUp_ne (by omega), sUp_ne (by omega)]; assumption) | (simp [sUp]; done)) (fun _ => ⟨rfl, rfl⟩) (Nat.le_of_ble_eq_true rfl) (by rfl) rfl ?_
                      try dsimp only [List.set]
                      first | refine e_iincN_1 (n := 1) (p' := 154) D_M_layParts_151 (Nat.le_of_ble_eq_true rfl) rfl rfl ?_ | refine e_iinc_1 (p' := 154) D_M_layParts_151 (Nat.le_of_ble_eq_true rfl) rfl rfl rfl ?_
                      refine e_goto (p' := 109) D_M_layParts_154 rfl ?_
                      refine sEv.castW (ih109 (sUp (sUp h1 68 (iA 6 (upd e2 j (nI (layC x j).2)))) 61 (mO n t (nI ((layC x j).2 + 1), v.2))) (by rw [layC_go hr0, psCol_m (un_layC _) hr0]; exact ⟨(PmAt.col1 p1 p3 p4 PV pJ_s).kept (fun a h1 h2 => sUp_ne (by omega)), sUp_eq, (F1.up (by omega)).up (Or.inr rfl)⟩)) ?_ ?_ ?_
                      · first | exact lvW_rfl _ | (simp [lvW]; done) | (simp [lvW, *]; done) | (simp [lvW]; omega)
                      · rfl
                      · first | rfl | (simp; done)
              refine sEv.castW (lk109 0 (by omega) h1 ⟨hP1, m1, F1⟩) ?_ ?_ ?_
              · first | exact lvW_rfl _ | (simp [lvW]; done) | (simp [lvW, *]; done) | (simp [lvW]; omega)
              · rfl
              · first | rfl | (simp; done)
            ·
              exfalso; omega
          · intro i hi ih51 h1 ⟨hP1, m1, F1⟩
            obtain ⟨e1, e2, e3, e4, p1, p2, p3, p4, PV⟩ := id hP1
            have z1 := (F1 62 (by omega) (by omega)).trans hz
            have hok := layR_ok hx i (by omega)
            have hbd := hok.1.2.2 i
            refine e_iload_1 (p' := 52) D_M_layParts_51 rfl ?_
            refine e_aload_0 (p' := 53) D_M_layParts_52 rfl ?_
            refine e_getfield (p' := 56) D_M_layParts_53 F_M_7 (by first | assumption | exact sUp_eq | (rw [sUp_ne (by omega)]; assumption) | (rw [sUp_ne (by omega), sUp_ne (by omega)]; assumption) | (rw [sUp_ne (by omega)]; exact sUp_eq) | (rw [gSet_ne (by omega) (by omega)]; first | assumption | exact sUp_eq | (rw [sUp_ne (by omega)]; assumption) | (rw [sUp_ne (by omega), sUp_ne (by omega)]; assumption)) | (rw [sUp_ne (by omega), sUp_ne (by omega), sUp_ne (by omega)]; assumption) | (simp [sUp]; done)) (by rfl) rfl ?_
            refine e_bipush (v := nI 36) (p' := 58) D_M_layParts_56 cst_bipush_36 rfl ?_
            refine e_iaload (p' := 59) D_M_layParts_58 (by first | assumption | exact sUp_eq | (rw [sUp_ne (by omega)]; assumption) | (rw [sUp_ne (by omega), sUp_ne (by omega)]; assumption) | (rw [sUp_ne (by omega)]; exact sUp_eq) | (rw [gSet_ne (by omega) (by omega)]; first | assumption | exact sUp_eq | (rw [sUp_ne (by omega)]; assumption) | (rw [sUp_ne (by omega), sUp_ne (by omega)]; assumption)) | (rw [sUp_ne (by omega), sUp_ne (by omega), sUp_ne (by omega)]; assumption) | (simp [sUp]; done)) (by omega) (by omega) (by rfl) rfl ?_
            rw [z36]
            refine e_icmpN_ge (q := 107) (p' := 62) D_M_layParts_59 (by omega) (by omega) rfl rfl (fun hc59 => ?_) (fun hc59 => ?_)
            ·
              exfalso; omega
            ·
              refine e_aload_0 (p' := 63) D_M_layParts_62 rfl ?_
              refine e_getfield (p' := 66) D_M_layParts_63 F_M_27 (by first | assumption | exact sUp_eq | (rw [sUp_ne (by omega)]; assumption) | (rw [sUp_ne (by omega), sUp_ne (by omega)]; assumption) | (rw [sUp_ne (by omega)]; exact sUp_eq) | (rw [gSet_ne (by omega) (by omega)]; first | assumption | exact sUp_eq | (rw [sUp_ne (by omega)]; assumption) | (rw [sUp_ne (by omega), sUp_ne (by omega)]; assumption)) | (rw [sUp_ne (by omega), sUp_ne (by omega), sUp_ne (by omega)]; assumption) | (simp [sUp]; done)) (by rfl) rfl ?_
              refine e_iload_1 (p' := 67) D_M_layParts_66 rfl ?_
              refine e_iaload (p' := 68) D_M_layParts_67 (by first | assumption | exact sUp_eq | (rw [sUp_ne (by omega)]; assumption) | (rw [sUp_ne (by omega), sUp_ne (by omega)]; assumption) | (rw [sUp_ne (by omega)]; exact sUp_eq) | (rw [gSet_ne (by omega) (by omega)]; first | assumption | exact sUp_eq | (rw [sUp_ne (by omega)]; assumption) | (rw [sUp_ne (by omega), sUp_ne (by omega)]; assumption)) | (rw [sUp_ne (by omega), sUp_ne (by omega), sUp_ne (by omega)]; assumption) | (simp [sUp]; done)) (by omega) (by omega) (by rfl) rfl ?_
              refine e_bipush (v := (-6)) (p' := 70) D_M_layParts_68 cst_bipush_m6 rfl ?_
              refine e_icmp_ne (q := 101) (p' := 73) D_M_layParts_70 rfl rfl (fun hc70 => ?_) (fun hc70 => ?_)
              ·
                first | refine e_iincN_1 (n := 1) (p' := 104) D_M_layParts_101 (Nat.le_of_ble_eq_true rfl) rfl rfl ?_ | refine e_iinc_1 (p' := 104) D_M_layParts_101 (Nat.le_of_ble_eq_true rfl) rfl rfl rfl ?_
                refine e_goto (p' := 51) D_M_layParts_104 rfl ?_
                refine sEv.castW (ih51 h1 (by rw [layR_skip (fun z => hc70 (by rw [(PV i (by omega)).1.1, pJ_m6 (by omega)]; exact z))]; exact ⟨hP1, m1, F1⟩)) ?_ ?_ ?_
                · first | exact lvW_rfl _ | (simp [lvW]; done) | (simp [lvW, *]; done) | (simp [lvW]; omega)
                · rfl
                · first | rfl | (simp; done)
              ·
                have hr0 : (layR x i).1.1.1 i = 0 := (pJ_m6 (by omega)).mp ((PV i (by omega)).1.1.symm.trans (by first | exact hc70 | exact Classical.not_not.mp hc70))
                refine e_aload_0 (p' := 74) D_M_layParts_73 rfl ?_
                refine e_getfield (p' := 77) D_M_layParts_74 F_M_27 (by first | assumption | exact sUp_eq | (rw [sUp_ne (by omega)]; assumption) | (rw [sUp_ne (by omega), sUp_ne (by omega)]; assumption) | (rw [sUp_ne (by omega)]; exact sUp_eq) | (rw [gSet_ne (by omega) (by omega)]; first | assumption | exact sUp_eq | (rw [sUp_ne (by omega)]; assumption) | (rw [sUp_ne (by omega), sUp_ne (by omega)]; assumption)) | (rw [sUp_ne (by omega), sUp_ne (by omega), sUp_ne (by omega)]; assumption) | (simp [sUp]; done)) (by rfl) rfl ?_
                refine e_iload_1 (p' := 78) D_M_layParts_77 rfl ?_
                refine e_aload_0 (p' := 79) D_M_layParts_78 rfl ?_
                refine e_getfield (p' := 82) D_M_layParts_79 F_M_74 (by first | assumption | exact sUp_eq | (rw [sUp_ne (by omega)]; assumption) | (rw [sUp_ne (by omega), sUp_ne (by omega)]; assumption) | (rw [sUp_ne (by omega)]; exact sUp_eq) | (rw [gSet_ne (by omega) (by omega)]; first | assumption | exact sUp_eq | (rw [sUp_ne (by omega)]; assumption) | (rw [sUp_ne (by omega), sUp_ne (by omega)]; assumption)) | (rw [sUp_ne (by omega), sUp_ne (by omega), sUp_ne (by omega)]; assumption) | (simp [sUp]; done)) (by rfl) rfl ?_
                refine e_iastore (p' := 83) D_M_layParts_82 (by first | assumption | exact sUp_eq | (rw [sUp_ne (by omega)]; assumption) | (rw [sUp_ne (by omega), sUp_ne (by omega)]; assumption) | (rw [sUp_ne (by omega)]; exact sUp_eq) | (rw [gSet_ne (by omega) (by omega)]; first | assumption | exact sUp_eq | (rw [sUp_ne (by omega)]; assumption) | (rw [sUp_ne (by omega), sUp_ne (by omega)]; assumption)) | (rw [sUp_ne (by omega), sUp_ne (by omega), sUp_ne (by omega)]; assumption) | (simp [sUp]; done)) (by omega) (by omega) rfl ?_
                refine e_aload_0 (p' := 84) D_M_layParts_83 rfl ?_
                refine e_aload_0 (p' := 85) D_M_layParts_84 rfl ?_
                refine e_getfield (p' := 88) D_M_layParts_85 F_M_74 (by first | assumption | exact sUp_eq | (rw [sUp_ne (by omega)]; assumption) | (rw [sUp_ne (by omega), sUp_ne (by omega)]; assumption) | (rw [sUp_ne (by omega)]; exact sUp_eq) | (rw [gSet_ne (by omega) (by omega)]; first | assumption | exact sUp_eq | (rw [sUp_ne (by omega)]; assumption) | (rw [sUp_ne (by omega), sUp_ne (by omega)]; assumption)) | (rw [sUp_ne (by omega), sUp_ne (by omega), sUp_ne (by omega)]; assumption) | (simp [sUp]; done)) (by rfl) rfl ?_
                refine y_callV0 (p' := 91) D_M_layParts_88 V_M_77 (c_M_spread (x := x) (s := psRow (layR x i).1 i (layR x i).2) (p := (layR x i).2) ((sUp_ne (by omega)).trans m1) ((sUp_ne (by omega)).trans z1) hx (by rw [psRow_m (un_layR _) hr0]; exact PmAt.row1 p2 p3 p4 PV pJ_s) (by omega) (hok.1.row hx hok.2.1 hr0)) rfl (by first | assumption | exact sUp_eq | (rw [sUp_ne (by omega)]; assumption) | (rw [sUp_ne (by omega), sUp_ne (by omega)]; assumption) | (rw [sUp_ne (by omega)]; exact sUp_eq) | (rw [gSet_ne (by omega) (by omega)]; first | assumption | exact sUp_eq | (rw [sUp_ne (by omega)]; assumption) | (rw [sUp_ne (by omega), sUp_ne (by omega)]; assumption)) | (rw [sUp_ne (by omega), sUp_ne (by omega), sUp_ne (by omega)]; assumption) | (simp [sUp]; done)) rfl (Nat.le_of_ble_eq_true rfl) (by decide) ⟨by decide, by decide⟩ rfl ?_
                rintro h2 ⟨hP2, F2⟩
                have m2 := (F2 61 (by omega)).trans ((sUp_ne (by omega)).trans m1)
                refine e_aload_0 (p' := 92) D_M_layParts_91 rfl ?_
                refine e_dup (p' := 93) D_M_layParts_92 rfl rfl ?_
                refine e_getfield (p' := 96) D_M_layParts_93 F_M_74 (by first | assumption | exact sUp_eq | (rw [sUp_ne (by omega)]; assumption) | (rw [sUp_ne (by omega), sUp_ne (by omega)]; assumption) | (rw [sUp_ne (by omega)]; exact sUp_eq) | (rw [gSet_ne (by omega) (by omega)]; first | assumption | exact sUp_eq | (rw [sUp_ne (by omega)]; assumption) | (rw [sUp_ne (by omega), sUp_ne (by omega)]; assumption)) | (rw [sUp_ne (by omega), sUp_ne (by omega), sUp_ne (by omega)]; assumption) | (simp [sUp]; done)) (by rfl) rfl ?_
                refine e_iconst (v := nI 1) (p' := 97) D_M_layParts_96 cst_iconst_1 rfl ?_
                first | refine e_iaddN (p' := 98) D_M_layParts_97 rfl ?_ | refine e_iadd (p' := 98) D_M_layParts_97 rfl ?_
                refine e_putfield (p' := 101) D_M_layParts_98 F_M_74 (Or.inl rfl) (by first | assumption | exact sUp_eq | (rw [sUp_ne (by omega)]; assumption) | (rw [sUp_ne (by omega), sUp_ne (by omega)]; assumption) | (rw [sUp_ne (by omega)]; exact sUp_eq) | (rw [gSet_ne (by omega) (by omega)]; first | assumption | exact sUp_eq | (rw [sUp_ne (by omega)]; assumption) | (rw [sUp_ne (by omega), sUp_ne (by omega)]; assumption)) | (rw [sUp_ne (by omega), sUp_ne (by omega), sUp_ne (by omega)]; assumption) | (simp [sUp]; done)) (fun _ => ⟨rfl, rfl⟩) (Nat.le_of_ble_eq_true rfl) (by rfl) rfl ?_
                try dsimp only [List.set]
                first | refine e_iincN_1 (n := 1) (p' := 104) D_M_layParts_101 (Nat.le_of_ble_eq_true rfl) rfl rfl ?_ | refine e_iinc_1 (p' := 104) D_M_layParts_101 (Nat.le_of_ble_eq_true rfl) rfl rfl rfl ?_
                refine e_goto (p' := 51) D_M_layParts_104 rfl ?_
                refine sEv.castW (ih51 (sUp h2 61 (mO n t (nI ((layR x i).2 + 1), v.2))) (by rw [layR_go hr0]; exact ⟨hP2.kept (fun a h1 h2 => sUp_ne (by omega)), sUp_eq, ((F1.up (by omega)).q F2).up (Or.inr rfl)⟩)) ?_ ?_ ?_
                · first | exact lvW_rfl _ | (simp [lvW]; done) | (simp [lvW, *]; done) | (simp [lvW]; omega)
                · rfl
                · first | rfl | (simp; done)
        refine sEv.castW (lk51 0 (by omega) h1 ⟨I1.ps0, m1, F1⟩) ?_ ?_ ?_
        · first | exact lvW_rfl _ | (simp [lvW]; done) | (simp [lvW, *]; done) | (simp [lvW]; omega)
        · rfl
        · first | rfl | (simp; done)
      ·
        exfalso; omega
    · intro i hi ih7 h1 ⟨I1, m1, F1⟩
      obtain ⟨e1, e2, e3, e4, p1, p2, p3, p4, IV⟩ := id I1
      refine e_iload_1 (p' := 8) D_M_layParts_7 rfl ?_
      refine e_bipush (v := nI 6) (p' := 10) D_M_layParts_8 cst_bipush_6 rfl ?_
      refine e_icmpN_ge (q := 49) (p' := 13) D_M_layParts_10 (by omega) (by omega) rfl rfl (fun hc10 => ?_) (fun hc10 => ?_)
      ·
        exfalso; omega
      ·
        refine e_aload_0 (p' := 14) D_M_layParts_13 rfl ?_
        refine e_getfield (p' := 17) D_M_layParts_14 F_M_27 (by first | assumption | exact sUp_eq | (rw [sUp_ne (by omega)]; assumption) | (rw [sUp_ne (by omega), sUp_ne (by omega)]; assumption) | (rw [sUp_ne (by omega)]; exact sUp_eq) | (rw [gSet_ne (by omega) (by omega)]; first | assumption | exact sUp_eq | (rw [sUp_ne (by omega)]; assumption) | (rw [sUp_ne (by omega), sUp_ne (by omega)]; assumption)) | (rw [sUp_ne (by omega), sUp_ne (by omega), sUp_ne (by omega)]; assumption) | (simp [sUp]; done)) (by rfl) rfl ?_
        refine e_iload_1 (p' := 18) D_M_layParts_17 rfl ?_
        refine e_bipush (v := (-6)) (p' := 20) D_M_layParts_18 cst_bipush_m6 rfl ?_
        refine e_iastore (p' := 21) D_M_layParts_20 (by first | assumption | exact sUp_eq | (rw [sUp_ne (by omega)]; assumption) | (rw [sUp_ne (by omega), sUp_ne (by omega)]; assumption) | (rw [sUp_ne (by omega)]; exact sUp_eq) | (rw [gSet_ne (by omega) (by omega)]; first | assumption | exact sUp_eq | (rw [sUp_ne (by omega)]; assumption) | (rw [sUp_ne (by omega), sUp_ne (by omega)]; assumption)) | (rw [sUp_ne (by omega), sUp_ne (by omega), sUp_ne (by omega)]; assumption) | (simp [sUp]; done)) (by omega) (by omega) rfl ?_
        refine e_aload_0 (p' := 22) D_M_layParts_21 rfl ?_
        refine e_getfield (p' := 25) D_M_layParts_22 F_M_30 (by first | assumption | exact sUp_eq | (rw [sUp_ne (by omega)]; assumption) | (rw [sUp_ne (by omega), sUp_ne (by omega)]; assumption) | (rw [sUp_ne (by omega)]; exact sUp_eq) | (rw [gSet_ne (by omega) (by omega)]; first | assumption | exact sUp_eq | (rw [sUp_ne (by omega)]; assumption) | (rw [sUp_ne (by omega), sUp_ne (by omega)]; assumption)) | (rw [sUp_ne (by omega), sUp_ne (by omega), sUp_ne (by omega)]; assumption) | (simp [sUp]; done)) (by rfl) rfl ?_
        refine e_iload_1 (p' := 26) D_M_layParts_25 rfl ?_
        refine e_bipush (v := (-6)) (p' := 28) D_M_layParts_26 cst_bipush_m6 rfl ?_
        refine e_iastore (p' := 29) D_M_layParts_28 (by first | assumption | exact sUp_eq | (rw [sUp_ne (by omega)]; assumption) | (rw [sUp_ne (by omega), sUp_ne (by omega)]; assumption) | (rw [sUp_ne (by omega)]; exact sUp_eq) | (rw [gSet_ne (by omega) (by omega)]; first | assumption | exact sUp_eq | (rw [sUp_ne (by omega)]; assumption) | (rw [sUp_ne (by omega), sUp_ne (by omega)]; assumption)) | (rw [sUp_ne (by omega), sUp_ne (by omega), sUp_ne (by omega)]; assumption) | (simp [sUp]; done)) (by omega) (by omega) rfl ?_
        refine e_aload_0 (p' := 30) D_M_layParts_29 rfl ?_
        refine e_getfield (p' := 33) D_M_layParts_30 F_M_33 (by first | assumption | exact sUp_eq | (rw [sUp_ne (by omega)]; assumption) | (rw [sUp_ne (by omega), sUp_ne (by omega)]; assumption) | (rw [sUp_ne (by omega)]; exact sUp_eq) | (rw [gSet_ne (by omega) (by omega)]; first | assumption | exact sUp_eq | (rw [sUp_ne (by omega)]; assumption) | (rw [sUp_ne (by omega), sUp_ne (by omega)]; assumption)) | (rw [sUp_ne (by omega), sUp_ne (by omega), sUp_ne (by omega)]; assumption) | (simp [sUp]; done)) (by rfl) rfl ?_
        refine e_iload_1 (p' := 34) D_M_layParts_33 rfl ?_
        refine e_iconst (v := nI 1) (p' := 35) D_M_layParts_34 cst_iconst_1 rfl ?_
        refine e_iastore (p' := 36) D_M_layParts_35 (by first | assumption | exact sUp_eq | (rw [sUp_ne (by omega)]; assumption) | (rw [sUp_ne (by omega), sUp_ne (by omega)]; assumption) | (rw [sUp_ne (by omega)]; exact sUp_eq) | (rw [gSet_ne (by omega) (by omega)]; first | assumption | exact sUp_eq | (rw [sUp_ne (by omega)]; assumption) | (rw [sUp_ne (by omega), sUp_ne (by omega)]; assumption)) | (rw [sUp_ne (by omega), sUp_ne (by omega), sUp_ne (by omega)]; assumption) | (simp [sUp]; done)) (by omega) (by omega) rfl ?_
        refine e_aload_0 (p' := 37) D_M_layParts_36 rfl ?_
        refine e_getfield (p' := 40) D_M_layParts_37 F_M_36 (by first | assumption | exact sUp_eq | (rw [sUp_ne (by omega)]; assumption) | (rw [sUp_ne (by omega), sUp_ne (by omega)]; assumption) | (rw [sUp_ne (by omega)]; exact sUp_eq) | (rw [gSet_ne (by omega) (by omega)]; first | assumption | exact sUp_eq | (rw [sUp_ne (by omega)]; assumption) | (rw [sUp_ne (by omega), sUp_ne (by omega)]; assumption)) | (rw [sUp_ne (by omega), sUp_ne (by omega), sUp_ne (by omega)]; assumption) | (simp [sUp]; done)) (by rfl) rfl ?_
        refine e_iload_1 (p' := 41) D_M_layParts_40 rfl ?_
        refine e_iconst (v := nI 1) (p' := 42) D_M_layParts_41 cst_iconst_1 rfl ?_
        refine e_iastore (p' := 43) D_M_layParts_42 (by first | assumption | exact sUp_eq | (rw [sUp_ne (by omega)]; assumption) | (rw [sUp_ne (by omega), sUp_ne (by omega)]; assumption) | (rw [sUp_ne (by omega)]; exact sUp_eq) | (rw [gSet_ne (by omega) (by omega)]; first | assumption | exact sUp_eq | (rw [sUp_ne (by omega)]; assumption) | (rw [sUp_ne (by omega), sUp_ne (by omega)]; assumption)) | (rw [sUp_ne (by omega), sUp_ne (by omega), sUp_ne (by omega)]; assumption) | (simp [sUp]; done)) (by omega) (by omega) rfl ?_
        first | refine e_iincN_1 (n := 1) (p' := 46) D_M_layParts_43 (Nat.le_of_ble_eq_true rfl) rfl rfl ?_ | refine e_iinc_1 (p' := 46) D_M_layParts_43 (Nat.le_of_ble_eq_true rfl) rfl rfl rfl ?_
        refine e_goto (p' := 7) D_M_layParts_46 rfl ?_
        refine sEv.castW (ih7 _ ⟨pm_step (h := h1) IV, (sUp_ne (by omega)).trans ((sUp_ne (by omega)).trans ((sUp_ne (by omega)).trans ((sUp_ne (by omega)).trans m1))), (((F1.up (by omega)).up (by omega)).up (by omega)).up (by omega)⟩) ?_ ?_ ?_
        · first | exact lvW_rfl _ | (simp [lvW]; done) | (simp [lvW, *]; done) | (simp [lvW]; omega)
        · rfl
        · first | rfl | (simp; done)
  refine sEv.castW (lk7 0 (by omega) (sUp h 61 (mO n t (nI 0, v.2))) ⟨⟨f1, f2, f3, f4, (sUp_ne (by omega)).trans a1, (sUp_ne (by omega)).trans a2, (sUp_ne (by omega)).trans a3, (sUp_ne (by omega)).trans a4, fun k hk => absurd hk (Nat.not_lt_zero _)⟩, sUp_eq, FrL.rf.up (Or.inr rfl)⟩) ?_ ?_ ?_
  · first | exact lvW_rfl _ | (simp [lvW]; done) | (simp [lvW, *]; done) | (simp [lvW]; omega)
  · rfl
  · first | rfl | (simp; done)
