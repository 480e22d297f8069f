/-! ===== the reference: the best entry ===== -/
theorem gr_spread {x : Gd} (hx : Gok x) {r : Nat} (hr : r + 1 ≤ x.1.1) (h0 : (layR x r).1.1.1 r = 0) : Gr (psRow (layR x r).1 r (layR x r).2) (layR x (r + 1)).1 := by
  have hok := layR_ok hx r (by omega)
  rw [layR_go h0]
  exact (spr_iv hx (Nat.succ_ne_zero _) (hok.1.row hx hok.2.1 h0) 13).2
theorem layR_top {x : Gd} (hx : Gok x) : ∀ r, r ≤ x.1.1 → (layR x r).2 = 0 ∨ ((∃ k, k < r ∧ (layR x r).1.1.1 k = (layR x r).2) ∧ (layR x r).1.1.1 0 = 1)
  | 0, _ => Or.inl rfl
  | r + 1, hr => by
    have ih := layR_top hx r (by omega)
    by_cases h0 : (layR x r).1.1.1 r = 0
    · have g := gr_spread hx hr h0
      have e1 : (psRow (layR x r).1 r (layR x r).2).1.1 r = (layR x r).2 + 1 := up_at
      have e2 : (layR x (r + 1)).2 = (layR x r).2 + 1 := by rw [layR_go h0]
      refine Or.inr ⟨⟨r, by omega, ?_⟩, ?_⟩
      · rw [g.1 r (by rw [e1]; omega), e1, e2]
      · by_cases er : r = 0
        · subst er
          rw [g.1 0 (by rw [e1]; omega), e1]
          rfl
        · have e3 : (psRow (layR x r).1 r (layR x r).2).1.1 0 = (layR x r).1.1.1 0 := up_off (by omega)
          rcases ih with ih | ⟨_, ih⟩
          · exfalso
            have := (layR_ok hx r (by omega)).2.2.2.2 (by omega)
            omega
          · rw [g.1 0 (by rw [e3, ih]; decide), e3, ih]
    · rw [layR_skip h0]
      rcases ih with ih | ⟨⟨k, k1, k2⟩, ih⟩
      · exact Or.inl ih
      · exact Or.inr ⟨⟨k, by omega, k2⟩, ih⟩
theorem layC_top {x : Gd} (hx : Gok x) : ∀ c, c ≤ x.1.2.1 → ((∃ k, k < x.1.1 ∧ (layC x c).1.1.1 k = (layC x c).2) ∨ ∃ k, k < c ∧ (layC x c).1.1.2 k = (layC x c).2) ∧ (layC x c).1.1.1 0 = 1
  | 0, _ => by
    have h1 := (layR_ok hx x.1.1 (Nat.le_refl _)).2.2.2.2 (by have := hx.1; omega)
    rcases layR_top hx x.1.1 (Nat.le_refl _) with ih | ⟨a, b⟩
    · omega
    · exact ⟨Or.inl a, b⟩
  | c + 1, hc => by
    have ih := layC_top hx c (by omega)
    by_cases h0 : (layC x c).1.1.2 c = 0
    · rw [layC_go h0]
      exact ⟨Or.inr ⟨c, by omega, up_at⟩, ih.2⟩
    · rw [layC_skip h0]
      refine ⟨?_, ih.2⟩
      rcases ih.1 with a | ⟨k, k1, k2⟩
      · exact Or.inl a
      · exact Or.inr ⟨k, by omega, k2⟩
theorem ct_one {n k : Nat} {p : Nat → Bool} (hk : k < n) (h : p k = true) : 1 ≤ ct n p := by
  have := sm_ge (f := fun k => if p k then 1 else 0) hk
  rw [h] at this
  exact this
theorem gn_pos {s : Ps} {r c : Nat} (hr : r < 6) (hc : c < 6) (h : s.1.1 r ≠ s.1.2 c) : 0 < gn s r c := by
  unfold gn
  rw [if_neg h]
  have a : 1 ≤ pRows s (s.1.1 r) := ct_one hr (decide_eq_true rfl)
  have b : 1 ≤ pCols s (s.1.2 c) := ct_one hc (decide_eq_true rfl)
  have := Nat.mul_le_mul a b
  omega
theorem best_ne {x : Gd} (hx : Gok x) (h : (lay x).2 ≠ 1) : ∃ r c, r < x.1.1 ∧ c < x.1.2.1 ∧ 0 < gn (lay x).1 r c := by
  have h1 := hx.1
  have h2 := hx.2.1
  obtain ⟨a, b⟩ := layC_top hx _ (Nat.le_refl _)
  rcases a with ⟨k, k1, k2⟩ | ⟨k, k1, k2⟩
  · by_cases e : (lay x).1.1.2 0 = 1
    · exact ⟨k, 0, k1, by omega, gn_pos (by omega) (by omega) (by rw [e, show (lay x).1.1.1 k = (lay x).2 from k2]; exact h)⟩
    · exact ⟨0, 0, by omega, by omega, gn_pos (by omega) (by omega) (by rw [show (lay x).1.1.1 0 = 1 from b]; exact fun w => e w.symm)⟩
  · exact ⟨0, k, by omega, k1, gn_pos (by omega) (by omega) (by rw [show (lay x).1.1.1 0 = 1 from b, show (lay x).1.1.2 k = (lay x).2 from k2]; exact fun w => h w.symm)⟩
theorem best_0 {x : Gd} (hx : Gok x) (h : (lay x).2 = 1) {r c : Nat} (hr : r < x.1.1) (hc : c < x.1.2.1) : gn (lay x).1 r c = 0 := by
  have a := (layC_ok hx _ (Nat.le_refl _)).2.2.2.1
  have kn := lay_kn hx
  have a1 : (lay x).1.1.1 r ≤ (lay x).2 := (a r).1
  have a2 : (lay x).1.1.2 c ≤ (lay x).2 := (a c).2
  have b1 := kn.1 r hr
  have b2 := kn.2 c hc
  unfold gn
  rw [if_pos (by omega)]
theorem bst_ge {x : Gd} : ∀ {n p : Nat}, p < n → p / 6 < x.1.1 → p % 6 < x.1.2.1 → gn (lay x).1 (p / 6) (p % 6) ≤ (bst x n).2 := by
  intro n
  induction n with
  | zero => intro p h; omega
  | succ n ih =>
    intro p h h1 h2
    unfold bst
    by_cases e : p = n
    · subst e
      split
      · exact Nat.le_refl _
      · rename_i w
        have : ¬ (bst x p).2 < gn (lay x).1 (p / 6) (p % 6) := fun z => w ⟨⟨h1, h2⟩, z⟩
        omega
    · have := ih (p := p) (by omega) h1 h2
      split
      · rename_i w
        have := w.2
        show _ ≤ gn (lay x).1 (n / 6) (n % 6)
        omega
      · exact this
theorem bst_z {x : Gd} (h : ∀ r c, r < x.1.1 → c < x.1.2.1 → gn (lay x).1 r c = 0) : ∀ n, (bst x n).2 = 0
  | 0 => rfl
  | n + 1 => by
    have ih := bst_z h n
    unfold bst
    split
    · rename_i w
      exact h _ _ w.1.1 w.1.2
    · exact ih
theorem bst_one {x : Gd} (hx : Gok x) : (bst x 36).2 = 0 ↔ (lay x).2 = 1 := by
  constructor
  · intro h
    refine Classical.byContradiction fun e => ?_
    obtain ⟨r, c, hr, hc, hg⟩ := best_ne hx e
    have h1 := hx.1
    have h2 := hx.2.1
    have := bst_ge (x := x) (n := 36) (p := 6 * r + c) (by omega) (by omega) (by omega)
    rw [show (6 * r + c) / 6 = r by omega, show (6 * r + c) % 6 = c by omega] at this
    omega
  · intro h
    exact bst_z (fun r c hr hc => best_0 hx h hr hc) 36
theorem lay_b {x : Gd} (hx : Gok x) (k : Nat) : (lay x).1.1.1 k ≤ 12 ∧ (lay x).1.1.2 k ≤ 12 := by
  have a := (layC_ok hx _ (Nat.le_refl _)).2.2.2.1
  have a1 : (lay x).1.1.1 k ≤ (lay x).2 := (a k).1
  have a2 : (lay x).1.1.2 k ≤ (lay x).2 := (a k).2
  have := (lay_sz hx).2
  omega
def bI (b : Nat × Nat) : Int32 := if b.2 = 0 then -6 else nI b.1
theorem gn_td {x : Gd} (hx : Gok x) {r c : Nat} (hr : r < x.1.1) (hc : c < x.1.2.1) (h : td x r c = true) : gn (lay x).1 r c = 0 := by
  have : (lay x).1.1.1 r = (lay x).1.1.2 c := (layC_ok hx _ (Nat.le_refl _)).1 r c hr hc h
  unfold gn
  rw [if_pos this]
set_option maxRecDepth 4000 in
theorem c_M_bestEntry {l : Launch} {h : sH} {st : St} (hI : MInv h st) (hS : StOk st) {w : Int32} : sY l m_M_bestEntry 4 [.ref 61, .int w] h (some (.int (Vbest st.1 w))) (MR h st) := by
  have hI0 := hI
  obtain ⟨hz, H⟩ := hI
  have H0 := H
  have hx := hS.1
  have hM := hx.2.2.1.le
  have hRr := hx.1
  have hCc := hx.2.1
  have hh6 := hS.2.1.1
  obtain ⟨⟨v, a1⟩, ⟨f, a2, b2⟩, ⟨f3, a3, b3⟩, ⟨f4, a4, b4⟩, ⟨f5, a5, b5⟩, ⟨f6, f7, f8, f9, a6, a7, a8, a9⟩, ⟨f10, a10⟩, ⟨f11, a11⟩, ⟨f12, a12⟩⟩ := H
  have lsz := lay_sz hx
  have lp := lay_pv hx
  have lk := lay_kn hx
  refine en_M_bestEntry ?_
  refine e_iload_1 (p' := 1) D_M_bestEntry_0 rfl ?_
  refine e_iconst (v := nI 0) (p' := 2) D_M_bestEntry_1 cst_iconst_0 rfl ?_
  refine e_iconst (v := nI 2) (p' := 3) D_M_bestEntry_2 cst_iconst_2 rfl ?_
  refine x_callS1 (p' := 6) D_M_bestEntry_3 S_M_52 (c_M_in) rfl rfl (Nat.le_of_ble_eq_true rfl) (by decide) ⟨by decide, by decide⟩ rfl ?_
  refine e_ifB_ne (q := 12) (p' := 9) D_M_bestEntry_6 rfl rfl (fun hc6 => ?_) (fun hc6 => ?_)
  ·
    refine e_aload_0 (p' := 13) D_M_bestEntry_12 rfl ?_
    refine y_callV0 (p' := 16) D_M_bestEntry_13 V_M_85 (c_M_layParts a1 hz hx (MRest.arr H0)) rfl (by first | assumption | exact sUp_eq | (rw [sUp_ne (by omega)]; assumption) | (rw [sUp_ne (by omega), sUp_ne (by omega)]; assumption) | (rw [sUp_ne (by omega)]; exact sUp_eq) | (rw [gSet_ne (by omega) (by omega)]; first | assumption | exact sUp_eq | (rw [sUp_ne (by omega)]; assumption) | (rw [sUp_ne (by omega), sUp_ne (by omega)]; assumption)) | (rw [sUp_ne (by omega), sUp_ne (by omega), sUp_ne (by omega)]; assumption) | (simp [sUp]; done)) rfl (Nat.le_of_ble_eq_true rfl) (by decide) ⟨by decide, by decide⟩ rfl ?_
    rintro h1 ⟨P1, m1, L1⟩
    have Z1 := (L1 62 (by omega) (by omega)).trans (hz)
    have R1 := MRest.lay H0 m1 ⟨_, P1⟩ L1
    obtain ⟨e1, e2, e3, e4, p1, p2, p3, p4, PV⟩ := id P1
    refine e_aload_0 (p' := 17) D_M_bestEntry_16 rfl ?_
    refine e_getfield (p' := 20) D_M_bestEntry_17 F_M_74 (by first | assumption | exact sUp_eq | (rw [sUp_ne (by omega)]; assumption) | (rw [sUp_ne (by omega), sUp_ne (by omega)]; assumption) | (rw [sUp_ne (by omega)]; exact sUp_eq) | (rw [gSet_ne (by omega) (by omega)]; first | assumption | exact sUp_eq | (rw [sUp_ne (by omega)]; assumption) | (rw [sUp_ne (by omega), sUp_ne (by omega)]; assumption)) | (rw [sUp_ne (by omega), sUp_ne (by omega), sUp_ne (by omega)]; assumption) | (simp [sUp]; done)) (by rfl) rfl ?_
    refine e_iconst (v := nI 1) (p' := 21) D_M_bestEntry_20 cst_iconst_1 rfl ?_
    refine e_icmpN_ne (q := 27) (p' := 24) D_M_bestEntry_21 (by omega) (by omega) rfl rfl (fun hc21 => ?_) (fun hc21 => ?_)
    ·
      refine e_iconst (v := nI 0) (p' := 28) D_M_bestEntry_27 cst_iconst_0 rfl ?_
      refine e_istore_2 (p' := 29) D_M_bestEntry_28 (Nat.le_of_ble_eq_true rfl) rfl rfl ?_
      refine e_bipush (v := (-6)) (p' := 31) D_M_bestEntry_29 cst_bipush_m6 rfl ?_
      refine e_istore_3 (p' := 32) D_M_bestEntry_31 (Nat.le_of_ble_eq_true rfl) rfl rfl ?_
      refine e_iconst (v := nI 0) (p' := 33) D_M_bestEntry_32 cst_iconst_0 rfl ?_
      refine e_istore_4 (p' := 35) D_M_bestEntry_33 (Nat.le_of_ble_eq_true rfl) rfl rfl ?_
      have lk35 : ∀ i : Nat, i ≤ st.1.1.1 → sEv l m_M_bestEntry 4 (0, 0, 0, 0) (sKm 0 0 (fun r1 h1 => r1 = some (.int (Vbest st.1 w)) ∧ (MR h st) h1)) 35 [some (.ref 61), some (.int w), some (.int (nI (bst st.1 (6 * i)).2)), some (.int (bI (bst st.1 (6 * i)))), some (.int (nI i)), none, none] [] (h1) := by
        refine lp_up _ ?_ ?_
        · skip
          have b1 := bst_le (x := st.1) (6 * (st.1.1.1))
          refine e_iload_4 (p' := 37) D_M_bestEntry_35 rfl ?_
          refine e_aload_0 (p' := 38) D_M_bestEntry_37 rfl ?_
          refine e_getfield (p' := 41) D_M_bestEntry_38 F_M_7 (by first | assumption | exact sUp_eq | (rw [sUp_ne (by omega)]; assumption) | (rw [sUp_ne (by omega), sUp_ne (by omega)]; assumption) | (rw [sUp_ne (by omega)]; exact sUp_eq) | (rw [gSet_ne (by omega) (by omega)]; first | assumption | exact sUp_eq | (rw [sUp_ne (by omega)]; assumption) | (rw [sUp_ne (by omega), sUp_ne (by omega)]; assumption)) | (rw [sUp_ne (by omega), sUp_ne (by omega), sUp_ne (by omega)]; assumption) | (simp [sUp]; done)) (by rfl) rfl ?_
          refine e_bipush (v := nI 36) (p' := 43) D_M_bestEntry_41 cst_bipush_36 rfl ?_
          refine e_iaload (p' := 44) D_M_bestEntry_43 (by first | assumption | exact sUp_eq | (rw [sUp_ne (by omega)]; assumption) | (rw [sUp_ne (by omega), sUp_ne (by omega)]; assumption) | (rw [sUp_ne (by omega)]; exact sUp_eq) | (rw [gSet_ne (by omega) (by omega)]; first | assumption | exact sUp_eq | (rw [sUp_ne (by omega)]; assumption) | (rw [sUp_ne (by omega), sUp_ne (by omega)]; assumption)) | (rw [sUp_ne (by omega), sUp_ne (by omega), sUp_ne (by omega)]; assumption) | (simp [sUp]; done)) (by omega) (by omega) (by rfl) rfl ?_
          rw [z36]
          refine e_icmpN_ge (q := 127) (p' := 47) D_M_bestEntry_44 (by omega) (by omega) rfl rfl (fun hc44 => ?_) (fun hc44 => ?_)
          ·
            have be : bst st.1 (6 * st.1.1.1) = bst st.1 36 := (bst_skip (by omega) (fun k h1 h2 => by omega)).symm
            have io : ¬ isOut w (nI 0) (nI 2) = true := by simpa using hc6
            have mz : ¬ (bst st.1 (6 * st.1.1.1)).2 = 0 := by rw [be, bst_one hx]; exact hc21
            rw [show bI (bst st.1 (6 * st.1.1.1)) = nI (bst st.1 (6 * st.1.1.1)).1 from if_neg mz]
            have b9 := bst_le (x := st.1) (6 * st.1.1.1)
            refine e_iload_1 (p' := 128) D_M_bestEntry_127 rfl ?_
            refine e_if_ne (q := 138) (p' := 131) D_M_bestEntry_128 rfl rfl (fun hc128 => ?_) (fun hc128 => ?_)
            ·
              refine e_iload_1 (p' := 139) D_M_bestEntry_138 rfl ?_
              refine e_iconst (v := nI 1) (p' := 140) D_M_bestEntry_139 cst_iconst_1 rfl ?_
              refine e_icmp_ne (q := 150) (p' := 143) D_M_bestEntry_140 rfl rfl (fun hc140 => ?_) (fun hc140 => ?_)
              ·
                refine e_iload_2 (p' := 151) D_M_bestEntry_150 rfl ?_
                refine e_ireturn (ty := .int) D_M_bestEntry_151 rfl (by first | rfl | exact sBo_nar _) ⟨by decide, by decide⟩ ?_
                unfold Vbest
                rw [if_neg io, ← be, if_neg mz, if_neg (show ¬ w = nI 0 from hc128), if_neg hc140]
                exact ⟨rfl, ⟨Z1, R1⟩, L1.k⟩
              ·
                refine e_iload_3 (p' := 144) D_M_bestEntry_143 rfl ?_
                refine e_bipush (v := nI 6) (p' := 146) D_M_bestEntry_144 cst_bipush_6 rfl ?_
                first | refine e_iremN (p' := 147) D_M_bestEntry_146 (by omega) (by omega) (by omega) rfl ?_ | refine e_irem (p' := 147) D_M_bestEntry_146 (by assumption) rfl ?_
                refine e_goto (p' := 151) D_M_bestEntry_147 rfl ?_
                refine e_ireturn (ty := .int) D_M_bestEntry_151 rfl (by first | rfl | exact sBo_nar _) ⟨by decide, by decide⟩ ?_
                unfold Vbest
                rw [if_neg io, ← be, if_neg mz, if_neg (show ¬ w = nI 0 from hc128), if_pos (by first | exact hc140 | exact Classical.not_not.mp hc140)]
                exact ⟨rfl, ⟨Z1, R1⟩, L1.k⟩
            ·
              refine e_iload_3 (p' := 132) D_M_bestEntry_131 rfl ?_
              refine e_bipush (v := nI 6) (p' := 134) D_M_bestEntry_132 cst_bipush_6 rfl ?_
              first | refine e_idivN (p' := 135) D_M_bestEntry_134 (by omega) (by omega) (by omega) rfl ?_ | refine e_idiv (p' := 135) D_M_bestEntry_134 (by assumption) rfl ?_
              refine e_goto (p' := 151) D_M_bestEntry_135 rfl ?_
              refine e_ireturn (ty := .int) D_M_bestEntry_151 rfl (by first | rfl | exact sBo_nar _) ⟨by decide, by decide⟩ ?_
              unfold Vbest
              rw [if_neg io, ← be, if_neg mz, if_pos (show w = nI 0 by first | exact hc128 | exact Classical.not_not.mp hc128)]
              exact ⟨rfl, ⟨Z1, R1⟩, L1.k⟩
          ·
            exfalso; omega
        · intro i hi ih35 
          have b1 := bst_le (x := st.1) (6 * i)
          refine e_iload_4 (p' := 37) D_M_bestEntry_35 rfl ?_
          refine e_aload_0 (p' := 38) D_M_bestEntry_37 rfl ?_
          refine e_getfield (p' := 41) D_M_bestEntry_38 F_M_7 (by first | assumption | exact sUp_eq | (rw [sUp_ne (by omega)]; assumption) | (rw [sUp_ne (by omega), sUp_ne (by omega)]; assumption) | (rw [sUp_ne (by omega)]; exact sUp_eq) | (rw [gSet_ne (by omega) (by omega)]; first | assumption | exact sUp_eq | (rw [sUp_ne (by omega)]; assumption) | (rw [sUp_ne (by omega), sUp_ne (by omega)]; assumption)) | (rw [sUp_ne (by omega), sUp_ne (by omega), sUp_ne (by omega)]; assumption) | (simp [sUp]; done)) (by rfl) rfl ?_
          refine e_bipush (v := nI 36) (p' := 43) D_M_bestEntry_41 cst_bipush_36 rfl ?_
          refine e_iaload (p' := 44) D_M_bestEntry_43 (by first | assumption | exact sUp_eq | (rw [sUp_ne (by omega)]; assumption) | (rw [sUp_ne (by omega), sUp_ne (by omega)]; assumption) | (rw [sUp_ne (by omega)]; exact sUp_eq) | (rw [gSet_ne (by omega) (by omega)]; first | assumption | exact sUp_eq | (rw [sUp_ne (by omega)]; assumption) | (rw [sUp_ne (by omega), sUp_ne (by omega)]; assumption)) | (rw [sUp_ne (by omega), sUp_ne (by omega), sUp_ne (by omega)]; assumption) | (simp [sUp]; done)) (by omega) (by omega) (by rfl) rfl ?_
          rw [z36]
          refine e_icmpN_ge (q := 127) (p' := 47) D_M_bestEntry_44 (by omega) (by omega) rfl rfl (fun hc44 => ?_) (fun hc44 => ?_)
          ·
            exfalso; omega
          ·
            refine e_iconst (v := nI 0) (p' := 48) D_M_bestEntry_47 cst_iconst_0 rfl ?_
            refine e_istore_5 (p' := 50) D_M_bestEntry_48 (Nat.le_of_ble_eq_true rfl) rfl rfl ?_
            have lk50 : ∀ j : Nat, j ≤ st.1.1.2.1 → sEv l m_M_bestEntry 4 (0, 0, 0, 0) (sKm 0 0 (fun r1 h1 => r1 = some (.int (Vbest st.1 w)) ∧ (MR h st) h1)) 50 [some (.ref 61), some (.int w), some (.int (nI (bst st.1 (6 * i + j)).2)), some (.int (bI (bst st.1 (6 * i + j)))), some (.int (nI i)), some (.int (nI j)), none] [] (h1) := by
              refine lp_up _ ?_ ?_
              · skip
                have b2 := bst_le (x := st.1) (6 * i + (st.1.1.2.1))
                have b3 := gn_le (s := (lay st.1).1) (r := i) (c := (st.1.1.2.1))
                have s2 := hx.small i (st.1.1.2.1)
                have q1 := (lay_b hx i).1
                have q2 := (lay_b hx (st.1.1.2.1)).2
                refine e_iload_5 (p' := 52) D_M_bestEntry_50 rfl ?_
                refine e_aload_0 (p' := 53) D_M_bestEntry_52 rfl ?_
                refine e_getfield (p' := 56) D_M_bestEntry_53 F_M_7 (by first | assumption | exact sUp_eq | (rw [sUp_ne (by omega)]; assumption) | (rw [sUp_ne (by omega), sUp_ne (by omega)]; assumption) | (rw [sUp_ne (by omega)]; exact sUp_eq) | (rw [gSet_ne (by omega) (by omega)]; first | assumption | exact sUp_eq | (rw [sUp_ne (by omega)]; assumption) | (rw [sUp_ne (by omega), sUp_ne (by omega)]; assumption)) | (rw [sUp_ne (by omega), sUp_ne (by omega), sUp_ne (by omega)]; assumption) | (simp [sUp]; done)) (by rfl) rfl ?_
                refine e_bipush (v := nI 37) (p' := 58) D_M_bestEntry_56 cst_bipush_37 rfl ?_
                refine e_iaload (p' := 59) D_M_bestEntry_58 (by first | assumption | exact sUp_eq | (rw [sUp_ne (by omega)]; assumption) | (rw [sUp_ne (by omega), sUp_ne (by omega)]; assumption) | (rw [sUp_ne (by omega)]; exact sUp_eq) | (rw [gSet_ne (by omega) (by omega)]; first | assumption | exact sUp_eq | (rw [sUp_ne (by omega)]; assumption) | (rw [sUp_ne (by omega), sUp_ne (by omega)]; assumption)) | (rw [sUp_ne (by omega), sUp_ne (by omega), sUp_ne (by omega)]; assumption) | (simp [sUp]; done)) (by omega) (by omega) (by rfl) rfl ?_
                rw [z37]
                refine e_icmpN_ge (q := 121) (p' := 62) D_M_bestEntry_59 (by omega) (by omega) rfl rfl (fun hc59 => ?_) (fun hc59 => ?_)
                ·
                  first | refine e_iincN_4 (n := 1) (p' := 124) D_M_bestEntry_121 (Nat.le_of_ble_eq_true rfl) rfl rfl ?_ | refine e_iinc_4 (p' := 124) D_M_bestEntry_121 (Nat.le_of_ble_eq_true rfl) rfl rfl rfl ?_
                  refine e_goto (p' := 35) D_M_bestEntry_124 rfl ?_
                  refine sEv.castW (ih35) ?_ ?_ ?_
                  · rw [show bst st.1 (6 * (i + 1)) = bst st.1 (6 * i + st.1.1.2.1) from bst_skip (by omega) (fun k h1 h2 => by omega)]; exact ⟨rfl, rfl, rfl, rfl, rfl, trivial⟩
                  · rfl
                  · first | rfl | (simp; done)
                ·
                  exfalso; omega
              · intro j hj ih50 
                have b2 := bst_le (x := st.1) (6 * i + j)
                have b3 := gn_le (s := (lay st.1).1) (r := i) (c := j)
                have s2 := hx.small i j
                have q1 := (lay_b hx i).1
                have q2 := (lay_b hx j).2
                refine e_iload_5 (p' := 52) D_M_bestEntry_50 rfl ?_
                refine e_aload_0 (p' := 53) D_M_bestEntry_52 rfl ?_
                refine e_getfield (p' := 56) D_M_bestEntry_53 F_M_7 (by first | assumption | exact sUp_eq | (rw [sUp_ne (by omega)]; assumption) | (rw [sUp_ne (by omega), sUp_ne (by omega)]; assumption) | (rw [sUp_ne (by omega)]; exact sUp_eq) | (rw [gSet_ne (by omega) (by omega)]; first | assumption | exact sUp_eq | (rw [sUp_ne (by omega)]; assumption) | (rw [sUp_ne (by omega), sUp_ne (by omega)]; assumption)) | (rw [sUp_ne (by omega), sUp_ne (by omega), sUp_ne (by omega)]; assumption) | (simp [sUp]; done)) (by rfl) rfl ?_
                refine e_bipush (v := nI 37) (p' := 58) D_M_bestEntry_56 cst_bipush_37 rfl ?_
                refine e_iaload (p' := 59) D_M_bestEntry_58 (by first | assumption | exact sUp_eq | (rw [sUp_ne (by omega)]; assumption) | (rw [sUp_ne (by omega), sUp_ne (by omega)]; assumption) | (rw [sUp_ne (by omega)]; exact sUp_eq) | (rw [gSet_ne (by omega) (by omega)]; first | assumption | exact sUp_eq | (rw [sUp_ne (by omega)]; assumption) | (rw [sUp_ne (by omega), sUp_ne (by omega)]; assumption)) | (rw [sUp_ne (by omega), sUp_ne (by omega), sUp_ne (by omega)]; assumption) | (simp [sUp]; done)) (by omega) (by omega) (by rfl) rfl ?_
                rw [z37]
                refine e_icmpN_ge (q := 121) (p' := 62) D_M_bestEntry_59 (by omega) (by omega) rfl rfl (fun hc59 => ?_) (fun hc59 => ?_)
                ·
                  exfalso; omega
                ·
                  refine e_aload_0 (p' := 63) D_M_bestEntry_62 rfl ?_
                  refine e_iload_4 (p' := 65) D_M_bestEntry_63 rfl ?_
                  refine e_iload_5 (p' := 67) D_M_bestEntry_65 rfl ?_
                  refine x_callV1 (p' := 70) D_M_bestEntry_67 V_M_67 (c_M_at m1 Z1 hx (by omega) (by omega)) rfl (by first | assumption | exact sUp_eq | (rw [sUp_ne (by omega)]; assumption) | (rw [sUp_ne (by omega), sUp_ne (by omega)]; assumption) | (rw [sUp_ne (by omega)]; exact sUp_eq) | (rw [gSet_ne (by omega) (by omega)]; first | assumption | exact sUp_eq | (rw [sUp_ne (by omega)]; assumption) | (rw [sUp_ne (by omega), sUp_ne (by omega)]; assumption)) | (rw [sUp_ne (by omega), sUp_ne (by omega), sUp_ne (by omega)]; assumption) | (simp [sUp]; done)) rfl (Nat.le_of_ble_eq_true rfl) (by decide) ⟨by decide, by decide⟩ rfl ?_
                  refine e_ifN_le (q := 77) (p' := 73) D_M_bestEntry_70 (by omega) rfl rfl (fun hc70 => ?_) (fun hc70 => ?_)
                  ·
                    refine e_aload_0 (p' := 78) D_M_bestEntry_77 rfl ?_
                    refine e_aload_0 (p' := 79) D_M_bestEntry_78 rfl ?_
                    refine e_getfield (p' := 82) D_M_bestEntry_79 F_M_27 (by first | assumption | exact sUp_eq | (rw [sUp_ne (by omega)]; assumption) | (rw [sUp_ne (by omega), sUp_ne (by omega)]; assumption) | (rw [sUp_ne (by omega)]; exact sUp_eq) | (rw [gSet_ne (by omega) (by omega)]; first | assumption | exact sUp_eq | (rw [sUp_ne (by omega)]; assumption) | (rw [sUp_ne (by omega), sUp_ne (by omega)]; assumption)) | (rw [sUp_ne (by omega), sUp_ne (by omega), sUp_ne (by omega)]; assumption) | (simp [sUp]; done)) (by rfl) rfl ?_
                    refine e_iload_4 (p' := 84) D_M_bestEntry_82 rfl ?_
                    refine e_iaload (p' := 85) D_M_bestEntry_84 (by first | assumption | exact sUp_eq | (rw [sUp_ne (by omega)]; assumption) | (rw [sUp_ne (by omega), sUp_ne (by omega)]; assumption) | (rw [sUp_ne (by omega)]; exact sUp_eq) | (rw [gSet_ne (by omega) (by omega)]; first | assumption | exact sUp_eq | (rw [sUp_ne (by omega)]; assumption) | (rw [sUp_ne (by omega), sUp_ne (by omega)]; assumption)) | (rw [sUp_ne (by omega), sUp_ne (by omega), sUp_ne (by omega)]; assumption) | (simp [sUp]; done)) (by omega) (by omega) (by rfl) rfl ?_
                    refine e_aload_0 (p' := 86) D_M_bestEntry_85 rfl ?_
                    refine e_getfield (p' := 89) D_M_bestEntry_86 F_M_30 (by first | assumption | exact sUp_eq | (rw [sUp_ne (by omega)]; assumption) | (rw [sUp_ne (by omega), sUp_ne (by omega)]; assumption) | (rw [sUp_ne (by omega)]; exact sUp_eq) | (rw [gSet_ne (by omega) (by omega)]; first | assumption | exact sUp_eq | (rw [sUp_ne (by omega)]; assumption) | (rw [sUp_ne (by omega), sUp_ne (by omega)]; assumption)) | (rw [sUp_ne (by omega), sUp_ne (by omega), sUp_ne (by omega)]; assumption) | (simp [sUp]; done)) (by rfl) rfl ?_
                    refine e_iload_5 (p' := 91) D_M_bestEntry_89 rfl ?_
                    refine e_iaload (p' := 92) D_M_bestEntry_91 (by first | assumption | exact sUp_eq | (rw [sUp_ne (by omega)]; assumption) | (rw [sUp_ne (by omega), sUp_ne (by omega)]; assumption) | (rw [sUp_ne (by omega)]; exact sUp_eq) | (rw [gSet_ne (by omega) (by omega)]; first | assumption | exact sUp_eq | (rw [sUp_ne (by omega)]; assumption) | (rw [sUp_ne (by omega), sUp_ne (by omega)]; assumption)) | (rw [sUp_ne (by omega), sUp_ne (by omega), sUp_ne (by omega)]; assumption) | (simp [sUp]; done)) (by omega) (by omega) (by rfl) rfl ?_
                    have z1 := lk.1 i (by omega)
                    have z2 := lk.2 j (by omega)
                    rw [(PV i (by omega)).1.1, (PV j (by omega)).1.2, show pJ ((lay st.1).1.1.1 i) = nI ((lay st.1).1.1.1 i - 1) from if_neg z1, show pJ ((lay st.1).1.1.2 j) = nI ((lay st.1).1.1.2 j - 1) from if_neg z2]
                    refine x_callV1 (p' := 95) D_M_bestEntry_92 V_M_181 (c_M_gain m1 Z1 hx P1 (p := (lay st.1).1.1.1 i - 1) (q := (lay st.1).1.1.2 j - 1) (by omega) (by omega)) rfl (by first | assumption | exact sUp_eq | (rw [sUp_ne (by omega)]; assumption) | (rw [sUp_ne (by omega), sUp_ne (by omega)]; assumption) | (rw [sUp_ne (by omega)]; exact sUp_eq) | (rw [gSet_ne (by omega) (by omega)]; first | assumption | exact sUp_eq | (rw [sUp_ne (by omega)]; assumption) | (rw [sUp_ne (by omega), sUp_ne (by omega)]; assumption)) | (rw [sUp_ne (by omega), sUp_ne (by omega), sUp_ne (by omega)]; assumption) | (simp [sUp]; done)) rfl (Nat.le_of_ble_eq_true rfl) (by decide) ⟨by decide, by decide⟩ rfl ?_
                    rw [gn_P z1 z2]
                    refine e_istore_6 (p' := 97) D_M_bestEntry_95 (Nat.le_of_ble_eq_true rfl) rfl rfl ?_
                    refine e_iload_6 (p' := 99) D_M_bestEntry_97 rfl ?_
                    refine e_iload_2 (p' := 100) D_M_bestEntry_99 rfl ?_
                    refine e_icmpN_le (q := 115) (p' := 103) D_M_bestEntry_100 (by omega) (by omega) rfl rfl (fun hc100 => ?_) (fun hc100 => ?_)
                    ·
                      first | refine e_iincN_5 (n := 1) (p' := 118) D_M_bestEntry_115 (Nat.le_of_ble_eq_true rfl) rfl rfl ?_ | refine e_iinc_5 (p' := 118) D_M_bestEntry_115 (Nat.le_of_ble_eq_true rfl) rfl rfl rfl ?_
                      refine e_goto (p' := 50) D_M_bestEntry_118 rfl ?_
                      refine sEv.castW (ih50) ?_ ?_ ?_
                      · rw [bst_no (by omega) hc100]; exact ⟨rfl, rfl, rfl, rfl, rfl, rfl, trivial⟩
                      · rfl
                      · first | rfl | (simp; done)
                    ·
                      refine e_iload_6 (p' := 105) D_M_bestEntry_103 rfl ?_
                      refine e_istore_2 (p' := 106) D_M_bestEntry_105 (Nat.le_of_ble_eq_true rfl) rfl rfl ?_
                      refine e_bipush (v := nI 6) (p' := 108) D_M_bestEntry_106 cst_bipush_6 rfl ?_
                      refine e_iload_4 (p' := 110) D_M_bestEntry_108 rfl ?_
                      first | refine e_imulN (p' := 111) D_M_bestEntry_110 rfl ?_ | refine e_imul (p' := 111) D_M_bestEntry_110 rfl ?_
                      refine e_iload_5 (p' := 113) D_M_bestEntry_111 rfl ?_
                      first | refine e_iaddN (p' := 114) D_M_bestEntry_113 rfl ?_ | refine e_iadd (p' := 114) D_M_bestEntry_113 rfl ?_
                      refine e_istore_3 (p' := 115) D_M_bestEntry_114 (Nat.le_of_ble_eq_true rfl) rfl rfl ?_
                      first | refine e_iincN_5 (n := 1) (p' := 118) D_M_bestEntry_115 (Nat.le_of_ble_eq_true rfl) rfl rfl ?_ | refine e_iinc_5 (p' := 118) D_M_bestEntry_115 (Nat.le_of_ble_eq_true rfl) rfl rfl rfl ?_
                      refine e_goto (p' := 50) D_M_bestEntry_118 rfl ?_
                      refine sEv.castW (ih50) ?_ ?_ ?_
                      · rw [bst_go (by omega) (by omega) (by omega) hc100]
                        refine ⟨rfl, rfl, rfl, ?_, rfl, rfl, trivial⟩
                        unfold bI
                        rw [if_neg (show ¬ gn (lay st.1).1 i j = 0 by omega)]
                      · rfl
                      · first | rfl | (simp; done)
                  ·
                    refine e_iconst (v := nI 0) (p' := 74) D_M_bestEntry_73 cst_iconst_0 rfl ?_
                    refine e_goto (p' := 95) D_M_bestEntry_74 rfl ?_
                    refine e_istore_6 (p' := 97) D_M_bestEntry_95 (Nat.le_of_ble_eq_true rfl) rfl rfl ?_
                    refine e_iload_6 (p' := 99) D_M_bestEntry_97 rfl ?_
                    refine e_iload_2 (p' := 100) D_M_bestEntry_99 rfl ?_
                    refine e_icmpN_le (q := 115) (p' := 103) D_M_bestEntry_100 (by omega) (by omega) rfl rfl (fun hc100 => ?_) (fun hc100 => ?_)
                    ·
                      first | refine e_iincN_5 (n := 1) (p' := 118) D_M_bestEntry_115 (Nat.le_of_ble_eq_true rfl) rfl rfl ?_ | refine e_iinc_5 (p' := 118) D_M_bestEntry_115 (Nat.le_of_ble_eq_true rfl) rfl rfl rfl ?_
                      refine e_goto (p' := 50) D_M_bestEntry_118 rfl ?_
                      refine sEv.castW (ih50) ?_ ?_ ?_
                      · rw [bst_no (by omega) (by rw [gn_td hx (by omega) (by omega) (td_true (by omega))]; exact Nat.zero_le _)]; exact ⟨rfl, rfl, rfl, rfl, rfl, rfl, trivial⟩
                      · rfl
                      · first | rfl | (simp; done)
                    ·
                      exfalso; omega
            refine sEv.castW (lk50 0 (by omega) ) ?_ ?_ ?_
            · exact ⟨rfl, rfl, rfl, rfl, rfl, rfl, trivial⟩
            · rfl
            · first | rfl | (simp; done)
      refine sEv.castW (lk35 0 (by omega) ) ?_ ?_ ?_
      · rw [show bst st.1 (6 * 0) = (0, 0) from rfl]; exact ⟨rfl, rfl, rfl, rfl, rfl, trivial⟩
      · rfl
      · first | rfl | (simp; done)
    ·
      refine e_bipush (v := (-6)) (p' := 26) D_M_bestEntry_24 cst_bipush_m6 rfl ?_
      refine e_ireturn (ty := .int) D_M_bestEntry_26 rfl (by first | rfl | exact sBo_nar _) ⟨by decide, by decide⟩ ?_
      unfold Vbest; rw [if_neg (by simpa using hc6), if_pos ((bst_one hx).mpr (by omega))]; exact ⟨rfl, ⟨Z1, R1⟩, L1.k⟩
  ·
    refine e_bipush (v := (-2)) (p' := 11) D_M_bestEntry_9 cst_bipush_m2 rfl ?_
    refine e_ireturn (ty := .int) D_M_bestEntry_11 rfl (by first | rfl | exact sBo_nar _) ⟨by decide, by decide⟩ ?_
    unfold Vbest; rw [if_pos (by simpa using hc6)]; exact ⟨rfl, hI0, FrK.rf⟩
