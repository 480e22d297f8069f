/-! ===== the reference: goCycles, cycles, wrong ===== -/
theorem okP_nil : okP [] := ⟨fun i j h _ => absurd h (Nat.not_lt_zero _), fun i j h _ => absurd h (Nat.not_lt_zero _)⟩
theorem acc_0 : AccIs (0, 0, 0, 0) (fun _ => 0) := ⟨rfl, rfl, fun _ _ _ => rfl, fun z => absurd rfl z⟩
abbrev CyQ (h : sH) (x : Gd) (n t : Nat) (pm wl rr rc : Int32) (k : Nat) (h1 : sH) : Prop := ∃ a, CyA h1 n t pm wl rr rc a ∧ AccIs a (fun φ => DD x (Gh x k φ) (2 * k) []) ∧ (∃ f, h1.2 72 = iA 12 f) ∧ FrC h h1
theorem MRest.cy {h h1 : sH} {s : Mr} (H : MRest h s) (hv : ∃ v, h1.2 61 = mO s.1.1 s.2.2.1 v) (hr : ∃ f, h1.2 72 = iA 12 f) (ff : FrC h h1) : MRest h1 s := by
  obtain ⟨_, ⟨f, a2, b2⟩, ⟨f3, a3, b3⟩, ⟨f4, a4, b4⟩, ⟨f5, a5, b5⟩, ⟨f6, f7, f8, f9, a6, a7, a8, a9⟩, ⟨f10, a10⟩, _, ⟨f12, a12⟩⟩ := H
  have kk : ∀ a, a ≠ 61 → a ≠ 72 → h1.2 a = h.2 a := ff
  exact ⟨hv, ⟨f, (kk _ (by omega) (by omega)).trans a2, b2⟩, ⟨f3, (kk _ (by omega) (by omega)).trans a3, b3⟩, ⟨f4, (kk _ (by omega) (by omega)).trans a4, b4⟩, ⟨f5, (kk _ (by omega) (by omega)).trans a5, b5⟩, ⟨f6, f7, f8, f9, (kk _ (by omega) (by omega)).trans a6, (kk _ (by omega) (by omega)).trans a7, (kk _ (by omega) (by omega)).trans a8, (kk _ (by omega) (by omega)).trans a9⟩, ⟨f10, (kk _ (by omega) (by omega)).trans a10⟩, hr, ⟨f12, (kk _ (by omega) (by omega)).trans a12⟩⟩
theorem FrC.k {h h1 : sH} (f : FrC h h1) : FrK h h1 := fun a ha => f a (by omega) (by omega)
theorem cyc_0 {x : Gd} (hx : Gok x) {k : Nat} (hk : 2 ≤ k) : cyc x false k = DD x (Gh x k one) (2 * k) [] := by
  unfold cyc
  rw [if_neg (by decide), Tot_2 hx ⟨ph_one, Or.inr (fun _ _ _ _ => rfl)⟩ hk]
  omega
theorem Tot_w {x : Gd} (hx : Gok x) {k : Nat} (hk : 2 ≤ k) {φ : Ph} (h : PhOk φ) : Tot x (x.1.2.2 - 1) k φ = 2 * DD x (Gh x k φ) (2 * k) [] := Tot_2 hx ⟨h, Or.inl (by have := hx.2.2.1.le; omega)⟩ hk
theorem cyc_1 {x : Gd} (hx : Gok x) {k : Nat} (hk : 2 ≤ k) : cyc x true k = DD x (Gh x k wrg) (2 * k) [] := by
  unfold cyc
  rw [if_pos rfl, Tot_w hx hk ph_wrg]
  omega
theorem swF_0 {x : Gd} (hx : Gok x) (hw : wellX x = true) : ∀ n k, 2 ≤ k → swF x n k = 0 := by
  intro n
  induction n with
  | zero => intro k _; rfl
  | succ n ih =>
    intro k hk
    rw [swF, if_neg (by rw [Tot_w hx hk ph_wrg, DD_zero hx hw hk]; omega)]
    exact ih (k + 1) (by omega)
theorem sw_swF {x : Gd} (hx : Gok x) : sw x = swF x 5 2 := by
  unfold sw
  by_cases hw : wellX x = true
  · rw [if_pos hw, swF_0 hx hw _ _ (by omega)]
  · rw [if_neg hw]
theorem lw_tot {x : Gd} (hx : Gok x) {k : Nat} (hk : 2 ≤ k) {a : Ac} (AI : AccIs a (fun φ => DD x (Gh x k φ) (2 * k) [])) (nz : a.2.1 ≠ 0) : lw (Tot x (x.1.2.2 - 1) k) = (a.2.2.1, a.2.2.2) := by
  have h := AI.2.2.2 nz
  refine lw_eq ⟨?_, fun r' c' hh => ?_⟩
  · rw [Tot_w hx hk ph_wky]
    have h1 : DD x (Gh x k (wky a.2.2.1 a.2.2.2)) (2 * k) [] ≠ 0 := h.1
    omega
  · rw [Tot_w hx hk ph_wky]
    have h1 : DD x (Gh x k (wky r' c')) (2 * k) [] = 0 := h.2 r' c' hh
    omega
set_option maxRecDepth 4000 in
theorem c_M_goCycles {l : Launch} {h : sH} {x : Gd} {n t : Nat} {pm wl ac wk wr wc rr rc : Int32} (hm : h.2 61 = mO n t (pm, wl, ac, wk, wr, wc, rr, rc)) (hz : h.2 62 = iA 39 (nF (zN x))) (hx : Gok x) {k : Nat} (hk : 2 ≤ k) (hk6 : k ≤ 6) (hr : ∃ f, h.2 72 = iA 12 f) : sY l m_M_goCycles 3 [.ref 61, .int (nI (2 * k))] h (none) (CyQ h x n t pm wl rr rc k) := by
  obtain ⟨f, hf⟩ := hr
  refine en_M_goCycles ?_
  have hbw := DD_wrg hx hk hk6
  have e2k : 2 * k = 2 * k - 1 + 1 := by omega
  have fin19 : ∀ (h2 : sH) (a2 : Ac), CyA h2 n t pm wl rr rc a2 → CyP h2 [] → FrC h h2 → AccIs a2 (fun φ => 0 + RS x k φ [] (2 * k - 1) 0 (mo x 0)) → sEv l m_M_goCycles 3 (0, 0, 0, 0) (sKm 0 0 (fun r1 h1 => r1 = none ∧ (CyQ h x n t pm wl rr rc k) h1)) 19 [some (.ref 61), some (.int (nI (2 * k))), some (.int (pI 0)), none] [] h2 := by
    intro h2 a2 c1 ⟨f2, g1, g2⟩ c3 c4
    have c5 : AccIs a2 (fun φ => DD x (Gh x k φ) (2 * k) []) := c4.congr fun φ => by
      rw [Nat.zero_add, show mo x 0 = mo x ([] : List Nat).length from rfl, RS_0, ← e2k]
    refine e_iload_2 (p' := 20) D_M_goCycles_19 rfl ?_
    refine e_if_lt (q := 172) (p' := 23) D_M_goCycles_20 rfl rfl (fun hc20 => ?_) (fun hc20 => ?_)
    ·
      refine e_return D_M_goCycles_172 rfl ⟨by decide, by decide⟩ ?_
      exact ⟨rfl, a2, c1, c5, ⟨f2, g1⟩, c3⟩
    ·
      exact absurd (by decide) hc20
  have base : ∀ (h1 : sH) (f1 : Nat → Int32), h1.2 61 = mO n t (pm, wl, nI 0, nI 0, wr, wc, rr, rc) → h1.2 72 = iA 12 f1 → f1 0 = -1 → FrC h h1 → sEv l m_M_goCycles 3 (0, 0, 0, 0) (sKm 0 0 (fun r1 h1 => r1 = none ∧ (CyQ h x n t pm wl rr rc k) h1)) 19 [some (.ref 61), some (.int (nI (2 * k))), some (.int (nI 0)), none] [] h1 := by
    intro h1 f1 b1 b2 b3 b4
    refine go_19 (q := []) (w := 0) b1 ((b4 62 (by omega) (by omega)).trans hz) hx (by decide) (by omega) b2 b3 ?_
    refine go_57 (h0 := h) (wl := wl) (pm := pm) (rr := rr) (rc := rc) (n := n) (t := t) hx hk hk6 hz (2 * k - 1) [] (by rw [← e2k]; exact Nat.zero_add _) (fun v hv => nomatch hv) okP_nil (mo x 0) 0 (Nat.zero_add _) _ (0, 0, 0, 0) (fun _ => 0) ?_ (CyR.put (q := []) (fun j hj => absurd hj (Nat.not_lt_zero _))) b4.up acc_0 ?_ fin19
    · exact ⟨wr, wc, (sUp_ne (by omega)).trans b1, fun z => absurd rfl z, by decide, by decide⟩
    · show 0 + RS x k wrg [] (2 * k - 1) 0 (mo x ([] : List Nat).length) < 2 ^ 30
      rw [RS_0, ← e2k]
      omega
  refine e_aload_0 (p' := 1) D_M_goCycles_0 rfl ?_
  refine e_iconst (v := nI 0) (p' := 2) D_M_goCycles_1 cst_iconst_0 rfl ?_
  refine e_putfield (p' := 5) D_M_goCycles_2 F_M_140 (Or.inl rfl) (by first | assumption | exact sUp_eq | (rw [sUp_ne (by omega)]; assumption) | (rw [sUp_ne (by omega), sUp_ne (by omega)]; assumption) | (rw [sUp_ne (by omega)]; exact sUp_eq) | (rw [gSet_ne (by omega) (by omega)]; first | assumption | exact sUp_eq | (rw [sUp_ne (by omega)]; assumption) | (rw [sUp_ne (by omega), sUp_ne (by omega)]; assumption)) | (rw [sUp_ne (by omega), sUp_ne (by omega), sUp_ne (by omega)]; assumption) | (simp [sUp]; done)) (fun _ => ⟨rfl, rfl⟩) (Nat.le_of_ble_eq_true rfl) (by rfl) rfl ?_
  try dsimp only [List.set]
  refine e_aload_0 (p' := 6) D_M_goCycles_5 rfl ?_
  refine e_iconst (v := nI 0) (p' := 7) D_M_goCycles_6 cst_iconst_0 rfl ?_
  refine e_putfield (p' := 10) D_M_goCycles_7 F_M_147 (Or.inl rfl) (by first | assumption | exact sUp_eq | (rw [sUp_ne (by omega)]; assumption) | (rw [sUp_ne (by omega), sUp_ne (by omega)]; assumption) | (rw [sUp_ne (by omega)]; exact sUp_eq) | (rw [gSet_ne (by omega) (by omega)]; first | assumption | exact sUp_eq | (rw [sUp_ne (by omega)]; assumption) | (rw [sUp_ne (by omega), sUp_ne (by omega)]; assumption)) | (rw [sUp_ne (by omega), sUp_ne (by omega), sUp_ne (by omega)]; assumption) | (simp [sUp]; done)) (fun _ => ⟨rfl, rfl⟩) (Nat.le_of_ble_eq_true rfl) (by rfl) rfl ?_
  try dsimp only [List.set]
  refine e_iconst (v := nI 0) (p' := 11) D_M_goCycles_10 cst_iconst_0 rfl ?_
  refine e_istore_2 (p' := 12) D_M_goCycles_11 (Nat.le_of_ble_eq_true rfl) rfl rfl ?_
  refine e_aload_0 (p' := 13) D_M_goCycles_12 rfl ?_
  refine e_getfield (p' := 16) D_M_goCycles_13 F_M_42 (by first | assumption | exact sUp_eq | (rw [sUp_ne (by omega)]; assumption) | (rw [sUp_ne (by omega), sUp_ne (by omega)]; assumption) | (rw [sUp_ne (by omega)]; exact sUp_eq) | (rw [gSet_ne (by omega) (by omega)]; first | assumption | exact sUp_eq | (rw [sUp_ne (by omega)]; assumption) | (rw [sUp_ne (by omega), sUp_ne (by omega)]; assumption)) | (rw [sUp_ne (by omega), sUp_ne (by omega), sUp_ne (by omega)]; assumption) | (simp [sUp]; done)) (by rfl) rfl ?_
  refine e_iconst (v := nI 0) (p' := 17) D_M_goCycles_16 cst_iconst_0 rfl ?_
  refine e_iconst (v := (-1)) (p' := 18) D_M_goCycles_17 cst_iconst_m1 rfl ?_
  refine e_iastore (p' := 19) D_M_goCycles_18 (by first | assumption | exact sUp_eq | (rw [sUp_ne (by omega)]; assumption) | (rw [sUp_ne (by omega), sUp_ne (by omega)]; assumption) | (rw [sUp_ne (by omega)]; exact sUp_eq) | (rw [gSet_ne (by omega) (by omega)]; first | assumption | exact sUp_eq | (rw [sUp_ne (by omega)]; assumption) | (rw [sUp_ne (by omega), sUp_ne (by omega)]; assumption)) | (rw [sUp_ne (by omega), sUp_ne (by omega), sUp_ne (by omega)]; assumption) | (simp [sUp]; done)) (by omega) (by omega) rfl ?_
  refine sEv.castW (base (sUp (sUp (sUp h 61 (mO n t (pm, wl, nI 0, wk, wr, wc, rr, rc))) 61 (mO n t (pm, wl, nI 0, nI 0, wr, wc, rr, rc))) 72 (iA 12 (upd f 0 (-1)))) (upd f 0 (-1)) ((sUp_ne (by omega)).trans sUp_eq) sUp_eq upd_at (fun b n1 n2 => (sUp_ne n2).trans ((sUp_ne n1).trans (sUp_ne n1))) ) ?_ ?_ ?_
  · exact ⟨rfl, rfl, rfl, trivial⟩
  · rfl
  · first | rfl | (simp; done)
theorem w1 {w : Int32} (h : (!isOut w (nI 0) (nI 1)) = true) (h0 : ¬ w = 0) : w = nI 1 := by
  obtain ⟨k, k1, k2, rfl⟩ := in_R (a := 0) (b := 1) (by omega) (by omega) (by simpa using h)
  have : k = 0 ∨ k = 1 := by omega
  rcases this with rfl | rfl
  · exact absurd rfl h0
  · rfl
set_option maxRecDepth 4000 in
theorem c_M_cycles {l : Launch} {h : sH} {st : St} (hI : MInv h st) (hS : StOk st) {n w : Int32} : sY l m_M_cycles 4 [.ref 61, .int n, .int w] h (some (.int (Vcycles st.1 n w))) (MR h st) := by
  have hI0 := hI
  obtain ⟨hz, H⟩ := hI
  have H0 := H
  have hx := hS.1
  have hM := hx.2.2.1.le
  have hRr := hx.1
  have hCc := hx.2.1
  have hh6 := hS.2.1.1
  obtain ⟨⟨v, a1⟩, ⟨f, a2, b2⟩, ⟨f3, a3, b3⟩, ⟨f4, a4, b4⟩, ⟨f5, a5, b5⟩, ⟨f6, f7, f8, f9, a6, a7, a8, a9⟩, ⟨f10, a10⟩, ⟨f11, a11⟩, ⟨f12, a12⟩⟩ := H
  obtain ⟨pm, wl, ac, wk, wr, wc, rr, rc⟩ := v
  refine en_M_cycles ?_
  refine e_iload_1 (p' := 1) D_M_cycles_0 rfl ?_
  refine e_iconst (v := nI 4) (p' := 2) D_M_cycles_1 cst_iconst_4 rfl ?_
  refine e_bipush (v := nI 12) (p' := 4) D_M_cycles_2 cst_bipush_12 rfl ?_
  refine x_callS1 (p' := 7) D_M_cycles_4 S_M_52 (c_M_in) rfl rfl (Nat.le_of_ble_eq_true rfl) (by decide) ⟨by decide, by decide⟩ rfl ?_
  refine e_ifB_eq (q := 26) (p' := 10) D_M_cycles_7 rfl rfl (fun hc7 => ?_) (fun hc7 => ?_)
  ·
    refine e_bipush (v := (-2)) (p' := 28) D_M_cycles_26 cst_bipush_m2 rfl ?_
    refine e_ireturn (ty := .int) D_M_cycles_28 rfl (by first | rfl | exact sBo_nar _) ⟨by decide, by decide⟩ ?_
    unfold Vcycles; rw [if_pos (Or.inl (by simpa using hc7))]; exact ⟨rfl, hI0, FrK.rf⟩
  ·
    obtain ⟨kn, k4, k12, rfl⟩ := in_R (a := 4) (b := 12) (by omega) (by omega) (by simpa using hc7)
    refine e_iload_1 (p' := 11) D_M_cycles_10 rfl ?_
    refine e_iconst (v := nI 2) (p' := 12) D_M_cycles_11 cst_iconst_2 rfl ?_
    first | refine e_iremN (p' := 13) D_M_cycles_12 (by omega) (by omega) (by omega) rfl ?_ | refine e_irem (p' := 13) D_M_cycles_12 (by assumption) rfl ?_
    refine e_iconst (v := nI 1) (p' := 14) D_M_cycles_13 cst_iconst_1 rfl ?_
    refine e_icmpN_eq (q := 26) (p' := 17) D_M_cycles_14 (by omega) (by omega) rfl rfl (fun hc14 => ?_) (fun hc14 => ?_)
    ·
      refine e_bipush (v := (-2)) (p' := 28) D_M_cycles_26 cst_bipush_m2 rfl ?_
      refine e_ireturn (ty := .int) D_M_cycles_28 rfl (by first | rfl | exact sBo_nar _) ⟨by decide, by decide⟩ ?_
      unfold Vcycles; rw [if_pos (Or.inr (Or.inl (by rw [and1 _ (by omega), nI_eq (by omega) (by omega)]; omega)))]; exact ⟨rfl, hI0, FrK.rf⟩
    ·
      refine e_iload_2 (p' := 18) D_M_cycles_17 rfl ?_
      refine e_iconst (v := nI 0) (p' := 19) D_M_cycles_18 cst_iconst_0 rfl ?_
      refine e_iconst (v := nI 1) (p' := 20) D_M_cycles_19 cst_iconst_1 rfl ?_
      refine x_callS1 (p' := 23) D_M_cycles_20 S_M_52 (c_M_in) rfl rfl (Nat.le_of_ble_eq_true rfl) (by decide) ⟨by decide, by decide⟩ rfl ?_
      refine e_ifB_ne (q := 29) (p' := 26) D_M_cycles_23 rfl rfl (fun hc23 => ?_) (fun hc23 => ?_)
      ·
        obtain ⟨k0, rfl⟩ : ∃ k0, kn = 2 * k0 := ⟨kn / 2, by omega⟩
        refine e_aload_0 (p' := 30) D_M_cycles_29 rfl ?_
        refine e_iload_1 (p' := 31) D_M_cycles_30 rfl ?_
        refine y_callV0 (p' := 34) D_M_cycles_31 V_M_162 (c_M_goCycles (k := k0) a1 hz hx (by omega) (by omega) ⟨f11, a11⟩) rfl (by first | assumption | exact sUp_eq | (rw [sUp_ne (by omega)]; assumption) | (rw [sUp_ne (by omega), sUp_ne (by omega)]; assumption) | (rw [sUp_ne (by omega)]; exact sUp_eq) | (rw [gSet_ne (by omega) (by omega)]; first | assumption | exact sUp_eq | (rw [sUp_ne (by omega)]; assumption) | (rw [sUp_ne (by omega), sUp_ne (by omega)]; assumption)) | (rw [sUp_ne (by omega), sUp_ne (by omega), sUp_ne (by omega)]; assumption) | (simp [sUp]; done)) rfl (Nat.le_of_ble_eq_true rfl) (by decide) ⟨by decide, by decide⟩ rfl ?_
        rintro h1 ⟨a, CA, AI, RF, FC⟩
        obtain ⟨wr2, wc2, m1, hw2, hlt⟩ := id CA
        refine e_iload_2 (p' := 35) D_M_cycles_34 rfl ?_
        refine e_if_ne (q := 45) (p' := 38) D_M_cycles_35 rfl rfl (fun hc35 => ?_) (fun hc35 => ?_)
        ·
          refine e_aload_0 (p' := 46) D_M_cycles_45 rfl ?_
          refine e_getfield (p' := 49) D_M_cycles_46 F_M_147 (by first | assumption | exact sUp_eq | (rw [sUp_ne (by omega)]; assumption) | (rw [sUp_ne (by omega), sUp_ne (by omega)]; assumption) | (rw [sUp_ne (by omega)]; exact sUp_eq) | (rw [gSet_ne (by omega) (by omega)]; first | assumption | exact sUp_eq | (rw [sUp_ne (by omega)]; assumption) | (rw [sUp_ne (by omega), sUp_ne (by omega)]; assumption)) | (rw [sUp_ne (by omega), sUp_ne (by omega), sUp_ne (by omega)]; assumption) | (simp [sUp]; done)) (by rfl) rfl ?_
          refine e_ireturn (ty := .int) D_M_cycles_49 rfl (by first | rfl | exact sBo_nar _) ⟨by decide, by decide⟩ ?_
          have z2 : (nI (2 * k0) &&& nI 1) = nI 0 := by rw [and1 _ (by omega), show 2 * k0 % 2 = 0 by omega]
          unfold Vcycles
          rw [if_neg (fun q => by rcases q with q | q | q; rw [show isOut (nI (2 * k0)) (nI 4) (nI 12) = false by simpa using hc7] at q; exact absurd q (by decide); exact q z2; rw [show isOut w (nI 0) (nI 1) = false by simpa using hc23] at q; exact absurd q (by decide)), natOf_nI (by omega), show 2 * k0 / 2 = k0 by omega, decide_eq_true (w1 hc23 hc35), cyc_1 hx (by omega), show a.2.1 = _ from AI.2.1]
          exact ⟨rfl, ⟨(FC 62 (by omega) (by omega)).trans hz, H0.cy ⟨_, m1⟩ RF FC⟩, FC.k⟩
        ·
          refine e_aload_0 (p' := 39) D_M_cycles_38 rfl ?_
          refine e_getfield (p' := 42) D_M_cycles_39 F_M_140 (by first | assumption | exact sUp_eq | (rw [sUp_ne (by omega)]; assumption) | (rw [sUp_ne (by omega), sUp_ne (by omega)]; assumption) | (rw [sUp_ne (by omega)]; exact sUp_eq) | (rw [gSet_ne (by omega) (by omega)]; first | assumption | exact sUp_eq | (rw [sUp_ne (by omega)]; assumption) | (rw [sUp_ne (by omega), sUp_ne (by omega)]; assumption)) | (rw [sUp_ne (by omega), sUp_ne (by omega), sUp_ne (by omega)]; assumption) | (simp [sUp]; done)) (by rfl) rfl ?_
          refine e_goto (p' := 49) D_M_cycles_42 rfl ?_
          refine e_ireturn (ty := .int) D_M_cycles_49 rfl (by first | rfl | exact sBo_nar _) ⟨by decide, by decide⟩ ?_
          have z2 : (nI (2 * k0) &&& nI 1) = nI 0 := by rw [and1 _ (by omega), show 2 * k0 % 2 = 0 by omega]
          unfold Vcycles
          rw [if_neg (fun q => by rcases q with q | q | q; rw [show isOut (nI (2 * k0)) (nI 4) (nI 12) = false by simpa using hc7] at q; exact absurd q (by decide); exact q z2; rw [show isOut w (nI 0) (nI 1) = false by simpa using hc23] at q; exact absurd q (by decide)), natOf_nI (by omega), show 2 * k0 / 2 = k0 by omega, decide_eq_false (show ¬ w = nI 1 by rw [show w = 0 from hc35]; decide), cyc_0 hx (by omega), show a.1 = _ from AI.1]
          exact ⟨rfl, ⟨(FC 62 (by omega) (by omega)).trans hz, H0.cy ⟨_, m1⟩ RF FC⟩, FC.k⟩
      ·
        refine e_bipush (v := (-2)) (p' := 28) D_M_cycles_26 cst_bipush_m2 rfl ?_
        refine e_ireturn (ty := .int) D_M_cycles_28 rfl (by first | rfl | exact sBo_nar _) ⟨by decide, by decide⟩ ?_
        unfold Vcycles; rw [if_pos (Or.inr (Or.inr (by simpa using hc23)))]; exact ⟨rfl, hI0, FrK.rf⟩
set_option maxRecDepth 4000 in
theorem c_M_wrong {l : Launch} {h : sH} {st : St} (hI : MInv h st) (hS : StOk st) {w : Int32} : sY l m_M_wrong 4 [.ref 61, .int w] h (some (.int (Vwrong st.1 w))) (MR h st) := by
  have hI0 := hI
  obtain ⟨hz, H⟩ := hI
  have H0 := H
  have hx := hS.1
  have hM := hx.2.2.1.le
  have hRr := hx.1
  have hCc := hx.2.1
  have hh6 := hS.2.1.1
  obtain ⟨⟨v, a1⟩, ⟨f, a2, b2⟩, ⟨f3, a3, b3⟩, ⟨f4, a4, b4⟩, ⟨f5, a5, b5⟩, ⟨f6, f7, f8, f9, a6, a7, a8, a9⟩, ⟨f10, a10⟩, ⟨f11, a11⟩, ⟨f12, a12⟩⟩ := H
  refine en_M_wrong ?_
  refine e_iload_1 (p' := 1) D_M_wrong_0 rfl ?_
  refine e_iconst (v := nI 0) (p' := 2) D_M_wrong_1 cst_iconst_0 rfl ?_
  refine e_iconst (v := nI 2) (p' := 3) D_M_wrong_2 cst_iconst_2 rfl ?_
  refine x_callS1 (p' := 6) D_M_wrong_3 S_M_52 (c_M_in) rfl rfl (Nat.le_of_ble_eq_true rfl) (by decide) ⟨by decide, by decide⟩ rfl ?_
  refine e_ifB_ne (q := 12) (p' := 9) D_M_wrong_6 rfl rfl (fun hc6 => ?_) (fun hc6 => ?_)
  ·
    refine e_iconst (v := nI 4) (p' := 13) D_M_wrong_12 cst_iconst_4 rfl ?_
    refine e_istore_2 (p' := 14) D_M_wrong_13 (Nat.le_of_ble_eq_true rfl) rfl rfl ?_
    have lk14 : ∀ i : Nat, i ≤ 5 → ∀ (h1 : sH), (((MRest h1 st.2 ∧ h1.2 62 = iA 39 (nF (zN st.1))) ∧ FrK h h1) ∧ swF st.1 5 2 = swF st.1 (5 - i) (i + 2)) → sEv l m_M_wrong 4 (0, 0, 0, 0) (sKm 0 0 (fun r1 h1 => r1 = some (.int (Vwrong st.1 w)) ∧ (MR h st) h1)) 14 [some (.ref 61), some (.int w), some (.int (nI (2 * (i + 2))))] [] (h1) := by
      refine lp_up _ ?_ ?_
      · intro h1 ⟨⟨⟨CC, CZ⟩, FF⟩, hsw⟩
        obtain ⟨v1, c1⟩ := CC.1
        obtain ⟨pm, wl, ac, wk, wr, wc, rr, rc⟩ := v1
        refine e_iload_2 (p' := 15) D_M_wrong_14 rfl ?_
        refine e_bipush (v := nI 12) (p' := 17) D_M_wrong_15 cst_bipush_12 rfl ?_
        refine e_icmpN_gt (q := 63) (p' := 20) D_M_wrong_17 (by omega) (by omega) rfl rfl (fun hc17 => ?_) (fun hc17 => ?_)
        ·
          refine e_bipush (v := (-6)) (p' := 65) D_M_wrong_63 cst_bipush_m6 rfl ?_
          refine e_ireturn (ty := .int) D_M_wrong_65 rfl (by first | rfl | exact sBo_nar _) ⟨by decide, by decide⟩ ?_
          unfold Vwrong; rw [if_neg (show ¬ isOut w (nI 0) (nI 2) = true by simpa using hc6), if_pos (by rw [sw_swF hx, hsw]; rfl)]; exact ⟨rfl, ⟨CZ, CC⟩, FF⟩
        ·
          exfalso; omega
      · intro i hi ih14 h1 ⟨⟨⟨CC, CZ⟩, FF⟩, hsw⟩
        obtain ⟨v1, c1⟩ := CC.1
        obtain ⟨pm, wl, ac, wk, wr, wc, rr, rc⟩ := v1
        refine e_iload_2 (p' := 15) D_M_wrong_14 rfl ?_
        refine e_bipush (v := nI 12) (p' := 17) D_M_wrong_15 cst_bipush_12 rfl ?_
        refine e_icmpN_gt (q := 63) (p' := 20) D_M_wrong_17 (by omega) (by omega) rfl rfl (fun hc17 => ?_) (fun hc17 => ?_)
        ·
          exfalso; omega
        ·
          refine e_aload_0 (p' := 21) D_M_wrong_20 rfl ?_
          refine e_iload_2 (p' := 22) D_M_wrong_21 rfl ?_
          refine y_callV0 (p' := 25) D_M_wrong_22 V_M_162 (c_M_goCycles (k := i + 2) c1 CZ hx (by omega) (by omega) CC.2.2.2.2.2.2.2.1) rfl (by first | assumption | exact sUp_eq | (rw [sUp_ne (by omega)]; assumption) | (rw [sUp_ne (by omega), sUp_ne (by omega)]; assumption) | (rw [sUp_ne (by omega)]; exact sUp_eq) | (rw [gSet_ne (by omega) (by omega)]; first | assumption | exact sUp_eq | (rw [sUp_ne (by omega)]; assumption) | (rw [sUp_ne (by omega), sUp_ne (by omega)]; assumption)) | (rw [sUp_ne (by omega), sUp_ne (by omega), sUp_ne (by omega)]; assumption) | (simp [sUp]; done)) rfl (Nat.le_of_ble_eq_true rfl) (by decide) ⟨by decide, by decide⟩ rfl ?_
          rintro h2 ⟨a, CA, AI, RF, FC⟩
          obtain ⟨wr2, wc2, m1, hw2, hlt⟩ := id CA
          have hbw := DD_wrg hx (k := i + 2) (by omega) (by omega)
          have a2 : a.2.1 = DD st.1 (Gh st.1 (i + 2) wrg) (2 * (i + 2)) [] := AI.2.1
          refine e_aload_0 (p' := 26) D_M_wrong_25 rfl ?_
          refine e_getfield (p' := 29) D_M_wrong_26 F_M_147 (by first | assumption | exact sUp_eq | (rw [sUp_ne (by omega)]; assumption) | (rw [sUp_ne (by omega), sUp_ne (by omega)]; assumption) | (rw [sUp_ne (by omega)]; exact sUp_eq) | (rw [gSet_ne (by omega) (by omega)]; first | assumption | exact sUp_eq | (rw [sUp_ne (by omega)]; assumption) | (rw [sUp_ne (by omega), sUp_ne (by omega)]; assumption)) | (rw [sUp_ne (by omega), sUp_ne (by omega), sUp_ne (by omega)]; assumption) | (simp [sUp]; done)) (by rfl) rfl ?_
          refine e_ifN_le (q := 57) (p' := 32) D_M_wrong_29 (by omega) rfl rfl (fun hc29 => ?_) (fun hc29 => ?_)
          ·
            first | refine e_iincN_2 (n := 2) (p' := 60) D_M_wrong_57 (Nat.le_of_ble_eq_true rfl) rfl rfl ?_ | refine e_iinc_2 (p' := 60) D_M_wrong_57 (Nat.le_of_ble_eq_true rfl) rfl rfl rfl ?_
            refine e_goto (p' := 14) D_M_wrong_60 rfl ?_
            refine sEv.castW (ih14 h2 ⟨⟨⟨CC.cy ⟨_, m1⟩ RF FC, (FC 62 (by omega) (by omega)).trans CZ⟩, FF.tr FC.k⟩, by rw [hsw, show 5 - i = 5 - (i + 1) + 1 by omega, swF, if_neg (by rw [Tot_w hx (by omega) ph_wrg]; omega)]⟩) ?_ ?_ ?_
            · exact ⟨rfl, rfl, rfl, trivial⟩
            · rfl
            · first | rfl | (simp; done)
          ·
            refine e_iload_1 (p' := 33) D_M_wrong_32 rfl ?_
            refine e_if_ne (q := 40) (p' := 36) D_M_wrong_33 rfl rfl (fun hc33 => ?_) (fun hc33 => ?_)
            ·
              refine e_iload_1 (p' := 41) D_M_wrong_40 rfl ?_
              refine e_iconst (v := nI 1) (p' := 42) D_M_wrong_41 cst_iconst_1 rfl ?_
              refine e_icmp_ne (q := 52) (p' := 45) D_M_wrong_42 rfl rfl (fun hc42 => ?_) (fun hc42 => ?_)
              ·
                refine e_aload_0 (p' := 53) D_M_wrong_52 rfl ?_
                refine e_getfield (p' := 56) D_M_wrong_53 F_M_153 (by first | assumption | exact sUp_eq | (rw [sUp_ne (by omega)]; assumption) | (rw [sUp_ne (by omega), sUp_ne (by omega)]; assumption) | (rw [sUp_ne (by omega)]; exact sUp_eq) | (rw [gSet_ne (by omega) (by omega)]; first | assumption | exact sUp_eq | (rw [sUp_ne (by omega)]; assumption) | (rw [sUp_ne (by omega), sUp_ne (by omega)]; assumption)) | (rw [sUp_ne (by omega), sUp_ne (by omega), sUp_ne (by omega)]; assumption) | (simp [sUp]; done)) (by rfl) rfl ?_
                refine e_ireturn (ty := .int) D_M_wrong_56 rfl (by first | rfl | exact sBo_nar _) ⟨by decide, by decide⟩ ?_
                have a2 : a.2.1 = DD st.1 (Gh st.1 (i + 2) wrg) (2 * (i + 2)) [] := AI.2.1
                have es : sw st.1 = i + 2 := by
                  rw [sw_swF hx, hsw, show 5 - i = 4 - i + 1 by omega, swF, if_pos (by rw [Tot_w hx (by omega) ph_wrg]; omega)]
                have lw1 := lw_tot hx (by omega) AI (by omega)
                unfold Vwrong
                rw [if_neg (show ¬ isOut w (nI 0) (nI 2) = true by simpa using hc6), es, if_neg (show ¬ i + 2 = 0 by omega), if_neg (show ¬ w = nI 0 from hc33), if_neg hc42, lw1, (hw2 (by omega)).2]
                exact ⟨rfl, ⟨(FC 62 (by omega) (by omega)).trans CZ, CC.cy ⟨_, m1⟩ RF FC⟩, FF.tr FC.k⟩
              ·
                refine e_aload_0 (p' := 46) D_M_wrong_45 rfl ?_
                refine e_getfield (p' := 49) D_M_wrong_46 F_M_150 (by first | assumption | exact sUp_eq | (rw [sUp_ne (by omega)]; assumption) | (rw [sUp_ne (by omega), sUp_ne (by omega)]; assumption) | (rw [sUp_ne (by omega)]; exact sUp_eq) | (rw [gSet_ne (by omega) (by omega)]; first | assumption | exact sUp_eq | (rw [sUp_ne (by omega)]; assumption) | (rw [sUp_ne (by omega), sUp_ne (by omega)]; assumption)) | (rw [sUp_ne (by omega), sUp_ne (by omega), sUp_ne (by omega)]; assumption) | (simp [sUp]; done)) (by rfl) rfl ?_
                refine e_goto (p' := 56) D_M_wrong_49 rfl ?_
                refine e_ireturn (ty := .int) D_M_wrong_56 rfl (by first | rfl | exact sBo_nar _) ⟨by decide, by decide⟩ ?_
                have a2 : a.2.1 = DD st.1 (Gh st.1 (i + 2) wrg) (2 * (i + 2)) [] := AI.2.1
                have es : sw st.1 = i + 2 := by
                  rw [sw_swF hx, hsw, show 5 - i = 4 - i + 1 by omega, swF, if_pos (by rw [Tot_w hx (by omega) ph_wrg]; omega)]
                have lw1 := lw_tot hx (by omega) AI (by omega)
                unfold Vwrong
                rw [if_neg (show ¬ isOut w (nI 0) (nI 2) = true by simpa using hc6), es, if_neg (show ¬ i + 2 = 0 by omega), if_neg (show ¬ w = nI 0 from hc33), if_pos (by first | exact hc42 | exact Classical.not_not.mp hc42), lw1, (hw2 (by omega)).1]
                exact ⟨rfl, ⟨(FC 62 (by omega) (by omega)).trans CZ, CC.cy ⟨_, m1⟩ RF FC⟩, FF.tr FC.k⟩
            ·
              refine e_iload_2 (p' := 37) D_M_wrong_36 rfl ?_
              refine e_goto (p' := 56) D_M_wrong_37 rfl ?_
              refine e_ireturn (ty := .int) D_M_wrong_56 rfl (by first | rfl | exact sBo_nar _) ⟨by decide, by decide⟩ ?_
              have a2 : a.2.1 = DD st.1 (Gh st.1 (i + 2) wrg) (2 * (i + 2)) [] := AI.2.1
              have es : sw st.1 = i + 2 := by
                rw [sw_swF hx, hsw, show 5 - i = 4 - i + 1 by omega, swF, if_pos (by rw [Tot_w hx (by omega) ph_wrg]; omega)]
              have lw1 := lw_tot hx (by omega) AI (by omega)
              unfold Vwrong
              rw [if_neg (show ¬ isOut w (nI 0) (nI 2) = true by simpa using hc6), es, if_neg (show ¬ i + 2 = 0 by omega), if_pos (show w = nI 0 from hc33)]
              exact ⟨rfl, ⟨(FC 62 (by omega) (by omega)).trans CZ, CC.cy ⟨_, m1⟩ RF FC⟩, FF.tr FC.k⟩
    refine sEv.castW (lk14 0 (by omega) h ⟨⟨⟨H0, hz⟩, FrK.rf⟩, rfl⟩) ?_ ?_ ?_
    · exact ⟨rfl, rfl, rfl, trivial⟩
    · rfl
    · first | rfl | (simp; done)
  ·
    refine e_bipush (v := (-2)) (p' := 11) D_M_wrong_9 cst_bipush_m2 rfl ?_
    refine e_ireturn (ty := .int) D_M_wrong_11 rfl (by first | rfl | exact sBo_nar _) ⟨by decide, by decide⟩ ?_
    unfold Vwrong; rw [if_pos (by simpa using hc6)]; exact ⟨rfl, hI0, FrK.rf⟩
