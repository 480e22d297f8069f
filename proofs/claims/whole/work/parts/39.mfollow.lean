/-! ===== the reference: what follows, what if ===== -/
theorem zN_back {x : Gd} {p w : Nat} (hp : p < 36) : upd (nF (zN (x.1, up x.2 p w))) p (nI (x.2 p)) = nF (zN x) := by
  rw [zN_up hp]
  refine congrArg (fun z => nF (zN (x.1, z))) ?_
  funext k
  show up (up x.2 p w) p (x.2 p) k = x.2 k
  by_cases e : k = p
  · rw [e, up_at]
  · rw [up_off e, up_off e]
theorem MRest.arr {h : sH} {s : Mr} (H : MRest h s) : ∃ i, PmI h i := by
  obtain ⟨_, _, _, _, _, ⟨f6, f7, f8, f9, a6, a7, a8, a9⟩, _⟩ := H
  exact ⟨0, f6, f7, f8, f9, a6, a7, a8, a9, fun k hk => absurd hk (Nat.not_lt_zero _)⟩
abbrev MQ2 (h : sH) (x : Gd) (s : Mr) (h1 : sH) : Prop := (MRest h1 s ∧ h1.2 62 = iA 39 (nF (zN x))) ∧ FrK h h1
set_option maxRecDepth 4000 in
theorem c_M_isWellWith {l : Launch} {h : sH} {x : Gd} {s : Mr} (hz : h.2 62 = iA 39 (nF (zN x))) (H : MRest h s) (hx : Gok x) {p w : Nat} (hp : p < 36) (hy : Gok (x.1, up x.2 p w)) : sY l m_M_isWellWith 4 [.ref 61, .int (nI p), .int (nI w)] h (some (.int (sBo (wellX (x.1, up x.2 p w))))) (MQ2 h x s) := by
  have hM := hx.2.2.1.le
  have hRr := hx.1
  have hCc := hx.2.1
  have H0 := H
  obtain ⟨⟨v, a1⟩, _⟩ := H
  refine en_M_isWellWith ?_
  refine e_aload_0 (p' := 1) D_M_isWellWith_0 rfl ?_
  refine e_getfield (p' := 4) D_M_isWellWith_1 F_M_7 (by first | assumption | exact sUp_eq | (rw [sUp_ne (by omega)]; assumption) | (rw [sUp_ne (by omega), sUp_ne (by omega)]; assumption) | (rw [sUp_ne (by omega)]; exact sUp_eq) | (rw [gSet_ne (by omega) (by omega)]; first | assumption | exact sUp_eq | (rw [sUp_ne (by omega)]; assumption) | (rw [sUp_ne (by omega), sUp_ne (by omega)]; assumption)) | (rw [sUp_ne (by omega), sUp_ne (by omega), sUp_ne (by omega)]; assumption) | (simp [sUp]; done)) (by rfl) rfl ?_
  refine e_iload_1 (p' := 5) D_M_isWellWith_4 rfl ?_
  refine e_iaload (p' := 6) D_M_isWellWith_5 (by first | assumption | exact sUp_eq | (rw [sUp_ne (by omega)]; assumption) | (rw [sUp_ne (by omega), sUp_ne (by omega)]; assumption) | (rw [sUp_ne (by omega)]; exact sUp_eq) | (rw [gSet_ne (by omega) (by omega)]; first | assumption | exact sUp_eq | (rw [sUp_ne (by omega)]; assumption) | (rw [sUp_ne (by omega), sUp_ne (by omega)]; assumption)) | (rw [sUp_ne (by omega), sUp_ne (by omega), sUp_ne (by omega)]; assumption) | (simp [sUp]; done)) (by omega) (by omega) (by rfl) rfl ?_
  rw [zP hp]
  refine e_istore_3 (p' := 7) D_M_isWellWith_6 (Nat.le_of_ble_eq_true rfl) rfl rfl ?_
  refine e_aload_0 (p' := 8) D_M_isWellWith_7 rfl ?_
  refine e_getfield (p' := 11) D_M_isWellWith_8 F_M_7 (by first | assumption | exact sUp_eq | (rw [sUp_ne (by omega)]; assumption) | (rw [sUp_ne (by omega), sUp_ne (by omega)]; assumption) | (rw [sUp_ne (by omega)]; exact sUp_eq) | (rw [gSet_ne (by omega) (by omega)]; first | assumption | exact sUp_eq | (rw [sUp_ne (by omega)]; assumption) | (rw [sUp_ne (by omega), sUp_ne (by omega)]; assumption)) | (rw [sUp_ne (by omega), sUp_ne (by omega), sUp_ne (by omega)]; assumption) | (simp [sUp]; done)) (by rfl) rfl ?_
  refine e_iload_1 (p' := 12) D_M_isWellWith_11 rfl ?_
  refine e_iload_2 (p' := 13) D_M_isWellWith_12 rfl ?_
  refine e_iastore (p' := 14) D_M_isWellWith_13 (by first | assumption | exact sUp_eq | (rw [sUp_ne (by omega)]; assumption) | (rw [sUp_ne (by omega), sUp_ne (by omega)]; assumption) | (rw [sUp_ne (by omega)]; exact sUp_eq) | (rw [gSet_ne (by omega) (by omega)]; first | assumption | exact sUp_eq | (rw [sUp_ne (by omega)]; assumption) | (rw [sUp_ne (by omega), sUp_ne (by omega)]; assumption)) | (rw [sUp_ne (by omega), sUp_ne (by omega), sUp_ne (by omega)]; assumption) | (simp [sUp]; done)) (by omega) (by omega) rfl ?_
  refine e_aload_0 (p' := 15) D_M_isWellWith_14 rfl ?_
  refine y_callV0 (p' := 18) D_M_isWellWith_15 V_M_85 (c_M_layParts ((sUp_ne (by omega)).trans a1) (sUp_eq.trans (congrArg (iA 39) (zN_up hp))) hy (MRest.arr H0.z)) rfl (by first | assumption | exact sUp_eq | (rw [sUp_ne (by omega)]; assumption) | (rw [sUp_ne (by omega), sUp_ne (by omega)]; assumption) | (rw [sUp_ne (by omega)]; exact sUp_eq) | (rw [gSet_ne (by omega) (by omega)]; first | assumption | exact sUp_eq | (rw [sUp_ne (by omega)]; assumption) | (rw [sUp_ne (by omega), sUp_ne (by omega)]; assumption)) | (rw [sUp_ne (by omega), sUp_ne (by omega), sUp_ne (by omega)]; assumption) | (simp [sUp]; done)) rfl (Nat.le_of_ble_eq_true rfl) (by decide) ⟨by decide, by decide⟩ rfl ?_
  rintro h1 ⟨P1, m1, L1⟩
  have Z1 := (L1 62 (by omega) (by omega)).trans ((sUp_eq.trans (congrArg (iA 39) (zN_up hp))))
  have R1 := MRest.lay H0.z m1 ⟨_, P1⟩ L1
  obtain ⟨e1, e2, e3, e4, p1, p2, p3, p4, PV⟩ := id P1
  refine e_aload_0 (p' := 19) D_M_isWellWith_18 rfl ?_
  refine e_getfield (p' := 22) D_M_isWellWith_19 F_M_7 (by first | assumption | exact sUp_eq | (rw [sUp_ne (by omega)]; assumption) | (rw [sUp_ne (by omega), sUp_ne (by omega)]; assumption) | (rw [sUp_ne (by omega)]; exact sUp_eq) | (rw [gSet_ne (by omega) (by omega)]; first | assumption | exact sUp_eq | (rw [sUp_ne (by omega)]; assumption) | (rw [sUp_ne (by omega), sUp_ne (by omega)]; assumption)) | (rw [sUp_ne (by omega), sUp_ne (by omega), sUp_ne (by omega)]; assumption) | (simp [sUp]; done)) (by rfl) rfl ?_
  refine e_iload_1 (p' := 23) D_M_isWellWith_22 rfl ?_
  refine e_iload_3 (p' := 24) D_M_isWellWith_23 rfl ?_
  refine e_iastore (p' := 25) D_M_isWellWith_24 (by first | assumption | exact sUp_eq | (rw [sUp_ne (by omega)]; assumption) | (rw [sUp_ne (by omega), sUp_ne (by omega)]; assumption) | (rw [sUp_ne (by omega)]; exact sUp_eq) | (rw [gSet_ne (by omega) (by omega)]; first | assumption | exact sUp_eq | (rw [sUp_ne (by omega)]; assumption) | (rw [sUp_ne (by omega), sUp_ne (by omega)]; assumption)) | (rw [sUp_ne (by omega), sUp_ne (by omega), sUp_ne (by omega)]; assumption) | (simp [sUp]; done)) (by omega) (by omega) rfl ?_
  refine e_aload_0 (p' := 26) D_M_isWellWith_25 rfl ?_
  refine e_getfield (p' := 29) D_M_isWellWith_26 F_M_81 (by first | assumption | exact sUp_eq | (rw [sUp_ne (by omega)]; assumption) | (rw [sUp_ne (by omega), sUp_ne (by omega)]; assumption) | (rw [sUp_ne (by omega)]; exact sUp_eq) | (rw [gSet_ne (by omega) (by omega)]; first | assumption | exact sUp_eq | (rw [sUp_ne (by omega)]; assumption) | (rw [sUp_ne (by omega), sUp_ne (by omega)]; assumption)) | (rw [sUp_ne (by omega), sUp_ne (by omega), sUp_ne (by omega)]; assumption) | (simp [sUp]; done)) (by rfl) rfl ?_
  refine e_ireturn (ty := .boolean) D_M_isWellWith_29 rfl (by first | rfl | exact sBo_nar _) ⟨by decide, by decide⟩ ?_
  exact ⟨rfl, ⟨R1.z, sUp_eq.trans (congrArg (iA 39) (zN_back hp))⟩, fun a ha => (sUp_ne (by omega)).trans ((L1 a (by omega) (by omega)).trans (sUp_ne (by omega)))⟩
theorem pJ_inj {a b : Nat} (ha : a < 100) (hb : b < 100) (e : pJ a = pJ b) : a = b := by
  by_cases h : b = 0
  · subst h
    exact (pJ_m6 ha).mp e
  · have e2 : pJ a = nI (b - 1) := e.trans (if_neg h)
    have := (pJ_nI ha (by omega)).mp e2
    omega
set_option maxRecDepth 4000 in
theorem c_M_follows {l : Launch} {h : sH} {x : Gd} {s : Mr} (hz : h.2 62 = iA 39 (nF (zN x))) (H : MRest h s) (hx : Gok x) {r c : Nat} (hr : r < x.1.1) (hc : c < x.1.2.1) : sY l m_M_follows 4 [.ref 61, .int (nI r), .int (nI c)] h (some (.int (fol x r c))) (MQ2 h x s) := by
  have hM := hx.2.2.1.le
  have hRr := hx.1
  have hCc := hx.2.1
  have H0 := H
  obtain ⟨⟨v, a1⟩, _⟩ := H
  have lp := lay_pv hx
  have lk := lay_kn hx
  have b1 := (lp.2 r).1
  have b2 := (lp.2 c).2
  have n1 := lp.1.1 r (lk.1 r hr)
  have n2 := lp.1.2 c (lk.2 c hc)
  refine en_M_follows ?_
  refine e_aload_0 (p' := 1) D_M_follows_0 rfl ?_
  refine y_callV0 (p' := 4) D_M_follows_1 V_M_85 (c_M_layParts a1 hz hx (MRest.arr H0)) rfl (by first | assumption | exact sUp_eq | (rw [sUp_ne (by omega)]; assumption) | (rw [sUp_ne (by omega), sUp_ne (by omega)]; assumption) | (rw [sUp_ne (by omega)]; exact sUp_eq) | (rw [gSet_ne (by omega) (by omega)]; first | assumption | exact sUp_eq | (rw [sUp_ne (by omega)]; assumption) | (rw [sUp_ne (by omega), sUp_ne (by omega)]; assumption)) | (rw [sUp_ne (by omega), sUp_ne (by omega), sUp_ne (by omega)]; assumption) | (simp [sUp]; done)) rfl (Nat.le_of_ble_eq_true rfl) (by decide) ⟨by decide, by decide⟩ rfl ?_
  rintro h1 ⟨P1, m1, L1⟩
  have Z1 := (L1 62 (by omega) (by omega)).trans (hz)
  have R1 := MRest.lay H0 m1 ⟨_, P1⟩ L1
  obtain ⟨e1, e2, e3, e4, p1, p2, p3, p4, PV⟩ := id P1
  refine e_aload_0 (p' := 5) D_M_follows_4 rfl ?_
  refine e_getfield (p' := 8) D_M_follows_5 F_M_81 (by first | assumption | exact sUp_eq | (rw [sUp_ne (by omega)]; assumption) | (rw [sUp_ne (by omega), sUp_ne (by omega)]; assumption) | (rw [sUp_ne (by omega)]; exact sUp_eq) | (rw [gSet_ne (by omega) (by omega)]; first | assumption | exact sUp_eq | (rw [sUp_ne (by omega)]; assumption) | (rw [sUp_ne (by omega), sUp_ne (by omega)]; assumption)) | (rw [sUp_ne (by omega), sUp_ne (by omega), sUp_ne (by omega)]; assumption) | (simp [sUp]; done)) (by rfl) rfl ?_
  refine e_ifB_eq (q := 45) (p' := 11) D_M_follows_8 rfl rfl (fun hc8 => ?_) (fun hc8 => ?_)
  ·
    refine e_bipush (v := (-6)) (p' := 47) D_M_follows_45 cst_bipush_m6 rfl ?_
    refine e_ireturn (ty := .int) D_M_follows_47 rfl (by first | rfl | exact sBo_nar _) ⟨by decide, by decide⟩ ?_
    unfold fol; rw [if_neg (fun q => absurd (q.1.symm.trans hc8) (by decide))]; exact ⟨rfl, ⟨R1, Z1⟩, L1.k⟩
  ·
    refine e_aload_0 (p' := 12) D_M_follows_11 rfl ?_
    refine e_getfield (p' := 15) D_M_follows_12 F_M_27 (by first | assumption | exact sUp_eq | (rw [sUp_ne (by omega)]; assumption) | (rw [sUp_ne (by omega), sUp_ne (by omega)]; assumption) | (rw [sUp_ne (by omega)]; exact sUp_eq) | (rw [gSet_ne (by omega) (by omega)]; first | assumption | exact sUp_eq | (rw [sUp_ne (by omega)]; assumption) | (rw [sUp_ne (by omega), sUp_ne (by omega)]; assumption)) | (rw [sUp_ne (by omega), sUp_ne (by omega), sUp_ne (by omega)]; assumption) | (simp [sUp]; done)) (by rfl) rfl ?_
    refine e_iload_1 (p' := 16) D_M_follows_15 rfl ?_
    refine e_iaload (p' := 17) D_M_follows_16 (by first | assumption | exact sUp_eq | (rw [sUp_ne (by omega)]; assumption) | (rw [sUp_ne (by omega), sUp_ne (by omega)]; assumption) | (rw [sUp_ne (by omega)]; exact sUp_eq) | (rw [gSet_ne (by omega) (by omega)]; first | assumption | exact sUp_eq | (rw [sUp_ne (by omega)]; assumption) | (rw [sUp_ne (by omega), sUp_ne (by omega)]; assumption)) | (rw [sUp_ne (by omega), sUp_ne (by omega), sUp_ne (by omega)]; assumption) | (simp [sUp]; done)) (by omega) (by omega) (by rfl) rfl ?_
    refine e_aload_0 (p' := 18) D_M_follows_17 rfl ?_
    refine e_getfield (p' := 21) D_M_follows_18 F_M_30 (by first | assumption | exact sUp_eq | (rw [sUp_ne (by omega)]; assumption) | (rw [sUp_ne (by omega), sUp_ne (by omega)]; assumption) | (rw [sUp_ne (by omega)]; exact sUp_eq) | (rw [gSet_ne (by omega) (by omega)]; first | assumption | exact sUp_eq | (rw [sUp_ne (by omega)]; assumption) | (rw [sUp_ne (by omega), sUp_ne (by omega)]; assumption)) | (rw [sUp_ne (by omega), sUp_ne (by omega), sUp_ne (by omega)]; assumption) | (simp [sUp]; done)) (by rfl) rfl ?_
    refine e_iload_2 (p' := 22) D_M_follows_21 rfl ?_
    refine e_iaload (p' := 23) D_M_follows_22 (by first | assumption | exact sUp_eq | (rw [sUp_ne (by omega)]; assumption) | (rw [sUp_ne (by omega), sUp_ne (by omega)]; assumption) | (rw [sUp_ne (by omega)]; exact sUp_eq) | (rw [gSet_ne (by omega) (by omega)]; first | assumption | exact sUp_eq | (rw [sUp_ne (by omega)]; assumption) | (rw [sUp_ne (by omega), sUp_ne (by omega)]; assumption)) | (rw [sUp_ne (by omega), sUp_ne (by omega), sUp_ne (by omega)]; assumption) | (simp [sUp]; done)) (by omega) (by omega) (by rfl) rfl ?_
    rw [(PV r (by omega)).1.1, (PV c (by omega)).1.2]
    refine e_icmp_ne (q := 45) (p' := 26) D_M_follows_23 rfl rfl (fun hc23 => ?_) (fun hc23 => ?_)
    ·
      refine e_bipush (v := (-6)) (p' := 47) D_M_follows_45 cst_bipush_m6 rfl ?_
      refine e_ireturn (ty := .int) D_M_follows_47 rfl (by first | rfl | exact sBo_nar _) ⟨by decide, by decide⟩ ?_
      unfold fol; rw [if_neg (fun q => hc23 (by rw [q.2]))]; exact ⟨rfl, ⟨R1, Z1⟩, L1.k⟩
    ·
      refine e_aload_0 (p' := 27) D_M_follows_26 rfl ?_
      refine e_aload_0 (p' := 28) D_M_follows_27 rfl ?_
      refine e_getfield (p' := 31) D_M_follows_28 F_M_33 (by first | assumption | exact sUp_eq | (rw [sUp_ne (by omega)]; assumption) | (rw [sUp_ne (by omega), sUp_ne (by omega)]; assumption) | (rw [sUp_ne (by omega)]; exact sUp_eq) | (rw [gSet_ne (by omega) (by omega)]; first | assumption | exact sUp_eq | (rw [sUp_ne (by omega)]; assumption) | (rw [sUp_ne (by omega), sUp_ne (by omega)]; assumption)) | (rw [sUp_ne (by omega), sUp_ne (by omega), sUp_ne (by omega)]; assumption) | (simp [sUp]; done)) (by rfl) rfl ?_
      refine e_iload_1 (p' := 32) D_M_follows_31 rfl ?_
      refine e_iaload (p' := 33) D_M_follows_32 (by first | assumption | exact sUp_eq | (rw [sUp_ne (by omega)]; assumption) | (rw [sUp_ne (by omega), sUp_ne (by omega)]; assumption) | (rw [sUp_ne (by omega)]; exact sUp_eq) | (rw [gSet_ne (by omega) (by omega)]; first | assumption | exact sUp_eq | (rw [sUp_ne (by omega)]; assumption) | (rw [sUp_ne (by omega), sUp_ne (by omega)]; assumption)) | (rw [sUp_ne (by omega), sUp_ne (by omega), sUp_ne (by omega)]; assumption) | (simp [sUp]; done)) (by omega) (by omega) (by rfl) rfl ?_
      rw [(PV r (by omega)).2.1]
      refine e_aload_0 (p' := 34) D_M_follows_33 rfl ?_
      refine e_getfield (p' := 37) D_M_follows_34 F_M_36 (by first | assumption | exact sUp_eq | (rw [sUp_ne (by omega)]; assumption) | (rw [sUp_ne (by omega), sUp_ne (by omega)]; assumption) | (rw [sUp_ne (by omega)]; exact sUp_eq) | (rw [gSet_ne (by omega) (by omega)]; first | assumption | exact sUp_eq | (rw [sUp_ne (by omega)]; assumption) | (rw [sUp_ne (by omega), sUp_ne (by omega)]; assumption)) | (rw [sUp_ne (by omega), sUp_ne (by omega), sUp_ne (by omega)]; assumption) | (simp [sUp]; done)) (by rfl) rfl ?_
      refine e_iload_2 (p' := 38) D_M_follows_37 rfl ?_
      refine e_iaload (p' := 39) D_M_follows_38 (by first | assumption | exact sUp_eq | (rw [sUp_ne (by omega)]; assumption) | (rw [sUp_ne (by omega), sUp_ne (by omega)]; assumption) | (rw [sUp_ne (by omega)]; exact sUp_eq) | (rw [gSet_ne (by omega) (by omega)]; first | assumption | exact sUp_eq | (rw [sUp_ne (by omega)]; assumption) | (rw [sUp_ne (by omega), sUp_ne (by omega)]; assumption)) | (rw [sUp_ne (by omega), sUp_ne (by omega), sUp_ne (by omega)]; assumption) | (simp [sUp]; done)) (by omega) (by omega) (by rfl) rfl ?_
      rw [(PV c (by omega)).2.2]
      refine x_callV1 (p' := 42) D_M_follows_39 V_M_63 (c_M_times m1 Z1 hx (by omega) (by omega)) rfl (by first | assumption | exact sUp_eq | (rw [sUp_ne (by omega)]; assumption) | (rw [sUp_ne (by omega), sUp_ne (by omega)]; assumption) | (rw [sUp_ne (by omega)]; exact sUp_eq) | (rw [gSet_ne (by omega) (by omega)]; first | assumption | exact sUp_eq | (rw [sUp_ne (by omega)]; assumption) | (rw [sUp_ne (by omega), sUp_ne (by omega)]; assumption)) | (rw [sUp_ne (by omega), sUp_ne (by omega), sUp_ne (by omega)]; assumption) | (simp [sUp]; done)) rfl (Nat.le_of_ble_eq_true rfl) (by decide) ⟨by decide, by decide⟩ rfl ?_
      refine e_goto (p' := 47) D_M_follows_42 rfl ?_
      refine e_ireturn (ty := .int) D_M_follows_47 rfl (by first | rfl | exact sBo_nar _) ⟨by decide, by decide⟩ ?_
      unfold fol; rw [if_pos ⟨hc8, pJ_inj b1 b2 (by first | exact hc23 | exact Classical.not_not.mp hc23)⟩]; exact ⟨rfl, ⟨R1, Z1⟩, L1.k⟩
set_option maxRecDepth 4000 in
theorem c_M_followsWithout {l : Launch} {h : sH} {x : Gd} {s : Mr} (hz : h.2 62 = iA 39 (nF (zN x))) (H : MRest h s) (hx : Gok x) {r c : Nat} (hr : r < x.1.1) (hc : c < x.1.2.1) : sY l m_M_followsWithout 5 [.ref 61, .int (nI r), .int (nI c)] h (some (.int (fol (upd1 x r c 0) r c))) (MQ2 h x s) := by
  have hM := hx.2.2.1.le
  have hRr := hx.1
  have hCc := hx.2.1
  have H0 := H
  obtain ⟨⟨v, a1⟩, _⟩ := H
  have uok := up1_ok hx hr hc (show 0 < x.1.2.2 by omega)
  refine en_M_followsWithout ?_
  refine e_aload_0 (p' := 1) D_M_followsWithout_0 rfl ?_
  refine e_iload_1 (p' := 2) D_M_followsWithout_1 rfl ?_
  refine e_iload_2 (p' := 3) D_M_followsWithout_2 rfl ?_
  refine x_callV1 (p' := 6) D_M_followsWithout_3 V_M_67 (c_M_at a1 hz hx (by omega) (by omega)) rfl (by first | assumption | exact sUp_eq | (rw [sUp_ne (by omega)]; assumption) | (rw [sUp_ne (by omega), sUp_ne (by omega)]; assumption) | (rw [sUp_ne (by omega)]; exact sUp_eq) | (rw [gSet_ne (by omega) (by omega)]; first | assumption | exact sUp_eq | (rw [sUp_ne (by omega)]; assumption) | (rw [sUp_ne (by omega), sUp_ne (by omega)]; assumption)) | (rw [sUp_ne (by omega), sUp_ne (by omega), sUp_ne (by omega)]; assumption) | (simp [sUp]; done)) rfl (Nat.le_of_ble_eq_true rfl) (by decide) ⟨by decide, by decide⟩ rfl ?_
  refine e_istore_3 (p' := 7) D_M_followsWithout_6 (Nat.le_of_ble_eq_true rfl) rfl rfl ?_
  refine e_aload_0 (p' := 8) D_M_followsWithout_7 rfl ?_
  refine e_getfield (p' := 11) D_M_followsWithout_8 F_M_7 (by first | assumption | exact sUp_eq | (rw [sUp_ne (by omega)]; assumption) | (rw [sUp_ne (by omega), sUp_ne (by omega)]; assumption) | (rw [sUp_ne (by omega)]; exact sUp_eq) | (rw [gSet_ne (by omega) (by omega)]; first | assumption | exact sUp_eq | (rw [sUp_ne (by omega)]; assumption) | (rw [sUp_ne (by omega), sUp_ne (by omega)]; assumption)) | (rw [sUp_ne (by omega), sUp_ne (by omega), sUp_ne (by omega)]; assumption) | (simp [sUp]; done)) (by rfl) rfl ?_
  refine e_bipush (v := nI 6) (p' := 13) D_M_followsWithout_11 cst_bipush_6 rfl ?_
  refine e_iload_1 (p' := 14) D_M_followsWithout_13 rfl ?_
  first | refine e_imulN (p' := 15) D_M_followsWithout_14 rfl ?_ | refine e_imul (p' := 15) D_M_followsWithout_14 rfl ?_
  refine e_iload_2 (p' := 16) D_M_followsWithout_15 rfl ?_
  first | refine e_iaddN (p' := 17) D_M_followsWithout_16 rfl ?_ | refine e_iadd (p' := 17) D_M_followsWithout_16 rfl ?_
  refine e_iconst (v := nI 0) (p' := 18) D_M_followsWithout_17 cst_iconst_0 rfl ?_
  refine e_iastore (p' := 19) D_M_followsWithout_18 (by first | assumption | exact sUp_eq | (rw [sUp_ne (by omega)]; assumption) | (rw [sUp_ne (by omega), sUp_ne (by omega)]; assumption) | (rw [sUp_ne (by omega)]; exact sUp_eq) | (rw [gSet_ne (by omega) (by omega)]; first | assumption | exact sUp_eq | (rw [sUp_ne (by omega)]; assumption) | (rw [sUp_ne (by omega), sUp_ne (by omega)]; assumption)) | (rw [sUp_ne (by omega), sUp_ne (by omega), sUp_ne (by omega)]; assumption) | (simp [sUp]; done)) (by omega) (by omega) rfl ?_
  refine e_aload_0 (p' := 20) D_M_followsWithout_19 rfl ?_
  refine e_iload_1 (p' := 21) D_M_followsWithout_20 rfl ?_
  refine e_iload_2 (p' := 22) D_M_followsWithout_21 rfl ?_
  refine y_callV1 (p' := 25) D_M_followsWithout_22 V_M_92 (c_M_follows (x := upd1 x r c 0) (sUp_eq.trans (congrArg (iA 39) (zN_up (by omega)))) H0.z uok hr hc) rfl (by first | assumption | exact sUp_eq | (rw [sUp_ne (by omega)]; assumption) | (rw [sUp_ne (by omega), sUp_ne (by omega)]; assumption) | (rw [sUp_ne (by omega)]; exact sUp_eq) | (rw [gSet_ne (by omega) (by omega)]; first | assumption | exact sUp_eq | (rw [sUp_ne (by omega)]; assumption) | (rw [sUp_ne (by omega), sUp_ne (by omega)]; assumption)) | (rw [sUp_ne (by omega), sUp_ne (by omega), sUp_ne (by omega)]; assumption) | (simp [sUp]; done)) rfl (Nat.le_of_ble_eq_true rfl) (by decide) ⟨by decide, by decide⟩ rfl ?_
  rintro h1 ⟨⟨R1, Z1⟩, K1⟩
  obtain ⟨v1, m1⟩ := R1.1
  refine e_istore_4 (p' := 27) D_M_followsWithout_25 (Nat.le_of_ble_eq_true rfl) rfl rfl ?_
  refine e_aload_0 (p' := 28) D_M_followsWithout_27 rfl ?_
  refine e_getfield (p' := 31) D_M_followsWithout_28 F_M_7 (by first | assumption | exact sUp_eq | (rw [sUp_ne (by omega)]; assumption) | (rw [sUp_ne (by omega), sUp_ne (by omega)]; assumption) | (rw [sUp_ne (by omega)]; exact sUp_eq) | (rw [gSet_ne (by omega) (by omega)]; first | assumption | exact sUp_eq | (rw [sUp_ne (by omega)]; assumption) | (rw [sUp_ne (by omega), sUp_ne (by omega)]; assumption)) | (rw [sUp_ne (by omega), sUp_ne (by omega), sUp_ne (by omega)]; assumption) | (simp [sUp]; done)) (by rfl) rfl ?_
  refine e_bipush (v := nI 6) (p' := 33) D_M_followsWithout_31 cst_bipush_6 rfl ?_
  refine e_iload_1 (p' := 34) D_M_followsWithout_33 rfl ?_
  first | refine e_imulN (p' := 35) D_M_followsWithout_34 rfl ?_ | refine e_imul (p' := 35) D_M_followsWithout_34 rfl ?_
  refine e_iload_2 (p' := 36) D_M_followsWithout_35 rfl ?_
  first | refine e_iaddN (p' := 37) D_M_followsWithout_36 rfl ?_ | refine e_iadd (p' := 37) D_M_followsWithout_36 rfl ?_
  refine e_iload_3 (p' := 38) D_M_followsWithout_37 rfl ?_
  refine e_iastore (p' := 39) D_M_followsWithout_38 (by first | assumption | exact sUp_eq | (rw [sUp_ne (by omega)]; assumption) | (rw [sUp_ne (by omega), sUp_ne (by omega)]; assumption) | (rw [sUp_ne (by omega)]; exact sUp_eq) | (rw [gSet_ne (by omega) (by omega)]; first | assumption | exact sUp_eq | (rw [sUp_ne (by omega)]; assumption) | (rw [sUp_ne (by omega), sUp_ne (by omega)]; assumption)) | (rw [sUp_ne (by omega), sUp_ne (by omega), sUp_ne (by omega)]; assumption) | (simp [sUp]; done)) (by omega) (by omega) rfl ?_
  refine e_iload_4 (p' := 41) D_M_followsWithout_39 rfl ?_
  refine e_ireturn (ty := .int) D_M_followsWithout_41 rfl (by first | rfl | exact sBo_nar _) ⟨by decide, by decide⟩ ?_
  exact ⟨rfl, ⟨R1.z, sUp_eq.trans (congrArg (iA 39) (zN_back (p := 6 * r + c) (by omega)))⟩, fun a ha => (sUp_ne (by omega)).trans ((K1 a ha).trans (sUp_ne (by omega)))⟩
set_option maxRecDepth 4000 in
theorem c_M_isWellIf {l : Launch} {h : sH} {st : St} (hI : MInv h st) (hS : StOk st) {r c n : Int32} : sY l m_M_isWellIf 5 [.ref 61, .int r, .int c, .int n] h (some (.int (VwellIf st.1 r c n))) (MR h st) := by
  have hI0 := hI
  obtain ⟨hz, H⟩ := hI
  have H0 := H
  have hx := hS.1
  have hM := hx.2.2.1.le
  have hRr := hx.1
  have hCc := hx.2.1
  have hh6 := hS.2.1.1
  obtain ⟨⟨v, a1⟩, ⟨f, a2, b2⟩, ⟨f3, a3, b3⟩, ⟨f4, a4, b4⟩, ⟨f5, a5, b5⟩, ⟨f6, f7, f8, f9, a6, a7, a8, a9⟩, ⟨f10, a10⟩, ⟨f11, a11⟩, ⟨f12, a12⟩⟩ := H
  refine en_M_isWellIf ?_
  refine e_aload_0 (p' := 1) D_M_isWellIf_0 rfl ?_
  refine e_iload_1 (p' := 2) D_M_isWellIf_1 rfl ?_
  refine e_iload_2 (p' := 3) D_M_isWellIf_2 rfl ?_
  refine x_callV1 (p' := 6) D_M_isWellIf_3 V_M_88 (c_M_isEntry a1 hz hx) rfl (by first | assumption | exact sUp_eq | (rw [sUp_ne (by omega)]; assumption) | (rw [sUp_ne (by omega), sUp_ne (by omega)]; assumption) | (rw [sUp_ne (by omega)]; exact sUp_eq) | (rw [gSet_ne (by omega) (by omega)]; first | assumption | exact sUp_eq | (rw [sUp_ne (by omega)]; assumption) | (rw [sUp_ne (by omega), sUp_ne (by omega)]; assumption)) | (rw [sUp_ne (by omega), sUp_ne (by omega), sUp_ne (by omega)]; assumption) | (simp [sUp]; done)) rfl (Nat.le_of_ble_eq_true rfl) (by decide) ⟨by decide, by decide⟩ rfl ?_
  refine e_ifB_ne (q := 11) (p' := 9) D_M_isWellIf_6 rfl rfl (fun hc6 => ?_) (fun hc6 => ?_)
  ·
    refine e_iload_3 (p' := 12) D_M_isWellIf_11 rfl ?_
    refine e_iconst (v := nI 0) (p' := 13) D_M_isWellIf_12 cst_iconst_0 rfl ?_
    refine e_aload_0 (p' := 14) D_M_isWellIf_13 rfl ?_
    refine e_getfield (p' := 17) D_M_isWellIf_14 F_M_7 (by first | assumption | exact sUp_eq | (rw [sUp_ne (by omega)]; assumption) | (rw [sUp_ne (by omega), sUp_ne (by omega)]; assumption) | (rw [sUp_ne (by omega)]; exact sUp_eq) | (rw [gSet_ne (by omega) (by omega)]; first | assumption | exact sUp_eq | (rw [sUp_ne (by omega)]; assumption) | (rw [sUp_ne (by omega), sUp_ne (by omega)]; assumption)) | (rw [sUp_ne (by omega), sUp_ne (by omega), sUp_ne (by omega)]; assumption) | (simp [sUp]; done)) (by rfl) rfl ?_
    refine e_bipush (v := nI 38) (p' := 19) D_M_isWellIf_17 cst_bipush_38 rfl ?_
    refine e_iaload (p' := 20) D_M_isWellIf_19 (by first | assumption | exact sUp_eq | (rw [sUp_ne (by omega)]; assumption) | (rw [sUp_ne (by omega), sUp_ne (by omega)]; assumption) | (rw [sUp_ne (by omega)]; exact sUp_eq) | (rw [gSet_ne (by omega) (by omega)]; first | assumption | exact sUp_eq | (rw [sUp_ne (by omega)]; assumption) | (rw [sUp_ne (by omega), sUp_ne (by omega)]; assumption)) | (rw [sUp_ne (by omega), sUp_ne (by omega), sUp_ne (by omega)]; assumption) | (simp [sUp]; done)) (by omega) (by omega) (by rfl) rfl ?_
    rw [z38]
    refine e_iconst (v := nI 1) (p' := 21) D_M_isWellIf_20 cst_iconst_1 rfl ?_
    first | refine e_isubN (p' := 22) D_M_isWellIf_21 (by omega) rfl ?_ | refine e_isub (p' := 22) D_M_isWellIf_21 rfl ?_
    refine x_callS1 (p' := 25) D_M_isWellIf_22 S_M_52 (c_M_in) rfl rfl (Nat.le_of_ble_eq_true rfl) (by decide) ⟨by decide, by decide⟩ rfl ?_
    refine e_ifB_ne (q := 31) (p' := 28) D_M_isWellIf_25 rfl rfl (fun hc25 => ?_) (fun hc25 => ?_)
    ·
      have e0 : eT st.1 r c n = 0 := by
        unfold eT
        rw [if_neg (by rw [hc6]; decide), if_neg (by simpa using hc25)]
        rfl
      have e1 := e0
      obtain ⟨kr, kc, kv, kr1, kc1, kv1, rfl, rfl, rfl⟩ := eT_0 hx e0
      refine e_aload_0 (p' := 32) D_M_isWellIf_31 rfl ?_
      refine e_bipush (v := nI 6) (p' := 34) D_M_isWellIf_32 cst_bipush_6 rfl ?_
      refine e_iload_1 (p' := 35) D_M_isWellIf_34 rfl ?_
      first | refine e_imulN (p' := 36) D_M_isWellIf_35 rfl ?_ | refine e_imul (p' := 36) D_M_isWellIf_35 rfl ?_
      refine e_iload_2 (p' := 37) D_M_isWellIf_36 rfl ?_
      first | refine e_iaddN (p' := 38) D_M_isWellIf_37 rfl ?_ | refine e_iadd (p' := 38) D_M_isWellIf_37 rfl ?_
      refine e_iload_3 (p' := 39) D_M_isWellIf_38 rfl ?_
      refine y_callV1 (p' := 42) D_M_isWellIf_39 V_M_173 (c_M_isWellWith hz H0 hx (p := 6 * kr + kc) (w := kv) (by omega) (up_ok hx kr1 kc1 kv1)) rfl (by first | assumption | exact sUp_eq | (rw [sUp_ne (by omega)]; assumption) | (rw [sUp_ne (by omega), sUp_ne (by omega)]; assumption) | (rw [sUp_ne (by omega)]; exact sUp_eq) | (rw [gSet_ne (by omega) (by omega)]; first | assumption | exact sUp_eq | (rw [sUp_ne (by omega)]; assumption) | (rw [sUp_ne (by omega), sUp_ne (by omega)]; assumption)) | (rw [sUp_ne (by omega), sUp_ne (by omega), sUp_ne (by omega)]; assumption) | (simp [sUp]; done)) rfl (Nat.le_of_ble_eq_true rfl) (by decide) ⟨by decide, by decide⟩ rfl ?_
      rintro h1 ⟨⟨R1, Z1⟩, K1⟩
      refine e_ifB_eq (q := 49) (p' := 45) D_M_isWellIf_42 rfl rfl (fun hc42 => ?_) (fun hc42 => ?_)
      ·
        refine e_iconst (v := nI 0) (p' := 50) D_M_isWellIf_49 cst_iconst_0 rfl ?_
        refine e_ireturn (ty := .int) D_M_isWellIf_50 rfl (by first | rfl | exact sBo_nar _) ⟨by decide, by decide⟩ ?_
        unfold VwellIf
        rw [if_pos e1, natOf_nI (by omega), natOf_nI (by omega), natOf_nI (by omega), show wellX (upd1 st.1 kr kc kv) = _ from hc42]
        exact ⟨rfl, ⟨Z1, R1⟩, K1⟩
      ·
        refine e_iconst (v := nI 1) (p' := 46) D_M_isWellIf_45 cst_iconst_1 rfl ?_
        refine e_goto (p' := 50) D_M_isWellIf_46 rfl ?_
        refine e_ireturn (ty := .int) D_M_isWellIf_50 rfl (by first | rfl | exact sBo_nar _) ⟨by decide, by decide⟩ ?_
        unfold VwellIf
        rw [if_pos e1, natOf_nI (by omega), natOf_nI (by omega), natOf_nI (by omega), show wellX (upd1 st.1 kr kc kv) = _ from hc42]
        exact ⟨rfl, ⟨Z1, R1⟩, K1⟩
    ·
      refine e_bipush (v := (-2)) (p' := 30) D_M_isWellIf_28 cst_bipush_m2 rfl ?_
      refine e_ireturn (ty := .int) D_M_isWellIf_30 rfl (by first | rfl | exact sBo_nar _) ⟨by decide, by decide⟩ ?_
      have e2 : eT st.1 r c n = -2 := by
        unfold eT
        rw [if_neg (by rw [hc6]; decide), if_pos (by simpa using hc25)]
      unfold VwellIf; rw [e2, if_neg (by decide)]; exact ⟨rfl, hI0, FrK.rf⟩
  ·
    refine e_iconst (v := (-1)) (p' := 10) D_M_isWellIf_9 cst_iconst_m1 rfl ?_
    refine e_ireturn (ty := .int) D_M_isWellIf_10 rfl (by first | rfl | exact sBo_nar _) ⟨by decide, by decide⟩ ?_
    unfold VwellIf eT; rw [if_neg (by rw [if_pos hc6]; decide), if_pos hc6]; exact ⟨rfl, hI0, FrK.rf⟩
theorem spl_ok {x : Gd} (hx : Gok x) (p : Nat) : Gok (x.1, up x.2 p 0) := by
  have := hx.2.2.1.le
  refine ⟨hx.1, hx.2.1, hx.2.2.1, fun q => ?_, fun q hq => ?_⟩
  · show up x.2 p 0 q < x.1.2.2
    unfold up
    split
    · omega
    · exact hx.2.2.2.1 q
  · show up x.2 p 0 q = 0
    unfold up
    split
    · rfl
    · exact hx.2.2.2.2 q hq
theorem orL0 {m : Nat} : lN m ||| lN 0 = lN m := by
  refine Int64.toBitVec_inj.mp ?_
  rw [Int64.toBitVec_or]
  show BitVec.ofNat 64 m ||| BitVec.ofNat 64 0 = BitVec.ofNat 64 m
  rw [← BitVec.ofNat_or, Nat.or_zero]
set_option maxRecDepth 4000 in
theorem c_M_spoilers {l : Launch} {h : sH} {st : St} (hI : MInv h st) (hS : StOk st) : sY l m_M_spoilers 5 [.ref 61] h (some (.long (Vspoil st.1))) (MR h st) := by
  have hI0 := hI
  obtain ⟨hz, H⟩ := hI
  have H0 := H
  have hx := hS.1
  have hM := hx.2.2.1.le
  have hRr := hx.1
  have hCc := hx.2.1
  have hh6 := hS.2.1.1
  obtain ⟨⟨v, a1⟩, ⟨f, a2, b2⟩, ⟨f3, a3, b3⟩, ⟨f4, a4, b4⟩, ⟨f5, a5, b5⟩, ⟨f6, f7, f8, f9, a6, a7, a8, a9⟩, ⟨f10, a10⟩, ⟨f11, a11⟩, ⟨f12, a12⟩⟩ := H
  refine en_M_spoilers ?_
  refine e_aload_0 (p' := 1) D_M_spoilers_0 rfl ?_
  refine y_callV0 (p' := 4) D_M_spoilers_1 V_M_85 (c_M_layParts a1 hz hx (MRest.arr H0)) rfl (by first | assumption | exact sUp_eq | (rw [sUp_ne (by omega)]; assumption) | (rw [sUp_ne (by omega), sUp_ne (by omega)]; assumption) | (rw [sUp_ne (by omega)]; exact sUp_eq) | (rw [gSet_ne (by omega) (by omega)]; first | assumption | exact sUp_eq | (rw [sUp_ne (by omega)]; assumption) | (rw [sUp_ne (by omega), sUp_ne (by omega)]; assumption)) | (rw [sUp_ne (by omega), sUp_ne (by omega), sUp_ne (by omega)]; assumption) | (simp [sUp]; done)) rfl (Nat.le_of_ble_eq_true rfl) (by decide) ⟨by decide, by decide⟩ rfl ?_
  rintro h0 ⟨P1, m1, L1⟩
  have Z1 := (L1 62 (by omega) (by omega)).trans (hz)
  have R1 := MRest.lay H0 m1 ⟨_, P1⟩ L1
  obtain ⟨e1, e2, e3, e4, p1, p2, p3, p4, PV⟩ := id P1
  refine e_aload_0 (p' := 5) D_M_spoilers_4 rfl ?_
  refine e_getfield (p' := 8) D_M_spoilers_5 F_M_81 (by first | assumption | exact sUp_eq | (rw [sUp_ne (by omega)]; assumption) | (rw [sUp_ne (by omega), sUp_ne (by omega)]; assumption) | (rw [sUp_ne (by omega)]; exact sUp_eq) | (rw [gSet_ne (by omega) (by omega)]; first | assumption | exact sUp_eq | (rw [sUp_ne (by omega)]; assumption) | (rw [sUp_ne (by omega), sUp_ne (by omega)]; assumption)) | (rw [sUp_ne (by omega), sUp_ne (by omega), sUp_ne (by omega)]; assumption) | (simp [sUp]; done)) (by rfl) rfl ?_
  refine e_ifB_eq (q := 15) (p' := 11) D_M_spoilers_8 rfl rfl (fun hc8 => ?_) (fun hc8 => ?_)
  ·
    refine e_lconst (v := lN 0) (p' := 16) D_M_spoilers_15 rfl rfl ?_
    refine e_lstore_1 (p' := 17) D_M_spoilers_16 (Nat.le_of_ble_eq_true rfl) rfl rfl ?_
    refine e_iconst (v := nI 0) (p' := 18) D_M_spoilers_17 cst_iconst_0 rfl ?_
    refine e_istore_3 (p' := 19) D_M_spoilers_18 (Nat.le_of_ble_eq_true rfl) rfl rfl ?_
    have lk19 : ∀ i : Nat, i ≤ 36 → ∀ (h1 : sH), ((MRest h1 st.2 ∧ h1.2 62 = iA 39 (nF (zN st.1))) ∧ FrK h h1) → sEv l m_M_spoilers 5 (0, 0, 0, 0) (sKm 0 0 (fun r1 h1 => r1 = some (.long (Vspoil st.1)) ∧ (MR h st) h1)) 19 [some (.ref 61), some (.long (lN (mk i (spl st.1)))), none, some (.int (nI i)), none] [] (h1) := by
      refine lp_up _ ?_ ?_
      · intro h1 ⟨⟨CC, CZ⟩, FF⟩
        obtain ⟨v1, c1⟩ := CC.1
        have bz := hx.2.2.2.1 36
        refine e_iload_3 (p' := 20) D_M_spoilers_19 rfl ?_
        refine e_bipush (v := nI 36) (p' := 22) D_M_spoilers_20 cst_bipush_36 rfl ?_
        refine e_icmpN_ge (q := 71) (p' := 25) D_M_spoilers_22 (by omega) (by omega) rfl rfl (fun hc22 => ?_) (fun hc22 => ?_)
        ·
          refine e_lload_1 (p' := 72) D_M_spoilers_71 rfl ?_
          refine e_lreturn D_M_spoilers_72 rfl ⟨by decide, by decide⟩ ?_
          unfold Vspoil; rw [if_neg (by rw [hc8]; decide)]; exact ⟨rfl, ⟨CZ, CC⟩, FF⟩
        ·
          exfalso; omega
      · intro i hi ih19 h1 ⟨⟨CC, CZ⟩, FF⟩
        obtain ⟨v1, c1⟩ := CC.1
        have bz := hx.2.2.2.1 i
        refine e_iload_3 (p' := 20) D_M_spoilers_19 rfl ?_
        refine e_bipush (v := nI 36) (p' := 22) D_M_spoilers_20 cst_bipush_36 rfl ?_
        refine e_icmpN_ge (q := 71) (p' := 25) D_M_spoilers_22 (by omega) (by omega) rfl rfl (fun hc22 => ?_) (fun hc22 => ?_)
        ·
          exfalso; omega
        ·
          refine e_aload_0 (p' := 26) D_M_spoilers_25 rfl ?_
          refine e_getfield (p' := 29) D_M_spoilers_26 F_M_7 (by first | assumption | exact sUp_eq | (rw [sUp_ne (by omega)]; assumption) | (rw [sUp_ne (by omega), sUp_ne (by omega)]; assumption) | (rw [sUp_ne (by omega)]; exact sUp_eq) | (rw [gSet_ne (by omega) (by omega)]; first | assumption | exact sUp_eq | (rw [sUp_ne (by omega)]; assumption) | (rw [sUp_ne (by omega), sUp_ne (by omega)]; assumption)) | (rw [sUp_ne (by omega), sUp_ne (by omega), sUp_ne (by omega)]; assumption) | (simp [sUp]; done)) (by rfl) rfl ?_
          refine e_iload_3 (p' := 30) D_M_spoilers_29 rfl ?_
          refine e_iaload (p' := 31) D_M_spoilers_30 (by first | assumption | exact sUp_eq | (rw [sUp_ne (by omega)]; assumption) | (rw [sUp_ne (by omega), sUp_ne (by omega)]; assumption) | (rw [sUp_ne (by omega)]; exact sUp_eq) | (rw [gSet_ne (by omega) (by omega)]; first | assumption | exact sUp_eq | (rw [sUp_ne (by omega)]; assumption) | (rw [sUp_ne (by omega), sUp_ne (by omega)]; assumption)) | (rw [sUp_ne (by omega), sUp_ne (by omega), sUp_ne (by omega)]; assumption) | (simp [sUp]; done)) (by omega) (by omega) (by rfl) rfl ?_
          rw [zP (by omega)]
          refine e_ifN_le (q := 47) (p' := 34) D_M_spoilers_31 (by omega) rfl rfl (fun hc31 => ?_) (fun hc31 => ?_)
          ·
            refine e_iconst (v := nI 0) (p' := 48) D_M_spoilers_47 cst_iconst_0 rfl ?_
            refine e_istore_4 (p' := 50) D_M_spoilers_48 (Nat.le_of_ble_eq_true rfl) rfl rfl ?_
            refine e_lload_1 (p' := 51) D_M_spoilers_50 rfl ?_
            refine e_iload_4 (p' := 53) D_M_spoilers_51 rfl ?_
            refine e_ifN_eq (q := 62) (p' := 56) D_M_spoilers_53 (by omega) rfl rfl (fun hc53 => ?_) (fun hc53 => ?_)
            ·
              refine e_lconst (v := lN 0) (p' := 63) D_M_spoilers_62 rfl rfl ?_
              refine e_lor (p' := 64) D_M_spoilers_63 rfl ?_
              refine e_lstore_1 (p' := 65) D_M_spoilers_64 (Nat.le_of_ble_eq_true rfl) rfl rfl ?_
              first | refine e_iincN_3 (n := 1) (p' := 68) D_M_spoilers_65 (Nat.le_of_ble_eq_true rfl) rfl rfl ?_ | refine e_iinc_3 (p' := 68) D_M_spoilers_65 (Nat.le_of_ble_eq_true rfl) rfl rfl rfl ?_
              refine e_goto (p' := 19) D_M_spoilers_68 rfl ?_
              refine sEv.castW (ih19 h1 ⟨⟨CC, CZ⟩, FF⟩) ?_ ?_ ?_
              · refine ⟨rfl, ?_, rfl, trivial⟩
                rw [mk_skip (by unfold spl; rw [decide_eq_false (by omega)]; rfl), orL0]
              · rfl
              · first | rfl | (simp; done)
            ·
              exfalso; omega
          ·
            refine e_aload_0 (p' := 35) D_M_spoilers_34 rfl ?_
            refine e_iload_3 (p' := 36) D_M_spoilers_35 rfl ?_
            refine e_iconst (v := nI 0) (p' := 37) D_M_spoilers_36 cst_iconst_0 rfl ?_
            refine y_callV1 (p' := 40) D_M_spoilers_37 V_M_173 (c_M_isWellWith CZ CC hx (p := i) (w := 0) (by omega) (spl_ok hx i)) rfl (by first | assumption | exact sUp_eq | (rw [sUp_ne (by omega)]; assumption) | (rw [sUp_ne (by omega), sUp_ne (by omega)]; assumption) | (rw [sUp_ne (by omega)]; exact sUp_eq) | (rw [gSet_ne (by omega) (by omega)]; first | assumption | exact sUp_eq | (rw [sUp_ne (by omega)]; assumption) | (rw [sUp_ne (by omega), sUp_ne (by omega)]; assumption)) | (rw [sUp_ne (by omega), sUp_ne (by omega), sUp_ne (by omega)]; assumption) | (simp [sUp]; done)) rfl (Nat.le_of_ble_eq_true rfl) (by decide) ⟨by decide, by decide⟩ rfl ?_
            rintro h2 ⟨⟨R2, Z2⟩, K2⟩
            refine e_ifB_eq (q := 47) (p' := 43) D_M_spoilers_40 rfl rfl (fun hc40 => ?_) (fun hc40 => ?_)
            ·
              refine e_iconst (v := nI 0) (p' := 48) D_M_spoilers_47 cst_iconst_0 rfl ?_
              refine e_istore_4 (p' := 50) D_M_spoilers_48 (Nat.le_of_ble_eq_true rfl) rfl rfl ?_
              refine e_lload_1 (p' := 51) D_M_spoilers_50 rfl ?_
              refine e_iload_4 (p' := 53) D_M_spoilers_51 rfl ?_
              refine e_ifN_eq (q := 62) (p' := 56) D_M_spoilers_53 (by omega) rfl rfl (fun hc53 => ?_) (fun hc53 => ?_)
              ·
                refine e_lconst (v := lN 0) (p' := 63) D_M_spoilers_62 rfl rfl ?_
                refine e_lor (p' := 64) D_M_spoilers_63 rfl ?_
                refine e_lstore_1 (p' := 65) D_M_spoilers_64 (Nat.le_of_ble_eq_true rfl) rfl rfl ?_
                first | refine e_iincN_3 (n := 1) (p' := 68) D_M_spoilers_65 (Nat.le_of_ble_eq_true rfl) rfl rfl ?_ | refine e_iinc_3 (p' := 68) D_M_spoilers_65 (Nat.le_of_ble_eq_true rfl) rfl rfl rfl ?_
                refine e_goto (p' := 19) D_M_spoilers_68 rfl ?_
                refine sEv.castW (ih19 h2 ⟨⟨R2, Z2⟩, FF.tr K2⟩) ?_ ?_ ?_
                · refine ⟨rfl, ?_, rfl, trivial⟩
                  rw [mk_skip (by unfold spl; rw [hc40, Bool.and_false]), orL0]
                · rfl
                · first | rfl | (simp; done)
              ·
                exfalso; omega
            ·
              refine e_iconst (v := nI 1) (p' := 44) D_M_spoilers_43 cst_iconst_1 rfl ?_
              refine e_goto (p' := 48) D_M_spoilers_44 rfl ?_
              refine e_istore_4 (p' := 50) D_M_spoilers_48 (Nat.le_of_ble_eq_true rfl) rfl rfl ?_
              refine e_lload_1 (p' := 51) D_M_spoilers_50 rfl ?_
              refine e_iload_4 (p' := 53) D_M_spoilers_51 rfl ?_
              refine e_ifN_eq (q := 62) (p' := 56) D_M_spoilers_53 (by omega) rfl rfl (fun hc53 => ?_) (fun hc53 => ?_)
              ·
                exfalso; omega
              ·
                refine e_lconst (v := lN 1) (p' := 57) D_M_spoilers_56 rfl rfl ?_
                refine e_iload_3 (p' := 58) D_M_spoilers_57 rfl ?_
                refine e_lshl (p' := 59) D_M_spoilers_58 rfl rfl ?_
                refine e_goto (p' := 63) D_M_spoilers_59 rfl ?_
                refine e_lor (p' := 64) D_M_spoilers_63 rfl ?_
                refine e_lstore_1 (p' := 65) D_M_spoilers_64 (Nat.le_of_ble_eq_true rfl) rfl rfl ?_
                first | refine e_iincN_3 (n := 1) (p' := 68) D_M_spoilers_65 (Nat.le_of_ble_eq_true rfl) rfl rfl ?_ | refine e_iinc_3 (p' := 68) D_M_spoilers_65 (Nat.le_of_ble_eq_true rfl) rfl rfl rfl ?_
                refine e_goto (p' := 19) D_M_spoilers_68 rfl ?_
                refine sEv.castW (ih19 h2 ⟨⟨R2, Z2⟩, FF.tr K2⟩) ?_ ?_ ?_
                · refine ⟨rfl, ?_, rfl, trivial⟩
                  have sp : spl st.1 i = true := by
                    unfold spl
                    rw [hc40, Bool.and_true]
                    exact decide_eq_true (by omega)
                  rw [mk_succ, sp, shlL _ (by omega), orL mk_lt]
                  rfl
                · rfl
                · first | rfl | (simp; done)
    refine sEv.castW (lk19 0 (by omega) h0 ⟨⟨R1, Z1⟩, L1.k⟩) ?_ ?_ ?_
    · exact ⟨rfl, rfl, rfl, trivial⟩
    · rfl
    · first | rfl | (simp; done)
  ·
    refine e_ldc2 (p' := 14) D_M_spoilers_11 K_M_176 rfl ?_
    refine e_lreturn D_M_spoilers_14 rfl ⟨by decide, by decide⟩ ?_
    unfold Vspoil; rw [if_pos hc8]; exact ⟨rfl, ⟨Z1, R1⟩, L1.k⟩
