/-! ===== the constructors: History, OneRankGrid, the reference ===== -/
def st0 : St := (g0, (0, fun _ => g0), (fun _ => none), (0, fun _ => 0))
theorem st0_ok : StOk st0 := ⟨g0_ok, ⟨Nat.zero_le _, fun _ _ => g0_ok⟩, (fun _ _ e => nomatch e), Nat.zero_le _, fun _ hi => absurd hi (Nat.not_lt_zero _)⟩
theorem z_g0 : upd (upd (upd (fun _ => (0 : Int32)) 36 (nI 3)) 37 (nI 3)) 38 (nI 7) = nF (zN g0) := by
  funext p
  by_cases e8 : p = 38
  · rw [e8, upd_at]; rfl
  · rw [upd_off e8]
    by_cases e7 : p = 37
    · rw [e7, upd_at]; rfl
    · rw [upd_off e7]
      by_cases e6 : p = 36
      · rw [e6, upd_at]; rfl
      · rw [upd_off e6]
        unfold nF zN
        by_cases w : p < 36
        · rw [if_pos w]; rfl
        · rw [if_neg w, if_neg e6, if_neg e7, if_neg e8]; rfl
theorem NA_Hist_9 : Cond.classLink RX1 9 "OneRankGrid$Grid" ∈ lw_good := lw_goodI 214 (by decide +kernel) (by decide +kernel)
set_option maxRecDepth 4000 in
theorem c_Hist_init {l : Launch} {h : sH} (e0 : h.1 = 33) (o0 : h.2 32 = oC 1 [.null, .int 0, .int 0]) : sCall l m_Hist_init 3 19 252 [.ref 32] h (fun r h9 => r = none ∧ (h9.1 = 52 ∧ HsAt h9 (0, fun _ => g0)) ∧ ∀ b, b < 32 → h9.2 b = h.2 b) := by
  refine en_Hist_init ?_
  refine e_aload_0 (p' := 1) D_Hist_init_0 rfl ?_
  refine e_objInit (p' := 4) D_Hist_init_1 OI_Hist_3 OI_inst OI_code (Nat.le_of_ble_eq_true rfl) (by decide) rfl ?_
  refine e_aload_0 (p' := 5) D_Hist_init_4 rfl ?_
  refine e_bipush (v := nI 6) (p' := 7) D_Hist_init_5 cst_bipush_6 rfl ?_
  refine e_anewarr (p' := 10) D_Hist_init_7 (Or.inl ⟨rfl, rfl⟩) NA_Hist_9 (by decide) (by decide) ⟨Nat.le_of_ble_eq_true rfl, Nat.le_of_ble_eq_true rfl⟩ rfl ?_
  refine ev_push (fun h1 n1 c1 f1 => ?_)
  rw [e0] at n1 c1 f1 ⊢
  have e1 : h1.1 = 34 := n1
  have o1 := (f1 (32) (by omega)).trans o0
  have r1 := c1
  refine e_putfield (p' := 13) D_Hist_init_10 F_Hist_11 (Or.inr rfl) (by first | assumption | exact sUp_eq | (rw [sUp_ne (by omega)]; assumption) | (rw [sUp_ne (by omega), sUp_ne (by omega)]; assumption) | (rw [sUp_ne (by omega)]; exact sUp_eq) | (rw [gSet_ne (by omega) (by omega)]; first | assumption | exact sUp_eq | (rw [sUp_ne (by omega)]; assumption) | (rw [sUp_ne (by omega), sUp_ne (by omega)]; assumption)) | (rw [sUp_ne (by omega), sUp_ne (by omega), sUp_ne (by omega)]; assumption) | (simp [sUp]; done)) (fun _ => ⟨rfl, rfl⟩) (Nat.le_of_ble_eq_true rfl) (by rfl) rfl ?_
  try dsimp only [List.set]
  refine ev_up (fun h2 n2 o2 f2 => ?_)
  have e2 := n2.trans e1
  have r2 := (f2 (33) (by omega)).trans r1
  refine e_iconst (v := nI 0) (p' := 14) D_Hist_init_13 cst_iconst_0 rfl ?_
  refine e_istore_1 (p' := 15) D_Hist_init_14 (Nat.le_of_ble_eq_true rfl) rfl rfl ?_
  refine e_iload_1 (p' := 16) D_Hist_init_15 rfl ?_
  refine e_aload_0 (p' := 17) D_Hist_init_16 rfl ?_
  refine e_getfield (p' := 20) D_Hist_init_17 F_Hist_11 (by first | assumption | exact sUp_eq | (rw [sUp_ne (by omega)]; assumption) | (rw [sUp_ne (by omega), sUp_ne (by omega)]; assumption) | (rw [sUp_ne (by omega)]; exact sUp_eq) | (rw [gSet_ne (by omega) (by omega)]; first | assumption | exact sUp_eq | (rw [sUp_ne (by omega)]; assumption) | (rw [sUp_ne (by omega), sUp_ne (by omega)]; assumption)) | (rw [sUp_ne (by omega), sUp_ne (by omega), sUp_ne (by omega)]; assumption) | (simp [sUp]; done)) (by rfl) rfl ?_
  first | refine e_alen (p' := 21) D_Hist_init_20 (by first | assumption | exact sUp_eq | (rw [sUp_ne (by omega)]; assumption) | (rw [sUp_ne (by omega), sUp_ne (by omega)]; assumption) | (rw [sUp_ne (by omega)]; exact sUp_eq) | (rw [gSet_ne (by omega) (by omega)]; first | assumption | exact sUp_eq | (rw [sUp_ne (by omega)]; assumption) | (rw [sUp_ne (by omega), sUp_ne (by omega)]; assumption)) | (rw [sUp_ne (by omega), sUp_ne (by omega), sUp_ne (by omega)]; assumption) | (simp [sUp]; done)) (by decide) rfl ?_ | refine e_alenq (p' := 21) D_Hist_init_20 (by first | assumption | exact sUp_eq | (rw [sUp_ne (by omega)]; assumption) | (rw [sUp_ne (by omega), sUp_ne (by omega)]; assumption) | (rw [sUp_ne (by omega)]; exact sUp_eq) | (rw [gSet_ne (by omega) (by omega)]; first | assumption | exact sUp_eq | (rw [sUp_ne (by omega)]; assumption) | (rw [sUp_ne (by omega), sUp_ne (by omega)]; assumption)) | (rw [sUp_ne (by omega), sUp_ne (by omega), sUp_ne (by omega)]; assumption) | (simp [sUp]; done)) (by decide) rfl ?_
  refine e_icmpN_ge (q := 43) (p' := 24) D_Hist_init_21 (by omega) (by omega) rfl rfl (fun hc21 => ?_) (fun hc21 => ?_)
  ·
    exfalso; omega
  ·
    refine e_aload_0 (p' := 25) D_Hist_init_24 rfl ?_
    refine e_getfield (p' := 28) D_Hist_init_25 F_Hist_11 (by first | assumption | exact sUp_eq | (rw [sUp_ne (by omega)]; assumption) | (rw [sUp_ne (by omega), sUp_ne (by omega)]; assumption) | (rw [sUp_ne (by omega)]; exact sUp_eq) | (rw [gSet_ne (by omega) (by omega)]; first | assumption | exact sUp_eq | (rw [sUp_ne (by omega)]; assumption) | (rw [sUp_ne (by omega), sUp_ne (by omega)]; assumption)) | (rw [sUp_ne (by omega), sUp_ne (by omega), sUp_ne (by omega)]; assumption) | (simp [sUp]; done)) (by rfl) rfl ?_
    refine e_iload_1 (p' := 29) D_Hist_init_28 rfl ?_
    refine e_new (p' := 32) D_Hist_init_29 N_Hist_9 ⟨Nat.le_of_ble_eq_true rfl, Nat.le_of_ble_eq_true rfl⟩ rfl ?_
    refine ev_push (fun h3 n3 c3 f3 => ?_)
    rw [e2] at n3 c3 f3 ⊢
    have e3 : h3.1 = 35 := n3
    have o3 := (f3 (32) (by omega)).trans o2
    have r3 := (f3 (33) (by omega)).trans r2
    refine e_dup (p' := 33) D_Hist_init_32 rfl rfl ?_
    refine e_callIN (p' := 36) D_Hist_init_33 IN_Hist_17 (c_Grid_init e3 c3) rfl rfl (Nat.le_of_ble_eq_true rfl) (by decide) ⟨Nat.le_of_ble_eq_true rfl, Nat.le_of_ble_eq_true rfl⟩ rfl ?_
    rintro _ h4 ⟨rfl, ⟨n4, x4⟩, f4⟩
    try simp only [Option.toList, List.nil_append]
    have e4 : h4.1 = 37 := n4
    have o4 := (f4 (32) (by omega)).trans o3
    have r4 := (f4 (33) (by omega)).trans r3
    have w4 := x4.1
    refine e_aastore (t := 3) (Cn := "OneRankGrid$Grid") (p' := 37) D_Hist_init_36 (by decide) rfl (by first | assumption | exact sUp_eq | (rw [sUp_ne (by omega)]; assumption) | (rw [sUp_ne (by omega), sUp_ne (by omega)]; assumption) | (rw [sUp_ne (by omega)]; exact sUp_eq) | (rw [gSet_ne (by omega) (by omega)]; first | assumption | exact sUp_eq | (rw [sUp_ne (by omega)]; assumption) | (rw [sUp_ne (by omega), sUp_ne (by omega)]; assumption)) | (rw [sUp_ne (by omega), sUp_ne (by omega), sUp_ne (by omega)]; assumption) | (simp [sUp]; done)) (by first | assumption | exact sUp_eq | (rw [sUp_ne (by omega)]; assumption) | (rw [sUp_ne (by omega), sUp_ne (by omega)]; assumption) | (rw [sUp_ne (by omega)]; exact sUp_eq) | (rw [gSet_ne (by omega) (by omega)]; first | assumption | exact sUp_eq | (rw [sUp_ne (by omega)]; assumption) | (rw [sUp_ne (by omega), sUp_ne (by omega)]; assumption)) | (rw [sUp_ne (by omega), sUp_ne (by omega), sUp_ne (by omega)]; assumption) | (simp [sUp]; done)) rfl (by omega) (by omega) rfl ?_
    refine ev_up (fun h5 n5 c5 f5 => ?_)
    have e5 := n5.trans e4
    have o5 := (f5 (32) (by omega)).trans o4
    have r5 := c5
    first | refine e_iincN_1 (n := 1) (p' := 40) D_Hist_init_37 (Nat.le_of_ble_eq_true rfl) rfl rfl ?_ | refine e_iinc_1 (p' := 40) D_Hist_init_37 (Nat.le_of_ble_eq_true rfl) rfl rfl rfl ?_
    refine e_goto (p' := 15) D_Hist_init_40 rfl ?_
    refine e_iload_1 (p' := 16) D_Hist_init_15 rfl ?_
    refine e_aload_0 (p' := 17) D_Hist_init_16 rfl ?_
    refine e_getfield (p' := 20) D_Hist_init_17 F_Hist_11 (by first | assumption | exact sUp_eq | (rw [sUp_ne (by omega)]; assumption) | (rw [sUp_ne (by omega), sUp_ne (by omega)]; assumption) | (rw [sUp_ne (by omega)]; exact sUp_eq) | (rw [gSet_ne (by omega) (by omega)]; first | assumption | exact sUp_eq | (rw [sUp_ne (by omega)]; assumption) | (rw [sUp_ne (by omega), sUp_ne (by omega)]; assumption)) | (rw [sUp_ne (by omega), sUp_ne (by omega), sUp_ne (by omega)]; assumption) | (simp [sUp]; done)) (by rfl) rfl ?_
    first | refine e_alen (p' := 21) D_Hist_init_20 (by first | assumption | exact sUp_eq | (rw [sUp_ne (by omega)]; assumption) | (rw [sUp_ne (by omega), sUp_ne (by omega)]; assumption) | (rw [sUp_ne (by omega)]; exact sUp_eq) | (rw [gSet_ne (by omega) (by omega)]; first | assumption | exact sUp_eq | (rw [sUp_ne (by omega)]; assumption) | (rw [sUp_ne (by omega), sUp_ne (by omega)]; assumption)) | (rw [sUp_ne (by omega), sUp_ne (by omega), sUp_ne (by omega)]; assumption) | (simp [sUp]; done)) (by decide) rfl ?_ | refine e_alenq (p' := 21) D_Hist_init_20 (by first | assumption | exact sUp_eq | (rw [sUp_ne (by omega)]; assumption) | (rw [sUp_ne (by omega), sUp_ne (by omega)]; assumption) | (rw [sUp_ne (by omega)]; exact sUp_eq) | (rw [gSet_ne (by omega) (by omega)]; first | assumption | exact sUp_eq | (rw [sUp_ne (by omega)]; assumption) | (rw [sUp_ne (by omega), sUp_ne (by omega)]; assumption)) | (rw [sUp_ne (by omega), sUp_ne (by omega), sUp_ne (by omega)]; assumption) | (simp [sUp]; done)) (by decide) rfl ?_
    refine e_icmpN_ge (q := 43) (p' := 24) D_Hist_init_21 (by omega) (by omega) rfl rfl (fun hc21 => ?_) (fun hc21 => ?_)
    ·
      exfalso; omega
    ·
      refine e_aload_0 (p' := 25) D_Hist_init_24 rfl ?_
      refine e_getfield (p' := 28) D_Hist_init_25 F_Hist_11 (by first | assumption | exact sUp_eq | (rw [sUp_ne (by omega)]; assumption) | (rw [sUp_ne (by omega), sUp_ne (by omega)]; assumption) | (rw [sUp_ne (by omega)]; exact sUp_eq) | (rw [gSet_ne (by omega) (by omega)]; first | assumption | exact sUp_eq | (rw [sUp_ne (by omega)]; assumption) | (rw [sUp_ne (by omega), sUp_ne (by omega)]; assumption)) | (rw [sUp_ne (by omega), sUp_ne (by omega), sUp_ne (by omega)]; assumption) | (simp [sUp]; done)) (by rfl) rfl ?_
      refine e_iload_1 (p' := 29) D_Hist_init_28 rfl ?_
      refine e_new (p' := 32) D_Hist_init_29 N_Hist_9 ⟨Nat.le_of_ble_eq_true rfl, Nat.le_of_ble_eq_true rfl⟩ rfl ?_
      refine ev_push (fun h6 n6 c6 f6 => ?_)
      rw [e5] at n6 c6 f6 ⊢
      have e6 : h6.1 = 38 := n6
      have o6 := (f6 (32) (by omega)).trans o5
      have r6 := (f6 (33) (by omega)).trans r5
      refine e_dup (p' := 33) D_Hist_init_32 rfl rfl ?_
      refine e_callIN (p' := 36) D_Hist_init_33 IN_Hist_17 (c_Grid_init e6 c6) rfl rfl (Nat.le_of_ble_eq_true rfl) (by decide) ⟨Nat.le_of_ble_eq_true rfl, Nat.le_of_ble_eq_true rfl⟩ rfl ?_
      rintro _ h7 ⟨rfl, ⟨n7, x7⟩, f7⟩
      try simp only [Option.toList, List.nil_append]
      have e7 : h7.1 = 40 := n7
      have o7 := (f7 (32) (by omega)).trans o6
      have r7 := (f7 (33) (by omega)).trans r6
      have w7 := x7.1
      refine e_aastore (t := 3) (Cn := "OneRankGrid$Grid") (p' := 37) D_Hist_init_36 (by decide) rfl (by first | assumption | exact sUp_eq | (rw [sUp_ne (by omega)]; assumption) | (rw [sUp_ne (by omega), sUp_ne (by omega)]; assumption) | (rw [sUp_ne (by omega)]; exact sUp_eq) | (rw [gSet_ne (by omega) (by omega)]; first | assumption | exact sUp_eq | (rw [sUp_ne (by omega)]; assumption) | (rw [sUp_ne (by omega), sUp_ne (by omega)]; assumption)) | (rw [sUp_ne (by omega), sUp_ne (by omega), sUp_ne (by omega)]; assumption) | (simp [sUp]; done)) (by first | assumption | exact sUp_eq | (rw [sUp_ne (by omega)]; assumption) | (rw [sUp_ne (by omega), sUp_ne (by omega)]; assumption) | (rw [sUp_ne (by omega)]; exact sUp_eq) | (rw [gSet_ne (by omega) (by omega)]; first | assumption | exact sUp_eq | (rw [sUp_ne (by omega)]; assumption) | (rw [sUp_ne (by omega), sUp_ne (by omega)]; assumption)) | (rw [sUp_ne (by omega), sUp_ne (by omega), sUp_ne (by omega)]; assumption) | (simp [sUp]; done)) rfl (by omega) (by omega) rfl ?_
      refine ev_up (fun h8 n8 c8 f8 => ?_)
      have e8 := n8.trans e7
      have o8 := (f8 (32) (by omega)).trans o7
      have r8 := c8
      first | refine e_iincN_1 (n := 1) (p' := 40) D_Hist_init_37 (Nat.le_of_ble_eq_true rfl) rfl rfl ?_ | refine e_iinc_1 (p' := 40) D_Hist_init_37 (Nat.le_of_ble_eq_true rfl) rfl rfl rfl ?_
      refine e_goto (p' := 15) D_Hist_init_40 rfl ?_
      refine e_iload_1 (p' := 16) D_Hist_init_15 rfl ?_
      refine e_aload_0 (p' := 17) D_Hist_init_16 rfl ?_
      refine e_getfield (p' := 20) D_Hist_init_17 F_Hist_11 (by first | assumption | exact sUp_eq | (rw [sUp_ne (by omega)]; assumption) | (rw [sUp_ne (by omega), sUp_ne (by omega)]; assumption) | (rw [sUp_ne (by omega)]; exact sUp_eq) | (rw [gSet_ne (by omega) (by omega)]; first | assumption | exact sUp_eq | (rw [sUp_ne (by omega)]; assumption) | (rw [sUp_ne (by omega), sUp_ne (by omega)]; assumption)) | (rw [sUp_ne (by omega), sUp_ne (by omega), sUp_ne (by omega)]; assumption) | (simp [sUp]; done)) (by rfl) rfl ?_
      first | refine e_alen (p' := 21) D_Hist_init_20 (by first | assumption | exact sUp_eq | (rw [sUp_ne (by omega)]; assumption) | (rw [sUp_ne (by omega), sUp_ne (by omega)]; assumption) | (rw [sUp_ne (by omega)]; exact sUp_eq) | (rw [gSet_ne (by omega) (by omega)]; first | assumption | exact sUp_eq | (rw [sUp_ne (by omega)]; assumption) | (rw [sUp_ne (by omega), sUp_ne (by omega)]; assumption)) | (rw [sUp_ne (by omega), sUp_ne (by omega), sUp_ne (by omega)]; assumption) | (simp [sUp]; done)) (by decide) rfl ?_ | refine e_alenq (p' := 21) D_Hist_init_20 (by first | assumption | exact sUp_eq | (rw [sUp_ne (by omega)]; assumption) | (rw [sUp_ne (by omega), sUp_ne (by omega)]; assumption) | (rw [sUp_ne (by omega)]; exact sUp_eq) | (rw [gSet_ne (by omega) (by omega)]; first | assumption | exact sUp_eq | (rw [sUp_ne (by omega)]; assumption) | (rw [sUp_ne (by omega), sUp_ne (by omega)]; assumption)) | (rw [sUp_ne (by omega), sUp_ne (by omega), sUp_ne (by omega)]; assumption) | (simp [sUp]; done)) (by decide) rfl ?_
      refine e_icmpN_ge (q := 43) (p' := 24) D_Hist_init_21 (by omega) (by omega) rfl rfl (fun hc21 => ?_) (fun hc21 => ?_)
      ·
        exfalso; omega
      ·
        refine e_aload_0 (p' := 25) D_Hist_init_24 rfl ?_
        refine e_getfield (p' := 28) D_Hist_init_25 F_Hist_11 (by first | assumption | exact sUp_eq | (rw [sUp_ne (by omega)]; assumption) | (rw [sUp_ne (by omega), sUp_ne (by omega)]; assumption) | (rw [sUp_ne (by omega)]; exact sUp_eq) | (rw [gSet_ne (by omega) (by omega)]; first | assumption | exact sUp_eq | (rw [sUp_ne (by omega)]; assumption) | (rw [sUp_ne (by omega), sUp_ne (by omega)]; assumption)) | (rw [sUp_ne (by omega), sUp_ne (by omega), sUp_ne (by omega)]; assumption) | (simp [sUp]; done)) (by rfl) rfl ?_
        refine e_iload_1 (p' := 29) D_Hist_init_28 rfl ?_
        refine e_new (p' := 32) D_Hist_init_29 N_Hist_9 ⟨Nat.le_of_ble_eq_true rfl, Nat.le_of_ble_eq_true rfl⟩ rfl ?_
        refine ev_push (fun h9 n9 c9 f9 => ?_)
        rw [e8] at n9 c9 f9 ⊢
        have e9 : h9.1 = 41 := n9
        have o9 := (f9 (32) (by omega)).trans o8
        have r9 := (f9 (33) (by omega)).trans r8
        refine e_dup (p' := 33) D_Hist_init_32 rfl rfl ?_
        refine e_callIN (p' := 36) D_Hist_init_33 IN_Hist_17 (c_Grid_init e9 c9) rfl rfl (Nat.le_of_ble_eq_true rfl) (by decide) ⟨Nat.le_of_ble_eq_true rfl, Nat.le_of_ble_eq_true rfl⟩ rfl ?_
        rintro _ h10 ⟨rfl, ⟨n10, x10⟩, f10⟩
        try simp only [Option.toList, List.nil_append]
        have e10 : h10.1 = 43 := n10
        have o10 := (f10 (32) (by omega)).trans o9
        have r10 := (f10 (33) (by omega)).trans r9
        have w10 := x10.1
        refine e_aastore (t := 3) (Cn := "OneRankGrid$Grid") (p' := 37) D_Hist_init_36 (by decide) rfl (by first | assumption | exact sUp_eq | (rw [sUp_ne (by omega)]; assumption) | (rw [sUp_ne (by omega), sUp_ne (by omega)]; assumption) | (rw [sUp_ne (by omega)]; exact sUp_eq) | (rw [gSet_ne (by omega) (by omega)]; first | assumption | exact sUp_eq | (rw [sUp_ne (by omega)]; assumption) | (rw [sUp_ne (by omega), sUp_ne (by omega)]; assumption)) | (rw [sUp_ne (by omega), sUp_ne (by omega), sUp_ne (by omega)]; assumption) | (simp [sUp]; done)) (by first | assumption | exact sUp_eq | (rw [sUp_ne (by omega)]; assumption) | (rw [sUp_ne (by omega), sUp_ne (by omega)]; assumption) | (rw [sUp_ne (by omega)]; exact sUp_eq) | (rw [gSet_ne (by omega) (by omega)]; first | assumption | exact sUp_eq | (rw [sUp_ne (by omega)]; assumption) | (rw [sUp_ne (by omega), sUp_ne (by omega)]; assumption)) | (rw [sUp_ne (by omega), sUp_ne (by omega), sUp_ne (by omega)]; assumption) | (simp [sUp]; done)) rfl (by omega) (by omega) rfl ?_
        refine ev_up (fun h11 n11 c11 f11 => ?_)
        have e11 := n11.trans e10
        have o11 := (f11 (32) (by omega)).trans o10
        have r11 := c11
        first | refine e_iincN_1 (n := 1) (p' := 40) D_Hist_init_37 (Nat.le_of_ble_eq_true rfl) rfl rfl ?_ | refine e_iinc_1 (p' := 40) D_Hist_init_37 (Nat.le_of_ble_eq_true rfl) rfl rfl rfl ?_
        refine e_goto (p' := 15) D_Hist_init_40 rfl ?_
        refine e_iload_1 (p' := 16) D_Hist_init_15 rfl ?_
        refine e_aload_0 (p' := 17) D_Hist_init_16 rfl ?_
        refine e_getfield (p' := 20) D_Hist_init_17 F_Hist_11 (by first | assumption | exact sUp_eq | (rw [sUp_ne (by omega)]; assumption) | (rw [sUp_ne (by omega), sUp_ne (by omega)]; assumption) | (rw [sUp_ne (by omega)]; exact sUp_eq) | (rw [gSet_ne (by omega) (by omega)]; first | assumption | exact sUp_eq | (rw [sUp_ne (by omega)]; assumption) | (rw [sUp_ne (by omega), sUp_ne (by omega)]; assumption)) | (rw [sUp_ne (by omega), sUp_ne (by omega), sUp_ne (by omega)]; assumption) | (simp [sUp]; done)) (by rfl) rfl ?_
        first | refine e_alen (p' := 21) D_Hist_init_20 (by first | assumption | exact sUp_eq | (rw [sUp_ne (by omega)]; assumption) | (rw [sUp_ne (by omega), sUp_ne (by omega)]; assumption) | (rw [sUp_ne (by omega)]; exact sUp_eq) | (rw [gSet_ne (by omega) (by omega)]; first | assumption | exact sUp_eq | (rw [sUp_ne (by omega)]; assumption) | (rw [sUp_ne (by omega), sUp_ne (by omega)]; assumption)) | (rw [sUp_ne (by omega), sUp_ne (by omega), sUp_ne (by omega)]; assumption) | (simp [sUp]; done)) (by decide) rfl ?_ | refine e_alenq (p' := 21) D_Hist_init_20 (by first | assumption | exact sUp_eq | (rw [sUp_ne (by omega)]; assumption) | (rw [sUp_ne (by omega), sUp_ne (by omega)]; assumption) | (rw [sUp_ne (by omega)]; exact sUp_eq) | (rw [gSet_ne (by omega) (by omega)]; first | assumption | exact sUp_eq | (rw [sUp_ne (by omega)]; assumption) | (rw [sUp_ne (by omega), sUp_ne (by omega)]; assumption)) | (rw [sUp_ne (by omega), sUp_ne (by omega), sUp_ne (by omega)]; assumption) | (simp [sUp]; done)) (by decide) rfl ?_
        refine e_icmpN_ge (q := 43) (p' := 24) D_Hist_init_21 (by omega) (by omega) rfl rfl (fun hc21 => ?_) (fun hc21 => ?_)
        ·
          exfalso; omega
        ·
          refine e_aload_0 (p' := 25) D_Hist_init_24 rfl ?_
          refine e_getfield (p' := 28) D_Hist_init_25 F_Hist_11 (by first | assumption | exact sUp_eq | (rw [sUp_ne (by omega)]; assumption) | (rw [sUp_ne (by omega), sUp_ne (by omega)]; assumption) | (rw [sUp_ne (by omega)]; exact sUp_eq) | (rw [gSet_ne (by omega) (by omega)]; first | assumption | exact sUp_eq | (rw [sUp_ne (by omega)]; assumption) | (rw [sUp_ne (by omega), sUp_ne (by omega)]; assumption)) | (rw [sUp_ne (by omega), sUp_ne (by omega), sUp_ne (by omega)]; assumption) | (simp [sUp]; done)) (by rfl) rfl ?_
          refine e_iload_1 (p' := 29) D_Hist_init_28 rfl ?_
          refine e_new (p' := 32) D_Hist_init_29 N_Hist_9 ⟨Nat.le_of_ble_eq_true rfl, Nat.le_of_ble_eq_true rfl⟩ rfl ?_
          refine ev_push (fun h12 n12 c12 f12 => ?_)
          rw [e11] at n12 c12 f12 ⊢
          have e12 : h12.1 = 44 := n12
          have o12 := (f12 (32) (by omega)).trans o11
          have r12 := (f12 (33) (by omega)).trans r11
          refine e_dup (p' := 33) D_Hist_init_32 rfl rfl ?_
          refine e_callIN (p' := 36) D_Hist_init_33 IN_Hist_17 (c_Grid_init e12 c12) rfl rfl (Nat.le_of_ble_eq_true rfl) (by decide) ⟨Nat.le_of_ble_eq_true rfl, Nat.le_of_ble_eq_true rfl⟩ rfl ?_
          rintro _ h13 ⟨rfl, ⟨n13, x13⟩, f13⟩
          try simp only [Option.toList, List.nil_append]
          have e13 : h13.1 = 46 := n13
          have o13 := (f13 (32) (by omega)).trans o12
          have r13 := (f13 (33) (by omega)).trans r12
          have w13 := x13.1
          refine e_aastore (t := 3) (Cn := "OneRankGrid$Grid") (p' := 37) D_Hist_init_36 (by decide) rfl (by first | assumption | exact sUp_eq | (rw [sUp_ne (by omega)]; assumption) | (rw [sUp_ne (by omega), sUp_ne (by omega)]; assumption) | (rw [sUp_ne (by omega)]; exact sUp_eq) | (rw [gSet_ne (by omega) (by omega)]; first | assumption | exact sUp_eq | (rw [sUp_ne (by omega)]; assumption) | (rw [sUp_ne (by omega), sUp_ne (by omega)]; assumption)) | (rw [sUp_ne (by omega), sUp_ne (by omega), sUp_ne (by omega)]; assumption) | (simp [sUp]; done)) (by first | assumption | exact sUp_eq | (rw [sUp_ne (by omega)]; assumption) | (rw [sUp_ne (by omega), sUp_ne (by omega)]; assumption) | (rw [sUp_ne (by omega)]; exact sUp_eq) | (rw [gSet_ne (by omega) (by omega)]; first | assumption | exact sUp_eq | (rw [sUp_ne (by omega)]; assumption) | (rw [sUp_ne (by omega), sUp_ne (by omega)]; assumption)) | (rw [sUp_ne (by omega), sUp_ne (by omega), sUp_ne (by omega)]; assumption) | (simp [sUp]; done)) rfl (by omega) (by omega) rfl ?_
          refine ev_up (fun h14 n14 c14 f14 => ?_)
          have e14 := n14.trans e13
          have o14 := (f14 (32) (by omega)).trans o13
          have r14 := c14
          first | refine e_iincN_1 (n := 1) (p' := 40) D_Hist_init_37 (Nat.le_of_ble_eq_true rfl) rfl rfl ?_ | refine e_iinc_1 (p' := 40) D_Hist_init_37 (Nat.le_of_ble_eq_true rfl) rfl rfl rfl ?_
          refine e_goto (p' := 15) D_Hist_init_40 rfl ?_
          refine e_iload_1 (p' := 16) D_Hist_init_15 rfl ?_
          refine e_aload_0 (p' := 17) D_Hist_init_16 rfl ?_
          refine e_getfield (p' := 20) D_Hist_init_17 F_Hist_11 (by first | assumption | exact sUp_eq | (rw [sUp_ne (by omega)]; assumption) | (rw [sUp_ne (by omega), sUp_ne (by omega)]; assumption) | (rw [sUp_ne (by omega)]; exact sUp_eq) | (rw [gSet_ne (by omega) (by omega)]; first | assumption | exact sUp_eq | (rw [sUp_ne (by omega)]; assumption) | (rw [sUp_ne (by omega), sUp_ne (by omega)]; assumption)) | (rw [sUp_ne (by omega), sUp_ne (by omega), sUp_ne (by omega)]; assumption) | (simp [sUp]; done)) (by rfl) rfl ?_
          first | refine e_alen (p' := 21) D_Hist_init_20 (by first | assumption | exact sUp_eq | (rw [sUp_ne (by omega)]; assumption) | (rw [sUp_ne (by omega), sUp_ne (by omega)]; assumption) | (rw [sUp_ne (by omega)]; exact sUp_eq) | (rw [gSet_ne (by omega) (by omega)]; first | assumption | exact sUp_eq | (rw [sUp_ne (by omega)]; assumption) | (rw [sUp_ne (by omega), sUp_ne (by omega)]; assumption)) | (rw [sUp_ne (by omega), sUp_ne (by omega), sUp_ne (by omega)]; assumption) | (simp [sUp]; done)) (by decide) rfl ?_ | refine e_alenq (p' := 21) D_Hist_init_20 (by first | assumption | exact sUp_eq | (rw [sUp_ne (by omega)]; assumption) | (rw [sUp_ne (by omega), sUp_ne (by omega)]; assumption) | (rw [sUp_ne (by omega)]; exact sUp_eq) | (rw [gSet_ne (by omega) (by omega)]; first | assumption | exact sUp_eq | (rw [sUp_ne (by omega)]; assumption) | (rw [sUp_ne (by omega), sUp_ne (by omega)]; assumption)) | (rw [sUp_ne (by omega), sUp_ne (by omega), sUp_ne (by omega)]; assumption) | (simp [sUp]; done)) (by decide) rfl ?_
          refine e_icmpN_ge (q := 43) (p' := 24) D_Hist_init_21 (by omega) (by omega) rfl rfl (fun hc21 => ?_) (fun hc21 => ?_)
          ·
            exfalso; omega
          ·
            refine e_aload_0 (p' := 25) D_Hist_init_24 rfl ?_
            refine e_getfield (p' := 28) D_Hist_init_25 F_Hist_11 (by first | assumption | exact sUp_eq | (rw [sUp_ne (by omega)]; assumption) | (rw [sUp_ne (by omega), sUp_ne (by omega)]; assumption) | (rw [sUp_ne (by omega)]; exact sUp_eq) | (rw [gSet_ne (by omega) (by omega)]; first | assumption | exact sUp_eq | (rw [sUp_ne (by omega)]; assumption) | (rw [sUp_ne (by omega), sUp_ne (by omega)]; assumption)) | (rw [sUp_ne (by omega), sUp_ne (by omega), sUp_ne (by omega)]; assumption) | (simp [sUp]; done)) (by rfl) rfl ?_
            refine e_iload_1 (p' := 29) D_Hist_init_28 rfl ?_
            refine e_new (p' := 32) D_Hist_init_29 N_Hist_9 ⟨Nat.le_of_ble_eq_true rfl, Nat.le_of_ble_eq_true rfl⟩ rfl ?_
            refine ev_push (fun h15 n15 c15 f15 => ?_)
            rw [e14] at n15 c15 f15 ⊢
            have e15 : h15.1 = 47 := n15
            have o15 := (f15 (32) (by omega)).trans o14
            have r15 := (f15 (33) (by omega)).trans r14
            refine e_dup (p' := 33) D_Hist_init_32 rfl rfl ?_
            refine e_callIN (p' := 36) D_Hist_init_33 IN_Hist_17 (c_Grid_init e15 c15) rfl rfl (Nat.le_of_ble_eq_true rfl) (by decide) ⟨Nat.le_of_ble_eq_true rfl, Nat.le_of_ble_eq_true rfl⟩ rfl ?_
            rintro _ h16 ⟨rfl, ⟨n16, x16⟩, f16⟩
            try simp only [Option.toList, List.nil_append]
            have e16 : h16.1 = 49 := n16
            have o16 := (f16 (32) (by omega)).trans o15
            have r16 := (f16 (33) (by omega)).trans r15
            have w16 := x16.1
            refine e_aastore (t := 3) (Cn := "OneRankGrid$Grid") (p' := 37) D_Hist_init_36 (by decide) rfl (by first | assumption | exact sUp_eq | (rw [sUp_ne (by omega)]; assumption) | (rw [sUp_ne (by omega), sUp_ne (by omega)]; assumption) | (rw [sUp_ne (by omega)]; exact sUp_eq) | (rw [gSet_ne (by omega) (by omega)]; first | assumption | exact sUp_eq | (rw [sUp_ne (by omega)]; assumption) | (rw [sUp_ne (by omega), sUp_ne (by omega)]; assumption)) | (rw [sUp_ne (by omega), sUp_ne (by omega), sUp_ne (by omega)]; assumption) | (simp [sUp]; done)) (by first | assumption | exact sUp_eq | (rw [sUp_ne (by omega)]; assumption) | (rw [sUp_ne (by omega), sUp_ne (by omega)]; assumption) | (rw [sUp_ne (by omega)]; exact sUp_eq) | (rw [gSet_ne (by omega) (by omega)]; first | assumption | exact sUp_eq | (rw [sUp_ne (by omega)]; assumption) | (rw [sUp_ne (by omega), sUp_ne (by omega)]; assumption)) | (rw [sUp_ne (by omega), sUp_ne (by omega), sUp_ne (by omega)]; assumption) | (simp [sUp]; done)) rfl (by omega) (by omega) rfl ?_
            refine ev_up (fun h17 n17 c17 f17 => ?_)
            have e17 := n17.trans e16
            have o17 := (f17 (32) (by omega)).trans o16
            have r17 := c17
            first | refine e_iincN_1 (n := 1) (p' := 40) D_Hist_init_37 (Nat.le_of_ble_eq_true rfl) rfl rfl ?_ | refine e_iinc_1 (p' := 40) D_Hist_init_37 (Nat.le_of_ble_eq_true rfl) rfl rfl rfl ?_
            refine e_goto (p' := 15) D_Hist_init_40 rfl ?_
            refine e_iload_1 (p' := 16) D_Hist_init_15 rfl ?_
            refine e_aload_0 (p' := 17) D_Hist_init_16 rfl ?_
            refine e_getfield (p' := 20) D_Hist_init_17 F_Hist_11 (by first | assumption | exact sUp_eq | (rw [sUp_ne (by omega)]; assumption) | (rw [sUp_ne (by omega), sUp_ne (by omega)]; assumption) | (rw [sUp_ne (by omega)]; exact sUp_eq) | (rw [gSet_ne (by omega) (by omega)]; first | assumption | exact sUp_eq | (rw [sUp_ne (by omega)]; assumption) | (rw [sUp_ne (by omega), sUp_ne (by omega)]; assumption)) | (rw [sUp_ne (by omega), sUp_ne (by omega), sUp_ne (by omega)]; assumption) | (simp [sUp]; done)) (by rfl) rfl ?_
            first | refine e_alen (p' := 21) D_Hist_init_20 (by first | assumption | exact sUp_eq | (rw [sUp_ne (by omega)]; assumption) | (rw [sUp_ne (by omega), sUp_ne (by omega)]; assumption) | (rw [sUp_ne (by omega)]; exact sUp_eq) | (rw [gSet_ne (by omega) (by omega)]; first | assumption | exact sUp_eq | (rw [sUp_ne (by omega)]; assumption) | (rw [sUp_ne (by omega), sUp_ne (by omega)]; assumption)) | (rw [sUp_ne (by omega), sUp_ne (by omega), sUp_ne (by omega)]; assumption) | (simp [sUp]; done)) (by decide) rfl ?_ | refine e_alenq (p' := 21) D_Hist_init_20 (by first | assumption | exact sUp_eq | (rw [sUp_ne (by omega)]; assumption) | (rw [sUp_ne (by omega), sUp_ne (by omega)]; assumption) | (rw [sUp_ne (by omega)]; exact sUp_eq) | (rw [gSet_ne (by omega) (by omega)]; first | assumption | exact sUp_eq | (rw [sUp_ne (by omega)]; assumption) | (rw [sUp_ne (by omega), sUp_ne (by omega)]; assumption)) | (rw [sUp_ne (by omega), sUp_ne (by omega), sUp_ne (by omega)]; assumption) | (simp [sUp]; done)) (by decide) rfl ?_
            refine e_icmpN_ge (q := 43) (p' := 24) D_Hist_init_21 (by omega) (by omega) rfl rfl (fun hc21 => ?_) (fun hc21 => ?_)
            ·
              exfalso; omega
            ·
              refine e_aload_0 (p' := 25) D_Hist_init_24 rfl ?_
              refine e_getfield (p' := 28) D_Hist_init_25 F_Hist_11 (by first | assumption | exact sUp_eq | (rw [sUp_ne (by omega)]; assumption) | (rw [sUp_ne (by omega), sUp_ne (by omega)]; assumption) | (rw [sUp_ne (by omega)]; exact sUp_eq) | (rw [gSet_ne (by omega) (by omega)]; first | assumption | exact sUp_eq | (rw [sUp_ne (by omega)]; assumption) | (rw [sUp_ne (by omega), sUp_ne (by omega)]; assumption)) | (rw [sUp_ne (by omega), sUp_ne (by omega), sUp_ne (by omega)]; assumption) | (simp [sUp]; done)) (by rfl) rfl ?_
              refine e_iload_1 (p' := 29) D_Hist_init_28 rfl ?_
              refine e_new (p' := 32) D_Hist_init_29 N_Hist_9 ⟨Nat.le_of_ble_eq_true rfl, Nat.le_of_ble_eq_true rfl⟩ rfl ?_
              refine ev_push (fun h18 n18 c18 f18 => ?_)
              rw [e17] at n18 c18 f18 ⊢
              have e18 : h18.1 = 50 := n18
              have o18 := (f18 (32) (by omega)).trans o17
              have r18 := (f18 (33) (by omega)).trans r17
              refine e_dup (p' := 33) D_Hist_init_32 rfl rfl ?_
              refine e_callIN (p' := 36) D_Hist_init_33 IN_Hist_17 (c_Grid_init e18 c18) rfl rfl (Nat.le_of_ble_eq_true rfl) (by decide) ⟨Nat.le_of_ble_eq_true rfl, Nat.le_of_ble_eq_true rfl⟩ rfl ?_
              rintro _ h19 ⟨rfl, ⟨n19, x19⟩, f19⟩
              try simp only [Option.toList, List.nil_append]
              have e19 : h19.1 = 52 := n19
              have o19 := (f19 (32) (by omega)).trans o18
              have r19 := (f19 (33) (by omega)).trans r18
              have w19 := x19.1
              refine e_aastore (t := 3) (Cn := "OneRankGrid$Grid") (p' := 37) D_Hist_init_36 (by decide) rfl (by first | assumption | exact sUp_eq | (rw [sUp_ne (by omega)]; assumption) | (rw [sUp_ne (by omega), sUp_ne (by omega)]; assumption) | (rw [sUp_ne (by omega)]; exact sUp_eq) | (rw [gSet_ne (by omega) (by omega)]; first | assumption | exact sUp_eq | (rw [sUp_ne (by omega)]; assumption) | (rw [sUp_ne (by omega), sUp_ne (by omega)]; assumption)) | (rw [sUp_ne (by omega), sUp_ne (by omega), sUp_ne (by omega)]; assumption) | (simp [sUp]; done)) (by first | assumption | exact sUp_eq | (rw [sUp_ne (by omega)]; assumption) | (rw [sUp_ne (by omega), sUp_ne (by omega)]; assumption) | (rw [sUp_ne (by omega)]; exact sUp_eq) | (rw [gSet_ne (by omega) (by omega)]; first | assumption | exact sUp_eq | (rw [sUp_ne (by omega)]; assumption) | (rw [sUp_ne (by omega), sUp_ne (by omega)]; assumption)) | (rw [sUp_ne (by omega), sUp_ne (by omega), sUp_ne (by omega)]; assumption) | (simp [sUp]; done)) rfl (by omega) (by omega) rfl ?_
              refine ev_up (fun h20 n20 c20 f20 => ?_)
              have e20 := n20.trans e19
              have o20 := (f20 (32) (by omega)).trans o19
              have r20 := c20
              first | refine e_iincN_1 (n := 1) (p' := 40) D_Hist_init_37 (Nat.le_of_ble_eq_true rfl) rfl rfl ?_ | refine e_iinc_1 (p' := 40) D_Hist_init_37 (Nat.le_of_ble_eq_true rfl) rfl rfl rfl ?_
              refine e_goto (p' := 15) D_Hist_init_40 rfl ?_
              refine e_iload_1 (p' := 16) D_Hist_init_15 rfl ?_
              refine e_aload_0 (p' := 17) D_Hist_init_16 rfl ?_
              refine e_getfield (p' := 20) D_Hist_init_17 F_Hist_11 (by first | assumption | exact sUp_eq | (rw [sUp_ne (by omega)]; assumption) | (rw [sUp_ne (by omega), sUp_ne (by omega)]; assumption) | (rw [sUp_ne (by omega)]; exact sUp_eq) | (rw [gSet_ne (by omega) (by omega)]; first | assumption | exact sUp_eq | (rw [sUp_ne (by omega)]; assumption) | (rw [sUp_ne (by omega), sUp_ne (by omega)]; assumption)) | (rw [sUp_ne (by omega), sUp_ne (by omega), sUp_ne (by omega)]; assumption) | (simp [sUp]; done)) (by rfl) rfl ?_
              first | refine e_alen (p' := 21) D_Hist_init_20 (by first | assumption | exact sUp_eq | (rw [sUp_ne (by omega)]; assumption) | (rw [sUp_ne (by omega), sUp_ne (by omega)]; assumption) | (rw [sUp_ne (by omega)]; exact sUp_eq) | (rw [gSet_ne (by omega) (by omega)]; first | assumption | exact sUp_eq | (rw [sUp_ne (by omega)]; assumption) | (rw [sUp_ne (by omega), sUp_ne (by omega)]; assumption)) | (rw [sUp_ne (by omega), sUp_ne (by omega), sUp_ne (by omega)]; assumption) | (simp [sUp]; done)) (by decide) rfl ?_ | refine e_alenq (p' := 21) D_Hist_init_20 (by first | assumption | exact sUp_eq | (rw [sUp_ne (by omega)]; assumption) | (rw [sUp_ne (by omega), sUp_ne (by omega)]; assumption) | (rw [sUp_ne (by omega)]; exact sUp_eq) | (rw [gSet_ne (by omega) (by omega)]; first | assumption | exact sUp_eq | (rw [sUp_ne (by omega)]; assumption) | (rw [sUp_ne (by omega), sUp_ne (by omega)]; assumption)) | (rw [sUp_ne (by omega), sUp_ne (by omega), sUp_ne (by omega)]; assumption) | (simp [sUp]; done)) (by decide) rfl ?_
              refine e_icmpN_ge (q := 43) (p' := 24) D_Hist_init_21 (by omega) (by omega) rfl rfl (fun hc21 => ?_) (fun hc21 => ?_)
              ·
                refine e_return D_Hist_init_43 rfl ⟨Nat.le_of_ble_eq_true rfl, Nat.le_of_ble_eq_true rfl⟩ ?_
                have y0 := (x4.kept ((f20 (34) (by omega)).trans ((f19 (34) (by omega)).trans ((f18 (34) (by omega)).trans ((f17 (34) (by omega)).trans ((f16 (34) (by omega)).trans ((f15 (34) (by omega)).trans ((f14 (34) (by omega)).trans ((f13 (34) (by omega)).trans ((f12 (34) (by omega)).trans ((f11 (34) (by omega)).trans ((f10 (34) (by omega)).trans ((f9 (34) (by omega)).trans ((f8 (34) (by omega)).trans ((f7 (34) (by omega)).trans ((f6 (34) (by omega)).trans ((f5 (34) (by omega)).trans rfl)))))))))))))))) ((f20 (35) (by omega)).trans ((f19 (35) (by omega)).trans ((f18 (35) (by omega)).trans ((f17 (35) (by omega)).trans ((f16 (35) (by omega)).trans ((f15 (35) (by omega)).trans ((f14 (35) (by omega)).trans ((f13 (35) (by omega)).trans ((f12 (35) (by omega)).trans ((f11 (35) (by omega)).trans ((f10 (35) (by omega)).trans ((f9 (35) (by omega)).trans ((f8 (35) (by omega)).trans ((f7 (35) (by omega)).trans ((f6 (35) (by omega)).trans ((f5 (35) (by omega)).trans rfl)))))))))))))))) ((f20 (36) (by omega)).trans ((f19 (36) (by omega)).trans ((f18 (36) (by omega)).trans ((f17 (36) (by omega)).trans ((f16 (36) (by omega)).trans ((f15 (36) (by omega)).trans ((f14 (36) (by omega)).trans ((f13 (36) (by omega)).trans ((f12 (36) (by omega)).trans ((f11 (36) (by omega)).trans ((f10 (36) (by omega)).trans ((f9 (36) (by omega)).trans ((f8 (36) (by omega)).trans ((f7 (36) (by omega)).trans ((f6 (36) (by omega)).trans ((f5 (36) (by omega)).trans rfl)))))))))))))))))
                have y1 := (x7.kept ((f20 (37) (by omega)).trans ((f19 (37) (by omega)).trans ((f18 (37) (by omega)).trans ((f17 (37) (by omega)).trans ((f16 (37) (by omega)).trans ((f15 (37) (by omega)).trans ((f14 (37) (by omega)).trans ((f13 (37) (by omega)).trans ((f12 (37) (by omega)).trans ((f11 (37) (by omega)).trans ((f10 (37) (by omega)).trans ((f9 (37) (by omega)).trans ((f8 (37) (by omega)).trans rfl))))))))))))) ((f20 (38) (by omega)).trans ((f19 (38) (by omega)).trans ((f18 (38) (by omega)).trans ((f17 (38) (by omega)).trans ((f16 (38) (by omega)).trans ((f15 (38) (by omega)).trans ((f14 (38) (by omega)).trans ((f13 (38) (by omega)).trans ((f12 (38) (by omega)).trans ((f11 (38) (by omega)).trans ((f10 (38) (by omega)).trans ((f9 (38) (by omega)).trans ((f8 (38) (by omega)).trans rfl))))))))))))) ((f20 (39) (by omega)).trans ((f19 (39) (by omega)).trans ((f18 (39) (by omega)).trans ((f17 (39) (by omega)).trans ((f16 (39) (by omega)).trans ((f15 (39) (by omega)).trans ((f14 (39) (by omega)).trans ((f13 (39) (by omega)).trans ((f12 (39) (by omega)).trans ((f11 (39) (by omega)).trans ((f10 (39) (by omega)).trans ((f9 (39) (by omega)).trans ((f8 (39) (by omega)).trans rfl))))))))))))))
                have y2 := (x10.kept ((f20 (40) (by omega)).trans ((f19 (40) (by omega)).trans ((f18 (40) (by omega)).trans ((f17 (40) (by omega)).trans ((f16 (40) (by omega)).trans ((f15 (40) (by omega)).trans ((f14 (40) (by omega)).trans ((f13 (40) (by omega)).trans ((f12 (40) (by omega)).trans ((f11 (40) (by omega)).trans rfl)))))))))) ((f20 (41) (by omega)).trans ((f19 (41) (by omega)).trans ((f18 (41) (by omega)).trans ((f17 (41) (by omega)).trans ((f16 (41) (by omega)).trans ((f15 (41) (by omega)).trans ((f14 (41) (by omega)).trans ((f13 (41) (by omega)).trans ((f12 (41) (by omega)).trans ((f11 (41) (by omega)).trans rfl)))))))))) ((f20 (42) (by omega)).trans ((f19 (42) (by omega)).trans ((f18 (42) (by omega)).trans ((f17 (42) (by omega)).trans ((f16 (42) (by omega)).trans ((f15 (42) (by omega)).trans ((f14 (42) (by omega)).trans ((f13 (42) (by omega)).trans ((f12 (42) (by omega)).trans ((f11 (42) (by omega)).trans rfl)))))))))))
                have y3 := (x13.kept ((f20 (43) (by omega)).trans ((f19 (43) (by omega)).trans ((f18 (43) (by omega)).trans ((f17 (43) (by omega)).trans ((f16 (43) (by omega)).trans ((f15 (43) (by omega)).trans ((f14 (43) (by omega)).trans rfl))))))) ((f20 (44) (by omega)).trans ((f19 (44) (by omega)).trans ((f18 (44) (by omega)).trans ((f17 (44) (by omega)).trans ((f16 (44) (by omega)).trans ((f15 (44) (by omega)).trans ((f14 (44) (by omega)).trans rfl))))))) ((f20 (45) (by omega)).trans ((f19 (45) (by omega)).trans ((f18 (45) (by omega)).trans ((f17 (45) (by omega)).trans ((f16 (45) (by omega)).trans ((f15 (45) (by omega)).trans ((f14 (45) (by omega)).trans rfl))))))))
                have y4 := (x16.kept ((f20 (46) (by omega)).trans ((f19 (46) (by omega)).trans ((f18 (46) (by omega)).trans ((f17 (46) (by omega)).trans rfl)))) ((f20 (47) (by omega)).trans ((f19 (47) (by omega)).trans ((f18 (47) (by omega)).trans ((f17 (47) (by omega)).trans rfl)))) ((f20 (48) (by omega)).trans ((f19 (48) (by omega)).trans ((f18 (48) (by omega)).trans ((f17 (48) (by omega)).trans rfl)))))
                have y5 := (x19.kept ((f20 (49) (by omega)).trans rfl) ((f20 (50) (by omega)).trans rfl) ((f20 (51) (by omega)).trans rfl))
                have yr := r20
                exact ⟨rfl, ⟨e20, ⟨0, _, fun _ => g0, ⟨o20, yr, fun k hk => by
                  rcases (show k = 0 ∨ k = 1 ∨ k = 2 ∨ k = 3 ∨ k = 4 ∨ k = 5 by omega) with rfl | rfl | rfl | rfl | rfl | rfl <;> rfl, fun k hk => ⟨by
                  rcases (show k = 0 ∨ k = 1 ∨ k = 2 ∨ k = 3 ∨ k = 4 ∨ k = 5 by omega) with rfl | rfl | rfl | rfl | rfl | rfl <;> assumption, g0_ok⟩⟩, by omega, Nat.zero_le _, fun i hi => absurd hi (Nat.not_lt_zero _)⟩⟩, fun b hb => ((f20 b (by omega)).trans ((f19 b (by omega)).trans ((f18 b (by omega)).trans ((f17 b (by omega)).trans ((f16 b (by omega)).trans ((f15 b (by omega)).trans ((f14 b (by omega)).trans ((f13 b (by omega)).trans ((f12 b (by omega)).trans ((f11 b (by omega)).trans ((f10 b (by omega)).trans ((f9 b (by omega)).trans ((f8 b (by omega)).trans ((f7 b (by omega)).trans ((f6 b (by omega)).trans ((f5 b (by omega)).trans ((f4 b (by omega)).trans ((f3 b (by omega)).trans ((f2 b (by omega)).trans (f1 b (by omega)))))))))))))))))))))⟩
              ·
                exfalso; omega
