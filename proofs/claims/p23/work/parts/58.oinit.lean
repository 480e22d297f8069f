/-! ===== the constructors: OneRankGrid, the reference ===== -/
set_option maxRecDepth 4000 in
theorem c_O_init {l : Launch} {h : sH} (e0 : h.1 = 1) (o0 : h.2 0 = oC 8 [.null, .null, .null, .null, .null, .null, .null, .null]) : sCall l m_O_init 4 60 2000 [.ref 0] h (fun r h9 => r = none ∧ (h9.1 = 61 ∧ CInv h9 st0) ∧ ∀ b, b < 0 → h9.2 b = h.2 b) := by
  refine en_O_init ?_
  refine e_aload_0 (p' := 1) D_O_init_0 rfl ?_
  refine e_objInit (p' := 4) D_O_init_1 OI_O_1 OI_inst OI_code (Nat.le_of_ble_eq_true rfl) (by decide) rfl ?_
  refine e_aload_0 (p' := 5) D_O_init_4 rfl ?_
  refine e_new (p' := 8) D_O_init_5 N_O_7 ⟨Nat.le_of_ble_eq_true rfl, Nat.le_of_ble_eq_true rfl⟩ rfl ?_
  refine ev_push (fun h1 n1 c1 f1 => ?_)
  rw [e0] at n1 c1 f1 ⊢
  have e1 : h1.1 = 2 := n1
  have o1 := (f1 (0) (by omega)).trans o0
  refine e_dup (p' := 9) D_O_init_8 rfl rfl ?_
  refine e_callIN (p' := 12) D_O_init_9 IN_O_9 (c_Grid_init e1 c1) rfl rfl (Nat.le_of_ble_eq_true rfl) (by decide) ⟨Nat.le_of_ble_eq_true rfl, Nat.le_of_ble_eq_true rfl⟩ rfl ?_
  rintro _ h2 ⟨rfl, ⟨n2, x2⟩, f2⟩
  try simp only [Option.toList, List.nil_append]
  have e2 : h2.1 = 4 := n2
  have o2 := (f2 (0) (by omega)).trans o1
  refine e_putfield (p' := 15) D_O_init_12 F_O_10 (Or.inr rfl) (by first | assumption | exact sUp_eq | (rw [sUp_ne (by omega)]; assumption) | (rw [sUp_ne (by omega), sUp_ne (by omega)]; assumption) | (rw [sUp_ne (by omega)]; exact sUp_eq) | (rw [gSet_ne (by omega) (by omega)]; first | assumption | exact sUp_eq | (rw [sUp_ne (by omega)]; assumption) | (rw [sUp_ne (by omega), sUp_ne (by omega)]; assumption)) | (rw [sUp_ne (by omega), sUp_ne (by omega), sUp_ne (by omega)]; assumption) | (simp [sUp]; done)) (fun _ => ⟨rfl, rfl⟩) (Nat.le_of_ble_eq_true rfl) (by rfl) rfl ?_
  try dsimp only [List.set]
  refine ev_up (fun h3 n3 o3 f3 => ?_)
  have e3 := n3.trans e2
  refine e_aload_0 (p' := 16) D_O_init_15 rfl ?_
  refine e_new (p' := 19) D_O_init_16 N_O_7 ⟨Nat.le_of_ble_eq_true rfl, Nat.le_of_ble_eq_true rfl⟩ rfl ?_
  refine ev_push (fun h4 n4 c4 f4 => ?_)
  rw [e3] at n4 c4 f4 ⊢
  have e4 : h4.1 = 5 := n4
  have o4 := (f4 (0) (by omega)).trans o3
  refine e_dup (p' := 20) D_O_init_19 rfl rfl ?_
  refine e_callIN (p' := 23) D_O_init_20 IN_O_9 (c_Grid_init e4 c4) rfl rfl (Nat.le_of_ble_eq_true rfl) (by decide) ⟨Nat.le_of_ble_eq_true rfl, Nat.le_of_ble_eq_true rfl⟩ rfl ?_
  rintro _ h5 ⟨rfl, ⟨n5, x5⟩, f5⟩
  try simp only [Option.toList, List.nil_append]
  have e5 : h5.1 = 7 := n5
  have o5 := (f5 (0) (by omega)).trans o4
  refine e_putfield (p' := 26) D_O_init_23 F_O_16 (Or.inr rfl) (by first | assumption | exact sUp_eq | (rw [sUp_ne (by omega)]; assumption) | (rw [sUp_ne (by omega), sUp_ne (by omega)]; assumption) | (rw [sUp_ne (by omega)]; exact sUp_eq) | (rw [gSet_ne (by omega) (by omega)]; first | assumption | exact sUp_eq | (rw [sUp_ne (by omega)]; assumption) | (rw [sUp_ne (by omega), sUp_ne (by omega)]; assumption)) | (rw [sUp_ne (by omega), sUp_ne (by omega), sUp_ne (by omega)]; assumption) | (simp [sUp]; done)) (fun _ => ⟨rfl, rfl⟩) (Nat.le_of_ble_eq_true rfl) (by rfl) rfl ?_
  try dsimp only [List.set]
  refine ev_up (fun h6 n6 o6 f6 => ?_)
  have e6 := n6.trans e5
  refine e_aload_0 (p' := 27) D_O_init_26 rfl ?_
  refine e_new (p' := 30) D_O_init_27 N_O_19 ⟨Nat.le_of_ble_eq_true rfl, Nat.le_of_ble_eq_true rfl⟩ rfl ?_
  refine ev_push (fun h7 n7 c7 f7 => ?_)
  rw [e6] at n7 c7 f7 ⊢
  have e7 : h7.1 = 8 := n7
  have o7 := (f7 (0) (by omega)).trans o6
  refine e_dup (p' := 31) D_O_init_30 rfl rfl ?_
  refine e_callIN (p' := 34) D_O_init_31 IN_O_21 (c_Parts_init e7 c7) rfl rfl (Nat.le_of_ble_eq_true rfl) (by decide) ⟨Nat.le_of_ble_eq_true rfl, Nat.le_of_ble_eq_true rfl⟩ rfl ?_
  rintro _ h8 ⟨rfl, ⟨n8, x8⟩, f8⟩
  try simp only [Option.toList, List.nil_append]
  have e8 : h8.1 = 16 := n8
  have o8 := (f8 (0) (by omega)).trans o7
  refine e_putfield (p' := 37) D_O_init_34 F_O_22 (Or.inr rfl) (by first | assumption | exact sUp_eq | (rw [sUp_ne (by omega)]; assumption) | (rw [sUp_ne (by omega), sUp_ne (by omega)]; assumption) | (rw [sUp_ne (by omega)]; exact sUp_eq) | (rw [gSet_ne (by omega) (by omega)]; first | assumption | exact sUp_eq | (rw [sUp_ne (by omega)]; assumption) | (rw [sUp_ne (by omega), sUp_ne (by omega)]; assumption)) | (rw [sUp_ne (by omega), sUp_ne (by omega), sUp_ne (by omega)]; assumption) | (simp [sUp]; done)) (fun _ => ⟨rfl, rfl⟩) (Nat.le_of_ble_eq_true rfl) (by rfl) rfl ?_
  try dsimp only [List.set]
  refine ev_up (fun h9 n9 o9 f9 => ?_)
  have e9 := n9.trans e8
  refine e_aload_0 (p' := 38) D_O_init_37 rfl ?_
  refine e_new (p' := 41) D_O_init_38 N_O_26 ⟨Nat.le_of_ble_eq_true rfl, Nat.le_of_ble_eq_true rfl⟩ rfl ?_
  refine ev_push (fun h10 n10 c10 f10 => ?_)
  rw [e9] at n10 c10 f10 ⊢
  have e10 : h10.1 = 17 := n10
  have o10 := (f10 (0) (by omega)).trans o9
  refine e_dup (p' := 42) D_O_init_41 rfl rfl ?_
  refine e_callIN (p' := 45) D_O_init_42 IN_O_28 (c_Rings_init e10 c10) rfl rfl (Nat.le_of_ble_eq_true rfl) (by decide) ⟨Nat.le_of_ble_eq_true rfl, Nat.le_of_ble_eq_true rfl⟩ rfl ?_
  rintro _ h11 ⟨rfl, ⟨n11, x11⟩, f11⟩
  try simp only [Option.toList, List.nil_append]
  have e11 : h11.1 = 26 := n11
  have o11 := (f11 (0) (by omega)).trans o10
  refine e_putfield (p' := 48) D_O_init_45 F_O_29 (Or.inr rfl) (by first | assumption | exact sUp_eq | (rw [sUp_ne (by omega)]; assumption) | (rw [sUp_ne (by omega), sUp_ne (by omega)]; assumption) | (rw [sUp_ne (by omega)]; exact sUp_eq) | (rw [gSet_ne (by omega) (by omega)]; first | assumption | exact sUp_eq | (rw [sUp_ne (by omega)]; assumption) | (rw [sUp_ne (by omega), sUp_ne (by omega)]; assumption)) | (rw [sUp_ne (by omega), sUp_ne (by omega), sUp_ne (by omega)]; assumption) | (simp [sUp]; done)) (fun _ => ⟨rfl, rfl⟩) (Nat.le_of_ble_eq_true rfl) (by rfl) rfl ?_
  try dsimp only [List.set]
  refine ev_up (fun h12 n12 o12 f12 => ?_)
  have e12 := n12.trans e11
  refine e_aload_0 (p' := 49) D_O_init_48 rfl ?_
  refine e_new (p' := 52) D_O_init_49 N_O_33 ⟨Nat.le_of_ble_eq_true rfl, Nat.le_of_ble_eq_true rfl⟩ rfl ?_
  refine ev_push (fun h13 n13 c13 f13 => ?_)
  rw [e12] at n13 c13 f13 ⊢
  have e13 : h13.1 = 27 := n13
  have o13 := (f13 (0) (by omega)).trans o12
  refine e_dup (p' := 53) D_O_init_52 rfl rfl ?_
  refine e_callIN (p' := 56) D_O_init_53 IN_O_35 (c_Min_init e13 c13) rfl rfl (Nat.le_of_ble_eq_true rfl) (by decide) ⟨Nat.le_of_ble_eq_true rfl, Nat.le_of_ble_eq_true rfl⟩ rfl ?_
  rintro _ h14 ⟨rfl, ⟨n14, x14⟩, f14⟩
  try simp only [Option.toList, List.nil_append]
  have e14 : h14.1 = 29 := n14
  have o14 := (f14 (0) (by omega)).trans o13
  refine e_putfield (p' := 59) D_O_init_56 F_O_36 (Or.inr rfl) (by first | assumption | exact sUp_eq | (rw [sUp_ne (by omega)]; assumption) | (rw [sUp_ne (by omega), sUp_ne (by omega)]; assumption) | (rw [sUp_ne (by omega)]; exact sUp_eq) | (rw [gSet_ne (by omega) (by omega)]; first | assumption | exact sUp_eq | (rw [sUp_ne (by omega)]; assumption) | (rw [sUp_ne (by omega), sUp_ne (by omega)]; assumption)) | (rw [sUp_ne (by omega), sUp_ne (by omega), sUp_ne (by omega)]; assumption) | (simp [sUp]; done)) (fun _ => ⟨rfl, rfl⟩) (Nat.le_of_ble_eq_true rfl) (by rfl) rfl ?_
  try dsimp only [List.set]
  refine ev_up (fun h15 n15 o15 f15 => ?_)
  have e15 := n15.trans e14
  refine e_aload_0 (p' := 60) D_O_init_59 rfl ?_
  refine e_new (p' := 63) D_O_init_60 N_O_40 ⟨Nat.le_of_ble_eq_true rfl, Nat.le_of_ble_eq_true rfl⟩ rfl ?_
  refine ev_push (fun h16 n16 c16 f16 => ?_)
  rw [e15] at n16 c16 f16 ⊢
  have e16 : h16.1 = 30 := n16
  have o16 := (f16 (0) (by omega)).trans o15
  refine e_dup (p' := 64) D_O_init_63 rfl rfl ?_
  refine e_callIN (p' := 67) D_O_init_64 IN_O_42 (c_Pad_init e16 c16) rfl rfl (Nat.le_of_ble_eq_true rfl) (by decide) ⟨Nat.le_of_ble_eq_true rfl, Nat.le_of_ble_eq_true rfl⟩ rfl ?_
  rintro _ h17 ⟨rfl, ⟨n17, x17⟩, f17⟩
  try simp only [Option.toList, List.nil_append]
  have e17 : h17.1 = 32 := n17
  have o17 := (f17 (0) (by omega)).trans o16
  refine e_putfield (p' := 70) D_O_init_67 F_O_43 (Or.inr rfl) (by first | assumption | exact sUp_eq | (rw [sUp_ne (by omega)]; assumption) | (rw [sUp_ne (by omega), sUp_ne (by omega)]; assumption) | (rw [sUp_ne (by omega)]; exact sUp_eq) | (rw [gSet_ne (by omega) (by omega)]; first | assumption | exact sUp_eq | (rw [sUp_ne (by omega)]; assumption) | (rw [sUp_ne (by omega), sUp_ne (by omega)]; assumption)) | (rw [sUp_ne (by omega), sUp_ne (by omega), sUp_ne (by omega)]; assumption) | (simp [sUp]; done)) (fun _ => ⟨rfl, rfl⟩) (Nat.le_of_ble_eq_true rfl) (by rfl) rfl ?_
  try dsimp only [List.set]
  refine ev_up (fun h18 n18 o18 f18 => ?_)
  have e18 := n18.trans e17
  refine e_aload_0 (p' := 71) D_O_init_70 rfl ?_
  refine e_new (p' := 74) D_O_init_71 N_O_47 ⟨Nat.le_of_ble_eq_true rfl, Nat.le_of_ble_eq_true rfl⟩ rfl ?_
  refine ev_push (fun h19 n19 c19 f19 => ?_)
  rw [e18] at n19 c19 f19 ⊢
  have e19 : h19.1 = 33 := n19
  have o19 := (f19 (0) (by omega)).trans o18
  refine e_dup (p' := 75) D_O_init_74 rfl rfl ?_
  refine e_callI (p' := 78) D_O_init_75 I_O_49 (c_Hist_init e19 c19) rfl rfl (Nat.le_of_ble_eq_true rfl) (by decide) ⟨Nat.le_of_ble_eq_true rfl, Nat.le_of_ble_eq_true rfl⟩ rfl ?_
  rintro _ h20 ⟨rfl, ⟨n20, x20⟩, f20⟩
  try simp only [Option.toList, List.nil_append]
  have e20 : h20.1 = 52 := n20
  have o20 := (f20 (0) (by omega)).trans o19
  refine e_putfield (p' := 81) D_O_init_78 F_O_50 (Or.inr rfl) (by first | assumption | exact sUp_eq | (rw [sUp_ne (by omega)]; assumption) | (rw [sUp_ne (by omega), sUp_ne (by omega)]; assumption) | (rw [sUp_ne (by omega)]; exact sUp_eq) | (rw [gSet_ne (by omega) (by omega)]; first | assumption | exact sUp_eq | (rw [sUp_ne (by omega)]; assumption) | (rw [sUp_ne (by omega), sUp_ne (by omega)]; assumption)) | (rw [sUp_ne (by omega), sUp_ne (by omega), sUp_ne (by omega)]; assumption) | (simp [sUp]; done)) (fun _ => ⟨rfl, rfl⟩) (Nat.le_of_ble_eq_true rfl) (by rfl) rfl ?_
  try dsimp only [List.set]
  refine ev_up (fun h21 n21 o21 f21 => ?_)
  have e21 := n21.trans e20
  refine e_aload_0 (p' := 82) D_O_init_81 rfl ?_
  refine e_iconst (v := nI 2) (p' := 83) D_O_init_82 cst_iconst_2 rfl ?_
  refine e_anewarr (p' := 86) D_O_init_83 (Or.inr ⟨rfl, rfl⟩) NA_O_54 (by decide) (by decide) ⟨Nat.le_of_ble_eq_true rfl, Nat.le_of_ble_eq_true rfl⟩ rfl ?_
  refine ev_push (fun h22 n22 c22 f22 => ?_)
  rw [e21] at n22 c22 f22 ⊢
  have e22 : h22.1 = 53 := n22
  have o22 := (f22 (0) (by omega)).trans o21
  have r22 := c22
  refine e_putfield (p' := 89) D_O_init_86 F_O_56 (Or.inr rfl) (by first | assumption | exact sUp_eq | (rw [sUp_ne (by omega)]; assumption) | (rw [sUp_ne (by omega), sUp_ne (by omega)]; assumption) | (rw [sUp_ne (by omega)]; exact sUp_eq) | (rw [gSet_ne (by omega) (by omega)]; first | assumption | exact sUp_eq | (rw [sUp_ne (by omega)]; assumption) | (rw [sUp_ne (by omega), sUp_ne (by omega)]; assumption)) | (rw [sUp_ne (by omega), sUp_ne (by omega), sUp_ne (by omega)]; assumption) | (simp [sUp]; done)) (fun _ => ⟨rfl, rfl⟩) (Nat.le_of_ble_eq_true rfl) (by rfl) rfl ?_
  try dsimp only [List.set]
  refine ev_up (fun h23 n23 o23 f23 => ?_)
  have e23 := n23.trans e22
  have r23 := (f23 (52) (by omega)).trans r22
  refine e_iconst (v := nI 0) (p' := 90) D_O_init_89 cst_iconst_0 rfl ?_
  refine e_istore_1 (p' := 91) D_O_init_90 (Nat.le_of_ble_eq_true rfl) rfl rfl ?_
  refine e_iload_1 (p' := 92) D_O_init_91 rfl ?_
  refine e_aload_0 (p' := 93) D_O_init_92 rfl ?_
  refine e_getfield (p' := 96) D_O_init_93 F_O_56 (by first | assumption | exact sUp_eq | (rw [sUp_ne (by omega)]; assumption) | (rw [sUp_ne (by omega), sUp_ne (by omega)]; assumption) | (rw [sUp_ne (by omega)]; exact sUp_eq) | (rw [gSet_ne (by omega) (by omega)]; first | assumption | exact sUp_eq | (rw [sUp_ne (by omega)]; assumption) | (rw [sUp_ne (by omega), sUp_ne (by omega)]; assumption)) | (rw [sUp_ne (by omega), sUp_ne (by omega), sUp_ne (by omega)]; assumption) | (simp [sUp]; done)) (by rfl) rfl ?_
  first | refine e_alen (p' := 97) D_O_init_96 (by first | assumption | exact sUp_eq | (rw [sUp_ne (by omega)]; assumption) | (rw [sUp_ne (by omega), sUp_ne (by omega)]; assumption) | (rw [sUp_ne (by omega)]; exact sUp_eq) | (rw [gSet_ne (by omega) (by omega)]; first | assumption | exact sUp_eq | (rw [sUp_ne (by omega)]; assumption) | (rw [sUp_ne (by omega), sUp_ne (by omega)]; assumption)) | (rw [sUp_ne (by omega), sUp_ne (by omega), sUp_ne (by omega)]; assumption) | (simp [sUp]; done)) (by decide) rfl ?_ | refine e_alenq (p' := 97) D_O_init_96 (by first | assumption | exact sUp_eq | (rw [sUp_ne (by omega)]; assumption) | (rw [sUp_ne (by omega), sUp_ne (by omega)]; assumption) | (rw [sUp_ne (by omega)]; exact sUp_eq) | (rw [gSet_ne (by omega) (by omega)]; first | assumption | exact sUp_eq | (rw [sUp_ne (by omega)]; assumption) | (rw [sUp_ne (by omega), sUp_ne (by omega)]; assumption)) | (rw [sUp_ne (by omega), sUp_ne (by omega), sUp_ne (by omega)]; assumption) | (simp [sUp]; done)) (by decide) rfl ?_
  refine e_icmpN_ge (q := 119) (p' := 100) D_O_init_97 (by omega) (by omega) rfl rfl (fun hc97 => ?_) (fun hc97 => ?_)
  ·
    exfalso; omega
  ·
    refine e_aload_0 (p' := 101) D_O_init_100 rfl ?_
    refine e_getfield (p' := 104) D_O_init_101 F_O_56 (by first | assumption | exact sUp_eq | (rw [sUp_ne (by omega)]; assumption) | (rw [sUp_ne (by omega), sUp_ne (by omega)]; assumption) | (rw [sUp_ne (by omega)]; exact sUp_eq) | (rw [gSet_ne (by omega) (by omega)]; first | assumption | exact sUp_eq | (rw [sUp_ne (by omega)]; assumption) | (rw [sUp_ne (by omega), sUp_ne (by omega)]; assumption)) | (rw [sUp_ne (by omega), sUp_ne (by omega), sUp_ne (by omega)]; assumption) | (simp [sUp]; done)) (by rfl) rfl ?_
    refine e_iload_1 (p' := 105) D_O_init_104 rfl ?_
    refine e_new (p' := 108) D_O_init_105 N_O_54 ⟨Nat.le_of_ble_eq_true rfl, Nat.le_of_ble_eq_true rfl⟩ rfl ?_
    refine ev_push (fun h24 n24 c24 f24 => ?_)
    rw [e23] at n24 c24 f24 ⊢
    have e24 : h24.1 = 54 := n24
    have o24 := (f24 (0) (by omega)).trans o23
    have r24 := (f24 (52) (by omega)).trans r23
    refine e_dup (p' := 109) D_O_init_108 rfl rfl ?_
    refine e_callIN (p' := 112) D_O_init_109 IN_O_60 (c_Slot_init e24 c24) rfl rfl (Nat.le_of_ble_eq_true rfl) (by decide) ⟨Nat.le_of_ble_eq_true rfl, Nat.le_of_ble_eq_true rfl⟩ rfl ?_
    rintro _ h25 ⟨rfl, ⟨n25, x25⟩, f25⟩
    try simp only [Option.toList, List.nil_append]
    have e25 : h25.1 = 57 := n25
    have o25 := (f25 (0) (by omega)).trans o24
    have r25 := (f25 (52) (by omega)).trans r24
    obtain ⟨_, _, _, w25, _⟩ := id x25
    refine e_aastore (t := 4) (Cn := "OneRankGrid$Slot") (p' := 113) D_O_init_112 (by decide) rfl (by first | assumption | exact sUp_eq | (rw [sUp_ne (by omega)]; assumption) | (rw [sUp_ne (by omega), sUp_ne (by omega)]; assumption) | (rw [sUp_ne (by omega)]; exact sUp_eq) | (rw [gSet_ne (by omega) (by omega)]; first | assumption | exact sUp_eq | (rw [sUp_ne (by omega)]; assumption) | (rw [sUp_ne (by omega), sUp_ne (by omega)]; assumption)) | (rw [sUp_ne (by omega), sUp_ne (by omega), sUp_ne (by omega)]; assumption) | (simp [sUp]; done)) (by first | assumption | exact sUp_eq | (rw [sUp_ne (by omega)]; assumption) | (rw [sUp_ne (by omega), sUp_ne (by omega)]; assumption) | (rw [sUp_ne (by omega)]; exact sUp_eq) | (rw [gSet_ne (by omega) (by omega)]; first | assumption | exact sUp_eq | (rw [sUp_ne (by omega)]; assumption) | (rw [sUp_ne (by omega), sUp_ne (by omega)]; assumption)) | (rw [sUp_ne (by omega), sUp_ne (by omega), sUp_ne (by omega)]; assumption) | (simp [sUp]; done)) rfl (by omega) (by omega) rfl ?_
    refine ev_up (fun h26 n26 c26 f26 => ?_)
    have e26 := n26.trans e25
    have o26 := (f26 (0) (by omega)).trans o25
    have r26 := c26
    first | refine e_iincN_1 (n := 1) (p' := 116) D_O_init_113 (Nat.le_of_ble_eq_true rfl) rfl rfl ?_ | refine e_iinc_1 (p' := 116) D_O_init_113 (Nat.le_of_ble_eq_true rfl) rfl rfl rfl ?_
    refine e_goto (p' := 91) D_O_init_116 rfl ?_
    refine e_iload_1 (p' := 92) D_O_init_91 rfl ?_
    refine e_aload_0 (p' := 93) D_O_init_92 rfl ?_
    refine e_getfield (p' := 96) D_O_init_93 F_O_56 (by first | assumption | exact sUp_eq | (rw [sUp_ne (by omega)]; assumption) | (rw [sUp_ne (by omega), sUp_ne (by omega)]; assumption) | (rw [sUp_ne (by omega)]; exact sUp_eq) | (rw [gSet_ne (by omega) (by omega)]; first | assumption | exact sUp_eq | (rw [sUp_ne (by omega)]; assumption) | (rw [sUp_ne (by omega), sUp_ne (by omega)]; assumption)) | (rw [sUp_ne (by omega), sUp_ne (by omega), sUp_ne (by omega)]; assumption) | (simp [sUp]; done)) (by rfl) rfl ?_
    first | refine e_alen (p' := 97) D_O_init_96 (by first | assumption | exact sUp_eq | (rw [sUp_ne (by omega)]; assumption) | (rw [sUp_ne (by omega), sUp_ne (by omega)]; assumption) | (rw [sUp_ne (by omega)]; exact sUp_eq) | (rw [gSet_ne (by omega) (by omega)]; first | assumption | exact sUp_eq | (rw [sUp_ne (by omega)]; assumption) | (rw [sUp_ne (by omega), sUp_ne (by omega)]; assumption)) | (rw [sUp_ne (by omega), sUp_ne (by omega), sUp_ne (by omega)]; assumption) | (simp [sUp]; done)) (by decide) rfl ?_ | refine e_alenq (p' := 97) D_O_init_96 (by first | assumption | exact sUp_eq | (rw [sUp_ne (by omega)]; assumption) | (rw [sUp_ne (by omega), sUp_ne (by omega)]; assumption) | (rw [sUp_ne (by omega)]; exact sUp_eq) | (rw [gSet_ne (by omega) (by omega)]; first | assumption | exact sUp_eq | (rw [sUp_ne (by omega)]; assumption) | (rw [sUp_ne (by omega), sUp_ne (by omega)]; assumption)) | (rw [sUp_ne (by omega), sUp_ne (by omega), sUp_ne (by omega)]; assumption) | (simp [sUp]; done)) (by decide) rfl ?_
    refine e_icmpN_ge (q := 119) (p' := 100) D_O_init_97 (by omega) (by omega) rfl rfl (fun hc97 => ?_) (fun hc97 => ?_)
    ·
      exfalso; omega
    ·
      refine e_aload_0 (p' := 101) D_O_init_100 rfl ?_
      refine e_getfield (p' := 104) D_O_init_101 F_O_56 (by first | assumption | exact sUp_eq | (rw [sUp_ne (by omega)]; assumption) | (rw [sUp_ne (by omega), sUp_ne (by omega)]; assumption) | (rw [sUp_ne (by omega)]; exact sUp_eq) | (rw [gSet_ne (by omega) (by omega)]; first | assumption | exact sUp_eq | (rw [sUp_ne (by omega)]; assumption) | (rw [sUp_ne (by omega), sUp_ne (by omega)]; assumption)) | (rw [sUp_ne (by omega), sUp_ne (by omega), sUp_ne (by omega)]; assumption) | (simp [sUp]; done)) (by rfl) rfl ?_
      refine e_iload_1 (p' := 105) D_O_init_104 rfl ?_
      refine e_new (p' := 108) D_O_init_105 N_O_54 ⟨Nat.le_of_ble_eq_true rfl, Nat.le_of_ble_eq_true rfl⟩ rfl ?_
      refine ev_push (fun h27 n27 c27 f27 => ?_)
      rw [e26] at n27 c27 f27 ⊢
      have e27 : h27.1 = 58 := n27
      have o27 := (f27 (0) (by omega)).trans o26
      have r27 := (f27 (52) (by omega)).trans r26
      refine e_dup (p' := 109) D_O_init_108 rfl rfl ?_
      refine e_callIN (p' := 112) D_O_init_109 IN_O_60 (c_Slot_init e27 c27) rfl rfl (Nat.le_of_ble_eq_true rfl) (by decide) ⟨Nat.le_of_ble_eq_true rfl, Nat.le_of_ble_eq_true rfl⟩ rfl ?_
      rintro _ h28 ⟨rfl, ⟨n28, x28⟩, f28⟩
      try simp only [Option.toList, List.nil_append]
      have e28 : h28.1 = 61 := n28
      have o28 := (f28 (0) (by omega)).trans o27
      have r28 := (f28 (52) (by omega)).trans r27
      obtain ⟨_, _, _, w28, _⟩ := id x28
      refine e_aastore (t := 4) (Cn := "OneRankGrid$Slot") (p' := 113) D_O_init_112 (by decide) rfl (by first | assumption | exact sUp_eq | (rw [sUp_ne (by omega)]; assumption) | (rw [sUp_ne (by omega), sUp_ne (by omega)]; assumption) | (rw [sUp_ne (by omega)]; exact sUp_eq) | (rw [gSet_ne (by omega) (by omega)]; first | assumption | exact sUp_eq | (rw [sUp_ne (by omega)]; assumption) | (rw [sUp_ne (by omega), sUp_ne (by omega)]; assumption)) | (rw [sUp_ne (by omega), sUp_ne (by omega), sUp_ne (by omega)]; assumption) | (simp [sUp]; done)) (by first | assumption | exact sUp_eq | (rw [sUp_ne (by omega)]; assumption) | (rw [sUp_ne (by omega), sUp_ne (by omega)]; assumption) | (rw [sUp_ne (by omega)]; exact sUp_eq) | (rw [gSet_ne (by omega) (by omega)]; first | assumption | exact sUp_eq | (rw [sUp_ne (by omega)]; assumption) | (rw [sUp_ne (by omega), sUp_ne (by omega)]; assumption)) | (rw [sUp_ne (by omega), sUp_ne (by omega), sUp_ne (by omega)]; assumption) | (simp [sUp]; done)) rfl (by omega) (by omega) rfl ?_
      refine ev_up (fun h29 n29 c29 f29 => ?_)
      have e29 := n29.trans e28
      have o29 := (f29 (0) (by omega)).trans o28
      have r29 := c29
      first | refine e_iincN_1 (n := 1) (p' := 116) D_O_init_113 (Nat.le_of_ble_eq_true rfl) rfl rfl ?_ | refine e_iinc_1 (p' := 116) D_O_init_113 (Nat.le_of_ble_eq_true rfl) rfl rfl rfl ?_
      refine e_goto (p' := 91) D_O_init_116 rfl ?_
      refine e_iload_1 (p' := 92) D_O_init_91 rfl ?_
      refine e_aload_0 (p' := 93) D_O_init_92 rfl ?_
      refine e_getfield (p' := 96) D_O_init_93 F_O_56 (by first | assumption | exact sUp_eq | (rw [sUp_ne (by omega)]; assumption) | (rw [sUp_ne (by omega), sUp_ne (by omega)]; assumption) | (rw [sUp_ne (by omega)]; exact sUp_eq) | (rw [gSet_ne (by omega) (by omega)]; first | assumption | exact sUp_eq | (rw [sUp_ne (by omega)]; assumption) | (rw [sUp_ne (by omega), sUp_ne (by omega)]; assumption)) | (rw [sUp_ne (by omega), sUp_ne (by omega), sUp_ne (by omega)]; assumption) | (simp [sUp]; done)) (by rfl) rfl ?_
      first | refine e_alen (p' := 97) D_O_init_96 (by first | assumption | exact sUp_eq | (rw [sUp_ne (by omega)]; assumption) | (rw [sUp_ne (by omega), sUp_ne (by omega)]; assumption) | (rw [sUp_ne (by omega)]; exact sUp_eq) | (rw [gSet_ne (by omega) (by omega)]; first | assumption | exact sUp_eq | (rw [sUp_ne (by omega)]; assumption) | (rw [sUp_ne (by omega), sUp_ne (by omega)]; assumption)) | (rw [sUp_ne (by omega), sUp_ne (by omega), sUp_ne (by omega)]; assumption) | (simp [sUp]; done)) (by decide) rfl ?_ | refine e_alenq (p' := 97) D_O_init_96 (by first | assumption | exact sUp_eq | (rw [sUp_ne (by omega)]; assumption) | (rw [sUp_ne (by omega), sUp_ne (by omega)]; assumption) | (rw [sUp_ne (by omega)]; exact sUp_eq) | (rw [gSet_ne (by omega) (by omega)]; first | assumption | exact sUp_eq | (rw [sUp_ne (by omega)]; assumption) | (rw [sUp_ne (by omega), sUp_ne (by omega)]; assumption)) | (rw [sUp_ne (by omega), sUp_ne (by omega), sUp_ne (by omega)]; assumption) | (simp [sUp]; done)) (by decide) rfl ?_
      refine e_icmpN_ge (q := 119) (p' := 100) D_O_init_97 (by omega) (by omega) rfl rfl (fun hc97 => ?_) (fun hc97 => ?_)
      ·
        refine e_return D_O_init_119 rfl ⟨Nat.le_of_ble_eq_true rfl, Nat.le_of_ble_eq_true rfl⟩ ?_
        obtain ⟨p1, p2, p3, xP⟩ := x8
        obtain ⟨m1, m2, xM⟩ := x14
        obtain ⟨d1, d2, xD⟩ := x17
        exact ⟨rfl, ⟨e29, ⟨o29, (x2.kept ((f29 (1) (by omega)).trans ((f28 (1) (by omega)).trans ((f27 (1) (by omega)).trans ((f26 (1) (by omega)).trans ((f25 (1) (by omega)).trans ((f24 (1) (by omega)).trans ((f23 (1) (by omega)).trans ((f22 (1) (by omega)).trans ((f21 (1) (by omega)).trans ((f20 (1) (by omega)).trans ((f19 (1) (by omega)).trans ((f18 (1) (by omega)).trans ((f17 (1) (by omega)).trans ((f16 (1) (by omega)).trans ((f15 (1) (by omega)).trans ((f14 (1) (by omega)).trans ((f13 (1) (by omega)).trans ((f12 (1) (by omega)).trans ((f11 (1) (by omega)).trans ((f10 (1) (by omega)).trans ((f9 (1) (by omega)).trans ((f8 (1) (by omega)).trans ((f7 (1) (by omega)).trans ((f6 (1) (by omega)).trans ((f5 (1) (by omega)).trans ((f4 (1) (by omega)).trans ((f3 (1) (by omega)).trans rfl))))))))))))))))))))))))))) ((f29 (2) (by omega)).trans ((f28 (2) (by omega)).trans ((f27 (2) (by omega)).trans ((f26 (2) (by omega)).trans ((f25 (2) (by omega)).trans ((f24 (2) (by omega)).trans ((f23 (2) (by omega)).trans ((f22 (2) (by omega)).trans ((f21 (2) (by omega)).trans ((f20 (2) (by omega)).trans ((f19 (2) (by omega)).trans ((f18 (2) (by omega)).trans ((f17 (2) (by omega)).trans ((f16 (2) (by omega)).trans ((f15 (2) (by omega)).trans ((f14 (2) (by omega)).trans ((f13 (2) (by omega)).trans ((f12 (2) (by omega)).trans ((f11 (2) (by omega)).trans ((f10 (2) (by omega)).trans ((f9 (2) (by omega)).trans ((f8 (2) (by omega)).trans ((f7 (2) (by omega)).trans ((f6 (2) (by omega)).trans ((f5 (2) (by omega)).trans ((f4 (2) (by omega)).trans ((f3 (2) (by omega)).trans rfl))))))))))))))))))))))))))) ((f29 (3) (by omega)).trans ((f28 (3) (by omega)).trans ((f27 (3) (by omega)).trans ((f26 (3) (by omega)).trans ((f25 (3) (by omega)).trans ((f24 (3) (by omega)).trans ((f23 (3) (by omega)).trans ((f22 (3) (by omega)).trans ((f21 (3) (by omega)).trans ((f20 (3) (by omega)).trans ((f19 (3) (by omega)).trans ((f18 (3) (by omega)).trans ((f17 (3) (by omega)).trans ((f16 (3) (by omega)).trans ((f15 (3) (by omega)).trans ((f14 (3) (by omega)).trans ((f13 (3) (by omega)).trans ((f12 (3) (by omega)).trans ((f11 (3) (by omega)).trans ((f10 (3) (by omega)).trans ((f9 (3) (by omega)).trans ((f8 (3) (by omega)).trans ((f7 (3) (by omega)).trans ((f6 (3) (by omega)).trans ((f5 (3) (by omega)).trans ((f4 (3) (by omega)).trans ((f3 (3) (by omega)).trans rfl)))))))))))))))))))))))))))), ⟨g0, (x5.kept ((f29 (4) (by omega)).trans ((f28 (4) (by omega)).trans ((f27 (4) (by omega)).trans ((f26 (4) (by omega)).trans ((f25 (4) (by omega)).trans ((f24 (4) (by omega)).trans ((f23 (4) (by omega)).trans ((f22 (4) (by omega)).trans ((f21 (4) (by omega)).trans ((f20 (4) (by omega)).trans ((f19 (4) (by omega)).trans ((f18 (4) (by omega)).trans ((f17 (4) (by omega)).trans ((f16 (4) (by omega)).trans ((f15 (4) (by omega)).trans ((f14 (4) (by omega)).trans ((f13 (4) (by omega)).trans ((f12 (4) (by omega)).trans ((f11 (4) (by omega)).trans ((f10 (4) (by omega)).trans ((f9 (4) (by omega)).trans ((f8 (4) (by omega)).trans ((f7 (4) (by omega)).trans ((f6 (4) (by omega)).trans rfl)))))))))))))))))))))))) ((f29 (5) (by omega)).trans ((f28 (5) (by omega)).trans ((f27 (5) (by omega)).trans ((f26 (5) (by omega)).trans ((f25 (5) (by omega)).trans ((f24 (5) (by omega)).trans ((f23 (5) (by omega)).trans ((f22 (5) (by omega)).trans ((f21 (5) (by omega)).trans ((f20 (5) (by omega)).trans ((f19 (5) (by omega)).trans ((f18 (5) (by omega)).trans ((f17 (5) (by omega)).trans ((f16 (5) (by omega)).trans ((f15 (5) (by omega)).trans ((f14 (5) (by omega)).trans ((f13 (5) (by omega)).trans ((f12 (5) (by omega)).trans ((f11 (5) (by omega)).trans ((f10 (5) (by omega)).trans ((f9 (5) (by omega)).trans ((f8 (5) (by omega)).trans ((f7 (5) (by omega)).trans ((f6 (5) (by omega)).trans rfl)))))))))))))))))))))))) ((f29 (6) (by omega)).trans ((f28 (6) (by omega)).trans ((f27 (6) (by omega)).trans ((f26 (6) (by omega)).trans ((f25 (6) (by omega)).trans ((f24 (6) (by omega)).trans ((f23 (6) (by omega)).trans ((f22 (6) (by omega)).trans ((f21 (6) (by omega)).trans ((f20 (6) (by omega)).trans ((f19 (6) (by omega)).trans ((f18 (6) (by omega)).trans ((f17 (6) (by omega)).trans ((f16 (6) (by omega)).trans ((f15 (6) (by omega)).trans ((f14 (6) (by omega)).trans ((f13 (6) (by omega)).trans ((f12 (6) (by omega)).trans ((f11 (6) (by omega)).trans ((f10 (6) (by omega)).trans ((f9 (6) (by omega)).trans ((f8 (6) (by omega)).trans ((f7 (6) (by omega)).trans ((f6 (6) (by omega)).trans rfl))))))))))))))))))))))))), g0_ok⟩, ⟨p1, p2, p3, (xP.kept fun b h1 h2 => ((f29 (b) (by omega)).trans ((f28 (b) (by omega)).trans ((f27 (b) (by omega)).trans ((f26 (b) (by omega)).trans ((f25 (b) (by omega)).trans ((f24 (b) (by omega)).trans ((f23 (b) (by omega)).trans ((f22 (b) (by omega)).trans ((f21 (b) (by omega)).trans ((f20 (b) (by omega)).trans ((f19 (b) (by omega)).trans ((f18 (b) (by omega)).trans ((f17 (b) (by omega)).trans ((f16 (b) (by omega)).trans ((f15 (b) (by omega)).trans ((f14 (b) (by omega)).trans ((f13 (b) (by omega)).trans ((f12 (b) (by omega)).trans ((f11 (b) (by omega)).trans ((f10 (b) (by omega)).trans ((f9 (b) (by omega)).trans rfl))))))))))))))))))))))⟩, (x11.kept fun b h1 h2 => ((f29 (b) (by omega)).trans ((f28 (b) (by omega)).trans ((f27 (b) (by omega)).trans ((f26 (b) (by omega)).trans ((f25 (b) (by omega)).trans ((f24 (b) (by omega)).trans ((f23 (b) (by omega)).trans ((f22 (b) (by omega)).trans ((f21 (b) (by omega)).trans ((f20 (b) (by omega)).trans ((f19 (b) (by omega)).trans ((f18 (b) (by omega)).trans ((f17 (b) (by omega)).trans ((f16 (b) (by omega)).trans ((f15 (b) (by omega)).trans ((f14 (b) (by omega)).trans ((f13 (b) (by omega)).trans ((f12 (b) (by omega)).trans rfl))))))))))))))))))), ⟨m1, m2, (xM.kept fun b h1 h2 => ((f29 (b) (by omega)).trans ((f28 (b) (by omega)).trans ((f27 (b) (by omega)).trans ((f26 (b) (by omega)).trans ((f25 (b) (by omega)).trans ((f24 (b) (by omega)).trans ((f23 (b) (by omega)).trans ((f22 (b) (by omega)).trans ((f21 (b) (by omega)).trans ((f20 (b) (by omega)).trans ((f19 (b) (by omega)).trans ((f18 (b) (by omega)).trans ((f17 (b) (by omega)).trans ((f16 (b) (by omega)).trans ((f15 (b) (by omega)).trans rfl))))))))))))))))⟩, ⟨d1, d2, (xD.kept fun b h1 h2 => ((f29 (b) (by omega)).trans ((f28 (b) (by omega)).trans ((f27 (b) (by omega)).trans ((f26 (b) (by omega)).trans ((f25 (b) (by omega)).trans ((f24 (b) (by omega)).trans ((f23 (b) (by omega)).trans ((f22 (b) (by omega)).trans ((f21 (b) (by omega)).trans ((f20 (b) (by omega)).trans ((f19 (b) (by omega)).trans ((f18 (b) (by omega)).trans rfl)))))))))))))⟩, (x20.kept fun b h1 h2 => ((f29 (b) (by omega)).trans ((f28 (b) (by omega)).trans ((f27 (b) (by omega)).trans ((f26 (b) (by omega)).trans ((f25 (b) (by omega)).trans ((f24 (b) (by omega)).trans ((f23 (b) (by omega)).trans ((f22 (b) (by omega)).trans ((f21 (b) (by omega)).trans rfl)))))))))), ⟨⟨_, r29, rfl, rfl⟩, (x25.kept fun b h1 h2 => ((f29 (b) (by omega)).trans ((f28 (b) (by omega)).trans ((f27 (b) (by omega)).trans ((f26 (b) (by omega)).trans rfl))))), (x28.kept fun b h1 h2 => ((f29 (b) (by omega)).trans rfl))⟩⟩⟩, fun b hb => ((f29 b (by omega)).trans ((f28 b (by omega)).trans ((f27 b (by omega)).trans ((f26 b (by omega)).trans ((f25 b (by omega)).trans ((f24 b (by omega)).trans ((f23 b (by omega)).trans ((f22 b (by omega)).trans ((f21 b (by omega)).trans ((f20 b (by omega)).trans ((f19 b (by omega)).trans ((f18 b (by omega)).trans ((f17 b (by omega)).trans ((f16 b (by omega)).trans ((f15 b (by omega)).trans ((f14 b (by omega)).trans ((f13 b (by omega)).trans ((f12 b (by omega)).trans ((f11 b (by omega)).trans ((f10 b (by omega)).trans ((f9 b (by omega)).trans ((f8 b (by omega)).trans ((f7 b (by omega)).trans ((f6 b (by omega)).trans ((f5 b (by omega)).trans ((f4 b (by omega)).trans ((f3 b (by omega)).trans ((f2 b (by omega)).trans (f1 b (by omega))))))))))))))))))))))))))))))⟩
      ·
        exfalso; omega
