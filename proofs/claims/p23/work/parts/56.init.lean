/-! ===== the constructors ===== -/
section EVS
variable {l : Launch} {M : sM} {d : Nat} {B : sB} {K : sK} {pc : Nat} {lv : List (Option Value)} {st : List Value} {h : sH} {c : sC} {a : Nat}
theorem ev_push (kk : ∀ h2 : sH, h2.1 = h.1 + 1 → h2.2 h.1 = c → (∀ b, b ≠ h.1 → h2.2 b = h.2 b) → sEv l M d B K pc lv st h2) : sEv l M d B K pc lv st (sPush h c) := kk _ rfl (if_pos rfl) fun _ n => if_neg n
theorem ev_up (kk : ∀ h2 : sH, h2.1 = h.1 → h2.2 a = c → (∀ b, b ≠ a → h2.2 b = h.2 b) → sEv l M d B K pc lv st h2) : sEv l M d B K pc lv st (sUp h a c) := kk _ rfl sUp_eq fun _ n => sUp_ne n
end EVS
def g0 : Gd := ((3, 3, 7), fun _ => 0)
theorem g0_ok : Gok g0 := ⟨by decide, by decide, Or.inr (Or.inl rfl), fun _ => by show 0 < 7; omega, fun _ _ => rfl⟩
theorem nF_0 : nF (fun _ => 0) = fun _ => (0 : Int32) := rfl
set_option maxRecDepth 4000 in
theorem c_Num_init6 {l : Launch} {h : sH} {a : Nat} (e0 : h.1 = a + 1) (o0 : h.2 a = oC 3 [.null]) : sCall l m_Num_init 1 1 6 [.ref a, .int (nI 6)] h (fun r h9 => r = none ∧ (h9.1 = a + 2 ∧ (h9.2 a = oC 3 [.ref (a + 1)] ∧ h9.2 (a + 1) = iA 6 (fun _ => 0))) ∧ ∀ b, b < a → h9.2 b = h.2 b) := by
  refine en_Num_init ?_
  refine e_aload_0 (p' := 1) D_Num_init_0 rfl ?_
  refine e_objInit (p' := 4) D_Num_init_1 OI_Num_1 OI_inst OI_code (Nat.le_of_ble_eq_true rfl) (by decide) rfl ?_
  refine e_aload_0 (p' := 5) D_Num_init_4 rfl ?_
  refine e_iload_1 (p' := 6) D_Num_init_5 rfl ?_
  refine e_iconst (v := nI 0) (p' := 7) D_Num_init_6 cst_iconst_0 rfl ?_
  refine e_mmaxN (p' := 10) D_Num_init_7 S_Num_7.2.1 (by omega) (by omega) (Nat.le_of_ble_eq_true rfl) (by decide) ⟨Nat.le_of_ble_eq_true rfl, Nat.le_of_ble_eq_true rfl⟩ rfl ?_
  rw [show max 6 0 = 6 from rfl]
  refine e_newarr (t := 0) (ty := .int) (p' := 12) D_Num_init_10 (by decide) rfl rfl rfl AC_int (Nat.le_of_ble_eq_true rfl) (Nat.le_of_ble_eq_true rfl) ⟨Nat.le_of_ble_eq_true rfl, Nat.le_of_ble_eq_true rfl⟩ rfl ?_
  refine ev_push (fun h1 n1 c1 f1 => ?_)
  rw [e0] at n1 c1 f1 ⊢
  have e1 : h1.1 = a + 2 := n1
  have o1 := (f1 (a) (by omega)).trans o0
  refine e_putfield (p' := 15) D_Num_init_12 F_Num_13 (Or.inr rfl) (by first | assumption | exact sUp_eq | (rw [sUp_ne (by omega)]; assumption) | (rw [sUp_ne (by omega), sUp_ne (by omega)]; assumption) | (rw [sUp_ne (by omega)]; exact sUp_eq) | (rw [gSet_ne (by omega) (by omega)]; first | assumption | exact sUp_eq | (rw [sUp_ne (by omega)]; assumption) | (rw [sUp_ne (by omega), sUp_ne (by omega)]; assumption)) | (rw [sUp_ne (by omega), sUp_ne (by omega), sUp_ne (by omega)]; assumption) | (simp [sUp]; done)) (fun _ => ⟨rfl, rfl⟩) (Nat.le_of_ble_eq_true rfl) (by rfl) rfl ?_
  try dsimp only [List.set]
  refine ev_up (fun h2 n2 o2 f2 => ?_)
  have e2 := n2.trans e1
  refine e_return D_Num_init_15 rfl ⟨Nat.le_of_ble_eq_true rfl, Nat.le_of_ble_eq_true rfl⟩ ?_
  exact ⟨rfl, ⟨e2, ⟨o2, ((f2 (a + 1) (by omega)).trans c1)⟩⟩, fun b hb => ((f2 b (by omega)).trans (f1 b (by omega)))⟩
set_option maxRecDepth 4000 in
theorem c_Num_init36 {l : Launch} {h : sH} {a : Nat} (e0 : h.1 = a + 1) (o0 : h.2 a = oC 3 [.null]) : sCall l m_Num_init 1 1 36 [.ref a, .int (nI 36)] h (fun r h9 => r = none ∧ (h9.1 = a + 2 ∧ (h9.2 a = oC 3 [.ref (a + 1)] ∧ h9.2 (a + 1) = iA 36 (fun _ => 0))) ∧ ∀ b, b < a → h9.2 b = h.2 b) := by
  refine en_Num_init ?_
  refine e_aload_0 (p' := 1) D_Num_init_0 rfl ?_
  refine e_objInit (p' := 4) D_Num_init_1 OI_Num_1 OI_inst OI_code (Nat.le_of_ble_eq_true rfl) (by decide) rfl ?_
  refine e_aload_0 (p' := 5) D_Num_init_4 rfl ?_
  refine e_iload_1 (p' := 6) D_Num_init_5 rfl ?_
  refine e_iconst (v := nI 0) (p' := 7) D_Num_init_6 cst_iconst_0 rfl ?_
  refine e_mmaxN (p' := 10) D_Num_init_7 S_Num_7.2.1 (by omega) (by omega) (Nat.le_of_ble_eq_true rfl) (by decide) ⟨Nat.le_of_ble_eq_true rfl, Nat.le_of_ble_eq_true rfl⟩ rfl ?_
  rw [show max 36 0 = 36 from rfl]
  refine e_newarr (t := 0) (ty := .int) (p' := 12) D_Num_init_10 (by decide) rfl rfl rfl AC_int (Nat.le_of_ble_eq_true rfl) (Nat.le_of_ble_eq_true rfl) ⟨Nat.le_of_ble_eq_true rfl, Nat.le_of_ble_eq_true rfl⟩ rfl ?_
  refine ev_push (fun h1 n1 c1 f1 => ?_)
  rw [e0] at n1 c1 f1 ⊢
  have e1 : h1.1 = a + 2 := n1
  have o1 := (f1 (a) (by omega)).trans o0
  refine e_putfield (p' := 15) D_Num_init_12 F_Num_13 (Or.inr rfl) (by first | assumption | exact sUp_eq | (rw [sUp_ne (by omega)]; assumption) | (rw [sUp_ne (by omega), sUp_ne (by omega)]; assumption) | (rw [sUp_ne (by omega)]; exact sUp_eq) | (rw [gSet_ne (by omega) (by omega)]; first | assumption | exact sUp_eq | (rw [sUp_ne (by omega)]; assumption) | (rw [sUp_ne (by omega), sUp_ne (by omega)]; assumption)) | (rw [sUp_ne (by omega), sUp_ne (by omega), sUp_ne (by omega)]; assumption) | (simp [sUp]; done)) (fun _ => ⟨rfl, rfl⟩) (Nat.le_of_ble_eq_true rfl) (by rfl) rfl ?_
  try dsimp only [List.set]
  refine ev_up (fun h2 n2 o2 f2 => ?_)
  have e2 := n2.trans e1
  refine e_return D_Num_init_15 rfl ⟨Nat.le_of_ble_eq_true rfl, Nat.le_of_ble_eq_true rfl⟩ ?_
  exact ⟨rfl, ⟨e2, ⟨o2, ((f2 (a + 1) (by omega)).trans c1)⟩⟩, fun b hb => ((f2 b (by omega)).trans (f1 b (by omega)))⟩
set_option maxRecDepth 4000 in
theorem c_Num_init50 {l : Launch} {h : sH} {a : Nat} (e0 : h.1 = a + 1) (o0 : h.2 a = oC 3 [.null]) : sCall l m_Num_init 1 1 50 [.ref a, .int (nI 50)] h (fun r h9 => r = none ∧ (h9.1 = a + 2 ∧ (h9.2 a = oC 3 [.ref (a + 1)] ∧ h9.2 (a + 1) = iA 50 (fun _ => 0))) ∧ ∀ b, b < a → h9.2 b = h.2 b) := by
  refine en_Num_init ?_
  refine e_aload_0 (p' := 1) D_Num_init_0 rfl ?_
  refine e_objInit (p' := 4) D_Num_init_1 OI_Num_1 OI_inst OI_code (Nat.le_of_ble_eq_true rfl) (by decide) rfl ?_
  refine e_aload_0 (p' := 5) D_Num_init_4 rfl ?_
  refine e_iload_1 (p' := 6) D_Num_init_5 rfl ?_
  refine e_iconst (v := nI 0) (p' := 7) D_Num_init_6 cst_iconst_0 rfl ?_
  refine e_mmaxN (p' := 10) D_Num_init_7 S_Num_7.2.1 (by omega) (by omega) (Nat.le_of_ble_eq_true rfl) (by decide) ⟨Nat.le_of_ble_eq_true rfl, Nat.le_of_ble_eq_true rfl⟩ rfl ?_
  rw [show max 50 0 = 50 from rfl]
  refine e_newarr (t := 0) (ty := .int) (p' := 12) D_Num_init_10 (by decide) rfl rfl rfl AC_int (Nat.le_of_ble_eq_true rfl) (Nat.le_of_ble_eq_true rfl) ⟨Nat.le_of_ble_eq_true rfl, Nat.le_of_ble_eq_true rfl⟩ rfl ?_
  refine ev_push (fun h1 n1 c1 f1 => ?_)
  rw [e0] at n1 c1 f1 ⊢
  have e1 : h1.1 = a + 2 := n1
  have o1 := (f1 (a) (by omega)).trans o0
  refine e_putfield (p' := 15) D_Num_init_12 F_Num_13 (Or.inr rfl) (by first | assumption | exact sUp_eq | (rw [sUp_ne (by omega)]; assumption) | (rw [sUp_ne (by omega), sUp_ne (by omega)]; assumption) | (rw [sUp_ne (by omega)]; exact sUp_eq) | (rw [gSet_ne (by omega) (by omega)]; first | assumption | exact sUp_eq | (rw [sUp_ne (by omega)]; assumption) | (rw [sUp_ne (by omega), sUp_ne (by omega)]; assumption)) | (rw [sUp_ne (by omega), sUp_ne (by omega), sUp_ne (by omega)]; assumption) | (simp [sUp]; done)) (fun _ => ⟨rfl, rfl⟩) (Nat.le_of_ble_eq_true rfl) (by rfl) rfl ?_
  try dsimp only [List.set]
  refine ev_up (fun h2 n2 o2 f2 => ?_)
  have e2 := n2.trans e1
  refine e_return D_Num_init_15 rfl ⟨Nat.le_of_ble_eq_true rfl, Nat.le_of_ble_eq_true rfl⟩ ?_
  exact ⟨rfl, ⟨e2, ⟨o2, ((f2 (a + 1) (by omega)).trans c1)⟩⟩, fun b hb => ((f2 b (by omega)).trans (f1 b (by omega)))⟩
set_option maxRecDepth 4000 in
theorem c_Num_init832 {l : Launch} {h : sH} {a : Nat} (e0 : h.1 = a + 1) (o0 : h.2 a = oC 3 [.null]) : sCall l m_Num_init 1 1 832 [.ref a, .int (nI 832)] h (fun r h9 => r = none ∧ (h9.1 = a + 2 ∧ (h9.2 a = oC 3 [.ref (a + 1)] ∧ h9.2 (a + 1) = iA 832 (fun _ => 0))) ∧ ∀ b, b < a → h9.2 b = h.2 b) := by
  refine en_Num_init ?_
  refine e_aload_0 (p' := 1) D_Num_init_0 rfl ?_
  refine e_objInit (p' := 4) D_Num_init_1 OI_Num_1 OI_inst OI_code (Nat.le_of_ble_eq_true rfl) (by decide) rfl ?_
  refine e_aload_0 (p' := 5) D_Num_init_4 rfl ?_
  refine e_iload_1 (p' := 6) D_Num_init_5 rfl ?_
  refine e_iconst (v := nI 0) (p' := 7) D_Num_init_6 cst_iconst_0 rfl ?_
  refine e_mmaxN (p' := 10) D_Num_init_7 S_Num_7.2.1 (by omega) (by omega) (Nat.le_of_ble_eq_true rfl) (by decide) ⟨Nat.le_of_ble_eq_true rfl, Nat.le_of_ble_eq_true rfl⟩ rfl ?_
  rw [show max 832 0 = 832 from rfl]
  refine e_newarr (t := 0) (ty := .int) (p' := 12) D_Num_init_10 (by decide) rfl rfl rfl AC_int (Nat.le_of_ble_eq_true rfl) (Nat.le_of_ble_eq_true rfl) ⟨Nat.le_of_ble_eq_true rfl, Nat.le_of_ble_eq_true rfl⟩ rfl ?_
  refine ev_push (fun h1 n1 c1 f1 => ?_)
  rw [e0] at n1 c1 f1 ⊢
  have e1 : h1.1 = a + 2 := n1
  have o1 := (f1 (a) (by omega)).trans o0
  refine e_putfield (p' := 15) D_Num_init_12 F_Num_13 (Or.inr rfl) (by first | assumption | exact sUp_eq | (rw [sUp_ne (by omega)]; assumption) | (rw [sUp_ne (by omega), sUp_ne (by omega)]; assumption) | (rw [sUp_ne (by omega)]; exact sUp_eq) | (rw [gSet_ne (by omega) (by omega)]; first | assumption | exact sUp_eq | (rw [sUp_ne (by omega)]; assumption) | (rw [sUp_ne (by omega), sUp_ne (by omega)]; assumption)) | (rw [sUp_ne (by omega), sUp_ne (by omega), sUp_ne (by omega)]; assumption) | (simp [sUp]; done)) (fun _ => ⟨rfl, rfl⟩) (Nat.le_of_ble_eq_true rfl) (by rfl) rfl ?_
  try dsimp only [List.set]
  refine ev_up (fun h2 n2 o2 f2 => ?_)
  have e2 := n2.trans e1
  refine e_return D_Num_init_15 rfl ⟨Nat.le_of_ble_eq_true rfl, Nat.le_of_ble_eq_true rfl⟩ ?_
  exact ⟨rfl, ⟨e2, ⟨o2, ((f2 (a + 1) (by omega)).trans c1)⟩⟩, fun b hb => ((f2 b (by omega)).trans (f1 b (by omega)))⟩
set_option maxRecDepth 4000 in
theorem c_Grid_init {l : Launch} {h : sH} {a : Nat} (e0 : h.1 = a + 1) (o0 : h.2 a = oC 0 [.null, .int 0, .int 0, .int 0]) : sCall l m_Grid_init 2 2 37 [.ref a] h (fun r h9 => r = none ∧ (h9.1 = a + 3 ∧ GridAt h9 a g0) ∧ ∀ b, b < a → h9.2 b = h.2 b) := by
  refine en_Grid_init ?_
  refine e_aload_0 (p' := 1) D_Grid_init_0 rfl ?_
  refine e_objInit (p' := 4) D_Grid_init_1 OI_Grid_3 OI_inst OI_code (Nat.le_of_ble_eq_true rfl) (by decide) rfl ?_
  refine e_aload_0 (p' := 5) D_Grid_init_4 rfl ?_
  refine e_new (p' := 8) D_Grid_init_5 N_Grid_9 ⟨Nat.le_of_ble_eq_true rfl, Nat.le_of_ble_eq_true rfl⟩ rfl ?_
  refine ev_push (fun h1 n1 c1 f1 => ?_)
  rw [e0] at n1 c1 f1 ⊢
  have e1 : h1.1 = a + 2 := n1
  have o1 := (f1 (a) (by omega)).trans o0
  refine e_dup (p' := 9) D_Grid_init_8 rfl rfl ?_
  refine e_bipush (v := nI 36) (p' := 11) D_Grid_init_9 cst_bipush_36 rfl ?_
  refine e_callI (p' := 14) D_Grid_init_11 I_Grid_11 (c_Num_init36 e1 c1) rfl rfl (Nat.le_of_ble_eq_true rfl) (by decide) ⟨Nat.le_of_ble_eq_true rfl, Nat.le_of_ble_eq_true rfl⟩ rfl ?_
  rintro _ h2 ⟨rfl, ⟨n2, x2⟩, f2⟩
  try simp only [Option.toList, List.nil_append]
  have e2 : h2.1 = a + 3 := n2
  have o2 := (f2 (a) (by omega)).trans o1
  refine e_putfield (p' := 17) D_Grid_init_14 F_Grid_14 (Or.inr rfl) (by first | assumption | exact sUp_eq | (rw [sUp_ne (by omega)]; assumption) | (rw [sUp_ne (by omega), sUp_ne (by omega)]; assumption) | (rw [sUp_ne (by omega)]; exact sUp_eq) | (rw [gSet_ne (by omega) (by omega)]; first | assumption | exact sUp_eq | (rw [sUp_ne (by omega)]; assumption) | (rw [sUp_ne (by omega), sUp_ne (by omega)]; assumption)) | (rw [sUp_ne (by omega), sUp_ne (by omega), sUp_ne (by omega)]; assumption) | (simp [sUp]; done)) (fun _ => ⟨rfl, rfl⟩) (Nat.le_of_ble_eq_true rfl) (by rfl) rfl ?_
  try dsimp only [List.set]
  refine ev_up (fun h3 n3 o3 f3 => ?_)
  have e3 := n3.trans e2
  refine e_aload_0 (p' := 18) D_Grid_init_17 rfl ?_
  refine e_iconst (v := nI 3) (p' := 19) D_Grid_init_18 cst_iconst_3 rfl ?_
  refine e_putfield (p' := 22) D_Grid_init_19 F_Grid_20 (Or.inl rfl) (by first | assumption | exact sUp_eq | (rw [sUp_ne (by omega)]; assumption) | (rw [sUp_ne (by omega), sUp_ne (by omega)]; assumption) | (rw [sUp_ne (by omega)]; exact sUp_eq) | (rw [gSet_ne (by omega) (by omega)]; first | assumption | exact sUp_eq | (rw [sUp_ne (by omega)]; assumption) | (rw [sUp_ne (by omega), sUp_ne (by omega)]; assumption)) | (rw [sUp_ne (by omega), sUp_ne (by omega), sUp_ne (by omega)]; assumption) | (simp [sUp]; done)) (fun _ => ⟨rfl, rfl⟩) (Nat.le_of_ble_eq_true rfl) (by rfl) rfl ?_
  try dsimp only [List.set]
  refine ev_up (fun h4 n4 o4 f4 => ?_)
  have e4 := n4.trans e3
  refine e_aload_0 (p' := 23) D_Grid_init_22 rfl ?_
  refine e_iconst (v := nI 3) (p' := 24) D_Grid_init_23 cst_iconst_3 rfl ?_
  refine e_putfield (p' := 27) D_Grid_init_24 F_Grid_24 (Or.inl rfl) (by first | assumption | exact sUp_eq | (rw [sUp_ne (by omega)]; assumption) | (rw [sUp_ne (by omega), sUp_ne (by omega)]; assumption) | (rw [sUp_ne (by omega)]; exact sUp_eq) | (rw [gSet_ne (by omega) (by omega)]; first | assumption | exact sUp_eq | (rw [sUp_ne (by omega)]; assumption) | (rw [sUp_ne (by omega), sUp_ne (by omega)]; assumption)) | (rw [sUp_ne (by omega), sUp_ne (by omega), sUp_ne (by omega)]; assumption) | (simp [sUp]; done)) (fun _ => ⟨rfl, rfl⟩) (Nat.le_of_ble_eq_true rfl) (by rfl) rfl ?_
  try dsimp only [List.set]
  refine ev_up (fun h5 n5 o5 f5 => ?_)
  have e5 := n5.trans e4
  refine e_aload_0 (p' := 28) D_Grid_init_27 rfl ?_
  refine e_bipush (v := nI 7) (p' := 30) D_Grid_init_28 cst_bipush_7 rfl ?_
  refine e_putfield (p' := 33) D_Grid_init_30 F_Grid_27 (Or.inl rfl) (by first | assumption | exact sUp_eq | (rw [sUp_ne (by omega)]; assumption) | (rw [sUp_ne (by omega), sUp_ne (by omega)]; assumption) | (rw [sUp_ne (by omega)]; exact sUp_eq) | (rw [gSet_ne (by omega) (by omega)]; first | assumption | exact sUp_eq | (rw [sUp_ne (by omega)]; assumption) | (rw [sUp_ne (by omega), sUp_ne (by omega)]; assumption)) | (rw [sUp_ne (by omega), sUp_ne (by omega), sUp_ne (by omega)]; assumption) | (simp [sUp]; done)) (fun _ => ⟨rfl, rfl⟩) (Nat.le_of_ble_eq_true rfl) (by rfl) rfl ?_
  try dsimp only [List.set]
  refine ev_up (fun h6 n6 o6 f6 => ?_)
  have e6 := n6.trans e5
  refine e_return D_Grid_init_33 rfl ⟨Nat.le_of_ble_eq_true rfl, Nat.le_of_ble_eq_true rfl⟩ ?_
  exact ⟨rfl, ⟨e6, ⟨o6, ((f6 (a + 1) (by omega)).trans ((f5 (a + 1) (by omega)).trans ((f4 (a + 1) (by omega)).trans ((f3 (a + 1) (by omega)).trans x2.1)))), ((f6 (a + 2) (by omega)).trans ((f5 (a + 2) (by omega)).trans ((f4 (a + 2) (by omega)).trans ((f3 (a + 2) (by omega)).trans x2.2))))⟩⟩, fun b hb => ((f6 b (by omega)).trans ((f5 b (by omega)).trans ((f4 b (by omega)).trans ((f3 b (by omega)).trans ((f2 b (by omega)).trans (f1 b (by omega)))))))⟩
set_option maxRecDepth 4000 in
theorem c_Slot_init {l : Launch} {h : sH} {a : Nat} (e0 : h.1 = a + 1) (o0 : h.2 a = oC 7 [.null, .int 0]) : sCall l m_Slot_init 3 3 41 [.ref a] h (fun r h9 => r = none ∧ (h9.1 = a + 4 ∧ SlAt h9 a none) ∧ ∀ b, b < a → h9.2 b = h.2 b) := by
  refine en_Slot_init ?_
  refine e_aload_0 (p' := 1) D_Slot_init_0 rfl ?_
  refine e_objInit (p' := 4) D_Slot_init_1 OI_Slot_1 OI_inst OI_code (Nat.le_of_ble_eq_true rfl) (by decide) rfl ?_
  refine e_aload_0 (p' := 5) D_Slot_init_4 rfl ?_
  refine e_new (p' := 8) D_Slot_init_5 N_Slot_7 ⟨Nat.le_of_ble_eq_true rfl, Nat.le_of_ble_eq_true rfl⟩ rfl ?_
  refine ev_push (fun h1 n1 c1 f1 => ?_)
  rw [e0] at n1 c1 f1 ⊢
  have e1 : h1.1 = a + 2 := n1
  have o1 := (f1 (a) (by omega)).trans o0
  refine e_dup (p' := 9) D_Slot_init_8 rfl rfl ?_
  refine e_callIN (p' := 12) D_Slot_init_9 IN_Slot_9 (c_Grid_init e1 c1) rfl rfl (Nat.le_of_ble_eq_true rfl) (by decide) ⟨Nat.le_of_ble_eq_true rfl, Nat.le_of_ble_eq_true rfl⟩ rfl ?_
  rintro _ h2 ⟨rfl, ⟨n2, x2⟩, f2⟩
  try simp only [Option.toList, List.nil_append]
  have e2 : h2.1 = a + 4 := n2
  have o2 := (f2 (a) (by omega)).trans o1
  refine e_putfield (p' := 15) D_Slot_init_12 F_Slot_10 (Or.inr rfl) (by first | assumption | exact sUp_eq | (rw [sUp_ne (by omega)]; assumption) | (rw [sUp_ne (by omega), sUp_ne (by omega)]; assumption) | (rw [sUp_ne (by omega)]; exact sUp_eq) | (rw [gSet_ne (by omega) (by omega)]; first | assumption | exact sUp_eq | (rw [sUp_ne (by omega)]; assumption) | (rw [sUp_ne (by omega), sUp_ne (by omega)]; assumption)) | (rw [sUp_ne (by omega), sUp_ne (by omega), sUp_ne (by omega)]; assumption) | (simp [sUp]; done)) (fun _ => ⟨rfl, rfl⟩) (Nat.le_of_ble_eq_true rfl) (by rfl) rfl ?_
  try dsimp only [List.set]
  refine ev_up (fun h3 n3 o3 f3 => ?_)
  have e3 := n3.trans e2
  refine e_return D_Slot_init_15 rfl ⟨Nat.le_of_ble_eq_true rfl, Nat.le_of_ble_eq_true rfl⟩ ?_
  exact ⟨rfl, ⟨e3, ⟨g0, g0_ok, (x2.kept ((f3 (a + 1) (by omega)).trans rfl) ((f3 (a + 2) (by omega)).trans rfl) ((f3 (a + 3) (by omega)).trans rfl)), o3, fun z e => nomatch e⟩⟩, fun b hb => ((f3 b (by omega)).trans ((f2 b (by omega)).trans (f1 b (by omega))))⟩
set_option maxRecDepth 4000 in
theorem c_Parts_init {l : Launch} {h : sH} (e0 : h.1 = 8) (o0 : h.2 7 = oC 5 [.null, .null, .null, .null, .int 0, .int 0]) : sCall l m_Parts_init 2 8 28 [.ref 7] h (fun r h9 => r = none ∧ (h9.1 = 16 ∧ (∃ s sz con, PtAt h9 s sz con)) ∧ ∀ b, b < 7 → h9.2 b = h.2 b) := by
  refine en_Parts_init ?_
  refine e_aload_0 (p' := 1) D_Parts_init_0 rfl ?_
  refine e_objInit (p' := 4) D_Parts_init_1 OI_Parts_3 OI_inst OI_code (Nat.le_of_ble_eq_true rfl) (by decide) rfl ?_
  refine e_aload_0 (p' := 5) D_Parts_init_4 rfl ?_
  refine e_new (p' := 8) D_Parts_init_5 N_Parts_9 ⟨Nat.le_of_ble_eq_true rfl, Nat.le_of_ble_eq_true rfl⟩ rfl ?_
  refine ev_push (fun h1 n1 c1 f1 => ?_)
  rw [e0] at n1 c1 f1 ⊢
  have e1 : h1.1 = 9 := n1
  have o1 := (f1 (7) (by omega)).trans o0
  refine e_dup (p' := 9) D_Parts_init_8 rfl rfl ?_
  refine e_bipush (v := nI 6) (p' := 11) D_Parts_init_9 cst_bipush_6 rfl ?_
  refine e_callI (p' := 14) D_Parts_init_11 I_Parts_11 (c_Num_init6 e1 c1) rfl rfl (Nat.le_of_ble_eq_true rfl) (by decide) ⟨Nat.le_of_ble_eq_true rfl, Nat.le_of_ble_eq_true rfl⟩ rfl ?_
  rintro _ h2 ⟨rfl, ⟨n2, x2⟩, f2⟩
  try simp only [Option.toList, List.nil_append]
  have e2 : h2.1 = 10 := n2
  have o2 := (f2 (7) (by omega)).trans o1
  refine e_putfield (p' := 17) D_Parts_init_14 F_Parts_14 (Or.inr rfl) (by first | assumption | exact sUp_eq | (rw [sUp_ne (by omega)]; assumption) | (rw [sUp_ne (by omega), sUp_ne (by omega)]; assumption) | (rw [sUp_ne (by omega)]; exact sUp_eq) | (rw [gSet_ne (by omega) (by omega)]; first | assumption | exact sUp_eq | (rw [sUp_ne (by omega)]; assumption) | (rw [sUp_ne (by omega), sUp_ne (by omega)]; assumption)) | (rw [sUp_ne (by omega), sUp_ne (by omega), sUp_ne (by omega)]; assumption) | (simp [sUp]; done)) (fun _ => ⟨rfl, rfl⟩) (Nat.le_of_ble_eq_true rfl) (by rfl) rfl ?_
  try dsimp only [List.set]
  refine ev_up (fun h3 n3 o3 f3 => ?_)
  have e3 := n3.trans e2
  refine e_aload_0 (p' := 18) D_Parts_init_17 rfl ?_
  refine e_new (p' := 21) D_Parts_init_18 N_Parts_9 ⟨Nat.le_of_ble_eq_true rfl, Nat.le_of_ble_eq_true rfl⟩ rfl ?_
  refine ev_push (fun h4 n4 c4 f4 => ?_)
  rw [e3] at n4 c4 f4 ⊢
  have e4 : h4.1 = 11 := n4
  have o4 := (f4 (7) (by omega)).trans o3
  refine e_dup (p' := 22) D_Parts_init_21 rfl rfl ?_
  refine e_bipush (v := nI 6) (p' := 24) D_Parts_init_22 cst_bipush_6 rfl ?_
  refine e_callI (p' := 27) D_Parts_init_24 I_Parts_11 (c_Num_init6 e4 c4) rfl rfl (Nat.le_of_ble_eq_true rfl) (by decide) ⟨Nat.le_of_ble_eq_true rfl, Nat.le_of_ble_eq_true rfl⟩ rfl ?_
  rintro _ h5 ⟨rfl, ⟨n5, x5⟩, f5⟩
  try simp only [Option.toList, List.nil_append]
  have e5 : h5.1 = 12 := n5
  have o5 := (f5 (7) (by omega)).trans o4
  refine e_putfield (p' := 30) D_Parts_init_27 F_Parts_20 (Or.inr rfl) (by first | assumption | exact sUp_eq | (rw [sUp_ne (by omega)]; assumption) | (rw [sUp_ne (by omega), sUp_ne (by omega)]; assumption) | (rw [sUp_ne (by omega)]; exact sUp_eq) | (rw [gSet_ne (by omega) (by omega)]; first | assumption | exact sUp_eq | (rw [sUp_ne (by omega)]; assumption) | (rw [sUp_ne (by omega), sUp_ne (by omega)]; assumption)) | (rw [sUp_ne (by omega), sUp_ne (by omega), sUp_ne (by omega)]; assumption) | (simp [sUp]; done)) (fun _ => ⟨rfl, rfl⟩) (Nat.le_of_ble_eq_true rfl) (by rfl) rfl ?_
  try dsimp only [List.set]
  refine ev_up (fun h6 n6 o6 f6 => ?_)
  have e6 := n6.trans e5
  refine e_aload_0 (p' := 31) D_Parts_init_30 rfl ?_
  refine e_new (p' := 34) D_Parts_init_31 N_Parts_9 ⟨Nat.le_of_ble_eq_true rfl, Nat.le_of_ble_eq_true rfl⟩ rfl ?_
  refine ev_push (fun h7 n7 c7 f7 => ?_)
  rw [e6] at n7 c7 f7 ⊢
  have e7 : h7.1 = 13 := n7
  have o7 := (f7 (7) (by omega)).trans o6
  refine e_dup (p' := 35) D_Parts_init_34 rfl rfl ?_
  refine e_bipush (v := nI 6) (p' := 37) D_Parts_init_35 cst_bipush_6 rfl ?_
  refine e_callI (p' := 40) D_Parts_init_37 I_Parts_11 (c_Num_init6 e7 c7) rfl rfl (Nat.le_of_ble_eq_true rfl) (by decide) ⟨Nat.le_of_ble_eq_true rfl, Nat.le_of_ble_eq_true rfl⟩ rfl ?_
  rintro _ h8 ⟨rfl, ⟨n8, x8⟩, f8⟩
  try simp only [Option.toList, List.nil_append]
  have e8 : h8.1 = 14 := n8
  have o8 := (f8 (7) (by omega)).trans o7
  refine e_putfield (p' := 43) D_Parts_init_40 F_Parts_23 (Or.inr rfl) (by first | assumption | exact sUp_eq | (rw [sUp_ne (by omega)]; assumption) | (rw [sUp_ne (by omega), sUp_ne (by omega)]; assumption) | (rw [sUp_ne (by omega)]; exact sUp_eq) | (rw [gSet_ne (by omega) (by omega)]; first | assumption | exact sUp_eq | (rw [sUp_ne (by omega)]; assumption) | (rw [sUp_ne (by omega), sUp_ne (by omega)]; assumption)) | (rw [sUp_ne (by omega), sUp_ne (by omega), sUp_ne (by omega)]; assumption) | (simp [sUp]; done)) (fun _ => ⟨rfl, rfl⟩) (Nat.le_of_ble_eq_true rfl) (by rfl) rfl ?_
  try dsimp only [List.set]
  refine ev_up (fun h9 n9 o9 f9 => ?_)
  have e9 := n9.trans e8
  refine e_aload_0 (p' := 44) D_Parts_init_43 rfl ?_
  refine e_new (p' := 47) D_Parts_init_44 N_Parts_9 ⟨Nat.le_of_ble_eq_true rfl, Nat.le_of_ble_eq_true rfl⟩ rfl ?_
  refine ev_push (fun h10 n10 c10 f10 => ?_)
  rw [e9] at n10 c10 f10 ⊢
  have e10 : h10.1 = 15 := n10
  have o10 := (f10 (7) (by omega)).trans o9
  refine e_dup (p' := 48) D_Parts_init_47 rfl rfl ?_
  refine e_bipush (v := nI 6) (p' := 50) D_Parts_init_48 cst_bipush_6 rfl ?_
  refine e_callI (p' := 53) D_Parts_init_50 I_Parts_11 (c_Num_init6 e10 c10) rfl rfl (Nat.le_of_ble_eq_true rfl) (by decide) ⟨Nat.le_of_ble_eq_true rfl, Nat.le_of_ble_eq_true rfl⟩ rfl ?_
  rintro _ h11 ⟨rfl, ⟨n11, x11⟩, f11⟩
  try simp only [Option.toList, List.nil_append]
  have e11 : h11.1 = 16 := n11
  have o11 := (f11 (7) (by omega)).trans o10
  refine e_putfield (p' := 56) D_Parts_init_53 F_Parts_26 (Or.inr rfl) (by first | assumption | exact sUp_eq | (rw [sUp_ne (by omega)]; assumption) | (rw [sUp_ne (by omega), sUp_ne (by omega)]; assumption) | (rw [sUp_ne (by omega)]; exact sUp_eq) | (rw [gSet_ne (by omega) (by omega)]; first | assumption | exact sUp_eq | (rw [sUp_ne (by omega)]; assumption) | (rw [sUp_ne (by omega), sUp_ne (by omega)]; assumption)) | (rw [sUp_ne (by omega), sUp_ne (by omega), sUp_ne (by omega)]; assumption) | (simp [sUp]; done)) (fun _ => ⟨rfl, rfl⟩) (Nat.le_of_ble_eq_true rfl) (by rfl) rfl ?_
  try dsimp only [List.set]
  refine ev_up (fun h12 n12 o12 f12 => ?_)
  have e12 := n12.trans e11
  refine e_return D_Parts_init_56 rfl ⟨Nat.le_of_ble_eq_true rfl, Nat.le_of_ble_eq_true rfl⟩ ?_
  exact ⟨rfl, ⟨e12, ⟨((fun _ => 1, fun _ => 1), (fun _ => 0, fun _ => 0)), 0, false, _, _, _, _, ⟨o12, ⟨((f12 (8) (by omega)).trans ((f11 (8) (by omega)).trans ((f10 (8) (by omega)).trans ((f9 (8) (by omega)).trans ((f8 (8) (by omega)).trans ((f7 (8) (by omega)).trans ((f6 (8) (by omega)).trans ((f5 (8) (by omega)).trans ((f4 (8) (by omega)).trans ((f3 (8) (by omega)).trans x2.1)))))))))), ((f12 (9) (by omega)).trans ((f11 (9) (by omega)).trans ((f10 (9) (by omega)).trans ((f9 (9) (by omega)).trans ((f8 (9) (by omega)).trans ((f7 (9) (by omega)).trans ((f6 (9) (by omega)).trans ((f5 (9) (by omega)).trans ((f4 (9) (by omega)).trans ((f3 (9) (by omega)).trans x2.2))))))))))⟩, ⟨((f12 (10) (by omega)).trans ((f11 (10) (by omega)).trans ((f10 (10) (by omega)).trans ((f9 (10) (by omega)).trans ((f8 (10) (by omega)).trans ((f7 (10) (by omega)).trans ((f6 (10) (by omega)).trans x5.1))))))), ((f12 (11) (by omega)).trans ((f11 (11) (by omega)).trans ((f10 (11) (by omega)).trans ((f9 (11) (by omega)).trans ((f8 (11) (by omega)).trans ((f7 (11) (by omega)).trans ((f6 (11) (by omega)).trans x5.2)))))))⟩, ⟨((f12 (12) (by omega)).trans ((f11 (12) (by omega)).trans ((f10 (12) (by omega)).trans ((f9 (12) (by omega)).trans x8.1)))), ((f12 (13) (by omega)).trans ((f11 (13) (by omega)).trans ((f10 (13) (by omega)).trans ((f9 (13) (by omega)).trans x8.2))))⟩, ⟨((f12 (14) (by omega)).trans x11.1), ((f12 (15) (by omega)).trans x11.2)⟩⟩, fun k hk => ⟨⟨rfl, rfl⟩, fun _ => rfl, fun _ => rfl⟩⟩⟩, fun b hb => ((f12 b (by omega)).trans ((f11 b (by omega)).trans ((f10 b (by omega)).trans ((f9 b (by omega)).trans ((f8 b (by omega)).trans ((f7 b (by omega)).trans ((f6 b (by omega)).trans ((f5 b (by omega)).trans ((f4 b (by omega)).trans ((f3 b (by omega)).trans ((f2 b (by omega)).trans (f1 b (by omega)))))))))))))⟩
theorem gM0 : ∀ r, r < 6 → (0 : Int32) = nI (gMask g0 r) := by decide +kernel
set_option maxRecDepth 4000 in
theorem c_Rings_init {l : Launch} {h : sH} (e0 : h.1 = 17) (o0 : h.2 16 = oC 6 [.null, .null, .null, .null, .int 0, .int 0, .int 0, .int 0, .int 0, .int 0, .int 0]) : sCall l m_Rings_init 3 9 888 [.ref 16] h (fun r h9 => r = none ∧ (h9.1 = 26 ∧ RgS h9) ∧ ∀ b, b < 16 → h9.2 b = h.2 b) := by
  refine en_Rings_init ?_
  refine e_aload_0 (p' := 1) D_Rings_init_0 rfl ?_
  refine e_objInit (p' := 4) D_Rings_init_1 OI_Rings_3 OI_inst OI_code (Nat.le_of_ble_eq_true rfl) (by decide) rfl ?_
  refine e_aload_0 (p' := 5) D_Rings_init_4 rfl ?_
  refine e_new (p' := 8) D_Rings_init_5 N_Rings_9 ⟨Nat.le_of_ble_eq_true rfl, Nat.le_of_ble_eq_true rfl⟩ rfl ?_
  refine ev_push (fun h1 n1 c1 f1 => ?_)
  rw [e0] at n1 c1 f1 ⊢
  have e1 : h1.1 = 18 := n1
  have o1 := (f1 (16) (by omega)).trans o0
  refine e_dup (p' := 9) D_Rings_init_8 rfl rfl ?_
  refine e_callIN (p' := 12) D_Rings_init_9 IN_Rings_11 (c_Grid_init e1 c1) rfl rfl (Nat.le_of_ble_eq_true rfl) (by decide) ⟨Nat.le_of_ble_eq_true rfl, Nat.le_of_ble_eq_true rfl⟩ rfl ?_
  rintro _ h2 ⟨rfl, ⟨n2, x2⟩, f2⟩
  try simp only [Option.toList, List.nil_append]
  have e2 : h2.1 = 20 := n2
  have o2 := (f2 (16) (by omega)).trans o1
  refine e_putfield (p' := 15) D_Rings_init_12 F_Rings_12 (Or.inr rfl) (by first | assumption | exact sUp_eq | (rw [sUp_ne (by omega)]; assumption) | (rw [sUp_ne (by omega), sUp_ne (by omega)]; assumption) | (rw [sUp_ne (by omega)]; exact sUp_eq) | (rw [gSet_ne (by omega) (by omega)]; first | assumption | exact sUp_eq | (rw [sUp_ne (by omega)]; assumption) | (rw [sUp_ne (by omega), sUp_ne (by omega)]; assumption)) | (rw [sUp_ne (by omega), sUp_ne (by omega), sUp_ne (by omega)]; assumption) | (simp [sUp]; done)) (fun _ => ⟨rfl, rfl⟩) (Nat.le_of_ble_eq_true rfl) (by rfl) rfl ?_
  try dsimp only [List.set]
  refine ev_up (fun h3 n3 o3 f3 => ?_)
  have e3 := n3.trans e2
  refine e_aload_0 (p' := 16) D_Rings_init_15 rfl ?_
  refine e_new (p' := 19) D_Rings_init_16 N_Rings_18 ⟨Nat.le_of_ble_eq_true rfl, Nat.le_of_ble_eq_true rfl⟩ rfl ?_
  refine ev_push (fun h4 n4 c4 f4 => ?_)
  rw [e3] at n4 c4 f4 ⊢
  have e4 : h4.1 = 21 := n4
  have o4 := (f4 (16) (by omega)).trans o3
  refine e_dup (p' := 20) D_Rings_init_19 rfl rfl ?_
  refine e_bipush (v := nI 6) (p' := 22) D_Rings_init_20 cst_bipush_6 rfl ?_
  refine e_callI (p' := 25) D_Rings_init_22 I_Rings_20 (c_Num_init6 e4 c4) rfl rfl (Nat.le_of_ble_eq_true rfl) (by decide) ⟨Nat.le_of_ble_eq_true rfl, Nat.le_of_ble_eq_true rfl⟩ rfl ?_
  rintro _ h5 ⟨rfl, ⟨n5, x5⟩, f5⟩
  try simp only [Option.toList, List.nil_append]
  have e5 : h5.1 = 22 := n5
  have o5 := (f5 (16) (by omega)).trans o4
  refine e_putfield (p' := 28) D_Rings_init_25 F_Rings_23 (Or.inr rfl) (by first | assumption | exact sUp_eq | (rw [sUp_ne (by omega)]; assumption) | (rw [sUp_ne (by omega), sUp_ne (by omega)]; assumption) | (rw [sUp_ne (by omega)]; exact sUp_eq) | (rw [gSet_ne (by omega) (by omega)]; first | assumption | exact sUp_eq | (rw [sUp_ne (by omega)]; assumption) | (rw [sUp_ne (by omega), sUp_ne (by omega)]; assumption)) | (rw [sUp_ne (by omega), sUp_ne (by omega), sUp_ne (by omega)]; assumption) | (simp [sUp]; done)) (fun _ => ⟨rfl, rfl⟩) (Nat.le_of_ble_eq_true rfl) (by rfl) rfl ?_
  try dsimp only [List.set]
  refine ev_up (fun h6 n6 o6 f6 => ?_)
  have e6 := n6.trans e5
  refine e_aload_0 (p' := 29) D_Rings_init_28 rfl ?_
  refine e_new (p' := 32) D_Rings_init_29 N_Rings_18 ⟨Nat.le_of_ble_eq_true rfl, Nat.le_of_ble_eq_true rfl⟩ rfl ?_
  refine ev_push (fun h7 n7 c7 f7 => ?_)
  rw [e6] at n7 c7 f7 ⊢
  have e7 : h7.1 = 23 := n7
  have o7 := (f7 (16) (by omega)).trans o6
  refine e_dup (p' := 33) D_Rings_init_32 rfl rfl ?_
  refine e_sipush (v := nI 832) (p' := 36) D_Rings_init_33 cst_sipush_832 rfl ?_
  refine e_callI (p' := 39) D_Rings_init_36 I_Rings_20 (c_Num_init832 e7 c7) rfl rfl (Nat.le_of_ble_eq_true rfl) (by decide) ⟨Nat.le_of_ble_eq_true rfl, Nat.le_of_ble_eq_true rfl⟩ rfl ?_
  rintro _ h8 ⟨rfl, ⟨n8, x8⟩, f8⟩
  try simp only [Option.toList, List.nil_append]
  have e8 : h8.1 = 24 := n8
  have o8 := (f8 (16) (by omega)).trans o7
  refine e_putfield (p' := 42) D_Rings_init_39 F_Rings_27 (Or.inr rfl) (by first | assumption | exact sUp_eq | (rw [sUp_ne (by omega)]; assumption) | (rw [sUp_ne (by omega), sUp_ne (by omega)]; assumption) | (rw [sUp_ne (by omega)]; exact sUp_eq) | (rw [gSet_ne (by omega) (by omega)]; first | assumption | exact sUp_eq | (rw [sUp_ne (by omega)]; assumption) | (rw [sUp_ne (by omega), sUp_ne (by omega)]; assumption)) | (rw [sUp_ne (by omega), sUp_ne (by omega), sUp_ne (by omega)]; assumption) | (simp [sUp]; done)) (fun _ => ⟨rfl, rfl⟩) (Nat.le_of_ble_eq_true rfl) (by rfl) rfl ?_
  try dsimp only [List.set]
  refine ev_up (fun h9 n9 o9 f9 => ?_)
  have e9 := n9.trans e8
  refine e_aload_0 (p' := 43) D_Rings_init_42 rfl ?_
  refine e_new (p' := 46) D_Rings_init_43 N_Rings_18 ⟨Nat.le_of_ble_eq_true rfl, Nat.le_of_ble_eq_true rfl⟩ rfl ?_
  refine ev_push (fun h10 n10 c10 f10 => ?_)
  rw [e9] at n10 c10 f10 ⊢
  have e10 : h10.1 = 25 := n10
  have o10 := (f10 (16) (by omega)).trans o9
  refine e_dup (p' := 47) D_Rings_init_46 rfl rfl ?_
  refine e_bipush (v := nI 6) (p' := 49) D_Rings_init_47 cst_bipush_6 rfl ?_
  refine e_callI (p' := 52) D_Rings_init_49 I_Rings_20 (c_Num_init6 e10 c10) rfl rfl (Nat.le_of_ble_eq_true rfl) (by decide) ⟨Nat.le_of_ble_eq_true rfl, Nat.le_of_ble_eq_true rfl⟩ rfl ?_
  rintro _ h11 ⟨rfl, ⟨n11, x11⟩, f11⟩
  try simp only [Option.toList, List.nil_append]
  have e11 : h11.1 = 26 := n11
  have o11 := (f11 (16) (by omega)).trans o10
  refine e_putfield (p' := 55) D_Rings_init_52 F_Rings_30 (Or.inr rfl) (by first | assumption | exact sUp_eq | (rw [sUp_ne (by omega)]; assumption) | (rw [sUp_ne (by omega), sUp_ne (by omega)]; assumption) | (rw [sUp_ne (by omega)]; exact sUp_eq) | (rw [gSet_ne (by omega) (by omega)]; first | assumption | exact sUp_eq | (rw [sUp_ne (by omega)]; assumption) | (rw [sUp_ne (by omega), sUp_ne (by omega)]; assumption)) | (rw [sUp_ne (by omega), sUp_ne (by omega), sUp_ne (by omega)]; assumption) | (simp [sUp]; done)) (fun _ => ⟨rfl, rfl⟩) (Nat.le_of_ble_eq_true rfl) (by rfl) rfl ?_
  try dsimp only [List.set]
  refine ev_up (fun h12 n12 o12 f12 => ?_)
  have e12 := n12.trans e11
  refine e_return D_Rings_init_55 rfl ⟨Nat.le_of_ble_eq_true rfl, Nat.le_of_ble_eq_true rfl⟩ ?_
  exact ⟨rfl, ⟨e12, ⟨g0, 0, 0, 0, (0, 0, 0, 0), fun _ _ => 0, fun _ => 0, g0_ok, ⟨(x2.kept ((f12 (17) (by omega)).trans ((f11 (17) (by omega)).trans ((f10 (17) (by omega)).trans ((f9 (17) (by omega)).trans ((f8 (17) (by omega)).trans ((f7 (17) (by omega)).trans ((f6 (17) (by omega)).trans ((f5 (17) (by omega)).trans ((f4 (17) (by omega)).trans ((f3 (17) (by omega)).trans rfl)))))))))) ((f12 (18) (by omega)).trans ((f11 (18) (by omega)).trans ((f10 (18) (by omega)).trans ((f9 (18) (by omega)).trans ((f8 (18) (by omega)).trans ((f7 (18) (by omega)).trans ((f6 (18) (by omega)).trans ((f5 (18) (by omega)).trans ((f4 (18) (by omega)).trans ((f3 (18) (by omega)).trans rfl)))))))))) ((f12 (19) (by omega)).trans ((f11 (19) (by omega)).trans ((f10 (19) (by omega)).trans ((f9 (19) (by omega)).trans ((f8 (19) (by omega)).trans ((f7 (19) (by omega)).trans ((f6 (19) (by omega)).trans ((f5 (19) (by omega)).trans ((f4 (19) (by omega)).trans ((f3 (19) (by omega)).trans rfl))))))))))), _, _, _, ⟨o12, ⟨((f12 (20) (by omega)).trans ((f11 (20) (by omega)).trans ((f10 (20) (by omega)).trans ((f9 (20) (by omega)).trans ((f8 (20) (by omega)).trans ((f7 (20) (by omega)).trans ((f6 (20) (by omega)).trans x5.1))))))), ((f12 (21) (by omega)).trans ((f11 (21) (by omega)).trans ((f10 (21) (by omega)).trans ((f9 (21) (by omega)).trans ((f8 (21) (by omega)).trans ((f7 (21) (by omega)).trans ((f6 (21) (by omega)).trans x5.2)))))))⟩, ⟨((f12 (22) (by omega)).trans ((f11 (22) (by omega)).trans ((f10 (22) (by omega)).trans ((f9 (22) (by omega)).trans x8.1)))), ((f12 (23) (by omega)).trans ((f11 (23) (by omega)).trans ((f10 (23) (by omega)).trans ((f9 (23) (by omega)).trans x8.2))))⟩, ⟨((f12 (24) (by omega)).trans x11.1), ((f12 (25) (by omega)).trans x11.2)⟩⟩, fun r hr => gM0 r hr, fun S i _ _ => rfl, fun c _ => rfl⟩, fun _ _ _ => rfl⟩⟩, fun b hb => ((f12 b (by omega)).trans ((f11 b (by omega)).trans ((f10 b (by omega)).trans ((f9 b (by omega)).trans ((f8 b (by omega)).trans ((f7 b (by omega)).trans ((f6 b (by omega)).trans ((f5 b (by omega)).trans ((f4 b (by omega)).trans ((f3 b (by omega)).trans ((f2 b (by omega)).trans (f1 b (by omega)))))))))))))⟩
set_option maxRecDepth 4000 in
theorem c_Min_init {l : Launch} {h : sH} (e0 : h.1 = 27) (o0 : h.2 26 = oC 2 [.null]) : sCall l m_Min_init 2 2 37 [.ref 26] h (fun r h9 => r = none ∧ (h9.1 = 29 ∧ (∃ n B, MtAt h9 n B)) ∧ ∀ b, b < 26 → h9.2 b = h.2 b) := by
  refine en_Min_init ?_
  refine e_aload_0 (p' := 1) D_Min_init_0 rfl ?_
  refine e_objInit (p' := 4) D_Min_init_1 OI_Min_3 OI_inst OI_code (Nat.le_of_ble_eq_true rfl) (by decide) rfl ?_
  refine e_aload_0 (p' := 5) D_Min_init_4 rfl ?_
  refine e_new (p' := 8) D_Min_init_5 N_Min_9 ⟨Nat.le_of_ble_eq_true rfl, Nat.le_of_ble_eq_true rfl⟩ rfl ?_
  refine ev_push (fun h1 n1 c1 f1 => ?_)
  rw [e0] at n1 c1 f1 ⊢
  have e1 : h1.1 = 28 := n1
  have o1 := (f1 (26) (by omega)).trans o0
  refine e_dup (p' := 9) D_Min_init_8 rfl rfl ?_
  refine e_bipush (v := nI 36) (p' := 11) D_Min_init_9 cst_bipush_36 rfl ?_
  refine e_callI (p' := 14) D_Min_init_11 I_Min_11 (c_Num_init36 e1 c1) rfl rfl (Nat.le_of_ble_eq_true rfl) (by decide) ⟨Nat.le_of_ble_eq_true rfl, Nat.le_of_ble_eq_true rfl⟩ rfl ?_
  rintro _ h2 ⟨rfl, ⟨n2, x2⟩, f2⟩
  try simp only [Option.toList, List.nil_append]
  have e2 : h2.1 = 29 := n2
  have o2 := (f2 (26) (by omega)).trans o1
  refine e_putfield (p' := 17) D_Min_init_14 F_Min_14 (Or.inr rfl) (by first | assumption | exact sUp_eq | (rw [sUp_ne (by omega)]; assumption) | (rw [sUp_ne (by omega), sUp_ne (by omega)]; assumption) | (rw [sUp_ne (by omega)]; exact sUp_eq) | (rw [gSet_ne (by omega) (by omega)]; first | assumption | exact sUp_eq | (rw [sUp_ne (by omega)]; assumption) | (rw [sUp_ne (by omega), sUp_ne (by omega)]; assumption)) | (rw [sUp_ne (by omega), sUp_ne (by omega), sUp_ne (by omega)]; assumption) | (simp [sUp]; done)) (fun _ => ⟨rfl, rfl⟩) (Nat.le_of_ble_eq_true rfl) (by rfl) rfl ?_
  try dsimp only [List.set]
  refine ev_up (fun h3 n3 o3 f3 => ?_)
  have e3 := n3.trans e2
  refine e_return D_Min_init_17 rfl ⟨Nat.le_of_ble_eq_true rfl, Nat.le_of_ble_eq_true rfl⟩ ?_
  exact ⟨rfl, ⟨e3, ⟨0, fun _ _ => 0, _, o3, ((f3 (27) (by omega)).trans x2.1), ((f3 (28) (by omega)).trans x2.2), fun i c hi => absurd hi (Nat.not_lt_zero _)⟩⟩, fun b hb => ((f3 b (by omega)).trans ((f2 b (by omega)).trans (f1 b (by omega))))⟩
set_option maxRecDepth 4000 in
theorem c_Pad_init {l : Launch} {h : sH} (e0 : h.1 = 30) (o0 : h.2 29 = oC 4 [.null, .int 0, .int 0, .int 0]) : sCall l m_Pad_init 2 2 51 [.ref 29] h (fun r h9 => r = none ∧ (h9.1 = 32 ∧ (∃ ry cy, PadAt h9 (0, fun _ => 0) ry cy)) ∧ ∀ b, b < 29 → h9.2 b = h.2 b) := by
  refine en_Pad_init ?_
  refine e_aload_0 (p' := 1) D_Pad_init_0 rfl ?_
  refine e_objInit (p' := 4) D_Pad_init_1 OI_Pad_3 OI_inst OI_code (Nat.le_of_ble_eq_true rfl) (by decide) rfl ?_
  refine e_aload_0 (p' := 5) D_Pad_init_4 rfl ?_
  refine e_new (p' := 8) D_Pad_init_5 N_Pad_9 ⟨Nat.le_of_ble_eq_true rfl, Nat.le_of_ble_eq_true rfl⟩ rfl ?_
  refine ev_push (fun h1 n1 c1 f1 => ?_)
  rw [e0] at n1 c1 f1 ⊢
  have e1 : h1.1 = 31 := n1
  have o1 := (f1 (29) (by omega)).trans o0
  refine e_dup (p' := 9) D_Pad_init_8 rfl rfl ?_
  refine e_bipush (v := nI 50) (p' := 11) D_Pad_init_9 cst_bipush_50 rfl ?_
  refine e_callI (p' := 14) D_Pad_init_11 I_Pad_11 (c_Num_init50 e1 c1) rfl rfl (Nat.le_of_ble_eq_true rfl) (by decide) ⟨Nat.le_of_ble_eq_true rfl, Nat.le_of_ble_eq_true rfl⟩ rfl ?_
  rintro _ h2 ⟨rfl, ⟨n2, x2⟩, f2⟩
  try simp only [Option.toList, List.nil_append]
  have e2 : h2.1 = 32 := n2
  have o2 := (f2 (29) (by omega)).trans o1
  refine e_putfield (p' := 17) D_Pad_init_14 F_Pad_14 (Or.inr rfl) (by first | assumption | exact sUp_eq | (rw [sUp_ne (by omega)]; assumption) | (rw [sUp_ne (by omega), sUp_ne (by omega)]; assumption) | (rw [sUp_ne (by omega)]; exact sUp_eq) | (rw [gSet_ne (by omega) (by omega)]; first | assumption | exact sUp_eq | (rw [sUp_ne (by omega)]; assumption) | (rw [sUp_ne (by omega), sUp_ne (by omega)]; assumption)) | (rw [sUp_ne (by omega), sUp_ne (by omega), sUp_ne (by omega)]; assumption) | (simp [sUp]; done)) (fun _ => ⟨rfl, rfl⟩) (Nat.le_of_ble_eq_true rfl) (by rfl) rfl ?_
  try dsimp only [List.set]
  refine ev_up (fun h3 n3 o3 f3 => ?_)
  have e3 := n3.trans e2
  refine e_return D_Pad_init_17 rfl ⟨Nat.le_of_ble_eq_true rfl, Nat.le_of_ble_eq_true rfl⟩ ?_
  exact ⟨rfl, ⟨e3, ⟨_, _, o3, ((f3 (30) (by omega)).trans x2.1), _, ((f3 (31) (by omega)).trans x2.2), fun i hi => absurd hi (Nat.not_lt_zero _)⟩⟩, fun b hb => ((f3 b (by omega)).trans ((f2 b (by omega)).trans (f1 b (by omega))))⟩
