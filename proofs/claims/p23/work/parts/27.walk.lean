/-! ===== contracts: Rings, walk ===== -/
def WPost (x : Gd) (gr home k n e : Nat) (a : Ac) (W : Wf) (r seen : Nat) (F : Ph → Nat) (h h1 : sH) : Prop :=
  ∃ (a' : Ac) (W' : Wf) (rt' : Nat → Nat), RgAt h1 x k home gr a' W' rt' ∧ AccOk a' ∧ (∀ T j, T < 64 → pc6 T < e + 1 → W' T j = W T j) ∧ AccIs a' (fun φ => F φ + Ls e gr W (fun S i => Gw x gr home φ n r seen S i)) ∧ FrR h h1
def WalkSpec (l : Launch) (x : Gd) (gr home k n : Nat) : Prop :=
  ∀ (h : sH) (a : Ac) (W : Wf) (rt : Nat → Nat) (e r seen : Nat) (F : Ph → Nat), RgAt h x k home gr a W rt → e + 1 + n = k → r < 6 → seen < 64 → AccOk a → AccIs a F → a.1 + Ls e gr W (fun S i => Gw x gr home one n r seen S i) < 2 ^ 31 → Ls e gr W (fun _ _ => 1) ≤ 6 ^ e →
    sY l m_Rings_walk (5 + n) [.ref 16, .int (nI (e + 1)), .int (nI r), .int (nI seen)] h none (WPost x gr home k n e a W r seen F h)
theorem p6_le {e : Nat} (h : e < 6) : 6 ^ e ≤ 7776 := Nat.pow_le_pow_right (by omega) (show e ≤ 5 by omega)
def Gt (x : Gd) (gr home n r seen : Nat) (φ : Ph) (s : Nat) : Nat → Nat → Nat := fun S i => if home < s ∧ bit seen s = false then sm 6 (fun c => if okc x r s S c then Gw x gr home φ n s (seen + 2 ^ s) (S + 2 ^ c) (i * rtf x gr r s c % x.1.2.2) else 0) else 0
theorem Gt_all {x : Gd} {gr home n r seen e : Nat} {W : Wf} {φ : Ph} : Ls e gr W (fun S i => Gw x gr home φ (n + 1) r seen S i) = sm x.1.1 (fun s => Ls e gr W (Gt x gr home n r seen φ s)) := by
  rw [← Ls_sum]; rfl
theorem Gt_0 {x : Gd} {gr home n r seen e s : Nat} {W : Wf} {φ : Ph} (h : ¬ (home < s ∧ bit seen s = false)) : Ls e gr W (Gt x gr home n r seen φ s) = 0 := Ls_zero fun S i _ _ _ _ => by
  unfold Gt
  rw [if_neg h, Nat.mul_zero]
theorem Gt_1 {x : Gd} {gr home n r seen e s : Nat} {W W1 W2 : Wf} {led : Bool} {φ : Ph} (h1 : home < s) (h2 : bit seen s = false) (hk : ∀ T j, T < 64 → pc6 T < e + 1 → W1 T j = W T j) (hL : LdI x gr r s e W1 W2 led 64 0) :
    Ls (e + 1) gr W2 (fun S i => Gw x gr home φ n s (seen + 2 ^ s) S i) = Ls e gr W (Gt x gr home n r seen φ s) := by
  rw [hL.fin]
  refine Ls_congr fun S i hS hp _ _ => ⟨hk S i hS (by omega), ?_⟩
  unfold Gt
  rw [if_pos ⟨h1, h2⟩]
theorem ld_one {x : Gd} {gr r s e : Nat} {W W1 W2 : Wf} {led : Bool} (hk : ∀ T j, T < 64 → pc6 T < e + 1 → W1 T j = W T j) (hL : LdI x gr r s e W1 W2 led 64 0) (hW : Ls e gr W (fun _ _ => 1) ≤ 6 ^ e) : Ls (e + 1) gr W2 (fun _ _ => 1) ≤ 6 ^ (e + 1) := by
  rw [hL.fin]
  have h1 : Ls e gr W1 (fun S i => sm 6 (fun c => if okc x r s S c then 1 else 0)) = Ls e gr W (fun S i => sm 6 (fun c => if okc x r s S c then 1 else 0)) := Ls_congr fun S i hS hp _ _ => ⟨hk S i hS (by omega), rfl⟩
  rw [h1]
  have h2 := Ls_le (d := e) (gr := gr) (b := 6) (W := W) (ψ := fun S i => sm 6 (fun c => if okc x r s S c then 1 else 0)) (fun S i => sm_le (b := 1) fun c _ => by split <;> omega)
  rw [Nat.pow_succ]
  omega
theorem Ls_keep {gr e : Nat} {W W1 : Wf} {ψ : Nat → Nat → Nat} (hk : ∀ T j, T < 64 → pc6 T < e + 1 → W1 T j = W T j) : Ls e gr W1 ψ = Ls e gr W ψ := Ls_congr fun S i hS hp _ _ => ⟨hk S i hS (by omega), rfl⟩
set_option maxRecDepth 4000 in
theorem c_walk0 {l : Launch} {h : sH} {x : Gd} (hx : Gok x) {k home gr : Nat} (hg : Gok2 x gr) (hk6 : k ≤ 6) (hh : home < 6) {a : Ac} {W : Wf} {rt : Nat → Nat} {e r seen : Nat} {F : Ph → Nat} (hP : RgAt h x k home gr a W rt) (hek : e + 1 + 0 = k) (hr : r < 6) (hse : seen < 64) (hA : AccOk a) (hF : AccIs a F) (ha : a.1 + Ls e gr W (fun S i => Gw x gr home one 0 r seen S i) < 2 ^ 31) (hW : Ls e gr W (fun _ _ => 1) ≤ 6 ^ e) : sY l m_Rings_walk 5 [.ref 16, .int (nI (e + 1)), .int (nI r), .int (nI seen)] h (none) (WPost x gr home k 0 e a W r seen F h) := by
  have hgl := hg.le hx
  have h66 := p6_le (e := e) (by omega)
  have c16 := hP.c16
  have hR := hx.1
  refine en_Rings_walk ?_
  refine e_iload_1 (p' := 1) D_Rings_walk_0 rfl ?_
  refine e_aload_0 (p' := 2) D_Rings_walk_1 rfl ?_
  refine e_getfield (p' := 5) D_Rings_walk_2 F_Rings_37 (by first | assumption | exact sUp_eq | (rw [sUp_ne (by omega)]; assumption) | (rw [sUp_ne (by omega), sUp_ne (by omega)]; assumption) | (rw [sUp_ne (by omega)]; exact sUp_eq) | (simp [sUp]; done)) (by rfl) rfl ?_
  refine e_icmpN_lt (q := 27) (p' := 8) D_Rings_walk_5 (by omega) (by omega) rfl rfl (fun hc5 => ?_) (fun hc5 => ?_)
  ·
    exfalso; omega
  ·
    refine e_aload_0 (p' := 9) D_Rings_walk_8 rfl ?_
    refine e_iload_1 (p' := 10) D_Rings_walk_9 rfl ?_
    refine e_iload_2 (p' := 11) D_Rings_walk_10 rfl ?_
    refine e_aload_0 (p' := 12) D_Rings_walk_11 rfl ?_
    refine e_getfield (p' := 15) D_Rings_walk_12 F_Rings_70 (by first | assumption | exact sUp_eq | (rw [sUp_ne (by omega)]; assumption) | (rw [sUp_ne (by omega), sUp_ne (by omega)]; assumption) | (rw [sUp_ne (by omega)]; exact sUp_eq) | (simp [sUp]; done)) (by rfl) rfl ?_
    refine z_callV1 (p' := 18) D_Rings_walk_15 V_Rings_77 (c_Rings_lead hx hP hg (by omega) hr hh (by omega)) rfl (by first | assumption | exact sUp_eq | (rw [sUp_ne (by omega)]; assumption) | (rw [sUp_ne (by omega), sUp_ne (by omega)]; assumption) | (rw [sUp_ne (by omega)]; exact sUp_eq) | (simp [sUp]; done)) rfl (Nat.le_of_ble_eq_true rfl) (by decide) ⟨by decide, by decide⟩ rfl ?_
    rintro _ h2 ⟨led, rfl, W2, hP2, hL2, hF2⟩
    have q16 := hP2.c16
    have key : ∀ φ : Ph, Ls (e + 1) gr W2 (fun S i => φ seen S i) = Ls e gr W (fun S i => Gw x gr home φ 0 r seen S i) := fun φ => hL2.fin _
    have key1 := key one
    refine e_ifB_eq (q := 26) (p' := 21) D_Rings_walk_18 rfl rfl (fun hc18 => ?_) (fun hc18 => ?_)
    ·
      refine e_return D_Rings_walk_26 rfl ⟨by decide, by decide⟩ ?_
      refine ⟨rfl, a, W2, _, hP2, hA, fun T j hT hp => hL2.1 T j hT (by omega), hF.congr fun φ => ?_, hF2⟩
      rw [← key φ, hL2.2.2 hc18]; rfl
    ·
      refine e_aload_0 (p' := 22) D_Rings_walk_21 rfl ?_
      refine e_iload_3 (p' := 23) D_Rings_walk_22 rfl ?_
      refine y_callV0 (p' := 26) D_Rings_walk_23 V_Rings_81 (c_Rings_collect hx hP2 (by omega) hgl.1 hgl.2 hA (by rw [show k = e + 1 by omega]; have h9 : Ls (e + 1) gr W2 (fun _ _ => 1) = Ls e gr W (fun S i => Gw x gr home one 0 r seen S i) := key1; omega) hse) rfl (by first | assumption | exact sUp_eq | (rw [sUp_ne (by omega)]; assumption) | (rw [sUp_ne (by omega), sUp_ne (by omega)]; assumption) | (rw [sUp_ne (by omega)]; exact sUp_eq) | (simp [sUp]; done)) rfl (Nat.le_of_ble_eq_true rfl) (by decide) ⟨by decide, by decide⟩ rfl ?_
      rintro h3 ⟨hP3, hF3⟩
      refine e_return D_Rings_walk_26 rfl ⟨by decide, by decide⟩ ?_
      refine ⟨rfl, _, W2, _, hP3, (colS_ok hgl.1 hse hA 64 (by omega)).1, fun T j hT hp => hL2.1 T j hT (by omega), (colS_64 hgl.1 hF).congr fun φ => ?_, hF2.tr hF3⟩
      rw [show k = e + 1 by omega, key φ]
set_option maxRecDepth 4000 in
theorem c_walkS {l : Launch} {h : sH} {x : Gd} (hx : Gok x) {k home gr : Nat} (hg : Gok2 x gr) (hk6 : k ≤ 6) (hh : home < 6) {n : Nat} (ih : WalkSpec l x gr home k n) {a : Ac} {W : Wf} {rt : Nat → Nat} {e r seen : Nat} {F : Ph → Nat} (hP : RgAt h x k home gr a W rt) (hek : e + 1 + (n + 1) = k) (hr : r < 6) (hse : seen < 64) (hA : AccOk a) (hF : AccIs a F) (ha : a.1 + Ls e gr W (fun S i => Gw x gr home one (n + 1) r seen S i) < 2 ^ 31) (hW : Ls e gr W (fun _ _ => 1) ≤ 6 ^ e) : sY l m_Rings_walk (5 + (n + 1)) [.ref 16, .int (nI (e + 1)), .int (nI r), .int (nI seen)] h (none) (WPost x gr home k (n + 1) e a W r seen F h) := by
  have hgl := hg.le hx
  have h66 := p6_le (e := e) (by omega)
  have c16 := hP.c16
  have hR := hx.1
  rw [Gt_all] at ha
  refine en_Rings_walk ?_
  refine e_iload_1 (p' := 1) D_Rings_walk_0 rfl ?_
  refine e_aload_0 (p' := 2) D_Rings_walk_1 rfl ?_
  refine e_getfield (p' := 5) D_Rings_walk_2 F_Rings_37 (by first | assumption | exact sUp_eq | (rw [sUp_ne (by omega)]; assumption) | (rw [sUp_ne (by omega), sUp_ne (by omega)]; assumption) | (rw [sUp_ne (by omega)]; exact sUp_eq) | (simp [sUp]; done)) (by rfl) rfl ?_
  refine e_icmpN_lt (q := 27) (p' := 8) D_Rings_walk_5 (by omega) (by omega) rfl rfl (fun hc5 => ?_) (fun hc5 => ?_)
  ·
    refine e_aload_0 (p' := 28) D_Rings_walk_27 rfl ?_
    refine e_getfield (p' := 31) D_Rings_walk_28 F_Rings_70 (by first | assumption | exact sUp_eq | (rw [sUp_ne (by omega)]; assumption) | (rw [sUp_ne (by omega), sUp_ne (by omega)]; assumption) | (rw [sUp_ne (by omega)]; exact sUp_eq) | (simp [sUp]; done)) (by rfl) rfl ?_
    refine e_iconst (v := nI 1) (p' := 32) D_Rings_walk_31 cst_iconst_1 rfl ?_
    first | refine e_iaddN (p' := 33) D_Rings_walk_32 rfl ?_ | refine e_iadd (p' := 33) D_Rings_walk_32 rfl ?_
    refine e_istore_4 (p' := 35) D_Rings_walk_33 (Nat.le_of_ble_eq_true rfl) rfl rfl ?_
    have lk35 : ∀ s : Nat, s ≤ (max x.1.1 (home + 1)) → ∀ (h1 : sH) (a1 : Ac) (W1 : Wf) (rt1 : Nat → Nat), (home < s ∧ RgAt h1 x k home gr a1 W1 rt1 ∧ AccOk a1 ∧ (∀ T j, T < 64 → pc6 T < e + 1 → W1 T j = W T j) ∧ AccIs a1 (fun φ => F φ + sm s (fun s => Ls e gr W (Gt x gr home n r seen φ s))) ∧ FrR h h1) → sEv l m_Rings_walk (5 + (n + 1)) (0, 0, 0, 0) (sKm 0 0 (fun r1 h1 => r1 = none ∧ (WPost x gr home k (n + 1) e a W r seen F h) h1)) 35 [some (.ref 16), some (.int (nI (e + 1))), some (.int (nI r)), some (.int (nI seen)), some (.int (nI s))] [] (h1) := by
      refine lp_up _ ?_ ?_
      · intro h1 a1 W1 rt1 hI
        obtain ⟨hhs, hI0, hA1, hk1, hAc, hF1⟩ := hI
        have q161 := hI0.c16
        have hq17 := hI0.1.1
        refine e_iload_4 (p' := 37) D_Rings_walk_35 rfl ?_
        refine e_aload_0 (p' := 38) D_Rings_walk_37 rfl ?_
        refine e_getfield (p' := 41) D_Rings_walk_38 F_Rings_12 (by first | assumption | exact sUp_eq | (rw [sUp_ne (by omega)]; assumption) | (rw [sUp_ne (by omega), sUp_ne (by omega)]; assumption) | (rw [sUp_ne (by omega)]; exact sUp_eq) | (simp [sUp]; done)) (by rfl) rfl ?_
        refine x_callV1 (p' := 44) D_Rings_walk_41 V_Rings_67 (c_Grid_rows hI0.1) rfl (by first | assumption | exact sUp_eq | (rw [sUp_ne (by omega)]; assumption) | (rw [sUp_ne (by omega), sUp_ne (by omega)]; assumption) | (rw [sUp_ne (by omega)]; exact sUp_eq) | (simp [sUp]; done)) rfl (Nat.le_of_ble_eq_true rfl) (by omega) ⟨by decide, by decide⟩ rfl ?_
        first | refine e_icmpN_ge (q := 88) (p' := 47) D_Rings_walk_44 (by omega) (by omega) rfl rfl (fun hc44 => ?_) (fun hc44 => ?_) | refine e_icmp_ge (q := 88) (p' := 47) D_Rings_walk_44 rfl rfl (fun hc44 => ?_) (fun hc44 => ?_)
        ·
          refine e_return D_Rings_walk_88 rfl ⟨by decide, by decide⟩ ?_
          refine ⟨rfl, a1, W1, rt1, hI0, hA1, hk1, hAc.congr fun φ => ?_, hF1⟩
          rw [Gt_all, sm_more (n := x.1.1) (by omega) (fun k h1 h2 => Gt_0 (by omega))]
        ·
          exfalso; omega
      · intro s hs ih35 h1 a1 W1 rt1 hI
        obtain ⟨hhs, hI0, hA1, hk1, hAc, hF1⟩ := hI
        have q161 := hI0.c16
        have hq17 := hI0.1.1
        refine e_iload_4 (p' := 37) D_Rings_walk_35 rfl ?_
        refine e_aload_0 (p' := 38) D_Rings_walk_37 rfl ?_
        refine e_getfield (p' := 41) D_Rings_walk_38 F_Rings_12 (by first | assumption | exact sUp_eq | (rw [sUp_ne (by omega)]; assumption) | (rw [sUp_ne (by omega), sUp_ne (by omega)]; assumption) | (rw [sUp_ne (by omega)]; exact sUp_eq) | (simp [sUp]; done)) (by rfl) rfl ?_
        refine x_callV1 (p' := 44) D_Rings_walk_41 V_Rings_67 (c_Grid_rows hI0.1) rfl (by first | assumption | exact sUp_eq | (rw [sUp_ne (by omega)]; assumption) | (rw [sUp_ne (by omega), sUp_ne (by omega)]; assumption) | (rw [sUp_ne (by omega)]; exact sUp_eq) | (simp [sUp]; done)) rfl (Nat.le_of_ble_eq_true rfl) (by omega) ⟨by decide, by decide⟩ rfl ?_
        first | refine e_icmpN_ge (q := 88) (p' := 47) D_Rings_walk_44 (by omega) (by omega) rfl rfl (fun hc44 => ?_) (fun hc44 => ?_) | refine e_icmp_ge (q := 88) (p' := 47) D_Rings_walk_44 rfl rfl (fun hc44 => ?_) (fun hc44 => ?_)
        ·
          exfalso; omega
        ·
          refine e_iload_3 (p' := 48) D_Rings_walk_47 rfl ?_
          refine e_iload_4 (p' := 50) D_Rings_walk_48 rfl ?_
          refine x_callSN1 (p' := 53) D_Rings_walk_50 SN_Rings_84 (c_O_holds hse (by omega)) rfl rfl (Nat.le_of_ble_eq_true rfl) (by omega) ⟨by decide, by decide⟩ rfl ?_
          refine e_ifB_ne (q := 82) (p' := 56) D_Rings_walk_53 rfl rfl (fun hc53 => ?_) (fun hc53 => ?_)
          ·
            first | refine e_iincN_4 (n := 1) (p' := 85) D_Rings_walk_82 (Nat.le_of_ble_eq_true rfl) rfl rfl ?_ | refine e_iinc_4 (p' := 85) D_Rings_walk_82 (Nat.le_of_ble_eq_true rfl) rfl rfl rfl ?_
            refine e_goto (p' := 35) D_Rings_walk_85 rfl ?_
            refine sEv.castW (ih35 h1 a1 W1 rt1 ⟨by omega, hI0, hA1, hk1, hAc.congr (fun φ => by rw [sm_succ, Gt_0 (fun z => by rw [z.2] at hc53; cases hc53)]; rfl), hF1⟩) ?_ ?_ ?_
            · first | exact lvW_rfl _ | (simp [lvW]; done) | (simp [lvW, *]; done) | (simp [lvW]; omega)
            · rfl
            · first | rfl | (simp; done)
          ·
            refine e_aload_0 (p' := 57) D_Rings_walk_56 rfl ?_
            refine e_iload_1 (p' := 58) D_Rings_walk_57 rfl ?_
            refine e_iload_2 (p' := 59) D_Rings_walk_58 rfl ?_
            refine e_iload_4 (p' := 61) D_Rings_walk_59 rfl ?_
            refine z_callV1 (p' := 64) D_Rings_walk_61 V_Rings_77 (c_Rings_lead hx hI0 hg (by omega) hr (by omega) (by rw [Ls_keep hk1]; omega)) rfl (by first | assumption | exact sUp_eq | (rw [sUp_ne (by omega)]; assumption) | (rw [sUp_ne (by omega), sUp_ne (by omega)]; assumption) | (rw [sUp_ne (by omega)]; exact sUp_eq) | (simp [sUp]; done)) rfl (Nat.le_of_ble_eq_true rfl) (by omega) ⟨by decide, by decide⟩ rfl ?_
            rintro _ h2 ⟨led, rfl, W2, hP2, hL2, hF2⟩
            have q162 := hP2.c16
            refine e_ifB_eq (q := 82) (p' := 67) D_Rings_walk_64 rfl rfl (fun hc64 => ?_) (fun hc64 => ?_)
            ·
              first | refine e_iincN_4 (n := 1) (p' := 85) D_Rings_walk_82 (Nat.le_of_ble_eq_true rfl) rfl rfl ?_ | refine e_iinc_4 (p' := 85) D_Rings_walk_82 (Nat.le_of_ble_eq_true rfl) rfl rfl rfl ?_
              refine e_goto (p' := 35) D_Rings_walk_85 rfl ?_
              refine sEv.castW (ih35 h2 a1 W2 _ ⟨by omega, hP2, hA1, fun T j hT hp => (hL2.1 T j hT (by omega)).trans (hk1 T j hT hp), hAc.congr (fun φ => by rw [sm_succ, ← Gt_1 hhs hc53 hk1 hL2, hL2.2.2 hc64]; rfl), hF1.tr hF2⟩) ?_ ?_ ?_
              · first | exact lvW_rfl _ | (simp [lvW]; done) | (simp [lvW, *]; done) | (simp [lvW]; omega)
              · rfl
              · first | rfl | (simp; done)
            ·
              refine e_aload_0 (p' := 68) D_Rings_walk_67 rfl ?_
              refine e_iload_1 (p' := 69) D_Rings_walk_68 rfl ?_
              refine e_iconst (v := nI 1) (p' := 70) D_Rings_walk_69 cst_iconst_1 rfl ?_
              first | refine e_iaddN (p' := 71) D_Rings_walk_70 rfl ?_ | refine e_iadd (p' := 71) D_Rings_walk_70 rfl ?_
              refine e_iload_4 (p' := 73) D_Rings_walk_71 rfl ?_
              refine e_iload_3 (p' := 74) D_Rings_walk_73 rfl ?_
              refine e_iconst (v := nI 1) (p' := 75) D_Rings_walk_74 cst_iconst_1 rfl ?_
              refine e_iload_4 (p' := 77) D_Rings_walk_75 rfl ?_
              refine e_ishl (p' := 78) D_Rings_walk_77 rfl ?_
              refine e_ior (p' := 79) D_Rings_walk_78 rfl ?_
              rw [or6 seen hse s (by omega) hc53]
              have hsum := sm_mono (n := s + 1) (m := x.1.1) (f := fun s => Ls e gr W (Gt x gr home n r seen one s)) (by omega)
              rw [sm_succ] at hsum
              have ha1 := hAc.1
              have ha0 := hF.1
              dsimp only at ha1
              refine y_callS0 (p' := 82) D_Rings_walk_79 S_Rings_73 (ih _ _ _ _ (e + 1) s (seen + 2 ^ s) _ hP2 (by omega) (by omega) (bits6 seen hse s (by omega) hc53).1.1 hA1 hAc (by rw [Gt_1 hhs hc53 hk1 hL2]; omega) (ld_one hk1 hL2 hW)) rfl rfl (Nat.le_of_ble_eq_true rfl) (by omega) ⟨by decide, by decide⟩ rfl ?_
              rintro h3 ⟨a3, W3, rt3, hP3, hA3, hk3, hAc3, hF3⟩
              first | refine e_iincN_4 (n := 1) (p' := 85) D_Rings_walk_82 (Nat.le_of_ble_eq_true rfl) rfl rfl ?_ | refine e_iinc_4 (p' := 85) D_Rings_walk_82 (Nat.le_of_ble_eq_true rfl) rfl rfl rfl ?_
              refine e_goto (p' := 35) D_Rings_walk_85 rfl ?_
              refine sEv.castW (ih35 h3 a3 W3 rt3 ⟨by omega, hP3, hA3, fun T j hT hp => ((hk3 T j hT (by omega)).trans (hL2.1 T j hT (by omega))).trans (hk1 T j hT hp), hAc3.congr (fun φ => by rw [sm_succ, Gt_1 hhs hc53 hk1 hL2, Nat.add_assoc]), (hF1.tr hF2).tr hF3⟩) ?_ ?_ ?_
              · first | exact lvW_rfl _ | (simp [lvW]; done) | (simp [lvW, *]; done) | (simp [lvW]; omega)
              · rfl
              · first | rfl | (simp; done)
    refine sEv.castW (lk35 (home + 1) (by omega) h a W rt ⟨by omega, hP, hA, fun _ _ _ _ => rfl, hF.congr (fun φ => by rw [sm_zero (fun k hk => Gt_0 (by omega))]; rfl), FrR.rf⟩) ?_ ?_ ?_
    · first | exact lvW_rfl _ | (simp [lvW]; done) | (simp [lvW, *]; done) | (simp [lvW]; omega)
    · rfl
    · first | rfl | (simp; done)
  ·
    exfalso; omega
theorem c_Rings_walk {l : Launch} {x : Gd} (hx : Gok x) {k home gr : Nat} (hg : Gok2 x gr) (hk6 : k ≤ 6) (hh : home < 6) : ∀ n, WalkSpec l x gr home k n := by
  intro n
  induction n with
  | zero => exact fun h a W rt e r seen F h1 h2 h3 h4 h5 h6 h7 h8 => c_walk0 hx hg hk6 hh h1 h2 h3 h4 h5 h6 h7 h8
  | succ n ih => exact fun h a W rt e r seen F h1 h2 h3 h4 h5 h6 h7 h8 => c_walkS hx hg hk6 hh ih h1 h2 h3 h4 h5 h6 h7 h8
