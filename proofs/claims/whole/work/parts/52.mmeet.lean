/-! ===== the reference: isWrong, canStand, meet ===== -/
theorem o1_s {x : Gd} {k i : Nat} {Q : List Nat} : o1 x k Q (i + 1) = o1 x k Q i * at' x (qg Q (2 * i)) (qg Q (2 * i + 1)) % x.1.2.2 := by
  unfold o1
  rw [mod1]
  rfl
theorem o2_s {x : Gd} {k i : Nat} {Q : List Nat} : o2 x k Q (i + 1) = o2 x k Q i * at' x (qg Q (nx k i)) (qg Q (2 * i + 1)) % x.1.2.2 := by
  unfold o2
  rw [mod1]
  rfl
theorem o_0 {x : Gd} (hx : Gok x) {k : Nat} {Q : List Nat} : o1 x k Q 0 = 1 ∧ o2 x k Q 0 = 1 := by
  have hM := hx.2.2.1.le
  have e : 1 % x.1.2.2 = 1 := Nat.mod_eq_of_lt (by omega)
  exact ⟨e, e⟩
def jv (k i : Nat) : Int32 := nI k - nI (2 * i + 2)
theorem jv_N : ∀ k, k < 12 → ∀ i, i < 6 → 2 * i + 2 ≤ k → jv k i = nI (k - 2 - 2 * i) := by decide +kernel
theorem jv_M : ∀ k, k < 12 → jv k (k / 2) < 0 := by decide +kernel
theorem jv_s : ∀ k, k < 12 → ∀ i, i < 6 → 2 * i + 2 ≤ k → nI (k - 2 - 2 * i) + (-2) = jv k (i + 1) := by decide +kernel
theorem csT_s {q : List Nat} {v i : Nat} : csT q v (i + 1) = (csT q v i && !decide (qg q (q.length - 2 - 2 * i) = v)) := rfl
theorem csH_o {x : Gd} {q : List Nat} {v : Nat} (h : q.length % 2 = 1) : csH x q v = td x (qg q (q.length - 1)) v := if_pos h
theorem csH_e {x : Gd} {q : List Nat} {v : Nat} (h : ¬ q.length % 2 = 1) : csH x q v = (decide (q.length = 0) || (decide (qg q 0 < v) && td x v (qg q (q.length - 1)))) := if_neg h
def meA (x : Gd) (k : Nat) (q : List Nat) (a : Ac) : Ac := if o1 x k q k = o2 x k q k then (a.1 + 1, a.2) else noteW a 1 (RM k q) (CM k q)
theorem meA_acc {x : Gd} {k : Nat} {q : List Nat} {a : Ac} {F : Ph → Nat} (h : AccIs a F) : AccIs (meA x k q a) (fun φ => F φ + wt x k φ q) := by
  unfold meA wt
  by_cases e : o1 x k q k = o2 x k q k
  · rw [if_pos e]
    exact (h.add1 1 (RM k q) (CM k q)).congr fun φ => by rw [if_pos e, Nat.one_mul]
  · rw [if_neg e]
    exact (h.note (n := 1) (r := RM k q) (c := CM k q) (i := 2) (by decide)).congr fun φ => by rw [if_neg e, Nat.one_mul]
theorem meA_lt {x : Gd} {k : Nat} {q : List Nat} {a : Ac} (h : a.2.2.1 < 64 ∧ a.2.2.2 < 64) (hR : RM k q < 64) (hC : CM k q < 64) : (meA x k q a).2.2.1 < 64 ∧ (meA x k q a).2.2.2 < 64 := by
  unfold meA noteW
  split
  · exact h
  · rw [if_neg (by decide)]
    show (if a.2.1 = 0 ∨ RM k q < a.2.2.1 ∨ RM k q = a.2.2.1 ∧ CM k q < a.2.2.2 then (RM k q, CM k q) else a.2.2).1 < 64 ∧ (if a.2.1 = 0 ∨ RM k q < a.2.2.1 ∨ RM k q = a.2.2.1 ∧ CM k q < a.2.2.2 then (RM k q, CM k q) else a.2.2).2 < 64
    split
    · exact ⟨hR, hC⟩
    · exact h
set_option maxRecDepth 4000 in
theorem c_M_isWrong {l : Launch} {h : sH} {x : Gd} {n t : Nat} {v : mV} (hm : h.2 61 = mO n t v) (hz : h.2 62 = iA 39 (nF (zN x))) (hx : Gok x) {q : List Nat} {f : Nat → Int32} (hf : h.2 72 = iA 12 f) (hq : ∀ j, j < q.length → f j = nI (qg q j)) (h6 : ∀ j, qg q j < 6) {k : Nat} (hl : q.length = 2 * k) (hk : 1 ≤ k) (hk6 : k ≤ 6) : sX l m_M_isWrong 1 [.ref 61, .int (nI (2 * k))] h (some (.int (sBo (!decide (o1 x k q k = o2 x k q k))))) (h) := by
  have hM := hx.2.2.1.le
  have hR := hx.1
  have hC := hx.2.1
  refine en_M_isWrong ?_
  refine e_iconst (v := nI 1) (p' := 1) D_M_isWrong_0 cst_iconst_1 rfl ?_
  refine e_istore_2 (p' := 2) D_M_isWrong_1 (Nat.le_of_ble_eq_true rfl) rfl rfl ?_
  refine e_iconst (v := nI 1) (p' := 3) D_M_isWrong_2 cst_iconst_1 rfl ?_
  refine e_istore_3 (p' := 4) D_M_isWrong_3 (Nat.le_of_ble_eq_true rfl) rfl rfl ?_
  refine e_iconst (v := nI 0) (p' := 5) D_M_isWrong_4 cst_iconst_0 rfl ?_
  refine e_istore_4 (p' := 7) D_M_isWrong_5 (Nat.le_of_ble_eq_true rfl) rfl rfl ?_
  have lk7 : ∀ i : Nat, i ≤ k → sEv l m_M_isWrong 1 (0, 0, 0, 0) (sKm 0 0 (fun r1 h1 => r1 = some (.int (sBo (!decide (o1 x k q k = o2 x k q k)))) ∧ h1 = h)) 7 [some (.ref 61), some (.int (nI (2 * k))), some (.int (nI (o1 x k q i))), some (.int (nI (o2 x k q i))), some (.int (nI (2 * i))), none] [] (h) := by
    refine lp_up _ ?_ ?_
    · skip
      have nb := Nat.mod_lt (2 * k + 2) (y := 2 * k) (by omega)
      have q1 : o1 x k q k < x.1.2.2 := Nat.mod_lt _ (by omega)
      have q2 : o2 x k q k < x.1.2.2 := Nat.mod_lt _ (by omega)
      have s1 := hx.small (qg q (2 * k)) (qg q (2 * k + 1))
      have s2 := hx.small (qg q ((2 * k + 2) % (2 * k))) (qg q (2 * k + 1))
      refine e_iload_4 (p' := 9) D_M_isWrong_7 rfl ?_
      refine e_iload_1 (p' := 10) D_M_isWrong_9 rfl ?_
      refine e_icmpN_ge (q := 79) (p' := 13) D_M_isWrong_10 (by omega) (by omega) rfl rfl (fun hc10 => ?_) (fun hc10 => ?_)
      ·
        refine e_iload_2 (p' := 80) D_M_isWrong_79 rfl ?_
        refine e_iload_3 (p' := 81) D_M_isWrong_80 rfl ?_
        refine e_icmpN_eq (q := 88) (p' := 84) D_M_isWrong_81 (by omega) (by omega) rfl rfl (fun hc81 => ?_) (fun hc81 => ?_)
        ·
          refine e_iconst (v := nI 0) (p' := 89) D_M_isWrong_88 cst_iconst_0 rfl ?_
          refine e_ireturn (ty := .boolean) D_M_isWrong_89 rfl (by first | rfl | exact sBo_nar _) ⟨by decide, by decide⟩ ?_
          rw [decide_eq_true hc81]; exact ⟨rfl, rfl⟩
        ·
          refine e_iconst (v := nI 1) (p' := 85) D_M_isWrong_84 cst_iconst_1 rfl ?_
          refine e_goto (p' := 89) D_M_isWrong_85 rfl ?_
          refine e_ireturn (ty := .boolean) D_M_isWrong_89 rfl (by first | rfl | exact sBo_nar _) ⟨by decide, by decide⟩ ?_
          rw [decide_eq_false hc81]; exact ⟨rfl, rfl⟩
      ·
        exfalso; omega
    · intro i hi ih7 
      have nb := Nat.mod_lt (2 * i + 2) (y := 2 * k) (by omega)
      have q1 : o1 x k q i < x.1.2.2 := Nat.mod_lt _ (by omega)
      have q2 : o2 x k q i < x.1.2.2 := Nat.mod_lt _ (by omega)
      have s1 := hx.small (qg q (2 * i)) (qg q (2 * i + 1))
      have s2 := hx.small (qg q ((2 * i + 2) % (2 * k))) (qg q (2 * i + 1))
      refine e_iload_4 (p' := 9) D_M_isWrong_7 rfl ?_
      refine e_iload_1 (p' := 10) D_M_isWrong_9 rfl ?_
      refine e_icmpN_ge (q := 79) (p' := 13) D_M_isWrong_10 (by omega) (by omega) rfl rfl (fun hc10 => ?_) (fun hc10 => ?_)
      ·
        exfalso; omega
      ·
        refine e_aload_0 (p' := 14) D_M_isWrong_13 rfl ?_
        refine e_getfield (p' := 17) D_M_isWrong_14 F_M_42 (by first | assumption | exact sUp_eq | (rw [sUp_ne (by omega)]; assumption) | (rw [sUp_ne (by omega), sUp_ne (by omega)]; assumption) | (rw [sUp_ne (by omega)]; exact sUp_eq) | (rw [gSet_ne (by omega) (by omega)]; first | assumption | exact sUp_eq | (rw [sUp_ne (by omega)]; assumption) | (rw [sUp_ne (by omega), sUp_ne (by omega)]; assumption)) | (rw [sUp_ne (by omega), sUp_ne (by omega), sUp_ne (by omega)]; assumption) | (simp [sUp]; done)) (by rfl) rfl ?_
        refine e_iload_4 (p' := 19) D_M_isWrong_17 rfl ?_
        refine e_iconst (v := nI 2) (p' := 20) D_M_isWrong_19 cst_iconst_2 rfl ?_
        first | refine e_iaddN (p' := 21) D_M_isWrong_20 rfl ?_ | refine e_iadd (p' := 21) D_M_isWrong_20 rfl ?_
        refine e_iload_1 (p' := 22) D_M_isWrong_21 rfl ?_
        first | refine e_iremN (p' := 23) D_M_isWrong_22 (by omega) (by omega) (by omega) rfl ?_ | refine e_irem (p' := 23) D_M_isWrong_22 (by assumption) rfl ?_
        refine e_iaload (p' := 24) D_M_isWrong_23 (by first | assumption | exact sUp_eq | (rw [sUp_ne (by omega)]; assumption) | (rw [sUp_ne (by omega), sUp_ne (by omega)]; assumption) | (rw [sUp_ne (by omega)]; exact sUp_eq) | (rw [gSet_ne (by omega) (by omega)]; first | assumption | exact sUp_eq | (rw [sUp_ne (by omega)]; assumption) | (rw [sUp_ne (by omega), sUp_ne (by omega)]; assumption)) | (rw [sUp_ne (by omega), sUp_ne (by omega), sUp_ne (by omega)]; assumption) | (simp [sUp]; done)) (by omega) (by omega) (by rfl) rfl ?_
        rw [hq ((2 * i + 2) % (2 * k)) (by omega)]
        refine e_istore_5 (p' := 26) D_M_isWrong_24 (Nat.le_of_ble_eq_true rfl) rfl rfl ?_
        refine e_aload_0 (p' := 27) D_M_isWrong_26 rfl ?_
        refine e_iload_2 (p' := 28) D_M_isWrong_27 rfl ?_
        refine e_aload_0 (p' := 29) D_M_isWrong_28 rfl ?_
        refine e_aload_0 (p' := 30) D_M_isWrong_29 rfl ?_
        refine e_getfield (p' := 33) D_M_isWrong_30 F_M_42 (by first | assumption | exact sUp_eq | (rw [sUp_ne (by omega)]; assumption) | (rw [sUp_ne (by omega), sUp_ne (by omega)]; assumption) | (rw [sUp_ne (by omega)]; exact sUp_eq) | (rw [gSet_ne (by omega) (by omega)]; first | assumption | exact sUp_eq | (rw [sUp_ne (by omega)]; assumption) | (rw [sUp_ne (by omega), sUp_ne (by omega)]; assumption)) | (rw [sUp_ne (by omega), sUp_ne (by omega), sUp_ne (by omega)]; assumption) | (simp [sUp]; done)) (by rfl) rfl ?_
        refine e_iload_4 (p' := 35) D_M_isWrong_33 rfl ?_
        refine e_iaload (p' := 36) D_M_isWrong_35 (by first | assumption | exact sUp_eq | (rw [sUp_ne (by omega)]; assumption) | (rw [sUp_ne (by omega), sUp_ne (by omega)]; assumption) | (rw [sUp_ne (by omega)]; exact sUp_eq) | (rw [gSet_ne (by omega) (by omega)]; first | assumption | exact sUp_eq | (rw [sUp_ne (by omega)]; assumption) | (rw [sUp_ne (by omega), sUp_ne (by omega)]; assumption)) | (rw [sUp_ne (by omega), sUp_ne (by omega), sUp_ne (by omega)]; assumption) | (simp [sUp]; done)) (by omega) (by omega) (by rfl) rfl ?_
        rw [hq (2 * i) (by omega)]
        refine e_aload_0 (p' := 37) D_M_isWrong_36 rfl ?_
        refine e_getfield (p' := 40) D_M_isWrong_37 F_M_42 (by first | assumption | exact sUp_eq | (rw [sUp_ne (by omega)]; assumption) | (rw [sUp_ne (by omega), sUp_ne (by omega)]; assumption) | (rw [sUp_ne (by omega)]; exact sUp_eq) | (rw [gSet_ne (by omega) (by omega)]; first | assumption | exact sUp_eq | (rw [sUp_ne (by omega)]; assumption) | (rw [sUp_ne (by omega), sUp_ne (by omega)]; assumption)) | (rw [sUp_ne (by omega), sUp_ne (by omega), sUp_ne (by omega)]; assumption) | (simp [sUp]; done)) (by rfl) rfl ?_
        refine e_iload_4 (p' := 42) D_M_isWrong_40 rfl ?_
        refine e_iconst (v := nI 1) (p' := 43) D_M_isWrong_42 cst_iconst_1 rfl ?_
        first | refine e_iaddN (p' := 44) D_M_isWrong_43 rfl ?_ | refine e_iadd (p' := 44) D_M_isWrong_43 rfl ?_
        refine e_iaload (p' := 45) D_M_isWrong_44 (by first | assumption | exact sUp_eq | (rw [sUp_ne (by omega)]; assumption) | (rw [sUp_ne (by omega), sUp_ne (by omega)]; assumption) | (rw [sUp_ne (by omega)]; exact sUp_eq) | (rw [gSet_ne (by omega) (by omega)]; first | assumption | exact sUp_eq | (rw [sUp_ne (by omega)]; assumption) | (rw [sUp_ne (by omega), sUp_ne (by omega)]; assumption)) | (rw [sUp_ne (by omega), sUp_ne (by omega), sUp_ne (by omega)]; assumption) | (simp [sUp]; done)) (by omega) (by omega) (by rfl) rfl ?_
        rw [hq (2 * i + 1) (by omega)]
        refine x_callV1 (p' := 48) D_M_isWrong_45 V_M_67 (c_M_at hm hz hx (h6 _) (h6 _)) rfl (by first | assumption | exact sUp_eq | (rw [sUp_ne (by omega)]; assumption) | (rw [sUp_ne (by omega), sUp_ne (by omega)]; assumption) | (rw [sUp_ne (by omega)]; exact sUp_eq) | (rw [gSet_ne (by omega) (by omega)]; first | assumption | exact sUp_eq | (rw [sUp_ne (by omega)]; assumption) | (rw [sUp_ne (by omega), sUp_ne (by omega)]; assumption)) | (rw [sUp_ne (by omega), sUp_ne (by omega), sUp_ne (by omega)]; assumption) | (simp [sUp]; done)) rfl (Nat.le_of_ble_eq_true rfl) (by decide) ⟨by decide, by decide⟩ rfl ?_
        refine x_callV1 (p' := 51) D_M_isWrong_48 V_M_63 (c_M_times hm hz hx (by omega) (by omega)) rfl (by first | assumption | exact sUp_eq | (rw [sUp_ne (by omega)]; assumption) | (rw [sUp_ne (by omega), sUp_ne (by omega)]; assumption) | (rw [sUp_ne (by omega)]; exact sUp_eq) | (rw [gSet_ne (by omega) (by omega)]; first | assumption | exact sUp_eq | (rw [sUp_ne (by omega)]; assumption) | (rw [sUp_ne (by omega), sUp_ne (by omega)]; assumption)) | (rw [sUp_ne (by omega), sUp_ne (by omega), sUp_ne (by omega)]; assumption) | (simp [sUp]; done)) rfl (Nat.le_of_ble_eq_true rfl) (by decide) ⟨by decide, by decide⟩ rfl ?_
        refine e_istore_2 (p' := 52) D_M_isWrong_51 (Nat.le_of_ble_eq_true rfl) rfl rfl ?_
        refine e_aload_0 (p' := 53) D_M_isWrong_52 rfl ?_
        refine e_iload_3 (p' := 54) D_M_isWrong_53 rfl ?_
        refine e_aload_0 (p' := 55) D_M_isWrong_54 rfl ?_
        refine e_iload_5 (p' := 57) D_M_isWrong_55 rfl ?_
        refine e_aload_0 (p' := 58) D_M_isWrong_57 rfl ?_
        refine e_getfield (p' := 61) D_M_isWrong_58 F_M_42 (by first | assumption | exact sUp_eq | (rw [sUp_ne (by omega)]; assumption) | (rw [sUp_ne (by omega), sUp_ne (by omega)]; assumption) | (rw [sUp_ne (by omega)]; exact sUp_eq) | (rw [gSet_ne (by omega) (by omega)]; first | assumption | exact sUp_eq | (rw [sUp_ne (by omega)]; assumption) | (rw [sUp_ne (by omega), sUp_ne (by omega)]; assumption)) | (rw [sUp_ne (by omega), sUp_ne (by omega), sUp_ne (by omega)]; assumption) | (simp [sUp]; done)) (by rfl) rfl ?_
        refine e_iload_4 (p' := 63) D_M_isWrong_61 rfl ?_
        refine e_iconst (v := nI 1) (p' := 64) D_M_isWrong_63 cst_iconst_1 rfl ?_
        first | refine e_iaddN (p' := 65) D_M_isWrong_64 rfl ?_ | refine e_iadd (p' := 65) D_M_isWrong_64 rfl ?_
        refine e_iaload (p' := 66) D_M_isWrong_65 (by first | assumption | exact sUp_eq | (rw [sUp_ne (by omega)]; assumption) | (rw [sUp_ne (by omega), sUp_ne (by omega)]; assumption) | (rw [sUp_ne (by omega)]; exact sUp_eq) | (rw [gSet_ne (by omega) (by omega)]; first | assumption | exact sUp_eq | (rw [sUp_ne (by omega)]; assumption) | (rw [sUp_ne (by omega), sUp_ne (by omega)]; assumption)) | (rw [sUp_ne (by omega), sUp_ne (by omega), sUp_ne (by omega)]; assumption) | (simp [sUp]; done)) (by omega) (by omega) (by rfl) rfl ?_
        rw [hq (2 * i + 1) (by omega)]
        refine x_callV1 (p' := 69) D_M_isWrong_66 V_M_67 (c_M_at hm hz hx (h6 _) (h6 _)) rfl (by first | assumption | exact sUp_eq | (rw [sUp_ne (by omega)]; assumption) | (rw [sUp_ne (by omega), sUp_ne (by omega)]; assumption) | (rw [sUp_ne (by omega)]; exact sUp_eq) | (rw [gSet_ne (by omega) (by omega)]; first | assumption | exact sUp_eq | (rw [sUp_ne (by omega)]; assumption) | (rw [sUp_ne (by omega), sUp_ne (by omega)]; assumption)) | (rw [sUp_ne (by omega), sUp_ne (by omega), sUp_ne (by omega)]; assumption) | (simp [sUp]; done)) rfl (Nat.le_of_ble_eq_true rfl) (by decide) ⟨by decide, by decide⟩ rfl ?_
        refine x_callV1 (p' := 72) D_M_isWrong_69 V_M_63 (c_M_times hm hz hx (by omega) (by omega)) rfl (by first | assumption | exact sUp_eq | (rw [sUp_ne (by omega)]; assumption) | (rw [sUp_ne (by omega), sUp_ne (by omega)]; assumption) | (rw [sUp_ne (by omega)]; exact sUp_eq) | (rw [gSet_ne (by omega) (by omega)]; first | assumption | exact sUp_eq | (rw [sUp_ne (by omega)]; assumption) | (rw [sUp_ne (by omega), sUp_ne (by omega)]; assumption)) | (rw [sUp_ne (by omega), sUp_ne (by omega), sUp_ne (by omega)]; assumption) | (simp [sUp]; done)) rfl (Nat.le_of_ble_eq_true rfl) (by decide) ⟨by decide, by decide⟩ rfl ?_
        refine e_istore_3 (p' := 73) D_M_isWrong_72 (Nat.le_of_ble_eq_true rfl) rfl rfl ?_
        first | refine e_iincN_4 (n := 2) (p' := 76) D_M_isWrong_73 (Nat.le_of_ble_eq_true rfl) rfl rfl ?_ | refine e_iinc_4 (p' := 76) D_M_isWrong_73 (Nat.le_of_ble_eq_true rfl) rfl rfl rfl ?_
        refine e_goto (p' := 7) D_M_isWrong_76 rfl ?_
        refine sEv.castW (ih7) ?_ ?_ ?_
        · exact ⟨rfl, rfl, congrArg (fun z => some (Value.int (nI z))) o1_s.symm, congrArg (fun z => some (Value.int (nI z))) o2_s.symm, rfl, trivial⟩
        · rfl
        · first | rfl | (simp; done)
  refine sEv.castW (lk7 0 (by omega) ) ?_ ?_ ?_
  · rw [(o_0 hx).1, (o_0 hx).2]; exact ⟨rfl, rfl, rfl, rfl, rfl, trivial⟩
  · rfl
  · first | rfl | (simp; done)
set_option maxRecDepth 4000 in
theorem c_M_canStand {l : Launch} {h : sH} {x : Gd} {n t : Nat} {v : mV} (hm : h.2 61 = mO n t v) (hz : h.2 62 = iA 39 (nF (zN x))) (hx : Gok x) {q : List Nat} {f : Nat → Int32} (hf : h.2 72 = iA 12 f) (hq : ∀ j, j < q.length → f j = nI (qg q j)) (h6 : ∀ j, qg q j < 6) {v0 : Nat} (hv : v0 < 6) (hl : q.length < 12) : sX l m_M_canStand 1 [.ref 61, .int (nI q.length), .int (nI v0)] h (some (.int (sBo (csB x q v0)))) (h) := by
  have hM := hx.2.2.1.le
  have hR := hx.1
  have hC := hx.2.1
  have h60 := h6 0
  have s1 := hx.small (qg q (q.length - 1)) v0
  have s2 := hx.small v0 (qg q (q.length - 1))
  refine en_M_canStand ?_
  have jn67 : sEv l m_M_canStand 1 (0, 0, 0, 0) (sKm 0 0 (fun r1 h1 => r1 = some (.int (sBo (csB x q v0))) ∧ h1 = h)) 67 [some (.ref 61), some (.int (nI q.length)), some (.int (nI v0)), some (.int (sBo (csH x q v0))), none] [] h := by
    refine e_iload_1 (p' := 68) D_M_canStand_67 rfl ?_
    refine e_iconst (v := nI 2) (p' := 69) D_M_canStand_68 cst_iconst_2 rfl ?_
    first | refine e_isubN (p' := 70) D_M_canStand_69 (by omega) rfl ?_ | refine e_isub (p' := 70) D_M_canStand_69 rfl ?_
    refine e_istore_4 (p' := 72) D_M_canStand_70 (Nat.le_of_ble_eq_true rfl) rfl rfl ?_
    have lk72 : ∀ i : Nat, i ≤ q.length / 2 → sEv l m_M_canStand 1 (0, 0, 0, 0) (sKm 0 0 (fun r1 h1 => r1 = some (.int (sBo (csB x q v0))) ∧ h1 = h)) 72 [some (.ref 61), some (.int (nI q.length)), some (.int (nI v0)), some (.int (sBo (csH x q v0 && csT q v0 i))), some (.int (jv q.length i))] [] (h) := by
      refine lp_up _ ?_ ?_
      · skip
        first | rw [jv_N _ (by omega) (q.length / 2) (by omega) (by omega)] | skip
        refine e_iload_4 (p' := 74) D_M_canStand_72 rfl ?_
        refine e_if_lt (q := 104) (p' := 77) D_M_canStand_74 rfl rfl (fun hc74 => ?_) (fun hc74 => ?_)
        ·
          refine e_iload_3 (p' := 105) D_M_canStand_104 rfl ?_
          refine e_ireturn (ty := .boolean) D_M_canStand_105 rfl (by first | rfl | exact sBo_nar _) ⟨by decide, by decide⟩ ?_
          exact ⟨rfl, rfl⟩
        ·
          first | exact absurd hc74 (nI_pos (by omega)) | exact absurd (jv_M _ (by omega)) hc74
      · intro i hi ih72 
        first | rw [jv_N _ (by omega) i (by omega) (by omega)] | skip
        refine e_iload_4 (p' := 74) D_M_canStand_72 rfl ?_
        refine e_if_lt (q := 104) (p' := 77) D_M_canStand_74 rfl rfl (fun hc74 => ?_) (fun hc74 => ?_)
        ·
          first | exact absurd hc74 (nI_pos (by omega)) | exact absurd (jv_M _ (by omega)) hc74
        ·
          refine e_iload_3 (p' := 78) D_M_canStand_77 rfl ?_
          refine e_ifB_eq (q := 96) (p' := 81) D_M_canStand_78 rfl rfl (fun hc78 => ?_) (fun hc78 => ?_)
          ·
            refine e_iconst (v := nI 0) (p' := 97) D_M_canStand_96 cst_iconst_0 rfl ?_
            refine e_istore_3 (p' := 98) D_M_canStand_97 (Nat.le_of_ble_eq_true rfl) rfl rfl ?_
            first | refine e_iincM_4 (n := 2) (p' := 101) D_M_canStand_98 (Nat.le_of_ble_eq_true rfl) rfl (by omega) rfl ?_ | refine e_iinc_4 (p' := 101) D_M_canStand_98 (Nat.le_of_ble_eq_true rfl) rfl rfl rfl ?_
            refine e_goto (p' := 72) D_M_canStand_101 rfl ?_
            refine sEv.castW (ih72) ?_ ?_ ?_
            · refine ⟨rfl, rfl, rfl, ?_, congrArg (fun z => some (Value.int z)) (jv_s _ (by omega) _ (by omega) (by omega)), trivial⟩
              rw [csT_s, ← Bool.and_assoc, hc78]
              rfl
            · rfl
            · first | rfl | (simp; done)
          ·
            refine e_aload_0 (p' := 82) D_M_canStand_81 rfl ?_
            refine e_getfield (p' := 85) D_M_canStand_82 F_M_42 (by first | assumption | exact sUp_eq | (rw [sUp_ne (by omega)]; assumption) | (rw [sUp_ne (by omega), sUp_ne (by omega)]; assumption) | (rw [sUp_ne (by omega)]; exact sUp_eq) | (rw [gSet_ne (by omega) (by omega)]; first | assumption | exact sUp_eq | (rw [sUp_ne (by omega)]; assumption) | (rw [sUp_ne (by omega), sUp_ne (by omega)]; assumption)) | (rw [sUp_ne (by omega), sUp_ne (by omega), sUp_ne (by omega)]; assumption) | (simp [sUp]; done)) (by rfl) rfl ?_
            refine e_iload_4 (p' := 87) D_M_canStand_85 rfl ?_
            refine e_iaload (p' := 88) D_M_canStand_87 (by first | assumption | exact sUp_eq | (rw [sUp_ne (by omega)]; assumption) | (rw [sUp_ne (by omega), sUp_ne (by omega)]; assumption) | (rw [sUp_ne (by omega)]; exact sUp_eq) | (rw [gSet_ne (by omega) (by omega)]; first | assumption | exact sUp_eq | (rw [sUp_ne (by omega)]; assumption) | (rw [sUp_ne (by omega), sUp_ne (by omega)]; assumption)) | (rw [sUp_ne (by omega), sUp_ne (by omega), sUp_ne (by omega)]; assumption) | (simp [sUp]; done)) (by omega) (by omega) (by rfl) rfl ?_
            rw [hq (q.length - 2 - 2 * i) (by omega)]
            have h6i := h6 (q.length - 2 - 2 * i)
            refine e_iload_2 (p' := 89) D_M_canStand_88 rfl ?_
            refine e_icmpN_eq (q := 96) (p' := 92) D_M_canStand_89 (by omega) (by omega) rfl rfl (fun hc89 => ?_) (fun hc89 => ?_)
            ·
              refine e_iconst (v := nI 0) (p' := 97) D_M_canStand_96 cst_iconst_0 rfl ?_
              refine e_istore_3 (p' := 98) D_M_canStand_97 (Nat.le_of_ble_eq_true rfl) rfl rfl ?_
              first | refine e_iincM_4 (n := 2) (p' := 101) D_M_canStand_98 (Nat.le_of_ble_eq_true rfl) rfl (by omega) rfl ?_ | refine e_iinc_4 (p' := 101) D_M_canStand_98 (Nat.le_of_ble_eq_true rfl) rfl rfl rfl ?_
              refine e_goto (p' := 72) D_M_canStand_101 rfl ?_
              refine sEv.castW (ih72) ?_ ?_ ?_
              · refine ⟨rfl, rfl, rfl, ?_, congrArg (fun z => some (Value.int z)) (jv_s _ (by omega) _ (by omega) (by omega)), trivial⟩
                rw [csT_s, ← Bool.and_assoc, hc78, decide_eq_true hc89]
                rfl
              · rfl
              · first | rfl | (simp; done)
            ·
              refine e_iconst (v := nI 1) (p' := 93) D_M_canStand_92 cst_iconst_1 rfl ?_
              refine e_goto (p' := 97) D_M_canStand_93 rfl ?_
              refine e_istore_3 (p' := 98) D_M_canStand_97 (Nat.le_of_ble_eq_true rfl) rfl rfl ?_
              first | refine e_iincM_4 (n := 2) (p' := 101) D_M_canStand_98 (Nat.le_of_ble_eq_true rfl) rfl (by omega) rfl ?_ | refine e_iinc_4 (p' := 101) D_M_canStand_98 (Nat.le_of_ble_eq_true rfl) rfl rfl rfl ?_
              refine e_goto (p' := 72) D_M_canStand_101 rfl ?_
              refine sEv.castW (ih72) ?_ ?_ ?_
              · refine ⟨rfl, rfl, rfl, ?_, congrArg (fun z => some (Value.int z)) (jv_s _ (by omega) _ (by omega) (by omega)), trivial⟩
                rw [csT_s, ← Bool.and_assoc, hc78, decide_eq_false hc89]
                rfl
              · rfl
              · first | rfl | (simp; done)
    refine sEv.castW (lk72 0 (by omega) ) ?_ ?_ ?_
    · refine ⟨rfl, rfl, rfl, ?_, rfl, trivial⟩
      rw [show csT q v0 0 = true from rfl, Bool.and_true]
    · rfl
    · first | rfl | (simp; done)
  refine e_iload_1 (p' := 1) D_M_canStand_0 rfl ?_
  refine e_iconst (v := nI 2) (p' := 2) D_M_canStand_1 cst_iconst_2 rfl ?_
  first | refine e_iremN (p' := 3) D_M_canStand_2 (by omega) (by omega) (by omega) rfl ?_ | refine e_irem (p' := 3) D_M_canStand_2 (by assumption) rfl ?_
  refine e_iconst (v := nI 1) (p' := 4) D_M_canStand_3 cst_iconst_1 rfl ?_
  refine e_icmpN_ne (q := 31) (p' := 7) D_M_canStand_4 (by omega) (by omega) rfl rfl (fun hc4 => ?_) (fun hc4 => ?_)
  ·
    refine e_iload_1 (p' := 32) D_M_canStand_31 rfl ?_
    refine e_ifN_eq (q := 61) (p' := 35) D_M_canStand_32 (by omega) rfl rfl (fun hc32 => ?_) (fun hc32 => ?_)
    ·
      refine e_iconst (v := nI 1) (p' := 62) D_M_canStand_61 cst_iconst_1 rfl ?_
      refine e_goto (p' := 66) D_M_canStand_62 rfl ?_
      refine e_istore_3 (p' := 67) D_M_canStand_66 (Nat.le_of_ble_eq_true rfl) rfl rfl ?_
      refine sEv.castW (jn67 ) ?_ ?_ ?_
      · rw [csH_e hc4, decide_eq_true hc32, Bool.true_or]
        exact ⟨rfl, rfl, rfl, rfl, trivial⟩
      · rfl
      · first | rfl | (simp; done)
    ·
      refine e_iload_2 (p' := 36) D_M_canStand_35 rfl ?_
      refine e_aload_0 (p' := 37) D_M_canStand_36 rfl ?_
      refine e_getfield (p' := 40) D_M_canStand_37 F_M_42 (by first | assumption | exact sUp_eq | (rw [sUp_ne (by omega)]; assumption) | (rw [sUp_ne (by omega), sUp_ne (by omega)]; assumption) | (rw [sUp_ne (by omega)]; exact sUp_eq) | (rw [gSet_ne (by omega) (by omega)]; first | assumption | exact sUp_eq | (rw [sUp_ne (by omega)]; assumption) | (rw [sUp_ne (by omega), sUp_ne (by omega)]; assumption)) | (rw [sUp_ne (by omega), sUp_ne (by omega), sUp_ne (by omega)]; assumption) | (simp [sUp]; done)) (by rfl) rfl ?_
      refine e_iconst (v := nI 0) (p' := 41) D_M_canStand_40 cst_iconst_0 rfl ?_
      refine e_iaload (p' := 42) D_M_canStand_41 (by first | assumption | exact sUp_eq | (rw [sUp_ne (by omega)]; assumption) | (rw [sUp_ne (by omega), sUp_ne (by omega)]; assumption) | (rw [sUp_ne (by omega)]; exact sUp_eq) | (rw [gSet_ne (by omega) (by omega)]; first | assumption | exact sUp_eq | (rw [sUp_ne (by omega)]; assumption) | (rw [sUp_ne (by omega), sUp_ne (by omega)]; assumption)) | (rw [sUp_ne (by omega), sUp_ne (by omega), sUp_ne (by omega)]; assumption) | (simp [sUp]; done)) (by omega) (by omega) (by rfl) rfl ?_
      rw [hq 0 (by omega)]
      refine e_icmpN_le (q := 65) (p' := 45) D_M_canStand_42 (by omega) (by omega) rfl rfl (fun hc42 => ?_) (fun hc42 => ?_)
      ·
        refine e_iconst (v := nI 0) (p' := 66) D_M_canStand_65 cst_iconst_0 rfl ?_
        refine e_istore_3 (p' := 67) D_M_canStand_66 (Nat.le_of_ble_eq_true rfl) rfl rfl ?_
        refine sEv.castW (jn67 ) ?_ ?_ ?_
        · rw [csH_e hc4, decide_eq_false hc32, decide_eq_false (show ¬ qg q 0 < v0 by omega)]
          exact ⟨rfl, rfl, rfl, rfl, trivial⟩
        · rfl
        · first | rfl | (simp; done)
      ·
        refine e_aload_0 (p' := 46) D_M_canStand_45 rfl ?_
        refine e_iload_2 (p' := 47) D_M_canStand_46 rfl ?_
        refine e_aload_0 (p' := 48) D_M_canStand_47 rfl ?_
        refine e_getfield (p' := 51) D_M_canStand_48 F_M_42 (by first | assumption | exact sUp_eq | (rw [sUp_ne (by omega)]; assumption) | (rw [sUp_ne (by omega), sUp_ne (by omega)]; assumption) | (rw [sUp_ne (by omega)]; exact sUp_eq) | (rw [gSet_ne (by omega) (by omega)]; first | assumption | exact sUp_eq | (rw [sUp_ne (by omega)]; assumption) | (rw [sUp_ne (by omega), sUp_ne (by omega)]; assumption)) | (rw [sUp_ne (by omega), sUp_ne (by omega), sUp_ne (by omega)]; assumption) | (simp [sUp]; done)) (by rfl) rfl ?_
        refine e_iload_1 (p' := 52) D_M_canStand_51 rfl ?_
        refine e_iconst (v := nI 1) (p' := 53) D_M_canStand_52 cst_iconst_1 rfl ?_
        first | refine e_isubN (p' := 54) D_M_canStand_53 (by omega) rfl ?_ | refine e_isub (p' := 54) D_M_canStand_53 rfl ?_
        refine e_iaload (p' := 55) D_M_canStand_54 (by first | assumption | exact sUp_eq | (rw [sUp_ne (by omega)]; assumption) | (rw [sUp_ne (by omega), sUp_ne (by omega)]; assumption) | (rw [sUp_ne (by omega)]; exact sUp_eq) | (rw [gSet_ne (by omega) (by omega)]; first | assumption | exact sUp_eq | (rw [sUp_ne (by omega)]; assumption) | (rw [sUp_ne (by omega), sUp_ne (by omega)]; assumption)) | (rw [sUp_ne (by omega), sUp_ne (by omega), sUp_ne (by omega)]; assumption) | (simp [sUp]; done)) (by omega) (by omega) (by rfl) rfl ?_
        rw [hq (q.length - 1) (by omega)]
        refine x_callV1 (p' := 58) D_M_canStand_55 V_M_67 (c_M_at hm hz hx hv (h6 _)) rfl (by first | assumption | exact sUp_eq | (rw [sUp_ne (by omega)]; assumption) | (rw [sUp_ne (by omega), sUp_ne (by omega)]; assumption) | (rw [sUp_ne (by omega)]; exact sUp_eq) | (rw [gSet_ne (by omega) (by omega)]; first | assumption | exact sUp_eq | (rw [sUp_ne (by omega)]; assumption) | (rw [sUp_ne (by omega), sUp_ne (by omega)]; assumption)) | (rw [sUp_ne (by omega), sUp_ne (by omega), sUp_ne (by omega)]; assumption) | (simp [sUp]; done)) rfl (Nat.le_of_ble_eq_true rfl) (by decide) ⟨by decide, by decide⟩ rfl ?_
        refine e_ifN_le (q := 65) (p' := 61) D_M_canStand_58 (by omega) rfl rfl (fun hc58 => ?_) (fun hc58 => ?_)
        ·
          refine e_iconst (v := nI 0) (p' := 66) D_M_canStand_65 cst_iconst_0 rfl ?_
          refine e_istore_3 (p' := 67) D_M_canStand_66 (Nat.le_of_ble_eq_true rfl) rfl rfl ?_
          refine sEv.castW (jn67 ) ?_ ?_ ?_
          · rw [csH_e hc4, decide_eq_false hc32, decide_eq_true (show qg q 0 < v0 by omega), td_false (by omega)]
            exact ⟨rfl, rfl, rfl, rfl, trivial⟩
          · rfl
          · first | rfl | (simp; done)
        ·
          refine e_iconst (v := nI 1) (p' := 62) D_M_canStand_61 cst_iconst_1 rfl ?_
          refine e_goto (p' := 66) D_M_canStand_62 rfl ?_
          refine e_istore_3 (p' := 67) D_M_canStand_66 (Nat.le_of_ble_eq_true rfl) rfl rfl ?_
          refine sEv.castW (jn67 ) ?_ ?_ ?_
          · rw [csH_e hc4, decide_eq_false hc32, decide_eq_true (show qg q 0 < v0 by omega), td_true (by omega)]
            exact ⟨rfl, rfl, rfl, rfl, trivial⟩
          · rfl
          · first | rfl | (simp; done)
  ·
    refine e_aload_0 (p' := 8) D_M_canStand_7 rfl ?_
    refine e_aload_0 (p' := 9) D_M_canStand_8 rfl ?_
    refine e_getfield (p' := 12) D_M_canStand_9 F_M_42 (by first | assumption | exact sUp_eq | (rw [sUp_ne (by omega)]; assumption) | (rw [sUp_ne (by omega), sUp_ne (by omega)]; assumption) | (rw [sUp_ne (by omega)]; exact sUp_eq) | (rw [gSet_ne (by omega) (by omega)]; first | assumption | exact sUp_eq | (rw [sUp_ne (by omega)]; assumption) | (rw [sUp_ne (by omega), sUp_ne (by omega)]; assumption)) | (rw [sUp_ne (by omega), sUp_ne (by omega), sUp_ne (by omega)]; assumption) | (simp [sUp]; done)) (by rfl) rfl ?_
    refine e_iload_1 (p' := 13) D_M_canStand_12 rfl ?_
    refine e_iconst (v := nI 1) (p' := 14) D_M_canStand_13 cst_iconst_1 rfl ?_
    first | refine e_isubN (p' := 15) D_M_canStand_14 (by omega) rfl ?_ | refine e_isub (p' := 15) D_M_canStand_14 rfl ?_
    refine e_iaload (p' := 16) D_M_canStand_15 (by first | assumption | exact sUp_eq | (rw [sUp_ne (by omega)]; assumption) | (rw [sUp_ne (by omega), sUp_ne (by omega)]; assumption) | (rw [sUp_ne (by omega)]; exact sUp_eq) | (rw [gSet_ne (by omega) (by omega)]; first | assumption | exact sUp_eq | (rw [sUp_ne (by omega)]; assumption) | (rw [sUp_ne (by omega), sUp_ne (by omega)]; assumption)) | (rw [sUp_ne (by omega), sUp_ne (by omega), sUp_ne (by omega)]; assumption) | (simp [sUp]; done)) (by omega) (by omega) (by rfl) rfl ?_
    rw [hq (q.length - 1) (by omega)]
    refine e_iload_2 (p' := 17) D_M_canStand_16 rfl ?_
    refine x_callV1 (p' := 20) D_M_canStand_17 V_M_67 (c_M_at hm hz hx (h6 _) hv) rfl (by first | assumption | exact sUp_eq | (rw [sUp_ne (by omega)]; assumption) | (rw [sUp_ne (by omega), sUp_ne (by omega)]; assumption) | (rw [sUp_ne (by omega)]; exact sUp_eq) | (rw [gSet_ne (by omega) (by omega)]; first | assumption | exact sUp_eq | (rw [sUp_ne (by omega)]; assumption) | (rw [sUp_ne (by omega), sUp_ne (by omega)]; assumption)) | (rw [sUp_ne (by omega), sUp_ne (by omega), sUp_ne (by omega)]; assumption) | (simp [sUp]; done)) rfl (Nat.le_of_ble_eq_true rfl) (by decide) ⟨by decide, by decide⟩ rfl ?_
    refine e_ifN_le (q := 27) (p' := 23) D_M_canStand_20 (by omega) rfl rfl (fun hc20 => ?_) (fun hc20 => ?_)
    ·
      refine e_iconst (v := nI 0) (p' := 28) D_M_canStand_27 cst_iconst_0 rfl ?_
      refine e_goto (p' := 66) D_M_canStand_28 rfl ?_
      refine e_istore_3 (p' := 67) D_M_canStand_66 (Nat.le_of_ble_eq_true rfl) rfl rfl ?_
      refine sEv.castW (jn67 ) ?_ ?_ ?_
      · rw [csH_o hc4, td_false (by omega)]
        exact ⟨rfl, rfl, rfl, rfl, trivial⟩
      · rfl
      · first | rfl | (simp; done)
    ·
      refine e_iconst (v := nI 1) (p' := 24) D_M_canStand_23 cst_iconst_1 rfl ?_
      refine e_goto (p' := 66) D_M_canStand_24 rfl ?_
      refine e_istore_3 (p' := 67) D_M_canStand_66 (Nat.le_of_ble_eq_true rfl) rfl rfl ?_
      refine sEv.castW (jn67 ) ?_ ?_ ?_
      · rw [csH_o hc4, td_true (by omega)]
        exact ⟨rfl, rfl, rfl, rfl, trivial⟩
      · rfl
      · first | rfl | (simp; done)
set_option maxRecDepth 4000 in
theorem c_M_meet {l : Launch} {h : sH} {x : Gd} {n t : Nat} {pm wl wr wc rr rc : Int32} {a : Ac} (hm : h.2 61 = mO n t (pm, wl, nI a.1, nI a.2.1, wr, wc, rr, rc)) (hz : h.2 62 = iA 39 (nF (zN x))) (hx : Gok x) {q : List Nat} {f : Nat → Int32} (hf : h.2 72 = iA 12 f) (hq : ∀ j, j < q.length → f j = nI (qg q j)) (h6 : ∀ j, qg q j < 6) {k : Nat} (hl : q.length = 2 * k) (hk : 1 ≤ k) (hk6 : k ≤ 6) (hd1 : ∀ i j, i < k → j < i → qg q (2 * j) ≠ qg q (2 * i)) (hd2 : ∀ i j, i < k → j < i → qg q (2 * j + 1) ≠ qg q (2 * i + 1)) (hw : a.2.1 ≠ 0 → wr = nI a.2.2.1 ∧ wc = nI a.2.2.2) (hb : a.2.1 < 2 ^ 30 ∧ a.2.2.1 < 64 ∧ a.2.2.2 < 64) : sY l m_M_meet 2 [.ref 61, .int (nI (2 * k))] h (none) (fun h1 => (∃ wr2 wc2, h1.2 61 = mO n t (pm, wl, nI (meA x k q a).1, nI (meA x k q a).2.1, wr2, wc2, rr, rc) ∧ ((meA x k q a).2.1 ≠ 0 → wr2 = nI (meA x k q a).2.2.1 ∧ wc2 = nI (meA x k q a).2.2.2)) ∧ ∀ b, b ≠ 61 → h1.2 b = h.2 b) := by
  have hM := hx.2.2.1.le
  have hR := hx.1
  have hC := hx.2.1
  have bRk := (bsum_ok (f := fun j => qg q (2 * j)) k (fun j _ => h6 _) hd1).1
  have bCk := (bsum_ok (f := fun j => qg q (2 * j + 1)) k (fun j _ => h6 _) hd2).1
  have bRk : RM k q < 64 := bRk
  have bCk : CM k q < 64 := bCk
  refine en_M_meet ?_
  have jn29 : ∀ (h1 : sH), ((h1.2 61 = mO n t (pm, wl, nI (a.1 + 1), nI (a.2.1 + 1), wr, wc, rr, rc) ∧ ¬ o1 x k q k = o2 x k q k) ∧ ∀ b, b ≠ 61 → h1.2 b = h.2 b) → sEv l m_M_meet 2 (0, 0, 0, 0) (sKm 0 0 (fun r1 h1 => r1 = none ∧ (fun h1 => (∃ wr2 wc2, h1.2 61 = mO n t (pm, wl, nI (meA x k q a).1, nI (meA x k q a).2.1, wr2, wc2, rr, rc) ∧ ((meA x k q a).2.1 ≠ 0 → wr2 = nI (meA x k q a).2.2.1 ∧ wc2 = nI (meA x k q a).2.2.2)) ∧ ∀ b, b ≠ 61 → h1.2 b = h.2 b) h1)) 29 [some (.ref 61), some (.int (nI (2 * k))), none, none, none] [] h1 := by
    rintro h1 ⟨⟨k61, ho⟩, fr⟩
    have kf := (fr 72 (by omega)).trans hf
    refine e_iconst (v := nI 0) (p' := 30) D_M_meet_29 cst_iconst_0 rfl ?_
    refine e_istore_2 (p' := 31) D_M_meet_30 (Nat.le_of_ble_eq_true rfl) rfl rfl ?_
    refine e_iconst (v := nI 0) (p' := 32) D_M_meet_31 cst_iconst_0 rfl ?_
    refine e_istore_3 (p' := 33) D_M_meet_32 (Nat.le_of_ble_eq_true rfl) rfl rfl ?_
    refine e_iconst (v := nI 0) (p' := 34) D_M_meet_33 cst_iconst_0 rfl ?_
    refine e_istore_4 (p' := 36) D_M_meet_34 (Nat.le_of_ble_eq_true rfl) rfl rfl ?_
    have lk36 : ∀ i : Nat, i ≤ k → sEv l m_M_meet 2 (0, 0, 0, 0) (sKm 0 0 (fun r1 h1 => r1 = none ∧ (fun h1 => (∃ wr2 wc2, h1.2 61 = mO n t (pm, wl, nI (meA x k q a).1, nI (meA x k q a).2.1, wr2, wc2, rr, rc) ∧ ((meA x k q a).2.1 ≠ 0 → wr2 = nI (meA x k q a).2.2.1 ∧ wc2 = nI (meA x k q a).2.2.2)) ∧ ∀ b, b ≠ 61 → h1.2 b = h.2 b) h1)) 36 [some (.ref 61), some (.int (nI (2 * k))), some (.int (nI (RM i q))), some (.int (nI (CM i q))), some (.int (nI (2 * i)))] [] (h1) := by
      refine lp_up _ ?_ ?_
      · skip
        refine e_iload_4 (p' := 38) D_M_meet_36 rfl ?_
        refine e_iload_1 (p' := 39) D_M_meet_38 rfl ?_
        refine e_icmpN_ge (q := 74) (p' := 42) D_M_meet_39 (by omega) (by omega) rfl rfl (fun hc39 => ?_) (fun hc39 => ?_)
        ·
          refine e_aload_0 (p' := 75) D_M_meet_74 rfl ?_
          refine e_getfield (p' := 78) D_M_meet_75 F_M_147 (by first | assumption | exact sUp_eq | (rw [sUp_ne (by omega)]; assumption) | (rw [sUp_ne (by omega), sUp_ne (by omega)]; assumption) | (rw [sUp_ne (by omega)]; exact sUp_eq) | (rw [gSet_ne (by omega) (by omega)]; first | assumption | exact sUp_eq | (rw [sUp_ne (by omega)]; assumption) | (rw [sUp_ne (by omega), sUp_ne (by omega)]; assumption)) | (rw [sUp_ne (by omega), sUp_ne (by omega), sUp_ne (by omega)]; assumption) | (simp [sUp]; done)) (by rfl) rfl ?_
          refine e_iconst (v := nI 1) (p' := 79) D_M_meet_78 cst_iconst_1 rfl ?_
          refine e_icmpN_eq (q := 106) (p' := 82) D_M_meet_79 (by omega) (by omega) rfl rfl (fun hc79 => ?_) (fun hc79 => ?_)
          ·
            refine e_aload_0 (p' := 107) D_M_meet_106 rfl ?_
            refine e_iload_2 (p' := 108) D_M_meet_107 rfl ?_
            refine e_putfield (p' := 111) D_M_meet_108 F_M_150 (Or.inl rfl) (by first | assumption | exact sUp_eq | (rw [sUp_ne (by omega)]; assumption) | (rw [sUp_ne (by omega), sUp_ne (by omega)]; assumption) | (rw [sUp_ne (by omega)]; exact sUp_eq) | (rw [gSet_ne (by omega) (by omega)]; first | assumption | exact sUp_eq | (rw [sUp_ne (by omega)]; assumption) | (rw [sUp_ne (by omega), sUp_ne (by omega)]; assumption)) | (rw [sUp_ne (by omega), sUp_ne (by omega), sUp_ne (by omega)]; assumption) | (simp [sUp]; done)) (fun _ => ⟨rfl, rfl⟩) (Nat.le_of_ble_eq_true rfl) (by rfl) rfl ?_
            try dsimp only [List.set]
            refine e_aload_0 (p' := 112) D_M_meet_111 rfl ?_
            refine e_iload_3 (p' := 113) D_M_meet_112 rfl ?_
            refine e_putfield (p' := 116) D_M_meet_113 F_M_153 (Or.inl rfl) (by first | assumption | exact sUp_eq | (rw [sUp_ne (by omega)]; assumption) | (rw [sUp_ne (by omega), sUp_ne (by omega)]; assumption) | (rw [sUp_ne (by omega)]; exact sUp_eq) | (rw [gSet_ne (by omega) (by omega)]; first | assumption | exact sUp_eq | (rw [sUp_ne (by omega)]; assumption) | (rw [sUp_ne (by omega), sUp_ne (by omega)]; assumption)) | (rw [sUp_ne (by omega), sUp_ne (by omega), sUp_ne (by omega)]; assumption) | (simp [sUp]; done)) (fun _ => ⟨rfl, rfl⟩) (Nat.le_of_ble_eq_true rfl) (by rfl) rfl ?_
            try dsimp only [List.set]
            refine e_return D_M_meet_116 rfl ⟨by decide, by decide⟩ ?_
            have e : meA x k q a = (a.1 + 1, a.2.1 + 1, RM k q, CM k q) := by
              unfold meA noteW
              rw [if_neg ho, if_neg (by decide), if_pos (by omega)]
            rw [e]
            exact ⟨rfl, ⟨_, _, sUp_eq, fun _ => ⟨rfl, rfl⟩⟩, fun b hb2 => (sUp_ne hb2).trans ((sUp_ne hb2).trans (fr b hb2))⟩
          ·
            refine e_iload_2 (p' := 83) D_M_meet_82 rfl ?_
            refine e_aload_0 (p' := 84) D_M_meet_83 rfl ?_
            refine e_getfield (p' := 87) D_M_meet_84 F_M_150 (by first | assumption | exact sUp_eq | (rw [sUp_ne (by omega)]; assumption) | (rw [sUp_ne (by omega), sUp_ne (by omega)]; assumption) | (rw [sUp_ne (by omega)]; exact sUp_eq) | (rw [gSet_ne (by omega) (by omega)]; first | assumption | exact sUp_eq | (rw [sUp_ne (by omega)]; assumption) | (rw [sUp_ne (by omega), sUp_ne (by omega)]; assumption)) | (rw [sUp_ne (by omega), sUp_ne (by omega), sUp_ne (by omega)]; assumption) | (simp [sUp]; done)) (by rfl) rfl ?_
            rw [(hw (by omega)).1]
            refine e_icmpN_lt (q := 106) (p' := 90) D_M_meet_87 (by omega) (by omega) rfl rfl (fun hc87 => ?_) (fun hc87 => ?_)
            ·
              refine e_aload_0 (p' := 107) D_M_meet_106 rfl ?_
              refine e_iload_2 (p' := 108) D_M_meet_107 rfl ?_
              refine e_putfield (p' := 111) D_M_meet_108 F_M_150 (Or.inl rfl) (by first | assumption | exact sUp_eq | (rw [sUp_ne (by omega)]; assumption) | (rw [sUp_ne (by omega), sUp_ne (by omega)]; assumption) | (rw [sUp_ne (by omega)]; exact sUp_eq) | (rw [gSet_ne (by omega) (by omega)]; first | assumption | exact sUp_eq | (rw [sUp_ne (by omega)]; assumption) | (rw [sUp_ne (by omega), sUp_ne (by omega)]; assumption)) | (rw [sUp_ne (by omega), sUp_ne (by omega), sUp_ne (by omega)]; assumption) | (simp [sUp]; done)) (fun _ => ⟨rfl, rfl⟩) (Nat.le_of_ble_eq_true rfl) (by rfl) rfl ?_
              try dsimp only [List.set]
              refine e_aload_0 (p' := 112) D_M_meet_111 rfl ?_
              refine e_iload_3 (p' := 113) D_M_meet_112 rfl ?_
              refine e_putfield (p' := 116) D_M_meet_113 F_M_153 (Or.inl rfl) (by first | assumption | exact sUp_eq | (rw [sUp_ne (by omega)]; assumption) | (rw [sUp_ne (by omega), sUp_ne (by omega)]; assumption) | (rw [sUp_ne (by omega)]; exact sUp_eq) | (rw [gSet_ne (by omega) (by omega)]; first | assumption | exact sUp_eq | (rw [sUp_ne (by omega)]; assumption) | (rw [sUp_ne (by omega), sUp_ne (by omega)]; assumption)) | (rw [sUp_ne (by omega), sUp_ne (by omega), sUp_ne (by omega)]; assumption) | (simp [sUp]; done)) (fun _ => ⟨rfl, rfl⟩) (Nat.le_of_ble_eq_true rfl) (by rfl) rfl ?_
              try dsimp only [List.set]
              refine e_return D_M_meet_116 rfl ⟨by decide, by decide⟩ ?_
              have e : meA x k q a = (a.1 + 1, a.2.1 + 1, RM k q, CM k q) := by
                unfold meA noteW
                rw [if_neg ho, if_neg (by decide), if_pos (by omega)]
              rw [e]
              exact ⟨rfl, ⟨_, _, sUp_eq, fun _ => ⟨rfl, rfl⟩⟩, fun b hb2 => (sUp_ne hb2).trans ((sUp_ne hb2).trans (fr b hb2))⟩
            ·
              refine e_iload_2 (p' := 91) D_M_meet_90 rfl ?_
              refine e_aload_0 (p' := 92) D_M_meet_91 rfl ?_
              refine e_getfield (p' := 95) D_M_meet_92 F_M_150 (by first | assumption | exact sUp_eq | (rw [sUp_ne (by omega)]; assumption) | (rw [sUp_ne (by omega), sUp_ne (by omega)]; assumption) | (rw [sUp_ne (by omega)]; exact sUp_eq) | (rw [gSet_ne (by omega) (by omega)]; first | assumption | exact sUp_eq | (rw [sUp_ne (by omega)]; assumption) | (rw [sUp_ne (by omega), sUp_ne (by omega)]; assumption)) | (rw [sUp_ne (by omega), sUp_ne (by omega), sUp_ne (by omega)]; assumption) | (simp [sUp]; done)) (by rfl) rfl ?_
              rw [(hw (by omega)).1]
              refine e_icmpN_ne (q := 116) (p' := 98) D_M_meet_95 (by omega) (by omega) rfl rfl (fun hc95 => ?_) (fun hc95 => ?_)
              ·
                refine e_return D_M_meet_116 rfl ⟨by decide, by decide⟩ ?_
                have e : meA x k q a = (a.1 + 1, a.2.1 + 1, a.2.2) := by
                  unfold meA noteW
                  rw [if_neg ho, if_neg (by decide), if_neg (by omega)]
                rw [e]
                exact ⟨rfl, ⟨wr, wc, k61, fun _ => hw (by omega)⟩, fr⟩
              ·
                refine e_iload_3 (p' := 99) D_M_meet_98 rfl ?_
                refine e_aload_0 (p' := 100) D_M_meet_99 rfl ?_
                refine e_getfield (p' := 103) D_M_meet_100 F_M_153 (by first | assumption | exact sUp_eq | (rw [sUp_ne (by omega)]; assumption) | (rw [sUp_ne (by omega), sUp_ne (by omega)]; assumption) | (rw [sUp_ne (by omega)]; exact sUp_eq) | (rw [gSet_ne (by omega) (by omega)]; first | assumption | exact sUp_eq | (rw [sUp_ne (by omega)]; assumption) | (rw [sUp_ne (by omega), sUp_ne (by omega)]; assumption)) | (rw [sUp_ne (by omega), sUp_ne (by omega), sUp_ne (by omega)]; assumption) | (simp [sUp]; done)) (by rfl) rfl ?_
                rw [(hw (by omega)).2]
                refine e_icmpN_ge (q := 116) (p' := 106) D_M_meet_103 (by omega) (by omega) rfl rfl (fun hc103 => ?_) (fun hc103 => ?_)
                ·
                  refine e_return D_M_meet_116 rfl ⟨by decide, by decide⟩ ?_
                  have e : meA x k q a = (a.1 + 1, a.2.1 + 1, a.2.2) := by
                    unfold meA noteW
                    rw [if_neg ho, if_neg (by decide), if_neg (by omega)]
                  rw [e]
                  exact ⟨rfl, ⟨wr, wc, k61, fun _ => hw (by omega)⟩, fr⟩
                ·
                  refine e_aload_0 (p' := 107) D_M_meet_106 rfl ?_
                  refine e_iload_2 (p' := 108) D_M_meet_107 rfl ?_
                  refine e_putfield (p' := 111) D_M_meet_108 F_M_150 (Or.inl rfl) (by first | assumption | exact sUp_eq | (rw [sUp_ne (by omega)]; assumption) | (rw [sUp_ne (by omega), sUp_ne (by omega)]; assumption) | (rw [sUp_ne (by omega)]; exact sUp_eq) | (rw [gSet_ne (by omega) (by omega)]; first | assumption | exact sUp_eq | (rw [sUp_ne (by omega)]; assumption) | (rw [sUp_ne (by omega), sUp_ne (by omega)]; assumption)) | (rw [sUp_ne (by omega), sUp_ne (by omega), sUp_ne (by omega)]; assumption) | (simp [sUp]; done)) (fun _ => ⟨rfl, rfl⟩) (Nat.le_of_ble_eq_true rfl) (by rfl) rfl ?_
                  try dsimp only [List.set]
                  refine e_aload_0 (p' := 112) D_M_meet_111 rfl ?_
                  refine e_iload_3 (p' := 113) D_M_meet_112 rfl ?_
                  refine e_putfield (p' := 116) D_M_meet_113 F_M_153 (Or.inl rfl) (by first | assumption | exact sUp_eq | (rw [sUp_ne (by omega)]; assumption) | (rw [sUp_ne (by omega), sUp_ne (by omega)]; assumption) | (rw [sUp_ne (by omega)]; exact sUp_eq) | (rw [gSet_ne (by omega) (by omega)]; first | assumption | exact sUp_eq | (rw [sUp_ne (by omega)]; assumption) | (rw [sUp_ne (by omega), sUp_ne (by omega)]; assumption)) | (rw [sUp_ne (by omega), sUp_ne (by omega), sUp_ne (by omega)]; assumption) | (simp [sUp]; done)) (fun _ => ⟨rfl, rfl⟩) (Nat.le_of_ble_eq_true rfl) (by rfl) rfl ?_
                  try dsimp only [List.set]
                  refine e_return D_M_meet_116 rfl ⟨by decide, by decide⟩ ?_
                  have e : meA x k q a = (a.1 + 1, a.2.1 + 1, RM k q, CM k q) := by
                    unfold meA noteW
                    rw [if_neg ho, if_neg (by decide), if_pos (by omega)]
                  rw [e]
                  exact ⟨rfl, ⟨_, _, sUp_eq, fun _ => ⟨rfl, rfl⟩⟩, fun b hb2 => (sUp_ne hb2).trans ((sUp_ne hb2).trans (fr b hb2))⟩
        ·
          exfalso; omega
      · intro i hi ih36 
        refine e_iload_4 (p' := 38) D_M_meet_36 rfl ?_
        refine e_iload_1 (p' := 39) D_M_meet_38 rfl ?_
        refine e_icmpN_ge (q := 74) (p' := 42) D_M_meet_39 (by omega) (by omega) rfl rfl (fun hc39 => ?_) (fun hc39 => ?_)
        ·
          exfalso; omega
        ·
          have bR := bsum_ok (f := fun j => qg q (2 * j)) i (fun j _ => h6 _) (fun c d hc hd => hd1 c d (by omega) hd)
          have bC := bsum_ok (f := fun j => qg q (2 * j + 1)) i (fun j _ => h6 _) (fun c d hc hd => hd2 c d (by omega) hd)
          have zR : bit (RM i q) (qg q (2 * i)) = false := (bR.2 _ (h6 _)).mpr fun j hj => hd1 i j (by omega) hj
          have zC : bit (CM i q) (qg q (2 * i + 1)) = false := (bC.2 _ (h6 _)).mpr fun j hj => hd2 i j (by omega) hj
          refine e_iload_2 (p' := 43) D_M_meet_42 rfl ?_
          refine e_iconst (v := nI 1) (p' := 44) D_M_meet_43 cst_iconst_1 rfl ?_
          refine e_aload_0 (p' := 45) D_M_meet_44 rfl ?_
          refine e_getfield (p' := 48) D_M_meet_45 F_M_42 (by first | assumption | exact sUp_eq | (rw [sUp_ne (by omega)]; assumption) | (rw [sUp_ne (by omega), sUp_ne (by omega)]; assumption) | (rw [sUp_ne (by omega)]; exact sUp_eq) | (rw [gSet_ne (by omega) (by omega)]; first | assumption | exact sUp_eq | (rw [sUp_ne (by omega)]; assumption) | (rw [sUp_ne (by omega), sUp_ne (by omega)]; assumption)) | (rw [sUp_ne (by omega), sUp_ne (by omega), sUp_ne (by omega)]; assumption) | (simp [sUp]; done)) (by rfl) rfl ?_
          refine e_iload_4 (p' := 50) D_M_meet_48 rfl ?_
          refine e_iaload (p' := 51) D_M_meet_50 (by first | assumption | exact sUp_eq | (rw [sUp_ne (by omega)]; assumption) | (rw [sUp_ne (by omega), sUp_ne (by omega)]; assumption) | (rw [sUp_ne (by omega)]; exact sUp_eq) | (rw [gSet_ne (by omega) (by omega)]; first | assumption | exact sUp_eq | (rw [sUp_ne (by omega)]; assumption) | (rw [sUp_ne (by omega), sUp_ne (by omega)]; assumption)) | (rw [sUp_ne (by omega), sUp_ne (by omega), sUp_ne (by omega)]; assumption) | (simp [sUp]; done)) (by omega) (by omega) (by rfl) rfl ?_
          rw [hq (2 * i) (by omega)]
          refine e_ishl (p' := 52) D_M_meet_51 rfl ?_
          refine e_ior (p' := 53) D_M_meet_52 rfl ?_
          rw [or6 (RM i q) bR.1 (qg q (2 * i)) (h6 _) zR]
          refine e_istore_2 (p' := 54) D_M_meet_53 (Nat.le_of_ble_eq_true rfl) rfl rfl ?_
          refine e_iload_3 (p' := 55) D_M_meet_54 rfl ?_
          refine e_iconst (v := nI 1) (p' := 56) D_M_meet_55 cst_iconst_1 rfl ?_
          refine e_aload_0 (p' := 57) D_M_meet_56 rfl ?_
          refine e_getfield (p' := 60) D_M_meet_57 F_M_42 (by first | assumption | exact sUp_eq | (rw [sUp_ne (by omega)]; assumption) | (rw [sUp_ne (by omega), sUp_ne (by omega)]; assumption) | (rw [sUp_ne (by omega)]; exact sUp_eq) | (rw [gSet_ne (by omega) (by omega)]; first | assumption | exact sUp_eq | (rw [sUp_ne (by omega)]; assumption) | (rw [sUp_ne (by omega), sUp_ne (by omega)]; assumption)) | (rw [sUp_ne (by omega), sUp_ne (by omega), sUp_ne (by omega)]; assumption) | (simp [sUp]; done)) (by rfl) rfl ?_
          refine e_iload_4 (p' := 62) D_M_meet_60 rfl ?_
          refine e_iconst (v := nI 1) (p' := 63) D_M_meet_62 cst_iconst_1 rfl ?_
          first | refine e_iaddN (p' := 64) D_M_meet_63 rfl ?_ | refine e_iadd (p' := 64) D_M_meet_63 rfl ?_
          refine e_iaload (p' := 65) D_M_meet_64 (by first | assumption | exact sUp_eq | (rw [sUp_ne (by omega)]; assumption) | (rw [sUp_ne (by omega), sUp_ne (by omega)]; assumption) | (rw [sUp_ne (by omega)]; exact sUp_eq) | (rw [gSet_ne (by omega) (by omega)]; first | assumption | exact sUp_eq | (rw [sUp_ne (by omega)]; assumption) | (rw [sUp_ne (by omega), sUp_ne (by omega)]; assumption)) | (rw [sUp_ne (by omega), sUp_ne (by omega), sUp_ne (by omega)]; assumption) | (simp [sUp]; done)) (by omega) (by omega) (by rfl) rfl ?_
          rw [hq (2 * i + 1) (by omega)]
          refine e_ishl (p' := 66) D_M_meet_65 rfl ?_
          refine e_ior (p' := 67) D_M_meet_66 rfl ?_
          rw [or6 (CM i q) bC.1 (qg q (2 * i + 1)) (h6 _) zC]
          refine e_istore_3 (p' := 68) D_M_meet_67 (Nat.le_of_ble_eq_true rfl) rfl rfl ?_
          first | refine e_iincN_4 (n := 2) (p' := 71) D_M_meet_68 (Nat.le_of_ble_eq_true rfl) rfl rfl ?_ | refine e_iinc_4 (p' := 71) D_M_meet_68 (Nat.le_of_ble_eq_true rfl) rfl rfl rfl ?_
          refine e_goto (p' := 36) D_M_meet_71 rfl ?_
          refine sEv.castW (ih36) ?_ ?_ ?_
          · exact ⟨rfl, rfl, rfl, rfl, rfl, trivial⟩
          · rfl
          · first | rfl | (simp; done)
    refine sEv.castW (lk36 0 (by omega) ) ?_ ?_ ?_
    · exact ⟨rfl, rfl, rfl, rfl, rfl, trivial⟩
    · rfl
    · first | rfl | (simp; done)
  refine e_aload_0 (p' := 1) D_M_meet_0 rfl ?_
  refine e_dup (p' := 2) D_M_meet_1 rfl rfl ?_
  refine e_getfield (p' := 5) D_M_meet_2 F_M_140 (by first | assumption | exact sUp_eq | (rw [sUp_ne (by omega)]; assumption) | (rw [sUp_ne (by omega), sUp_ne (by omega)]; assumption) | (rw [sUp_ne (by omega)]; exact sUp_eq) | (rw [gSet_ne (by omega) (by omega)]; first | assumption | exact sUp_eq | (rw [sUp_ne (by omega)]; assumption) | (rw [sUp_ne (by omega), sUp_ne (by omega)]; assumption)) | (rw [sUp_ne (by omega), sUp_ne (by omega), sUp_ne (by omega)]; assumption) | (simp [sUp]; done)) (by rfl) rfl ?_
  refine e_iconst (v := nI 1) (p' := 6) D_M_meet_5 cst_iconst_1 rfl ?_
  first | refine e_iaddN (p' := 7) D_M_meet_6 rfl ?_ | refine e_iadd (p' := 7) D_M_meet_6 rfl ?_
  refine e_putfield (p' := 10) D_M_meet_7 F_M_140 (Or.inl rfl) (by first | assumption | exact sUp_eq | (rw [sUp_ne (by omega)]; assumption) | (rw [sUp_ne (by omega), sUp_ne (by omega)]; assumption) | (rw [sUp_ne (by omega)]; exact sUp_eq) | (rw [gSet_ne (by omega) (by omega)]; first | assumption | exact sUp_eq | (rw [sUp_ne (by omega)]; assumption) | (rw [sUp_ne (by omega), sUp_ne (by omega)]; assumption)) | (rw [sUp_ne (by omega), sUp_ne (by omega), sUp_ne (by omega)]; assumption) | (simp [sUp]; done)) (fun _ => ⟨rfl, rfl⟩) (Nat.le_of_ble_eq_true rfl) (by rfl) rfl ?_
  try dsimp only [List.set]
  refine e_aload_0 (p' := 11) D_M_meet_10 rfl ?_
  refine e_iload_1 (p' := 12) D_M_meet_11 rfl ?_
  refine x_callV1 (p' := 15) D_M_meet_12 V_M_143 (c_M_isWrong (v := (pm, wl, nI (a.1 + 1), nI a.2.1, wr, wc, rr, rc)) (q := q) (k := k) sUp_eq ((sUp_ne (by omega)).trans hz) hx ((sUp_ne (by omega)).trans hf) hq h6 hl hk hk6) rfl (by first | assumption | exact sUp_eq | (rw [sUp_ne (by omega)]; assumption) | (rw [sUp_ne (by omega), sUp_ne (by omega)]; assumption) | (rw [sUp_ne (by omega)]; exact sUp_eq) | (rw [gSet_ne (by omega) (by omega)]; first | assumption | exact sUp_eq | (rw [sUp_ne (by omega)]; assumption) | (rw [sUp_ne (by omega), sUp_ne (by omega)]; assumption)) | (rw [sUp_ne (by omega), sUp_ne (by omega), sUp_ne (by omega)]; assumption) | (simp [sUp]; done)) rfl (Nat.le_of_ble_eq_true rfl) (by decide) ⟨by decide, by decide⟩ rfl ?_
  refine e_ifB_ne (q := 19) (p' := 18) D_M_meet_15 rfl rfl (fun hc15 => ?_) (fun hc15 => ?_)
  ·
    refine e_aload_0 (p' := 20) D_M_meet_19 rfl ?_
    refine e_dup (p' := 21) D_M_meet_20 rfl rfl ?_
    refine e_getfield (p' := 24) D_M_meet_21 F_M_147 (by first | assumption | exact sUp_eq | (rw [sUp_ne (by omega)]; assumption) | (rw [sUp_ne (by omega), sUp_ne (by omega)]; assumption) | (rw [sUp_ne (by omega)]; exact sUp_eq) | (rw [gSet_ne (by omega) (by omega)]; first | assumption | exact sUp_eq | (rw [sUp_ne (by omega)]; assumption) | (rw [sUp_ne (by omega), sUp_ne (by omega)]; assumption)) | (rw [sUp_ne (by omega), sUp_ne (by omega), sUp_ne (by omega)]; assumption) | (simp [sUp]; done)) (by rfl) rfl ?_
    refine e_iconst (v := nI 1) (p' := 25) D_M_meet_24 cst_iconst_1 rfl ?_
    first | refine e_iaddN (p' := 26) D_M_meet_25 rfl ?_ | refine e_iadd (p' := 26) D_M_meet_25 rfl ?_
    refine e_putfield (p' := 29) D_M_meet_26 F_M_147 (Or.inl rfl) (by first | assumption | exact sUp_eq | (rw [sUp_ne (by omega)]; assumption) | (rw [sUp_ne (by omega), sUp_ne (by omega)]; assumption) | (rw [sUp_ne (by omega)]; exact sUp_eq) | (rw [gSet_ne (by omega) (by omega)]; first | assumption | exact sUp_eq | (rw [sUp_ne (by omega)]; assumption) | (rw [sUp_ne (by omega), sUp_ne (by omega)]; assumption)) | (rw [sUp_ne (by omega), sUp_ne (by omega), sUp_ne (by omega)]; assumption) | (simp [sUp]; done)) (fun _ => ⟨rfl, rfl⟩) (Nat.le_of_ble_eq_true rfl) (by rfl) rfl ?_
    try dsimp only [List.set]
    refine sEv.castW (jn29 (sUp (sUp h 61 (mO n t (pm, wl, nI (a.1 + 1), nI a.2.1, wr, wc, rr, rc))) 61 (mO n t (pm, wl, nI (a.1 + 1), nI (a.2.1 + 1), wr, wc, rr, rc))) ⟨⟨sUp_eq, by simpa using hc15⟩, fun b hb2 => (sUp_ne hb2).trans (sUp_ne hb2)⟩) ?_ ?_ ?_
    · first | exact lvW_rfl _ | (simp [lvW]; done) | (simp [lvW, *]; done) | (simp [lvW]; omega)
    · rfl
    · first | rfl | (simp; done)
  ·
    refine e_return D_M_meet_18 rfl ⟨by decide, by decide⟩ ?_
    have ho : o1 x k q k = o2 x k q k := by simpa using hc15
    have e : meA x k q a = (a.1 + 1, a.2) := by
      unfold meA
      rw [if_pos ho]
    rw [e]
    exact ⟨rfl, ⟨wr, wc, sUp_eq, hw⟩, fun b hb2 => sUp_ne hb2⟩
