/-! ===== contracts: Numbers ===== -/
def up (z : Nat → Nat) (p v : Nat) : Nat → Nat := fun k => if k = p then v else z k
def nF (z : Nat → Nat) : Nat → Int32 := fun k => nI (z k)
theorem upd_nF {z : Nat → Nat} {p v : Nat} : upd (nF z) p (nI v) = nF (up z p v) := by
  funext k
  by_cases h : k = p <;> simp [upd, nF, up, h]
theorem upd_same {f : Nat → Int32} {k : Nat} {x y : Int32} : upd (upd f k x) k y = upd f k y := by
  funext j
  by_cases h : j = k <;> simp [upd, h]
theorem sUp_arr {h : sH} {b n : Nat} {f g : Nat → Int32} (e : ∀ k, f k = g k) : sUp h b (iA n f) = sUp h b (iA n g) := by rw [funext e]
theorem upd_at {f : Nat → Int32} {k : Nat} {x : Int32} : upd f k x k = x := if_pos rfl
theorem upd_off {f : Nat → Int32} {k j : Nat} {x : Int32} (n : j ≠ k) : upd f k x j = f j := if_neg n
set_option maxRecDepth 4000 in
theorem c_Num_get {l : Launch} {h : sH} {a b n : Nat} {f : Nat → Int32} (hn : h.2 a = oC 3 [.ref b]) (hb : h.2 b = iA n f) (hl : n < 2 ^ 31) {i : Nat} (hi : i < n) : sX l m_Num_get 0 [.ref a, .int (nI i)] h (some (.int (f i))) (h) := by
  refine en_Num_get ?_
  refine e_iload_1 (p' := 1) D_Num_get_0 rfl ?_
  first | refine e_ifN_lt (q := 22) (p' := 4) D_Num_get_1 (by omega) rfl rfl (fun hc1 => ?_) (fun hc1 => ?_) | refine e_if_lt (q := 22) (p' := 4) D_Num_get_1 rfl rfl (fun hc1 => ?_) (fun hc1 => ?_)
  ·
    exfalso; omega
  ·
    refine e_iload_1 (p' := 5) D_Num_get_4 rfl ?_
    refine e_aload_0 (p' := 6) D_Num_get_5 rfl ?_
    refine e_getfield (p' := 9) D_Num_get_6 F_Num_13 (by first | assumption | exact sUp_eq | (rw [sUp_ne (by omega)]; assumption) | (rw [sUp_ne (by omega), sUp_ne (by omega)]; assumption) | (rw [sUp_ne (by omega)]; exact sUp_eq) | (simp [sUp]; done)) (by rfl) rfl ?_
    first | refine e_alen (p' := 10) D_Num_get_9 (by first | assumption | exact sUp_eq | (rw [sUp_ne (by omega)]; assumption) | (rw [sUp_ne (by omega), sUp_ne (by omega)]; assumption) | (rw [sUp_ne (by omega)]; exact sUp_eq) | (simp [sUp]; done)) (by decide) rfl ?_ | refine e_alenq (p' := 10) D_Num_get_9 (by first | assumption | exact sUp_eq | (rw [sUp_ne (by omega)]; assumption) | (rw [sUp_ne (by omega), sUp_ne (by omega)]; assumption) | (rw [sUp_ne (by omega)]; exact sUp_eq) | (simp [sUp]; done)) (by decide) rfl ?_
    first | refine e_icmpN_ge (q := 22) (p' := 13) D_Num_get_10 (by omega) (by omega) rfl rfl (fun hc10 => ?_) (fun hc10 => ?_) | refine e_icmp_ge (q := 22) (p' := 13) D_Num_get_10 rfl rfl (fun hc10 => ?_) (fun hc10 => ?_)
    ·
      exfalso; omega
    ·
      refine e_aload_0 (p' := 14) D_Num_get_13 rfl ?_
      refine e_getfield (p' := 17) D_Num_get_14 F_Num_13 (by first | assumption | exact sUp_eq | (rw [sUp_ne (by omega)]; assumption) | (rw [sUp_ne (by omega), sUp_ne (by omega)]; assumption) | (rw [sUp_ne (by omega)]; exact sUp_eq) | (simp [sUp]; done)) (by rfl) rfl ?_
      refine e_iload_1 (p' := 18) D_Num_get_17 rfl ?_
      refine e_iaload (p' := 19) D_Num_get_18 (by first | assumption | exact sUp_eq | (rw [sUp_ne (by omega)]; assumption) | (rw [sUp_ne (by omega), sUp_ne (by omega)]; assumption) | (rw [sUp_ne (by omega)]; exact sUp_eq) | (simp [sUp]; done)) (by omega) (by omega) (by rfl) rfl ?_
      refine e_goto (p' := 23) D_Num_get_19 rfl ?_
      refine e_ireturn (ty := .int) D_Num_get_23 rfl (by first | rfl | exact sBo_nar _) ⟨by decide, by decide⟩ ?_
      exact ⟨by first | rfl | (simp; done) | (simp [*]; done), by first | rfl | (simp; done)⟩
set_option maxRecDepth 4000 in
theorem c_Num_set {l : Launch} {h : sH} {a b n : Nat} {f : Nat → Int32} (hn : h.2 a = oC 3 [.ref b]) (hb : h.2 b = iA n f) (hl : n < 2 ^ 31) {i : Nat} {x : Int32} (hi : i < n) : sX l m_Num_set 0 [.ref a, .int (nI i), .int x] h (none) (sUp h b (iA n (upd f i x))) := by
  refine en_Num_set ?_
  refine e_iload_1 (p' := 1) D_Num_set_0 rfl ?_
  first | refine e_ifN_lt (q := 20) (p' := 4) D_Num_set_1 (by omega) rfl rfl (fun hc1 => ?_) (fun hc1 => ?_) | refine e_if_lt (q := 20) (p' := 4) D_Num_set_1 rfl rfl (fun hc1 => ?_) (fun hc1 => ?_)
  ·
    exfalso; omega
  ·
    refine e_iload_1 (p' := 5) D_Num_set_4 rfl ?_
    refine e_aload_0 (p' := 6) D_Num_set_5 rfl ?_
    refine e_getfield (p' := 9) D_Num_set_6 F_Num_13 (by first | assumption | exact sUp_eq | (rw [sUp_ne (by omega)]; assumption) | (rw [sUp_ne (by omega), sUp_ne (by omega)]; assumption) | (rw [sUp_ne (by omega)]; exact sUp_eq) | (simp [sUp]; done)) (by rfl) rfl ?_
    first | refine e_alen (p' := 10) D_Num_set_9 (by first | assumption | exact sUp_eq | (rw [sUp_ne (by omega)]; assumption) | (rw [sUp_ne (by omega), sUp_ne (by omega)]; assumption) | (rw [sUp_ne (by omega)]; exact sUp_eq) | (simp [sUp]; done)) (by decide) rfl ?_ | refine e_alenq (p' := 10) D_Num_set_9 (by first | assumption | exact sUp_eq | (rw [sUp_ne (by omega)]; assumption) | (rw [sUp_ne (by omega), sUp_ne (by omega)]; assumption) | (rw [sUp_ne (by omega)]; exact sUp_eq) | (simp [sUp]; done)) (by decide) rfl ?_
    first | refine e_icmpN_ge (q := 20) (p' := 13) D_Num_set_10 (by omega) (by omega) rfl rfl (fun hc10 => ?_) (fun hc10 => ?_) | refine e_icmp_ge (q := 20) (p' := 13) D_Num_set_10 rfl rfl (fun hc10 => ?_) (fun hc10 => ?_)
    ·
      exfalso; omega
    ·
      refine e_aload_0 (p' := 14) D_Num_set_13 rfl ?_
      refine e_getfield (p' := 17) D_Num_set_14 F_Num_13 (by first | assumption | exact sUp_eq | (rw [sUp_ne (by omega)]; assumption) | (rw [sUp_ne (by omega), sUp_ne (by omega)]; assumption) | (rw [sUp_ne (by omega)]; exact sUp_eq) | (simp [sUp]; done)) (by rfl) rfl ?_
      refine e_iload_1 (p' := 18) D_Num_set_17 rfl ?_
      refine e_iload_2 (p' := 19) D_Num_set_18 rfl ?_
      refine e_iastore (p' := 20) D_Num_set_19 (by first | assumption | exact sUp_eq | (rw [sUp_ne (by omega)]; assumption) | (rw [sUp_ne (by omega), sUp_ne (by omega)]; assumption) | (rw [sUp_ne (by omega)]; exact sUp_eq) | (simp [sUp]; done)) (by omega) (by omega) rfl ?_
      refine e_return D_Num_set_20 rfl ⟨by decide, by decide⟩ ?_
      exact ⟨by first | rfl | (simp; done) | (simp [*]; done), by first | rfl | (simp; done)⟩
set_option maxRecDepth 4000 in
theorem c_Num_setEach {l : Launch} {h : sH} {a b n : Nat} {f : Nat → Int32} (hn : h.2 a = oC 3 [.ref b]) (hb : h.2 b = iA n f) (hl : n < 2 ^ 31) {x : Int32} : sX l m_Num_setEach 0 [.ref a, .int x] h (none) (sUp h b (iA n (fun k => if k < n then x else f k))) := by
  have hab : a ≠ b := by rintro rfl; rw [hn] at hb; cases hb
  refine en_Num_setEach ?_
  refine e_iconst (v := nI 0) (p' := 1) D_Num_setEach_0 cst_iconst_0 rfl ?_
  refine e_istore_2 (p' := 2) D_Num_setEach_1 (Nat.le_of_ble_eq_true rfl) rfl rfl ?_
  have lk2 : ∀ i : Nat, i ≤ n → sEv l m_Num_setEach 0 (0, 0, 0, 0) (sKm 0 0 (fun r1 h1 => r1 = none ∧ h1 = sUp h b (iA n (fun k => if k < n then x else f k)))) 2 [some (.ref a), some (.int x), some (.int (nI i))] [] (sUp h b (iA n (fun k => if k < i then x else f k))) := by
    refine lp_up _ ?_ ?_
    · skip
      refine e_iload_2 (p' := 3) D_Num_setEach_2 rfl ?_
      refine e_aload_0 (p' := 4) D_Num_setEach_3 rfl ?_
      refine e_getfield (p' := 7) D_Num_setEach_4 F_Num_13 (by first | assumption | exact sUp_eq | (rw [sUp_ne (by omega)]; assumption) | (rw [sUp_ne (by omega), sUp_ne (by omega)]; assumption) | (rw [sUp_ne (by omega)]; exact sUp_eq) | (simp [sUp]; done)) (by rfl) rfl ?_
      first | refine e_alen (p' := 8) D_Num_setEach_7 (by first | assumption | exact sUp_eq | (rw [sUp_ne (by omega)]; assumption) | (rw [sUp_ne (by omega), sUp_ne (by omega)]; assumption) | (rw [sUp_ne (by omega)]; exact sUp_eq) | (simp [sUp]; done)) (by decide) rfl ?_ | refine e_alenq (p' := 8) D_Num_setEach_7 (by first | assumption | exact sUp_eq | (rw [sUp_ne (by omega)]; assumption) | (rw [sUp_ne (by omega), sUp_ne (by omega)]; assumption) | (rw [sUp_ne (by omega)]; exact sUp_eq) | (simp [sUp]; done)) (by decide) rfl ?_
      first | refine e_icmpN_ge (q := 24) (p' := 11) D_Num_setEach_8 (by omega) (by omega) rfl rfl (fun hc8 => ?_) (fun hc8 => ?_) | refine e_icmp_ge (q := 24) (p' := 11) D_Num_setEach_8 rfl rfl (fun hc8 => ?_) (fun hc8 => ?_)
      ·
        refine e_return D_Num_setEach_24 rfl ⟨by decide, by decide⟩ ?_
        exact ⟨by first | rfl | (simp; done) | (simp [*]; done), by first | rfl | (simp; done)⟩
      ·
        exfalso; omega
    · intro i hi ih2 
      refine e_iload_2 (p' := 3) D_Num_setEach_2 rfl ?_
      refine e_aload_0 (p' := 4) D_Num_setEach_3 rfl ?_
      refine e_getfield (p' := 7) D_Num_setEach_4 F_Num_13 (by first | assumption | exact sUp_eq | (rw [sUp_ne (by omega)]; assumption) | (rw [sUp_ne (by omega), sUp_ne (by omega)]; assumption) | (rw [sUp_ne (by omega)]; exact sUp_eq) | (simp [sUp]; done)) (by rfl) rfl ?_
      first | refine e_alen (p' := 8) D_Num_setEach_7 (by first | assumption | exact sUp_eq | (rw [sUp_ne (by omega)]; assumption) | (rw [sUp_ne (by omega), sUp_ne (by omega)]; assumption) | (rw [sUp_ne (by omega)]; exact sUp_eq) | (simp [sUp]; done)) (by decide) rfl ?_ | refine e_alenq (p' := 8) D_Num_setEach_7 (by first | assumption | exact sUp_eq | (rw [sUp_ne (by omega)]; assumption) | (rw [sUp_ne (by omega), sUp_ne (by omega)]; assumption) | (rw [sUp_ne (by omega)]; exact sUp_eq) | (simp [sUp]; done)) (by decide) rfl ?_
      first | refine e_icmpN_ge (q := 24) (p' := 11) D_Num_setEach_8 (by omega) (by omega) rfl rfl (fun hc8 => ?_) (fun hc8 => ?_) | refine e_icmp_ge (q := 24) (p' := 11) D_Num_setEach_8 rfl rfl (fun hc8 => ?_) (fun hc8 => ?_)
      ·
        exfalso; omega
      ·
        refine e_aload_0 (p' := 12) D_Num_setEach_11 rfl ?_
        refine e_getfield (p' := 15) D_Num_setEach_12 F_Num_13 (by first | assumption | exact sUp_eq | (rw [sUp_ne (by omega)]; assumption) | (rw [sUp_ne (by omega), sUp_ne (by omega)]; assumption) | (rw [sUp_ne (by omega)]; exact sUp_eq) | (simp [sUp]; done)) (by rfl) rfl ?_
        refine e_iload_2 (p' := 16) D_Num_setEach_15 rfl ?_
        refine e_iload_1 (p' := 17) D_Num_setEach_16 rfl ?_
        refine e_iastore (p' := 18) D_Num_setEach_17 (by first | assumption | exact sUp_eq | (rw [sUp_ne (by omega)]; assumption) | (rw [sUp_ne (by omega), sUp_ne (by omega)]; assumption) | (rw [sUp_ne (by omega)]; exact sUp_eq) | (simp [sUp]; done)) (by omega) (by omega) rfl ?_
        first | refine e_iincN_2 (n := 1) (p' := 21) D_Num_setEach_18 (Nat.le_of_ble_eq_true rfl) rfl rfl ?_ | refine e_iinc_2 (p' := 21) D_Num_setEach_18 (Nat.le_of_ble_eq_true rfl) rfl rfl rfl ?_
        refine e_goto (p' := 2) D_Num_setEach_21 rfl ?_
        refine sEv.castW (ih2) ?_ ?_ ?_
        · first | exact lvW_rfl _ | (simp [lvW]; done) | (simp [lvW, *]; done) | (simp [lvW]; omega)
        · rfl
        · rw [sUp_sUp]
          refine sUp_arr fun k => ?_
          by_cases e : k = i
          · subst e; simp [upd]
          · simp [upd, e]; congr 1; simp; omega
  refine sEv.castW (lk2 0 (by omega) ) ?_ ?_ ?_
  · first | exact lvW_rfl _ | (simp [lvW]; done) | (simp [lvW, *]; done) | (simp [lvW]; omega)
  · rfl
  · rw [sUp_self]; simp [hb]
set_option maxRecDepth 4000 in
theorem c_Num_copyFrom {l : Launch} {h : sH} {a b n a2 b2 n2 : Nat} {f f2 : Nat → Int32} (hn : h.2 a = oC 3 [.ref b]) (hb : h.2 b = iA n f) (hn2 : h.2 a2 = oC 3 [.ref b2]) (hb2 : h.2 b2 = iA n2 f2) (hl : n2 < 2 ^ 31) (hle : n ≤ n2) (hbb : b ≠ b2) : sX l m_Num_copyFrom 1 [.ref a, .ref a2] h (none) (sUp h b (iA n (fun k => if k < n then f2 k else f k))) := by
  have hab : a ≠ b := by rintro rfl; rw [hn] at hb; cases hb
  have hab2 : a2 ≠ b := by rintro rfl; rw [hn2] at hb; cases hb
  have hbb2 : b2 ≠ b := fun e => hbb e.symm
  refine en_Num_copyFrom ?_
  refine e_iconst (v := nI 0) (p' := 1) D_Num_copyFrom_0 cst_iconst_0 rfl ?_
  refine e_istore_2 (p' := 2) D_Num_copyFrom_1 (Nat.le_of_ble_eq_true rfl) rfl rfl ?_
  have lk2 : ∀ i : Nat, i ≤ n → sEv l m_Num_copyFrom 1 (0, 0, 0, 0) (sKm 0 0 (fun r1 h1 => r1 = none ∧ h1 = sUp h b (iA n (fun k => if k < n then f2 k else f k)))) 2 [some (.ref a), some (.ref a2), some (.int (nI i))] [] (sUp h b (iA n (fun k => if k < i then f2 k else f k))) := by
    refine lp_up _ ?_ ?_
    · skip
      refine e_iload_2 (p' := 3) D_Num_copyFrom_2 rfl ?_
      refine e_aload_0 (p' := 4) D_Num_copyFrom_3 rfl ?_
      refine e_getfield (p' := 7) D_Num_copyFrom_4 F_Num_13 (by first | assumption | exact sUp_eq | (rw [sUp_ne (by omega)]; assumption) | (rw [sUp_ne (by omega), sUp_ne (by omega)]; assumption) | (rw [sUp_ne (by omega)]; exact sUp_eq) | (simp [sUp]; done)) (by rfl) rfl ?_
      first | refine e_alen (p' := 8) D_Num_copyFrom_7 (by first | assumption | exact sUp_eq | (rw [sUp_ne (by omega)]; assumption) | (rw [sUp_ne (by omega), sUp_ne (by omega)]; assumption) | (rw [sUp_ne (by omega)]; exact sUp_eq) | (simp [sUp]; done)) (by decide) rfl ?_ | refine e_alenq (p' := 8) D_Num_copyFrom_7 (by first | assumption | exact sUp_eq | (rw [sUp_ne (by omega)]; assumption) | (rw [sUp_ne (by omega), sUp_ne (by omega)]; assumption) | (rw [sUp_ne (by omega)]; exact sUp_eq) | (simp [sUp]; done)) (by decide) rfl ?_
      first | refine e_icmpN_ge (q := 28) (p' := 11) D_Num_copyFrom_8 (by omega) (by omega) rfl rfl (fun hc8 => ?_) (fun hc8 => ?_) | refine e_icmp_ge (q := 28) (p' := 11) D_Num_copyFrom_8 rfl rfl (fun hc8 => ?_) (fun hc8 => ?_)
      ·
        refine e_return D_Num_copyFrom_28 rfl ⟨by decide, by decide⟩ ?_
        exact ⟨by first | rfl | (simp; done) | (simp [*]; done), by first | rfl | (simp; done)⟩
      ·
        exfalso; omega
    · intro i hi ih2 
      refine e_iload_2 (p' := 3) D_Num_copyFrom_2 rfl ?_
      refine e_aload_0 (p' := 4) D_Num_copyFrom_3 rfl ?_
      refine e_getfield (p' := 7) D_Num_copyFrom_4 F_Num_13 (by first | assumption | exact sUp_eq | (rw [sUp_ne (by omega)]; assumption) | (rw [sUp_ne (by omega), sUp_ne (by omega)]; assumption) | (rw [sUp_ne (by omega)]; exact sUp_eq) | (simp [sUp]; done)) (by rfl) rfl ?_
      first | refine e_alen (p' := 8) D_Num_copyFrom_7 (by first | assumption | exact sUp_eq | (rw [sUp_ne (by omega)]; assumption) | (rw [sUp_ne (by omega), sUp_ne (by omega)]; assumption) | (rw [sUp_ne (by omega)]; exact sUp_eq) | (simp [sUp]; done)) (by decide) rfl ?_ | refine e_alenq (p' := 8) D_Num_copyFrom_7 (by first | assumption | exact sUp_eq | (rw [sUp_ne (by omega)]; assumption) | (rw [sUp_ne (by omega), sUp_ne (by omega)]; assumption) | (rw [sUp_ne (by omega)]; exact sUp_eq) | (simp [sUp]; done)) (by decide) rfl ?_
      first | refine e_icmpN_ge (q := 28) (p' := 11) D_Num_copyFrom_8 (by omega) (by omega) rfl rfl (fun hc8 => ?_) (fun hc8 => ?_) | refine e_icmp_ge (q := 28) (p' := 11) D_Num_copyFrom_8 rfl rfl (fun hc8 => ?_) (fun hc8 => ?_)
      ·
        exfalso; omega
      ·
        refine e_aload_0 (p' := 12) D_Num_copyFrom_11 rfl ?_
        refine e_getfield (p' := 15) D_Num_copyFrom_12 F_Num_13 (by first | assumption | exact sUp_eq | (rw [sUp_ne (by omega)]; assumption) | (rw [sUp_ne (by omega), sUp_ne (by omega)]; assumption) | (rw [sUp_ne (by omega)]; exact sUp_eq) | (simp [sUp]; done)) (by rfl) rfl ?_
        refine e_iload_2 (p' := 16) D_Num_copyFrom_15 rfl ?_
        refine e_aload_1 (p' := 17) D_Num_copyFrom_16 rfl ?_
        refine e_iload_2 (p' := 18) D_Num_copyFrom_17 rfl ?_
        refine x_callV1 (p' := 21) D_Num_copyFrom_18 V_Num_19 (c_Num_get (by first | assumption | exact sUp_eq | (rw [sUp_ne (by omega)]; assumption) | (rw [sUp_ne (by omega), sUp_ne (by omega)]; assumption) | (rw [sUp_ne (by omega)]; exact sUp_eq) | (simp [sUp]; done)) (by first | assumption | exact sUp_eq | (rw [sUp_ne (by omega)]; assumption) | (rw [sUp_ne (by omega), sUp_ne (by omega)]; assumption) | (rw [sUp_ne (by omega)]; exact sUp_eq) | (simp [sUp]; done)) (by omega) (by omega)) rfl (by first | assumption | exact sUp_eq | (rw [sUp_ne (by omega)]; assumption) | (rw [sUp_ne (by omega), sUp_ne (by omega)]; assumption) | (rw [sUp_ne (by omega)]; exact sUp_eq) | (simp [sUp]; done)) rfl (Nat.le_of_ble_eq_true rfl) (by decide) ⟨by decide, by decide⟩ rfl ?_
        refine e_iastore (p' := 22) D_Num_copyFrom_21 (by first | assumption | exact sUp_eq | (rw [sUp_ne (by omega)]; assumption) | (rw [sUp_ne (by omega), sUp_ne (by omega)]; assumption) | (rw [sUp_ne (by omega)]; exact sUp_eq) | (simp [sUp]; done)) (by omega) (by omega) rfl ?_
        first | refine e_iincN_2 (n := 1) (p' := 25) D_Num_copyFrom_22 (Nat.le_of_ble_eq_true rfl) rfl rfl ?_ | refine e_iinc_2 (p' := 25) D_Num_copyFrom_22 (Nat.le_of_ble_eq_true rfl) rfl rfl rfl ?_
        refine e_goto (p' := 2) D_Num_copyFrom_25 rfl ?_
        refine sEv.castW (ih2) ?_ ?_ ?_
        · first | exact lvW_rfl _ | (simp [lvW]; done) | (simp [lvW, *]; done) | (simp [lvW]; omega)
        · rfl
        · rw [sUp_sUp]
          refine sUp_arr fun k => ?_
          by_cases e : k = i
          · subst e; simp [upd]
          · simp [upd, e]; congr 1; simp; omega
  refine sEv.castW (lk2 0 (by omega) ) ?_ ?_ ?_
  · first | exact lvW_rfl _ | (simp [lvW]; done) | (simp [lvW, *]; done) | (simp [lvW]; omega)
  · rfl
  · rw [sUp_self]; simp [hb]
set_option maxRecDepth 4000 in
theorem c_Num_swap {l : Launch} {h : sH} {a b n : Nat} {f : Nat → Int32} (hn : h.2 a = oC 3 [.ref b]) (hb : h.2 b = iA n f) (hl : n < 2 ^ 31) {i j : Nat} (hi : i < n) (hj : j < n) : sX l m_Num_swap 1 [.ref a, .int (nI i), .int (nI j)] h (none) (sUp h b (iA n (upd (upd f i (f j)) j (f i)))) := by
  have hab : a ≠ b := by rintro rfl; rw [hn] at hb; cases hb
  refine en_Num_swap ?_
  refine e_aload_0 (p' := 1) D_Num_swap_0 rfl ?_
  refine e_iload_1 (p' := 2) D_Num_swap_1 rfl ?_
  refine x_callV1 (p' := 5) D_Num_swap_2 V_Num_19 (c_Num_get hn hb hl hi) rfl (by first | assumption | exact sUp_eq | (rw [sUp_ne (by omega)]; assumption) | (rw [sUp_ne (by omega), sUp_ne (by omega)]; assumption) | (rw [sUp_ne (by omega)]; exact sUp_eq) | (simp [sUp]; done)) rfl (Nat.le_of_ble_eq_true rfl) (by decide) ⟨by decide, by decide⟩ rfl ?_
  refine e_istore_3 (p' := 6) D_Num_swap_5 (Nat.le_of_ble_eq_true rfl) rfl rfl ?_
  refine e_aload_0 (p' := 7) D_Num_swap_6 rfl ?_
  refine e_iload_1 (p' := 8) D_Num_swap_7 rfl ?_
  refine e_aload_0 (p' := 9) D_Num_swap_8 rfl ?_
  refine e_iload_2 (p' := 10) D_Num_swap_9 rfl ?_
  refine x_callV1 (p' := 13) D_Num_swap_10 V_Num_19 (c_Num_get hn hb hl hj) rfl (by first | assumption | exact sUp_eq | (rw [sUp_ne (by omega)]; assumption) | (rw [sUp_ne (by omega), sUp_ne (by omega)]; assumption) | (rw [sUp_ne (by omega)]; exact sUp_eq) | (simp [sUp]; done)) rfl (Nat.le_of_ble_eq_true rfl) (by decide) ⟨by decide, by decide⟩ rfl ?_
  refine x_callV0 (p' := 16) D_Num_swap_13 V_Num_23 (c_Num_set hn hb hl hi) rfl (by first | assumption | exact sUp_eq | (rw [sUp_ne (by omega)]; assumption) | (rw [sUp_ne (by omega), sUp_ne (by omega)]; assumption) | (rw [sUp_ne (by omega)]; exact sUp_eq) | (simp [sUp]; done)) rfl (Nat.le_of_ble_eq_true rfl) (by decide) ⟨by decide, by decide⟩ rfl ?_
  refine e_aload_0 (p' := 17) D_Num_swap_16 rfl ?_
  refine e_iload_2 (p' := 18) D_Num_swap_17 rfl ?_
  refine e_iload_3 (p' := 19) D_Num_swap_18 rfl ?_
  refine x_callV0 (p' := 22) D_Num_swap_19 V_Num_23 (c_Num_set (by first | assumption | exact sUp_eq | (rw [sUp_ne (by omega)]; assumption) | (rw [sUp_ne (by omega), sUp_ne (by omega)]; assumption) | (rw [sUp_ne (by omega)]; exact sUp_eq) | (simp [sUp]; done)) (by first | assumption | exact sUp_eq | (rw [sUp_ne (by omega)]; assumption) | (rw [sUp_ne (by omega), sUp_ne (by omega)]; assumption) | (rw [sUp_ne (by omega)]; exact sUp_eq) | (simp [sUp]; done)) hl hj) rfl (by first | assumption | exact sUp_eq | (rw [sUp_ne (by omega)]; assumption) | (rw [sUp_ne (by omega), sUp_ne (by omega)]; assumption) | (rw [sUp_ne (by omega)]; exact sUp_eq) | (simp [sUp]; done)) rfl (Nat.le_of_ble_eq_true rfl) (by decide) ⟨by decide, by decide⟩ rfl ?_
  refine e_return D_Num_swap_22 rfl ⟨by decide, by decide⟩ ?_
  exact ⟨rfl, sUp_sUp⟩
