/-! ===== the law: cycles ===== -/
theorem phg_wrg {x : Gd} {hx : Gok x} : PhG x (x.1.2.2 - 1) wrg := ⟨ph_wrg, Or.inl (by have := hx.2.2.1.le; omega)⟩
theorem phg_wky {x : Gd} {hx : Gok x} {a b : Nat} : PhG x (x.1.2.2 - 1) (wky a b) := ⟨ph_wky, Or.inl (by have := hx.2.2.1.le; omega)⟩
theorem phg_one {x : Gd} : PhG x 1 one := ⟨ph_one, Or.inr fun _ _ _ _ => rfl⟩
theorem cycW {x : Gd} (hx : Gok x) {k : Nat} (hk : 2 ≤ k) : cyc x (decide (1 = 1)) k = DD x (Gh x k wrg) (2 * k) [] := by
  show Tot x (x.1.2.2 - 1) k wrg / 2 = _
  rw [Tot_2 hx (phg_wrg (hx := hx)) hk]
  omega
theorem cycA {x : Gd} (hx : Gok x) {k : Nat} (hk : 2 ≤ k) : cyc x (decide (0 = 1)) k = DD x (Gh x k one) (2 * k) [] := by
  show Tot x 1 k one / 2 = _
  rw [Tot_2 hx phg_one hk]
  omega
theorem wrg_le1 (a b i : Nat) : wrg a b i ≤ 1 := by
  unfold wrg
  split <;> omega
theorem cyc_le {x : Gd} (hx : Gok x) {k : Nat} (hk : 2 ≤ k) : cyc x (decide (1 = 1)) k ≤ cyc x (decide (0 = 1)) k := by
  rw [cycW hx hk, cycA hx hk]
  refine DD_leF (fun Q => ?_) _ _
  unfold Gh
  split
  · exact wrg_le1 _ _ _
  · exact Nat.le_refl _
theorem cyc_lt {x : Gd} (hx : Gok x) {k : Nat} (hk : 2 ≤ k) (h6 : k ≤ 6) : cyc x (decide (0 = 1)) k < 2 ^ 31 := by
  have hR := hx.1
  have h := Tot_le hx (gr := 1) h6 hk (r := x.1.1) (by omega)
  have h2 : Tot x 1 k one ≤ x.1.1 * 145800000 := h
  show Tot x 1 k one / 2 < _
  omega
theorem cyc40 {x : Gd} (hx : Gok x) : cyc x (decide (0 = 1)) 2 = mAll x false := by
  rw [cycA hx (Nat.le_refl _)]
  exact cyc4 hx wt2_one
theorem cyc41 {x : Gd} (hx : Gok x) : cyc x (decide (1 = 1)) 2 = mAll x true := by
  rw [cycW hx (Nat.le_refl _)]
  exact cyc4 hx wt2_wrg
theorem cyc_well {x : Gd} (hx : Gok x) (hw : wellX x = true) {k : Nat} (hk : 2 ≤ k) : cyc x (decide (1 = 1)) k = 0 := by
  rw [cycW hx hk, DD_zero hx hw hk]
def wc (x : Gd) (i : Nat) : Nat := sm i (fun j => if 0 < cyc x (decide (1 = 1)) (j + 2) then 1 else 0)
def sh (x : Gd) : Nat → Nat
  | 0 => 0
  | i + 1 => if 0 < cyc x (decide (1 = 1)) (i + 2) ∧ sh x i = 0 then 2 * (i + 2) else sh x i
theorem wc_le {x : Gd} (i : Nat) : wc x i ≤ i := by
  have := sm_le (n := i) (b := 1) (f := fun j => if 0 < cyc x (decide (1 = 1)) (j + 2) then 1 else 0) (fun k _ => by split <;> omega)
  unfold wc; omega
theorem sh_le {x : Gd} : ∀ i, sh x i ≤ 2 * (i + 1)
  | 0 => Nat.zero_le _
  | i + 1 => by
    have := sh_le (x := x) i
    unfold sh
    split <;> omega
theorem sh_well {x : Gd} (hx : Gok x) (hw : wellX x = true) : ∀ i, sh x i = 0 := by
  intro i
  induction i with
  | zero => rfl
  | succ i ih =>
    unfold sh
    rw [if_neg (fun z => by rw [cyc_well hx hw (by omega)] at z; omega)]
    exact ih
theorem wc_well {x : Gd} (hx : Gok x) (hw : wellX x = true) (i : Nat) : wc x i = 0 := sm_zero fun k _ => if_neg (by rw [cyc_well hx hw (by omega)]; omega)
theorem sw_well {x : Gd} (hw : wellX x = true) : sw x = 0 := if_pos hw
theorem wc_bad {x : Gd} (hx : Gok x) (hw : wellX x = false) : wc x 5 ≠ 0 := by
  obtain ⟨k, h1, h2, h3⟩ := wrong_cyc hx hw
  intro z
  have a := sm_eq0 z (k - 2) (by omega)
  rw [if_pos] at a
  · exact absurd a (by decide)
  · rw [show k - 2 + 2 = k by omega, cycW hx h1]
    omega
theorem sh_sw {x : Gd} (hx : Gok x) (hw : wellX x = false) : sh x 5 = 2 * sw x ∧ sw x ≠ 0 := by
  have e : sw x = swF x 5 2 := if_neg (by rw [hw]; decide)
  have hc : ∀ k, Tot x (x.1.2.2 - 1) k wrg / 2 = cyc x (decide (1 = 1)) k := fun _ => rfl
  have hb := wc_bad hx hw
  have e2 : wc x 5 = 0 + (if 0 < cyc x (decide (1 = 1)) 2 then 1 else 0) + (if 0 < cyc x (decide (1 = 1)) 3 then 1 else 0) + (if 0 < cyc x (decide (1 = 1)) 4 then 1 else 0) + (if 0 < cyc x (decide (1 = 1)) 5 then 1 else 0) + (if 0 < cyc x (decide (1 = 1)) 6 then 1 else 0) := rfl
  rw [e2] at hb
  rw [e]
  unfold swF swF swF swF swF swF
  rw [hc 2, hc 3, hc 4, hc 5, hc 6]
  unfold sh sh sh sh sh sh
  generalize cyc x (decide (1 = 1)) 2 = a2 at *
  generalize cyc x (decide (1 = 1)) 3 = a3 at *
  generalize cyc x (decide (1 = 1)) 4 = a4 at *
  generalize cyc x (decide (1 = 1)) 5 = a5 at *
  generalize cyc x (decide (1 = 1)) 6 = a6 at *
  by_cases h2 : 0 < a2 <;> by_cases h3 : 0 < a3 <;> by_cases h4 : 0 < a4 <;> by_cases h5 : 0 < a5 <;> by_cases h6 : 0 < a6 <;> simp_all
theorem least_ex {P : Nat → Prop} : ∀ n, P n → ∃ k, P k ∧ ∀ m, m < k → ¬ P m := by
  intro n
  induction n using Nat.strongRecOn with
  | _ n ih =>
    intro h
    by_cases e : ∃ m, m < n ∧ P m
    · obtain ⟨m, h1, h2⟩ := e
      exact ih m h1 h2
    · exact ⟨n, h, fun m hm hp => e ⟨m, hm, hp⟩⟩
theorem wky_ex {x : Gd} (hx : Gok x) {k : Nat} (hk : 2 ≤ k) (h : DD x (Gh x k wrg) (2 * k) [] ≠ 0) : ∃ a b, DD x (Gh x k (wky a b)) (2 * k) [] ≠ 0 := by
  have hR := hx.1
  rw [DD_top (by omega)] at h
  obtain ⟨r, hr, h1⟩ : ∃ r, r < x.1.1 ∧ DD x (Gh x k wrg) (2 * k - 1) [r] ≠ 0 := by
    refine Classical.byContradiction fun z => h ?_
    exact sm_zero fun v hv => Classical.byContradiction fun w => z ⟨v, hv, w⟩
  have hr6 : ∀ v, v ∈ [r] → v < 6 := fun v hv => by rw [List.mem_singleton.mp hv]; omega
  rw [DD_SL hx _ [r] (by simp) hr6] at h1
  obtain ⟨l, l1, l2, l3⟩ := SL_ex _ h1
  have v1 : VV x [r] l = true := Classical.byContradiction fun z => l3 (if_neg z)
  rw [if_pos v1] at l3
  have l3 : Gh x k wrg (r :: l) ≠ 0 := l3
  unfold Gh at l3
  have c : clQ x k (r :: l) = true ∧ qg (r :: l) 1 < qg (r :: l) (2 * k - 1) := Classical.byContradiction fun z => l3 (if_neg z)
  rw [if_pos c] at l3
  unfold wt wrg at l3
  have o : ¬ o1 x k (r :: l) k = o2 x k (r :: l) k := fun z => l3 (by rw [if_pos z]; rfl)
  refine ⟨RM k (r :: l), CM k (r :: l), fun z => ?_⟩
  rw [DD_top (by omega)] at z
  have z1 := sm_eq0 z r hr
  rw [DD_SL hx _ [r] (by simp) hr6] at z1
  have z2 := SL_ge (F := fun l' => if VV x [r] l' = true then Gh x k (wky (RM k (r :: l)) (CM k (r :: l))) ([r] ++ l') else 0) (2 * k - 1) l l1 l2
  rw [z1, if_pos v1] at z2
  have z3 : Gh x k (wky (RM k (r :: l)) (CM k (r :: l))) (r :: l) = 1 := by
    unfold Gh wt wky
    rw [if_pos c, if_neg o, if_pos ⟨by decide, rfl, rfl⟩]
  have z4 : Gh x k (wky (RM k (r :: l)) (CM k (r :: l))) (r :: l) ≤ 0 := z2
  omega
theorem lw_pc {x : Gd} (hx : Gok x) {k : Nat} (hk : 2 ≤ k) (h : DD x (Gh x k wrg) (2 * k) [] ≠ 0) : (pc6 (lw (Tot x (x.1.2.2 - 1) k)).1 = k ∧ (lw (Tot x (x.1.2.2 - 1) k)).1 < 64) ∧ pc6 (lw (Tot x (x.1.2.2 - 1) k)).2 = k ∧ (lw (Tot x (x.1.2.2 - 1) k)).2 < 64 := by
  have hT : ∀ a b, Tot x (x.1.2.2 - 1) k (wky a b) = 2 * DD x (Gh x k (wky a b)) (2 * k) [] := fun a b => Tot_2 hx (phg_wky (hx := hx)) hk
  obtain ⟨a, b, hab⟩ := wky_ex hx hk h
  have p := wky_pc hx hk hab
  obtain ⟨n, n1, n2⟩ := least_ex (P := fun n => DD x (Gh x k (wky (n / 64) (n % 64))) (2 * k) [] ≠ 0) (64 * a + b) (by
    show DD x (Gh x k (wky ((64 * a + b) / 64) ((64 * a + b) % 64))) (2 * k) [] ≠ 0
    rw [show (64 * a + b) / 64 = a by omega, show (64 * a + b) % 64 = b by omega]
    exact hab)
  have hL : LeastW (Tot x (x.1.2.2 - 1) k) (n / 64) (n % 64) := by
    refine ⟨?_, fun r' c' hlt => ?_⟩
    · rw [hT]
      have n1 : DD x (Gh x k (wky (n / 64) (n % 64))) (2 * k) [] ≠ 0 := n1
      omega
    · rw [hT]
      refine Classical.byContradiction fun z => ?_
      have z2 : DD x (Gh x k (wky r' c')) (2 * k) [] ≠ 0 := by omega
      have q := wky_pc hx hk z2
      refine n2 (64 * r' + c') (by omega) ?_
      show DD x (Gh x k (wky ((64 * r' + c') / 64) ((64 * r' + c') % 64))) (2 * k) [] ≠ 0
      rw [show (64 * r' + c') / 64 = r' by omega, show (64 * r' + c') % 64 = c' by omega]
      exact z2
  rw [lw_eq hL]
  have q := wky_pc hx hk (show DD x (Gh x k (wky (n / 64) (n % 64))) (2 * k) [] ≠ 0 from n1)
  exact ⟨⟨q.1, q.2.2.1⟩, q.2.1, q.2.2.2⟩
theorem sw_DD {x : Gd} (hx : Gok x) (hw : wellX x = false) : DD x (Gh x (sw x) wrg) (2 * sw x) [] ≠ 0 := by
  have h := (sh_sw hx hw).2
  have e : sw x = swF x 5 2 := if_neg (by rw [hw]; decide)
  have h2 := sw_le (x := x)
  have h3 := sw_pos (x := x) (n := 5) (k := 2) (by rw [← e]; exact h)
  rw [← e] at h3
  rw [← cycW hx (by omega)]
  show Tot x (x.1.2.2 - 1) (sw x) wrg / 2 ≠ 0
  omega
theorem told_36 {x : Gd} (hx : Gok x) : told x ≤ 36 := by
  rw [← told_rows hx]
  have h : sm x.1.1 (fun r => ct 6 (td x r)) ≤ x.1.1 * 6 := sm_le fun r _ => ct_le
  have := hx.1
  omega
theorem mAll_lt {x : Gd} (hx : Gok x) {b : Bool} : mAll x b < 2 ^ 31 := by
  have h1 := hx.1
  have h2 := hx.2.1
  have c1 : ∀ r c, cb x b r c ≤ 6 * 6 := fun r c => by
    refine Nat.le_trans (sm_le (b := 6) fun s _ => ?_) (Nat.mul_le_mul_right 6 h1.2)
    split
    · refine Nat.le_trans (sm_le (b := 1) fun d _ => ?_) (by omega)
      split
      · split <;> omega
      · omega
    · omega
  have c2 : ∀ r, sm x.1.2.1 (fun c => cb x b r c) ≤ 6 * 36 := fun r => Nat.le_trans (sm_le fun c _ => c1 r c) (Nat.mul_le_mul_right _ h2.2)
  have c3 : mAll x b ≤ 6 * 216 := Nat.le_trans (sm_le fun r _ => c2 r) (Nat.mul_le_mul_right _ h1.2)
  omega
theorem rk_le {x : Gd} (hx : Gok x) : mxTo (rkF x) 64 ≤ 6 := mxTo_le (fun k => rkF_le hx k) 64
theorem cst_bipush_9 : (Int8.ofInt 9).toInt32 = nI 9 := rfl
set_option maxRecDepth 4000 in
theorem c_Law_cyclesW {l : Launch} {h : sH} {st : St} (hC : CInv h st) (hS : StOk st) (hw : wellX st.1 = true) : sY l m_Law_cycles 15 [.ref 0] h (some (.int (nI 1))) (fun h1 => CInv h1 st) := by
  have hx := hS.1
  have hwc := wc_well hx hw 5
  have hsh := sh_well hx hw 5
  have hsw := sw_well hw
  refine en_Law_cycles ?_
  refine e_iconst (v := nI 0) (p' := 1) D_Law_cycles_0 cst_iconst_0 rfl ?_
  refine e_istore_1 (p' := 2) D_Law_cycles_1 (Nat.le_of_ble_eq_true rfl) rfl rfl ?_
  refine e_iconst (v := nI 0) (p' := 3) D_Law_cycles_2 cst_iconst_0 rfl ?_
  refine e_istore_2 (p' := 4) D_Law_cycles_3 (Nat.le_of_ble_eq_true rfl) rfl rfl ?_
  refine e_iconst (v := nI 4) (p' := 5) D_Law_cycles_4 cst_iconst_4 rfl ?_
  refine e_istore_3 (p' := 6) D_Law_cycles_5 (Nat.le_of_ble_eq_true rfl) rfl rfl ?_
  have lk6 : ∀ i : Nat, i ≤ 5 → ∀ (h1 : sH), CInv h1 st → sEv l m_Law_cycles 15 (0, 0, 0, 0) (sKm 0 0 (fun r1 h1 => r1 = some (.int (nI 1)) ∧ (fun h1 => CInv h1 st) h1)) 6 [some (.ref 0), some (.int (nI (wc st.1 i))), some (.int (nI (sh st.1 i))), some (.int (nI (2 * (i + 2)))), none, none] [] (h1) := by
    refine lp_up _ ?_ ?_
    · intro h1 CC
      have cc := CC.1
      refine e_iload_3 (p' := 7) D_Law_cycles_6 rfl ?_
      refine e_bipush (v := nI 12) (p' := 9) D_Law_cycles_7 cst_bipush_12 rfl ?_
      refine e_icmpN_gt (q := 76) (p' := 12) D_Law_cycles_9 (by omega) (by omega) rfl rfl (fun hc9 => ?_) (fun hc9 => ?_)
      ·
        rw [hwc, hsh]
        refine e_iload_1 (p' := 77) D_Law_cycles_76 rfl ?_
        refine e_ifN_ne (q := 84) (p' := 80) D_Law_cycles_77 (by omega) rfl rfl (fun hc77 => ?_) (fun hc77 => ?_)
        ·
          first | exact absurd rfl hc77 | exact hc77 rfl | (exfalso; omega) | exact absurd hc77 (by decide) | exact absurd hc77 (by simp [*])
        ·
          refine e_iconst (v := nI 1) (p' := 81) D_Law_cycles_80 cst_iconst_1 rfl ?_
          refine e_goto (p' := 85) D_Law_cycles_81 rfl ?_
          refine e_aload_0 (p' := 86) D_Law_cycles_85 rfl ?_
          refine e_iconst (v := nI 5) (p' := 87) D_Law_cycles_86 cst_iconst_5 rfl ?_
          refine y_callV1 (p' := 90) D_Law_cycles_87 V_Law_26 (k_cnt5 CC hS) rfl (by first | assumption | exact sUp_eq | (rw [sUp_ne (by omega)]; assumption) | (rw [sUp_ne (by omega), sUp_ne (by omega)]; assumption) | (rw [sUp_ne (by omega)]; exact sUp_eq) | (rw [gSet_ne (by omega) (by omega)]; first | assumption | exact sUp_eq | (rw [sUp_ne (by omega)]; assumption) | (rw [sUp_ne (by omega), sUp_ne (by omega)]; assumption)) | (rw [sUp_ne (by omega), sUp_ne (by omega), sUp_ne (by omega)]; assumption) | (simp [sUp]; done)) rfl (Nat.le_of_ble_eq_true rfl) (by decide) ⟨by decide, by decide⟩ rfl ?_
          rintro h4 ⟨C4, F4⟩
          have c4 := C4.1
          rw [hw]
          refine e_iconst (v := nI 1) (p' := 91) D_Law_cycles_90 cst_iconst_1 rfl ?_
          refine e_icmp_ne (q := 98) (p' := 94) D_Law_cycles_91 rfl rfl (fun hc91 => ?_) (fun hc91 => ?_)
          ·
            first | exact absurd rfl hc91 | exact hc91 rfl | (exfalso; omega) | exact absurd hc91 (by decide) | exact absurd hc91 (by simp [*])
          ·
            refine e_iconst (v := nI 1) (p' := 95) D_Law_cycles_94 cst_iconst_1 rfl ?_
            refine e_goto (p' := 99) D_Law_cycles_95 rfl ?_
            refine e_icmp_ne (q := 136) (p' := 102) D_Law_cycles_99 rfl rfl (fun hc99 => ?_) (fun hc99 => ?_)
            ·
              first | exact absurd rfl hc99 | exact hc99 rfl | (exfalso; omega) | exact absurd hc99 (by decide) | exact absurd hc99 (by simp [*])
            ·
              refine e_aload_0 (p' := 103) D_Law_cycles_102 rfl ?_
              refine e_iconst (v := nI 4) (p' := 104) D_Law_cycles_103 cst_iconst_4 rfl ?_
              refine e_iconst (v := nI 0) (p' := 105) D_Law_cycles_104 cst_iconst_0 rfl ?_
              refine y_callV1 (p' := 108) D_Law_cycles_105 V_Law_76 (k_cyc C4 hS (k := 2) (by omega) (w := 0) (by omega)) rfl (by first | assumption | exact sUp_eq | (rw [sUp_ne (by omega)]; assumption) | (rw [sUp_ne (by omega), sUp_ne (by omega)]; assumption) | (rw [sUp_ne (by omega)]; exact sUp_eq) | (rw [gSet_ne (by omega) (by omega)]; first | assumption | exact sUp_eq | (rw [sUp_ne (by omega)]; assumption) | (rw [sUp_ne (by omega), sUp_ne (by omega)]; assumption)) | (rw [sUp_ne (by omega), sUp_ne (by omega), sUp_ne (by omega)]; assumption) | (simp [sUp]; done)) rfl (Nat.le_of_ble_eq_true rfl) (by decide) ⟨by decide, by decide⟩ rfl ?_
              rintro h5 ⟨C5, F5⟩
              have c5 := C5.1
              rw [cyc40 hx]
              refine e_aload_0 (p' := 109) D_Law_cycles_108 rfl ?_
              refine e_bipush (v := nI 7) (p' := 111) D_Law_cycles_109 cst_bipush_7 rfl ?_
              refine y_callV1 (p' := 114) D_Law_cycles_111 V_Law_26 (k_cnt7 C5 hS) rfl (by first | assumption | exact sUp_eq | (rw [sUp_ne (by omega)]; assumption) | (rw [sUp_ne (by omega), sUp_ne (by omega)]; assumption) | (rw [sUp_ne (by omega)]; exact sUp_eq) | (rw [gSet_ne (by omega) (by omega)]; first | assumption | exact sUp_eq | (rw [sUp_ne (by omega)]; assumption) | (rw [sUp_ne (by omega), sUp_ne (by omega)]; assumption)) | (rw [sUp_ne (by omega), sUp_ne (by omega), sUp_ne (by omega)]; assumption) | (simp [sUp]; done)) rfl (Nat.le_of_ble_eq_true rfl) (by decide) ⟨by decide, by decide⟩ rfl ?_
              rintro h6 ⟨C6, F6⟩
              have c6 := C6.1
              refine e_icmp_ne (q := 136) (p' := 117) D_Law_cycles_114 rfl rfl (fun hc114 => ?_) (fun hc114 => ?_)
              ·
                first | exact absurd rfl hc114 | exact hc114 rfl | (exfalso; omega) | exact absurd hc114 (by decide) | exact absurd hc114 (by simp [*])
              ·
                refine e_aload_0 (p' := 118) D_Law_cycles_117 rfl ?_
                refine e_iconst (v := nI 4) (p' := 119) D_Law_cycles_118 cst_iconst_4 rfl ?_
                refine e_iconst (v := nI 1) (p' := 120) D_Law_cycles_119 cst_iconst_1 rfl ?_
                refine y_callV1 (p' := 123) D_Law_cycles_120 V_Law_76 (k_cyc C6 hS (k := 2) (by omega) (w := 1) (by omega)) rfl (by first | assumption | exact sUp_eq | (rw [sUp_ne (by omega)]; assumption) | (rw [sUp_ne (by omega), sUp_ne (by omega)]; assumption) | (rw [sUp_ne (by omega)]; exact sUp_eq) | (rw [gSet_ne (by omega) (by omega)]; first | assumption | exact sUp_eq | (rw [sUp_ne (by omega)]; assumption) | (rw [sUp_ne (by omega), sUp_ne (by omega)]; assumption)) | (rw [sUp_ne (by omega), sUp_ne (by omega), sUp_ne (by omega)]; assumption) | (simp [sUp]; done)) rfl (Nat.le_of_ble_eq_true rfl) (by decide) ⟨by decide, by decide⟩ rfl ?_
                rintro h7 ⟨C7, F7⟩
                have c7 := C7.1
                rw [cyc41 hx]
                refine e_aload_0 (p' := 124) D_Law_cycles_123 rfl ?_
                refine e_bipush (v := nI 8) (p' := 126) D_Law_cycles_124 cst_bipush_8 rfl ?_
                refine y_callV1 (p' := 129) D_Law_cycles_126 V_Law_26 (k_cnt8 C7 hS) rfl (by first | assumption | exact sUp_eq | (rw [sUp_ne (by omega)]; assumption) | (rw [sUp_ne (by omega), sUp_ne (by omega)]; assumption) | (rw [sUp_ne (by omega)]; exact sUp_eq) | (rw [gSet_ne (by omega) (by omega)]; first | assumption | exact sUp_eq | (rw [sUp_ne (by omega)]; assumption) | (rw [sUp_ne (by omega), sUp_ne (by omega)]; assumption)) | (rw [sUp_ne (by omega), sUp_ne (by omega), sUp_ne (by omega)]; assumption) | (simp [sUp]; done)) rfl (Nat.le_of_ble_eq_true rfl) (by decide) ⟨by decide, by decide⟩ rfl ?_
                rintro h8 ⟨C8, F8⟩
                have c8 := C8.1
                refine e_icmp_ne (q := 136) (p' := 132) D_Law_cycles_129 rfl rfl (fun hc129 => ?_) (fun hc129 => ?_)
                ·
                  first | exact absurd rfl hc129 | exact hc129 rfl | (exfalso; omega) | exact absurd hc129 (by decide) | exact absurd hc129 (by simp [*])
                ·
                  refine e_iconst (v := nI 1) (p' := 133) D_Law_cycles_132 cst_iconst_1 rfl ?_
                  refine e_goto (p' := 137) D_Law_cycles_133 rfl ?_
                  refine e_istore_3 (p' := 138) D_Law_cycles_137 (Nat.le_of_ble_eq_true rfl) rfl rfl ?_
                  refine e_iload_3 (p' := 139) D_Law_cycles_138 rfl ?_
                  refine e_ifN_eq (q := 164) (p' := 142) D_Law_cycles_139 (by omega) rfl rfl (fun hc139 => ?_) (fun hc139 => ?_)
                  ·
                    first | exact absurd rfl hc139 | exact hc139 rfl | (exfalso; omega) | exact absurd hc139 (by decide) | exact absurd hc139 (by simp [*])
                  ·
                    refine e_aload_0 (p' := 143) D_Law_cycles_142 rfl ?_
                    refine e_iconst (v := nI 0) (p' := 144) D_Law_cycles_143 cst_iconst_0 rfl ?_
                    refine y_callV1 (p' := 147) D_Law_cycles_144 V_Law_79 (k_wrong0 C8 hS) rfl (by first | assumption | exact sUp_eq | (rw [sUp_ne (by omega)]; assumption) | (rw [sUp_ne (by omega), sUp_ne (by omega)]; assumption) | (rw [sUp_ne (by omega)]; exact sUp_eq) | (rw [gSet_ne (by omega) (by omega)]; first | assumption | exact sUp_eq | (rw [sUp_ne (by omega)]; assumption) | (rw [sUp_ne (by omega), sUp_ne (by omega)]; assumption)) | (rw [sUp_ne (by omega), sUp_ne (by omega), sUp_ne (by omega)]; assumption) | (simp [sUp]; done)) rfl (Nat.le_of_ble_eq_true rfl) (by decide) ⟨by decide, by decide⟩ rfl ?_
                    rintro h9 ⟨C9, F9⟩
                    have c9 := C9.1
                    rw [if_pos hsw]
                    refine e_iload_1 (p' := 148) D_Law_cycles_147 rfl ?_
                    refine e_ifN_ne (q := 156) (p' := 151) D_Law_cycles_148 (by omega) rfl rfl (fun hc148 => ?_) (fun hc148 => ?_)
                    ·
                      first | exact absurd rfl hc148 | exact hc148 rfl | (exfalso; omega) | exact absurd hc148 (by decide) | exact absurd hc148 (by simp [*])
                    ·
                      refine e_bipush (v := (-6)) (p' := 153) D_Law_cycles_151 cst_bipush_m6 rfl ?_
                      refine e_goto (p' := 157) D_Law_cycles_153 rfl ?_
                      refine e_icmp_ne (q := 164) (p' := 160) D_Law_cycles_157 rfl rfl (fun hc157 => ?_) (fun hc157 => ?_)
                      ·
                        first | exact absurd rfl hc157 | exact hc157 rfl | (exfalso; omega) | exact absurd hc157 (by decide) | exact absurd hc157 (by simp [*])
                      ·
                        refine e_iconst (v := nI 1) (p' := 161) D_Law_cycles_160 cst_iconst_1 rfl ?_
                        refine e_goto (p' := 165) D_Law_cycles_161 rfl ?_
                        refine e_istore_3 (p' := 166) D_Law_cycles_165 (Nat.le_of_ble_eq_true rfl) rfl rfl ?_
                        refine e_iload_3 (p' := 167) D_Law_cycles_166 rfl ?_
                        refine e_ifN_eq (q := 206) (p' := 170) D_Law_cycles_167 (by omega) rfl rfl (fun hc167 => ?_) (fun hc167 => ?_)
                        ·
                          first | exact absurd rfl hc167 | exact hc167 rfl | (exfalso; omega) | exact absurd hc167 (by decide) | exact absurd hc167 (by simp [*])
                        ·
                          refine e_iload_1 (p' := 171) D_Law_cycles_170 rfl ?_
                          refine e_ifN_eq (q := 202) (p' := 174) D_Law_cycles_171 (by omega) rfl rfl (fun hc171 => ?_) (fun hc171 => ?_)
                          ·
                            refine e_iconst (v := nI 1) (p' := 203) D_Law_cycles_202 cst_iconst_1 rfl ?_
                            refine e_goto (p' := 207) D_Law_cycles_203 rfl ?_
                            refine e_istore_3 (p' := 208) D_Law_cycles_207 (Nat.le_of_ble_eq_true rfl) rfl rfl ?_
                            refine e_aload_0 (p' := 209) D_Law_cycles_208 rfl ?_
                            refine e_bipush (v := nI 9) (p' := 211) D_Law_cycles_209 cst_bipush_9 rfl ?_
                            have hrk := rk_le hx
                            refine y_callV1 (p' := 214) D_Law_cycles_211 V_Law_26 (k_cnt9 C9 hS) rfl (by first | assumption | exact sUp_eq | (rw [sUp_ne (by omega)]; assumption) | (rw [sUp_ne (by omega), sUp_ne (by omega)]; assumption) | (rw [sUp_ne (by omega)]; exact sUp_eq) | (rw [gSet_ne (by omega) (by omega)]; first | assumption | exact sUp_eq | (rw [sUp_ne (by omega)]; assumption) | (rw [sUp_ne (by omega), sUp_ne (by omega)]; assumption)) | (rw [sUp_ne (by omega), sUp_ne (by omega), sUp_ne (by omega)]; assumption) | (simp [sUp]; done)) rfl (Nat.le_of_ble_eq_true rfl) (by decide) ⟨by decide, by decide⟩ rfl ?_
                            rintro h12 ⟨C12, F12⟩
                            have c12 := C12.1
                            refine e_istore_4 (p' := 216) D_Law_cycles_214 (Nat.le_of_ble_eq_true rfl) rfl rfl ?_
                            refine e_iload_3 (p' := 217) D_Law_cycles_216 rfl ?_
                            refine e_ifN_eq (q := 264) (p' := 220) D_Law_cycles_217 (by omega) rfl rfl (fun hc217 => ?_) (fun hc217 => ?_)
                            ·
                              first | exact absurd rfl hc217 | exact hc217 rfl | (exfalso; omega) | exact absurd hc217 (by decide) | exact absurd hc217 (by simp [*])
                            ·
                              refine e_aload_0 (p' := 221) D_Law_cycles_220 rfl ?_
                              refine e_iconst (v := nI 3) (p' := 222) D_Law_cycles_221 cst_iconst_3 rfl ?_
                              refine y_callV1 (p' := 225) D_Law_cycles_222 V_Law_26 (k_cnt3 C12 hS) rfl (by first | assumption | exact sUp_eq | (rw [sUp_ne (by omega)]; assumption) | (rw [sUp_ne (by omega), sUp_ne (by omega)]; assumption) | (rw [sUp_ne (by omega)]; exact sUp_eq) | (rw [gSet_ne (by omega) (by omega)]; first | assumption | exact sUp_eq | (rw [sUp_ne (by omega)]; assumption) | (rw [sUp_ne (by omega), sUp_ne (by omega)]; assumption)) | (rw [sUp_ne (by omega), sUp_ne (by omega), sUp_ne (by omega)]; assumption) | (simp [sUp]; done)) rfl (Nat.le_of_ble_eq_true rfl) (by decide) ⟨by decide, by decide⟩ rfl ?_
                              rintro h13 ⟨C13, F13⟩
                              have c13 := C13.1
                              have ht36 := told_36 hx
                              refine e_ifN_ne (q := 236) (p' := 228) D_Law_cycles_225 (by omega) rfl rfl (fun hc225 => ?_) (fun hc225 => ?_)
                              ·
                                refine e_aload_0 (p' := 237) D_Law_cycles_236 rfl ?_
                                refine e_bipush (v := nI 8) (p' := 239) D_Law_cycles_237 cst_bipush_8 rfl ?_
                                refine y_callV1 (p' := 242) D_Law_cycles_239 V_Law_26 (k_cnt8 C13 hS) rfl (by first | assumption | exact sUp_eq | (rw [sUp_ne (by omega)]; assumption) | (rw [sUp_ne (by omega), sUp_ne (by omega)]; assumption) | (rw [sUp_ne (by omega)]; exact sUp_eq) | (rw [gSet_ne (by omega) (by omega)]; first | assumption | exact sUp_eq | (rw [sUp_ne (by omega)]; assumption) | (rw [sUp_ne (by omega), sUp_ne (by omega)]; assumption)) | (rw [sUp_ne (by omega), sUp_ne (by omega), sUp_ne (by omega)]; assumption) | (simp [sUp]; done)) rfl (Nat.le_of_ble_eq_true rfl) (by decide) ⟨by decide, by decide⟩ rfl ?_
                                rintro h14 ⟨C14, F14⟩
                                have c14 := C14.1
                                have hm8 := mAll_lt hx (b := true)
                                refine e_ifN_ne (q := 254) (p' := 245) D_Law_cycles_242 (by omega) rfl rfl (fun hc242 => ?_) (fun hc242 => ?_)
                                ·
                                  refine e_iload_4 (p' := 256) D_Law_cycles_254 rfl ?_
                                  refine e_iconst (v := nI 2) (p' := 257) D_Law_cycles_256 cst_iconst_2 rfl ?_
                                  refine e_icmpN_lt (q := 264) (p' := 260) D_Law_cycles_257 (by omega) (by omega) rfl rfl (fun hc257 => ?_) (fun hc257 => ?_)
                                  ·
                                    exact absurd (rank_2 hx (by omega)) (by omega)
                                  ·
                                    refine e_iconst (v := nI 1) (p' := 261) D_Law_cycles_260 cst_iconst_1 rfl ?_
                                    refine e_goto (p' := 265) D_Law_cycles_261 rfl ?_
                                    refine e_ireturn (ty := .boolean) D_Law_cycles_265 rfl (by first | rfl | exact sBo_nar _) ⟨by decide, by decide⟩ ?_
                                    exact ⟨rfl, C14⟩
                                ·
                                  refine e_iload_4 (p' := 247) D_Law_cycles_245 rfl ?_
                                  refine e_iconst (v := nI 1) (p' := 248) D_Law_cycles_247 cst_iconst_1 rfl ?_
                                  refine e_icmp_ne (q := 264) (p' := 251) D_Law_cycles_248 rfl rfl (fun hc248 => ?_) (fun hc248 => ?_)
                                  ·
                                    exact absurd (congrArg nI (rank_1 hx (by omega) (by omega))) hc248
                                  ·
                                    refine e_goto (p' := 260) D_Law_cycles_251 rfl ?_
                                    refine e_iconst (v := nI 1) (p' := 261) D_Law_cycles_260 cst_iconst_1 rfl ?_
                                    refine e_goto (p' := 265) D_Law_cycles_261 rfl ?_
                                    refine e_ireturn (ty := .boolean) D_Law_cycles_265 rfl (by first | rfl | exact sBo_nar _) ⟨by decide, by decide⟩ ?_
                                    exact ⟨rfl, C14⟩
                              ·
                                refine e_iload_4 (p' := 230) D_Law_cycles_228 rfl ?_
                                refine e_ifN_ne (q := 264) (p' := 233) D_Law_cycles_230 (by omega) rfl rfl (fun hc230 => ?_) (fun hc230 => ?_)
                                ·
                                  exact absurd (rank_0 hx (by omega)) hc230
                                ·
                                  refine e_goto (p' := 260) D_Law_cycles_233 rfl ?_
                                  refine e_iconst (v := nI 1) (p' := 261) D_Law_cycles_260 cst_iconst_1 rfl ?_
                                  refine e_goto (p' := 265) D_Law_cycles_261 rfl ?_
                                  refine e_ireturn (ty := .boolean) D_Law_cycles_265 rfl (by first | rfl | exact sBo_nar _) ⟨by decide, by decide⟩ ?_
                                  exact ⟨rfl, C13⟩
                          ·
                            first | exact absurd rfl hc171 | exact hc171 rfl | (exfalso; omega) | exact absurd hc171 (by decide) | exact absurd hc171 (by simp [*])
      ·
        exfalso; omega
    · intro i hi ih6 h1 CC
      have cc := CC.1
      refine e_iload_3 (p' := 7) D_Law_cycles_6 rfl ?_
      refine e_bipush (v := nI 12) (p' := 9) D_Law_cycles_7 cst_bipush_12 rfl ?_
      refine e_icmpN_gt (q := 76) (p' := 12) D_Law_cycles_9 (by omega) (by omega) rfl rfl (fun hc9 => ?_) (fun hc9 => ?_)
      ·
        exfalso; omega
      ·
        refine e_aload_0 (p' := 13) D_Law_cycles_12 rfl ?_
        refine e_iload_3 (p' := 14) D_Law_cycles_13 rfl ?_
        refine e_iconst (v := nI 1) (p' := 15) D_Law_cycles_14 cst_iconst_1 rfl ?_
        have hle := cyc_le hx (k := i + 2) (by omega)
        have hlt := cyc_lt hx (k := i + 2) (by omega) (by omega)
        have hs := sh_le (x := st.1) i
        have hwi := wc_le (x := st.1) i
        refine y_callV1 (p' := 18) D_Law_cycles_15 V_Law_76 (k_cyc CC hS (k := i + 2) (by omega) (w := 1) (by omega)) rfl (by first | assumption | exact sUp_eq | (rw [sUp_ne (by omega)]; assumption) | (rw [sUp_ne (by omega), sUp_ne (by omega)]; assumption) | (rw [sUp_ne (by omega)]; exact sUp_eq) | (rw [gSet_ne (by omega) (by omega)]; first | assumption | exact sUp_eq | (rw [sUp_ne (by omega)]; assumption) | (rw [sUp_ne (by omega), sUp_ne (by omega)]; assumption)) | (rw [sUp_ne (by omega), sUp_ne (by omega), sUp_ne (by omega)]; assumption) | (simp [sUp]; done)) rfl (Nat.le_of_ble_eq_true rfl) (by decide) ⟨by decide, by decide⟩ rfl ?_
        rintro h2 ⟨C2, F2⟩
        have c2 := C2.1
        refine e_istore_4 (p' := 20) D_Law_cycles_18 (Nat.le_of_ble_eq_true rfl) rfl rfl ?_
        refine e_aload_0 (p' := 21) D_Law_cycles_20 rfl ?_
        refine e_iload_3 (p' := 22) D_Law_cycles_21 rfl ?_
        refine e_iconst (v := nI 0) (p' := 23) D_Law_cycles_22 cst_iconst_0 rfl ?_
        refine y_callV1 (p' := 26) D_Law_cycles_23 V_Law_76 (k_cyc C2 hS (k := i + 2) (by omega) (w := 0) (by omega)) rfl (by first | assumption | exact sUp_eq | (rw [sUp_ne (by omega)]; assumption) | (rw [sUp_ne (by omega), sUp_ne (by omega)]; assumption) | (rw [sUp_ne (by omega)]; exact sUp_eq) | (rw [gSet_ne (by omega) (by omega)]; first | assumption | exact sUp_eq | (rw [sUp_ne (by omega)]; assumption) | (rw [sUp_ne (by omega), sUp_ne (by omega)]; assumption)) | (rw [sUp_ne (by omega), sUp_ne (by omega), sUp_ne (by omega)]; assumption) | (simp [sUp]; done)) rfl (Nat.le_of_ble_eq_true rfl) (by decide) ⟨by decide, by decide⟩ rfl ?_
        rintro h3 ⟨C3, F3⟩
        have c3 := C3.1
        refine e_istore_5 (p' := 28) D_Law_cycles_26 (Nat.le_of_ble_eq_true rfl) rfl rfl ?_
        refine e_iload_4 (p' := 30) D_Law_cycles_28 rfl ?_
        refine e_ifN_lt (q := 40) (p' := 33) D_Law_cycles_30 (by omega) rfl rfl (fun hc30 => ?_) (fun hc30 => ?_)
        ·
          first | exact absurd rfl hc30 | exact hc30 rfl | (exfalso; omega) | exact absurd hc30 (by decide) | exact absurd hc30 (by simp [*])
        ·
          refine e_iload_4 (p' := 35) D_Law_cycles_33 rfl ?_
          refine e_iload_5 (p' := 37) D_Law_cycles_35 rfl ?_
          refine e_icmpN_le (q := 42) (p' := 40) D_Law_cycles_37 (by omega) (by omega) rfl rfl (fun hc37 => ?_) (fun hc37 => ?_)
          ·
            refine e_iload_4 (p' := 44) D_Law_cycles_42 rfl ?_
            refine e_ifN_le (q := 55) (p' := 47) D_Law_cycles_44 (by omega) rfl rfl (fun hc44 => ?_) (fun hc44 => ?_)
            ·
              refine e_iload_2 (p' := 56) D_Law_cycles_55 rfl ?_
              refine e_istore_2 (p' := 57) D_Law_cycles_56 (Nat.le_of_ble_eq_true rfl) rfl rfl ?_
              refine e_iload_1 (p' := 58) D_Law_cycles_57 rfl ?_
              refine e_iload_4 (p' := 60) D_Law_cycles_58 rfl ?_
              refine e_ifN_le (q := 67) (p' := 63) D_Law_cycles_60 (by omega) rfl rfl (fun hc60 => ?_) (fun hc60 => ?_)
              ·
                refine e_iconst (v := nI 0) (p' := 68) D_Law_cycles_67 cst_iconst_0 rfl ?_
                first | refine e_iaddN (p' := 69) D_Law_cycles_68 rfl ?_ | refine e_iadd (p' := 69) D_Law_cycles_68 rfl ?_
                refine e_istore_1 (p' := 70) D_Law_cycles_69 (Nat.le_of_ble_eq_true rfl) rfl rfl ?_
                first | refine e_iincN_3 (n := 2) (p' := 73) D_Law_cycles_70 (Nat.le_of_ble_eq_true rfl) rfl rfl ?_ | refine e_iinc_3 (p' := 73) D_Law_cycles_70 (Nat.le_of_ble_eq_true rfl) rfl rfl rfl ?_
                refine e_goto (p' := 6) D_Law_cycles_73 rfl ?_
                refine sEv.castW (ih6 h3 C3) ?_ ?_ ?_
                · exact ⟨rfl, by unfold wc; rw [sm_succ, if_neg (by omega)], by rw [sh, if_neg (by omega)], by rw [show 2 * (i + 2) + 2 = 2 * (i + 1 + 2) by omega], trivial⟩
                · rfl
                · first | rfl | (simp; done)
              ·
                refine e_iconst (v := nI 1) (p' := 64) D_Law_cycles_63 cst_iconst_1 rfl ?_
                refine e_goto (p' := 68) D_Law_cycles_64 rfl ?_
                first | refine e_iaddN (p' := 69) D_Law_cycles_68 rfl ?_ | refine e_iadd (p' := 69) D_Law_cycles_68 rfl ?_
                refine e_istore_1 (p' := 70) D_Law_cycles_69 (Nat.le_of_ble_eq_true rfl) rfl rfl ?_
                first | refine e_iincN_3 (n := 2) (p' := 73) D_Law_cycles_70 (Nat.le_of_ble_eq_true rfl) rfl rfl ?_ | refine e_iinc_3 (p' := 73) D_Law_cycles_70 (Nat.le_of_ble_eq_true rfl) rfl rfl rfl ?_
                refine e_goto (p' := 6) D_Law_cycles_73 rfl ?_
                refine sEv.castW (ih6 h3 C3) ?_ ?_ ?_
                · exact ⟨rfl, by unfold wc; rw [sm_succ, if_pos (by omega)], by rw [sh, if_neg (by omega)], by rw [show 2 * (i + 2) + 2 = 2 * (i + 1 + 2) by omega], trivial⟩
                · rfl
                · first | rfl | (simp; done)
            ·
              refine e_iload_2 (p' := 48) D_Law_cycles_47 rfl ?_
              refine e_ifN_ne (q := 55) (p' := 51) D_Law_cycles_48 (by omega) rfl rfl (fun hc48 => ?_) (fun hc48 => ?_)
              ·
                refine e_iload_2 (p' := 56) D_Law_cycles_55 rfl ?_
                refine e_istore_2 (p' := 57) D_Law_cycles_56 (Nat.le_of_ble_eq_true rfl) rfl rfl ?_
                refine e_iload_1 (p' := 58) D_Law_cycles_57 rfl ?_
                refine e_iload_4 (p' := 60) D_Law_cycles_58 rfl ?_
                refine e_ifN_le (q := 67) (p' := 63) D_Law_cycles_60 (by omega) rfl rfl (fun hc60 => ?_) (fun hc60 => ?_)
                ·
                  refine e_iconst (v := nI 0) (p' := 68) D_Law_cycles_67 cst_iconst_0 rfl ?_
                  first | refine e_iaddN (p' := 69) D_Law_cycles_68 rfl ?_ | refine e_iadd (p' := 69) D_Law_cycles_68 rfl ?_
                  refine e_istore_1 (p' := 70) D_Law_cycles_69 (Nat.le_of_ble_eq_true rfl) rfl rfl ?_
                  first | refine e_iincN_3 (n := 2) (p' := 73) D_Law_cycles_70 (Nat.le_of_ble_eq_true rfl) rfl rfl ?_ | refine e_iinc_3 (p' := 73) D_Law_cycles_70 (Nat.le_of_ble_eq_true rfl) rfl rfl rfl ?_
                  refine e_goto (p' := 6) D_Law_cycles_73 rfl ?_
                  refine sEv.castW (ih6 h3 C3) ?_ ?_ ?_
                  · exact ⟨rfl, by unfold wc; rw [sm_succ, if_neg (by omega)], by rw [sh, if_neg (by omega)], by rw [show 2 * (i + 2) + 2 = 2 * (i + 1 + 2) by omega], trivial⟩
                  · rfl
                  · first | rfl | (simp; done)
                ·
                  refine e_iconst (v := nI 1) (p' := 64) D_Law_cycles_63 cst_iconst_1 rfl ?_
                  refine e_goto (p' := 68) D_Law_cycles_64 rfl ?_
                  first | refine e_iaddN (p' := 69) D_Law_cycles_68 rfl ?_ | refine e_iadd (p' := 69) D_Law_cycles_68 rfl ?_
                  refine e_istore_1 (p' := 70) D_Law_cycles_69 (Nat.le_of_ble_eq_true rfl) rfl rfl ?_
                  first | refine e_iincN_3 (n := 2) (p' := 73) D_Law_cycles_70 (Nat.le_of_ble_eq_true rfl) rfl rfl ?_ | refine e_iinc_3 (p' := 73) D_Law_cycles_70 (Nat.le_of_ble_eq_true rfl) rfl rfl rfl ?_
                  refine e_goto (p' := 6) D_Law_cycles_73 rfl ?_
                  refine sEv.castW (ih6 h3 C3) ?_ ?_ ?_
                  · exact ⟨rfl, by unfold wc; rw [sm_succ, if_pos (by omega)], by rw [sh, if_neg (by omega)], by rw [show 2 * (i + 2) + 2 = 2 * (i + 1 + 2) by omega], trivial⟩
                  · rfl
                  · first | rfl | (simp; done)
              ·
                refine e_iload_3 (p' := 52) D_Law_cycles_51 rfl ?_
                refine e_goto (p' := 56) D_Law_cycles_52 rfl ?_
                refine e_istore_2 (p' := 57) D_Law_cycles_56 (Nat.le_of_ble_eq_true rfl) rfl rfl ?_
                refine e_iload_1 (p' := 58) D_Law_cycles_57 rfl ?_
                refine e_iload_4 (p' := 60) D_Law_cycles_58 rfl ?_
                refine e_ifN_le (q := 67) (p' := 63) D_Law_cycles_60 (by omega) rfl rfl (fun hc60 => ?_) (fun hc60 => ?_)
                ·
                  refine e_iconst (v := nI 0) (p' := 68) D_Law_cycles_67 cst_iconst_0 rfl ?_
                  first | refine e_iaddN (p' := 69) D_Law_cycles_68 rfl ?_ | refine e_iadd (p' := 69) D_Law_cycles_68 rfl ?_
                  refine e_istore_1 (p' := 70) D_Law_cycles_69 (Nat.le_of_ble_eq_true rfl) rfl rfl ?_
                  first | refine e_iincN_3 (n := 2) (p' := 73) D_Law_cycles_70 (Nat.le_of_ble_eq_true rfl) rfl rfl ?_ | refine e_iinc_3 (p' := 73) D_Law_cycles_70 (Nat.le_of_ble_eq_true rfl) rfl rfl rfl ?_
                  refine e_goto (p' := 6) D_Law_cycles_73 rfl ?_
                  refine sEv.castW (ih6 h3 C3) ?_ ?_ ?_
                  · exact ⟨rfl, by unfold wc; rw [sm_succ, if_neg (by omega)], by rw [sh, if_pos (by omega)], by rw [show 2 * (i + 2) + 2 = 2 * (i + 1 + 2) by omega], trivial⟩
                  · rfl
                  · first | rfl | (simp; done)
                ·
                  refine e_iconst (v := nI 1) (p' := 64) D_Law_cycles_63 cst_iconst_1 rfl ?_
                  refine e_goto (p' := 68) D_Law_cycles_64 rfl ?_
                  first | refine e_iaddN (p' := 69) D_Law_cycles_68 rfl ?_ | refine e_iadd (p' := 69) D_Law_cycles_68 rfl ?_
                  refine e_istore_1 (p' := 70) D_Law_cycles_69 (Nat.le_of_ble_eq_true rfl) rfl rfl ?_
                  first | refine e_iincN_3 (n := 2) (p' := 73) D_Law_cycles_70 (Nat.le_of_ble_eq_true rfl) rfl rfl ?_ | refine e_iinc_3 (p' := 73) D_Law_cycles_70 (Nat.le_of_ble_eq_true rfl) rfl rfl rfl ?_
                  refine e_goto (p' := 6) D_Law_cycles_73 rfl ?_
                  refine sEv.castW (ih6 h3 C3) ?_ ?_ ?_
                  · exact ⟨rfl, by unfold wc; rw [sm_succ, if_pos (by omega)], by rw [sh, if_pos (by omega)], by rw [show 2 * (i + 2) + 2 = 2 * (i + 1 + 2) by omega], trivial⟩
                  · rfl
                  · first | rfl | (simp; done)
          ·
            exfalso; omega
  refine sEv.castW (lk6 0 (by omega) h hC) ?_ ?_ ?_
  · exact ⟨rfl, rfl, rfl, rfl, trivial⟩
  · rfl
  · first | rfl | (simp; done)
set_option maxRecDepth 4000 in
theorem c_Law_cyclesN {l : Launch} {h : sH} {st : St} (hC : CInv h st) (hS : StOk st) (hw : wellX st.1 = false) : sY l m_Law_cycles 15 [.ref 0] h (some (.int (nI 1))) (fun h1 => CInv h1 st) := by
  have hx := hS.1
  have hwc := wc_bad hx hw
  have hwl := wc_le (x := st.1) 5
  obtain ⟨hsh, hsw⟩ := sh_sw hx hw
  have hs2 := sw_le (x := st.1)
  obtain ⟨⟨l1, l2⟩, l3, l4⟩ := lw_pc hx (by omega) (sw_DD hx hw)
  refine en_Law_cycles ?_
  refine e_iconst (v := nI 0) (p' := 1) D_Law_cycles_0 cst_iconst_0 rfl ?_
  refine e_istore_1 (p' := 2) D_Law_cycles_1 (Nat.le_of_ble_eq_true rfl) rfl rfl ?_
  refine e_iconst (v := nI 0) (p' := 3) D_Law_cycles_2 cst_iconst_0 rfl ?_
  refine e_istore_2 (p' := 4) D_Law_cycles_3 (Nat.le_of_ble_eq_true rfl) rfl rfl ?_
  refine e_iconst (v := nI 4) (p' := 5) D_Law_cycles_4 cst_iconst_4 rfl ?_
  refine e_istore_3 (p' := 6) D_Law_cycles_5 (Nat.le_of_ble_eq_true rfl) rfl rfl ?_
  have lk6 : ∀ i : Nat, i ≤ 5 → ∀ (h1 : sH), CInv h1 st → sEv l m_Law_cycles 15 (0, 0, 0, 0) (sKm 0 0 (fun r1 h1 => r1 = some (.int (nI 1)) ∧ (fun h1 => CInv h1 st) h1)) 6 [some (.ref 0), some (.int (nI (wc st.1 i))), some (.int (nI (sh st.1 i))), some (.int (nI (2 * (i + 2)))), none, none] [] (h1) := by
    refine lp_up _ ?_ ?_
    · intro h1 CC
      have cc := CC.1
      refine e_iload_3 (p' := 7) D_Law_cycles_6 rfl ?_
      refine e_bipush (v := nI 12) (p' := 9) D_Law_cycles_7 cst_bipush_12 rfl ?_
      refine e_icmpN_gt (q := 76) (p' := 12) D_Law_cycles_9 (by omega) (by omega) rfl rfl (fun hc9 => ?_) (fun hc9 => ?_)
      ·
        rw [hsh]
        refine e_iload_1 (p' := 77) D_Law_cycles_76 rfl ?_
        refine e_ifN_ne (q := 84) (p' := 80) D_Law_cycles_77 (by omega) rfl rfl (fun hc77 => ?_) (fun hc77 => ?_)
        ·
          refine e_iconst (v := nI 0) (p' := 85) D_Law_cycles_84 cst_iconst_0 rfl ?_
          refine e_aload_0 (p' := 86) D_Law_cycles_85 rfl ?_
          refine e_iconst (v := nI 5) (p' := 87) D_Law_cycles_86 cst_iconst_5 rfl ?_
          refine y_callV1 (p' := 90) D_Law_cycles_87 V_Law_26 (k_cnt5 CC hS) rfl (by first | assumption | exact sUp_eq | (rw [sUp_ne (by omega)]; assumption) | (rw [sUp_ne (by omega), sUp_ne (by omega)]; assumption) | (rw [sUp_ne (by omega)]; exact sUp_eq) | (rw [gSet_ne (by omega) (by omega)]; first | assumption | exact sUp_eq | (rw [sUp_ne (by omega)]; assumption) | (rw [sUp_ne (by omega), sUp_ne (by omega)]; assumption)) | (rw [sUp_ne (by omega), sUp_ne (by omega), sUp_ne (by omega)]; assumption) | (simp [sUp]; done)) rfl (Nat.le_of_ble_eq_true rfl) (by decide) ⟨by decide, by decide⟩ rfl ?_
          rintro h4 ⟨C4, F4⟩
          have c4 := C4.1
          rw [hw]
          refine e_iconst (v := nI 1) (p' := 91) D_Law_cycles_90 cst_iconst_1 rfl ?_
          refine e_icmp_ne (q := 98) (p' := 94) D_Law_cycles_91 rfl rfl (fun hc91 => ?_) (fun hc91 => ?_)
          ·
            refine e_iconst (v := nI 0) (p' := 99) D_Law_cycles_98 cst_iconst_0 rfl ?_
            refine e_icmp_ne (q := 136) (p' := 102) D_Law_cycles_99 rfl rfl (fun hc99 => ?_) (fun hc99 => ?_)
            ·
              first | exact absurd rfl hc99 | exact hc99 rfl | (exfalso; omega) | exact absurd hc99 (by decide) | exact absurd hc99 (by simp [*])
            ·
              refine e_aload_0 (p' := 103) D_Law_cycles_102 rfl ?_
              refine e_iconst (v := nI 4) (p' := 104) D_Law_cycles_103 cst_iconst_4 rfl ?_
              refine e_iconst (v := nI 0) (p' := 105) D_Law_cycles_104 cst_iconst_0 rfl ?_
              refine y_callV1 (p' := 108) D_Law_cycles_105 V_Law_76 (k_cyc C4 hS (k := 2) (by omega) (w := 0) (by omega)) rfl (by first | assumption | exact sUp_eq | (rw [sUp_ne (by omega)]; assumption) | (rw [sUp_ne (by omega), sUp_ne (by omega)]; assumption) | (rw [sUp_ne (by omega)]; exact sUp_eq) | (rw [gSet_ne (by omega) (by omega)]; first | assumption | exact sUp_eq | (rw [sUp_ne (by omega)]; assumption) | (rw [sUp_ne (by omega), sUp_ne (by omega)]; assumption)) | (rw [sUp_ne (by omega), sUp_ne (by omega), sUp_ne (by omega)]; assumption) | (simp [sUp]; done)) rfl (Nat.le_of_ble_eq_true rfl) (by decide) ⟨by decide, by decide⟩ rfl ?_
              rintro h5 ⟨C5, F5⟩
              have c5 := C5.1
              rw [cyc40 hx]
              refine e_aload_0 (p' := 109) D_Law_cycles_108 rfl ?_
              refine e_bipush (v := nI 7) (p' := 111) D_Law_cycles_109 cst_bipush_7 rfl ?_
              refine y_callV1 (p' := 114) D_Law_cycles_111 V_Law_26 (k_cnt7 C5 hS) rfl (by first | assumption | exact sUp_eq | (rw [sUp_ne (by omega)]; assumption) | (rw [sUp_ne (by omega), sUp_ne (by omega)]; assumption) | (rw [sUp_ne (by omega)]; exact sUp_eq) | (rw [gSet_ne (by omega) (by omega)]; first | assumption | exact sUp_eq | (rw [sUp_ne (by omega)]; assumption) | (rw [sUp_ne (by omega), sUp_ne (by omega)]; assumption)) | (rw [sUp_ne (by omega), sUp_ne (by omega), sUp_ne (by omega)]; assumption) | (simp [sUp]; done)) rfl (Nat.le_of_ble_eq_true rfl) (by decide) ⟨by decide, by decide⟩ rfl ?_
              rintro h6 ⟨C6, F6⟩
              have c6 := C6.1
              refine e_icmp_ne (q := 136) (p' := 117) D_Law_cycles_114 rfl rfl (fun hc114 => ?_) (fun hc114 => ?_)
              ·
                first | exact absurd rfl hc114 | exact hc114 rfl | (exfalso; omega) | exact absurd hc114 (by decide) | exact absurd hc114 (by simp [*])
              ·
                refine e_aload_0 (p' := 118) D_Law_cycles_117 rfl ?_
                refine e_iconst (v := nI 4) (p' := 119) D_Law_cycles_118 cst_iconst_4 rfl ?_
                refine e_iconst (v := nI 1) (p' := 120) D_Law_cycles_119 cst_iconst_1 rfl ?_
                refine y_callV1 (p' := 123) D_Law_cycles_120 V_Law_76 (k_cyc C6 hS (k := 2) (by omega) (w := 1) (by omega)) rfl (by first | assumption | exact sUp_eq | (rw [sUp_ne (by omega)]; assumption) | (rw [sUp_ne (by omega), sUp_ne (by omega)]; assumption) | (rw [sUp_ne (by omega)]; exact sUp_eq) | (rw [gSet_ne (by omega) (by omega)]; first | assumption | exact sUp_eq | (rw [sUp_ne (by omega)]; assumption) | (rw [sUp_ne (by omega), sUp_ne (by omega)]; assumption)) | (rw [sUp_ne (by omega), sUp_ne (by omega), sUp_ne (by omega)]; assumption) | (simp [sUp]; done)) rfl (Nat.le_of_ble_eq_true rfl) (by decide) ⟨by decide, by decide⟩ rfl ?_
                rintro h7 ⟨C7, F7⟩
                have c7 := C7.1
                rw [cyc41 hx]
                refine e_aload_0 (p' := 124) D_Law_cycles_123 rfl ?_
                refine e_bipush (v := nI 8) (p' := 126) D_Law_cycles_124 cst_bipush_8 rfl ?_
                refine y_callV1 (p' := 129) D_Law_cycles_126 V_Law_26 (k_cnt8 C7 hS) rfl (by first | assumption | exact sUp_eq | (rw [sUp_ne (by omega)]; assumption) | (rw [sUp_ne (by omega), sUp_ne (by omega)]; assumption) | (rw [sUp_ne (by omega)]; exact sUp_eq) | (rw [gSet_ne (by omega) (by omega)]; first | assumption | exact sUp_eq | (rw [sUp_ne (by omega)]; assumption) | (rw [sUp_ne (by omega), sUp_ne (by omega)]; assumption)) | (rw [sUp_ne (by omega), sUp_ne (by omega), sUp_ne (by omega)]; assumption) | (simp [sUp]; done)) rfl (Nat.le_of_ble_eq_true rfl) (by decide) ⟨by decide, by decide⟩ rfl ?_
                rintro h8 ⟨C8, F8⟩
                have c8 := C8.1
                refine e_icmp_ne (q := 136) (p' := 132) D_Law_cycles_129 rfl rfl (fun hc129 => ?_) (fun hc129 => ?_)
                ·
                  first | exact absurd rfl hc129 | exact hc129 rfl | (exfalso; omega) | exact absurd hc129 (by decide) | exact absurd hc129 (by simp [*])
                ·
                  refine e_iconst (v := nI 1) (p' := 133) D_Law_cycles_132 cst_iconst_1 rfl ?_
                  refine e_goto (p' := 137) D_Law_cycles_133 rfl ?_
                  refine e_istore_3 (p' := 138) D_Law_cycles_137 (Nat.le_of_ble_eq_true rfl) rfl rfl ?_
                  refine e_iload_3 (p' := 139) D_Law_cycles_138 rfl ?_
                  refine e_ifN_eq (q := 164) (p' := 142) D_Law_cycles_139 (by omega) rfl rfl (fun hc139 => ?_) (fun hc139 => ?_)
                  ·
                    first | exact absurd rfl hc139 | exact hc139 rfl | (exfalso; omega) | exact absurd hc139 (by decide) | exact absurd hc139 (by simp [*])
                  ·
                    refine e_aload_0 (p' := 143) D_Law_cycles_142 rfl ?_
                    refine e_iconst (v := nI 0) (p' := 144) D_Law_cycles_143 cst_iconst_0 rfl ?_
                    refine y_callV1 (p' := 147) D_Law_cycles_144 V_Law_79 (k_wrong0 C8 hS) rfl (by first | assumption | exact sUp_eq | (rw [sUp_ne (by omega)]; assumption) | (rw [sUp_ne (by omega), sUp_ne (by omega)]; assumption) | (rw [sUp_ne (by omega)]; exact sUp_eq) | (rw [gSet_ne (by omega) (by omega)]; first | assumption | exact sUp_eq | (rw [sUp_ne (by omega)]; assumption) | (rw [sUp_ne (by omega), sUp_ne (by omega)]; assumption)) | (rw [sUp_ne (by omega), sUp_ne (by omega), sUp_ne (by omega)]; assumption) | (simp [sUp]; done)) rfl (Nat.le_of_ble_eq_true rfl) (by decide) ⟨by decide, by decide⟩ rfl ?_
                    rintro h9 ⟨C9, F9⟩
                    have c9 := C9.1
                    rw [if_neg hsw]
                    refine e_iload_1 (p' := 148) D_Law_cycles_147 rfl ?_
                    refine e_ifN_ne (q := 156) (p' := 151) D_Law_cycles_148 (by omega) rfl rfl (fun hc148 => ?_) (fun hc148 => ?_)
                    ·
                      refine e_iload_2 (p' := 157) D_Law_cycles_156 rfl ?_
                      refine e_icmp_ne (q := 164) (p' := 160) D_Law_cycles_157 rfl rfl (fun hc157 => ?_) (fun hc157 => ?_)
                      ·
                        first | exact absurd rfl hc157 | exact hc157 rfl | (exfalso; omega) | exact absurd hc157 (by decide) | exact absurd hc157 (by simp [*])
                      ·
                        refine e_iconst (v := nI 1) (p' := 161) D_Law_cycles_160 cst_iconst_1 rfl ?_
                        refine e_goto (p' := 165) D_Law_cycles_161 rfl ?_
                        refine e_istore_3 (p' := 166) D_Law_cycles_165 (Nat.le_of_ble_eq_true rfl) rfl rfl ?_
                        refine e_iload_3 (p' := 167) D_Law_cycles_166 rfl ?_
                        refine e_ifN_eq (q := 206) (p' := 170) D_Law_cycles_167 (by omega) rfl rfl (fun hc167 => ?_) (fun hc167 => ?_)
                        ·
                          first | exact absurd rfl hc167 | exact hc167 rfl | (exfalso; omega) | exact absurd hc167 (by decide) | exact absurd hc167 (by simp [*])
                        ·
                          refine e_iload_1 (p' := 171) D_Law_cycles_170 rfl ?_
                          refine e_ifN_eq (q := 202) (p' := 174) D_Law_cycles_171 (by omega) rfl rfl (fun hc171 => ?_) (fun hc171 => ?_)
                          ·
                            first | exact absurd rfl hc171 | exact hc171 rfl | (exfalso; omega) | exact absurd hc171 (by decide) | exact absurd hc171 (by simp [*])
                          ·
                            refine e_aload_0 (p' := 175) D_Law_cycles_174 rfl ?_
                            refine e_iconst (v := nI 1) (p' := 176) D_Law_cycles_175 cst_iconst_1 rfl ?_
                            refine y_callV1 (p' := 179) D_Law_cycles_176 V_Law_79 (k_wrong1 C9 hS hsw) rfl (by first | assumption | exact sUp_eq | (rw [sUp_ne (by omega)]; assumption) | (rw [sUp_ne (by omega), sUp_ne (by omega)]; assumption) | (rw [sUp_ne (by omega)]; exact sUp_eq) | (rw [gSet_ne (by omega) (by omega)]; first | assumption | exact sUp_eq | (rw [sUp_ne (by omega)]; assumption) | (rw [sUp_ne (by omega), sUp_ne (by omega)]; assumption)) | (rw [sUp_ne (by omega), sUp_ne (by omega), sUp_ne (by omega)]; assumption) | (simp [sUp]; done)) rfl (Nat.le_of_ble_eq_true rfl) (by decide) ⟨by decide, by decide⟩ rfl ?_
                            rintro h10 ⟨C10, F10⟩
                            have c10 := C10.1
                            refine x_callS1 (p' := 182) D_Law_cycles_179 S_Law_39 (c_Law_bits l2) rfl rfl (Nat.le_of_ble_eq_true rfl) (by decide) ⟨by decide, by decide⟩ rfl ?_
                            rw [l1]
                            refine e_iload_2 (p' := 183) D_Law_cycles_182 rfl ?_
                            refine e_iconst (v := nI 2) (p' := 184) D_Law_cycles_183 cst_iconst_2 rfl ?_
                            first | refine e_idivN (p' := 185) D_Law_cycles_184 (by omega) (by omega) (by omega) rfl ?_ | refine e_idiv (p' := 185) D_Law_cycles_184 (by assumption) rfl ?_
                            rw [show 2 * sw st.1 / 2 = sw st.1 by omega]
                            refine e_icmp_ne (q := 206) (p' := 188) D_Law_cycles_185 rfl rfl (fun hc185 => ?_) (fun hc185 => ?_)
                            ·
                              first | exact absurd rfl hc185 | exact hc185 rfl | (exfalso; omega) | exact absurd hc185 (by decide) | exact absurd hc185 (by simp [*])
                            ·
                              refine e_aload_0 (p' := 189) D_Law_cycles_188 rfl ?_
                              refine e_iconst (v := nI 2) (p' := 190) D_Law_cycles_189 cst_iconst_2 rfl ?_
                              refine y_callV1 (p' := 193) D_Law_cycles_190 V_Law_79 (k_wrong2 C10 hS hsw) rfl (by first | assumption | exact sUp_eq | (rw [sUp_ne (by omega)]; assumption) | (rw [sUp_ne (by omega), sUp_ne (by omega)]; assumption) | (rw [sUp_ne (by omega)]; exact sUp_eq) | (rw [gSet_ne (by omega) (by omega)]; first | assumption | exact sUp_eq | (rw [sUp_ne (by omega)]; assumption) | (rw [sUp_ne (by omega), sUp_ne (by omega)]; assumption)) | (rw [sUp_ne (by omega), sUp_ne (by omega), sUp_ne (by omega)]; assumption) | (simp [sUp]; done)) rfl (Nat.le_of_ble_eq_true rfl) (by decide) ⟨by decide, by decide⟩ rfl ?_
                              rintro h11 ⟨C11, F11⟩
                              have c11 := C11.1
                              refine x_callS1 (p' := 196) D_Law_cycles_193 S_Law_39 (c_Law_bits l4) rfl rfl (Nat.le_of_ble_eq_true rfl) (by decide) ⟨by decide, by decide⟩ rfl ?_
                              rw [l3]
                              refine e_iload_2 (p' := 197) D_Law_cycles_196 rfl ?_
                              refine e_iconst (v := nI 2) (p' := 198) D_Law_cycles_197 cst_iconst_2 rfl ?_
                              first | refine e_idivN (p' := 199) D_Law_cycles_198 (by omega) (by omega) (by omega) rfl ?_ | refine e_idiv (p' := 199) D_Law_cycles_198 (by assumption) rfl ?_
                              rw [show 2 * sw st.1 / 2 = sw st.1 by omega]
                              refine e_icmp_ne (q := 206) (p' := 202) D_Law_cycles_199 rfl rfl (fun hc199 => ?_) (fun hc199 => ?_)
                              ·
                                first | exact absurd rfl hc199 | exact hc199 rfl | (exfalso; omega) | exact absurd hc199 (by decide) | exact absurd hc199 (by simp [*])
                              ·
                                refine e_iconst (v := nI 1) (p' := 203) D_Law_cycles_202 cst_iconst_1 rfl ?_
                                refine e_goto (p' := 207) D_Law_cycles_203 rfl ?_
                                refine e_istore_3 (p' := 208) D_Law_cycles_207 (Nat.le_of_ble_eq_true rfl) rfl rfl ?_
                                refine e_aload_0 (p' := 209) D_Law_cycles_208 rfl ?_
                                refine e_bipush (v := nI 9) (p' := 211) D_Law_cycles_209 cst_bipush_9 rfl ?_
                                have hrk := rk_le hx
                                refine y_callV1 (p' := 214) D_Law_cycles_211 V_Law_26 (k_cnt9 C11 hS) rfl (by first | assumption | exact sUp_eq | (rw [sUp_ne (by omega)]; assumption) | (rw [sUp_ne (by omega), sUp_ne (by omega)]; assumption) | (rw [sUp_ne (by omega)]; exact sUp_eq) | (rw [gSet_ne (by omega) (by omega)]; first | assumption | exact sUp_eq | (rw [sUp_ne (by omega)]; assumption) | (rw [sUp_ne (by omega), sUp_ne (by omega)]; assumption)) | (rw [sUp_ne (by omega), sUp_ne (by omega), sUp_ne (by omega)]; assumption) | (simp [sUp]; done)) rfl (Nat.le_of_ble_eq_true rfl) (by decide) ⟨by decide, by decide⟩ rfl ?_
                                rintro h12 ⟨C12, F12⟩
                                have c12 := C12.1
                                refine e_istore_4 (p' := 216) D_Law_cycles_214 (Nat.le_of_ble_eq_true rfl) rfl rfl ?_
                                refine e_iload_3 (p' := 217) D_Law_cycles_216 rfl ?_
                                refine e_ifN_eq (q := 264) (p' := 220) D_Law_cycles_217 (by omega) rfl rfl (fun hc217 => ?_) (fun hc217 => ?_)
                                ·
                                  first | exact absurd rfl hc217 | exact hc217 rfl | (exfalso; omega) | exact absurd hc217 (by decide) | exact absurd hc217 (by simp [*])
                                ·
                                  refine e_aload_0 (p' := 221) D_Law_cycles_220 rfl ?_
                                  refine e_iconst (v := nI 3) (p' := 222) D_Law_cycles_221 cst_iconst_3 rfl ?_
                                  refine y_callV1 (p' := 225) D_Law_cycles_222 V_Law_26 (k_cnt3 C12 hS) rfl (by first | assumption | exact sUp_eq | (rw [sUp_ne (by omega)]; assumption) | (rw [sUp_ne (by omega), sUp_ne (by omega)]; assumption) | (rw [sUp_ne (by omega)]; exact sUp_eq) | (rw [gSet_ne (by omega) (by omega)]; first | assumption | exact sUp_eq | (rw [sUp_ne (by omega)]; assumption) | (rw [sUp_ne (by omega), sUp_ne (by omega)]; assumption)) | (rw [sUp_ne (by omega), sUp_ne (by omega), sUp_ne (by omega)]; assumption) | (simp [sUp]; done)) rfl (Nat.le_of_ble_eq_true rfl) (by decide) ⟨by decide, by decide⟩ rfl ?_
                                  rintro h13 ⟨C13, F13⟩
                                  have c13 := C13.1
                                  have ht36 := told_36 hx
                                  refine e_ifN_ne (q := 236) (p' := 228) D_Law_cycles_225 (by omega) rfl rfl (fun hc225 => ?_) (fun hc225 => ?_)
                                  ·
                                    refine e_aload_0 (p' := 237) D_Law_cycles_236 rfl ?_
                                    refine e_bipush (v := nI 8) (p' := 239) D_Law_cycles_237 cst_bipush_8 rfl ?_
                                    refine y_callV1 (p' := 242) D_Law_cycles_239 V_Law_26 (k_cnt8 C13 hS) rfl (by first | assumption | exact sUp_eq | (rw [sUp_ne (by omega)]; assumption) | (rw [sUp_ne (by omega), sUp_ne (by omega)]; assumption) | (rw [sUp_ne (by omega)]; exact sUp_eq) | (rw [gSet_ne (by omega) (by omega)]; first | assumption | exact sUp_eq | (rw [sUp_ne (by omega)]; assumption) | (rw [sUp_ne (by omega), sUp_ne (by omega)]; assumption)) | (rw [sUp_ne (by omega), sUp_ne (by omega), sUp_ne (by omega)]; assumption) | (simp [sUp]; done)) rfl (Nat.le_of_ble_eq_true rfl) (by decide) ⟨by decide, by decide⟩ rfl ?_
                                    rintro h14 ⟨C14, F14⟩
                                    have c14 := C14.1
                                    have hm8 := mAll_lt hx (b := true)
                                    refine e_ifN_ne (q := 254) (p' := 245) D_Law_cycles_242 (by omega) rfl rfl (fun hc242 => ?_) (fun hc242 => ?_)
                                    ·
                                      refine e_iload_4 (p' := 256) D_Law_cycles_254 rfl ?_
                                      refine e_iconst (v := nI 2) (p' := 257) D_Law_cycles_256 cst_iconst_2 rfl ?_
                                      refine e_icmpN_lt (q := 264) (p' := 260) D_Law_cycles_257 (by omega) (by omega) rfl rfl (fun hc257 => ?_) (fun hc257 => ?_)
                                      ·
                                        exact absurd (rank_2 hx (by omega)) (by omega)
                                      ·
                                        refine e_iconst (v := nI 1) (p' := 261) D_Law_cycles_260 cst_iconst_1 rfl ?_
                                        refine e_goto (p' := 265) D_Law_cycles_261 rfl ?_
                                        refine e_ireturn (ty := .boolean) D_Law_cycles_265 rfl (by first | rfl | exact sBo_nar _) ⟨by decide, by decide⟩ ?_
                                        exact ⟨rfl, C14⟩
                                    ·
                                      refine e_iload_4 (p' := 247) D_Law_cycles_245 rfl ?_
                                      refine e_iconst (v := nI 1) (p' := 248) D_Law_cycles_247 cst_iconst_1 rfl ?_
                                      refine e_icmp_ne (q := 264) (p' := 251) D_Law_cycles_248 rfl rfl (fun hc248 => ?_) (fun hc248 => ?_)
                                      ·
                                        exact absurd (congrArg nI (rank_1 hx (by omega) (by omega))) hc248
                                      ·
                                        refine e_goto (p' := 260) D_Law_cycles_251 rfl ?_
                                        refine e_iconst (v := nI 1) (p' := 261) D_Law_cycles_260 cst_iconst_1 rfl ?_
                                        refine e_goto (p' := 265) D_Law_cycles_261 rfl ?_
                                        refine e_ireturn (ty := .boolean) D_Law_cycles_265 rfl (by first | rfl | exact sBo_nar _) ⟨by decide, by decide⟩ ?_
                                        exact ⟨rfl, C14⟩
                                  ·
                                    refine e_iload_4 (p' := 230) D_Law_cycles_228 rfl ?_
                                    refine e_ifN_ne (q := 264) (p' := 233) D_Law_cycles_230 (by omega) rfl rfl (fun hc230 => ?_) (fun hc230 => ?_)
                                    ·
                                      exact absurd (rank_0 hx (by omega)) hc230
                                    ·
                                      refine e_goto (p' := 260) D_Law_cycles_233 rfl ?_
                                      refine e_iconst (v := nI 1) (p' := 261) D_Law_cycles_260 cst_iconst_1 rfl ?_
                                      refine e_goto (p' := 265) D_Law_cycles_261 rfl ?_
                                      refine e_ireturn (ty := .boolean) D_Law_cycles_265 rfl (by first | rfl | exact sBo_nar _) ⟨by decide, by decide⟩ ?_
                                      exact ⟨rfl, C13⟩
                    ·
                      first | exact absurd rfl hc148 | exact hc148 rfl | (exfalso; omega) | exact absurd hc148 (by decide) | exact absurd hc148 (by simp [*])
          ·
            exact absurd hc91 (by decide)
        ·
          first | exact absurd rfl hc77 | exact hc77 rfl | (exfalso; omega) | exact absurd hc77 (by decide) | exact absurd hc77 (by simp [*])
      ·
        exfalso; omega
    · intro i hi ih6 h1 CC
      have cc := CC.1
      refine e_iload_3 (p' := 7) D_Law_cycles_6 rfl ?_
      refine e_bipush (v := nI 12) (p' := 9) D_Law_cycles_7 cst_bipush_12 rfl ?_
      refine e_icmpN_gt (q := 76) (p' := 12) D_Law_cycles_9 (by omega) (by omega) rfl rfl (fun hc9 => ?_) (fun hc9 => ?_)
      ·
        exfalso; omega
      ·
        refine e_aload_0 (p' := 13) D_Law_cycles_12 rfl ?_
        refine e_iload_3 (p' := 14) D_Law_cycles_13 rfl ?_
        refine e_iconst (v := nI 1) (p' := 15) D_Law_cycles_14 cst_iconst_1 rfl ?_
        have hle := cyc_le hx (k := i + 2) (by omega)
        have hlt := cyc_lt hx (k := i + 2) (by omega) (by omega)
        have hs := sh_le (x := st.1) i
        have hwi := wc_le (x := st.1) i
        refine y_callV1 (p' := 18) D_Law_cycles_15 V_Law_76 (k_cyc CC hS (k := i + 2) (by omega) (w := 1) (by omega)) rfl (by first | assumption | exact sUp_eq | (rw [sUp_ne (by omega)]; assumption) | (rw [sUp_ne (by omega), sUp_ne (by omega)]; assumption) | (rw [sUp_ne (by omega)]; exact sUp_eq) | (rw [gSet_ne (by omega) (by omega)]; first | assumption | exact sUp_eq | (rw [sUp_ne (by omega)]; assumption) | (rw [sUp_ne (by omega), sUp_ne (by omega)]; assumption)) | (rw [sUp_ne (by omega), sUp_ne (by omega), sUp_ne (by omega)]; assumption) | (simp [sUp]; done)) rfl (Nat.le_of_ble_eq_true rfl) (by decide) ⟨by decide, by decide⟩ rfl ?_
        rintro h2 ⟨C2, F2⟩
        have c2 := C2.1
        refine e_istore_4 (p' := 20) D_Law_cycles_18 (Nat.le_of_ble_eq_true rfl) rfl rfl ?_
        refine e_aload_0 (p' := 21) D_Law_cycles_20 rfl ?_
        refine e_iload_3 (p' := 22) D_Law_cycles_21 rfl ?_
        refine e_iconst (v := nI 0) (p' := 23) D_Law_cycles_22 cst_iconst_0 rfl ?_
        refine y_callV1 (p' := 26) D_Law_cycles_23 V_Law_76 (k_cyc C2 hS (k := i + 2) (by omega) (w := 0) (by omega)) rfl (by first | assumption | exact sUp_eq | (rw [sUp_ne (by omega)]; assumption) | (rw [sUp_ne (by omega), sUp_ne (by omega)]; assumption) | (rw [sUp_ne (by omega)]; exact sUp_eq) | (rw [gSet_ne (by omega) (by omega)]; first | assumption | exact sUp_eq | (rw [sUp_ne (by omega)]; assumption) | (rw [sUp_ne (by omega), sUp_ne (by omega)]; assumption)) | (rw [sUp_ne (by omega), sUp_ne (by omega), sUp_ne (by omega)]; assumption) | (simp [sUp]; done)) rfl (Nat.le_of_ble_eq_true rfl) (by decide) ⟨by decide, by decide⟩ rfl ?_
        rintro h3 ⟨C3, F3⟩
        have c3 := C3.1
        refine e_istore_5 (p' := 28) D_Law_cycles_26 (Nat.le_of_ble_eq_true rfl) rfl rfl ?_
        refine e_iload_4 (p' := 30) D_Law_cycles_28 rfl ?_
        refine e_ifN_lt (q := 40) (p' := 33) D_Law_cycles_30 (by omega) rfl rfl (fun hc30 => ?_) (fun hc30 => ?_)
        ·
          first | exact absurd rfl hc30 | exact hc30 rfl | (exfalso; omega) | exact absurd hc30 (by decide) | exact absurd hc30 (by simp [*])
        ·
          refine e_iload_4 (p' := 35) D_Law_cycles_33 rfl ?_
          refine e_iload_5 (p' := 37) D_Law_cycles_35 rfl ?_
          refine e_icmpN_le (q := 42) (p' := 40) D_Law_cycles_37 (by omega) (by omega) rfl rfl (fun hc37 => ?_) (fun hc37 => ?_)
          ·
            refine e_iload_4 (p' := 44) D_Law_cycles_42 rfl ?_
            refine e_ifN_le (q := 55) (p' := 47) D_Law_cycles_44 (by omega) rfl rfl (fun hc44 => ?_) (fun hc44 => ?_)
            ·
              refine e_iload_2 (p' := 56) D_Law_cycles_55 rfl ?_
              refine e_istore_2 (p' := 57) D_Law_cycles_56 (Nat.le_of_ble_eq_true rfl) rfl rfl ?_
              refine e_iload_1 (p' := 58) D_Law_cycles_57 rfl ?_
              refine e_iload_4 (p' := 60) D_Law_cycles_58 rfl ?_
              refine e_ifN_le (q := 67) (p' := 63) D_Law_cycles_60 (by omega) rfl rfl (fun hc60 => ?_) (fun hc60 => ?_)
              ·
                refine e_iconst (v := nI 0) (p' := 68) D_Law_cycles_67 cst_iconst_0 rfl ?_
                first | refine e_iaddN (p' := 69) D_Law_cycles_68 rfl ?_ | refine e_iadd (p' := 69) D_Law_cycles_68 rfl ?_
                refine e_istore_1 (p' := 70) D_Law_cycles_69 (Nat.le_of_ble_eq_true rfl) rfl rfl ?_
                first | refine e_iincN_3 (n := 2) (p' := 73) D_Law_cycles_70 (Nat.le_of_ble_eq_true rfl) rfl rfl ?_ | refine e_iinc_3 (p' := 73) D_Law_cycles_70 (Nat.le_of_ble_eq_true rfl) rfl rfl rfl ?_
                refine e_goto (p' := 6) D_Law_cycles_73 rfl ?_
                refine sEv.castW (ih6 h3 C3) ?_ ?_ ?_
                · exact ⟨rfl, by unfold wc; rw [sm_succ, if_neg (by omega)], by rw [sh, if_neg (by omega)], by rw [show 2 * (i + 2) + 2 = 2 * (i + 1 + 2) by omega], trivial⟩
                · rfl
                · first | rfl | (simp; done)
              ·
                refine e_iconst (v := nI 1) (p' := 64) D_Law_cycles_63 cst_iconst_1 rfl ?_
                refine e_goto (p' := 68) D_Law_cycles_64 rfl ?_
                first | refine e_iaddN (p' := 69) D_Law_cycles_68 rfl ?_ | refine e_iadd (p' := 69) D_Law_cycles_68 rfl ?_
                refine e_istore_1 (p' := 70) D_Law_cycles_69 (Nat.le_of_ble_eq_true rfl) rfl rfl ?_
                first | refine e_iincN_3 (n := 2) (p' := 73) D_Law_cycles_70 (Nat.le_of_ble_eq_true rfl) rfl rfl ?_ | refine e_iinc_3 (p' := 73) D_Law_cycles_70 (Nat.le_of_ble_eq_true rfl) rfl rfl rfl ?_
                refine e_goto (p' := 6) D_Law_cycles_73 rfl ?_
                refine sEv.castW (ih6 h3 C3) ?_ ?_ ?_
                · exact ⟨rfl, by unfold wc; rw [sm_succ, if_pos (by omega)], by rw [sh, if_neg (by omega)], by rw [show 2 * (i + 2) + 2 = 2 * (i + 1 + 2) by omega], trivial⟩
                · rfl
                · first | rfl | (simp; done)
            ·
              refine e_iload_2 (p' := 48) D_Law_cycles_47 rfl ?_
              refine e_ifN_ne (q := 55) (p' := 51) D_Law_cycles_48 (by omega) rfl rfl (fun hc48 => ?_) (fun hc48 => ?_)
              ·
                refine e_iload_2 (p' := 56) D_Law_cycles_55 rfl ?_
                refine e_istore_2 (p' := 57) D_Law_cycles_56 (Nat.le_of_ble_eq_true rfl) rfl rfl ?_
                refine e_iload_1 (p' := 58) D_Law_cycles_57 rfl ?_
                refine e_iload_4 (p' := 60) D_Law_cycles_58 rfl ?_
                refine e_ifN_le (q := 67) (p' := 63) D_Law_cycles_60 (by omega) rfl rfl (fun hc60 => ?_) (fun hc60 => ?_)
                ·
                  refine e_iconst (v := nI 0) (p' := 68) D_Law_cycles_67 cst_iconst_0 rfl ?_
                  first | refine e_iaddN (p' := 69) D_Law_cycles_68 rfl ?_ | refine e_iadd (p' := 69) D_Law_cycles_68 rfl ?_
                  refine e_istore_1 (p' := 70) D_Law_cycles_69 (Nat.le_of_ble_eq_true rfl) rfl rfl ?_
                  first | refine e_iincN_3 (n := 2) (p' := 73) D_Law_cycles_70 (Nat.le_of_ble_eq_true rfl) rfl rfl ?_ | refine e_iinc_3 (p' := 73) D_Law_cycles_70 (Nat.le_of_ble_eq_true rfl) rfl rfl rfl ?_
                  refine e_goto (p' := 6) D_Law_cycles_73 rfl ?_
                  refine sEv.castW (ih6 h3 C3) ?_ ?_ ?_
                  · exact ⟨rfl, by unfold wc; rw [sm_succ, if_neg (by omega)], by rw [sh, if_neg (by omega)], by rw [show 2 * (i + 2) + 2 = 2 * (i + 1 + 2) by omega], trivial⟩
                  · rfl
                  · first | rfl | (simp; done)
                ·
                  refine e_iconst (v := nI 1) (p' := 64) D_Law_cycles_63 cst_iconst_1 rfl ?_
                  refine e_goto (p' := 68) D_Law_cycles_64 rfl ?_
                  first | refine e_iaddN (p' := 69) D_Law_cycles_68 rfl ?_ | refine e_iadd (p' := 69) D_Law_cycles_68 rfl ?_
                  refine e_istore_1 (p' := 70) D_Law_cycles_69 (Nat.le_of_ble_eq_true rfl) rfl rfl ?_
                  first | refine e_iincN_3 (n := 2) (p' := 73) D_Law_cycles_70 (Nat.le_of_ble_eq_true rfl) rfl rfl ?_ | refine e_iinc_3 (p' := 73) D_Law_cycles_70 (Nat.le_of_ble_eq_true rfl) rfl rfl rfl ?_
                  refine e_goto (p' := 6) D_Law_cycles_73 rfl ?_
                  refine sEv.castW (ih6 h3 C3) ?_ ?_ ?_
                  · exact ⟨rfl, by unfold wc; rw [sm_succ, if_pos (by omega)], by rw [sh, if_neg (by omega)], by rw [show 2 * (i + 2) + 2 = 2 * (i + 1 + 2) by omega], trivial⟩
                  · rfl
                  · first | rfl | (simp; done)
              ·
                refine e_iload_3 (p' := 52) D_Law_cycles_51 rfl ?_
                refine e_goto (p' := 56) D_Law_cycles_52 rfl ?_
                refine e_istore_2 (p' := 57) D_Law_cycles_56 (Nat.le_of_ble_eq_true rfl) rfl rfl ?_
                refine e_iload_1 (p' := 58) D_Law_cycles_57 rfl ?_
                refine e_iload_4 (p' := 60) D_Law_cycles_58 rfl ?_
                refine e_ifN_le (q := 67) (p' := 63) D_Law_cycles_60 (by omega) rfl rfl (fun hc60 => ?_) (fun hc60 => ?_)
                ·
                  refine e_iconst (v := nI 0) (p' := 68) D_Law_cycles_67 cst_iconst_0 rfl ?_
                  first | refine e_iaddN (p' := 69) D_Law_cycles_68 rfl ?_ | refine e_iadd (p' := 69) D_Law_cycles_68 rfl ?_
                  refine e_istore_1 (p' := 70) D_Law_cycles_69 (Nat.le_of_ble_eq_true rfl) rfl rfl ?_
                  first | refine e_iincN_3 (n := 2) (p' := 73) D_Law_cycles_70 (Nat.le_of_ble_eq_true rfl) rfl rfl ?_ | refine e_iinc_3 (p' := 73) D_Law_cycles_70 (Nat.le_of_ble_eq_true rfl) rfl rfl rfl ?_
                  refine e_goto (p' := 6) D_Law_cycles_73 rfl ?_
                  refine sEv.castW (ih6 h3 C3) ?_ ?_ ?_
                  · exact ⟨rfl, by unfold wc; rw [sm_succ, if_neg (by omega)], by rw [sh, if_pos (by omega)], by rw [show 2 * (i + 2) + 2 = 2 * (i + 1 + 2) by omega], trivial⟩
                  · rfl
                  · first | rfl | (simp; done)
                ·
                  refine e_iconst (v := nI 1) (p' := 64) D_Law_cycles_63 cst_iconst_1 rfl ?_
                  refine e_goto (p' := 68) D_Law_cycles_64 rfl ?_
                  first | refine e_iaddN (p' := 69) D_Law_cycles_68 rfl ?_ | refine e_iadd (p' := 69) D_Law_cycles_68 rfl ?_
                  refine e_istore_1 (p' := 70) D_Law_cycles_69 (Nat.le_of_ble_eq_true rfl) rfl rfl ?_
                  first | refine e_iincN_3 (n := 2) (p' := 73) D_Law_cycles_70 (Nat.le_of_ble_eq_true rfl) rfl rfl ?_ | refine e_iinc_3 (p' := 73) D_Law_cycles_70 (Nat.le_of_ble_eq_true rfl) rfl rfl rfl ?_
                  refine e_goto (p' := 6) D_Law_cycles_73 rfl ?_
                  refine sEv.castW (ih6 h3 C3) ?_ ?_ ?_
                  · exact ⟨rfl, by unfold wc; rw [sm_succ, if_pos (by omega)], by rw [sh, if_pos (by omega)], by rw [show 2 * (i + 2) + 2 = 2 * (i + 1 + 2) by omega], trivial⟩
                  · rfl
                  · first | rfl | (simp; done)
          ·
            exfalso; omega
  refine sEv.castW (lk6 0 (by omega) h hC) ?_ ?_ ?_
  · exact ⟨rfl, rfl, rfl, rfl, trivial⟩
  · rfl
  · first | rfl | (simp; done)
theorem c_Law_cycles {l : Launch} {h : sH} {st : St} (hC : CInv h st) (hS : StOk st) : sY l m_Law_cycles 15 [.ref 0] h (some (.int (nI 1))) (fun h1 => CInv h1 st) := by
  cases hw : wellX st.1 with
  | true => exact c_Law_cyclesW hC hS hw
  | false => exact c_Law_cyclesN hC hS hw
