/-! ===== contracts: Rings, search ===== -/
/-- the rings as they stand between calls -/
def RgS (h : sH) : Prop := ∃ (x : Gd) (k home gr : Nat) (a : Ac) (W : Wf) (rt : Nat → Nat), Gok x ∧ RgAt h x k home gr a W rt ∧ ∀ i, i < 13 → i ≠ 1 → W 0 i = 0
/-- all ways round, from each row as the first -/
def Tot (x : Gd) (gr k : Nat) (φ : Ph) : Nat := sm x.1.1 (fun home => Gw x gr home φ (k - 1) home (2 ^ home) 0 1)
theorem shl1 : ∀ r, r < 6 → nI 1 <<< (nI r &&& 31) = nI (2 ^ r) := by decide +kernel
theorem pow6 : ∀ r, r < 6 → 2 ^ r < 64 := by decide +kernel
theorem Ls_start {gr : Nat} (hg : 1 ≤ gr) (hg2 : gr ≤ 12) {W : Wf} (h1 : W 0 1 = 1) (h0 : ∀ i, i < 13 → i ≠ 1 → W 0 i = 0) {ψ : Nat → Nat → Nat} : Ls 0 gr W ψ = ψ 0 1 := by
  unfold Ls
  rw [← sm_pick' (n := 64) (k := 0) (f := fun _ => ψ 0 1) (by omega)]
  refine sm_congr fun S hS => ?_
  by_cases e : S = 0
  · subst e
    rw [if_pos (by decide), if_pos rfl, ← sm_pick' (n := gr + 1) (k := 1) (f := fun _ => ψ 0 1) (by omega)]
    refine sm_congr fun i hi => ?_
    by_cases e1 : i = 1
    · subst e1
      rw [if_neg (by omega), if_pos rfl, h1, Nat.one_mul]
    · rw [if_neg e1]
      by_cases e0 : i = 0
      · exact if_pos e0
      · rw [if_neg e0, h0 i (by omega) e1, Nat.zero_mul]
  · rw [if_neg (fun z => e ((pc6_0 S hS).mp z)), if_neg e]
theorem pow30 {n : Nat} (h : n < 6) : 30 ^ n ≤ 24300000 := Nat.pow_le_pow_right (by omega) (show n ≤ 5 by omega)
theorem AccIs.zero : AccIs (0, 0, 0, 0) (fun _ => 0) := ⟨rfl, rfl, fun _ _ _ => rfl, fun z => absurd rfl z⟩
def RgT (h : sH) (x : Gd) (k home gr : Nat) (a : Ac) (W : Wf) (rt : Nat → Nat) (r : Nat) : Prop := GridAt h 17 x ∧ ∃ tr arr rts, RgC h k home gr a tr arr rts ∧ (∀ r', r' < r → tr r' = nI (gMask x r')) ∧ (∀ S i, S < 64 → i < 13 → arr (13 * S + i) = nI (W S i)) ∧ ∀ c, c < 6 → rts c = nI (rt c)
theorem RgT.step {h : sH} {x : Gd} {k home gr r : Nat} {a : Ac} {W : Wf} {rt : Nat → Nat} {tr arr rts : Nat → Int32} (hG : GridAt h 17 x) (C : RgC h k home gr a tr arr rts) (V1 : ∀ r', r' < r → tr r' = nI (gMask x r')) (V2 : ∀ S i, S < 64 → i < 13 → arr (13 * S + i) = nI (W S i)) (V3 : ∀ c, c < 6 → rts c = nI (rt c)) :
    RgT (sUp h 21 (iA 6 (upd tr r (nI (gMask x r))))) x k home gr a W rt (r + 1) := by
  obtain ⟨c1, ⟨c2, c3⟩, ⟨c4, c5⟩, ⟨c6, c7⟩⟩ := C
  refine ⟨hG.kept (sUp_ne (by omega)) (sUp_ne (by omega)) (sUp_ne (by omega)), _, arr, rts, ⟨(sUp_ne (by omega)).trans c1, ⟨(sUp_ne (by omega)).trans c2, sUp_eq⟩, ⟨(sUp_ne (by omega)).trans c4, (sUp_ne (by omega)).trans c5⟩, ⟨(sUp_ne (by omega)).trans c6, (sUp_ne (by omega)).trans c7⟩⟩, fun r' hr' => ?_, V2, V3⟩
  by_cases e : r' = r
  · subst e; rw [upd_at]
  · rw [upd_off e]; exact V1 r' (by omega)
theorem RgC.way {h : sH} {k home gr : Nat} {a : Ac} {tr arr rts : Nat → Int32} {y : Nat → Int32} (C : RgC h k home gr a tr arr rts) : RgC (sUp h 23 (iA 832 y)) k home gr a tr y rts := by
  obtain ⟨c1, ⟨c2, c3⟩, ⟨c4, c5⟩, ⟨c6, c7⟩⟩ := C
  exact ⟨(sUp_ne (by omega)).trans c1, ⟨(sUp_ne (by omega)).trans c2, (sUp_ne (by omega)).trans c3⟩, ⟨(sUp_ne (by omega)).trans c4, sUp_eq⟩, ⟨(sUp_ne (by omega)).trans c6, (sUp_ne (by omega)).trans c7⟩⟩
theorem RgC.hd {h : sH} {k home gr k' home' gr' : Nat} {a a' : Ac} {tr arr rts : Nat → Int32} (C : RgC h k home gr a tr arr rts) : RgC (sUp h 16 (oC 6 [.ref 17, .ref 20, .ref 22, .ref 24, .int (nI k'), .int (nI home'), .int (nI gr'), .int (nI a'.1), .int (nI a'.2.1), .int (nI a'.2.2.1), .int (nI a'.2.2.2)])) k' home' gr' a' tr arr rts := by
  obtain ⟨c1, ⟨c2, c3⟩, ⟨c4, c5⟩, ⟨c6, c7⟩⟩ := C
  exact ⟨sUp_eq, ⟨(sUp_ne (by omega)).trans c2, (sUp_ne (by omega)).trans c3⟩, ⟨(sUp_ne (by omega)).trans c4, (sUp_ne (by omega)).trans c5⟩, ⟨(sUp_ne (by omega)).trans c6, (sUp_ne (by omega)).trans c7⟩⟩
def grOf (x : Gd) (b : Bool) : Nat := if b then x.1.2.2 - 1 else 1
theorem grOf_ok {x : Gd} (hx : Gok x) (b : Bool) : Gok2 x (grOf x b) := by
  have := hx.2.2.1.le
  unfold Gok2 grOf
  cases b
  · exact Or.inl rfl
  · right; show x.1.2.2 - 1 + 1 = _; omega
theorem way1 {arr : Nat → Int32} {W : Wf} (V : ∀ S i, S < 64 → i < 13 → arr (13 * S + i) = nI (W S i)) : ∀ S i, S < 64 → i < 13 → upd arr 1 (nI 1) (13 * S + i) = nI (wup W 0 1 1 S i) := by
  intro S i hS hi
  unfold wup
  by_cases e : S = 0 ∧ i = 1
  · obtain ⟨rfl, rfl⟩ := e
    rw [if_pos ⟨rfl, rfl⟩]; exact upd_at
  · rw [if_neg e, upd_off (by omega), V S i hS hi]
theorem Tot_le {x : Gd} (hx : Gok x) {gr k r : Nat} (hk : k ≤ 6) (h2 : 2 ≤ k) (hr : r ≤ 6) : sm r (fun home => Gw x gr home one (k - 1) home (2 ^ home) 0 1) ≤ r * 145800000 := by
  refine sm_le fun j _ => ?_
  have h1 := Gw_le hx (gr := gr) (home := j) (k - 1) j (2 ^ j) 0 1
  have h3 := pow30 (n := k - 1) (by omega)
  omega
set_option maxRecDepth 4000 in
theorem c_Rings_search {l : Launch} {h : sH} {x : Gd} (hG : GridAt h 1 x) (hx : Gok x) (hS : RgS h) {k : Nat} {b : Bool} (hk : 2 ≤ k) (hk6 : k ≤ 6) : sY l m_Rings_search 12 [.ref 16, .ref 1, .int (nI k), .int (sBo b)] h (none) (fun h1 => ∃ (home : Nat) (a' : Ac) (W' : Wf) (rt' : Nat → Nat), RgAt h1 x k home (grOf x b) a' W' rt' ∧ (∀ i, i < 13 → i ≠ 1 → W' 0 i = 0) ∧ AccOk a' ∧ AccIs a' (Tot x (grOf x b) k) ∧ a'.1 < 2 ^ 31 ∧ FrR h h1) := by
  have hR := hx.1
  have hM := hx.2.2.1.le
  obtain ⟨x0, k0, home0, gr0, a0, W0, rt0, hx0, ⟨hG0, tr, arr, rts, C, V1, V2, V3⟩, hW0⟩ := hS
  have hgr := grOf_ok hx b
  have hgl := hgr.le hx
  have C0 := C
  obtain ⟨c1, ⟨c2, c3⟩, ⟨c4, c5⟩, ⟨c6, c7⟩⟩ := C
  have hG0c := hG0
  obtain ⟨q0, q1, q2⟩ := hG0
  refine en_Rings_search ?_
  refine e_aload_0 (p' := 1) D_Rings_search_0 rfl ?_
  refine e_getfield (p' := 4) D_Rings_search_1 F_Rings_12 (by first | assumption | exact sUp_eq | (rw [sUp_ne (by omega)]; assumption) | (rw [sUp_ne (by omega), sUp_ne (by omega)]; assumption) | (rw [sUp_ne (by omega)]; exact sUp_eq) | (simp [sUp]; done)) (by rfl) rfl ?_
  refine e_aload_1 (p' := 5) D_Rings_search_4 rfl ?_
  refine x_callV0 (p' := 8) D_Rings_search_5 V_Rings_33 (c_Grid_copyFrom hG0c hx0 hG hx (by omega)) rfl (by first | assumption | exact sUp_eq | (rw [sUp_ne (by omega)]; assumption) | (rw [sUp_ne (by omega), sUp_ne (by omega)]; assumption) | (rw [sUp_ne (by omega)]; exact sUp_eq) | (simp [sUp]; done)) rfl (Nat.le_of_ble_eq_true rfl) (by decide) ⟨by decide, by decide⟩ rfl ?_
  have Cg : RgC (gSet h 17 x) k0 home0 gr0 a0 tr arr rts := by
    obtain ⟨c1, ⟨c2, c3⟩, ⟨c4, c5⟩, ⟨c6, c7⟩⟩ := C0
    exact ⟨(gSet_ne (by omega) (by omega)).trans c1, ⟨(gSet_ne (by omega) (by omega)).trans c2, (gSet_ne (by omega) (by omega)).trans c3⟩, ⟨(gSet_ne (by omega) (by omega)).trans c4, (gSet_ne (by omega) (by omega)).trans c5⟩, ⟨(gSet_ne (by omega) (by omega)).trans c6, (gSet_ne (by omega) (by omega)).trans c7⟩⟩
  have Cg16 := Cg.1
  have hFg0 : FrR h (gSet h 17 x) := fun q hq => gSet_ne (by omega) (by omega)
  have hG17 := (gSet_at (x := x) hG0c).1
  have jn34 : ∀ (h2 : sH), (GridAt h2 17 x ∧ RgC h2 k home0 (grOf x b) a0 tr arr rts ∧ FrR h h2) → sEv l m_Rings_search 12 (0, 0, 0, 0) (sKm 0 0 (fun r1 h1 => r1 = none ∧ (fun h1 => ∃ (home : Nat) (a' : Ac) (W' : Wf) (rt' : Nat → Nat), RgAt h1 x k home (grOf x b) a' W' rt' ∧ (∀ i, i < 13 → i ≠ 1 → W' 0 i = 0) ∧ AccOk a' ∧ AccIs a' (Tot x (grOf x b) k) ∧ a'.1 < 2 ^ 31 ∧ FrR h h1) h1)) 34 [some (.ref 16), some (.ref 1), none, none, none] [] h2 := by
    rintro h2 ⟨hG2, C2, hF2⟩
    have C2c := C2
    obtain ⟨c21, ⟨c22, c23⟩, ⟨c24, c25⟩, ⟨c26, c27⟩⟩ := C2
    have hG2c := hG2
    obtain ⟨q20, q21, q22⟩ := hG2
    refine e_aload_0 (p' := 35) D_Rings_search_34 rfl ?_
    refine e_iconst (v := nI 0) (p' := 36) D_Rings_search_35 cst_iconst_0 rfl ?_
    refine e_putfield (p' := 39) D_Rings_search_36 F_Rings_48 (Or.inl rfl) (by first | assumption | exact sUp_eq | (rw [sUp_ne (by omega)]; assumption) | (rw [sUp_ne (by omega), sUp_ne (by omega)]; assumption) | (rw [sUp_ne (by omega)]; exact sUp_eq) | (simp [sUp]; done)) (fun _ => ⟨rfl, rfl⟩) (Nat.le_of_ble_eq_true rfl) (by rfl) rfl ?_
    try dsimp only [List.set]
    refine e_aload_0 (p' := 40) D_Rings_search_39 rfl ?_
    refine e_iconst (v := nI 0) (p' := 41) D_Rings_search_40 cst_iconst_0 rfl ?_
    refine e_putfield (p' := 44) D_Rings_search_41 F_Rings_51 (Or.inl rfl) (by first | assumption | exact sUp_eq | (rw [sUp_ne (by omega)]; assumption) | (rw [sUp_ne (by omega), sUp_ne (by omega)]; assumption) | (rw [sUp_ne (by omega)]; exact sUp_eq) | (simp [sUp]; done)) (fun _ => ⟨rfl, rfl⟩) (Nat.le_of_ble_eq_true rfl) (by rfl) rfl ?_
    try dsimp only [List.set]
    rw [sUp_sUp]
    refine e_aload_0 (p' := 45) D_Rings_search_44 rfl ?_
    refine e_iconst (v := nI 0) (p' := 46) D_Rings_search_45 cst_iconst_0 rfl ?_
    refine e_putfield (p' := 49) D_Rings_search_46 F_Rings_54 (Or.inl rfl) (by first | assumption | exact sUp_eq | (rw [sUp_ne (by omega)]; assumption) | (rw [sUp_ne (by omega), sUp_ne (by omega)]; assumption) | (rw [sUp_ne (by omega)]; exact sUp_eq) | (simp [sUp]; done)) (fun _ => ⟨rfl, rfl⟩) (Nat.le_of_ble_eq_true rfl) (by rfl) rfl ?_
    try dsimp only [List.set]
    rw [sUp_sUp]
    refine e_aload_0 (p' := 50) D_Rings_search_49 rfl ?_
    refine e_iconst (v := nI 0) (p' := 51) D_Rings_search_50 cst_iconst_0 rfl ?_
    refine e_putfield (p' := 54) D_Rings_search_51 F_Rings_57 (Or.inl rfl) (by first | assumption | exact sUp_eq | (rw [sUp_ne (by omega)]; assumption) | (rw [sUp_ne (by omega), sUp_ne (by omega)]; assumption) | (rw [sUp_ne (by omega)]; exact sUp_eq) | (simp [sUp]; done)) (fun _ => ⟨rfl, rfl⟩) (Nat.le_of_ble_eq_true rfl) (by rfl) rfl ?_
    try dsimp only [List.set]
    rw [sUp_sUp]
    refine e_aload_0 (p' := 55) D_Rings_search_54 rfl ?_
    refine e_getfield (p' := 58) D_Rings_search_55 F_Rings_27 (by first | assumption | exact sUp_eq | (rw [sUp_ne (by omega)]; assumption) | (rw [sUp_ne (by omega), sUp_ne (by omega)]; assumption) | (rw [sUp_ne (by omega)]; exact sUp_eq) | (simp [sUp]; done)) (by rfl) rfl ?_
    refine e_iconst (v := nI 1) (p' := 59) D_Rings_search_58 cst_iconst_1 rfl ?_
    refine e_iconst (v := nI 1) (p' := 60) D_Rings_search_59 cst_iconst_1 rfl ?_
    refine x_callV0 (p' := 63) D_Rings_search_60 V_Rings_60 (c_Num_set (by first | assumption | exact sUp_eq | (rw [sUp_ne (by omega)]; assumption) | (rw [sUp_ne (by omega), sUp_ne (by omega)]; assumption) | (rw [sUp_ne (by omega)]; exact sUp_eq) | (simp [sUp]; done)) (by first | assumption | exact sUp_eq | (rw [sUp_ne (by omega)]; assumption) | (rw [sUp_ne (by omega), sUp_ne (by omega)]; assumption) | (rw [sUp_ne (by omega)]; exact sUp_eq) | (simp [sUp]; done)) (by omega) (by omega)) rfl (by first | assumption | exact sUp_eq | (rw [sUp_ne (by omega)]; assumption) | (rw [sUp_ne (by omega), sUp_ne (by omega)]; assumption) | (rw [sUp_ne (by omega)]; exact sUp_eq) | (simp [sUp]; done)) rfl (Nat.le_of_ble_eq_true rfl) (by decide) ⟨by decide, by decide⟩ rfl ?_
    refine e_iconst (v := nI 0) (p' := 64) D_Rings_search_63 cst_iconst_0 rfl ?_
    refine e_istore_4 (p' := 66) D_Rings_search_64 (Nat.le_of_ble_eq_true rfl) rfl rfl ?_
    have lk66 : ∀ r : Nat, r ≤ 6 → ∀ (h3 : sH), (RgT h3 x k home0 (grOf x b) (0, 0, 0, 0) (wup W0 0 1 1) rt0 r ∧ FrR h h3) → sEv l m_Rings_search 12 (0, 0, 0, 0) (sKm 0 0 (fun r1 h1 => r1 = none ∧ (fun h1 => ∃ (home : Nat) (a' : Ac) (W' : Wf) (rt' : Nat → Nat), RgAt h1 x k home (grOf x b) a' W' rt' ∧ (∀ i, i < 13 → i ≠ 1 → W' 0 i = 0) ∧ AccOk a' ∧ AccIs a' (Tot x (grOf x b) k) ∧ a'.1 < 2 ^ 31 ∧ FrR h h1) h1)) 66 [some (.ref 16), some (.ref 1), none, none, some (.int (nI r))] [] (h3) := by
      refine lp_up _ ?_ ?_
      · intro h3 hI
        obtain ⟨⟨hG3, tr3, arr3, rts3, D, U1, U2, U3⟩, hF3⟩ := hI
        have D0 := D
        obtain ⟨d1, ⟨d2, d3⟩, ⟨d4, d5⟩, ⟨d6, d7⟩⟩ := D
        have hG3c := hG3
        obtain ⟨q30, q31, q32⟩ := hG3
        refine e_iload_4 (p' := 68) D_Rings_search_66 rfl ?_
        refine e_bipush (v := nI 6) (p' := 70) D_Rings_search_68 cst_bipush_6 rfl ?_
        first | refine e_icmpN_ge (q := 97) (p' := 73) D_Rings_search_70 (by omega) (by omega) rfl rfl (fun hc70 => ?_) (fun hc70 => ?_) | refine e_icmp_ge (q := 97) (p' := 73) D_Rings_search_70 rfl rfl (fun hc70 => ?_) (fun hc70 => ?_)
        ·
          refine e_iconst (v := nI 0) (p' := 98) D_Rings_search_97 cst_iconst_0 rfl ?_
          refine e_istore_4 (p' := 100) D_Rings_search_98 (Nat.le_of_ble_eq_true rfl) rfl rfl ?_
          have lk100 : ∀ r : Nat, r ≤ x.1.1 → ∀ (h4 : sH) (hm : Nat) (a1 : Ac) (W1 : Wf) (rt1 : Nat → Nat), (RgAt h4 x k hm (grOf x b) a1 W1 rt1 ∧ W1 0 1 = 1 ∧ (∀ i, i < 13 → i ≠ 1 → W1 0 i = 0) ∧ AccOk a1 ∧ AccIs a1 (fun φ => sm r (fun home => Gw x (grOf x b) home φ (k - 1) home (2 ^ home) 0 1)) ∧ FrR h h4) → sEv l m_Rings_search 12 (0, 0, 0, 0) (sKm 0 0 (fun r1 h1 => r1 = none ∧ (fun h1 => ∃ (home : Nat) (a' : Ac) (W' : Wf) (rt' : Nat → Nat), RgAt h1 x k home (grOf x b) a' W' rt' ∧ (∀ i, i < 13 → i ≠ 1 → W' 0 i = 0) ∧ AccOk a' ∧ AccIs a' (Tot x (grOf x b) k) ∧ a'.1 < 2 ^ 31 ∧ FrR h h1) h1)) 100 [some (.ref 16), some (.ref 1), none, none, some (.int (nI r))] [] (h4) := by
            refine lp_up _ ?_ ?_
            · intro h4 hm a1 W1 rt1 hI
              obtain ⟨hI0, hW1, hW1z, hA1, hAc, hF4⟩ := hI
              have q164 := hI0.c16
              have q174 := hI0.1.1
              refine e_iload_4 (p' := 102) D_Rings_search_100 rfl ?_
              refine e_aload_0 (p' := 103) D_Rings_search_102 rfl ?_
              refine e_getfield (p' := 106) D_Rings_search_103 F_Rings_12 (by first | assumption | exact sUp_eq | (rw [sUp_ne (by omega)]; assumption) | (rw [sUp_ne (by omega), sUp_ne (by omega)]; assumption) | (rw [sUp_ne (by omega)]; exact sUp_eq) | (simp [sUp]; done)) (by rfl) rfl ?_
              refine x_callV1 (p' := 109) D_Rings_search_106 V_Rings_67 (c_Grid_rows hI0.1) rfl (by first | assumption | exact sUp_eq | (rw [sUp_ne (by omega)]; assumption) | (rw [sUp_ne (by omega), sUp_ne (by omega)]; assumption) | (rw [sUp_ne (by omega)]; exact sUp_eq) | (simp [sUp]; done)) rfl (Nat.le_of_ble_eq_true rfl) (by decide) ⟨by decide, by decide⟩ rfl ?_
              first | refine e_icmpN_ge (q := 135) (p' := 112) D_Rings_search_109 (by omega) (by omega) rfl rfl (fun hc109 => ?_) (fun hc109 => ?_) | refine e_icmp_ge (q := 135) (p' := 112) D_Rings_search_109 rfl rfl (fun hc109 => ?_) (fun hc109 => ?_)
              ·
                refine e_return D_Rings_search_135 rfl ⟨by decide, by decide⟩ ?_
                have hts := Tot_le hx (gr := grOf x b) hk6 hk (r := x.1.1) (by omega)
                have ha1 := hAc.1
                dsimp only at ha1
                exact ⟨rfl, hm, a1, W1, rt1, hI0, hW1z, hA1, hAc, by omega, hF4⟩
              ·
                exfalso; omega
            · intro r hr ih100 h4 hm a1 W1 rt1 hI
              obtain ⟨hI0, hW1, hW1z, hA1, hAc, hF4⟩ := hI
              have q164 := hI0.c16
              have q174 := hI0.1.1
              refine e_iload_4 (p' := 102) D_Rings_search_100 rfl ?_
              refine e_aload_0 (p' := 103) D_Rings_search_102 rfl ?_
              refine e_getfield (p' := 106) D_Rings_search_103 F_Rings_12 (by first | assumption | exact sUp_eq | (rw [sUp_ne (by omega)]; assumption) | (rw [sUp_ne (by omega), sUp_ne (by omega)]; assumption) | (rw [sUp_ne (by omega)]; exact sUp_eq) | (simp [sUp]; done)) (by rfl) rfl ?_
              refine x_callV1 (p' := 109) D_Rings_search_106 V_Rings_67 (c_Grid_rows hI0.1) rfl (by first | assumption | exact sUp_eq | (rw [sUp_ne (by omega)]; assumption) | (rw [sUp_ne (by omega), sUp_ne (by omega)]; assumption) | (rw [sUp_ne (by omega)]; exact sUp_eq) | (simp [sUp]; done)) rfl (Nat.le_of_ble_eq_true rfl) (by decide) ⟨by decide, by decide⟩ rfl ?_
              first | refine e_icmpN_ge (q := 135) (p' := 112) D_Rings_search_109 (by omega) (by omega) rfl rfl (fun hc109 => ?_) (fun hc109 => ?_) | refine e_icmp_ge (q := 135) (p' := 112) D_Rings_search_109 rfl rfl (fun hc109 => ?_) (fun hc109 => ?_)
              ·
                exfalso; omega
              ·
                refine e_aload_0 (p' := 113) D_Rings_search_112 rfl ?_
                refine e_iload_4 (p' := 115) D_Rings_search_113 rfl ?_
                refine e_putfield (p' := 118) D_Rings_search_115 F_Rings_70 (Or.inl rfl) (by first | assumption | exact sUp_eq | (rw [sUp_ne (by omega)]; assumption) | (rw [sUp_ne (by omega), sUp_ne (by omega)]; assumption) | (rw [sUp_ne (by omega)]; exact sUp_eq) | (simp [sUp]; done)) (fun _ => ⟨rfl, rfl⟩) (Nat.le_of_ble_eq_true rfl) (by rfl) rfl ?_
                try dsimp only [List.set]
                have hI1 := RgAt.head (k' := k) (home' := r) (gr' := grOf x b) (a' := a1) hI0
                refine e_aload_0 (p' := 119) D_Rings_search_118 rfl ?_
                refine e_iconst (v := nI 1) (p' := 120) D_Rings_search_119 cst_iconst_1 rfl ?_
                refine e_iload_4 (p' := 122) D_Rings_search_120 rfl ?_
                refine e_iconst (v := nI 1) (p' := 123) D_Rings_search_122 cst_iconst_1 rfl ?_
                refine e_iload_4 (p' := 125) D_Rings_search_123 rfl ?_
                refine e_ishl (p' := 126) D_Rings_search_125 rfl ?_
                rw [shl1 r (by omega)]
                have hgw := Gw_le hx (gr := grOf x b) (home := r) (k - 1) r (2 ^ r) 0 1
                have hp30 := pow30 (n := k - 1) (by omega)
                have hts := Tot_le hx (gr := grOf x b) hk6 hk (r := r) (by omega)
                have ha1 := hAc.1
                dsimp only at ha1
                refine y_callS0 (p' := 129) D_Rings_search_126 S_Rings_73 (c_Rings_walk hx hgr hk6 (home := r) (by omega) (k - 1) _ _ _ _ 0 r (2 ^ r) _ hI1 (by omega) (by omega) (pow6 r (by omega)) hA1 hAc (by rw [Ls_start hgl.1 hgl.2 hW1 hW1z]; omega) (by rw [Ls_start hgl.1 hgl.2 hW1 hW1z]; exact Nat.le_refl _)) rfl rfl (Nat.le_of_ble_eq_true rfl) (by omega) ⟨by decide, by decide⟩ rfl ?_
                rintro h3 ⟨a3, W3, rt3, hP3, hA3, hk3, hAc3, hF3⟩
                first | refine e_iincN_4 (n := 1) (p' := 132) D_Rings_search_129 (Nat.le_of_ble_eq_true rfl) rfl rfl ?_ | refine e_iinc_4 (p' := 132) D_Rings_search_129 (Nat.le_of_ble_eq_true rfl) rfl rfl rfl ?_
                refine e_goto (p' := 100) D_Rings_search_132 rfl ?_
                refine sEv.castW (ih100 h3 r a3 W3 rt3 ⟨hP3, (hk3 0 1 (by omega) (by decide)).trans hW1, fun i hi h1 => (hk3 0 i (by omega) (by decide)).trans (hW1z i hi h1), hA3, hAc3.congr (fun φ => by rw [Ls_start hgl.1 hgl.2 hW1 hW1z]; rfl), (hF4.up (by omega) (by omega)).tr hF3⟩) ?_ ?_ ?_
                · first | exact lvW_rfl _ | (simp [lvW]; done) | (simp [lvW, *]; done) | (simp [lvW]; omega)
                · rfl
                · first | rfl | (simp; done)
          refine sEv.castW (lk100 0 (by omega) h3 home0 (0, 0, 0, 0) (wup W0 0 1 1) rt0 ⟨⟨hG3c, tr3, arr3, rts3, D0, U1, U2, U3⟩, rfl, fun i hi h1 => by unfold wup; rw [if_neg (fun z => h1 z.2)]; exact hW0 i hi h1, ⟨Nat.le_refl _, by decide, by decide⟩, AccIs.zero, hF3⟩) ?_ ?_ ?_
          · first | exact lvW_rfl _ | (simp [lvW]; done) | (simp [lvW, *]; done) | (simp [lvW]; omega)
          · rfl
          · first | rfl | (simp; done)
        ·
          exfalso; omega
      · intro r hr ih66 h3 hI
        obtain ⟨⟨hG3, tr3, arr3, rts3, D, U1, U2, U3⟩, hF3⟩ := hI
        have D0 := D
        obtain ⟨d1, ⟨d2, d3⟩, ⟨d4, d5⟩, ⟨d6, d7⟩⟩ := D
        have hG3c := hG3
        obtain ⟨q30, q31, q32⟩ := hG3
        refine e_iload_4 (p' := 68) D_Rings_search_66 rfl ?_
        refine e_bipush (v := nI 6) (p' := 70) D_Rings_search_68 cst_bipush_6 rfl ?_
        first | refine e_icmpN_ge (q := 97) (p' := 73) D_Rings_search_70 (by omega) (by omega) rfl rfl (fun hc70 => ?_) (fun hc70 => ?_) | refine e_icmp_ge (q := 97) (p' := 73) D_Rings_search_70 rfl rfl (fun hc70 => ?_) (fun hc70 => ?_)
        ·
          exfalso; omega
        ·
          refine e_aload_0 (p' := 74) D_Rings_search_73 rfl ?_
          refine e_getfield (p' := 77) D_Rings_search_74 F_Rings_23 (by first | assumption | exact sUp_eq | (rw [sUp_ne (by omega)]; assumption) | (rw [sUp_ne (by omega), sUp_ne (by omega)]; assumption) | (rw [sUp_ne (by omega)]; exact sUp_eq) | (simp [sUp]; done)) (by rfl) rfl ?_
          refine e_iload_4 (p' := 79) D_Rings_search_77 rfl ?_
          refine e_aload_0 (p' := 80) D_Rings_search_79 rfl ?_
          refine e_getfield (p' := 83) D_Rings_search_80 F_Rings_12 (by first | assumption | exact sUp_eq | (rw [sUp_ne (by omega)]; assumption) | (rw [sUp_ne (by omega), sUp_ne (by omega)]; assumption) | (rw [sUp_ne (by omega)]; exact sUp_eq) | (simp [sUp]; done)) (by rfl) rfl ?_
          refine e_iload_4 (p' := 85) D_Rings_search_83 rfl ?_
          refine x_callV1 (p' := 88) D_Rings_search_85 V_Rings_64 (c_Grid_toldInRow hG3c hx (by omega)) rfl (by first | assumption | exact sUp_eq | (rw [sUp_ne (by omega)]; assumption) | (rw [sUp_ne (by omega), sUp_ne (by omega)]; assumption) | (rw [sUp_ne (by omega)]; exact sUp_eq) | (simp [sUp]; done)) rfl (Nat.le_of_ble_eq_true rfl) (by decide) ⟨by decide, by decide⟩ rfl ?_
          refine x_callV0 (p' := 91) D_Rings_search_88 V_Rings_60 (c_Num_set d2 d3 (by omega) (by omega)) rfl (by first | assumption | exact sUp_eq | (rw [sUp_ne (by omega)]; assumption) | (rw [sUp_ne (by omega), sUp_ne (by omega)]; assumption) | (rw [sUp_ne (by omega)]; exact sUp_eq) | (simp [sUp]; done)) rfl (Nat.le_of_ble_eq_true rfl) (by decide) ⟨by decide, by decide⟩ rfl ?_
          first | refine e_iincN_4 (n := 1) (p' := 94) D_Rings_search_91 (Nat.le_of_ble_eq_true rfl) rfl rfl ?_ | refine e_iinc_4 (p' := 94) D_Rings_search_91 (Nat.le_of_ble_eq_true rfl) rfl rfl rfl ?_
          refine e_goto (p' := 66) D_Rings_search_94 rfl ?_
          refine sEv.castW (ih66 _ ⟨RgT.step hG3c D0 U1 U2 U3, hF3.up (by omega) (by omega)⟩) ?_ ?_ ?_
          · first | exact lvW_rfl _ | (simp [lvW]; done) | (simp [lvW, *]; done) | (simp [lvW]; omega)
          · rfl
          · first | rfl | (simp; done)
    refine sEv.castW (lk66 0 (by omega) _ ⟨⟨(hG2c.kept (sUp_ne (by omega)) (sUp_ne (by omega)) (sUp_ne (by omega))).kept (sUp_ne (by omega)) (sUp_ne (by omega)) (sUp_ne (by omega)), tr, _, rts, RgC.way (RgC.hd (a' := (0, 0, 0, 0)) C2c), fun _ hh => absurd hh (by omega), way1 V2, V3⟩, (hF2.up (by omega) (by omega)).up (by omega) (by omega)⟩) ?_ ?_ ?_
    · first | exact lvW_rfl _ | (simp [lvW]; done) | (simp [lvW, *]; done) | (simp [lvW]; omega)
    · rfl
    · first | rfl | (simp; done)
  refine e_aload_0 (p' := 9) D_Rings_search_8 rfl ?_
  refine e_iload_2 (p' := 10) D_Rings_search_9 rfl ?_
  refine e_putfield (p' := 13) D_Rings_search_10 F_Rings_37 (Or.inl rfl) (by first | assumption | exact sUp_eq | (rw [sUp_ne (by omega)]; assumption) | (rw [sUp_ne (by omega), sUp_ne (by omega)]; assumption) | (rw [sUp_ne (by omega)]; exact sUp_eq) | (simp [sUp]; done)) (fun _ => ⟨rfl, rfl⟩) (Nat.le_of_ble_eq_true rfl) (by rfl) rfl ?_
  try dsimp only [List.set]
  refine e_aload_0 (p' := 14) D_Rings_search_13 rfl ?_
  refine e_iload_3 (p' := 15) D_Rings_search_14 rfl ?_
  refine e_ifB_eq (q := 30) (p' := 18) D_Rings_search_15 rfl rfl (fun hc15 => ?_) (fun hc15 => ?_)
  ·
    refine e_iconst (v := nI 1) (p' := 31) D_Rings_search_30 cst_iconst_1 rfl ?_
    refine e_putfield (p' := 34) D_Rings_search_31 F_Rings_45 (Or.inl rfl) (by first | assumption | exact sUp_eq | (rw [sUp_ne (by omega)]; assumption) | (rw [sUp_ne (by omega), sUp_ne (by omega)]; assumption) | (rw [sUp_ne (by omega)]; exact sUp_eq) | (simp [sUp]; done)) (fun _ => ⟨rfl, rfl⟩) (Nat.le_of_ble_eq_true rfl) (by rfl) rfl ?_
    try dsimp only [List.set]
    rw [sUp_sUp]
    refine sEv.castW (jn34 _ ⟨(gSet_at hG0c).kept (sUp_ne (by omega)) (sUp_ne (by omega)) (sUp_ne (by omega)), RgC.hd (a' := a0) Cg, hFg0.up (by omega) (by omega)⟩) ?_ ?_ ?_
    · first | exact lvW_rfl _ | (simp [lvW]; done) | (simp [lvW, *]; done) | (simp [lvW]; omega)
    · rfl
    · rw [show grOf x b = 1 from by rw [hc15]; rfl]
  ·
    refine e_aload_0 (p' := 19) D_Rings_search_18 rfl ?_
    refine e_getfield (p' := 22) D_Rings_search_19 F_Rings_12 (by first | assumption | exact sUp_eq | (rw [sUp_ne (by omega)]; assumption) | (rw [sUp_ne (by omega), sUp_ne (by omega)]; assumption) | (rw [sUp_ne (by omega)]; exact sUp_eq) | (simp [sUp]; done)) (by rfl) rfl ?_
    refine x_callV1 (p' := 25) D_Rings_search_22 V_Rings_41 (c_Grid_modulus ((gSet_at hG0c).kept (sUp_ne (by omega)) (sUp_ne (by omega)) (sUp_ne (by omega)))) rfl (by first | assumption | exact sUp_eq | (rw [sUp_ne (by omega)]; assumption) | (rw [sUp_ne (by omega), sUp_ne (by omega)]; assumption) | (rw [sUp_ne (by omega)]; exact sUp_eq) | (simp [sUp]; done)) rfl (Nat.le_of_ble_eq_true rfl) (by decide) ⟨by decide, by decide⟩ rfl ?_
    refine e_iconst (v := nI 1) (p' := 26) D_Rings_search_25 cst_iconst_1 rfl ?_
    first | refine e_isubN (p' := 27) D_Rings_search_26 (by omega) rfl ?_ | refine e_isub (p' := 27) D_Rings_search_26 rfl ?_
    refine e_goto (p' := 31) D_Rings_search_27 rfl ?_
    refine e_putfield (p' := 34) D_Rings_search_31 F_Rings_45 (Or.inl rfl) (by first | assumption | exact sUp_eq | (rw [sUp_ne (by omega)]; assumption) | (rw [sUp_ne (by omega), sUp_ne (by omega)]; assumption) | (rw [sUp_ne (by omega)]; exact sUp_eq) | (simp [sUp]; done)) (fun _ => ⟨rfl, rfl⟩) (Nat.le_of_ble_eq_true rfl) (by rfl) rfl ?_
    try dsimp only [List.set]
    rw [sUp_sUp]
    refine sEv.castW (jn34 _ ⟨(gSet_at hG0c).kept (sUp_ne (by omega)) (sUp_ne (by omega)) (sUp_ne (by omega)), RgC.hd (a' := a0) Cg, hFg0.up (by omega) (by omega)⟩) ?_ ?_ ?_
    · first | exact lvW_rfl _ | (simp [lvW]; done) | (simp [lvW, *]; done) | (simp [lvW]; omega)
    · rfl
    · rw [show grOf x b = x.1.2.2 - 1 from by rw [hc15]; rfl]
set_option maxRecDepth 4000 in
theorem c_Rings_all {l : Launch} {h : sH} {x : Gd} {k home gr : Nat} {a : Ac} {W : Wf} {rt : Nat → Nat} (hP : RgAt h x k home gr a W rt) (ha : a.1 < 2 ^ 31) (hA : AccOk a) : sX l m_Rings_all 0 [.ref 16] h (some (.int (nI (a.1 / 2)))) (h) := by
  have c1 := hP.c16
  obtain ⟨hA1, hA2, hA3⟩ := hA
  refine en_Rings_all ?_
  refine e_aload_0 (p' := 1) D_Rings_all_0 rfl ?_
  refine e_getfield (p' := 4) D_Rings_all_1 F_Rings_48 (by first | assumption | exact sUp_eq | (rw [sUp_ne (by omega)]; assumption) | (rw [sUp_ne (by omega), sUp_ne (by omega)]; assumption) | (rw [sUp_ne (by omega)]; exact sUp_eq) | (simp [sUp]; done)) (by rfl) rfl ?_
  refine e_iconst (v := nI 2) (p' := 5) D_Rings_all_4 cst_iconst_2 rfl ?_
  first | refine e_idivN (p' := 6) D_Rings_all_5 (by omega) (by omega) (by omega) rfl ?_ | refine e_idiv (p' := 6) D_Rings_all_5 (by assumption) rfl ?_
  refine e_ireturn (ty := .int) D_Rings_all_6 rfl (by first | rfl | exact sBo_nar _) ⟨by decide, by decide⟩ ?_
  exact ⟨by first | rfl | (simp; done) | (simp [*]; done), by first | rfl | (simp; done)⟩
set_option maxRecDepth 4000 in
theorem c_Rings_wrongOnes {l : Launch} {h : sH} {x : Gd} {k home gr : Nat} {a : Ac} {W : Wf} {rt : Nat → Nat} (hP : RgAt h x k home gr a W rt) (ha : a.1 < 2 ^ 31) (hA : AccOk a) : sX l m_Rings_wrongOnes 0 [.ref 16] h (some (.int (nI (a.2.1 / 2)))) (h) := by
  have c1 := hP.c16
  obtain ⟨hA1, hA2, hA3⟩ := hA
  refine en_Rings_wrongOnes ?_
  refine e_aload_0 (p' := 1) D_Rings_wrongOnes_0 rfl ?_
  refine e_getfield (p' := 4) D_Rings_wrongOnes_1 F_Rings_51 (by first | assumption | exact sUp_eq | (rw [sUp_ne (by omega)]; assumption) | (rw [sUp_ne (by omega), sUp_ne (by omega)]; assumption) | (rw [sUp_ne (by omega)]; exact sUp_eq) | (simp [sUp]; done)) (by rfl) rfl ?_
  refine e_iconst (v := nI 2) (p' := 5) D_Rings_wrongOnes_4 cst_iconst_2 rfl ?_
  first | refine e_idivN (p' := 6) D_Rings_wrongOnes_5 (by omega) (by omega) (by omega) rfl ?_ | refine e_idiv (p' := 6) D_Rings_wrongOnes_5 (by assumption) rfl ?_
  refine e_ireturn (ty := .int) D_Rings_wrongOnes_6 rfl (by first | rfl | exact sBo_nar _) ⟨by decide, by decide⟩ ?_
  exact ⟨by first | rfl | (simp; done) | (simp [*]; done), by first | rfl | (simp; done)⟩
set_option maxRecDepth 4000 in
theorem c_Rings_wrongRows {l : Launch} {h : sH} {x : Gd} {k home gr : Nat} {a : Ac} {W : Wf} {rt : Nat → Nat} (hP : RgAt h x k home gr a W rt) (ha : a.1 < 2 ^ 31) (hA : AccOk a) : sX l m_Rings_wrongRows 0 [.ref 16] h (some (.int (nI a.2.2.1))) (h) := by
  have c1 := hP.c16
  obtain ⟨hA1, hA2, hA3⟩ := hA
  refine en_Rings_wrongRows ?_
  refine e_aload_0 (p' := 1) D_Rings_wrongRows_0 rfl ?_
  refine e_getfield (p' := 4) D_Rings_wrongRows_1 F_Rings_54 (by first | assumption | exact sUp_eq | (rw [sUp_ne (by omega)]; assumption) | (rw [sUp_ne (by omega), sUp_ne (by omega)]; assumption) | (rw [sUp_ne (by omega)]; exact sUp_eq) | (simp [sUp]; done)) (by rfl) rfl ?_
  refine e_ireturn (ty := .int) D_Rings_wrongRows_4 rfl (by first | rfl | exact sBo_nar _) ⟨by decide, by decide⟩ ?_
  exact ⟨by first | rfl | (simp; done) | (simp [*]; done), by first | rfl | (simp; done)⟩
set_option maxRecDepth 4000 in
theorem c_Rings_wrongColumns {l : Launch} {h : sH} {x : Gd} {k home gr : Nat} {a : Ac} {W : Wf} {rt : Nat → Nat} (hP : RgAt h x k home gr a W rt) (ha : a.1 < 2 ^ 31) (hA : AccOk a) : sX l m_Rings_wrongColumns 0 [.ref 16] h (some (.int (nI a.2.2.2))) (h) := by
  have c1 := hP.c16
  obtain ⟨hA1, hA2, hA3⟩ := hA
  refine en_Rings_wrongColumns ?_
  refine e_aload_0 (p' := 1) D_Rings_wrongColumns_0 rfl ?_
  refine e_getfield (p' := 4) D_Rings_wrongColumns_1 F_Rings_57 (by first | assumption | exact sUp_eq | (rw [sUp_ne (by omega)]; assumption) | (rw [sUp_ne (by omega), sUp_ne (by omega)]; assumption) | (rw [sUp_ne (by omega)]; exact sUp_eq) | (simp [sUp]; done)) (by rfl) rfl ?_
  refine e_ireturn (ty := .int) D_Rings_wrongColumns_4 rfl (by first | rfl | exact sBo_nar _) ⟨by decide, by decide⟩ ?_
  exact ⟨by first | rfl | (simp; done) | (simp [*]; done), by first | rfl | (simp; done)⟩
